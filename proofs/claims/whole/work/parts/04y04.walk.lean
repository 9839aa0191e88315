set_option maxHeartbeats 4000000 in
set_option maxRecDepth 100000 in
theorem cM_taken (l : Launch) (D : va_G) (q : Nat → Nat) (cI cL : ClassId) (u : St) (p1 : Int32) (p2 : Int32) (p3 : Int32) (hok : okM_taken u p1 p2 p3) : Met l yX4_taken wsX4_taken { frames := 2, cells := 0, slots := 0, locals := 43 } (va_Pc [.ref (q 0), .int p1, .int p2, .int p3] (fun U => PM D q cI cL u U)) (vp_Si (fun r => r = sM_taken u p1 p2 p3)) 0 0 (fun _ => False) := by
  refine Met.ofW (cc := cX4_taken) (maxL := 4) (ret := (some .int)) (by decide) rfl ?_
  intro p e s m args below meth c s₁ B hml hv
  obtain ⟨rfl, hP, hK⟩ := hv
  have hx := B.exec
  have hb := B.bytes
  have hr := B.returns
  have hts := atoms_spec (ws := wsX4_taken) B.pre
  have hown : s.vm.findClass RX4 = some m.cls := findClass_of_methodNamed B.named
  have hlocks := B.notSynchronized
  have hiX4 : ∀ w ∈ u_ws RX4 TX4 29, w ∈ wsX4_taken := by decide +kernel
  have hf16 := hts (.fieldLink RX4 16 "ThingRulesModel" "size" "[I") (by decide +kernel)
  have hS : va_S (AQ 22 q) s.heap s.heap [] := va_S.rf
  have hP : va_P D vwCl (wM q cI cL u) s.heap := hP
  have hl := lv_entry ([.ref (q 0), .int p1, .int p2, .int p3]) (n := 4) (Nat.le_of_ble_eq_true rfl)
  rw [lg_entry_eq]
  generalize (lg_sl ([.ref (q 0), .int p1, .int p2, .int p3]) ++ List.replicate (4 - (lg_sl ([.ref (q 0), .int p1, .int p2, .int p3])).length) Slot.unset).toArray = ls at hl ⊢
  have hl : lv_has ls 4 [(0, .ref (q 0)), (1, .int p1), (2, .int p2), (3, .int p3)] := hl
  have hsp : sM_taken u p1 p2 p3 = _ := sM_taken.eq_1 u p1 p2 p3
  unfold okM_taken at hok
  refine lv_aload_n hx hb dX4_taken_0 rfl (lv_at hl 0 rfl) ?_
  refine lv_iload_n hx hb dX4_taken_1 rfl (lv_at hl 1 rfl) ?_
  refine lv_iload_n hx hb dX4_taken_2 rfl (lv_at hl 2 rfl) ?_
  have h_1 := hok.1
  have hok := hok.2
  refine vp_callSi (W.runV (As := [.int p1, .int p2]) (rest := []) ⟨hx, hb, hml, hown, hts⟩ (cM_passes l D q cI cL u p1 p2 h_1) (cwV 2 hts gX4_taken_X4_passes rfl rfl rfl (by decide +kernel) ⟨(Nat.le_of_ble_eq_true rfl), (Nat.le_of_ble_eq_true rfl)⟩) ⟨PM_blind, va_recv hK hP (ci := 7) (q0 := 0) rfl rfl, fun U hU hW => ⟨rfl, PM_fin hP hK hU hW⟩⟩ rfl rfl hl.1 rfl (lv_room (Nat.le_of_ble_eq_true rfl)) dX4_taken_3 ⟨(Nat.le_of_ble_eq_true rfl), (Nat.le_of_ble_eq_true rfl)⟩) (fun r_2 hr_2 => ?_)
  subst hr_2
  refine lv_if_ne (tgt := 14) hx hb dX4_taken_6 (by decide) (fun c_3 => ?_) (fun c_3 => ?_)
  · have hsp := hsp.trans (if_neg c_3)
    have hok := hok.2 c_3
    refine lv_iload_n hx hb dX4_taken_14 rfl (lv_at hl 1 rfl) ?_
    refine lv_if_ge (tgt := 23) hx hb dX4_taken_15 (by decide) (fun c_4 => ?_) (fun c_4 => ?_)
    · have hsp := hsp.trans (if_pos c_4)
      have hok := hok.1 c_4
      refine lv_iload_n hx hb dX4_taken_23 rfl (lv_at hl 3 rfl) ?_
      refine lv_iconst (v := 0) hx hb dX4_taken_24 (by decide) ?_
      refine lv_aload_n hx hb dX4_taken_25 rfl (lv_at hl 0 rfl) ?_
      refine va_get (D := D) (ci := 7) (v := .ref (q 3)) (C := RX4) (T := TX4) (N := 29) hx hb hts hiX4 hown hK hP 0 rfl rfl 4 (by decide) hf16 (fun _ h9 => h9) rfl dX4_taken_26 ?_
      refine lv_iload_n hx hb dX4_taken_29 rfl (lv_at hl 1 rfl) ?_
      have h_5 := hok.1
      have hok := hok.2
      refine va_iald hx hb hK hP 3 0 rfl rfl h_5 dX4_taken_30 ?_
      refine lv_iconst (v := 1) hx hb dX4_taken_31 (by decide) ?_
      refine lv_isub hx hb dX4_taken_32 ?_
      refine vp_callSi (W.runS (As := [.int p3, .int 0, .int ((u.2.1 3 p1.toNatClampNeg) - 1)]) (rest := []) ⟨hx, hb, hml, hown, hts⟩ (cM_in l p3 0 ((u.2.1 3 p1.toNatClampNeg) - 1)) (va_cwS 3 hts gX4_taken_X4_in rfl rfl rfl (by decide +kernel) ⟨(Nat.le_of_ble_eq_true rfl), (Nat.le_of_ble_eq_true rfl)⟩) ⟨T_blind, fun U hU hW => ⟨rfl, trivial⟩⟩ rfl rfl hl.1 rfl (lv_room (Nat.le_of_ble_eq_true rfl)) dX4_taken_33 ⟨(Nat.le_of_ble_eq_true rfl), (Nat.le_of_ble_eq_true rfl)⟩) (fun r_6 hr_6 => ?_)
      subst hr_6
      refine lv_if_eq (tgt := 43) hx hb dX4_taken_36 (by decide) (fun c_7 => ?_) (fun c_7 => ?_)
      · have hsp := hsp.trans (if_pos c_7)
        refine lv_bipush (v := (-23)) hx hb dX4_taken_43 (by decide) ?_
        exact W.iret (v := (-23)) hx hb hr (fun t ht hW => ⟨(-23), rfl, hsp.symm, ht⟩) (fun _ h => nomatch h) dX4_taken_45
      · have hsp := hsp.trans (if_neg c_7)
        refine lv_iconst (v := 0) hx hb dX4_taken_39 (by decide) ?_
        refine lv_goto (tgt := 45) hx hb dX4_taken_40 (by decide) ?_
        exact W.iret (v := 0) hx hb hr (fun t ht hW => ⟨0, rfl, hsp.symm, ht⟩) (fun _ h => nomatch h) dX4_taken_45
    · have hsp := hsp.trans (if_neg c_4)
      refine lv_bipush (v := (-22)) hx hb dX4_taken_18 (by decide) ?_
      refine lv_goto (tgt := 45) hx hb dX4_taken_20 (by decide) ?_
      exact W.iret (v := (-22)) hx hb hr (fun t ht hW => ⟨(-22), rfl, hsp.symm, ht⟩) (fun _ h => nomatch h) dX4_taken_45
  · have hsp := hsp.trans (if_pos c_3)
    refine lv_bipush (v := (-21)) hx hb dX4_taken_9 (by decide) ?_
    refine lv_goto (tgt := 45) hx hb dX4_taken_11 (by decide) ?_
    exact W.iret (v := (-21)) hx hb hr (fun t ht hW => ⟨(-21), rfl, hsp.symm, ht⟩) (fun _ h => nomatch h) dX4_taken_45
set_option maxHeartbeats 4000000 in
set_option maxRecDepth 100000 in
theorem cM_tells (l : Launch) (p0 : Int32) (p1 : Int32) : Met l yX4_tells wsX4_tells { frames := 0, cells := 0, slots := 0, locals := 0 } (va_Pc [.int p0, .int p1] (fun _ => True)) (vp_Si (fun r => r = sM_tells p0 p1)) 0 0 (fun _ => False) := by
  refine Met.ofW (cc := cX4_tells) (maxL := 2) (ret := (some .int)) (by decide) rfl ?_
  intro p e s m args below meth c s₁ B hml hv
  obtain ⟨rfl, -⟩ := hv
  have hx := B.exec
  have hb := B.bytes
  have hr := B.returns
  have hts := atoms_spec (ws := wsX4_tells) B.pre
  have hown : s.vm.findClass RX4 = some m.cls := findClass_of_methodNamed B.named
  have hlocks := B.notSynchronized
  have hl := lv_entry ([.int p0, .int p1]) (n := 2) (Nat.le_of_ble_eq_true rfl)
  rw [lg_entry_eq]
  generalize (lg_sl ([.int p0, .int p1]) ++ List.replicate (2 - (lg_sl ([.int p0, .int p1])).length) Slot.unset).toArray = ls at hl ⊢
  have hl : lv_has ls 2 [(0, .int p0), (1, .int p1)] := hl
  have hsp : sM_tells p0 p1 = _ := sM_tells.eq_1 p0 p1
  refine lv_iload_n hx hb dX4_tells_0 rfl (lv_at hl 0 rfl) ?_
  refine lv_iconst (v := 1) hx hb dX4_tells_1 (by decide) ?_
  refine lv_icmp_ne (tgt := 13) hx hb dX4_tells_2 (by decide) (fun c_1 => ?_) (fun c_1 => ?_)
  · have hsp := hsp.trans (if_neg c_1)
    refine lv_iload_n hx hb dX4_tells_13 rfl (lv_at hl 1 rfl) ?_
    exact W.iret (v := p1) hx hb hr (fun t ht hW => ⟨p1, rfl, hsp.symm, ht⟩) (fun _ h => nomatch h) dX4_tells_14
  · have hsp := hsp.trans (if_pos c_1)
    refine lv_iconst (v := 2) hx hb dX4_tells_5 (by decide) ?_
    refine lv_iload_n hx hb dX4_tells_6 rfl (lv_at hl 1 rfl) ?_
    refine lv_imul hx hb dX4_tells_7 ?_
    refine lv_iconst (v := 1) hx hb dX4_tells_8 (by decide) ?_
    refine lv_iadd hx hb dX4_tells_9 ?_
    refine lv_goto (tgt := 14) hx hb dX4_tells_10 (by decide) ?_
    exact W.iret (v := ((2 * p1) + 1)) hx hb hr (fun t ht hW => ⟨((2 * p1) + 1), rfl, hsp.symm, ht⟩) (fun _ h => nomatch h) dX4_tells_14
set_option maxHeartbeats 4000000 in
set_option maxRecDepth 100000 in
theorem cM_each (l : Launch) (D : va_G) (q : Nat → Nat) (cI cL : ClassId) (hq : DQ 22 q) (u : St) (p1 : Int32) (p2 : Int32) (p3 : Int32) (hok : okM_each u p1 p2 p3) : Met l yX4_each wsX4_each { frames := 2, cells := 0, slots := 0, locals := 45 } (va_Pc [.ref (q 0), .int p1, .int p2, .int p3] (fun U => PM D q cI cL u U)) (va_Qv (fun u' : St => u' = sM_each u p1 p2 p3) (fun u' t => PM D q cI cL u' t) (AQ 22 q)) 0 0 (AQ 22 q) := by
  refine Met.ofW (cc := cX4_each) (maxL := 4) (ret := none) (by decide) rfl ?_
  intro p e s m args below meth c s₁ B hml hv
  obtain ⟨rfl, hP, hK⟩ := hv
  have hx := B.exec
  have hb := B.bytes
  have hr := B.returns
  have hts := atoms_spec (ws := wsX4_each) B.pre
  have hown : s.vm.findClass RX4 = some m.cls := findClass_of_methodNamed B.named
  have hlocks := B.notSynchronized
  have hiX4 : ∀ w ∈ u_ws RX4 TX4 29, w ∈ wsX4_each := by decide +kernel
  have hf16 := hts (.fieldLink RX4 16 "ThingRulesModel" "size" "[I") (by decide +kernel)
  have hf32 := hts (.fieldLink RX4 32 "ThingRulesModel" "numB" "[I") (by decide +kernel)
  have hf23 := hts (.fieldLink RX4 23 "ThingRulesModel" "piece" "[I") (by decide +kernel)
  have hS : va_S (AQ 22 q) s.heap s.heap [] := va_S.rf
  have hP : va_P D vwCl (wM q cI cL u) s.heap := hP
  have hl := lv_entry ([.ref (q 0), .int p1, .int p2, .int p3]) (n := 4) (Nat.le_of_ble_eq_true rfl)
  rw [lg_entry_eq]
  generalize (lg_sl ([.ref (q 0), .int p1, .int p2, .int p3]) ++ List.replicate (4 - (lg_sl ([.ref (q 0), .int p1, .int p2, .int p3])).length) Slot.unset).toArray = ls at hl ⊢
  have hl : lv_has ls 4 [(0, .ref (q 0)), (1, .int p1), (2, .int p2), (3, .int p3)] := hl
  have hsp : sM_each u p1 p2 p3 = _ := sM_each.eq_1 u p1 p2 p3
  unfold okM_each at hok
  refine lv_iload_n hx hb dX4_each_0 rfl (lv_at hl 3 rfl) ?_
  refine lv_aload_n hx hb dX4_each_1 rfl (lv_at hl 0 rfl) ?_
  refine va_get (D := D) (ci := 7) (v := .ref (q 3)) (C := RX4) (T := TX4) (N := 29) hx hb hts hiX4 hown hK hP 0 rfl rfl 4 (by decide) hf16 (fun _ h9 => h9) rfl dX4_each_2 ?_
  refine lv_iload_n hx hb dX4_each_5 rfl (lv_at hl 2 rfl) ?_
  have h_1 := hok.1
  have hok := hok.2
  refine va_iald hx hb hK hP 3 0 rfl rfl h_1 dX4_each_6 ?_
  refine lv_icmp_ne (tgt := 18) hx hb dX4_each_7 (by decide) (fun c_2 => ?_) (fun c_2 => ?_)
  · have hsp := hsp.trans (if_neg c_2)
    have hok := hok.2 c_2
    refine lv_aload_n hx hb dX4_each_18 rfl (lv_at hl 0 rfl) ?_
    refine lv_aload_n hx hb dX4_each_19 rfl (lv_at hl 0 rfl) ?_
    refine va_get (D := D) (ci := 7) (v := .ref (q 8)) (C := RX4) (T := TX4) (N := 29) hx hb hts hiX4 hown hK hP 0 rfl rfl 10 (by decide) hf32 (fun _ h9 => h9) rfl dX4_each_20 ?_
    refine lv_iload_n hx hb dX4_each_23 rfl (lv_at hl 1 rfl) ?_
    have h_3 := hok.1
    have hok := hok.2
    refine va_iald hx hb hK hP 8 0 rfl rfl h_3 dX4_each_24 ?_
    refine lv_aload_n hx hb dX4_each_25 rfl (lv_at hl 0 rfl) ?_
    refine va_get (D := D) (ci := 7) (v := .ref (q 5)) (C := RX4) (T := TX4) (N := 29) hx hb hts hiX4 hown hK hP 0 rfl rfl 6 (by decide) hf23 (fun _ h9 => h9) rfl dX4_each_26 ?_
    refine lv_bipush (v := 6) hx hb dX4_each_29 (by decide) ?_
    refine lv_iload_n hx hb dX4_each_31 rfl (lv_at hl 2 rfl) ?_
    refine lv_imul hx hb dX4_each_32 ?_
    refine lv_iload_n hx hb dX4_each_33 rfl (lv_at hl 3 rfl) ?_
    refine lv_iadd hx hb dX4_each_34 ?_
    have h_4 := hok.1
    have hok := hok.2
    refine va_iald hx hb hK hP 5 0 rfl rfl h_4 dX4_each_35 ?_
    refine lv_bipush (v := 10) hx hb dX4_each_36 (by decide) ?_
    refine lv_iload_n hx hb dX4_each_38 rfl (lv_at hl 3 rfl) ?_
    refine lv_iadd hx hb dX4_each_39 ?_
    have h_5 := hok.1
    have hok := hok.2
    refine va_callv (va_runV (As := [.int (u.2.1 8 p1.toNatClampNeg), .int (u.2.1 5 ((6 * p2) + p3).toNatClampNeg), .int (10 + p3)]) (rest := []) ⟨hx, hb, hml, hown, hts⟩ (cM_asks l D q cI cL hq u (u.2.1 8 p1.toNatClampNeg) (u.2.1 5 ((6 * p2) + p3).toNatClampNeg) (10 + p3) h_5) (cwV 3 hts gX4_each_X4_asks rfl rfl rfl (by decide +kernel) ⟨(Nat.le_of_ble_eq_true rfl), (Nat.le_of_ble_eq_true rfl)⟩) ⟨PM_blind, va_recv hK hP (ci := 7) (q0 := 0) rfl rfl, fun U hU hW => ⟨rfl, PM_fin hP hK hU hW⟩⟩ rfl rfl hl.1 rfl (lv_room (Nat.le_of_ble_eq_true rfl)) dX4_each_40 ⟨(Nat.le_of_ble_eq_true rfl), (Nat.le_of_ble_eq_true rfl)⟩) hS (fun q _ h => h) (fun q h => h) (fun u1 t H1 locs ht hvm hu1 hB hz1 hk1 hS => ?_)
    have hP := hB.1
    rw [ht] at hP
    clear hB hk1 hz1 hvm ht
    generalize H1 = H at hP hS ⊢
    refine W.widen (k := 0) (n := 0) (Nat.le_refl 0) (Nat.le_refl 0) ?_
    exact W.vret hx hb hr (fun t ht hW => ⟨⟨u1, rfl, (hu1.trans hsp.symm), PM_fin hP hK ht hW⟩, hS.F ht⟩) hS.2.2 dX4_each_43
  · have hsp := hsp.trans (if_pos c_2)
    have hok := hok.1 c_2
    refine lv_aload_n hx hb dX4_each_10 rfl (lv_at hl 0 rfl) ?_
    refine lv_iconst (v := 1) hx hb dX4_each_11 (by decide) ?_
    have h_6 := hok.1
    have hok := hok.2
    refine va_callv (va_runV (As := [.int 1]) (rest := []) ⟨hx, hb, hml, hown, hts⟩ (cM_ends l D q cI cL hq u 1 h_6) (cwV 1 hts gX4_each_X4_ends rfl rfl rfl (by decide +kernel) ⟨(Nat.le_of_ble_eq_true rfl), (Nat.le_of_ble_eq_true rfl)⟩) ⟨PM_blind, va_recv hK hP (ci := 7) (q0 := 0) rfl rfl, fun U hU hW => ⟨rfl, PM_fin hP hK hU hW⟩⟩ rfl rfl hl.1 rfl (lv_room (Nat.le_of_ble_eq_true rfl)) dX4_each_12 ⟨(Nat.le_of_ble_eq_true rfl), (Nat.le_of_ble_eq_true rfl)⟩) hS (fun q _ h => h) (fun q h => h) (fun u2 t H1 locs ht hvm hu2 hB hz1 hk1 hS => ?_)
    have hP := hB.1
    rw [ht] at hP
    clear hB hk1 hz1 hvm ht
    generalize H1 = H at hP hS ⊢
    refine W.widen (k := 0) (n := 0) (Nat.le_refl 0) (Nat.le_refl 0) ?_
    have hsp := hsp.trans (bnd_eq hu2)
    refine lv_goto (tgt := 43) hx hb dX4_each_15 (by decide) ?_
    exact W.vret hx hb hr (fun t ht hW => ⟨⟨u2, rfl, hsp.symm, PM_fin hP hK ht hW⟩, hS.F ht⟩) hS.2.2 dX4_each_43
set_option maxHeartbeats 4000000 in
set_option maxRecDepth 100000 in
theorem cM_plain (l : Launch) (D : va_G) (q : Nat → Nat) (cI cL : ClassId) (hq : DQ 22 q) (u : St) (p1 : Int32) (p2 : Int32) (p3 : Int32) (p4 : Int32) (hok : okM_plain u p1 p2 p3 p4) : Met l yX4_plain wsX4_plain { frames := 2, cells := 0, slots := 0, locals := 43 } (va_Pc [.ref (q 0), .int p1, .int p2, .int p3, .int p4] (fun U => PM D q cI cL u U)) (va_Qv (fun u' : St => u' = sM_plain u p1 p2 p3 p4) (fun u' t => PM D q cI cL u' t) (AQ 22 q)) 0 0 (AQ 22 q) := by
  refine Met.ofW (cc := cX4_plain) (maxL := 5) (ret := none) (by decide) rfl ?_
  intro p e s m args below meth c s₁ B hml hv
  obtain ⟨rfl, hP, hK⟩ := hv
  have hx := B.exec
  have hb := B.bytes
  have hr := B.returns
  have hts := atoms_spec (ws := wsX4_plain) B.pre
  have hown : s.vm.findClass RX4 = some m.cls := findClass_of_methodNamed B.named
  have hlocks := B.notSynchronized
  have hiX4 : ∀ w ∈ u_ws RX4 TX4 29, w ∈ wsX4_plain := by decide +kernel
  have hf26 := hts (.fieldLink RX4 26 "ThingRulesModel" "sort" "[I") (by decide +kernel)
  have hf56 := hts (.fieldLink RX4 56 "ThingRulesModel" "slots" "[I") (by decide +kernel)
  have hf135 := hts (.fieldLink RX4 135 "ThingRulesModel" "finding" "I") (by decide +kernel)
  have hf7 := hts (.fieldLink RX4 7 "ThingRulesModel" "form" "[I") (by decide +kernel)
  have hf13 := hts (.fieldLink RX4 13 "ThingRulesModel" "told" "[I") (by decide +kernel)
  have hf16 := hts (.fieldLink RX4 16 "ThingRulesModel" "size" "[I") (by decide +kernel)
  have hS : va_S (AQ 22 q) s.heap s.heap [] := va_S.rf
  have hP : va_P D vwCl (wM q cI cL u) s.heap := hP
  have hl := lv_entry ([.ref (q 0), .int p1, .int p2, .int p3, .int p4]) (n := 5) (Nat.le_of_ble_eq_true rfl)
  rw [lg_entry_eq]
  generalize (lg_sl ([.ref (q 0), .int p1, .int p2, .int p3, .int p4]) ++ List.replicate (5 - (lg_sl ([.ref (q 0), .int p1, .int p2, .int p3, .int p4])).length) Slot.unset).toArray = ls at hl ⊢
  have hl : lv_has ls 5 [(0, .ref (q 0)), (1, .int p1), (2, .int p2), (3, .int p3), (4, .int p4)] := hl
  have hsp : sM_plain u p1 p2 p3 p4 = _ := sM_plain.eq_1 u p1 p2 p3 p4
  unfold okM_plain at hok
  refine lv_aload_n hx hb dX4_plain_0 rfl (lv_at hl 0 rfl) ?_
  refine va_get (D := D) (ci := 7) (v := .ref (q 6)) (C := RX4) (T := TX4) (N := 29) hx hb hts hiX4 hown hK hP 0 rfl rfl 8 (by decide) hf26 (fun _ h9 => h9) rfl dX4_plain_1 ?_
  refine lv_iload_n hx hb dX4_plain_4 rfl (lv_at hl 1 rfl) ?_
  have h_1 := hok.1
  have hok := hok.2
  refine va_iald hx hb hK hP 6 0 rfl rfl h_1 dX4_plain_5 ?_
  by_cases c_2 : (u.2.1 6 p1.toNatClampNeg) = 10
  · have hsp := hsp.trans (if_pos c_2)
    have hok := hok.1 c_2
    refine lv_tableIn (off := 26) (tgt := 32) hx hb dX4_plain_6 (by rw [c_2]; decide) (by rw [c_2]; decide) (by rw [c_2]; rfl) (by decide) ?_
    refine lv_aload_n hx hb dX4_plain_32 rfl (lv_at hl 0 rfl) ?_
    refine va_get (D := D) (ci := 7) (v := .ref (q 16)) (C := RX4) (T := TX4) (N := 29) hx hb hts hiX4 hown hK hP 0 rfl rfl 19 (by decide) hf56 (fun _ h9 => h9) rfl dX4_plain_33 ?_
    refine lv_iload_n hx hb dX4_plain_36 rfl (lv_at hl 3 rfl) ?_
    refine lv_iload_n hx hb dX4_plain_37 rfl (lv_at hl 2 rfl) ?_
    have h_3 := hok.1
    have hok := hok.2
    refine va_iast hx hb hK hP (dM hq) hS 16 0 rfl rfl h_3 dX4_plain_38 (fun H locs hP _ hS => ?_)
    obtain ⟨u1, hu1⟩ : ∃ z : St, z = (stA u 16 p3.toNatClampNeg p2) := ⟨_, rfl⟩
    have hP : va_P D vwCl (wM q cI cL u1) H := by rw [hu1]; exact hP
    have hsp := hsp.trans (bnd_eq hu1)
    have hok := bnd_ok hu1 hok
    refine lv_aload_n hx hb dX4_plain_39 rfl (lv_at hl 0 rfl) ?_
    refine lv_iconst (v := 1) hx hb dX4_plain_40 (by decide) ?_
    have h_4 := hok.1
    have hok := hok.2
    refine va_callv (va_runV (As := [.int 1]) (rest := []) ⟨hx, hb, hml, hown, hts⟩ (cM_ends l D q cI cL hq u1 1 h_4) (cwV 1 hts gX4_plain_X4_ends rfl rfl rfl (by decide +kernel) ⟨(Nat.le_of_ble_eq_true rfl), (Nat.le_of_ble_eq_true rfl)⟩) ⟨PM_blind, va_recv hK hP (ci := 7) (q0 := 0) rfl rfl, fun U hU hW => ⟨rfl, PM_fin hP hK hU hW⟩⟩ rfl rfl hl.1 rfl (lv_room (Nat.le_of_ble_eq_true rfl)) dX4_plain_41 ⟨(Nat.le_of_ble_eq_true rfl), (Nat.le_of_ble_eq_true rfl)⟩) hS (fun q _ h => h) (fun q h => h) (fun u2 t H1 locs ht hvm hu2 hB hz1 hk1 hS => ?_)
    have hP := hB.1
    rw [ht] at hP
    clear hB hk1 hz1 hvm ht
    generalize H1 = H at hP hS ⊢
    refine W.widen (k := 0) (n := 0) (Nat.le_refl 0) (Nat.le_refl 0) ?_
    have hsp := hsp.trans (bnd_eq hu2)
    refine lv_goto (tgt := 191) hx hb dX4_plain_44 (by decide) ?_
    exact W.vret hx hb hr (fun t ht hW => ⟨⟨u2, rfl, hsp.symm, PM_fin hP hK ht hW⟩, hS.F ht⟩) hS.2.2 dX4_plain_191
  · have hsp := hsp.trans (if_neg c_2)
    have hok := hok.2 c_2
    by_cases c_5 : (u.2.1 6 p1.toNatClampNeg) = 11
    · have hsp := hsp.trans (if_pos c_5)
      have hok := hok.1 c_5
      refine lv_tableIn (off := 41) (tgt := 47) hx hb dX4_plain_6 (by rw [c_5]; decide) (by rw [c_5]; decide) (by rw [c_5]; rfl) (by decide) ?_
      refine lv_aload_n hx hb dX4_plain_47 rfl (lv_at hl 0 rfl) ?_
      refine lv_aload_n hx hb dX4_plain_48 rfl (lv_at hl 0 rfl) ?_
      refine va_get (D := D) (ci := 7) (v := .ref (q 16)) (C := RX4) (T := TX4) (N := 29) hx hb hts hiX4 hown hK hP 0 rfl rfl 19 (by decide) hf56 (fun _ h9 => h9) rfl dX4_plain_49 ?_
      refine lv_iload_n hx hb dX4_plain_52 rfl (lv_at hl 3 rfl) ?_
      have h_6 := hok.1
      have hok := hok.2
      refine va_iald hx hb hK hP 16 0 rfl rfl h_6 dX4_plain_53 ?_
      refine lv_iload_n hx hb dX4_plain_54 rfl (lv_at hl 2 rfl) ?_
      refine lv_icmp_ne (tgt := 62) hx hb dX4_plain_55 (by decide) (fun c_7 => ?_) (fun c_7 => ?_)
      · have hsp := hsp.trans (if_neg c_7)
        have hok := hok.2 c_7
        refine lv_iconst (v := 0) hx hb dX4_plain_62 (by decide) ?_
        have h_8 := hok.1
        have hok := hok.2
        refine va_callv (va_runV (As := [.int 0]) (rest := []) ⟨hx, hb, hml, hown, hts⟩ (cM_ends l D q cI cL hq u 0 h_8) (cwV 1 hts gX4_plain_X4_ends rfl rfl rfl (by decide +kernel) ⟨(Nat.le_of_ble_eq_true rfl), (Nat.le_of_ble_eq_true rfl)⟩) ⟨PM_blind, va_recv hK hP (ci := 7) (q0 := 0) rfl rfl, fun U hU hW => ⟨rfl, PM_fin hP hK hU hW⟩⟩ rfl rfl hl.1 rfl (lv_room (Nat.le_of_ble_eq_true rfl)) dX4_plain_63 ⟨(Nat.le_of_ble_eq_true rfl), (Nat.le_of_ble_eq_true rfl)⟩) hS (fun q _ h => h) (fun q h => h) (fun u3 t H1 locs ht hvm hu3 hB hz1 hk1 hS => ?_)
        have hP := hB.1
        rw [ht] at hP
        clear hB hk1 hz1 hvm ht
        generalize H1 = H at hP hS ⊢
        refine W.widen (k := 0) (n := 0) (Nat.le_refl 0) (Nat.le_refl 0) ?_
        have hsp := hsp.trans (bnd_eq hu3)
        refine lv_goto (tgt := 191) hx hb dX4_plain_66 (by decide) ?_
        exact W.vret hx hb hr (fun t ht hW => ⟨⟨u3, rfl, hsp.symm, PM_fin hP hK ht hW⟩, hS.F ht⟩) hS.2.2 dX4_plain_191
      · have hsp := hsp.trans (if_pos c_7)
        have hok := hok.1 c_7
        refine lv_iconst (v := 1) hx hb dX4_plain_58 (by decide) ?_
        refine lv_goto (tgt := 63) hx hb dX4_plain_59 (by decide) ?_
        have h_9 := hok.1
        have hok := hok.2
        refine va_callv (va_runV (As := [.int 1]) (rest := []) ⟨hx, hb, hml, hown, hts⟩ (cM_ends l D q cI cL hq u 1 h_9) (cwV 1 hts gX4_plain_X4_ends rfl rfl rfl (by decide +kernel) ⟨(Nat.le_of_ble_eq_true rfl), (Nat.le_of_ble_eq_true rfl)⟩) ⟨PM_blind, va_recv hK hP (ci := 7) (q0 := 0) rfl rfl, fun U hU hW => ⟨rfl, PM_fin hP hK hU hW⟩⟩ rfl rfl hl.1 rfl (lv_room (Nat.le_of_ble_eq_true rfl)) dX4_plain_63 ⟨(Nat.le_of_ble_eq_true rfl), (Nat.le_of_ble_eq_true rfl)⟩) hS (fun q _ h => h) (fun q h => h) (fun u4 t H1 locs ht hvm hu4 hB hz1 hk1 hS => ?_)
        have hP := hB.1
        rw [ht] at hP
        clear hB hk1 hz1 hvm ht
        generalize H1 = H at hP hS ⊢
        refine W.widen (k := 0) (n := 0) (Nat.le_refl 0) (Nat.le_refl 0) ?_
        have hsp := hsp.trans (bnd_eq hu4)
        refine lv_goto (tgt := 191) hx hb dX4_plain_66 (by decide) ?_
        exact W.vret hx hb hr (fun t ht hW => ⟨⟨u4, rfl, hsp.symm, PM_fin hP hK ht hW⟩, hS.F ht⟩) hS.2.2 dX4_plain_191
    · have hsp := hsp.trans (if_neg c_5)
      have hok := hok.2 c_5
      by_cases c_10 : (u.2.1 6 p1.toNatClampNeg) = 12
      · have hsp := hsp.trans (if_pos c_10)
        have hok := hok.1 c_10
        refine lv_tableIn (off := 63) (tgt := 69) hx hb dX4_plain_6 (by rw [c_10]; decide) (by rw [c_10]; decide) (by rw [c_10]; rfl) (by decide) ?_
        refine lv_aload_n hx hb dX4_plain_69 rfl (lv_at hl 0 rfl) ?_
        refine lv_aload_n hx hb dX4_plain_70 rfl (lv_at hl 0 rfl) ?_
        refine lv_iload_n hx hb dX4_plain_71 rfl (lv_at hl 2 rfl) ?_
        refine lv_bipush (v := 14) hx hb dX4_plain_72 (by decide) ?_
        have h_11 := hok.1
        have hok := hok.2
        refine vp_callSi (W.runV (As := [.int p2, .int 14]) (rest := [.ref (q 0)]) ⟨hx, hb, hml, hown, hts⟩ (cM_passes l D q cI cL u p2 14 h_11) (cwV 2 hts gX4_plain_X4_passes rfl rfl rfl (by decide +kernel) ⟨(Nat.le_of_ble_eq_true rfl), (Nat.le_of_ble_eq_true rfl)⟩) ⟨PM_blind, va_recv hK hP (ci := 7) (q0 := 0) rfl rfl, fun U hU hW => ⟨rfl, PM_fin hP hK hU hW⟩⟩ rfl rfl hl.1 rfl (lv_room (Nat.le_of_ble_eq_true rfl)) dX4_plain_74 ⟨(Nat.le_of_ble_eq_true rfl), (Nat.le_of_ble_eq_true rfl)⟩) (fun r_12 hr_12 => ?_)
        subst hr_12
        refine lv_if_ne (tgt := 85) hx hb dX4_plain_77 (by decide) (fun c_13 => ?_) (fun c_13 => ?_)
        · have hsp := hsp.trans (if_neg c_13)
          have hok := hok.2 c_13
          refine lv_iload_n hx hb dX4_plain_85 rfl (lv_at hl 2 rfl) ?_
          refine lv_if_ge (tgt := 94) hx hb dX4_plain_86 (by decide) (fun c_14 => ?_) (fun c_14 => ?_)
          · have hsp := hsp.trans (if_pos c_14)
            have hok := hok.1 c_14
            refine lv_iconst (v := 0) hx hb dX4_plain_94 (by decide) ?_
            refine va_put (D := D) (ci := 7) (v := .int 0) (ty := .int) (C := RX4) (T := TX4) (N := 29) hx hb hts hiX4 tyX4 tyX4_ok nmX4 hown hK hP (dM hq) hS 0 rfl rfl 27 (by decide) hf135 (fun _ h9 => h9) rfl (by decide +kernel) rfl rfl (Nat.le_of_ble_eq_true rfl) dX4_plain_95 (fun H locs hP _ hS => ?_)
            obtain ⟨u5, hu5⟩ : ∃ z : St, z = (stI u 6 0) := ⟨_, rfl⟩
            have hP : va_P D vwCl (wM q cI cL u5) H := by rw [hu5]; exact hP
            have hsp := hsp.trans (bnd_eq hu5)
            have hok := bnd_ok hu5 hok
            refine lv_aload_n hx hb dX4_plain_98 rfl (lv_at hl 0 rfl) ?_
            refine va_get (D := D) (ci := 7) (v := .int (u5.1 6)) (C := RX4) (T := TX4) (N := 29) hx hb hts hiX4 hown hK hP 0 rfl rfl 27 (by decide) hf135 (fun _ h9 => h9) rfl dX4_plain_99 ?_
            refine lv_if_ne (tgt := 191) hx hb dX4_plain_102 (by decide) (fun c_15 => ?_) (fun c_15 => ?_)
            · have hsp := hsp.trans (if_neg c_15)
              exact W.vret hx hb hr (fun t ht hW => ⟨⟨u5, rfl, hsp.symm, PM_fin hP hK ht hW⟩, hS.F ht⟩) hS.2.2 dX4_plain_191
            · have hsp := hsp.trans (if_pos c_15)
              have hok := hok.1 c_15
              refine lv_aload_n hx hb dX4_plain_105 rfl (lv_at hl 0 rfl) ?_
              refine lv_aload_n hx hb dX4_plain_106 rfl (lv_at hl 0 rfl) ?_
              refine va_get (D := D) (ci := 7) (v := .ref (q 1)) (C := RX4) (T := TX4) (N := 29) hx hb hts hiX4 hown hK hP 0 rfl rfl 2 (by decide) hf7 (fun _ h9 => h9) rfl dX4_plain_107 ?_
              refine lv_iload_n hx hb dX4_plain_110 rfl (lv_at hl 2 rfl) ?_
              have h_16 := hok.1
              have hok := hok.2
              refine va_iald hx hb hK hP 1 0 rfl rfl h_16 dX4_plain_111 ?_
              refine lv_aload_n hx hb dX4_plain_112 rfl (lv_at hl 0 rfl) ?_
              refine va_get (D := D) (ci := 7) (v := .ref (q 2)) (C := RX4) (T := TX4) (N := 29) hx hb hts hiX4 hown hK hP 0 rfl rfl 3 (by decide) hf13 (fun _ h9 => h9) rfl dX4_plain_113 ?_
              refine lv_iload_n hx hb dX4_plain_116 rfl (lv_at hl 2 rfl) ?_
              have h_17 := hok.1
              have hok := hok.2
              refine va_iald hx hb hK hP 2 0 rfl rfl h_17 dX4_plain_117 ?_
              refine vp_callSi (W.runS (As := [.int (u5.2.1 1 p2.toNatClampNeg), .int (u5.2.1 2 p2.toNatClampNeg)]) (rest := [.ref (q 0)]) ⟨hx, hb, hml, hown, hts⟩ (cM_tells l (u5.2.1 1 p2.toNatClampNeg) (u5.2.1 2 p2.toNatClampNeg)) (va_cwS 2 hts gX4_plain_X4_tells rfl rfl rfl (by decide +kernel) ⟨(Nat.le_of_ble_eq_true rfl), (Nat.le_of_ble_eq_true rfl)⟩) ⟨T_blind, fun U hU hW => ⟨rfl, trivial⟩⟩ rfl rfl hl.1 rfl (lv_room (Nat.le_of_ble_eq_true rfl)) dX4_plain_118 ⟨(Nat.le_of_ble_eq_true rfl), (Nat.le_of_ble_eq_true rfl)⟩) (fun r_18 hr_18 => ?_)
              subst hr_18
              refine lv_iload_n hx hb dX4_plain_121 rfl (lv_at hl 3 rfl) ?_
              refine lv_icmp_ne (tgt := 129) hx hb dX4_plain_122 (by decide) (fun c_19 => ?_) (fun c_19 => ?_)
              · have hsp := hsp.trans (if_neg c_19)
                have hok := hok.2 c_19
                refine lv_iconst (v := 0) hx hb dX4_plain_129 (by decide) ?_
                have h_20 := hok.1
                have hok := hok.2
                refine va_callv (va_runV (As := [.int 0]) (rest := []) ⟨hx, hb, hml, hown, hts⟩ (cM_ends l D q cI cL hq u5 0 h_20) (cwV 1 hts gX4_plain_X4_ends rfl rfl rfl (by decide +kernel) ⟨(Nat.le_of_ble_eq_true rfl), (Nat.le_of_ble_eq_true rfl)⟩) ⟨PM_blind, va_recv hK hP (ci := 7) (q0 := 0) rfl rfl, fun U hU hW => ⟨rfl, PM_fin hP hK hU hW⟩⟩ rfl rfl hl.1 rfl (lv_room (Nat.le_of_ble_eq_true rfl)) dX4_plain_130 ⟨(Nat.le_of_ble_eq_true rfl), (Nat.le_of_ble_eq_true rfl)⟩) hS (fun q _ h => h) (fun q h => h) (fun u6 t H1 locs ht hvm hu6 hB hz1 hk1 hS => ?_)
                have hP := hB.1
                rw [ht] at hP
                clear hB hk1 hz1 hvm ht
                generalize H1 = H at hP hS ⊢
                refine W.widen (k := 0) (n := 0) (Nat.le_refl 0) (Nat.le_refl 0) ?_
                have hsp := hsp.trans (bnd_eq hu6)
                refine lv_goto (tgt := 191) hx hb dX4_plain_133 (by decide) ?_
                exact W.vret hx hb hr (fun t ht hW => ⟨⟨u6, rfl, hsp.symm, PM_fin hP hK ht hW⟩, hS.F ht⟩) hS.2.2 dX4_plain_191
              · have hsp := hsp.trans (if_pos c_19)
                have hok := hok.1 c_19
                refine lv_iconst (v := 1) hx hb dX4_plain_125 (by decide) ?_
                refine lv_goto (tgt := 130) hx hb dX4_plain_126 (by decide) ?_
                have h_21 := hok.1
                have hok := hok.2
                refine va_callv (va_runV (As := [.int 1]) (rest := []) ⟨hx, hb, hml, hown, hts⟩ (cM_ends l D q cI cL hq u5 1 h_21) (cwV 1 hts gX4_plain_X4_ends rfl rfl rfl (by decide +kernel) ⟨(Nat.le_of_ble_eq_true rfl), (Nat.le_of_ble_eq_true rfl)⟩) ⟨PM_blind, va_recv hK hP (ci := 7) (q0 := 0) rfl rfl, fun U hU hW => ⟨rfl, PM_fin hP hK hU hW⟩⟩ rfl rfl hl.1 rfl (lv_room (Nat.le_of_ble_eq_true rfl)) dX4_plain_130 ⟨(Nat.le_of_ble_eq_true rfl), (Nat.le_of_ble_eq_true rfl)⟩) hS (fun q _ h => h) (fun q h => h) (fun u7 t H1 locs ht hvm hu7 hB hz1 hk1 hS => ?_)
                have hP := hB.1
                rw [ht] at hP
                clear hB hk1 hz1 hvm ht
                generalize H1 = H at hP hS ⊢
                refine W.widen (k := 0) (n := 0) (Nat.le_refl 0) (Nat.le_refl 0) ?_
                have hsp := hsp.trans (bnd_eq hu7)
                refine lv_goto (tgt := 191) hx hb dX4_plain_133 (by decide) ?_
                exact W.vret hx hb hr (fun t ht hW => ⟨⟨u7, rfl, hsp.symm, PM_fin hP hK ht hW⟩, hS.F ht⟩) hS.2.2 dX4_plain_191
          · have hsp := hsp.trans (if_neg c_14)
            have hok := hok.2 c_14
            refine lv_bipush (v := (-22)) hx hb dX4_plain_89 (by decide) ?_
            refine lv_goto (tgt := 95) hx hb dX4_plain_91 (by decide) ?_
            refine va_put (D := D) (ci := 7) (v := .int (-22)) (ty := .int) (C := RX4) (T := TX4) (N := 29) hx hb hts hiX4 tyX4 tyX4_ok nmX4 hown hK hP (dM hq) hS 0 rfl rfl 27 (by decide) hf135 (fun _ h9 => h9) rfl (by decide +kernel) rfl rfl (Nat.le_of_ble_eq_true rfl) dX4_plain_95 (fun H locs hP _ hS => ?_)
            obtain ⟨u8, hu8⟩ : ∃ z : St, z = (stI u 6 (-22)) := ⟨_, rfl⟩
            have hP : va_P D vwCl (wM q cI cL u8) H := by rw [hu8]; exact hP
            have hsp := hsp.trans (bnd_eq hu8)
            have hok := bnd_ok hu8 hok
            refine lv_aload_n hx hb dX4_plain_98 rfl (lv_at hl 0 rfl) ?_
            refine va_get (D := D) (ci := 7) (v := .int (u8.1 6)) (C := RX4) (T := TX4) (N := 29) hx hb hts hiX4 hown hK hP 0 rfl rfl 27 (by decide) hf135 (fun _ h9 => h9) rfl dX4_plain_99 ?_
            refine lv_if_ne (tgt := 191) hx hb dX4_plain_102 (by decide) (fun c_22 => ?_) (fun c_22 => ?_)
            · have hsp := hsp.trans (if_neg c_22)
              exact W.vret hx hb hr (fun t ht hW => ⟨⟨u8, rfl, hsp.symm, PM_fin hP hK ht hW⟩, hS.F ht⟩) hS.2.2 dX4_plain_191
            · have hsp := hsp.trans (if_pos c_22)
              have hok := hok.1 c_22
              refine lv_aload_n hx hb dX4_plain_105 rfl (lv_at hl 0 rfl) ?_
              refine lv_aload_n hx hb dX4_plain_106 rfl (lv_at hl 0 rfl) ?_
              refine va_get (D := D) (ci := 7) (v := .ref (q 1)) (C := RX4) (T := TX4) (N := 29) hx hb hts hiX4 hown hK hP 0 rfl rfl 2 (by decide) hf7 (fun _ h9 => h9) rfl dX4_plain_107 ?_
              refine lv_iload_n hx hb dX4_plain_110 rfl (lv_at hl 2 rfl) ?_
              have h_23 := hok.1
              have hok := hok.2
              refine va_iald hx hb hK hP 1 0 rfl rfl h_23 dX4_plain_111 ?_
              refine lv_aload_n hx hb dX4_plain_112 rfl (lv_at hl 0 rfl) ?_
              refine va_get (D := D) (ci := 7) (v := .ref (q 2)) (C := RX4) (T := TX4) (N := 29) hx hb hts hiX4 hown hK hP 0 rfl rfl 3 (by decide) hf13 (fun _ h9 => h9) rfl dX4_plain_113 ?_
              refine lv_iload_n hx hb dX4_plain_116 rfl (lv_at hl 2 rfl) ?_
              have h_24 := hok.1
              have hok := hok.2
              refine va_iald hx hb hK hP 2 0 rfl rfl h_24 dX4_plain_117 ?_
              refine vp_callSi (W.runS (As := [.int (u8.2.1 1 p2.toNatClampNeg), .int (u8.2.1 2 p2.toNatClampNeg)]) (rest := [.ref (q 0)]) ⟨hx, hb, hml, hown, hts⟩ (cM_tells l (u8.2.1 1 p2.toNatClampNeg) (u8.2.1 2 p2.toNatClampNeg)) (va_cwS 2 hts gX4_plain_X4_tells rfl rfl rfl (by decide +kernel) ⟨(Nat.le_of_ble_eq_true rfl), (Nat.le_of_ble_eq_true rfl)⟩) ⟨T_blind, fun U hU hW => ⟨rfl, trivial⟩⟩ rfl rfl hl.1 rfl (lv_room (Nat.le_of_ble_eq_true rfl)) dX4_plain_118 ⟨(Nat.le_of_ble_eq_true rfl), (Nat.le_of_ble_eq_true rfl)⟩) (fun r_25 hr_25 => ?_)
              subst hr_25
              refine lv_iload_n hx hb dX4_plain_121 rfl (lv_at hl 3 rfl) ?_
              refine lv_icmp_ne (tgt := 129) hx hb dX4_plain_122 (by decide) (fun c_26 => ?_) (fun c_26 => ?_)
              · have hsp := hsp.trans (if_neg c_26)
                have hok := hok.2 c_26
                refine lv_iconst (v := 0) hx hb dX4_plain_129 (by decide) ?_
                have h_27 := hok.1
                have hok := hok.2
                refine va_callv (va_runV (As := [.int 0]) (rest := []) ⟨hx, hb, hml, hown, hts⟩ (cM_ends l D q cI cL hq u8 0 h_27) (cwV 1 hts gX4_plain_X4_ends rfl rfl rfl (by decide +kernel) ⟨(Nat.le_of_ble_eq_true rfl), (Nat.le_of_ble_eq_true rfl)⟩) ⟨PM_blind, va_recv hK hP (ci := 7) (q0 := 0) rfl rfl, fun U hU hW => ⟨rfl, PM_fin hP hK hU hW⟩⟩ rfl rfl hl.1 rfl (lv_room (Nat.le_of_ble_eq_true rfl)) dX4_plain_130 ⟨(Nat.le_of_ble_eq_true rfl), (Nat.le_of_ble_eq_true rfl)⟩) hS (fun q _ h => h) (fun q h => h) (fun u9 t H1 locs ht hvm hu9 hB hz1 hk1 hS => ?_)
                have hP := hB.1
                rw [ht] at hP
                clear hB hk1 hz1 hvm ht
                generalize H1 = H at hP hS ⊢
                refine W.widen (k := 0) (n := 0) (Nat.le_refl 0) (Nat.le_refl 0) ?_
                have hsp := hsp.trans (bnd_eq hu9)
                refine lv_goto (tgt := 191) hx hb dX4_plain_133 (by decide) ?_
                exact W.vret hx hb hr (fun t ht hW => ⟨⟨u9, rfl, hsp.symm, PM_fin hP hK ht hW⟩, hS.F ht⟩) hS.2.2 dX4_plain_191
              · have hsp := hsp.trans (if_pos c_26)
                have hok := hok.1 c_26
                refine lv_iconst (v := 1) hx hb dX4_plain_125 (by decide) ?_
                refine lv_goto (tgt := 130) hx hb dX4_plain_126 (by decide) ?_
                have h_28 := hok.1
                have hok := hok.2
                refine va_callv (va_runV (As := [.int 1]) (rest := []) ⟨hx, hb, hml, hown, hts⟩ (cM_ends l D q cI cL hq u8 1 h_28) (cwV 1 hts gX4_plain_X4_ends rfl rfl rfl (by decide +kernel) ⟨(Nat.le_of_ble_eq_true rfl), (Nat.le_of_ble_eq_true rfl)⟩) ⟨PM_blind, va_recv hK hP (ci := 7) (q0 := 0) rfl rfl, fun U hU hW => ⟨rfl, PM_fin hP hK hU hW⟩⟩ rfl rfl hl.1 rfl (lv_room (Nat.le_of_ble_eq_true rfl)) dX4_plain_130 ⟨(Nat.le_of_ble_eq_true rfl), (Nat.le_of_ble_eq_true rfl)⟩) hS (fun q _ h => h) (fun q h => h) (fun u10 t H1 locs ht hvm hu10 hB hz1 hk1 hS => ?_)
                have hP := hB.1
                rw [ht] at hP
                clear hB hk1 hz1 hvm ht
                generalize H1 = H at hP hS ⊢
                refine W.widen (k := 0) (n := 0) (Nat.le_refl 0) (Nat.le_refl 0) ?_
                have hsp := hsp.trans (bnd_eq hu10)
                refine lv_goto (tgt := 191) hx hb dX4_plain_133 (by decide) ?_
                exact W.vret hx hb hr (fun t ht hW => ⟨⟨u10, rfl, hsp.symm, PM_fin hP hK ht hW⟩, hS.F ht⟩) hS.2.2 dX4_plain_191
        · have hsp := hsp.trans (if_pos c_13)
          have hok := hok.1 c_13
          refine lv_bipush (v := (-21)) hx hb dX4_plain_80 (by decide) ?_
          refine lv_goto (tgt := 95) hx hb dX4_plain_82 (by decide) ?_
          refine va_put (D := D) (ci := 7) (v := .int (-21)) (ty := .int) (C := RX4) (T := TX4) (N := 29) hx hb hts hiX4 tyX4 tyX4_ok nmX4 hown hK hP (dM hq) hS 0 rfl rfl 27 (by decide) hf135 (fun _ h9 => h9) rfl (by decide +kernel) rfl rfl (Nat.le_of_ble_eq_true rfl) dX4_plain_95 (fun H locs hP _ hS => ?_)
          obtain ⟨u11, hu11⟩ : ∃ z : St, z = (stI u 6 (-21)) := ⟨_, rfl⟩
          have hP : va_P D vwCl (wM q cI cL u11) H := by rw [hu11]; exact hP
          have hsp := hsp.trans (bnd_eq hu11)
          have hok := bnd_ok hu11 hok
          refine lv_aload_n hx hb dX4_plain_98 rfl (lv_at hl 0 rfl) ?_
          refine va_get (D := D) (ci := 7) (v := .int (u11.1 6)) (C := RX4) (T := TX4) (N := 29) hx hb hts hiX4 hown hK hP 0 rfl rfl 27 (by decide) hf135 (fun _ h9 => h9) rfl dX4_plain_99 ?_
          refine lv_if_ne (tgt := 191) hx hb dX4_plain_102 (by decide) (fun c_29 => ?_) (fun c_29 => ?_)
          · have hsp := hsp.trans (if_neg c_29)
            exact W.vret hx hb hr (fun t ht hW => ⟨⟨u11, rfl, hsp.symm, PM_fin hP hK ht hW⟩, hS.F ht⟩) hS.2.2 dX4_plain_191
          · have hsp := hsp.trans (if_pos c_29)
            have hok := hok.1 c_29
            refine lv_aload_n hx hb dX4_plain_105 rfl (lv_at hl 0 rfl) ?_
            refine lv_aload_n hx hb dX4_plain_106 rfl (lv_at hl 0 rfl) ?_
            refine va_get (D := D) (ci := 7) (v := .ref (q 1)) (C := RX4) (T := TX4) (N := 29) hx hb hts hiX4 hown hK hP 0 rfl rfl 2 (by decide) hf7 (fun _ h9 => h9) rfl dX4_plain_107 ?_
            refine lv_iload_n hx hb dX4_plain_110 rfl (lv_at hl 2 rfl) ?_
            have h_30 := hok.1
            have hok := hok.2
            refine va_iald hx hb hK hP 1 0 rfl rfl h_30 dX4_plain_111 ?_
            refine lv_aload_n hx hb dX4_plain_112 rfl (lv_at hl 0 rfl) ?_
            refine va_get (D := D) (ci := 7) (v := .ref (q 2)) (C := RX4) (T := TX4) (N := 29) hx hb hts hiX4 hown hK hP 0 rfl rfl 3 (by decide) hf13 (fun _ h9 => h9) rfl dX4_plain_113 ?_
            refine lv_iload_n hx hb dX4_plain_116 rfl (lv_at hl 2 rfl) ?_
            have h_31 := hok.1
            have hok := hok.2
            refine va_iald hx hb hK hP 2 0 rfl rfl h_31 dX4_plain_117 ?_
            refine vp_callSi (W.runS (As := [.int (u11.2.1 1 p2.toNatClampNeg), .int (u11.2.1 2 p2.toNatClampNeg)]) (rest := [.ref (q 0)]) ⟨hx, hb, hml, hown, hts⟩ (cM_tells l (u11.2.1 1 p2.toNatClampNeg) (u11.2.1 2 p2.toNatClampNeg)) (va_cwS 2 hts gX4_plain_X4_tells rfl rfl rfl (by decide +kernel) ⟨(Nat.le_of_ble_eq_true rfl), (Nat.le_of_ble_eq_true rfl)⟩) ⟨T_blind, fun U hU hW => ⟨rfl, trivial⟩⟩ rfl rfl hl.1 rfl (lv_room (Nat.le_of_ble_eq_true rfl)) dX4_plain_118 ⟨(Nat.le_of_ble_eq_true rfl), (Nat.le_of_ble_eq_true rfl)⟩) (fun r_32 hr_32 => ?_)
            subst hr_32
            refine lv_iload_n hx hb dX4_plain_121 rfl (lv_at hl 3 rfl) ?_
            refine lv_icmp_ne (tgt := 129) hx hb dX4_plain_122 (by decide) (fun c_33 => ?_) (fun c_33 => ?_)
            · have hsp := hsp.trans (if_neg c_33)
              have hok := hok.2 c_33
              refine lv_iconst (v := 0) hx hb dX4_plain_129 (by decide) ?_
              have h_34 := hok.1
              have hok := hok.2
              refine va_callv (va_runV (As := [.int 0]) (rest := []) ⟨hx, hb, hml, hown, hts⟩ (cM_ends l D q cI cL hq u11 0 h_34) (cwV 1 hts gX4_plain_X4_ends rfl rfl rfl (by decide +kernel) ⟨(Nat.le_of_ble_eq_true rfl), (Nat.le_of_ble_eq_true rfl)⟩) ⟨PM_blind, va_recv hK hP (ci := 7) (q0 := 0) rfl rfl, fun U hU hW => ⟨rfl, PM_fin hP hK hU hW⟩⟩ rfl rfl hl.1 rfl (lv_room (Nat.le_of_ble_eq_true rfl)) dX4_plain_130 ⟨(Nat.le_of_ble_eq_true rfl), (Nat.le_of_ble_eq_true rfl)⟩) hS (fun q _ h => h) (fun q h => h) (fun u12 t H1 locs ht hvm hu12 hB hz1 hk1 hS => ?_)
              have hP := hB.1
              rw [ht] at hP
              clear hB hk1 hz1 hvm ht
              generalize H1 = H at hP hS ⊢
              refine W.widen (k := 0) (n := 0) (Nat.le_refl 0) (Nat.le_refl 0) ?_
              have hsp := hsp.trans (bnd_eq hu12)
              refine lv_goto (tgt := 191) hx hb dX4_plain_133 (by decide) ?_
              exact W.vret hx hb hr (fun t ht hW => ⟨⟨u12, rfl, hsp.symm, PM_fin hP hK ht hW⟩, hS.F ht⟩) hS.2.2 dX4_plain_191
            · have hsp := hsp.trans (if_pos c_33)
              have hok := hok.1 c_33
              refine lv_iconst (v := 1) hx hb dX4_plain_125 (by decide) ?_
              refine lv_goto (tgt := 130) hx hb dX4_plain_126 (by decide) ?_
              have h_35 := hok.1
              have hok := hok.2
              refine va_callv (va_runV (As := [.int 1]) (rest := []) ⟨hx, hb, hml, hown, hts⟩ (cM_ends l D q cI cL hq u11 1 h_35) (cwV 1 hts gX4_plain_X4_ends rfl rfl rfl (by decide +kernel) ⟨(Nat.le_of_ble_eq_true rfl), (Nat.le_of_ble_eq_true rfl)⟩) ⟨PM_blind, va_recv hK hP (ci := 7) (q0 := 0) rfl rfl, fun U hU hW => ⟨rfl, PM_fin hP hK hU hW⟩⟩ rfl rfl hl.1 rfl (lv_room (Nat.le_of_ble_eq_true rfl)) dX4_plain_130 ⟨(Nat.le_of_ble_eq_true rfl), (Nat.le_of_ble_eq_true rfl)⟩) hS (fun q _ h => h) (fun q h => h) (fun u13 t H1 locs ht hvm hu13 hB hz1 hk1 hS => ?_)
              have hP := hB.1
              rw [ht] at hP
              clear hB hk1 hz1 hvm ht
              generalize H1 = H at hP hS ⊢
              refine W.widen (k := 0) (n := 0) (Nat.le_refl 0) (Nat.le_refl 0) ?_
              have hsp := hsp.trans (bnd_eq hu13)
              refine lv_goto (tgt := 191) hx hb dX4_plain_133 (by decide) ?_
              exact W.vret hx hb hr (fun t ht hW => ⟨⟨u13, rfl, hsp.symm, PM_fin hP hK ht hW⟩, hS.F ht⟩) hS.2.2 dX4_plain_191
      · have hsp := hsp.trans (if_neg c_10)
        have hok := hok.2 c_10
        refine lv_tableOut (tgt := 136) hx hb dX4_plain_6 (by have e0 := lv_neT (a := 10) c_2 (by decide); have e1 := lv_neT (a := 11) c_5 (by decide); have e2 := lv_neT (a := 12) c_10 (by decide); omega) (by decide) ?_
        refine lv_aload_n hx hb dX4_plain_136 rfl (lv_at hl 0 rfl) ?_
        refine lv_aload_n hx hb dX4_plain_137 rfl (lv_at hl 0 rfl) ?_
        refine lv_iload_n hx hb dX4_plain_138 rfl (lv_at hl 2 rfl) ?_
        refine lv_iload_n hx hb dX4_plain_139 rfl (lv_at hl 3 rfl) ?_
        have h_36 := hok.1
        have hok := hok.2
        refine vp_callSi (W.runV (As := [.int p2, .int p3]) (rest := [.ref (q 0)]) ⟨hx, hb, hml, hown, hts⟩ (cM_passes l D q cI cL u p2 p3 h_36) (cwV 2 hts gX4_plain_X4_passes rfl rfl rfl (by decide +kernel) ⟨(Nat.le_of_ble_eq_true rfl), (Nat.le_of_ble_eq_true rfl)⟩) ⟨PM_blind, va_recv hK hP (ci := 7) (q0 := 0) rfl rfl, fun U hU hW => ⟨rfl, PM_fin hP hK hU hW⟩⟩ rfl rfl hl.1 rfl (lv_room (Nat.le_of_ble_eq_true rfl)) dX4_plain_140 ⟨(Nat.le_of_ble_eq_true rfl), (Nat.le_of_ble_eq_true rfl)⟩) (fun r_37 hr_37 => ?_)
        subst hr_37
        refine lv_if_ne (tgt := 151) hx hb dX4_plain_143 (by decide) (fun c_38 => ?_) (fun c_38 => ?_)
        · have hsp := hsp.trans (if_neg c_38)
          have hok := hok.2 c_38
          refine lv_iload_n hx hb dX4_plain_151 rfl (lv_at hl 2 rfl) ?_
          refine lv_if_ge (tgt := 160) hx hb dX4_plain_152 (by decide) (fun c_39 => ?_) (fun c_39 => ?_)
          · have hsp := hsp.trans (if_pos c_39)
            have hok := hok.1 c_39
            refine lv_iconst (v := 0) hx hb dX4_plain_160 (by decide) ?_
            refine va_put (D := D) (ci := 7) (v := .int 0) (ty := .int) (C := RX4) (T := TX4) (N := 29) hx hb hts hiX4 tyX4 tyX4_ok nmX4 hown hK hP (dM hq) hS 0 rfl rfl 27 (by decide) hf135 (fun _ h9 => h9) rfl (by decide +kernel) rfl rfl (Nat.le_of_ble_eq_true rfl) dX4_plain_161 (fun H locs hP _ hS => ?_)
            obtain ⟨u14, hu14⟩ : ∃ z : St, z = (stI u 6 0) := ⟨_, rfl⟩
            have hP : va_P D vwCl (wM q cI cL u14) H := by rw [hu14]; exact hP
            have hsp := hsp.trans (bnd_eq hu14)
            have hok := bnd_ok hu14 hok
            refine lv_aload_n hx hb dX4_plain_164 rfl (lv_at hl 0 rfl) ?_
            refine va_get (D := D) (ci := 7) (v := .int (u14.1 6)) (C := RX4) (T := TX4) (N := 29) hx hb hts hiX4 hown hK hP 0 rfl rfl 27 (by decide) hf135 (fun _ h9 => h9) rfl dX4_plain_165 ?_
            refine lv_if_ne (tgt := 191) hx hb dX4_plain_168 (by decide) (fun c_40 => ?_) (fun c_40 => ?_)
            · have hsp := hsp.trans (if_neg c_40)
              exact W.vret hx hb hr (fun t ht hW => ⟨⟨u14, rfl, hsp.symm, PM_fin hP hK ht hW⟩, hS.F ht⟩) hS.2.2 dX4_plain_191
            · have hsp := hsp.trans (if_pos c_40)
              have hok := hok.1 c_40
              refine lv_aload_n hx hb dX4_plain_171 rfl (lv_at hl 0 rfl) ?_
              refine lv_aload_n hx hb dX4_plain_172 rfl (lv_at hl 0 rfl) ?_
              refine va_get (D := D) (ci := 7) (v := .ref (q 3)) (C := RX4) (T := TX4) (N := 29) hx hb hts hiX4 hown hK hP 0 rfl rfl 4 (by decide) hf16 (fun _ h9 => h9) rfl dX4_plain_173 ?_
              refine lv_iload_n hx hb dX4_plain_176 rfl (lv_at hl 2 rfl) ?_
              have h_41 := hok.1
              have hok := hok.2
              refine va_iald hx hb hK hP 3 0 rfl rfl h_41 dX4_plain_177 ?_
              refine lv_iload hx hb dX4_plain_178 (lv_at hl 4 rfl) ?_
              refine lv_icmp_ne (tgt := 187) hx hb dX4_plain_180 (by decide) (fun c_42 => ?_) (fun c_42 => ?_)
              · have hsp := hsp.trans (if_neg c_42)
                have hok := hok.2 c_42
                refine lv_iconst (v := 0) hx hb dX4_plain_187 (by decide) ?_
                have h_43 := hok.1
                have hok := hok.2
                refine va_callv (va_runV (As := [.int 0]) (rest := []) ⟨hx, hb, hml, hown, hts⟩ (cM_ends l D q cI cL hq u14 0 h_43) (cwV 1 hts gX4_plain_X4_ends rfl rfl rfl (by decide +kernel) ⟨(Nat.le_of_ble_eq_true rfl), (Nat.le_of_ble_eq_true rfl)⟩) ⟨PM_blind, va_recv hK hP (ci := 7) (q0 := 0) rfl rfl, fun U hU hW => ⟨rfl, PM_fin hP hK hU hW⟩⟩ rfl rfl hl.1 rfl (lv_room (Nat.le_of_ble_eq_true rfl)) dX4_plain_188 ⟨(Nat.le_of_ble_eq_true rfl), (Nat.le_of_ble_eq_true rfl)⟩) hS (fun q _ h => h) (fun q h => h) (fun u15 t H1 locs ht hvm hu15 hB hz1 hk1 hS => ?_)
                have hP := hB.1
                rw [ht] at hP
                clear hB hk1 hz1 hvm ht
                generalize H1 = H at hP hS ⊢
                refine W.widen (k := 0) (n := 0) (Nat.le_refl 0) (Nat.le_refl 0) ?_
                exact W.vret hx hb hr (fun t ht hW => ⟨⟨u15, rfl, (hu15.trans hsp.symm), PM_fin hP hK ht hW⟩, hS.F ht⟩) hS.2.2 dX4_plain_191
              · have hsp := hsp.trans (if_pos c_42)
                have hok := hok.1 c_42
                refine lv_iconst (v := 1) hx hb dX4_plain_183 (by decide) ?_
                refine lv_goto (tgt := 188) hx hb dX4_plain_184 (by decide) ?_
                have h_44 := hok.1
                have hok := hok.2
                refine va_callv (va_runV (As := [.int 1]) (rest := []) ⟨hx, hb, hml, hown, hts⟩ (cM_ends l D q cI cL hq u14 1 h_44) (cwV 1 hts gX4_plain_X4_ends rfl rfl rfl (by decide +kernel) ⟨(Nat.le_of_ble_eq_true rfl), (Nat.le_of_ble_eq_true rfl)⟩) ⟨PM_blind, va_recv hK hP (ci := 7) (q0 := 0) rfl rfl, fun U hU hW => ⟨rfl, PM_fin hP hK hU hW⟩⟩ rfl rfl hl.1 rfl (lv_room (Nat.le_of_ble_eq_true rfl)) dX4_plain_188 ⟨(Nat.le_of_ble_eq_true rfl), (Nat.le_of_ble_eq_true rfl)⟩) hS (fun q _ h => h) (fun q h => h) (fun u16 t H1 locs ht hvm hu16 hB hz1 hk1 hS => ?_)
                have hP := hB.1
                rw [ht] at hP
                clear hB hk1 hz1 hvm ht
                generalize H1 = H at hP hS ⊢
                refine W.widen (k := 0) (n := 0) (Nat.le_refl 0) (Nat.le_refl 0) ?_
                exact W.vret hx hb hr (fun t ht hW => ⟨⟨u16, rfl, (hu16.trans hsp.symm), PM_fin hP hK ht hW⟩, hS.F ht⟩) hS.2.2 dX4_plain_191
          · have hsp := hsp.trans (if_neg c_39)
            have hok := hok.2 c_39
            refine lv_bipush (v := (-22)) hx hb dX4_plain_155 (by decide) ?_
            refine lv_goto (tgt := 161) hx hb dX4_plain_157 (by decide) ?_
            refine va_put (D := D) (ci := 7) (v := .int (-22)) (ty := .int) (C := RX4) (T := TX4) (N := 29) hx hb hts hiX4 tyX4 tyX4_ok nmX4 hown hK hP (dM hq) hS 0 rfl rfl 27 (by decide) hf135 (fun _ h9 => h9) rfl (by decide +kernel) rfl rfl (Nat.le_of_ble_eq_true rfl) dX4_plain_161 (fun H locs hP _ hS => ?_)
            obtain ⟨u17, hu17⟩ : ∃ z : St, z = (stI u 6 (-22)) := ⟨_, rfl⟩
            have hP : va_P D vwCl (wM q cI cL u17) H := by rw [hu17]; exact hP
            have hsp := hsp.trans (bnd_eq hu17)
            have hok := bnd_ok hu17 hok
            refine lv_aload_n hx hb dX4_plain_164 rfl (lv_at hl 0 rfl) ?_
            refine va_get (D := D) (ci := 7) (v := .int (u17.1 6)) (C := RX4) (T := TX4) (N := 29) hx hb hts hiX4 hown hK hP 0 rfl rfl 27 (by decide) hf135 (fun _ h9 => h9) rfl dX4_plain_165 ?_
            refine lv_if_ne (tgt := 191) hx hb dX4_plain_168 (by decide) (fun c_45 => ?_) (fun c_45 => ?_)
            · have hsp := hsp.trans (if_neg c_45)
              exact W.vret hx hb hr (fun t ht hW => ⟨⟨u17, rfl, hsp.symm, PM_fin hP hK ht hW⟩, hS.F ht⟩) hS.2.2 dX4_plain_191
            · have hsp := hsp.trans (if_pos c_45)
              have hok := hok.1 c_45
              refine lv_aload_n hx hb dX4_plain_171 rfl (lv_at hl 0 rfl) ?_
              refine lv_aload_n hx hb dX4_plain_172 rfl (lv_at hl 0 rfl) ?_
              refine va_get (D := D) (ci := 7) (v := .ref (q 3)) (C := RX4) (T := TX4) (N := 29) hx hb hts hiX4 hown hK hP 0 rfl rfl 4 (by decide) hf16 (fun _ h9 => h9) rfl dX4_plain_173 ?_
              refine lv_iload_n hx hb dX4_plain_176 rfl (lv_at hl 2 rfl) ?_
              have h_46 := hok.1
              have hok := hok.2
              refine va_iald hx hb hK hP 3 0 rfl rfl h_46 dX4_plain_177 ?_
              refine lv_iload hx hb dX4_plain_178 (lv_at hl 4 rfl) ?_
              refine lv_icmp_ne (tgt := 187) hx hb dX4_plain_180 (by decide) (fun c_47 => ?_) (fun c_47 => ?_)
              · have hsp := hsp.trans (if_neg c_47)
                have hok := hok.2 c_47
                refine lv_iconst (v := 0) hx hb dX4_plain_187 (by decide) ?_
                have h_48 := hok.1
                have hok := hok.2
                refine va_callv (va_runV (As := [.int 0]) (rest := []) ⟨hx, hb, hml, hown, hts⟩ (cM_ends l D q cI cL hq u17 0 h_48) (cwV 1 hts gX4_plain_X4_ends rfl rfl rfl (by decide +kernel) ⟨(Nat.le_of_ble_eq_true rfl), (Nat.le_of_ble_eq_true rfl)⟩) ⟨PM_blind, va_recv hK hP (ci := 7) (q0 := 0) rfl rfl, fun U hU hW => ⟨rfl, PM_fin hP hK hU hW⟩⟩ rfl rfl hl.1 rfl (lv_room (Nat.le_of_ble_eq_true rfl)) dX4_plain_188 ⟨(Nat.le_of_ble_eq_true rfl), (Nat.le_of_ble_eq_true rfl)⟩) hS (fun q _ h => h) (fun q h => h) (fun u18 t H1 locs ht hvm hu18 hB hz1 hk1 hS => ?_)
                have hP := hB.1
                rw [ht] at hP
                clear hB hk1 hz1 hvm ht
                generalize H1 = H at hP hS ⊢
                refine W.widen (k := 0) (n := 0) (Nat.le_refl 0) (Nat.le_refl 0) ?_
                exact W.vret hx hb hr (fun t ht hW => ⟨⟨u18, rfl, (hu18.trans hsp.symm), PM_fin hP hK ht hW⟩, hS.F ht⟩) hS.2.2 dX4_plain_191
              · have hsp := hsp.trans (if_pos c_47)
                have hok := hok.1 c_47
                refine lv_iconst (v := 1) hx hb dX4_plain_183 (by decide) ?_
                refine lv_goto (tgt := 188) hx hb dX4_plain_184 (by decide) ?_
                have h_49 := hok.1
                have hok := hok.2
                refine va_callv (va_runV (As := [.int 1]) (rest := []) ⟨hx, hb, hml, hown, hts⟩ (cM_ends l D q cI cL hq u17 1 h_49) (cwV 1 hts gX4_plain_X4_ends rfl rfl rfl (by decide +kernel) ⟨(Nat.le_of_ble_eq_true rfl), (Nat.le_of_ble_eq_true rfl)⟩) ⟨PM_blind, va_recv hK hP (ci := 7) (q0 := 0) rfl rfl, fun U hU hW => ⟨rfl, PM_fin hP hK hU hW⟩⟩ rfl rfl hl.1 rfl (lv_room (Nat.le_of_ble_eq_true rfl)) dX4_plain_188 ⟨(Nat.le_of_ble_eq_true rfl), (Nat.le_of_ble_eq_true rfl)⟩) hS (fun q _ h => h) (fun q h => h) (fun u19 t H1 locs ht hvm hu19 hB hz1 hk1 hS => ?_)
                have hP := hB.1
                rw [ht] at hP
                clear hB hk1 hz1 hvm ht
                generalize H1 = H at hP hS ⊢
                refine W.widen (k := 0) (n := 0) (Nat.le_refl 0) (Nat.le_refl 0) ?_
                exact W.vret hx hb hr (fun t ht hW => ⟨⟨u19, rfl, (hu19.trans hsp.symm), PM_fin hP hK ht hW⟩, hS.F ht⟩) hS.2.2 dX4_plain_191
        · have hsp := hsp.trans (if_pos c_38)
          have hok := hok.1 c_38
          refine lv_bipush (v := (-21)) hx hb dX4_plain_146 (by decide) ?_
          refine lv_goto (tgt := 161) hx hb dX4_plain_148 (by decide) ?_
          refine va_put (D := D) (ci := 7) (v := .int (-21)) (ty := .int) (C := RX4) (T := TX4) (N := 29) hx hb hts hiX4 tyX4 tyX4_ok nmX4 hown hK hP (dM hq) hS 0 rfl rfl 27 (by decide) hf135 (fun _ h9 => h9) rfl (by decide +kernel) rfl rfl (Nat.le_of_ble_eq_true rfl) dX4_plain_161 (fun H locs hP _ hS => ?_)
          obtain ⟨u20, hu20⟩ : ∃ z : St, z = (stI u 6 (-21)) := ⟨_, rfl⟩
          have hP : va_P D vwCl (wM q cI cL u20) H := by rw [hu20]; exact hP
          have hsp := hsp.trans (bnd_eq hu20)
          have hok := bnd_ok hu20 hok
          refine lv_aload_n hx hb dX4_plain_164 rfl (lv_at hl 0 rfl) ?_
          refine va_get (D := D) (ci := 7) (v := .int (u20.1 6)) (C := RX4) (T := TX4) (N := 29) hx hb hts hiX4 hown hK hP 0 rfl rfl 27 (by decide) hf135 (fun _ h9 => h9) rfl dX4_plain_165 ?_
          refine lv_if_ne (tgt := 191) hx hb dX4_plain_168 (by decide) (fun c_50 => ?_) (fun c_50 => ?_)
          · have hsp := hsp.trans (if_neg c_50)
            exact W.vret hx hb hr (fun t ht hW => ⟨⟨u20, rfl, hsp.symm, PM_fin hP hK ht hW⟩, hS.F ht⟩) hS.2.2 dX4_plain_191
          · have hsp := hsp.trans (if_pos c_50)
            have hok := hok.1 c_50
            refine lv_aload_n hx hb dX4_plain_171 rfl (lv_at hl 0 rfl) ?_
            refine lv_aload_n hx hb dX4_plain_172 rfl (lv_at hl 0 rfl) ?_
            refine va_get (D := D) (ci := 7) (v := .ref (q 3)) (C := RX4) (T := TX4) (N := 29) hx hb hts hiX4 hown hK hP 0 rfl rfl 4 (by decide) hf16 (fun _ h9 => h9) rfl dX4_plain_173 ?_
            refine lv_iload_n hx hb dX4_plain_176 rfl (lv_at hl 2 rfl) ?_
            have h_51 := hok.1
            have hok := hok.2
            refine va_iald hx hb hK hP 3 0 rfl rfl h_51 dX4_plain_177 ?_
            refine lv_iload hx hb dX4_plain_178 (lv_at hl 4 rfl) ?_
            refine lv_icmp_ne (tgt := 187) hx hb dX4_plain_180 (by decide) (fun c_52 => ?_) (fun c_52 => ?_)
            · have hsp := hsp.trans (if_neg c_52)
              have hok := hok.2 c_52
              refine lv_iconst (v := 0) hx hb dX4_plain_187 (by decide) ?_
              have h_53 := hok.1
              have hok := hok.2
              refine va_callv (va_runV (As := [.int 0]) (rest := []) ⟨hx, hb, hml, hown, hts⟩ (cM_ends l D q cI cL hq u20 0 h_53) (cwV 1 hts gX4_plain_X4_ends rfl rfl rfl (by decide +kernel) ⟨(Nat.le_of_ble_eq_true rfl), (Nat.le_of_ble_eq_true rfl)⟩) ⟨PM_blind, va_recv hK hP (ci := 7) (q0 := 0) rfl rfl, fun U hU hW => ⟨rfl, PM_fin hP hK hU hW⟩⟩ rfl rfl hl.1 rfl (lv_room (Nat.le_of_ble_eq_true rfl)) dX4_plain_188 ⟨(Nat.le_of_ble_eq_true rfl), (Nat.le_of_ble_eq_true rfl)⟩) hS (fun q _ h => h) (fun q h => h) (fun u21 t H1 locs ht hvm hu21 hB hz1 hk1 hS => ?_)
              have hP := hB.1
              rw [ht] at hP
              clear hB hk1 hz1 hvm ht
              generalize H1 = H at hP hS ⊢
              refine W.widen (k := 0) (n := 0) (Nat.le_refl 0) (Nat.le_refl 0) ?_
              exact W.vret hx hb hr (fun t ht hW => ⟨⟨u21, rfl, (hu21.trans hsp.symm), PM_fin hP hK ht hW⟩, hS.F ht⟩) hS.2.2 dX4_plain_191
            · have hsp := hsp.trans (if_pos c_52)
              have hok := hok.1 c_52
              refine lv_iconst (v := 1) hx hb dX4_plain_183 (by decide) ?_
              refine lv_goto (tgt := 188) hx hb dX4_plain_184 (by decide) ?_
              have h_54 := hok.1
              have hok := hok.2
              refine va_callv (va_runV (As := [.int 1]) (rest := []) ⟨hx, hb, hml, hown, hts⟩ (cM_ends l D q cI cL hq u20 1 h_54) (cwV 1 hts gX4_plain_X4_ends rfl rfl rfl (by decide +kernel) ⟨(Nat.le_of_ble_eq_true rfl), (Nat.le_of_ble_eq_true rfl)⟩) ⟨PM_blind, va_recv hK hP (ci := 7) (q0 := 0) rfl rfl, fun U hU hW => ⟨rfl, PM_fin hP hK hU hW⟩⟩ rfl rfl hl.1 rfl (lv_room (Nat.le_of_ble_eq_true rfl)) dX4_plain_188 ⟨(Nat.le_of_ble_eq_true rfl), (Nat.le_of_ble_eq_true rfl)⟩) hS (fun q _ h => h) (fun q h => h) (fun u22 t H1 locs ht hvm hu22 hB hz1 hk1 hS => ?_)
              have hP := hB.1
              rw [ht] at hP
              clear hB hk1 hz1 hvm ht
              generalize H1 = H at hP hS ⊢
              refine W.widen (k := 0) (n := 0) (Nat.le_refl 0) (Nat.le_refl 0) ?_
              exact W.vret hx hb hr (fun t ht hW => ⟨⟨u22, rfl, (hu22.trans hsp.symm), PM_fin hP hK ht hW⟩, hS.F ht⟩) hS.2.2 dX4_plain_191
