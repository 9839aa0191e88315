set_option maxHeartbeats 4000000 in
set_option maxRecDepth 100000 in
theorem cM_thing (l : Launch) (D : va_G) (q : Nat → Nat) (cI cL : ClassId) (hq : DQ 22 q) (u : St) (p1 : Int32) (p2 : Int32) (hok : okM_thing u p1 p2) : Met l yX4_thing wsX4_thing { frames := 1, cells := 0, slots := 0, locals := 24 } (va_Pc [.ref (q 0), .int p1, .int p2] (fun U => PM D q cI cL u U)) (va_Qi (fun (r : Int32) (u' : St) => (r, u') = sM_thing u p1 p2) (fun u' t => PM D q cI cL u' t) (AQ 22 q)) 0 0 (AQ 22 q) := by
  refine Met.ofW (cc := cX4_thing) (maxL := 3) (ret := (some .int)) (by decide) rfl ?_
  intro p e s m args below meth c s₁ B hml hv
  obtain ⟨rfl, hP, hK⟩ := hv
  have hx := B.exec
  have hb := B.bytes
  have hr := B.returns
  have hts := atoms_spec (ws := wsX4_thing) B.pre
  have hown : s.vm.findClass RX4 = some m.cls := findClass_of_methodNamed B.named
  have hlocks := B.notSynchronized
  have hiX4 : ∀ w ∈ u_ws RX4 TX4 29, w ∈ wsX4_thing := by decide +kernel
  have hf74 := hts (.fieldLink RX4 74 "ThingRulesModel" "thrown" "I") (by decide +kernel)
  have hf78 := hts (.fieldLink RX4 78 "ThingRulesModel" "things" "I") (by decide +kernel)
  have hS : va_S (AQ 22 q) s.heap s.heap [] := va_S.rf
  have hP : va_P D vwCl (wM q cI cL u) s.heap := hP
  have hl := lv_entry ([.ref (q 0), .int p1, .int p2]) (n := 3) (Nat.le_of_ble_eq_true rfl)
  rw [lg_entry_eq]
  generalize (lg_sl ([.ref (q 0), .int p1, .int p2]) ++ List.replicate (3 - (lg_sl ([.ref (q 0), .int p1, .int p2])).length) Slot.unset).toArray = ls at hl ⊢
  have hl : lv_has ls 3 [(0, .ref (q 0)), (1, .int p1), (2, .int p2)] := hl
  have hsp : sM_thing u p1 p2 = _ := sM_thing.eq_1 u p1 p2
  unfold okM_thing at hok
  refine lv_aload_n hx hb dX4_thing_0 rfl (lv_at hl 0 rfl) ?_
  refine lv_iconst (v := 0) hx hb dX4_thing_1 (by decide) ?_
  refine va_put (D := D) (ci := 7) (v := .int 0) (ty := .int) (C := RX4) (T := TX4) (N := 29) hx hb hts hiX4 tyX4 tyX4_ok nmX4 hown hK hP (dM hq) hS 0 rfl rfl 0 (by decide) hf74 (fun _ h9 => h9) rfl (by decide +kernel) rfl rfl (Nat.le_of_ble_eq_true rfl) dX4_thing_2 (fun H locs hP _ hS => ?_)
  obtain ⟨u1, hu1⟩ : ∃ z : St, z = (stI u 0 0) := ⟨_, rfl⟩
  have hP : va_P D vwCl (wM q cI cL u1) H := by rw [hu1]; exact hP
  have hsp := hsp.trans (bnd_eq hu1)
  have hok := bnd_ok hu1 hok
  refine lv_iload_n hx hb dX4_thing_5 rfl (lv_at hl 1 rfl) ?_
  refine lv_iconst (v := 0) hx hb dX4_thing_6 (by decide) ?_
  refine lv_iconst (v := 3) hx hb dX4_thing_7 (by decide) ?_
  refine vp_callSi (W.runS (As := [.int p1, .int 0, .int 3]) (rest := []) ⟨hx, hb, hml, hown, hts⟩ (cM_in l p1 0 3) (va_cwS 3 hts gX4_thing_X4_in rfl rfl rfl (by decide +kernel) ⟨(Nat.le_of_ble_eq_true rfl), (Nat.le_of_ble_eq_true rfl)⟩) ⟨T_blind, fun U hU hW => ⟨rfl, trivial⟩⟩ rfl rfl hl.1 rfl (lv_room (Nat.le_of_ble_eq_true rfl)) dX4_thing_8 ⟨(Nat.le_of_ble_eq_true rfl), (Nat.le_of_ble_eq_true rfl)⟩) (fun r_1 hr_1 => ?_)
  subst hr_1
  refine lv_if_eq (tgt := 27) hx hb dX4_thing_11 (by decide) (fun c_2 => ?_) (fun c_2 => ?_)
  · have hsp := hsp.trans (if_pos c_2)
    refine lv_bipush (v := (-2)) hx hb dX4_thing_27 (by decide) ?_
    exact W.iret (v := (-2)) hx hb hr (fun t ht hW => ⟨⟨(-2), u1, rfl, hsp.symm, PM_fin hP hK ht hW⟩, hS.F ht⟩) hS.2.2 dX4_thing_29
  · have hsp := hsp.trans (if_neg c_2)
    have hok := hok.2 c_2
    refine lv_iload_n hx hb dX4_thing_14 rfl (lv_at hl 2 rfl) ?_
    refine lv_sipush (v := (-999)) hx hb dX4_thing_15 (by decide) ?_
    refine lv_sipush (v := 999) hx hb dX4_thing_18 (by decide) ?_
    refine vp_callSi (W.runS (As := [.int p2, .int (-999), .int 999]) (rest := []) ⟨hx, hb, hml, hown, hts⟩ (cM_in l p2 (-999) 999) (va_cwS 3 hts gX4_thing_X4_in rfl rfl rfl (by decide +kernel) ⟨(Nat.le_of_ble_eq_true rfl), (Nat.le_of_ble_eq_true rfl)⟩) ⟨T_blind, fun U hU hW => ⟨rfl, trivial⟩⟩ rfl rfl hl.1 rfl (lv_room (Nat.le_of_ble_eq_true rfl)) dX4_thing_21 ⟨(Nat.le_of_ble_eq_true rfl), (Nat.le_of_ble_eq_true rfl)⟩) (fun r_3 hr_3 => ?_)
    subst hr_3
    refine lv_if_ne (tgt := 30) hx hb dX4_thing_24 (by decide) (fun c_4 => ?_) (fun c_4 => ?_)
    · have hsp := hsp.trans (if_neg c_4)
      have hok := hok.2 c_4
      refine lv_aload_n hx hb dX4_thing_30 rfl (lv_at hl 0 rfl) ?_
      refine va_get (D := D) (ci := 7) (v := .int (u1.1 1)) (C := RX4) (T := TX4) (N := 29) hx hb hts hiX4 hown hK hP 0 rfl rfl 1 (by decide) hf78 (fun _ h9 => h9) rfl dX4_thing_31 ?_
      refine lv_bipush (v := 80) hx hb dX4_thing_34 (by decide) ?_
      refine lv_icmp_ne (tgt := 44) hx hb dX4_thing_36 (by decide) (fun c_5 => ?_) (fun c_5 => ?_)
      · have hsp := hsp.trans (if_neg c_5)
        have hok := hok.2 c_5
        refine lv_aload_n hx hb dX4_thing_44 rfl (lv_at hl 0 rfl) ?_
        refine lv_iload_n hx hb dX4_thing_45 rfl (lv_at hl 1 rfl) ?_
        refine lv_iload_n hx hb dX4_thing_46 rfl (lv_at hl 2 rfl) ?_
        refine lv_iload_n hx hb dX4_thing_47 rfl (lv_at hl 1 rfl) ?_
        refine lv_iconst (v := 2) hx hb dX4_thing_48 (by decide) ?_
        refine lv_icmp_ne (tgt := 56) hx hb dX4_thing_49 (by decide) (fun c_6 => ?_) (fun c_6 => ?_)
        · have hsp := hsp.trans (if_neg c_6)
          have hok := hok.2 c_6
          refine lv_iconst (v := 0) hx hb dX4_thing_56 (by decide) ?_
          have h_7 := hok.1
          have hok := hok.2
          refine va_calli (va_runV (As := [.int p1, .int p2, .int 0]) (rest := []) ⟨hx, hb, hml, hown, hts⟩ (cM_make l D q cI cL hq u1 p1 p2 0 h_7) (cwV 3 hts gX4_thing_X4_make rfl rfl rfl (by decide +kernel) ⟨(Nat.le_of_ble_eq_true rfl), (Nat.le_of_ble_eq_true rfl)⟩) ⟨PM_blind, va_recv hK hP (ci := 7) (q0 := 0) rfl rfl, fun U hU hW => ⟨rfl, PM_fin hP hK hU hW⟩⟩ rfl rfl hl.1 rfl (lv_room (Nat.le_of_ble_eq_true rfl)) dX4_thing_57 ⟨(Nat.le_of_ble_eq_true rfl), (Nat.le_of_ble_eq_true rfl)⟩) hS (fun q _ h => h) (fun q h => h) (fun r2 u2 t H1 locs ht hvm hu2 hB hz1 hk1 hS => ?_)
          have hP := hB.1
          rw [ht] at hP
          clear hB hk1 hz1 hvm ht
          generalize H1 = H at hP hS ⊢
          refine W.widen (k := 0) (n := 0) (Nat.le_refl 0) (Nat.le_refl 0) ?_
          exact W.iret (v := r2) hx hb hr (fun t ht hW => ⟨⟨r2, u2, rfl, (hu2.trans hsp.symm), PM_fin hP hK ht hW⟩, hS.F ht⟩) hS.2.2 dX4_thing_60
        · have hsp := hsp.trans (if_pos c_6)
          have hok := hok.1 c_6
          refine lv_iconst (v := 2) hx hb dX4_thing_52 (by decide) ?_
          refine lv_goto (tgt := 57) hx hb dX4_thing_53 (by decide) ?_
          have h_8 := hok.1
          have hok := hok.2
          refine va_calli (va_runV (As := [.int p1, .int p2, .int 2]) (rest := []) ⟨hx, hb, hml, hown, hts⟩ (cM_make l D q cI cL hq u1 p1 p2 2 h_8) (cwV 3 hts gX4_thing_X4_make rfl rfl rfl (by decide +kernel) ⟨(Nat.le_of_ble_eq_true rfl), (Nat.le_of_ble_eq_true rfl)⟩) ⟨PM_blind, va_recv hK hP (ci := 7) (q0 := 0) rfl rfl, fun U hU hW => ⟨rfl, PM_fin hP hK hU hW⟩⟩ rfl rfl hl.1 rfl (lv_room (Nat.le_of_ble_eq_true rfl)) dX4_thing_57 ⟨(Nat.le_of_ble_eq_true rfl), (Nat.le_of_ble_eq_true rfl)⟩) hS (fun q _ h => h) (fun q h => h) (fun r3 u3 t H1 locs ht hvm hu3 hB hz1 hk1 hS => ?_)
          have hP := hB.1
          rw [ht] at hP
          clear hB hk1 hz1 hvm ht
          generalize H1 = H at hP hS ⊢
          refine W.widen (k := 0) (n := 0) (Nat.le_refl 0) (Nat.le_refl 0) ?_
          exact W.iret (v := r3) hx hb hr (fun t ht hW => ⟨⟨r3, u3, rfl, (hu3.trans hsp.symm), PM_fin hP hK ht hW⟩, hS.F ht⟩) hS.2.2 dX4_thing_60
      · have hsp := hsp.trans (if_pos c_5)
        refine lv_bipush (v := (-4)) hx hb dX4_thing_39 (by decide) ?_
        refine lv_goto (tgt := 60) hx hb dX4_thing_41 (by decide) ?_
        exact W.iret (v := (-4)) hx hb hr (fun t ht hW => ⟨⟨(-4), u1, rfl, hsp.symm, PM_fin hP hK ht hW⟩, hS.F ht⟩) hS.2.2 dX4_thing_60
    · have hsp := hsp.trans (if_pos c_4)
      refine lv_bipush (v := (-2)) hx hb dX4_thing_27 (by decide) ?_
      exact W.iret (v := (-2)) hx hb hr (fun t ht hW => ⟨⟨(-2), u1, rfl, hsp.symm, PM_fin hP hK ht hW⟩, hS.F ht⟩) hS.2.2 dX4_thing_29
set_option maxHeartbeats 4000000 in
set_option maxRecDepth 100000 in
theorem cM_row (l : Launch) (D : va_G) (q : Nat → Nat) (cI cL : ClassId) (hq : DQ 22 q) (u : St) (p1 : Int32) (p2 : Int32) (hok : okM_row u p1 p2) : Met l yX4_row wsX4_row { frames := 1, cells := 0, slots := 0, locals := 24 } (va_Pc [.ref (q 0), .int p1, .int p2] (fun U => PM D q cI cL u U)) (va_Qi (fun (r : Int32) (u' : St) => (r, u') = sM_row u p1 p2) (fun u' t => PM D q cI cL u' t) (AQ 22 q)) 0 0 (AQ 22 q) := by
  refine Met.ofW (cc := cX4_row) (maxL := 3) (ret := (some .int)) (by decide) rfl ?_
  intro p e s m args below meth c s₁ B hml hv
  obtain ⟨rfl, hP, hK⟩ := hv
  have hx := B.exec
  have hb := B.bytes
  have hr := B.returns
  have hts := atoms_spec (ws := wsX4_row) B.pre
  have hown : s.vm.findClass RX4 = some m.cls := findClass_of_methodNamed B.named
  have hlocks := B.notSynchronized
  have hiX4 : ∀ w ∈ u_ws RX4 TX4 29, w ∈ wsX4_row := by decide +kernel
  have hf74 := hts (.fieldLink RX4 74 "ThingRulesModel" "thrown" "I") (by decide +kernel)
  have hf78 := hts (.fieldLink RX4 78 "ThingRulesModel" "things" "I") (by decide +kernel)
  have hS : va_S (AQ 22 q) s.heap s.heap [] := va_S.rf
  have hP : va_P D vwCl (wM q cI cL u) s.heap := hP
  have hl := lv_entry ([.ref (q 0), .int p1, .int p2]) (n := 3) (Nat.le_of_ble_eq_true rfl)
  rw [lg_entry_eq]
  generalize (lg_sl ([.ref (q 0), .int p1, .int p2]) ++ List.replicate (3 - (lg_sl ([.ref (q 0), .int p1, .int p2])).length) Slot.unset).toArray = ls at hl ⊢
  have hl : lv_has ls 3 [(0, .ref (q 0)), (1, .int p1), (2, .int p2)] := hl
  have hsp : sM_row u p1 p2 = _ := sM_row.eq_1 u p1 p2
  unfold okM_row at hok
  refine lv_aload_n hx hb dX4_row_0 rfl (lv_at hl 0 rfl) ?_
  refine lv_iconst (v := 0) hx hb dX4_row_1 (by decide) ?_
  refine va_put (D := D) (ci := 7) (v := .int 0) (ty := .int) (C := RX4) (T := TX4) (N := 29) hx hb hts hiX4 tyX4 tyX4_ok nmX4 hown hK hP (dM hq) hS 0 rfl rfl 0 (by decide) hf74 (fun _ h9 => h9) rfl (by decide +kernel) rfl rfl (Nat.le_of_ble_eq_true rfl) dX4_row_2 (fun H locs hP _ hS => ?_)
  obtain ⟨u1, hu1⟩ : ∃ z : St, z = (stI u 0 0) := ⟨_, rfl⟩
  have hP : va_P D vwCl (wM q cI cL u1) H := by rw [hu1]; exact hP
  have hsp := hsp.trans (bnd_eq hu1)
  have hok := bnd_ok hu1 hok
  refine lv_iload_n hx hb dX4_row_5 rfl (lv_at hl 1 rfl) ?_
  refine lv_iconst (v := 4) hx hb dX4_row_6 (by decide) ?_
  refine lv_bipush (v := 13) hx hb dX4_row_7 (by decide) ?_
  refine vp_callSi (W.runS (As := [.int p1, .int 4, .int 13]) (rest := []) ⟨hx, hb, hml, hown, hts⟩ (cM_in l p1 4 13) (va_cwS 3 hts gX4_row_X4_in rfl rfl rfl (by decide +kernel) ⟨(Nat.le_of_ble_eq_true rfl), (Nat.le_of_ble_eq_true rfl)⟩) ⟨T_blind, fun U hU hW => ⟨rfl, trivial⟩⟩ rfl rfl hl.1 rfl (lv_room (Nat.le_of_ble_eq_true rfl)) dX4_row_9 ⟨(Nat.le_of_ble_eq_true rfl), (Nat.le_of_ble_eq_true rfl)⟩) (fun r_1 hr_1 => ?_)
  subst hr_1
  refine lv_if_eq (tgt := 21) hx hb dX4_row_12 (by decide) (fun c_2 => ?_) (fun c_2 => ?_)
  · have hsp := hsp.trans (if_pos c_2)
    refine lv_bipush (v := (-2)) hx hb dX4_row_21 (by decide) ?_
    exact W.iret (v := (-2)) hx hb hr (fun t ht hW => ⟨⟨(-2), u1, rfl, hsp.symm, PM_fin hP hK ht hW⟩, hS.F ht⟩) hS.2.2 dX4_row_23
  · have hsp := hsp.trans (if_neg c_2)
    have hok := hok.2 c_2
    refine lv_iload_n hx hb dX4_row_15 rfl (lv_at hl 2 rfl) ?_
    refine lv_bipush (v := 6) hx hb dX4_row_16 (by decide) ?_
    refine lv_icmp_le (tgt := 24) hx hb dX4_row_18 (by decide) (fun c_3 => ?_) (fun c_3 => ?_)
    · have hsp := hsp.trans (if_pos c_3)
      have hok := hok.1 c_3
      refine lv_aload_n hx hb dX4_row_24 rfl (lv_at hl 0 rfl) ?_
      refine va_get (D := D) (ci := 7) (v := .int (u1.1 1)) (C := RX4) (T := TX4) (N := 29) hx hb hts hiX4 hown hK hP 0 rfl rfl 1 (by decide) hf78 (fun _ h9 => h9) rfl dX4_row_25 ?_
      refine lv_bipush (v := 80) hx hb dX4_row_28 (by decide) ?_
      refine lv_icmp_ne (tgt := 36) hx hb dX4_row_30 (by decide) (fun c_4 => ?_) (fun c_4 => ?_)
      · have hsp := hsp.trans (if_neg c_4)
        have hok := hok.2 c_4
        refine lv_iload_n hx hb dX4_row_36 rfl (lv_at hl 2 rfl) ?_
        refine lv_if_ge (tgt := 49) hx hb dX4_row_37 (by decide) (fun c_5 => ?_) (fun c_5 => ?_)
        · have hsp := hsp.trans (if_pos c_5)
          have hok := hok.1 c_5
          refine lv_aload_n hx hb dX4_row_49 rfl (lv_at hl 0 rfl) ?_
          refine lv_iload_n hx hb dX4_row_50 rfl (lv_at hl 1 rfl) ?_
          refine lv_iconst (v := 0) hx hb dX4_row_51 (by decide) ?_
          refine lv_iload_n hx hb dX4_row_52 rfl (lv_at hl 2 rfl) ?_
          have h_6 := hok.1
          have hok := hok.2
          refine va_calli (va_runV (As := [.int p1, .int 0, .int p2]) (rest := []) ⟨hx, hb, hml, hown, hts⟩ (cM_make l D q cI cL hq u1 p1 0 p2 h_6) (cwV 3 hts gX4_row_X4_make rfl rfl rfl (by decide +kernel) ⟨(Nat.le_of_ble_eq_true rfl), (Nat.le_of_ble_eq_true rfl)⟩) ⟨PM_blind, va_recv hK hP (ci := 7) (q0 := 0) rfl rfl, fun U hU hW => ⟨rfl, PM_fin hP hK hU hW⟩⟩ rfl rfl hl.1 rfl (lv_room (Nat.le_of_ble_eq_true rfl)) dX4_row_53 ⟨(Nat.le_of_ble_eq_true rfl), (Nat.le_of_ble_eq_true rfl)⟩) hS (fun q _ h => h) (fun q h => h) (fun r2 u2 t H1 locs ht hvm hu2 hB hz1 hk1 hS => ?_)
          have hP := hB.1
          rw [ht] at hP
          clear hB hk1 hz1 hvm ht
          generalize H1 = H at hP hS ⊢
          refine W.widen (k := 0) (n := 0) (Nat.le_refl 0) (Nat.le_refl 0) ?_
          exact W.iret (v := r2) hx hb hr (fun t ht hW => ⟨⟨r2, u2, rfl, (hu2.trans hsp.symm), PM_fin hP hK ht hW⟩, hS.F ht⟩) hS.2.2 dX4_row_56
        · have hsp := hsp.trans (if_neg c_5)
          have hok := hok.2 c_5
          refine lv_aload_n hx hb dX4_row_40 rfl (lv_at hl 0 rfl) ?_
          refine lv_bipush (v := (-25)) hx hb dX4_row_41 (by decide) ?_
          have h_7 := hok.1
          have hok := hok.2
          refine va_calli (va_runV (As := [.int (-25)]) (rest := []) ⟨hx, hb, hml, hown, hts⟩ (cM_finds l D q cI cL hq u1 (-25) h_7) (cwV 1 hts gX4_row_X4_finds rfl rfl rfl (by decide +kernel) ⟨(Nat.le_of_ble_eq_true rfl), (Nat.le_of_ble_eq_true rfl)⟩) ⟨PM_blind, va_recv hK hP (ci := 7) (q0 := 0) rfl rfl, fun U hU hW => ⟨rfl, PM_fin hP hK hU hW⟩⟩ rfl rfl hl.1 rfl (lv_room (Nat.le_of_ble_eq_true rfl)) dX4_row_43 ⟨(Nat.le_of_ble_eq_true rfl), (Nat.le_of_ble_eq_true rfl)⟩) hS (fun q _ h => h) (fun q h => h) (fun r3 u3 t H1 locs ht hvm hu3 hB hz1 hk1 hS => ?_)
          have hP := hB.1
          rw [ht] at hP
          clear hB hk1 hz1 hvm ht
          generalize H1 = H at hP hS ⊢
          refine W.widen (k := 0) (n := 0) (Nat.le_refl 0) (Nat.le_refl 0) ?_
          have hsp := hsp.trans (bnd2_eq hu3)
          refine lv_goto (tgt := 56) hx hb dX4_row_46 (by decide) ?_
          exact W.iret (v := r3) hx hb hr (fun t ht hW => ⟨⟨r3, u3, rfl, hsp.symm, PM_fin hP hK ht hW⟩, hS.F ht⟩) hS.2.2 dX4_row_56
      · have hsp := hsp.trans (if_pos c_4)
        refine lv_bipush (v := (-4)) hx hb dX4_row_33 (by decide) ?_
        exact W.iret (v := (-4)) hx hb hr (fun t ht hW => ⟨⟨(-4), u1, rfl, hsp.symm, PM_fin hP hK ht hW⟩, hS.F ht⟩) hS.2.2 dX4_row_35
    · have hsp := hsp.trans (if_neg c_3)
      refine lv_bipush (v := (-2)) hx hb dX4_row_21 (by decide) ?_
      exact W.iret (v := (-2)) hx hb hr (fun t ht hW => ⟨⟨(-2), u1, rfl, hsp.symm, PM_fin hP hK ht hW⟩, hS.F ht⟩) hS.2.2 dX4_row_23
set_option maxHeartbeats 4000000 in
set_option maxRecDepth 100000 in
theorem cM_lays (l : Launch) (D : va_G) (q : Nat → Nat) (cI cL : ClassId) (hq : DQ 22 q) (u : St) (p1 : Int32) (p2 : Int32) (p3 : Int32) (p4 : Int32) (hok : okM_lays u p1 p2 p3 p4) : Met l yX4_lays wsX4_lays { frames := 2, cells := 0, slots := 0, locals := 43 } (va_Pc [.ref (q 0), .int p1, .int p2, .int p3, .int p4] (fun U => PM D q cI cL u U)) (va_Qi (fun (r : Int32) (u' : St) => (r, u') = sM_lays u p1 p2 p3 p4) (fun u' t => PM D q cI cL u' t) (AQ 22 q)) 0 0 (AQ 22 q) := by
  refine Met.ofW (cc := cX4_lays) (maxL := 5) (ret := (some .int)) (by decide) rfl ?_
  intro p e s m args below meth c s₁ B hml hv
  obtain ⟨rfl, hP, hK⟩ := hv
  have hx := B.exec
  have hb := B.bytes
  have hr := B.returns
  have hts := atoms_spec (ws := wsX4_lays) B.pre
  have hown : s.vm.findClass RX4 = some m.cls := findClass_of_methodNamed B.named
  have hlocks := B.notSynchronized
  have hiX4 : ∀ w ∈ u_ws RX4 TX4 29, w ∈ wsX4_lays := by decide +kernel
  have hf16 := hts (.fieldLink RX4 16 "ThingRulesModel" "size" "[I") (by decide +kernel)
  have hf7 := hts (.fieldLink RX4 7 "ThingRulesModel" "form" "[I") (by decide +kernel)
  have hf23 := hts (.fieldLink RX4 23 "ThingRulesModel" "piece" "[I") (by decide +kernel)
  have hS : va_S (AQ 22 q) s.heap s.heap [] := va_S.rf
  have hP : va_P D vwCl (wM q cI cL u) s.heap := hP
  have hl := lv_entry ([.ref (q 0), .int p1, .int p2, .int p3, .int p4]) (n := 5) (Nat.le_of_ble_eq_true rfl)
  rw [lg_entry_eq]
  generalize (lg_sl ([.ref (q 0), .int p1, .int p2, .int p3, .int p4]) ++ List.replicate (5 - (lg_sl ([.ref (q 0), .int p1, .int p2, .int p3, .int p4])).length) Slot.unset).toArray = ls at hl ⊢
  have hl : lv_has ls 5 [(0, .ref (q 0)), (1, .int p1), (2, .int p2), (3, .int p3), (4, .int p4)] := hl
  have hsp : sM_lays u p1 p2 p3 p4 = _ := sM_lays.eq_1 u p1 p2 p3 p4
  unfold okM_lays at hok
  refine lv_aload_n hx hb dX4_lays_0 rfl (lv_at hl 0 rfl) ?_
  refine lv_iload_n hx hb dX4_lays_1 rfl (lv_at hl 1 rfl) ?_
  refine lv_iload_n hx hb dX4_lays_2 rfl (lv_at hl 2 rfl) ?_
  have h_1 := hok.1
  have hok := hok.2
  refine vp_callSi (W.runV (As := [.int p1, .int p2]) (rest := []) ⟨hx, hb, hml, hown, hts⟩ (cM_passes l D q cI cL u p1 p2 h_1) (cwV 2 hts gX4_lays_X4_passes rfl rfl rfl (by decide +kernel) ⟨(Nat.le_of_ble_eq_true rfl), (Nat.le_of_ble_eq_true rfl)⟩) ⟨PM_blind, va_recv hK hP (ci := 7) (q0 := 0) rfl rfl, fun U hU hW => ⟨rfl, PM_fin hP hK hU hW⟩⟩ rfl rfl hl.1 rfl (lv_room (Nat.le_of_ble_eq_true rfl)) dX4_lays_3 ⟨(Nat.le_of_ble_eq_true rfl), (Nat.le_of_ble_eq_true rfl)⟩) (fun r_2 hr_2 => ?_)
  subst hr_2
  refine lv_if_eq (tgt := 22) hx hb dX4_lays_6 (by decide) (fun c_3 => ?_) (fun c_3 => ?_)
  · have hsp := hsp.trans (if_pos c_3)
    have hok := hok.1 c_3
    refine lv_aload_n hx hb dX4_lays_22 rfl (lv_at hl 0 rfl) ?_
    refine lv_bipush (v := (-21)) hx hb dX4_lays_23 (by decide) ?_
    have h_4 := hok.1
    have hok := hok.2
    refine va_calli (va_runV (As := [.int (-21)]) (rest := []) ⟨hx, hb, hml, hown, hts⟩ (cM_finds l D q cI cL hq u (-21) h_4) (cwV 1 hts gX4_lays_X4_finds rfl rfl rfl (by decide +kernel) ⟨(Nat.le_of_ble_eq_true rfl), (Nat.le_of_ble_eq_true rfl)⟩) ⟨PM_blind, va_recv hK hP (ci := 7) (q0 := 0) rfl rfl, fun U hU hW => ⟨rfl, PM_fin hP hK hU hW⟩⟩ rfl rfl hl.1 rfl (lv_room (Nat.le_of_ble_eq_true rfl)) dX4_lays_25 ⟨(Nat.le_of_ble_eq_true rfl), (Nat.le_of_ble_eq_true rfl)⟩) hS (fun q _ h => h) (fun q h => h) (fun r1 u1 t H1 locs ht hvm hu1 hB hz1 hk1 hS => ?_)
    have hP := hB.1
    rw [ht] at hP
    clear hB hk1 hz1 hvm ht
    generalize H1 = H at hP hS ⊢
    refine W.widen (k := 0) (n := 0) (Nat.le_refl 0) (Nat.le_refl 0) ?_
    exact W.iret (v := r1) hx hb hr (fun t ht hW => ⟨⟨r1, u1, rfl, (hu1.trans hsp.symm), PM_fin hP hK ht hW⟩, hS.F ht⟩) hS.2.2 dX4_lays_28
  · have hsp := hsp.trans (if_neg c_3)
    have hok := hok.2 c_3
    refine lv_aload_n hx hb dX4_lays_9 rfl (lv_at hl 0 rfl) ?_
    refine lv_iload hx hb dX4_lays_10 (lv_at hl 4 rfl) ?_
    refine lv_iload_n hx hb dX4_lays_12 rfl (lv_at hl 2 rfl) ?_
    refine vp_callSi (W.runS (As := [.int p2]) (rest := [.int p4, .ref (q 0)]) ⟨hx, hb, hml, hown, hts⟩ (cM_of l p2) (va_cwS 1 hts gX4_lays_X4_of rfl rfl rfl (by decide +kernel) ⟨(Nat.le_of_ble_eq_true rfl), (Nat.le_of_ble_eq_true rfl)⟩) ⟨T_blind, fun U hU hW => ⟨rfl, trivial⟩⟩ rfl rfl hl.1 rfl (lv_room (Nat.le_of_ble_eq_true rfl)) dX4_lays_13 ⟨(Nat.le_of_ble_eq_true rfl), (Nat.le_of_ble_eq_true rfl)⟩) (fun r_5 hr_5 => ?_)
    subst hr_5
    have h_6 := hok.1
    have hok := hok.2
    refine vp_callSi (W.runV (As := [.int p4, .int (sM_of p2)]) (rest := []) ⟨hx, hb, hml, hown, hts⟩ (cM_passes l D q cI cL u p4 (sM_of p2) h_6) (cwV 2 hts gX4_lays_X4_passes rfl rfl rfl (by decide +kernel) ⟨(Nat.le_of_ble_eq_true rfl), (Nat.le_of_ble_eq_true rfl)⟩) ⟨PM_blind, va_recv hK hP (ci := 7) (q0 := 0) rfl rfl, fun U hU hW => ⟨rfl, PM_fin hP hK hU hW⟩⟩ rfl rfl hl.1 rfl (lv_room (Nat.le_of_ble_eq_true rfl)) dX4_lays_16 ⟨(Nat.le_of_ble_eq_true rfl), (Nat.le_of_ble_eq_true rfl)⟩) (fun r_7 hr_7 => ?_)
    subst hr_7
    refine lv_if_ne (tgt := 29) hx hb dX4_lays_19 (by decide) (fun c_8 => ?_) (fun c_8 => ?_)
    · have hsp := hsp.trans (if_neg c_8)
      have hok := hok.2 c_8
      refine lv_iload_n hx hb dX4_lays_29 rfl (lv_at hl 1 rfl) ?_
      refine lv_if_ge (tgt := 40) hx hb dX4_lays_30 (by decide) (fun c_9 => ?_) (fun c_9 => ?_)
      · have hsp := hsp.trans (if_pos c_9)
        have hok := hok.1 c_9
        refine lv_iload_n hx hb dX4_lays_40 rfl (lv_at hl 3 rfl) ?_
        refine lv_iconst (v := 0) hx hb dX4_lays_41 (by decide) ?_
        refine lv_aload_n hx hb dX4_lays_42 rfl (lv_at hl 0 rfl) ?_
        refine va_get (D := D) (ci := 7) (v := .ref (q 3)) (C := RX4) (T := TX4) (N := 29) hx hb hts hiX4 hown hK hP 0 rfl rfl 4 (by decide) hf16 (fun _ h9 => h9) rfl dX4_lays_43 ?_
        refine lv_iload_n hx hb dX4_lays_46 rfl (lv_at hl 1 rfl) ?_
        have h_10 := hok.1
        have hok := hok.2
        refine va_iald hx hb hK hP 3 0 rfl rfl h_10 dX4_lays_47 ?_
        refine lv_iconst (v := 1) hx hb dX4_lays_48 (by decide) ?_
        refine lv_isub hx hb dX4_lays_49 ?_
        refine vp_callSi (W.runS (As := [.int p3, .int 0, .int ((u.2.1 3 p1.toNatClampNeg) - 1)]) (rest := []) ⟨hx, hb, hml, hown, hts⟩ (cM_in l p3 0 ((u.2.1 3 p1.toNatClampNeg) - 1)) (va_cwS 3 hts gX4_lays_X4_in rfl rfl rfl (by decide +kernel) ⟨(Nat.le_of_ble_eq_true rfl), (Nat.le_of_ble_eq_true rfl)⟩) ⟨T_blind, fun U hU hW => ⟨rfl, trivial⟩⟩ rfl rfl hl.1 rfl (lv_room (Nat.le_of_ble_eq_true rfl)) dX4_lays_50 ⟨(Nat.le_of_ble_eq_true rfl), (Nat.le_of_ble_eq_true rfl)⟩) (fun r_11 hr_11 => ?_)
        subst hr_11
        refine lv_if_ne (tgt := 63) hx hb dX4_lays_53 (by decide) (fun c_12 => ?_) (fun c_12 => ?_)
        · have hsp := hsp.trans (if_neg c_12)
          have hok := hok.2 c_12
          refine lv_aload_n hx hb dX4_lays_63 rfl (lv_at hl 0 rfl) ?_
          refine lv_iload hx hb dX4_lays_64 (lv_at hl 4 rfl) ?_
          refine lv_aload_n hx hb dX4_lays_66 rfl (lv_at hl 0 rfl) ?_
          refine va_get (D := D) (ci := 7) (v := .ref (q 1)) (C := RX4) (T := TX4) (N := 29) hx hb hts hiX4 hown hK hP 0 rfl rfl 2 (by decide) hf7 (fun _ h9 => h9) rfl dX4_lays_67 ?_
          refine lv_iload_n hx hb dX4_lays_70 rfl (lv_at hl 1 rfl) ?_
          have h_13 := hok.1
          have hok := hok.2
          refine va_iald hx hb hK hP 1 0 rfl rfl h_13 dX4_lays_71 ?_
          refine vp_callSi (W.runS (As := [.int (u.2.1 1 p1.toNatClampNeg)]) (rest := [.int p4, .ref (q 0)]) ⟨hx, hb, hml, hown, hts⟩ (cM_of l (u.2.1 1 p1.toNatClampNeg)) (va_cwS 1 hts gX4_lays_X4_of rfl rfl rfl (by decide +kernel) ⟨(Nat.le_of_ble_eq_true rfl), (Nat.le_of_ble_eq_true rfl)⟩) ⟨T_blind, fun U hU hW => ⟨rfl, trivial⟩⟩ rfl rfl hl.1 rfl (lv_room (Nat.le_of_ble_eq_true rfl)) dX4_lays_72 ⟨(Nat.le_of_ble_eq_true rfl), (Nat.le_of_ble_eq_true rfl)⟩) (fun r_14 hr_14 => ?_)
          subst hr_14
          have h_15 := hok.1
          have hok := hok.2
          refine vp_callSi (W.runV (As := [.int p4, .int (sM_of (u.2.1 1 p1.toNatClampNeg))]) (rest := []) ⟨hx, hb, hml, hown, hts⟩ (cM_passes l D q cI cL u p4 (sM_of (u.2.1 1 p1.toNatClampNeg)) h_15) (cwV 2 hts gX4_lays_X4_passes rfl rfl rfl (by decide +kernel) ⟨(Nat.le_of_ble_eq_true rfl), (Nat.le_of_ble_eq_true rfl)⟩) ⟨PM_blind, va_recv hK hP (ci := 7) (q0 := 0) rfl rfl, fun U hU hW => ⟨rfl, PM_fin hP hK hU hW⟩⟩ rfl rfl hl.1 rfl (lv_room (Nat.le_of_ble_eq_true rfl)) dX4_lays_75 ⟨(Nat.le_of_ble_eq_true rfl), (Nat.le_of_ble_eq_true rfl)⟩) (fun r_16 hr_16 => ?_)
          subst hr_16
          refine lv_if_ne (tgt := 88) hx hb dX4_lays_78 (by decide) (fun c_17 => ?_) (fun c_17 => ?_)
          · have hsp := hsp.trans (if_neg c_17)
            have hok := hok.2 c_17
            refine lv_aload_n hx hb dX4_lays_88 rfl (lv_at hl 0 rfl) ?_
            refine va_get (D := D) (ci := 7) (v := .ref (q 5)) (C := RX4) (T := TX4) (N := 29) hx hb hts hiX4 hown hK hP 0 rfl rfl 6 (by decide) hf23 (fun _ h9 => h9) rfl dX4_lays_89 ?_
            refine lv_bipush (v := 6) hx hb dX4_lays_92 (by decide) ?_
            refine lv_iload_n hx hb dX4_lays_94 rfl (lv_at hl 1 rfl) ?_
            refine lv_imul hx hb dX4_lays_95 ?_
            refine lv_iload_n hx hb dX4_lays_96 rfl (lv_at hl 3 rfl) ?_
            refine lv_iadd hx hb dX4_lays_97 ?_
            refine lv_iload hx hb dX4_lays_98 (lv_at hl 4 rfl) ?_
            have h_18 := hok.1
            have hok := hok.2
            refine va_iast hx hb hK hP (dM hq) hS 5 0 rfl rfl h_18 dX4_lays_100 (fun H locs hP _ hS => ?_)
            obtain ⟨u2, hu2⟩ : ∃ z : St, z = (stA u 5 ((6 * p1) + p3).toNatClampNeg p4) := ⟨_, rfl⟩
            have hP : va_P D vwCl (wM q cI cL u2) H := by rw [hu2]; exact hP
            have hsp := hsp.trans (bnd_eq hu2)
            refine lv_iconst (v := 1) hx hb dX4_lays_101 (by decide) ?_
            exact W.iret (v := 1) hx hb hr (fun t ht hW => ⟨⟨1, u2, rfl, hsp.symm, PM_fin hP hK ht hW⟩, hS.F ht⟩) hS.2.2 dX4_lays_102
          · have hsp := hsp.trans (if_pos c_17)
            have hok := hok.1 c_17
            refine lv_aload_n hx hb dX4_lays_81 rfl (lv_at hl 0 rfl) ?_
            refine lv_bipush (v := (-24)) hx hb dX4_lays_82 (by decide) ?_
            have h_19 := hok.1
            have hok := hok.2
            refine va_calli (va_runV (As := [.int (-24)]) (rest := []) ⟨hx, hb, hml, hown, hts⟩ (cM_finds l D q cI cL hq u (-24) h_19) (cwV 1 hts gX4_lays_X4_finds rfl rfl rfl (by decide +kernel) ⟨(Nat.le_of_ble_eq_true rfl), (Nat.le_of_ble_eq_true rfl)⟩) ⟨PM_blind, va_recv hK hP (ci := 7) (q0 := 0) rfl rfl, fun U hU hW => ⟨rfl, PM_fin hP hK hU hW⟩⟩ rfl rfl hl.1 rfl (lv_room (Nat.le_of_ble_eq_true rfl)) dX4_lays_84 ⟨(Nat.le_of_ble_eq_true rfl), (Nat.le_of_ble_eq_true rfl)⟩) hS (fun q _ h => h) (fun q h => h) (fun r3 u3 t H1 locs ht hvm hu3 hB hz1 hk1 hS => ?_)
            have hP := hB.1
            rw [ht] at hP
            clear hB hk1 hz1 hvm ht
            generalize H1 = H at hP hS ⊢
            refine W.widen (k := 0) (n := 0) (Nat.le_refl 0) (Nat.le_refl 0) ?_
            exact W.iret (v := r3) hx hb hr (fun t ht hW => ⟨⟨r3, u3, rfl, (hu3.trans hsp.symm), PM_fin hP hK ht hW⟩, hS.F ht⟩) hS.2.2 dX4_lays_87
        · have hsp := hsp.trans (if_pos c_12)
          have hok := hok.1 c_12
          refine lv_aload_n hx hb dX4_lays_56 rfl (lv_at hl 0 rfl) ?_
          refine lv_bipush (v := (-23)) hx hb dX4_lays_57 (by decide) ?_
          have h_20 := hok.1
          have hok := hok.2
          refine va_calli (va_runV (As := [.int (-23)]) (rest := []) ⟨hx, hb, hml, hown, hts⟩ (cM_finds l D q cI cL hq u (-23) h_20) (cwV 1 hts gX4_lays_X4_finds rfl rfl rfl (by decide +kernel) ⟨(Nat.le_of_ble_eq_true rfl), (Nat.le_of_ble_eq_true rfl)⟩) ⟨PM_blind, va_recv hK hP (ci := 7) (q0 := 0) rfl rfl, fun U hU hW => ⟨rfl, PM_fin hP hK hU hW⟩⟩ rfl rfl hl.1 rfl (lv_room (Nat.le_of_ble_eq_true rfl)) dX4_lays_59 ⟨(Nat.le_of_ble_eq_true rfl), (Nat.le_of_ble_eq_true rfl)⟩) hS (fun q _ h => h) (fun q h => h) (fun r4 u4 t H1 locs ht hvm hu4 hB hz1 hk1 hS => ?_)
          have hP := hB.1
          rw [ht] at hP
          clear hB hk1 hz1 hvm ht
          generalize H1 = H at hP hS ⊢
          refine W.widen (k := 0) (n := 0) (Nat.le_refl 0) (Nat.le_refl 0) ?_
          exact W.iret (v := r4) hx hb hr (fun t ht hW => ⟨⟨r4, u4, rfl, (hu4.trans hsp.symm), PM_fin hP hK ht hW⟩, hS.F ht⟩) hS.2.2 dX4_lays_62
      · have hsp := hsp.trans (if_neg c_9)
        have hok := hok.2 c_9
        refine lv_aload_n hx hb dX4_lays_33 rfl (lv_at hl 0 rfl) ?_
        refine lv_bipush (v := (-22)) hx hb dX4_lays_34 (by decide) ?_
        have h_21 := hok.1
        have hok := hok.2
        refine va_calli (va_runV (As := [.int (-22)]) (rest := []) ⟨hx, hb, hml, hown, hts⟩ (cM_finds l D q cI cL hq u (-22) h_21) (cwV 1 hts gX4_lays_X4_finds rfl rfl rfl (by decide +kernel) ⟨(Nat.le_of_ble_eq_true rfl), (Nat.le_of_ble_eq_true rfl)⟩) ⟨PM_blind, va_recv hK hP (ci := 7) (q0 := 0) rfl rfl, fun U hU hW => ⟨rfl, PM_fin hP hK hU hW⟩⟩ rfl rfl hl.1 rfl (lv_room (Nat.le_of_ble_eq_true rfl)) dX4_lays_36 ⟨(Nat.le_of_ble_eq_true rfl), (Nat.le_of_ble_eq_true rfl)⟩) hS (fun q _ h => h) (fun q h => h) (fun r5 u5 t H1 locs ht hvm hu5 hB hz1 hk1 hS => ?_)
        have hP := hB.1
        rw [ht] at hP
        clear hB hk1 hz1 hvm ht
        generalize H1 = H at hP hS ⊢
        refine W.widen (k := 0) (n := 0) (Nat.le_refl 0) (Nat.le_refl 0) ?_
        exact W.iret (v := r5) hx hb hr (fun t ht hW => ⟨⟨r5, u5, rfl, (hu5.trans hsp.symm), PM_fin hP hK ht hW⟩, hS.F ht⟩) hS.2.2 dX4_lays_39
    · have hsp := hsp.trans (if_pos c_8)
      have hok := hok.1 c_8
      refine lv_aload_n hx hb dX4_lays_22 rfl (lv_at hl 0 rfl) ?_
      refine lv_bipush (v := (-21)) hx hb dX4_lays_23 (by decide) ?_
      have h_22 := hok.1
      have hok := hok.2
      refine va_calli (va_runV (As := [.int (-21)]) (rest := []) ⟨hx, hb, hml, hown, hts⟩ (cM_finds l D q cI cL hq u (-21) h_22) (cwV 1 hts gX4_lays_X4_finds rfl rfl rfl (by decide +kernel) ⟨(Nat.le_of_ble_eq_true rfl), (Nat.le_of_ble_eq_true rfl)⟩) ⟨PM_blind, va_recv hK hP (ci := 7) (q0 := 0) rfl rfl, fun U hU hW => ⟨rfl, PM_fin hP hK hU hW⟩⟩ rfl rfl hl.1 rfl (lv_room (Nat.le_of_ble_eq_true rfl)) dX4_lays_25 ⟨(Nat.le_of_ble_eq_true rfl), (Nat.le_of_ble_eq_true rfl)⟩) hS (fun q _ h => h) (fun q h => h) (fun r6 u6 t H1 locs ht hvm hu6 hB hz1 hk1 hS => ?_)
      have hP := hB.1
      rw [ht] at hP
      clear hB hk1 hz1 hvm ht
      generalize H1 = H at hP hS ⊢
      refine W.widen (k := 0) (n := 0) (Nat.le_refl 0) (Nat.le_refl 0) ?_
      exact W.iret (v := r6) hx hb hr (fun t ht hW => ⟨⟨r6, u6, rfl, (hu6.trans hsp.symm), PM_fin hP hK ht hW⟩, hS.F ht⟩) hS.2.2 dX4_lays_28
set_option maxHeartbeats 4000000 in
set_option maxRecDepth 100000 in
theorem cM_lay (l : Launch) (D : va_G) (q : Nat → Nat) (cI cL : ClassId) (hq : DQ 22 q) (u : St) (p1 : Int32) (p2 : Int32) (p3 : Int32) (p4 : Int32) (hok : okM_lay u p1 p2 p3 p4) : Met l yX4_lay wsX4_lay { frames := 3, cells := 0, slots := 0, locals := 67 } (va_Pc [.ref (q 0), .int p1, .int p2, .int p3, .int p4] (fun U => PM D q cI cL u U)) (va_Qi (fun (r : Int32) (u' : St) => (r, u') = sM_lay u p1 p2 p3 p4) (fun u' t => PM D q cI cL u' t) (AQ 22 q)) 0 0 (AQ 22 q) := by
  refine Met.ofW (cc := cX4_lay) (maxL := 5) (ret := (some .int)) (by decide) rfl ?_
  intro p e s m args below meth c s₁ B hml hv
  obtain ⟨rfl, hP, hK⟩ := hv
  have hx := B.exec
  have hb := B.bytes
  have hr := B.returns
  have hts := atoms_spec (ws := wsX4_lay) B.pre
  have hown : s.vm.findClass RX4 = some m.cls := findClass_of_methodNamed B.named
  have hlocks := B.notSynchronized
  have hiX4 : ∀ w ∈ u_ws RX4 TX4 29, w ∈ wsX4_lay := by decide +kernel
  have hf74 := hts (.fieldLink RX4 74 "ThingRulesModel" "thrown" "I") (by decide +kernel)
  have hS : va_S (AQ 22 q) s.heap s.heap [] := va_S.rf
  have hP : va_P D vwCl (wM q cI cL u) s.heap := hP
  have hl := lv_entry ([.ref (q 0), .int p1, .int p2, .int p3, .int p4]) (n := 5) (Nat.le_of_ble_eq_true rfl)
  rw [lg_entry_eq]
  generalize (lg_sl ([.ref (q 0), .int p1, .int p2, .int p3, .int p4]) ++ List.replicate (5 - (lg_sl ([.ref (q 0), .int p1, .int p2, .int p3, .int p4])).length) Slot.unset).toArray = ls at hl ⊢
  have hl : lv_has ls 5 [(0, .ref (q 0)), (1, .int p1), (2, .int p2), (3, .int p3), (4, .int p4)] := hl
  have hsp : sM_lay u p1 p2 p3 p4 = _ := sM_lay.eq_1 u p1 p2 p3 p4
  unfold okM_lay at hok
  refine lv_aload_n hx hb dX4_lay_0 rfl (lv_at hl 0 rfl) ?_
  refine lv_iconst (v := 0) hx hb dX4_lay_1 (by decide) ?_
  refine va_put (D := D) (ci := 7) (v := .int 0) (ty := .int) (C := RX4) (T := TX4) (N := 29) hx hb hts hiX4 tyX4 tyX4_ok nmX4 hown hK hP (dM hq) hS 0 rfl rfl 0 (by decide) hf74 (fun _ h9 => h9) rfl (by decide +kernel) rfl rfl (Nat.le_of_ble_eq_true rfl) dX4_lay_2 (fun H locs hP _ hS => ?_)
  obtain ⟨u1, hu1⟩ : ∃ z : St, z = (stI u 0 0) := ⟨_, rfl⟩
  have hP : va_P D vwCl (wM q cI cL u1) H := by rw [hu1]; exact hP
  have hsp := hsp.trans (bnd_eq hu1)
  have hok := bnd_ok hu1 hok
  refine lv_aload_n hx hb dX4_lay_5 rfl (lv_at hl 0 rfl) ?_
  refine lv_iload_n hx hb dX4_lay_6 rfl (lv_at hl 1 rfl) ?_
  refine vp_callSi (W.runV (As := [.int p1]) (rest := []) ⟨hx, hb, hml, hown, hts⟩ (cM_isThing l D q cI cL u1 p1) (cwV 1 hts gX4_lay_X4_isThing rfl rfl rfl (by decide +kernel) ⟨(Nat.le_of_ble_eq_true rfl), (Nat.le_of_ble_eq_true rfl)⟩) ⟨PM_blind, va_recv hK hP (ci := 7) (q0 := 0) rfl rfl, fun U hU hW => ⟨rfl, PM_fin hP hK hU hW⟩⟩ rfl rfl hl.1 rfl (lv_room (Nat.le_of_ble_eq_true rfl)) dX4_lay_7 ⟨(Nat.le_of_ble_eq_true rfl), (Nat.le_of_ble_eq_true rfl)⟩) (fun r_1 hr_1 => ?_)
  subst hr_1
  refine lv_if_eq (tgt := 22) hx hb dX4_lay_10 (by decide) (fun c_2 => ?_) (fun c_2 => ?_)
  · have hsp := hsp.trans (if_pos c_2)
    refine lv_iconst (v := (-1)) hx hb dX4_lay_22 (by decide) ?_
    exact W.iret (v := (-1)) hx hb hr (fun t ht hW => ⟨⟨(-1), u1, rfl, hsp.symm, PM_fin hP hK ht hW⟩, hS.F ht⟩) hS.2.2 dX4_lay_23
  · have hsp := hsp.trans (if_neg c_2)
    have hok := hok.2 c_2
    refine lv_aload_n hx hb dX4_lay_13 rfl (lv_at hl 0 rfl) ?_
    refine lv_iload hx hb dX4_lay_14 (lv_at hl 4 rfl) ?_
    refine vp_callSi (W.runV (As := [.int p4]) (rest := []) ⟨hx, hb, hml, hown, hts⟩ (cM_isThingOrNone l D q cI cL u1 p4) (cwV 1 hts gX4_lay_X4_isThingOrNone rfl rfl rfl (by decide +kernel) ⟨(Nat.le_of_ble_eq_true rfl), (Nat.le_of_ble_eq_true rfl)⟩) ⟨PM_blind, va_recv hK hP (ci := 7) (q0 := 0) rfl rfl, fun U hU hW => ⟨rfl, PM_fin hP hK hU hW⟩⟩ rfl rfl hl.1 rfl (lv_room (Nat.le_of_ble_eq_true rfl)) dX4_lay_16 ⟨(Nat.le_of_ble_eq_true rfl), (Nat.le_of_ble_eq_true rfl)⟩) (fun r_3 hr_3 => ?_)
    subst hr_3
    refine lv_if_ne (tgt := 24) hx hb dX4_lay_19 (by decide) (fun c_4 => ?_) (fun c_4 => ?_)
    · have hsp := hsp.trans (if_neg c_4)
      have hok := hok.2 c_4
      refine lv_iload_n hx hb dX4_lay_24 rfl (lv_at hl 2 rfl) ?_
      refine lv_bipush (v := 7) hx hb dX4_lay_25 (by decide) ?_
      refine lv_bipush (v := 13) hx hb dX4_lay_27 (by decide) ?_
      refine vp_callSi (W.runS (As := [.int p2, .int 7, .int 13]) (rest := []) ⟨hx, hb, hml, hown, hts⟩ (cM_in l p2 7 13) (va_cwS 3 hts gX4_lay_X4_in rfl rfl rfl (by decide +kernel) ⟨(Nat.le_of_ble_eq_true rfl), (Nat.le_of_ble_eq_true rfl)⟩) ⟨T_blind, fun U hU hW => ⟨rfl, trivial⟩⟩ rfl rfl hl.1 rfl (lv_room (Nat.le_of_ble_eq_true rfl)) dX4_lay_29 ⟨(Nat.le_of_ble_eq_true rfl), (Nat.le_of_ble_eq_true rfl)⟩) (fun r_5 hr_5 => ?_)
      subst hr_5
      refine lv_if_eq (tgt := 47) hx hb dX4_lay_32 (by decide) (fun c_6 => ?_) (fun c_6 => ?_)
      · have hsp := hsp.trans (if_pos c_6)
        refine lv_bipush (v := (-2)) hx hb dX4_lay_47 (by decide) ?_
        exact W.iret (v := (-2)) hx hb hr (fun t ht hW => ⟨⟨(-2), u1, rfl, hsp.symm, PM_fin hP hK ht hW⟩, hS.F ht⟩) hS.2.2 dX4_lay_49
      · have hsp := hsp.trans (if_neg c_6)
        have hok := hok.2 c_6
        refine lv_aload_n hx hb dX4_lay_35 rfl (lv_at hl 0 rfl) ?_
        refine lv_iload_n hx hb dX4_lay_36 rfl (lv_at hl 1 rfl) ?_
        refine lv_iload_n hx hb dX4_lay_37 rfl (lv_at hl 2 rfl) ?_
        refine lv_iload_n hx hb dX4_lay_38 rfl (lv_at hl 3 rfl) ?_
        refine lv_iload hx hb dX4_lay_39 (lv_at hl 4 rfl) ?_
        have h_7 := hok.1
        have hok := hok.2
        refine va_calli (va_runV (As := [.int p1, .int p2, .int p3, .int p4]) (rest := []) ⟨hx, hb, hml, hown, hts⟩ (cM_lays l D q cI cL hq u1 p1 p2 p3 p4 h_7) (cwV 4 hts gX4_lay_X4_lays rfl rfl rfl (by decide +kernel) ⟨(Nat.le_of_ble_eq_true rfl), (Nat.le_of_ble_eq_true rfl)⟩) ⟨PM_blind, va_recv hK hP (ci := 7) (q0 := 0) rfl rfl, fun U hU hW => ⟨rfl, PM_fin hP hK hU hW⟩⟩ rfl rfl hl.1 rfl (lv_room (Nat.le_of_ble_eq_true rfl)) dX4_lay_41 ⟨(Nat.le_of_ble_eq_true rfl), (Nat.le_of_ble_eq_true rfl)⟩) hS (fun q _ h => h) (fun q h => h) (fun r2 u2 t H1 locs ht hvm hu2 hB hz1 hk1 hS => ?_)
        have hP := hB.1
        rw [ht] at hP
        clear hB hk1 hz1 hvm ht
        generalize H1 = H at hP hS ⊢
        refine W.widen (k := 0) (n := 0) (Nat.le_refl 0) (Nat.le_refl 0) ?_
        have hsp := hsp.trans (bnd2_eq hu2)
        refine lv_goto (tgt := 49) hx hb dX4_lay_44 (by decide) ?_
        exact W.iret (v := r2) hx hb hr (fun t ht hW => ⟨⟨r2, u2, rfl, hsp.symm, PM_fin hP hK ht hW⟩, hS.F ht⟩) hS.2.2 dX4_lay_49
    · have hsp := hsp.trans (if_pos c_4)
      refine lv_iconst (v := (-1)) hx hb dX4_lay_22 (by decide) ?_
      exact W.iret (v := (-1)) hx hb hr (fun t ht hW => ⟨⟨(-1), u1, rfl, hsp.symm, PM_fin hP hK ht hW⟩, hS.F ht⟩) hS.2.2 dX4_lay_23
set_option maxHeartbeats 4000000 in
set_option maxRecDepth 100000 in
theorem cM_halves (l : Launch) (D : va_G) (q : Nat → Nat) (cI cL : ClassId) (hq : DQ 22 q) (u : St) (p1 : Int32) (p2 : Int32) (p3 : Int32) (hok : okM_halves u p1 p2 p3) : Met l yX4_halves wsX4_halves { frames := 2, cells := 0, slots := 0, locals := 43 } (va_Pc [.ref (q 0), .int p1, .int p2, .int p3] (fun U => PM D q cI cL u U)) (va_Qi (fun (r : Int32) (u' : St) => (r, u') = sM_halves u p1 p2 p3) (fun u' t => PM D q cI cL u' t) (AQ 22 q)) 0 0 (AQ 22 q) := by
  refine Met.ofW (cc := cX4_halves) (maxL := 4) (ret := (some .int)) (by decide) rfl ?_
  intro p e s m args below meth c s₁ B hml hv
  obtain ⟨rfl, hP, hK⟩ := hv
  have hx := B.exec
  have hb := B.bytes
  have hr := B.returns
  have hts := atoms_spec (ws := wsX4_halves) B.pre
  have hown : s.vm.findClass RX4 = some m.cls := findClass_of_methodNamed B.named
  have hlocks := B.notSynchronized
  have hiX4 : ∀ w ∈ u_ws RX4 TX4 29, w ∈ wsX4_halves := by decide +kernel
  have hf23 := hts (.fieldLink RX4 23 "ThingRulesModel" "piece" "[I") (by decide +kernel)
  have hS : va_S (AQ 22 q) s.heap s.heap [] := va_S.rf
  have hP : va_P D vwCl (wM q cI cL u) s.heap := hP
  have hl := lv_entry ([.ref (q 0), .int p1, .int p2, .int p3]) (n := 4) (Nat.le_of_ble_eq_true rfl)
  rw [lg_entry_eq]
  generalize (lg_sl ([.ref (q 0), .int p1, .int p2, .int p3]) ++ List.replicate (4 - (lg_sl ([.ref (q 0), .int p1, .int p2, .int p3])).length) Slot.unset).toArray = ls at hl ⊢
  have hl : lv_has ls 4 [(0, .ref (q 0)), (1, .int p1), (2, .int p2), (3, .int p3)] := hl
  have hsp : sM_halves u p1 p2 p3 = _ := sM_halves.eq_1 u p1 p2 p3
  unfold okM_halves at hok
  refine lv_aload_n hx hb dX4_halves_0 rfl (lv_at hl 0 rfl) ?_
  refine lv_iload_n hx hb dX4_halves_1 rfl (lv_at hl 1 rfl) ?_
  refine lv_iconst (v := 2) hx hb dX4_halves_2 (by decide) ?_
  have h_1 := hok.1
  have hok := hok.2
  refine vp_callSi (W.runV (As := [.int p1, .int 2]) (rest := []) ⟨hx, hb, hml, hown, hts⟩ (cM_passes l D q cI cL u p1 2 h_1) (cwV 2 hts gX4_halves_X4_passes rfl rfl rfl (by decide +kernel) ⟨(Nat.le_of_ble_eq_true rfl), (Nat.le_of_ble_eq_true rfl)⟩) ⟨PM_blind, va_recv hK hP (ci := 7) (q0 := 0) rfl rfl, fun U hU hW => ⟨rfl, PM_fin hP hK hU hW⟩⟩ rfl rfl hl.1 rfl (lv_room (Nat.le_of_ble_eq_true rfl)) dX4_halves_3 ⟨(Nat.le_of_ble_eq_true rfl), (Nat.le_of_ble_eq_true rfl)⟩) (fun r_2 hr_2 => ?_)
  subst hr_2
  refine lv_if_ne (tgt := 16) hx hb dX4_halves_6 (by decide) (fun c_3 => ?_) (fun c_3 => ?_)
  · have hsp := hsp.trans (if_neg c_3)
    have hok := hok.2 c_3
    refine lv_iload_n hx hb dX4_halves_16 rfl (lv_at hl 1 rfl) ?_
    refine lv_if_ge (tgt := 27) hx hb dX4_halves_17 (by decide) (fun c_4 => ?_) (fun c_4 => ?_)
    · have hsp := hsp.trans (if_pos c_4)
      have hok := hok.1 c_4
      refine lv_aload_n hx hb dX4_halves_27 rfl (lv_at hl 0 rfl) ?_
      refine va_get (D := D) (ci := 7) (v := .ref (q 5)) (C := RX4) (T := TX4) (N := 29) hx hb hts hiX4 hown hK hP 0 rfl rfl 6 (by decide) hf23 (fun _ h9 => h9) rfl dX4_halves_28 ?_
      refine lv_bipush (v := 6) hx hb dX4_halves_31 (by decide) ?_
      refine lv_iload_n hx hb dX4_halves_33 rfl (lv_at hl 1 rfl) ?_
      refine lv_imul hx hb dX4_halves_34 ?_
      refine lv_iload_n hx hb dX4_halves_35 rfl (lv_at hl 2 rfl) ?_
      refine lv_iadd hx hb dX4_halves_36 ?_
      refine lv_iload_n hx hb dX4_halves_37 rfl (lv_at hl 3 rfl) ?_
      have h_5 := hok.1
      have hok := hok.2
      refine va_iast hx hb hK hP (dM hq) hS 5 0 rfl rfl h_5 dX4_halves_38 (fun H locs hP _ hS => ?_)
      obtain ⟨u1, hu1⟩ : ∃ z : St, z = (stA u 5 ((6 * p1) + p2).toNatClampNeg p3) := ⟨_, rfl⟩
      have hP : va_P D vwCl (wM q cI cL u1) H := by rw [hu1]; exact hP
      have hsp := hsp.trans (bnd_eq hu1)
      refine lv_iconst (v := 1) hx hb dX4_halves_39 (by decide) ?_
      exact W.iret (v := 1) hx hb hr (fun t ht hW => ⟨⟨1, u1, rfl, hsp.symm, PM_fin hP hK ht hW⟩, hS.F ht⟩) hS.2.2 dX4_halves_40
    · have hsp := hsp.trans (if_neg c_4)
      have hok := hok.2 c_4
      refine lv_aload_n hx hb dX4_halves_20 rfl (lv_at hl 0 rfl) ?_
      refine lv_bipush (v := (-22)) hx hb dX4_halves_21 (by decide) ?_
      have h_6 := hok.1
      have hok := hok.2
      refine va_calli (va_runV (As := [.int (-22)]) (rest := []) ⟨hx, hb, hml, hown, hts⟩ (cM_finds l D q cI cL hq u (-22) h_6) (cwV 1 hts gX4_halves_X4_finds rfl rfl rfl (by decide +kernel) ⟨(Nat.le_of_ble_eq_true rfl), (Nat.le_of_ble_eq_true rfl)⟩) ⟨PM_blind, va_recv hK hP (ci := 7) (q0 := 0) rfl rfl, fun U hU hW => ⟨rfl, PM_fin hP hK hU hW⟩⟩ rfl rfl hl.1 rfl (lv_room (Nat.le_of_ble_eq_true rfl)) dX4_halves_23 ⟨(Nat.le_of_ble_eq_true rfl), (Nat.le_of_ble_eq_true rfl)⟩) hS (fun q _ h => h) (fun q h => h) (fun r2 u2 t H1 locs ht hvm hu2 hB hz1 hk1 hS => ?_)
      have hP := hB.1
      rw [ht] at hP
      clear hB hk1 hz1 hvm ht
      generalize H1 = H at hP hS ⊢
      refine W.widen (k := 0) (n := 0) (Nat.le_refl 0) (Nat.le_refl 0) ?_
      exact W.iret (v := r2) hx hb hr (fun t ht hW => ⟨⟨r2, u2, rfl, (hu2.trans hsp.symm), PM_fin hP hK ht hW⟩, hS.F ht⟩) hS.2.2 dX4_halves_26
  · have hsp := hsp.trans (if_pos c_3)
    have hok := hok.1 c_3
    refine lv_aload_n hx hb dX4_halves_9 rfl (lv_at hl 0 rfl) ?_
    refine lv_bipush (v := (-21)) hx hb dX4_halves_10 (by decide) ?_
    have h_7 := hok.1
    have hok := hok.2
    refine va_calli (va_runV (As := [.int (-21)]) (rest := []) ⟨hx, hb, hml, hown, hts⟩ (cM_finds l D q cI cL hq u (-21) h_7) (cwV 1 hts gX4_halves_X4_finds rfl rfl rfl (by decide +kernel) ⟨(Nat.le_of_ble_eq_true rfl), (Nat.le_of_ble_eq_true rfl)⟩) ⟨PM_blind, va_recv hK hP (ci := 7) (q0 := 0) rfl rfl, fun U hU hW => ⟨rfl, PM_fin hP hK hU hW⟩⟩ rfl rfl hl.1 rfl (lv_room (Nat.le_of_ble_eq_true rfl)) dX4_halves_12 ⟨(Nat.le_of_ble_eq_true rfl), (Nat.le_of_ble_eq_true rfl)⟩) hS (fun q _ h => h) (fun q h => h) (fun r3 u3 t H1 locs ht hvm hu3 hB hz1 hk1 hS => ?_)
    have hP := hB.1
    rw [ht] at hP
    clear hB hk1 hz1 hvm ht
    generalize H1 = H at hP hS ⊢
    refine W.widen (k := 0) (n := 0) (Nat.le_refl 0) (Nat.le_refl 0) ?_
    exact W.iret (v := r3) hx hb hr (fun t ht hW => ⟨⟨r3, u3, rfl, (hu3.trans hsp.symm), PM_fin hP hK ht hW⟩, hS.F ht⟩) hS.2.2 dX4_halves_15
set_option maxHeartbeats 4000000 in
set_option maxRecDepth 100000 in
theorem cM_half (l : Launch) (D : va_G) (q : Nat → Nat) (cI cL : ClassId) (hq : DQ 22 q) (u : St) (p1 : Int32) (p2 : Int32) (p3 : Int32) (hok : okM_half u p1 p2 p3) : Met l yX4_half wsX4_half { frames := 3, cells := 0, slots := 0, locals := 66 } (va_Pc [.ref (q 0), .int p1, .int p2, .int p3] (fun U => PM D q cI cL u U)) (va_Qi (fun (r : Int32) (u' : St) => (r, u') = sM_half u p1 p2 p3) (fun u' t => PM D q cI cL u' t) (AQ 22 q)) 0 0 (AQ 22 q) := by
  refine Met.ofW (cc := cX4_half) (maxL := 4) (ret := (some .int)) (by decide) rfl ?_
  intro p e s m args below meth c s₁ B hml hv
  obtain ⟨rfl, hP, hK⟩ := hv
  have hx := B.exec
  have hb := B.bytes
  have hr := B.returns
  have hts := atoms_spec (ws := wsX4_half) B.pre
  have hown : s.vm.findClass RX4 = some m.cls := findClass_of_methodNamed B.named
  have hlocks := B.notSynchronized
  have hiX4 : ∀ w ∈ u_ws RX4 TX4 29, w ∈ wsX4_half := by decide +kernel
  have hf74 := hts (.fieldLink RX4 74 "ThingRulesModel" "thrown" "I") (by decide +kernel)
  have hS : va_S (AQ 22 q) s.heap s.heap [] := va_S.rf
  have hP : va_P D vwCl (wM q cI cL u) s.heap := hP
  have hl := lv_entry ([.ref (q 0), .int p1, .int p2, .int p3]) (n := 4) (Nat.le_of_ble_eq_true rfl)
  rw [lg_entry_eq]
  generalize (lg_sl ([.ref (q 0), .int p1, .int p2, .int p3]) ++ List.replicate (4 - (lg_sl ([.ref (q 0), .int p1, .int p2, .int p3])).length) Slot.unset).toArray = ls at hl ⊢
  have hl : lv_has ls 4 [(0, .ref (q 0)), (1, .int p1), (2, .int p2), (3, .int p3)] := hl
  have hsp : sM_half u p1 p2 p3 = _ := sM_half.eq_1 u p1 p2 p3
  unfold okM_half at hok
  refine lv_aload_n hx hb dX4_half_0 rfl (lv_at hl 0 rfl) ?_
  refine lv_iconst (v := 0) hx hb dX4_half_1 (by decide) ?_
  refine va_put (D := D) (ci := 7) (v := .int 0) (ty := .int) (C := RX4) (T := TX4) (N := 29) hx hb hts hiX4 tyX4 tyX4_ok nmX4 hown hK hP (dM hq) hS 0 rfl rfl 0 (by decide) hf74 (fun _ h9 => h9) rfl (by decide +kernel) rfl rfl (Nat.le_of_ble_eq_true rfl) dX4_half_2 (fun H locs hP _ hS => ?_)
  obtain ⟨u1, hu1⟩ : ∃ z : St, z = (stI u 0 0) := ⟨_, rfl⟩
  have hP : va_P D vwCl (wM q cI cL u1) H := by rw [hu1]; exact hP
  have hsp := hsp.trans (bnd_eq hu1)
  have hok := bnd_ok hu1 hok
  refine lv_aload_n hx hb dX4_half_5 rfl (lv_at hl 0 rfl) ?_
  refine lv_iload_n hx hb dX4_half_6 rfl (lv_at hl 1 rfl) ?_
  refine vp_callSi (W.runV (As := [.int p1]) (rest := []) ⟨hx, hb, hml, hown, hts⟩ (cM_isThing l D q cI cL u1 p1) (cwV 1 hts gX4_half_X4_isThing rfl rfl rfl (by decide +kernel) ⟨(Nat.le_of_ble_eq_true rfl), (Nat.le_of_ble_eq_true rfl)⟩) ⟨PM_blind, va_recv hK hP (ci := 7) (q0 := 0) rfl rfl, fun U hU hW => ⟨rfl, PM_fin hP hK hU hW⟩⟩ rfl rfl hl.1 rfl (lv_room (Nat.le_of_ble_eq_true rfl)) dX4_half_7 ⟨(Nat.le_of_ble_eq_true rfl), (Nat.le_of_ble_eq_true rfl)⟩) (fun r_1 hr_1 => ?_)
  subst hr_1
  refine lv_if_eq (tgt := 21) hx hb dX4_half_10 (by decide) (fun c_2 => ?_) (fun c_2 => ?_)
  · have hsp := hsp.trans (if_pos c_2)
    refine lv_iconst (v := (-1)) hx hb dX4_half_21 (by decide) ?_
    exact W.iret (v := (-1)) hx hb hr (fun t ht hW => ⟨⟨(-1), u1, rfl, hsp.symm, PM_fin hP hK ht hW⟩, hS.F ht⟩) hS.2.2 dX4_half_22
  · have hsp := hsp.trans (if_neg c_2)
    have hok := hok.2 c_2
    refine lv_aload_n hx hb dX4_half_13 rfl (lv_at hl 0 rfl) ?_
    refine lv_iload_n hx hb dX4_half_14 rfl (lv_at hl 3 rfl) ?_
    refine vp_callSi (W.runV (As := [.int p3]) (rest := []) ⟨hx, hb, hml, hown, hts⟩ (cM_isThingOrNone l D q cI cL u1 p3) (cwV 1 hts gX4_half_X4_isThingOrNone rfl rfl rfl (by decide +kernel) ⟨(Nat.le_of_ble_eq_true rfl), (Nat.le_of_ble_eq_true rfl)⟩) ⟨PM_blind, va_recv hK hP (ci := 7) (q0 := 0) rfl rfl, fun U hU hW => ⟨rfl, PM_fin hP hK hU hW⟩⟩ rfl rfl hl.1 rfl (lv_room (Nat.le_of_ble_eq_true rfl)) dX4_half_15 ⟨(Nat.le_of_ble_eq_true rfl), (Nat.le_of_ble_eq_true rfl)⟩) (fun r_3 hr_3 => ?_)
    subst hr_3
    refine lv_if_ne (tgt := 23) hx hb dX4_half_18 (by decide) (fun c_4 => ?_) (fun c_4 => ?_)
    · have hsp := hsp.trans (if_neg c_4)
      have hok := hok.2 c_4
      refine lv_iload_n hx hb dX4_half_23 rfl (lv_at hl 2 rfl) ?_
      refine lv_iconst (v := 0) hx hb dX4_half_24 (by decide) ?_
      refine lv_iconst (v := 1) hx hb dX4_half_25 (by decide) ?_
      refine vp_callSi (W.runS (As := [.int p2, .int 0, .int 1]) (rest := []) ⟨hx, hb, hml, hown, hts⟩ (cM_in l p2 0 1) (va_cwS 3 hts gX4_half_X4_in rfl rfl rfl (by decide +kernel) ⟨(Nat.le_of_ble_eq_true rfl), (Nat.le_of_ble_eq_true rfl)⟩) ⟨T_blind, fun U hU hW => ⟨rfl, trivial⟩⟩ rfl rfl hl.1 rfl (lv_room (Nat.le_of_ble_eq_true rfl)) dX4_half_26 ⟨(Nat.le_of_ble_eq_true rfl), (Nat.le_of_ble_eq_true rfl)⟩) (fun r_5 hr_5 => ?_)
      subst hr_5
      refine lv_if_ne (tgt := 35) hx hb dX4_half_29 (by decide) (fun c_6 => ?_) (fun c_6 => ?_)
      · have hsp := hsp.trans (if_neg c_6)
        have hok := hok.2 c_6
        refine lv_aload_n hx hb dX4_half_35 rfl (lv_at hl 0 rfl) ?_
        refine lv_iload_n hx hb dX4_half_36 rfl (lv_at hl 1 rfl) ?_
        refine lv_iload_n hx hb dX4_half_37 rfl (lv_at hl 2 rfl) ?_
        refine lv_iload_n hx hb dX4_half_38 rfl (lv_at hl 3 rfl) ?_
        have h_7 := hok.1
        have hok := hok.2
        refine va_calli (va_runV (As := [.int p1, .int p2, .int p3]) (rest := []) ⟨hx, hb, hml, hown, hts⟩ (cM_halves l D q cI cL hq u1 p1 p2 p3 h_7) (cwV 3 hts gX4_half_X4_halves rfl rfl rfl (by decide +kernel) ⟨(Nat.le_of_ble_eq_true rfl), (Nat.le_of_ble_eq_true rfl)⟩) ⟨PM_blind, va_recv hK hP (ci := 7) (q0 := 0) rfl rfl, fun U hU hW => ⟨rfl, PM_fin hP hK hU hW⟩⟩ rfl rfl hl.1 rfl (lv_room (Nat.le_of_ble_eq_true rfl)) dX4_half_39 ⟨(Nat.le_of_ble_eq_true rfl), (Nat.le_of_ble_eq_true rfl)⟩) hS (fun q _ h => h) (fun q h => h) (fun r2 u2 t H1 locs ht hvm hu2 hB hz1 hk1 hS => ?_)
        have hP := hB.1
        rw [ht] at hP
        clear hB hk1 hz1 hvm ht
        generalize H1 = H at hP hS ⊢
        refine W.widen (k := 0) (n := 0) (Nat.le_refl 0) (Nat.le_refl 0) ?_
        exact W.iret (v := r2) hx hb hr (fun t ht hW => ⟨⟨r2, u2, rfl, (hu2.trans hsp.symm), PM_fin hP hK ht hW⟩, hS.F ht⟩) hS.2.2 dX4_half_42
      · have hsp := hsp.trans (if_pos c_6)
        refine lv_bipush (v := (-2)) hx hb dX4_half_32 (by decide) ?_
        exact W.iret (v := (-2)) hx hb hr (fun t ht hW => ⟨⟨(-2), u1, rfl, hsp.symm, PM_fin hP hK ht hW⟩, hS.F ht⟩) hS.2.2 dX4_half_34
    · have hsp := hsp.trans (if_pos c_4)
      refine lv_iconst (v := (-1)) hx hb dX4_half_21 (by decide) ?_
      exact W.iret (v := (-1)) hx hb hr (fun t ht hW => ⟨⟨(-1), u1, rfl, hsp.symm, PM_fin hP hK ht hW⟩, hS.F ht⟩) hS.2.2 dX4_half_22
