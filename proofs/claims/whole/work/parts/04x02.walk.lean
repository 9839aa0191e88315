set_option maxHeartbeats 4000000 in
set_option maxRecDepth 100000 in
theorem cX_put (l : Launch) (D : va_G) (q : Nat → Nat) (cI cL : ClassId) (tp : Nat) (hq : DQ 24 q) (u : St) (p1 : Int32) (p2 : Int32) (p3 : Int32) (p4 : Int64) (hok : okX_put u p1 p2 p3 p4) : Met l yX3_put wsX3_put { frames := 5, cells := 0, slots := 0, locals := 115 } (va_Pc [.ref (q 0), .int p1, .int p2, .int p3, .long p4] (fun U => PX D q cI cL tp u U)) (va_Qi (fun (r : Int32) (u' : St) => (r, u') = sX_put u p1 p2 p3 p4) (fun u' t => PX D q cI cL tp u' t) (AQ 24 q)) 0 0 (AQ 24 q) := by
  refine Met.ofW (cc := cX3_put) (maxL := 6) (ret := (some .int)) (by decide) rfl ?_
  intro p e s m args below meth c s₁ B hml hv
  obtain ⟨rfl, hP, hK, hZ⟩ := hv
  have hx := B.exec
  have hb := B.bytes
  have hr := B.returns
  have hts := atoms_spec (ws := wsX3_put) B.pre
  have hown : s.vm.findClass RX3 = some m.cls := findClass_of_methodNamed B.named
  have hlocks := B.notSynchronized
  have hiX3 : ∀ w ∈ u_ws RX3 TX3 7, w ∈ wsX3_put := by decide +kernel
  have hf10 := hts (.fieldLink RX3 10 "ThingRules" "things" "LThingRules$Things;") (by decide +kernel)
  have hS : va_S (AQ 24 q) s.heap s.heap [] := va_S.rf
  have hP : va_P D vwCl (wX q cI cL u) s.heap := hP
  have hl := lv_entry ([.ref (q 0), .int p1, .int p2, .int p3, .long p4]) (n := 6) (Nat.le_of_ble_eq_true rfl)
  rw [lg_entry_eq]
  generalize (lg_sl ([.ref (q 0), .int p1, .int p2, .int p3, .long p4]) ++ List.replicate (6 - (lg_sl ([.ref (q 0), .int p1, .int p2, .int p3, .long p4])).length) Slot.unset).toArray = ls at hl ⊢
  have hl : lv_has ls 6 [(0, .ref (q 0)), (1, .int p1), (2, .int p2), (3, .int p3), (4, .long p4)] := hl
  have hsp : sX_put u p1 p2 p3 p4 = _ := sX_put.eq_1 u p1 p2 p3 p4
  unfold okX_put at hok
  refine lv_aload_n hx hb dX3_put_0 rfl (lv_at hl 0 rfl) ?_
  refine va_get (D := D) (ci := 6) (v := .ref (q 1)) (C := RX3) (T := TX3) (N := 7) hx hb hts hiX3 hown hK hP 0 rfl rfl 0 (by decide) hf10 (fun _ h9 => h9) rfl dX3_put_1 ?_
  refine lv_iload_n hx hb dX3_put_4 rfl (lv_at hl 1 rfl) ?_
  refine vp_callSi (W.runV (As := [.int p1]) (rest := []) ⟨hx, hb, hml, hown, hts⟩ (cXT_know l D q cI cL tp u p1) (cwV 1 hts gX3_put_X2_know rfl rfl rfl (by decide +kernel) ⟨(Nat.le_of_ble_eq_true rfl), (Nat.le_of_ble_eq_true rfl)⟩) ⟨PX_blind, va_recv hK hP (ci := 5) (q0 := 1) rfl rfl, fun U hU hW => ⟨rfl, PX_fin hP hK hZ hS hU hW⟩⟩ rfl rfl hl.1 rfl (lv_room (Nat.le_of_ble_eq_true rfl)) dX3_put_5 ⟨(Nat.le_of_ble_eq_true rfl), (Nat.le_of_ble_eq_true rfl)⟩) (fun r_1 hr_1 => ?_)
  subst hr_1
  refine lv_if_ne (tgt := 13) hx hb dX3_put_8 (by decide) (fun c_2 => ?_) (fun c_2 => ?_)
  · have hsp := hsp.trans (if_neg c_2)
    have hok := hok.2 c_2
    refine lv_iload_n hx hb dX3_put_13 rfl (lv_at hl 2 rfl) ?_
    refine vp_callSi (W.runS (As := [.int p2]) (rest := []) ⟨hx, hb, hml, hown, hts⟩ (cX_isNumbersKind l p2) (va_cwS 1 hts gX3_put_X3_isNumbersKind rfl rfl rfl (by decide +kernel) ⟨(Nat.le_of_ble_eq_true rfl), (Nat.le_of_ble_eq_true rfl)⟩) ⟨T_blind, fun U hU hW => ⟨rfl, trivial⟩⟩ rfl rfl hl.1 rfl (lv_room (Nat.le_of_ble_eq_true rfl)) dX3_put_14 ⟨(Nat.le_of_ble_eq_true rfl), (Nat.le_of_ble_eq_true rfl)⟩) (fun r_3 hr_3 => ?_)
    subst hr_3
    refine lv_if_eq (tgt := 39) hx hb dX3_put_17 (by decide) (fun c_4 => ?_) (fun c_4 => ?_)
    · have hsp := hsp.trans (if_pos c_4)
      refine lv_bipush (v := (-2)) hx hb dX3_put_39 (by decide) ?_
      exact W.iret (v := (-2)) hx hb hr (fun t ht hW => ⟨⟨(-2), u, rfl, hsp.symm, PX_fin hP hK hZ hS ht hW⟩, hS.F ht⟩) hS.2.2 dX3_put_41
    · have hsp := hsp.trans (if_neg c_4)
      have hok := hok.2 c_4
      refine lv_aload_n hx hb dX3_put_20 rfl (lv_at hl 0 rfl) ?_
      refine lv_aload_n hx hb dX3_put_21 rfl (lv_at hl 0 rfl) ?_
      refine va_get (D := D) (ci := 6) (v := .ref (q 1)) (C := RX3) (T := TX3) (N := 7) hx hb hts hiX3 hown hK hP 0 rfl rfl 0 (by decide) hf10 (fun _ h9 => h9) rfl dX3_put_22 ?_
      refine lv_iload_n hx hb dX3_put_25 rfl (lv_at hl 1 rfl) ?_
      refine lv_iload_n hx hb dX3_put_26 rfl (lv_at hl 2 rfl) ?_
      refine lv_iload_n hx hb dX3_put_27 rfl (lv_at hl 3 rfl) ?_
      refine lv_lload hx hb dX3_put_28 (lv_at hl 4 rfl) ?_
      have h_5 := hok.1
      have hok := hok.2
      refine va_calli (va_runV (As := [.int p1, .int p2, .int p3, .long p4]) (rest := [.ref (q 0)]) ⟨hx, hb, hml, hown, hts⟩ (cXT_putNumber l D q cI cL tp hq u p1 p2 p3 p4 h_5) (cwV 4 hts gX3_put_X2_putNumber rfl rfl rfl (by decide +kernel) ⟨(Nat.le_of_ble_eq_true rfl), (Nat.le_of_ble_eq_true rfl)⟩) ⟨PX_blind, va_recv hK hP (ci := 5) (q0 := 1) rfl rfl, fun U hU hW => ⟨rfl, PX_fin hP hK hZ hS hU hW⟩⟩ rfl rfl hl.1 rfl (lv_room (Nat.le_of_ble_eq_true rfl)) dX3_put_30 ⟨(Nat.le_of_ble_eq_true rfl), (Nat.le_of_ble_eq_true rfl)⟩) hS (fun q _ h => h) (fun q h => h) (fun r1 u1 t H1 locs ht hvm hu1 hB hz1 hk1 hS => ?_)
      have hP := hB.1
      rw [ht] at hP
      clear hB hk1 hz1 hvm ht
      generalize H1 = H at hP hS ⊢
      refine W.widen (k := 0) (n := 0) (Nat.le_refl 0) (Nat.le_refl 0) ?_
      have hsp := hsp.trans (bnd2_eq hu1)
      have hok := bnd2_ok hu1 hok
      have h_6 := hok.1
      have hok := hok.2
      refine va_calli (va_runV (As := [.int r1]) (rest := []) ⟨hx, hb, hml, hown, hts⟩ (cX_counted l D q cI cL tp hq u1 r1 h_6) (cwV 1 hts gX3_put_X3_counted rfl rfl rfl (by decide +kernel) ⟨(Nat.le_of_ble_eq_true rfl), (Nat.le_of_ble_eq_true rfl)⟩) ⟨PX_blind, va_recv hK hP (ci := 6) (q0 := 0) rfl rfl, fun U hU hW => ⟨rfl, PX_fin hP hK hZ hS hU hW⟩⟩ rfl rfl hl.1 rfl (lv_room (Nat.le_of_ble_eq_true rfl)) dX3_put_33 ⟨(Nat.le_of_ble_eq_true rfl), (Nat.le_of_ble_eq_true rfl)⟩) hS (fun q _ h => h) (fun q h => h) (fun r2 u2 t H1 locs ht hvm hu2 hB hz1 hk1 hS => ?_)
      have hP := hB.1
      rw [ht] at hP
      clear hB hk1 hz1 hvm ht
      generalize H1 = H at hP hS ⊢
      refine W.widen (k := 0) (n := 0) (Nat.le_refl 0) (Nat.le_refl 0) ?_
      have hsp := hsp.trans (bnd2_eq hu2)
      refine lv_goto (tgt := 41) hx hb dX3_put_36 (by decide) ?_
      exact W.iret (v := r2) hx hb hr (fun t ht hW => ⟨⟨r2, u2, rfl, hsp.symm, PX_fin hP hK hZ hS ht hW⟩, hS.F ht⟩) hS.2.2 dX3_put_41
  · have hsp := hsp.trans (if_pos c_2)
    refine lv_iconst (v := (-1)) hx hb dX3_put_11 (by decide) ?_
    exact W.iret (v := (-1)) hx hb hr (fun t ht hW => ⟨⟨(-1), u, rfl, hsp.symm, PX_fin hP hK hZ hS ht hW⟩, hS.F ht⟩) hS.2.2 dX3_put_12
set_option maxHeartbeats 4000000 in
set_option maxRecDepth 100000 in
theorem cXT_numberIn (l : Launch) (D : va_G) (q : Nat → Nat) (cI cL : ClassId) (tp : Nat) (u : St) (p1 : Int32) (p2 : Int32) (hok : okXT_numberIn u p1 p2) : Met l yX2_numberIn wsX2_numberIn { frames := 2, cells := 0, slots := 0, locals := 43 } (va_Pc [.ref (q 1), .int p1, .int p2] (fun U => PX D q cI cL tp u U)) (vp_Sl (fun r => r = sXT_numberIn u p1 p2)) 0 0 (fun _ => False) := by
  refine Met.ofW (cc := cX2_numberIn) (maxL := 3) (ret := (some .long)) (by decide) rfl ?_
  intro p e s m args below meth c s₁ B hml hv
  obtain ⟨rfl, hP, hK, hZ⟩ := hv
  have hx := B.exec
  have hb := B.bytes
  have hr := B.returns
  have hts := atoms_spec (ws := wsX2_numberIn) B.pre
  have hown : s.vm.findClass RX2 = some m.cls := findClass_of_methodNamed B.named
  have hlocks := B.notSynchronized
  have hiX2 : ∀ w ∈ u_ws RX2 TX2 8, w ∈ wsX2_numberIn := by decide +kernel
  have hf30 := hts (.fieldLink RX2 30 "ThingRules$Things" "numbers" "[J") (by decide +kernel)
  have hS : va_S (AQ 24 q) s.heap s.heap [] := va_S.rf
  have hP : va_P D vwCl (wX q cI cL u) s.heap := hP
  have hl := lv_entry ([.ref (q 1), .int p1, .int p2]) (n := 3) (Nat.le_of_ble_eq_true rfl)
  rw [lg_entry_eq]
  generalize (lg_sl ([.ref (q 1), .int p1, .int p2]) ++ List.replicate (3 - (lg_sl ([.ref (q 1), .int p1, .int p2])).length) Slot.unset).toArray = ls at hl ⊢
  have hl : lv_has ls 3 [(0, .ref (q 1)), (1, .int p1), (2, .int p2)] := hl
  have hsp : sXT_numberIn u p1 p2 = _ := sXT_numberIn.eq_1 u p1 p2
  unfold okXT_numberIn at hok
  refine lv_aload_n hx hb dX2_numberIn_0 rfl (lv_at hl 0 rfl) ?_
  refine lv_iload_n hx hb dX2_numberIn_1 rfl (lv_at hl 1 rfl) ?_
  refine lv_iload_n hx hb dX2_numberIn_2 rfl (lv_at hl 2 rfl) ?_
  have h_1 := hok.1
  have hok := hok.2
  refine vp_callSi (W.runV (As := [.int p1, .int p2]) (rest := []) ⟨hx, hb, hml, hown, hts⟩ (cXT_hasPlace l D q cI cL tp u p1 p2 h_1) (cwV 2 hts gX2_numberIn_X2_hasPlace rfl rfl rfl (by decide +kernel) ⟨(Nat.le_of_ble_eq_true rfl), (Nat.le_of_ble_eq_true rfl)⟩) ⟨PX_blind, va_recv hK hP (ci := 5) (q0 := 1) rfl rfl, fun U hU hW => ⟨rfl, PX_fin hP hK hZ hS hU hW⟩⟩ rfl rfl hl.1 rfl (lv_room (Nat.le_of_ble_eq_true rfl)) dX2_numberIn_3 ⟨(Nat.le_of_ble_eq_true rfl), (Nat.le_of_ble_eq_true rfl)⟩) (fun r_2 hr_2 => ?_)
  subst hr_2
  refine lv_if_eq (tgt := 23) hx hb dX2_numberIn_6 (by decide) (fun c_3 => ?_) (fun c_3 => ?_)
  · have hsp := hsp.trans (if_pos c_3)
    refine lv_lconst (v := 0) hx hb dX2_numberIn_23 (by decide) ?_
    exact W.lret (v := 0) hx hb hr (fun t ht hW => ⟨0, rfl, hsp.symm, ht⟩) (fun _ h => nomatch h) dX2_numberIn_24
  · have hsp := hsp.trans (if_neg c_3)
    have hok := hok.2 c_3
    refine lv_aload_n hx hb dX2_numberIn_9 rfl (lv_at hl 0 rfl) ?_
    refine va_get (D := D) (ci := 5) (v := .ref (q 13)) (C := RX2) (T := TX2) (N := 8) hx hb hts hiX2 hown hK hP 1 rfl rfl 7 (by decide) hf30 (fun _ h9 => h9) rfl dX2_numberIn_10 ?_
    refine lv_iload_n hx hb dX2_numberIn_13 rfl (lv_at hl 1 rfl) ?_
    refine lv_bipush (v := 6) hx hb dX2_numberIn_14 (by decide) ?_
    refine lv_imul hx hb dX2_numberIn_16 ?_
    refine lv_iload_n hx hb dX2_numberIn_17 rfl (lv_at hl 2 rfl) ?_
    refine lv_iadd hx hb dX2_numberIn_18 ?_
    have h_4 := hok.1
    have hok := hok.2
    refine va_lald hx hb hK hP 13 1 rfl rfl h_4 dX2_numberIn_19 ?_
    refine lv_goto (tgt := 24) hx hb dX2_numberIn_20 (by decide) ?_
    exact W.lret (v := (u.2.2 ((p1 * 6) + p2).toNatClampNeg)) hx hb hr (fun t ht hW => ⟨(u.2.2 ((p1 * 6) + p2).toNatClampNeg), rfl, hsp.symm, ht⟩) (fun _ h => nomatch h) dX2_numberIn_24
set_option maxHeartbeats 4000000 in
set_option maxRecDepth 100000 in
theorem cXT_heldHalf (l : Launch) (D : va_G) (q : Nat → Nat) (cI cL : ClassId) (tp : Nat) (u : St) (p1 : Int32) (p2 : Int32) (hok : okXT_heldHalf u p1 p2) : Met l yX2_heldHalf wsX2_heldHalf { frames := 1, cells := 0, slots := 0, locals := 21 } (va_Pc [.ref (q 1), .int p1, .int p2] (fun U => PX D q cI cL tp u U)) (vp_Si (fun r => r = sXT_heldHalf u p1 p2)) 0 0 (fun _ => False) := by
  refine Met.ofW (cc := cX2_heldHalf) (maxL := 3) (ret := (some .int)) (by decide) rfl ?_
  intro p e s m args below meth c s₁ B hml hv
  obtain ⟨rfl, hP, hK, hZ⟩ := hv
  have hx := B.exec
  have hb := B.bytes
  have hr := B.returns
  have hts := atoms_spec (ws := wsX2_heldHalf) B.pre
  have hown : s.vm.findClass RX2 = some m.cls := findClass_of_methodNamed B.named
  have hlocks := B.notSynchronized
  have hiX2 : ∀ w ∈ u_ws RX2 TX2 8, w ∈ wsX2_heldHalf := by decide +kernel
  have hf24 := hts (.fieldLink RX2 24 "ThingRules$Things" "right" "[I") (by decide +kernel)
  have hf21 := hts (.fieldLink RX2 21 "ThingRules$Things" "left" "[I") (by decide +kernel)
  have hS : va_S (AQ 24 q) s.heap s.heap [] := va_S.rf
  have hP : va_P D vwCl (wX q cI cL u) s.heap := hP
  have hl := lv_entry ([.ref (q 1), .int p1, .int p2]) (n := 3) (Nat.le_of_ble_eq_true rfl)
  rw [lg_entry_eq]
  generalize (lg_sl ([.ref (q 1), .int p1, .int p2]) ++ List.replicate (3 - (lg_sl ([.ref (q 1), .int p1, .int p2])).length) Slot.unset).toArray = ls at hl ⊢
  have hl : lv_has ls 3 [(0, .ref (q 1)), (1, .int p1), (2, .int p2)] := hl
  have hsp : sXT_heldHalf u p1 p2 = _ := sXT_heldHalf.eq_1 u p1 p2
  unfold okXT_heldHalf at hok
  refine lv_aload_n hx hb dX2_heldHalf_0 rfl (lv_at hl 0 rfl) ?_
  refine lv_iload_n hx hb dX2_heldHalf_1 rfl (lv_at hl 1 rfl) ?_
  refine vp_callSi (W.runV (As := [.int p1]) (rest := []) ⟨hx, hb, hml, hown, hts⟩ (cXT_know l D q cI cL tp u p1) (cwV 1 hts gX2_heldHalf_X2_know rfl rfl rfl (by decide +kernel) ⟨(Nat.le_of_ble_eq_true rfl), (Nat.le_of_ble_eq_true rfl)⟩) ⟨PX_blind, va_recv hK hP (ci := 5) (q0 := 1) rfl rfl, fun U hU hW => ⟨rfl, PX_fin hP hK hZ hS hU hW⟩⟩ rfl rfl hl.1 rfl (lv_room (Nat.le_of_ble_eq_true rfl)) dX2_heldHalf_2 ⟨(Nat.le_of_ble_eq_true rfl), (Nat.le_of_ble_eq_true rfl)⟩) (fun r_1 hr_1 => ?_)
  subst hr_1
  refine lv_if_ne (tgt := 11) hx hb dX2_heldHalf_5 (by decide) (fun c_2 => ?_) (fun c_2 => ?_)
  · have hsp := hsp.trans (if_neg c_2)
    have hok := hok.2 c_2
    refine lv_iload_n hx hb dX2_heldHalf_11 rfl (lv_at hl 2 rfl) ?_
    refine lv_if_ne (tgt := 24) hx hb dX2_heldHalf_12 (by decide) (fun c_3 => ?_) (fun c_3 => ?_)
    · have hsp := hsp.trans (if_neg c_3)
      have hok := hok.2 c_3
      refine lv_aload_n hx hb dX2_heldHalf_24 rfl (lv_at hl 0 rfl) ?_
      refine va_get (D := D) (ci := 5) (v := .ref (q 11)) (C := RX2) (T := TX2) (N := 8) hx hb hts hiX2 hown hK hP 1 rfl rfl 5 (by decide) hf24 (fun _ h9 => h9) rfl dX2_heldHalf_25 ?_
      refine lv_iload_n hx hb dX2_heldHalf_28 rfl (lv_at hl 1 rfl) ?_
      have h_4 := hok.1
      have hok := hok.2
      refine va_iald hx hb hK hP 11 0 rfl rfl h_4 dX2_heldHalf_29 ?_
      exact W.iret (v := (u.2.1 11 p1.toNatClampNeg)) hx hb hr (fun t ht hW => ⟨(u.2.1 11 p1.toNatClampNeg), rfl, hsp.symm, ht⟩) (fun _ h => nomatch h) dX2_heldHalf_30
    · have hsp := hsp.trans (if_pos c_3)
      have hok := hok.1 c_3
      refine lv_aload_n hx hb dX2_heldHalf_15 rfl (lv_at hl 0 rfl) ?_
      refine va_get (D := D) (ci := 5) (v := .ref (q 10)) (C := RX2) (T := TX2) (N := 8) hx hb hts hiX2 hown hK hP 1 rfl rfl 4 (by decide) hf21 (fun _ h9 => h9) rfl dX2_heldHalf_16 ?_
      refine lv_iload_n hx hb dX2_heldHalf_19 rfl (lv_at hl 1 rfl) ?_
      have h_5 := hok.1
      have hok := hok.2
      refine va_iald hx hb hK hP 10 0 rfl rfl h_5 dX2_heldHalf_20 ?_
      refine lv_goto (tgt := 30) hx hb dX2_heldHalf_21 (by decide) ?_
      exact W.iret (v := (u.2.1 10 p1.toNatClampNeg)) hx hb hr (fun t ht hW => ⟨(u.2.1 10 p1.toNatClampNeg), rfl, hsp.symm, ht⟩) (fun _ h => nomatch h) dX2_heldHalf_30
  · have hsp := hsp.trans (if_pos c_2)
    refine lv_bipush (v := (-5)) hx hb dX2_heldHalf_8 (by decide) ?_
    exact W.iret (v := (-5)) hx hb hr (fun t ht hW => ⟨(-5), rfl, hsp.symm, ht⟩) (fun _ h => nomatch h) dX2_heldHalf_10
set_option maxHeartbeats 4000000 in
set_option maxRecDepth 100000 in
theorem cX_halfOf (l : Launch) (D : va_G) (q : Nat → Nat) (cI cL : ClassId) (tp : Nat) (hq : DQ 24 q) (u : St) (p1 : Int32) (p2 : Int32) (hok : okX_halfOf u p1 p2) : Met l yX3_halfOf wsX3_halfOf { frames := 2, cells := 0, slots := 0, locals := 44 } (va_Pc [.ref (q 0), .int p1, .int p2] (fun U => PX D q cI cL tp u U)) (va_Qi (fun (r : Int32) (u' : St) => (r, u') = sX_halfOf u p1 p2) (fun u' t => PX D q cI cL tp u' t) (AQ 24 q)) 0 0 (AQ 24 q) := by
  refine Met.ofW (cc := cX3_halfOf) (maxL := 3) (ret := (some .int)) (by decide) rfl ?_
  intro p e s m args below meth c s₁ B hml hv
  obtain ⟨rfl, hP, hK, hZ⟩ := hv
  have hx := B.exec
  have hb := B.bytes
  have hr := B.returns
  have hts := atoms_spec (ws := wsX3_halfOf) B.pre
  have hown : s.vm.findClass RX3 = some m.cls := findClass_of_methodNamed B.named
  have hlocks := B.notSynchronized
  have hiX3 : ∀ w ∈ u_ws RX3 TX3 7, w ∈ wsX3_halfOf := by decide +kernel
  have hf10 := hts (.fieldLink RX3 10 "ThingRules" "things" "LThingRules$Things;") (by decide +kernel)
  have hS : va_S (AQ 24 q) s.heap s.heap [] := va_S.rf
  have hP : va_P D vwCl (wX q cI cL u) s.heap := hP
  have hl := lv_entry ([.ref (q 0), .int p1, .int p2]) (n := 3) (Nat.le_of_ble_eq_true rfl)
  rw [lg_entry_eq]
  generalize (lg_sl ([.ref (q 0), .int p1, .int p2]) ++ List.replicate (3 - (lg_sl ([.ref (q 0), .int p1, .int p2])).length) Slot.unset).toArray = ls at hl ⊢
  have hl : lv_has ls 3 [(0, .ref (q 0)), (1, .int p1), (2, .int p2)] := hl
  have hsp : sX_halfOf u p1 p2 = _ := sX_halfOf.eq_1 u p1 p2
  unfold okX_halfOf at hok
  refine lv_aload_n hx hb dX3_halfOf_0 rfl (lv_at hl 0 rfl) ?_
  refine va_get (D := D) (ci := 6) (v := .ref (q 1)) (C := RX3) (T := TX3) (N := 7) hx hb hts hiX3 hown hK hP 0 rfl rfl 0 (by decide) hf10 (fun _ h9 => h9) rfl dX3_halfOf_1 ?_
  refine lv_iload_n hx hb dX3_halfOf_4 rfl (lv_at hl 1 rfl) ?_
  refine lv_iconst (v := 2) hx hb dX3_halfOf_5 (by decide) ?_
  have h_1 := hok.1
  have hok := hok.2
  refine vp_callSi (W.runV (As := [.int p1, .int 2]) (rest := []) ⟨hx, hb, hml, hown, hts⟩ (cXT_isOf l D q cI cL tp u p1 2 h_1) (cwV 2 hts gX3_halfOf_X2_isOf rfl rfl rfl (by decide +kernel) ⟨(Nat.le_of_ble_eq_true rfl), (Nat.le_of_ble_eq_true rfl)⟩) ⟨PX_blind, va_recv hK hP (ci := 5) (q0 := 1) rfl rfl, fun U hU hW => ⟨rfl, PX_fin hP hK hZ hS hU hW⟩⟩ rfl rfl hl.1 rfl (lv_room (Nat.le_of_ble_eq_true rfl)) dX3_halfOf_6 ⟨(Nat.le_of_ble_eq_true rfl), (Nat.le_of_ble_eq_true rfl)⟩) (fun r_2 hr_2 => ?_)
  subst hr_2
  refine lv_if_eq (tgt := 24) hx hb dX3_halfOf_9 (by decide) (fun c_3 => ?_) (fun c_3 => ?_)
  · have hsp := hsp.trans (if_pos c_3)
    have hok := hok.1 c_3
    refine lv_aload_n hx hb dX3_halfOf_24 rfl (lv_at hl 0 rfl) ?_
    refine lv_bipush (v := (-21)) hx hb dX3_halfOf_25 (by decide) ?_
    have h_4 := hok.1
    have hok := hok.2
    refine va_calli (va_runV (As := [.int (-21)]) (rest := []) ⟨hx, hb, hml, hown, hts⟩ (cX_counted l D q cI cL tp hq u (-21) h_4) (cwV 1 hts gX3_halfOf_X3_counted rfl rfl rfl (by decide +kernel) ⟨(Nat.le_of_ble_eq_true rfl), (Nat.le_of_ble_eq_true rfl)⟩) ⟨PX_blind, va_recv hK hP (ci := 6) (q0 := 0) rfl rfl, fun U hU hW => ⟨rfl, PX_fin hP hK hZ hS hU hW⟩⟩ rfl rfl hl.1 rfl (lv_room (Nat.le_of_ble_eq_true rfl)) dX3_halfOf_27 ⟨(Nat.le_of_ble_eq_true rfl), (Nat.le_of_ble_eq_true rfl)⟩) hS (fun q _ h => h) (fun q h => h) (fun r1 u1 t H1 locs ht hvm hu1 hB hz1 hk1 hS => ?_)
    have hP := hB.1
    rw [ht] at hP
    clear hB hk1 hz1 hvm ht
    generalize H1 = H at hP hS ⊢
    refine W.widen (k := 0) (n := 0) (Nat.le_refl 0) (Nat.le_refl 0) ?_
    exact W.iret (v := r1) hx hb hr (fun t ht hW => ⟨⟨r1, u1, rfl, (hu1.trans hsp.symm), PX_fin hP hK hZ hS ht hW⟩, hS.F ht⟩) hS.2.2 dX3_halfOf_30
  · have hsp := hsp.trans (if_neg c_3)
    have hok := hok.2 c_3
    refine lv_aload_n hx hb dX3_halfOf_12 rfl (lv_at hl 0 rfl) ?_
    refine va_get (D := D) (ci := 6) (v := .ref (q 1)) (C := RX3) (T := TX3) (N := 7) hx hb hts hiX3 hown hK hP 0 rfl rfl 0 (by decide) hf10 (fun _ h9 => h9) rfl dX3_halfOf_13 ?_
    refine lv_iload_n hx hb dX3_halfOf_16 rfl (lv_at hl 1 rfl) ?_
    refine lv_iload_n hx hb dX3_halfOf_17 rfl (lv_at hl 2 rfl) ?_
    have h_5 := hok.1
    have hok := hok.2
    refine vp_callSi (W.runV (As := [.int p1, .int p2]) (rest := []) ⟨hx, hb, hml, hown, hts⟩ (cXT_heldHalf l D q cI cL tp u p1 p2 h_5) (cwV 2 hts gX3_halfOf_X2_heldHalf rfl rfl rfl (by decide +kernel) ⟨(Nat.le_of_ble_eq_true rfl), (Nat.le_of_ble_eq_true rfl)⟩) ⟨PX_blind, va_recv hK hP (ci := 5) (q0 := 1) rfl rfl, fun U hU hW => ⟨rfl, PX_fin hP hK hZ hS hU hW⟩⟩ rfl rfl hl.1 rfl (lv_room (Nat.le_of_ble_eq_true rfl)) dX3_halfOf_18 ⟨(Nat.le_of_ble_eq_true rfl), (Nat.le_of_ble_eq_true rfl)⟩) (fun r_6 hr_6 => ?_)
    subst hr_6
    refine lv_goto (tgt := 30) hx hb dX3_halfOf_21 (by decide) ?_
    exact W.iret (v := (sXT_heldHalf u p1 p2)) hx hb hr (fun t ht hW => ⟨⟨(sXT_heldHalf u p1 p2), u, rfl, hsp.symm, PX_fin hP hK hZ hS ht hW⟩, hS.F ht⟩) hS.2.2 dX3_halfOf_30
set_option maxHeartbeats 4000000 in
set_option maxRecDepth 100000 in
theorem cXT_heldIn (l : Launch) (D : va_G) (q : Nat → Nat) (cI cL : ClassId) (tp : Nat) (u : St) (p1 : Int32) (p2 : Int32) (hok : okXT_heldIn u p1 p2) : Met l yX2_heldIn wsX2_heldIn { frames := 2, cells := 0, slots := 0, locals := 43 } (va_Pc [.ref (q 1), .int p1, .int p2] (fun U => PX D q cI cL tp u U)) (vp_Si (fun r => r = sXT_heldIn u p1 p2)) 0 0 (fun _ => False) := by
  refine Met.ofW (cc := cX2_heldIn) (maxL := 3) (ret := (some .int)) (by decide) rfl ?_
  intro p e s m args below meth c s₁ B hml hv
  obtain ⟨rfl, hP, hK, hZ⟩ := hv
  have hx := B.exec
  have hb := B.bytes
  have hr := B.returns
  have hts := atoms_spec (ws := wsX2_heldIn) B.pre
  have hown : s.vm.findClass RX2 = some m.cls := findClass_of_methodNamed B.named
  have hlocks := B.notSynchronized
  have hiX2 : ∀ w ∈ u_ws RX2 TX2 8, w ∈ wsX2_heldIn := by decide +kernel
  have hf27 := hts (.fieldLink RX2 27 "ThingRules$Things" "held" "[I") (by decide +kernel)
  have hS : va_S (AQ 24 q) s.heap s.heap [] := va_S.rf
  have hP : va_P D vwCl (wX q cI cL u) s.heap := hP
  have hl := lv_entry ([.ref (q 1), .int p1, .int p2]) (n := 3) (Nat.le_of_ble_eq_true rfl)
  rw [lg_entry_eq]
  generalize (lg_sl ([.ref (q 1), .int p1, .int p2]) ++ List.replicate (3 - (lg_sl ([.ref (q 1), .int p1, .int p2])).length) Slot.unset).toArray = ls at hl ⊢
  have hl : lv_has ls 3 [(0, .ref (q 1)), (1, .int p1), (2, .int p2)] := hl
  have hsp : sXT_heldIn u p1 p2 = _ := sXT_heldIn.eq_1 u p1 p2
  unfold okXT_heldIn at hok
  refine lv_aload_n hx hb dX2_heldIn_0 rfl (lv_at hl 0 rfl) ?_
  refine lv_iload_n hx hb dX2_heldIn_1 rfl (lv_at hl 1 rfl) ?_
  refine lv_iload_n hx hb dX2_heldIn_2 rfl (lv_at hl 2 rfl) ?_
  have h_1 := hok.1
  have hok := hok.2
  refine vp_callSi (W.runV (As := [.int p1, .int p2]) (rest := []) ⟨hx, hb, hml, hown, hts⟩ (cXT_hasPlace l D q cI cL tp u p1 p2 h_1) (cwV 2 hts gX2_heldIn_X2_hasPlace rfl rfl rfl (by decide +kernel) ⟨(Nat.le_of_ble_eq_true rfl), (Nat.le_of_ble_eq_true rfl)⟩) ⟨PX_blind, va_recv hK hP (ci := 5) (q0 := 1) rfl rfl, fun U hU hW => ⟨rfl, PX_fin hP hK hZ hS hU hW⟩⟩ rfl rfl hl.1 rfl (lv_room (Nat.le_of_ble_eq_true rfl)) dX2_heldIn_3 ⟨(Nat.le_of_ble_eq_true rfl), (Nat.le_of_ble_eq_true rfl)⟩) (fun r_2 hr_2 => ?_)
  subst hr_2
  refine lv_if_eq (tgt := 23) hx hb dX2_heldIn_6 (by decide) (fun c_3 => ?_) (fun c_3 => ?_)
  · have hsp := hsp.trans (if_pos c_3)
    refine lv_bipush (v := (-5)) hx hb dX2_heldIn_23 (by decide) ?_
    exact W.iret (v := (-5)) hx hb hr (fun t ht hW => ⟨(-5), rfl, hsp.symm, ht⟩) (fun _ h => nomatch h) dX2_heldIn_25
  · have hsp := hsp.trans (if_neg c_3)
    have hok := hok.2 c_3
    refine lv_aload_n hx hb dX2_heldIn_9 rfl (lv_at hl 0 rfl) ?_
    refine va_get (D := D) (ci := 5) (v := .ref (q 12)) (C := RX2) (T := TX2) (N := 8) hx hb hts hiX2 hown hK hP 1 rfl rfl 6 (by decide) hf27 (fun _ h9 => h9) rfl dX2_heldIn_10 ?_
    refine lv_iload_n hx hb dX2_heldIn_13 rfl (lv_at hl 1 rfl) ?_
    refine lv_bipush (v := 6) hx hb dX2_heldIn_14 (by decide) ?_
    refine lv_imul hx hb dX2_heldIn_16 ?_
    refine lv_iload_n hx hb dX2_heldIn_17 rfl (lv_at hl 2 rfl) ?_
    refine lv_iadd hx hb dX2_heldIn_18 ?_
    have h_4 := hok.1
    have hok := hok.2
    refine va_iald hx hb hK hP 12 0 rfl rfl h_4 dX2_heldIn_19 ?_
    refine lv_goto (tgt := 25) hx hb dX2_heldIn_20 (by decide) ?_
    exact W.iret (v := (u.2.1 12 ((p1 * 6) + p2).toNatClampNeg)) hx hb hr (fun t ht hW => ⟨(u.2.1 12 ((p1 * 6) + p2).toNatClampNeg), rfl, hsp.symm, ht⟩) (fun _ h => nomatch h) dX2_heldIn_25
set_option maxHeartbeats 4000000 in
set_option maxRecDepth 100000 in
theorem cX_at (l : Launch) (D : va_G) (q : Nat → Nat) (cI cL : ClassId) (tp : Nat) (hq : DQ 24 q) (u : St) (p1 : Int32) (p2 : Int32) (p3 : Int32) (hok : okX_at u p1 p2 p3) : Met l yX3_at wsX3_at { frames := 4, cells := 0, slots := 0, locals := 89 } (va_Pc [.ref (q 0), .int p1, .int p2, .int p3] (fun U => PX D q cI cL tp u U)) (va_Qi (fun (r : Int32) (u' : St) => (r, u') = sX_at u p1 p2 p3) (fun u' t => PX D q cI cL tp u' t) (AQ 24 q)) 0 0 (AQ 24 q) := by
  refine Met.ofW (cc := cX3_at) (maxL := 5) (ret := (some .int)) (by decide) rfl ?_
  intro p e s m args below meth c s₁ B hml hv
  obtain ⟨rfl, hP, hK, hZ⟩ := hv
  have hx := B.exec
  have hb := B.bytes
  have hr := B.returns
  have hts := atoms_spec (ws := wsX3_at) B.pre
  have hown : s.vm.findClass RX3 = some m.cls := findClass_of_methodNamed B.named
  have hlocks := B.notSynchronized
  have hiX3 : ∀ w ∈ u_ws RX3 TX3 7, w ∈ wsX3_at := by decide +kernel
  have hf10 := hts (.fieldLink RX3 10 "ThingRules" "things" "LThingRules$Things;") (by decide +kernel)
  have hS : va_S (AQ 24 q) s.heap s.heap [] := va_S.rf
  have hP : va_P D vwCl (wX q cI cL u) s.heap := hP
  have hl := lv_entry ([.ref (q 0), .int p1, .int p2, .int p3]) (n := 5) (Nat.le_of_ble_eq_true rfl)
  rw [lg_entry_eq]
  generalize (lg_sl ([.ref (q 0), .int p1, .int p2, .int p3]) ++ List.replicate (5 - (lg_sl ([.ref (q 0), .int p1, .int p2, .int p3])).length) Slot.unset).toArray = ls at hl ⊢
  have hl : lv_has ls 5 [(0, .ref (q 0)), (1, .int p1), (2, .int p2), (3, .int p3)] := hl
  have hsp : sX_at u p1 p2 p3 = _ := sX_at.eq_1 u p1 p2 p3
  unfold okX_at at hok
  refine lv_aload_n hx hb dX3_at_0 rfl (lv_at hl 0 rfl) ?_
  refine va_get (D := D) (ci := 6) (v := .ref (q 1)) (C := RX3) (T := TX3) (N := 7) hx hb hts hiX3 hown hK hP 0 rfl rfl 0 (by decide) hf10 (fun _ h9 => h9) rfl dX3_at_1 ?_
  refine lv_iload_n hx hb dX3_at_4 rfl (lv_at hl 1 rfl) ?_
  refine vp_callSi (W.runV (As := [.int p1]) (rest := []) ⟨hx, hb, hml, hown, hts⟩ (cXT_know l D q cI cL tp u p1) (cwV 1 hts gX3_at_X2_know rfl rfl rfl (by decide +kernel) ⟨(Nat.le_of_ble_eq_true rfl), (Nat.le_of_ble_eq_true rfl)⟩) ⟨PX_blind, va_recv hK hP (ci := 5) (q0 := 1) rfl rfl, fun U hU hW => ⟨rfl, PX_fin hP hK hZ hS hU hW⟩⟩ rfl rfl hl.1 rfl (lv_room (Nat.le_of_ble_eq_true rfl)) dX3_at_5 ⟨(Nat.le_of_ble_eq_true rfl), (Nat.le_of_ble_eq_true rfl)⟩) (fun r_1 hr_1 => ?_)
  subst hr_1
  refine lv_if_ne (tgt := 13) hx hb dX3_at_8 (by decide) (fun c_2 => ?_) (fun c_2 => ?_)
  · have hsp := hsp.trans (if_neg c_2)
    have hok := hok.2 c_2
    refine lv_iload_n hx hb dX3_at_13 rfl (lv_at hl 2 rfl) ?_
    refine lv_iconst (v := 2) hx hb dX3_at_14 (by decide) ?_
    refine lv_icmp_ne (tgt := 37) hx hb dX3_at_15 (by decide) (fun c_3 => ?_) (fun c_3 => ?_)
    · have hsp := hsp.trans (if_neg c_3)
      have hok := hok.2 c_3
      refine lv_iload_n hx hb dX3_at_37 rfl (lv_at hl 2 rfl) ?_
      refine vp_callSi (W.runS (As := [.int p2]) (rest := []) ⟨hx, hb, hml, hown, hts⟩ (cX_isHolderKind l p2) (va_cwS 1 hts gX3_at_X3_isHolderKind rfl rfl rfl (by decide +kernel) ⟨(Nat.le_of_ble_eq_true rfl), (Nat.le_of_ble_eq_true rfl)⟩) ⟨T_blind, fun U hU hW => ⟨rfl, trivial⟩⟩ rfl rfl hl.1 rfl (lv_room (Nat.le_of_ble_eq_true rfl)) dX3_at_38 ⟨(Nat.le_of_ble_eq_true rfl), (Nat.le_of_ble_eq_true rfl)⟩) (fun r_4 hr_4 => ?_)
      subst hr_4
      refine lv_if_ne (tgt := 47) hx hb dX3_at_41 (by decide) (fun c_5 => ?_) (fun c_5 => ?_)
      · have hsp := hsp.trans (if_neg c_5)
        have hok := hok.2 c_5
        refine lv_aload_n hx hb dX3_at_47 rfl (lv_at hl 0 rfl) ?_
        refine lv_aload_n hx hb dX3_at_48 rfl (lv_at hl 0 rfl) ?_
        refine va_get (D := D) (ci := 6) (v := .ref (q 1)) (C := RX3) (T := TX3) (N := 7) hx hb hts hiX3 hown hK hP 0 rfl rfl 0 (by decide) hf10 (fun _ h9 => h9) rfl dX3_at_49 ?_
        refine lv_iload_n hx hb dX3_at_52 rfl (lv_at hl 1 rfl) ?_
        refine lv_iload_n hx hb dX3_at_53 rfl (lv_at hl 2 rfl) ?_
        refine lv_iload_n hx hb dX3_at_54 rfl (lv_at hl 3 rfl) ?_
        have h_6 := hok.1
        have hok := hok.2
        refine vp_callSi (W.runV (As := [.int p1, .int p2, .int p3]) (rest := [.ref (q 0)]) ⟨hx, hb, hml, hown, hts⟩ (cXT_reach l D q cI cL tp u p1 p2 p3 h_6) (cwV 3 hts gX3_at_X2_reach rfl rfl rfl (by decide +kernel) ⟨(Nat.le_of_ble_eq_true rfl), (Nat.le_of_ble_eq_true rfl)⟩) ⟨PX_blind, va_recv hK hP (ci := 5) (q0 := 1) rfl rfl, fun U hU hW => ⟨rfl, PX_fin hP hK hZ hS hU hW⟩⟩ rfl rfl hl.1 rfl (lv_room (Nat.le_of_ble_eq_true rfl)) dX3_at_55 ⟨(Nat.le_of_ble_eq_true rfl), (Nat.le_of_ble_eq_true rfl)⟩) (fun r_7 hr_7 => ?_)
        subst hr_7
        have h_8 := hok.1
        have hok := hok.2
        refine va_calli (va_runV (As := [.int (sXT_reach u p1 p2 p3)]) (rest := []) ⟨hx, hb, hml, hown, hts⟩ (cX_counted l D q cI cL tp hq u (sXT_reach u p1 p2 p3) h_8) (cwV 1 hts gX3_at_X3_counted rfl rfl rfl (by decide +kernel) ⟨(Nat.le_of_ble_eq_true rfl), (Nat.le_of_ble_eq_true rfl)⟩) ⟨PX_blind, va_recv hK hP (ci := 6) (q0 := 0) rfl rfl, fun U hU hW => ⟨rfl, PX_fin hP hK hZ hS hU hW⟩⟩ rfl rfl hl.1 rfl (lv_room (Nat.le_of_ble_eq_true rfl)) dX3_at_58 ⟨(Nat.le_of_ble_eq_true rfl), (Nat.le_of_ble_eq_true rfl)⟩) hS (fun q _ h => h) (fun q h => h) (fun r1 u1 t H1 locs ht hvm hu1 hB hz1 hk1 hS => ?_)
        have hP := hB.1
        rw [ht] at hP
        clear hB hk1 hz1 hvm ht
        generalize H1 = H at hP hS ⊢
        refine W.widen (k := 0) (n := 0) (Nat.le_refl 0) (Nat.le_refl 0) ?_
        have hsp := hsp.trans (bnd2_eq hu1)
        have hok := bnd2_ok hu1 hok
        refine lv_istore (lv' := [(4, .int r1), (0, .ref (q 0)), (1, .int p1), (2, .int p2), (3, .int p3)]) hx hb dX3_at_61 hl (by decide) rfl (fun ls hl => ?_)
        refine lv_iload hx hb dX3_at_63 (lv_at hl 0 rfl) ?_
        refine lv_iconst (v := 1) hx hb dX3_at_65 (by decide) ?_
        refine lv_icmp_ne (tgt := 81) hx hb dX3_at_66 (by decide) (fun c_9 => ?_) (fun c_9 => ?_)
        · have hsp := hsp.trans (if_neg c_9)
          refine lv_iload hx hb dX3_at_81 (lv_at hl 0 rfl) ?_
          exact W.iret (v := r1) hx hb hr (fun t ht hW => ⟨⟨r1, u1, rfl, hsp.symm, PX_fin hP hK hZ hS ht hW⟩, hS.F ht⟩) hS.2.2 dX3_at_83
        · have hsp := hsp.trans (if_pos c_9)
          have hok := hok.1 c_9
          refine lv_aload_n hx hb dX3_at_69 rfl (lv_at hl 1 rfl) ?_
          refine va_get (D := D) (ci := 6) (v := .ref (q 1)) (C := RX3) (T := TX3) (N := 7) hx hb hts hiX3 hown hK hP 0 rfl rfl 0 (by decide) hf10 (fun _ h9 => h9) rfl dX3_at_70 ?_
          refine lv_iload_n hx hb dX3_at_73 rfl (lv_at hl 2 rfl) ?_
          refine lv_iload_n hx hb dX3_at_74 rfl (lv_at hl 4 rfl) ?_
          have h_10 := hok.1
          have hok := hok.2
          refine vp_callSi (W.runV (As := [.int p1, .int p3]) (rest := []) ⟨hx, hb, hml, hown, hts⟩ (cXT_heldIn l D q cI cL tp u1 p1 p3 h_10) (cwV 2 hts gX3_at_X2_heldIn rfl rfl rfl (by decide +kernel) ⟨(Nat.le_of_ble_eq_true rfl), (Nat.le_of_ble_eq_true rfl)⟩) ⟨PX_blind, va_recv hK hP (ci := 5) (q0 := 1) rfl rfl, fun U hU hW => ⟨rfl, PX_fin hP hK hZ hS hU hW⟩⟩ rfl rfl hl.1 rfl (lv_room (Nat.le_of_ble_eq_true rfl)) dX3_at_75 ⟨(Nat.le_of_ble_eq_true rfl), (Nat.le_of_ble_eq_true rfl)⟩) (fun r_11 hr_11 => ?_)
          subst hr_11
          refine lv_goto (tgt := 83) hx hb dX3_at_78 (by decide) ?_
          exact W.iret (v := (sXT_heldIn u1 p1 p3)) hx hb hr (fun t ht hW => ⟨⟨(sXT_heldIn u1 p1 p3), u1, rfl, hsp.symm, PX_fin hP hK hZ hS ht hW⟩, hS.F ht⟩) hS.2.2 dX3_at_83
      · have hsp := hsp.trans (if_pos c_5)
        refine lv_bipush (v := (-2)) hx hb dX3_at_44 (by decide) ?_
        exact W.iret (v := (-2)) hx hb hr (fun t ht hW => ⟨⟨(-2), u, rfl, hsp.symm, PX_fin hP hK hZ hS ht hW⟩, hS.F ht⟩) hS.2.2 dX3_at_46
    · have hsp := hsp.trans (if_pos c_3)
      have hok := hok.1 c_3
      refine lv_iload_n hx hb dX3_at_18 rfl (lv_at hl 3 rfl) ?_
      refine vp_callSi (W.runS (As := [.int p3]) (rest := []) ⟨hx, hb, hml, hown, hts⟩ (cX_isSide l p3) (va_cwS 1 hts gX3_at_X3_isSide rfl rfl rfl (by decide +kernel) ⟨(Nat.le_of_ble_eq_true rfl), (Nat.le_of_ble_eq_true rfl)⟩) ⟨T_blind, fun U hU hW => ⟨rfl, trivial⟩⟩ rfl rfl hl.1 rfl (lv_room (Nat.le_of_ble_eq_true rfl)) dX3_at_19 ⟨(Nat.le_of_ble_eq_true rfl), (Nat.le_of_ble_eq_true rfl)⟩) (fun r_12 hr_12 => ?_)
      subst hr_12
      refine lv_if_eq (tgt := 34) hx hb dX3_at_22 (by decide) (fun c_13 => ?_) (fun c_13 => ?_)
      · have hsp := hsp.trans (if_pos c_13)
        refine lv_bipush (v := (-2)) hx hb dX3_at_34 (by decide) ?_
        exact W.iret (v := (-2)) hx hb hr (fun t ht hW => ⟨⟨(-2), u, rfl, hsp.symm, PX_fin hP hK hZ hS ht hW⟩, hS.F ht⟩) hS.2.2 dX3_at_36
      · have hsp := hsp.trans (if_neg c_13)
        have hok := hok.2 c_13
        refine lv_aload_n hx hb dX3_at_25 rfl (lv_at hl 0 rfl) ?_
        refine lv_iload_n hx hb dX3_at_26 rfl (lv_at hl 1 rfl) ?_
        refine lv_iload_n hx hb dX3_at_27 rfl (lv_at hl 3 rfl) ?_
        have h_14 := hok.1
        have hok := hok.2
        refine va_calli (va_runV (As := [.int p1, .int p3]) (rest := []) ⟨hx, hb, hml, hown, hts⟩ (cX_halfOf l D q cI cL tp hq u p1 p3 h_14) (cwV 2 hts gX3_at_X3_halfOf rfl rfl rfl (by decide +kernel) ⟨(Nat.le_of_ble_eq_true rfl), (Nat.le_of_ble_eq_true rfl)⟩) ⟨PX_blind, va_recv hK hP (ci := 6) (q0 := 0) rfl rfl, fun U hU hW => ⟨rfl, PX_fin hP hK hZ hS hU hW⟩⟩ rfl rfl hl.1 rfl (lv_room (Nat.le_of_ble_eq_true rfl)) dX3_at_28 ⟨(Nat.le_of_ble_eq_true rfl), (Nat.le_of_ble_eq_true rfl)⟩) hS (fun q _ h => h) (fun q h => h) (fun r2 u2 t H1 locs ht hvm hu2 hB hz1 hk1 hS => ?_)
        have hP := hB.1
        rw [ht] at hP
        clear hB hk1 hz1 hvm ht
        generalize H1 = H at hP hS ⊢
        refine W.widen (k := 0) (n := 0) (Nat.le_refl 0) (Nat.le_refl 0) ?_
        have hsp := hsp.trans (bnd2_eq hu2)
        refine lv_goto (tgt := 36) hx hb dX3_at_31 (by decide) ?_
        exact W.iret (v := r2) hx hb hr (fun t ht hW => ⟨⟨r2, u2, rfl, hsp.symm, PX_fin hP hK hZ hS ht hW⟩, hS.F ht⟩) hS.2.2 dX3_at_36
  · have hsp := hsp.trans (if_pos c_2)
    refine lv_iconst (v := (-1)) hx hb dX3_at_11 (by decide) ?_
    exact W.iret (v := (-1)) hx hb hr (fun t ht hW => ⟨⟨(-1), u, rfl, hsp.symm, PX_fin hP hK hZ hS ht hW⟩, hS.F ht⟩) hS.2.2 dX3_at_12
set_option maxHeartbeats 4000000 in
set_option maxRecDepth 100000 in
theorem cX_is (l : Launch) (D : va_G) (q : Nat → Nat) (cI cL : ClassId) (tp : Nat) (u : St) (p1 : Int32) (p2 : Int32) (hok : okX_is u p1 p2) : Met l yX3_is wsX3_is { frames := 2, cells := 0, slots := 0, locals := 43 } (va_Pc [.ref (q 0), .int p1, .int p2] (fun U => PX D q cI cL tp u U)) (vp_Si (fun r => r = sX_is u p1 p2)) 0 0 (fun _ => False) := by
  refine Met.ofW (cc := cX3_is) (maxL := 3) (ret := (some .int)) (by decide) rfl ?_
  intro p e s m args below meth c s₁ B hml hv
  obtain ⟨rfl, hP, hK, hZ⟩ := hv
  have hx := B.exec
  have hb := B.bytes
  have hr := B.returns
  have hts := atoms_spec (ws := wsX3_is) B.pre
  have hown : s.vm.findClass RX3 = some m.cls := findClass_of_methodNamed B.named
  have hlocks := B.notSynchronized
  have hiX3 : ∀ w ∈ u_ws RX3 TX3 7, w ∈ wsX3_is := by decide +kernel
  have hf10 := hts (.fieldLink RX3 10 "ThingRules" "things" "LThingRules$Things;") (by decide +kernel)
  have hS : va_S (AQ 24 q) s.heap s.heap [] := va_S.rf
  have hP : va_P D vwCl (wX q cI cL u) s.heap := hP
  have hl := lv_entry ([.ref (q 0), .int p1, .int p2]) (n := 3) (Nat.le_of_ble_eq_true rfl)
  rw [lg_entry_eq]
  generalize (lg_sl ([.ref (q 0), .int p1, .int p2]) ++ List.replicate (3 - (lg_sl ([.ref (q 0), .int p1, .int p2])).length) Slot.unset).toArray = ls at hl ⊢
  have hl : lv_has ls 3 [(0, .ref (q 0)), (1, .int p1), (2, .int p2)] := hl
  have hsp : sX_is u p1 p2 = _ := sX_is.eq_1 u p1 p2
  unfold okX_is at hok
  refine lv_aload_n hx hb dX3_is_0 rfl (lv_at hl 0 rfl) ?_
  refine va_get (D := D) (ci := 6) (v := .ref (q 1)) (C := RX3) (T := TX3) (N := 7) hx hb hts hiX3 hown hK hP 0 rfl rfl 0 (by decide) hf10 (fun _ h9 => h9) rfl dX3_is_1 ?_
  refine lv_iload_n hx hb dX3_is_4 rfl (lv_at hl 1 rfl) ?_
  refine vp_callSi (W.runV (As := [.int p1]) (rest := []) ⟨hx, hb, hml, hown, hts⟩ (cXT_know l D q cI cL tp u p1) (cwV 1 hts gX3_is_X2_know rfl rfl rfl (by decide +kernel) ⟨(Nat.le_of_ble_eq_true rfl), (Nat.le_of_ble_eq_true rfl)⟩) ⟨PX_blind, va_recv hK hP (ci := 5) (q0 := 1) rfl rfl, fun U hU hW => ⟨rfl, PX_fin hP hK hZ hS hU hW⟩⟩ rfl rfl hl.1 rfl (lv_room (Nat.le_of_ble_eq_true rfl)) dX3_is_5 ⟨(Nat.le_of_ble_eq_true rfl), (Nat.le_of_ble_eq_true rfl)⟩) (fun r_1 hr_1 => ?_)
  subst hr_1
  refine lv_if_ne (tgt := 13) hx hb dX3_is_8 (by decide) (fun c_2 => ?_) (fun c_2 => ?_)
  · have hsp := hsp.trans (if_neg c_2)
    have hok := hok.2 c_2
    refine lv_iload_n hx hb dX3_is_13 rfl (lv_at hl 2 rfl) ?_
    refine lv_iconst (v := 0) hx hb dX3_is_14 (by decide) ?_
    refine lv_bipush (v := 15) hx hb dX3_is_15 (by decide) ?_
    refine vp_callSi (W.runS (As := [.int p2, .int 0, .int 15]) (rest := []) ⟨hx, hb, hml, hown, hts⟩ (cX_within l p2 0 15) (va_cwS 3 hts gX3_is_X3_within rfl rfl rfl (by decide +kernel) ⟨(Nat.le_of_ble_eq_true rfl), (Nat.le_of_ble_eq_true rfl)⟩) ⟨T_blind, fun U hU hW => ⟨rfl, trivial⟩⟩ rfl rfl hl.1 rfl (lv_room (Nat.le_of_ble_eq_true rfl)) dX3_is_17 ⟨(Nat.le_of_ble_eq_true rfl), (Nat.le_of_ble_eq_true rfl)⟩) (fun r_3 hr_3 => ?_)
    subst hr_3
    refine lv_if_ne (tgt := 26) hx hb dX3_is_20 (by decide) (fun c_4 => ?_) (fun c_4 => ?_)
    · have hsp := hsp.trans (if_neg c_4)
      have hok := hok.2 c_4
      refine lv_aload_n hx hb dX3_is_26 rfl (lv_at hl 0 rfl) ?_
      refine va_get (D := D) (ci := 6) (v := .ref (q 1)) (C := RX3) (T := TX3) (N := 7) hx hb hts hiX3 hown hK hP 0 rfl rfl 0 (by decide) hf10 (fun _ h9 => h9) rfl dX3_is_27 ?_
      refine lv_iload_n hx hb dX3_is_30 rfl (lv_at hl 1 rfl) ?_
      refine lv_iload_n hx hb dX3_is_31 rfl (lv_at hl 2 rfl) ?_
      have h_5 := hok.1
      have hok := hok.2
      refine vp_callSi (W.runV (As := [.int p1, .int p2]) (rest := []) ⟨hx, hb, hml, hown, hts⟩ (cXT_isOf l D q cI cL tp u p1 p2 h_5) (cwV 2 hts gX3_is_X2_isOf rfl rfl rfl (by decide +kernel) ⟨(Nat.le_of_ble_eq_true rfl), (Nat.le_of_ble_eq_true rfl)⟩) ⟨PX_blind, va_recv hK hP (ci := 5) (q0 := 1) rfl rfl, fun U hU hW => ⟨rfl, PX_fin hP hK hZ hS hU hW⟩⟩ rfl rfl hl.1 rfl (lv_room (Nat.le_of_ble_eq_true rfl)) dX3_is_32 ⟨(Nat.le_of_ble_eq_true rfl), (Nat.le_of_ble_eq_true rfl)⟩) (fun r_6 hr_6 => ?_)
      subst hr_6
      refine lv_if_eq (tgt := 42) hx hb dX3_is_35 (by decide) (fun c_7 => ?_) (fun c_7 => ?_)
      · have hsp := hsp.trans (if_pos c_7)
        refine lv_iconst (v := 0) hx hb dX3_is_42 (by decide) ?_
        exact W.iret (v := 0) hx hb hr (fun t ht hW => ⟨0, rfl, hsp.symm, ht⟩) (fun _ h => nomatch h) dX3_is_43
      · have hsp := hsp.trans (if_neg c_7)
        refine lv_iconst (v := 1) hx hb dX3_is_38 (by decide) ?_
        refine lv_goto (tgt := 43) hx hb dX3_is_39 (by decide) ?_
        exact W.iret (v := 1) hx hb hr (fun t ht hW => ⟨1, rfl, hsp.symm, ht⟩) (fun _ h => nomatch h) dX3_is_43
    · have hsp := hsp.trans (if_pos c_4)
      refine lv_bipush (v := (-2)) hx hb dX3_is_23 (by decide) ?_
      exact W.iret (v := (-2)) hx hb hr (fun t ht hW => ⟨(-2), rfl, hsp.symm, ht⟩) (fun _ h => nomatch h) dX3_is_25
  · have hsp := hsp.trans (if_pos c_2)
    refine lv_iconst (v := (-1)) hx hb dX3_is_11 (by decide) ?_
    exact W.iret (v := (-1)) hx hb hr (fun t ht hW => ⟨(-1), rfl, hsp.symm, ht⟩) (fun _ h => nomatch h) dX3_is_12
set_option maxHeartbeats 4000000 in
set_option maxRecDepth 100000 in
theorem cX_isSlot (l : Launch) (p0 : Int32) : Met l yX3_isSlot wsX3_isSlot { frames := 1, cells := 0, slots := 0, locals := 22 } (va_Pc [.int p0] (fun _ => True)) (vp_Si (fun r => r = sX_isSlot p0)) 0 0 (fun _ => False) := by
  refine Met.ofW (cc := cX3_isSlot) (maxL := 1) (ret := (some .boolean)) (by decide) rfl ?_
  intro p e s m args below meth c s₁ B hml hv
  obtain ⟨rfl, -⟩ := hv
  have hx := B.exec
  have hb := B.bytes
  have hr := B.returns
  have hts := atoms_spec (ws := wsX3_isSlot) B.pre
  have hown : s.vm.findClass RX3 = some m.cls := findClass_of_methodNamed B.named
  have hlocks := B.notSynchronized
  have hl := lv_entry ([.int p0]) (n := 1) (Nat.le_of_ble_eq_true rfl)
  rw [lg_entry_eq]
  generalize (lg_sl ([.int p0]) ++ List.replicate (1 - (lg_sl ([.int p0])).length) Slot.unset).toArray = ls at hl ⊢
  have hl : lv_has ls 1 [(0, .int p0)] := hl
  have hsp : sX_isSlot p0 = _ := sX_isSlot.eq_1 p0
  refine lv_iload_n hx hb dX3_isSlot_0 rfl (lv_at hl 0 rfl) ?_
  refine lv_iconst (v := 0) hx hb dX3_isSlot_1 (by decide) ?_
  refine lv_iconst (v := 3) hx hb dX3_isSlot_2 (by decide) ?_
  refine vp_callSi (W.runS (As := [.int p0, .int 0, .int 3]) (rest := []) ⟨hx, hb, hml, hown, hts⟩ (cX_within l p0 0 3) (va_cwS 3 hts gX3_isSlot_X3_within rfl rfl rfl (by decide +kernel) ⟨(Nat.le_of_ble_eq_true rfl), (Nat.le_of_ble_eq_true rfl)⟩) ⟨T_blind, fun U hU hW => ⟨rfl, trivial⟩⟩ rfl rfl hl.1 rfl (lv_room (Nat.le_of_ble_eq_true rfl)) dX3_isSlot_3 ⟨(Nat.le_of_ble_eq_true rfl), (Nat.le_of_ble_eq_true rfl)⟩) (fun r_1 hr_1 => ?_)
  subst hr_1
  exact W.zret (v := (sX_within p0 0 3)) hx hb hr (isB_n (bX_within p0 0 3)) (fun t ht hW => ⟨(sX_within p0 0 3), rfl, hsp.symm, ht⟩) (fun _ h => nomatch h) dX3_isSlot_6
set_option maxHeartbeats 4000000 in
set_option maxRecDepth 100000 in
theorem cX_isAsTold (l : Launch) (p0 : Int32) (p1 : Int32) : Met l yX3_isAsTold wsX3_isAsTold { frames := 2, cells := 0, slots := 0, locals := 42 } (va_Pc [.int p0, .int p1] (fun _ => True)) (vp_Si (fun r => r = sX_isAsTold p0 p1)) 0 0 (fun _ => False) := by
  refine Met.ofW (cc := cX3_isAsTold) (maxL := 2) (ret := (some .boolean)) (by decide) rfl ?_
  intro p e s m args below meth c s₁ B hml hv
  obtain ⟨rfl, -⟩ := hv
  have hx := B.exec
  have hb := B.bytes
  have hr := B.returns
  have hts := atoms_spec (ws := wsX3_isAsTold) B.pre
  have hown : s.vm.findClass RX3 = some m.cls := findClass_of_methodNamed B.named
  have hlocks := B.notSynchronized
  have hl := lv_entry ([.int p0, .int p1]) (n := 2) (Nat.le_of_ble_eq_true rfl)
  rw [lg_entry_eq]
  generalize (lg_sl ([.int p0, .int p1]) ++ List.replicate (2 - (lg_sl ([.int p0, .int p1])).length) Slot.unset).toArray = ls at hl ⊢
  have hl : lv_has ls 2 [(0, .int p0), (1, .int p1)] := hl
  have hsp : sX_isAsTold p0 p1 = _ := sX_isAsTold.eq_1 p0 p1
  refine lv_iload_n hx hb dX3_isAsTold_0 rfl (lv_at hl 0 rfl) ?_
  by_cases c_1 : p0 = 0
  · have hsp := hsp.trans (if_pos c_1)
    refine lv_tableIn (off := 71) (tgt := 72) hx hb dX3_isAsTold_1 (by rw [c_1]; decide) (by rw [c_1]; decide) (by rw [c_1]; rfl) (by decide) ?_
    refine lv_iload_n hx hb dX3_isAsTold_72 rfl (lv_at hl 1 rfl) ?_
    refine lv_iconst (v := 0) hx hb dX3_isAsTold_73 (by decide) ?_
    refine lv_bipush (v := 15) hx hb dX3_isAsTold_74 (by decide) ?_
    refine vp_callSi (W.runS (As := [.int p1, .int 0, .int 15]) (rest := []) ⟨hx, hb, hml, hown, hts⟩ (cX_within l p1 0 15) (va_cwS 3 hts gX3_isAsTold_X3_within rfl rfl rfl (by decide +kernel) ⟨(Nat.le_of_ble_eq_true rfl), (Nat.le_of_ble_eq_true rfl)⟩) ⟨T_blind, fun U hU hW => ⟨rfl, trivial⟩⟩ rfl rfl hl.1 rfl (lv_room (Nat.le_of_ble_eq_true rfl)) dX3_isAsTold_76 ⟨(Nat.le_of_ble_eq_true rfl), (Nat.le_of_ble_eq_true rfl)⟩) (fun r_2 hr_2 => ?_)
    subst hr_2
    exact W.zret (v := (sX_within p1 0 15)) hx hb hr (isB_n (bX_within p1 0 15)) (fun t ht hW => ⟨(sX_within p1 0 15), rfl, hsp.symm, ht⟩) (fun _ h => nomatch h) dX3_isAsTold_79
  · have hsp := hsp.trans (if_neg c_1)
    by_cases c_3 : p0 = 1
    · have hsp := hsp.trans (if_pos c_3)
      refine lv_tableIn (off := 71) (tgt := 72) hx hb dX3_isAsTold_1 (by rw [c_3]; decide) (by rw [c_3]; decide) (by rw [c_3]; rfl) (by decide) ?_
      refine lv_iload_n hx hb dX3_isAsTold_72 rfl (lv_at hl 1 rfl) ?_
      refine lv_iconst (v := 0) hx hb dX3_isAsTold_73 (by decide) ?_
      refine lv_bipush (v := 15) hx hb dX3_isAsTold_74 (by decide) ?_
      refine vp_callSi (W.runS (As := [.int p1, .int 0, .int 15]) (rest := []) ⟨hx, hb, hml, hown, hts⟩ (cX_within l p1 0 15) (va_cwS 3 hts gX3_isAsTold_X3_within rfl rfl rfl (by decide +kernel) ⟨(Nat.le_of_ble_eq_true rfl), (Nat.le_of_ble_eq_true rfl)⟩) ⟨T_blind, fun U hU hW => ⟨rfl, trivial⟩⟩ rfl rfl hl.1 rfl (lv_room (Nat.le_of_ble_eq_true rfl)) dX3_isAsTold_76 ⟨(Nat.le_of_ble_eq_true rfl), (Nat.le_of_ble_eq_true rfl)⟩) (fun r_4 hr_4 => ?_)
      subst hr_4
      exact W.zret (v := (sX_within p1 0 15)) hx hb hr (isB_n (bX_within p1 0 15)) (fun t ht hW => ⟨(sX_within p1 0 15), rfl, hsp.symm, ht⟩) (fun _ h => nomatch h) dX3_isAsTold_79
    · have hsp := hsp.trans (if_neg c_3)
      by_cases c_5 : p0 = 2
      · have hsp := hsp.trans (if_pos c_5)
        refine lv_tableIn (off := 102) (tgt := 103) hx hb dX3_isAsTold_1 (by rw [c_5]; decide) (by rw [c_5]; decide) (by rw [c_5]; rfl) (by decide) ?_
        refine lv_iload_n hx hb dX3_isAsTold_103 rfl (lv_at hl 0 rfl) ?_
        refine lv_iconst (v := 0) hx hb dX3_isAsTold_104 (by decide) ?_
        refine lv_bipush (v := 13) hx hb dX3_isAsTold_105 (by decide) ?_
        refine vp_callSi (W.runS (As := [.int p0, .int 0, .int 13]) (rest := []) ⟨hx, hb, hml, hown, hts⟩ (cX_within l p0 0 13) (va_cwS 3 hts gX3_isAsTold_X3_within rfl rfl rfl (by decide +kernel) ⟨(Nat.le_of_ble_eq_true rfl), (Nat.le_of_ble_eq_true rfl)⟩) ⟨T_blind, fun U hU hW => ⟨rfl, trivial⟩⟩ rfl rfl hl.1 rfl (lv_room (Nat.le_of_ble_eq_true rfl)) dX3_isAsTold_107 ⟨(Nat.le_of_ble_eq_true rfl), (Nat.le_of_ble_eq_true rfl)⟩) (fun r_6 hr_6 => ?_)
        subst hr_6
        exact W.zret (v := (sX_within p0 0 13)) hx hb hr (isB_n (bX_within p0 0 13)) (fun t ht hW => ⟨(sX_within p0 0 13), rfl, hsp.symm, ht⟩) (fun _ h => nomatch h) dX3_isAsTold_110
      · have hsp := hsp.trans (if_neg c_5)
        by_cases c_7 : p0 = 3
        · have hsp := hsp.trans (if_pos c_7)
          refine lv_tableIn (off := 102) (tgt := 103) hx hb dX3_isAsTold_1 (by rw [c_7]; decide) (by rw [c_7]; decide) (by rw [c_7]; rfl) (by decide) ?_
          refine lv_iload_n hx hb dX3_isAsTold_103 rfl (lv_at hl 0 rfl) ?_
          refine lv_iconst (v := 0) hx hb dX3_isAsTold_104 (by decide) ?_
          refine lv_bipush (v := 13) hx hb dX3_isAsTold_105 (by decide) ?_
          refine vp_callSi (W.runS (As := [.int p0, .int 0, .int 13]) (rest := []) ⟨hx, hb, hml, hown, hts⟩ (cX_within l p0 0 13) (va_cwS 3 hts gX3_isAsTold_X3_within rfl rfl rfl (by decide +kernel) ⟨(Nat.le_of_ble_eq_true rfl), (Nat.le_of_ble_eq_true rfl)⟩) ⟨T_blind, fun U hU hW => ⟨rfl, trivial⟩⟩ rfl rfl hl.1 rfl (lv_room (Nat.le_of_ble_eq_true rfl)) dX3_isAsTold_107 ⟨(Nat.le_of_ble_eq_true rfl), (Nat.le_of_ble_eq_true rfl)⟩) (fun r_8 hr_8 => ?_)
          subst hr_8
          exact W.zret (v := (sX_within p0 0 13)) hx hb hr (isB_n (bX_within p0 0 13)) (fun t ht hW => ⟨(sX_within p0 0 13), rfl, hsp.symm, ht⟩) (fun _ h => nomatch h) dX3_isAsTold_110
        · have hsp := hsp.trans (if_neg c_7)
          by_cases c_9 : p0 = 4
          · have hsp := hsp.trans (if_pos c_9)
            refine lv_tableIn (off := 79) (tgt := 80) hx hb dX3_isAsTold_1 (by rw [c_9]; decide) (by rw [c_9]; decide) (by rw [c_9]; rfl) (by decide) ?_
            refine lv_iload_n hx hb dX3_isAsTold_80 rfl (lv_at hl 1 rfl) ?_
            refine vp_callSi (W.runS (As := [.int p1]) (rest := []) ⟨hx, hb, hml, hown, hts⟩ (cX_isHolderKind l p1) (va_cwS 1 hts gX3_isAsTold_X3_isHolderKind rfl rfl rfl (by decide +kernel) ⟨(Nat.le_of_ble_eq_true rfl), (Nat.le_of_ble_eq_true rfl)⟩) ⟨T_blind, fun U hU hW => ⟨rfl, trivial⟩⟩ rfl rfl hl.1 rfl (lv_room (Nat.le_of_ble_eq_true rfl)) dX3_isAsTold_81 ⟨(Nat.le_of_ble_eq_true rfl), (Nat.le_of_ble_eq_true rfl)⟩) (fun r_10 hr_10 => ?_)
            subst hr_10
            exact W.zret (v := (sX_isHolderKind p1)) hx hb hr (isB_n (bX_isHolderKind p1)) (fun t ht hW => ⟨(sX_isHolderKind p1), rfl, hsp.symm, ht⟩) (fun _ h => nomatch h) dX3_isAsTold_84
          · have hsp := hsp.trans (if_neg c_9)
            by_cases c_11 : p0 = 5
            · have hsp := hsp.trans (if_pos c_11)
              refine lv_tableIn (off := 79) (tgt := 80) hx hb dX3_isAsTold_1 (by rw [c_11]; decide) (by rw [c_11]; decide) (by rw [c_11]; rfl) (by decide) ?_
              refine lv_iload_n hx hb dX3_isAsTold_80 rfl (lv_at hl 1 rfl) ?_
              refine vp_callSi (W.runS (As := [.int p1]) (rest := []) ⟨hx, hb, hml, hown, hts⟩ (cX_isHolderKind l p1) (va_cwS 1 hts gX3_isAsTold_X3_isHolderKind rfl rfl rfl (by decide +kernel) ⟨(Nat.le_of_ble_eq_true rfl), (Nat.le_of_ble_eq_true rfl)⟩) ⟨T_blind, fun U hU hW => ⟨rfl, trivial⟩⟩ rfl rfl hl.1 rfl (lv_room (Nat.le_of_ble_eq_true rfl)) dX3_isAsTold_81 ⟨(Nat.le_of_ble_eq_true rfl), (Nat.le_of_ble_eq_true rfl)⟩) (fun r_12 hr_12 => ?_)
              subst hr_12
              exact W.zret (v := (sX_isHolderKind p1)) hx hb hr (isB_n (bX_isHolderKind p1)) (fun t ht hW => ⟨(sX_isHolderKind p1), rfl, hsp.symm, ht⟩) (fun _ h => nomatch h) dX3_isAsTold_84
            · have hsp := hsp.trans (if_neg c_11)
              by_cases c_13 : p0 = 6
              · have hsp := hsp.trans (if_pos c_13)
                refine lv_tableIn (off := 84) (tgt := 85) hx hb dX3_isAsTold_1 (by rw [c_13]; decide) (by rw [c_13]; decide) (by rw [c_13]; rfl) (by decide) ?_
                refine lv_iload_n hx hb dX3_isAsTold_85 rfl (lv_at hl 1 rfl) ?_
                refine vp_callSi (W.runS (As := [.int p1]) (rest := []) ⟨hx, hb, hml, hown, hts⟩ (cX_isNumbersKind l p1) (va_cwS 1 hts gX3_isAsTold_X3_isNumbersKind rfl rfl rfl (by decide +kernel) ⟨(Nat.le_of_ble_eq_true rfl), (Nat.le_of_ble_eq_true rfl)⟩) ⟨T_blind, fun U hU hW => ⟨rfl, trivial⟩⟩ rfl rfl hl.1 rfl (lv_room (Nat.le_of_ble_eq_true rfl)) dX3_isAsTold_86 ⟨(Nat.le_of_ble_eq_true rfl), (Nat.le_of_ble_eq_true rfl)⟩) (fun r_14 hr_14 => ?_)
                subst hr_14
                exact W.zret (v := (sX_isNumbersKind p1)) hx hb hr (isB_n (bX_isNumbersKind p1)) (fun t ht hW => ⟨(sX_isNumbersKind p1), rfl, hsp.symm, ht⟩) (fun _ h => nomatch h) dX3_isAsTold_89
              · have hsp := hsp.trans (if_neg c_13)
                by_cases c_15 : p0 = 7
                · have hsp := hsp.trans (if_pos c_15)
                  refine lv_tableIn (off := 102) (tgt := 103) hx hb dX3_isAsTold_1 (by rw [c_15]; decide) (by rw [c_15]; decide) (by rw [c_15]; rfl) (by decide) ?_
                  refine lv_iload_n hx hb dX3_isAsTold_103 rfl (lv_at hl 0 rfl) ?_
                  refine lv_iconst (v := 0) hx hb dX3_isAsTold_104 (by decide) ?_
                  refine lv_bipush (v := 13) hx hb dX3_isAsTold_105 (by decide) ?_
                  refine vp_callSi (W.runS (As := [.int p0, .int 0, .int 13]) (rest := []) ⟨hx, hb, hml, hown, hts⟩ (cX_within l p0 0 13) (va_cwS 3 hts gX3_isAsTold_X3_within rfl rfl rfl (by decide +kernel) ⟨(Nat.le_of_ble_eq_true rfl), (Nat.le_of_ble_eq_true rfl)⟩) ⟨T_blind, fun U hU hW => ⟨rfl, trivial⟩⟩ rfl rfl hl.1 rfl (lv_room (Nat.le_of_ble_eq_true rfl)) dX3_isAsTold_107 ⟨(Nat.le_of_ble_eq_true rfl), (Nat.le_of_ble_eq_true rfl)⟩) (fun r_16 hr_16 => ?_)
                  subst hr_16
                  exact W.zret (v := (sX_within p0 0 13)) hx hb hr (isB_n (bX_within p0 0 13)) (fun t ht hW => ⟨(sX_within p0 0 13), rfl, hsp.symm, ht⟩) (fun _ h => nomatch h) dX3_isAsTold_110
                · have hsp := hsp.trans (if_neg c_15)
                  by_cases c_17 : p0 = 8
                  · have hsp := hsp.trans (if_pos c_17)
                    refine lv_tableIn (off := 102) (tgt := 103) hx hb dX3_isAsTold_1 (by rw [c_17]; decide) (by rw [c_17]; decide) (by rw [c_17]; rfl) (by decide) ?_
                    refine lv_iload_n hx hb dX3_isAsTold_103 rfl (lv_at hl 0 rfl) ?_
                    refine lv_iconst (v := 0) hx hb dX3_isAsTold_104 (by decide) ?_
                    refine lv_bipush (v := 13) hx hb dX3_isAsTold_105 (by decide) ?_
                    refine vp_callSi (W.runS (As := [.int p0, .int 0, .int 13]) (rest := []) ⟨hx, hb, hml, hown, hts⟩ (cX_within l p0 0 13) (va_cwS 3 hts gX3_isAsTold_X3_within rfl rfl rfl (by decide +kernel) ⟨(Nat.le_of_ble_eq_true rfl), (Nat.le_of_ble_eq_true rfl)⟩) ⟨T_blind, fun U hU hW => ⟨rfl, trivial⟩⟩ rfl rfl hl.1 rfl (lv_room (Nat.le_of_ble_eq_true rfl)) dX3_isAsTold_107 ⟨(Nat.le_of_ble_eq_true rfl), (Nat.le_of_ble_eq_true rfl)⟩) (fun r_18 hr_18 => ?_)
                    subst hr_18
                    exact W.zret (v := (sX_within p0 0 13)) hx hb hr (isB_n (bX_within p0 0 13)) (fun t ht hW => ⟨(sX_within p0 0 13), rfl, hsp.symm, ht⟩) (fun _ h => nomatch h) dX3_isAsTold_110
                  · have hsp := hsp.trans (if_neg c_17)
                    by_cases c_19 : p0 = 9
                    · have hsp := hsp.trans (if_pos c_19)
                      refine lv_tableIn (off := 102) (tgt := 103) hx hb dX3_isAsTold_1 (by rw [c_19]; decide) (by rw [c_19]; decide) (by rw [c_19]; rfl) (by decide) ?_
                      refine lv_iload_n hx hb dX3_isAsTold_103 rfl (lv_at hl 0 rfl) ?_
                      refine lv_iconst (v := 0) hx hb dX3_isAsTold_104 (by decide) ?_
                      refine lv_bipush (v := 13) hx hb dX3_isAsTold_105 (by decide) ?_
                      refine vp_callSi (W.runS (As := [.int p0, .int 0, .int 13]) (rest := []) ⟨hx, hb, hml, hown, hts⟩ (cX_within l p0 0 13) (va_cwS 3 hts gX3_isAsTold_X3_within rfl rfl rfl (by decide +kernel) ⟨(Nat.le_of_ble_eq_true rfl), (Nat.le_of_ble_eq_true rfl)⟩) ⟨T_blind, fun U hU hW => ⟨rfl, trivial⟩⟩ rfl rfl hl.1 rfl (lv_room (Nat.le_of_ble_eq_true rfl)) dX3_isAsTold_107 ⟨(Nat.le_of_ble_eq_true rfl), (Nat.le_of_ble_eq_true rfl)⟩) (fun r_20 hr_20 => ?_)
                      subst hr_20
                      exact W.zret (v := (sX_within p0 0 13)) hx hb hr (isB_n (bX_within p0 0 13)) (fun t ht hW => ⟨(sX_within p0 0 13), rfl, hsp.symm, ht⟩) (fun _ h => nomatch h) dX3_isAsTold_110
                    · have hsp := hsp.trans (if_neg c_19)
                      by_cases c_21 : p0 = 10
                      · have hsp := hsp.trans (if_pos c_21)
                        refine lv_tableIn (off := 97) (tgt := 98) hx hb dX3_isAsTold_1 (by rw [c_21]; decide) (by rw [c_21]; decide) (by rw [c_21]; rfl) (by decide) ?_
                        refine lv_iload_n hx hb dX3_isAsTold_98 rfl (lv_at hl 1 rfl) ?_
                        refine vp_callSi (W.runS (As := [.int p1]) (rest := []) ⟨hx, hb, hml, hown, hts⟩ (cX_isSlot l p1) (va_cwS 1 hts gX3_isAsTold_X3_isSlot rfl rfl rfl (by decide +kernel) ⟨(Nat.le_of_ble_eq_true rfl), (Nat.le_of_ble_eq_true rfl)⟩) ⟨T_blind, fun U hU hW => ⟨rfl, trivial⟩⟩ rfl rfl hl.1 rfl (lv_room (Nat.le_of_ble_eq_true rfl)) dX3_isAsTold_99 ⟨(Nat.le_of_ble_eq_true rfl), (Nat.le_of_ble_eq_true rfl)⟩) (fun r_22 hr_22 => ?_)
                        subst hr_22
                        exact W.zret (v := (sX_isSlot p1)) hx hb hr (isB_n (bX_isSlot p1)) (fun t ht hW => ⟨(sX_isSlot p1), rfl, hsp.symm, ht⟩) (fun _ h => nomatch h) dX3_isAsTold_102
                      · have hsp := hsp.trans (if_neg c_21)
                        by_cases c_23 : p0 = 11
                        · have hsp := hsp.trans (if_pos c_23)
                          refine lv_tableIn (off := 97) (tgt := 98) hx hb dX3_isAsTold_1 (by rw [c_23]; decide) (by rw [c_23]; decide) (by rw [c_23]; rfl) (by decide) ?_
                          refine lv_iload_n hx hb dX3_isAsTold_98 rfl (lv_at hl 1 rfl) ?_
                          refine vp_callSi (W.runS (As := [.int p1]) (rest := []) ⟨hx, hb, hml, hown, hts⟩ (cX_isSlot l p1) (va_cwS 1 hts gX3_isAsTold_X3_isSlot rfl rfl rfl (by decide +kernel) ⟨(Nat.le_of_ble_eq_true rfl), (Nat.le_of_ble_eq_true rfl)⟩) ⟨T_blind, fun U hU hW => ⟨rfl, trivial⟩⟩ rfl rfl hl.1 rfl (lv_room (Nat.le_of_ble_eq_true rfl)) dX3_isAsTold_99 ⟨(Nat.le_of_ble_eq_true rfl), (Nat.le_of_ble_eq_true rfl)⟩) (fun r_24 hr_24 => ?_)
                          subst hr_24
                          exact W.zret (v := (sX_isSlot p1)) hx hb hr (isB_n (bX_isSlot p1)) (fun t ht hW => ⟨(sX_isSlot p1), rfl, hsp.symm, ht⟩) (fun _ h => nomatch h) dX3_isAsTold_102
                        · have hsp := hsp.trans (if_neg c_23)
                          by_cases c_25 : p0 = 12
                          · have hsp := hsp.trans (if_pos c_25)
                            refine lv_tableIn (off := 102) (tgt := 103) hx hb dX3_isAsTold_1 (by rw [c_25]; decide) (by rw [c_25]; decide) (by rw [c_25]; rfl) (by decide) ?_
                            refine lv_iload_n hx hb dX3_isAsTold_103 rfl (lv_at hl 0 rfl) ?_
                            refine lv_iconst (v := 0) hx hb dX3_isAsTold_104 (by decide) ?_
                            refine lv_bipush (v := 13) hx hb dX3_isAsTold_105 (by decide) ?_
                            refine vp_callSi (W.runS (As := [.int p0, .int 0, .int 13]) (rest := []) ⟨hx, hb, hml, hown, hts⟩ (cX_within l p0 0 13) (va_cwS 3 hts gX3_isAsTold_X3_within rfl rfl rfl (by decide +kernel) ⟨(Nat.le_of_ble_eq_true rfl), (Nat.le_of_ble_eq_true rfl)⟩) ⟨T_blind, fun U hU hW => ⟨rfl, trivial⟩⟩ rfl rfl hl.1 rfl (lv_room (Nat.le_of_ble_eq_true rfl)) dX3_isAsTold_107 ⟨(Nat.le_of_ble_eq_true rfl), (Nat.le_of_ble_eq_true rfl)⟩) (fun r_26 hr_26 => ?_)
                            subst hr_26
                            exact W.zret (v := (sX_within p0 0 13)) hx hb hr (isB_n (bX_within p0 0 13)) (fun t ht hW => ⟨(sX_within p0 0 13), rfl, hsp.symm, ht⟩) (fun _ h => nomatch h) dX3_isAsTold_110
                          · have hsp := hsp.trans (if_neg c_25)
                            by_cases c_27 : p0 = 13
                            · have hsp := hsp.trans (if_pos c_27)
                              refine lv_tableIn (off := 89) (tgt := 90) hx hb dX3_isAsTold_1 (by rw [c_27]; decide) (by rw [c_27]; decide) (by rw [c_27]; rfl) (by decide) ?_
                              refine lv_iload_n hx hb dX3_isAsTold_90 rfl (lv_at hl 1 rfl) ?_
                              refine lv_iconst (v := 4) hx hb dX3_isAsTold_91 (by decide) ?_
                              refine lv_bipush (v := 13) hx hb dX3_isAsTold_92 (by decide) ?_
                              refine vp_callSi (W.runS (As := [.int p1, .int 4, .int 13]) (rest := []) ⟨hx, hb, hml, hown, hts⟩ (cX_within l p1 4 13) (va_cwS 3 hts gX3_isAsTold_X3_within rfl rfl rfl (by decide +kernel) ⟨(Nat.le_of_ble_eq_true rfl), (Nat.le_of_ble_eq_true rfl)⟩) ⟨T_blind, fun U hU hW => ⟨rfl, trivial⟩⟩ rfl rfl hl.1 rfl (lv_room (Nat.le_of_ble_eq_true rfl)) dX3_isAsTold_94 ⟨(Nat.le_of_ble_eq_true rfl), (Nat.le_of_ble_eq_true rfl)⟩) (fun r_28 hr_28 => ?_)
                              subst hr_28
                              exact W.zret (v := (sX_within p1 4 13)) hx hb hr (isB_n (bX_within p1 4 13)) (fun t ht hW => ⟨(sX_within p1 4 13), rfl, hsp.symm, ht⟩) (fun _ h => nomatch h) dX3_isAsTold_97
                            · have hsp := hsp.trans (if_neg c_27)
                              refine lv_tableOut (tgt := 103) hx hb dX3_isAsTold_1 (by have e0 := lv_neT (a := 0) c_1 (by decide); have e1 := lv_neT (a := 1) c_3 (by decide); have e2 := lv_neT (a := 2) c_5 (by decide); have e3 := lv_neT (a := 3) c_7 (by decide); have e4 := lv_neT (a := 4) c_9 (by decide); have e5 := lv_neT (a := 5) c_11 (by decide); have e6 := lv_neT (a := 6) c_13 (by decide); have e7 := lv_neT (a := 7) c_15 (by decide); have e8 := lv_neT (a := 8) c_17 (by decide); have e9 := lv_neT (a := 9) c_19 (by decide); have e10 := lv_neT (a := 10) c_21 (by decide); have e11 := lv_neT (a := 11) c_23 (by decide); have e12 := lv_neT (a := 12) c_25 (by decide); have e13 := lv_neT (a := 13) c_27 (by decide); omega) (by decide) ?_
                              refine lv_iload_n hx hb dX3_isAsTold_103 rfl (lv_at hl 0 rfl) ?_
                              refine lv_iconst (v := 0) hx hb dX3_isAsTold_104 (by decide) ?_
                              refine lv_bipush (v := 13) hx hb dX3_isAsTold_105 (by decide) ?_
                              refine vp_callSi (W.runS (As := [.int p0, .int 0, .int 13]) (rest := []) ⟨hx, hb, hml, hown, hts⟩ (cX_within l p0 0 13) (va_cwS 3 hts gX3_isAsTold_X3_within rfl rfl rfl (by decide +kernel) ⟨(Nat.le_of_ble_eq_true rfl), (Nat.le_of_ble_eq_true rfl)⟩) ⟨T_blind, fun U hU hW => ⟨rfl, trivial⟩⟩ rfl rfl hl.1 rfl (lv_room (Nat.le_of_ble_eq_true rfl)) dX3_isAsTold_107 ⟨(Nat.le_of_ble_eq_true rfl), (Nat.le_of_ble_eq_true rfl)⟩) (fun r_29 hr_29 => ?_)
                              subst hr_29
                              exact W.zret (v := (sX_within p0 0 13)) hx hb hr (isB_n (bX_within p0 0 13)) (fun t ht hW => ⟨(sX_within p0 0 13), rfl, hsp.symm, ht⟩) (fun _ h => nomatch h) dX3_isAsTold_110
