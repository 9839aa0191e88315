set_option maxHeartbeats 4000000 in
set_option maxRecDepth 100000 in
theorem cXT_partOf (l : Launch) (D : va_G) (q : Nat → Nat) (cI cL : ClassId) (tp : Nat) (u : St) (p0 : Int32) (hok : okXT_partOf u p0) : Met l yX2_partOf wsX2_partOf { frames := 2, cells := 0, slots := 0, locals := 42 } (va_Pc [.int p0] (fun U => PX D q cI cL tp u U)) (vp_Si (fun r => r = sXT_partOf u p0)) 0 0 (fun _ => False) := by
  refine Met.ofW (cc := cX2_partOf) (maxL := 1) (ret := (some .int)) (by decide) rfl ?_
  intro p e s m args below meth c s₁ B hml hv
  obtain ⟨rfl, hP, hK, hZ⟩ := hv
  have hx := B.exec
  have hb := B.bytes
  have hr := B.returns
  have hts := atoms_spec (ws := wsX2_partOf) B.pre
  have hown : s.vm.findClass RX2 = some m.cls := findClass_of_methodNamed B.named
  have hlocks := B.notSynchronized
  have hS : va_S (AQ 24 q) s.heap s.heap [] := va_S.rf
  have hP : va_P D vwCl (wX q cI cL u) s.heap := hP
  have hl := lv_entry ([.int p0]) (n := 1) (Nat.le_of_ble_eq_true rfl)
  rw [lg_entry_eq]
  generalize (lg_sl ([.int p0]) ++ List.replicate (1 - (lg_sl ([.int p0])).length) Slot.unset).toArray = ls at hl ⊢
  have hl : lv_has ls 1 [(0, .int p0)] := hl
  have hsp : sXT_partOf u p0 = _ := sXT_partOf.eq_1 u p0
  unfold okXT_partOf at hok
  refine lv_iload_n hx hb dX2_partOf_0 rfl (lv_at hl 0 rfl) ?_
  refine vp_callSi (va_Run.run (va_runSN (As := [.int p0]) (rest := []) ⟨hx, hb, hml, hown, hts⟩ (cX_isHolderKind l p0) ⟨va_cnB 1 hts gX2_partOf_X3_isHolderKind_n75 rfl rfl rfl hZ.2.2.1 (hts (.initialized RX3) (by decide +kernel)) (by decide +kernel) ⟨(Nat.le_of_ble_eq_true rfl), (Nat.le_of_ble_eq_true rfl)⟩, hts (.static yX3_isHolderKind) (by decide +kernel), trivial⟩ ⟨T_blind, fun U hU hW => ⟨rfl, trivial⟩⟩ rfl rfl hl.1 rfl (lv_room (Nat.le_of_ble_eq_true rfl)) dX2_partOf_1 ⟨(Nat.le_of_ble_eq_true rfl), (Nat.le_of_ble_eq_true rfl)⟩)) (fun r_1 hr_1 => ?_)
  subst hr_1
  refine lv_if_eq (tgt := 18) hx hb dX2_partOf_4 (by decide) (fun c_2 => ?_) (fun c_2 => ?_)
  · have hsp := hsp.trans (if_pos c_2)
    refine lv_iconst (v := (-1)) hx hb dX2_partOf_18 (by decide) ?_
    exact W.iret (v := (-1)) hx hb hr (fun t ht hW => ⟨(-1), rfl, hsp.symm, ht⟩) (fun _ h => nomatch h) dX2_partOf_19
  · have hsp := hsp.trans (if_neg c_2)
    have hok := hok.2 c_2
    refine va_getsN hx hb hZ.1 hS hown (va_Nw.use rfl hZ.2.2.2) (fun _ h9 => h9) dX2_partOf_7 ?_
    refine lv_iload_n hx hb dX2_partOf_10 rfl (lv_at hl 0 rfl) ?_
    refine lv_bipush (v := 7) hx hb dX2_partOf_11 (by decide) ?_
    refine lv_isub hx hb dX2_partOf_13 ?_
    have h_3 := hok.1
    have hok := hok.2
    refine va_ti hx hb hZ.2.1 hS h_3 (v := .int (partsF (p0 - 7).toNatClampNeg)) rfl dX2_partOf_14 ?_
    refine lv_goto (tgt := 19) hx hb dX2_partOf_15 (by decide) ?_
    exact W.iret (v := (partsF (p0 - 7).toNatClampNeg)) hx hb hr (fun t ht hW => ⟨(partsF (p0 - 7).toNatClampNeg), rfl, hsp.symm, ht⟩) (fun _ h => nomatch h) dX2_partOf_19
set_option maxHeartbeats 4000000 in
set_option maxRecDepth 100000 in
theorem cXT_take (l : Launch) (D : va_G) (q : Nat → Nat) (cI cL : ClassId) (tp : Nat) (u : St) (p1 : Int32) (p2 : Int32) (hok : okXT_take u p1 p2) : Met l yX2_take wsX2_take { frames := 2, cells := 0, slots := 0, locals := 43 } (va_Pc [.ref (q 1), .int p1, .int p2] (fun U => PX D q cI cL tp u U)) (vp_Si (fun r => r = sXT_take u p1 p2)) 0 0 (fun _ => False) := by
  refine Met.ofW (cc := cX2_take) (maxL := 3) (ret := (some .int)) (by decide) rfl ?_
  intro p e s m args below meth c s₁ B hml hv
  obtain ⟨rfl, hP, hK, hZ⟩ := hv
  have hx := B.exec
  have hb := B.bytes
  have hr := B.returns
  have hts := atoms_spec (ws := wsX2_take) B.pre
  have hown : s.vm.findClass RX2 = some m.cls := findClass_of_methodNamed B.named
  have hlocks := B.notSynchronized
  have hS : va_S (AQ 24 q) s.heap s.heap [] := va_S.rf
  have hP : va_P D vwCl (wX q cI cL u) s.heap := hP
  have hl := lv_entry ([.ref (q 1), .int p1, .int p2]) (n := 3) (Nat.le_of_ble_eq_true rfl)
  rw [lg_entry_eq]
  generalize (lg_sl ([.ref (q 1), .int p1, .int p2]) ++ List.replicate (3 - (lg_sl ([.ref (q 1), .int p1, .int p2])).length) Slot.unset).toArray = ls at hl ⊢
  have hl : lv_has ls 3 [(0, .ref (q 1)), (1, .int p1), (2, .int p2)] := hl
  have hsp : sXT_take u p1 p2 = _ := sXT_take.eq_1 u p1 p2
  unfold okXT_take at hok
  refine lv_iload_n hx hb dX2_take_0 rfl (lv_at hl 1 rfl) ?_
  refine lv_bipush (v := (-5)) hx hb dX2_take_1 (by decide) ?_
  refine lv_icmp_ne (tgt := 9) hx hb dX2_take_3 (by decide) (fun c_1 => ?_) (fun c_1 => ?_)
  · have hsp := hsp.trans (if_neg c_1)
    have hok := hok.2 c_1
    refine lv_aload_n hx hb dX2_take_9 rfl (lv_at hl 0 rfl) ?_
    refine lv_iload_n hx hb dX2_take_10 rfl (lv_at hl 1 rfl) ?_
    refine lv_iload_n hx hb dX2_take_11 rfl (lv_at hl 2 rfl) ?_
    have h_2 := hok.1
    have hok := hok.2
    refine vp_callSi (W.runV (As := [.int p1, .int p2]) (rest := []) ⟨hx, hb, hml, hown, hts⟩ (cXT_isOf l D q cI cL tp u p1 p2 h_2) (cwV 2 hts gX2_take_X2_isOf rfl rfl rfl (by decide +kernel) ⟨(Nat.le_of_ble_eq_true rfl), (Nat.le_of_ble_eq_true rfl)⟩) ⟨PX_blind, va_recv hK hP (ci := 5) (q0 := 1) rfl rfl, fun U hU hW => ⟨rfl, PX_fin hP hK hZ hS hU hW⟩⟩ rfl rfl hl.1 rfl (lv_room (Nat.le_of_ble_eq_true rfl)) dX2_take_12 ⟨(Nat.le_of_ble_eq_true rfl), (Nat.le_of_ble_eq_true rfl)⟩) (fun r_3 hr_3 => ?_)
    subst hr_3
    refine lv_if_eq (tgt := 22) hx hb dX2_take_15 (by decide) (fun c_4 => ?_) (fun c_4 => ?_)
    · have hsp := hsp.trans (if_pos c_4)
      refine lv_bipush (v := (-21)) hx hb dX2_take_22 (by decide) ?_
      exact W.iret (v := (-21)) hx hb hr (fun t ht hW => ⟨(-21), rfl, hsp.symm, ht⟩) (fun _ h => nomatch h) dX2_take_24
    · have hsp := hsp.trans (if_neg c_4)
      refine lv_iconst (v := 1) hx hb dX2_take_18 (by decide) ?_
      refine lv_goto (tgt := 24) hx hb dX2_take_19 (by decide) ?_
      exact W.iret (v := 1) hx hb hr (fun t ht hW => ⟨1, rfl, hsp.symm, ht⟩) (fun _ h => nomatch h) dX2_take_24
  · have hsp := hsp.trans (if_pos c_1)
    refine lv_bipush (v := (-22)) hx hb dX2_take_6 (by decide) ?_
    exact W.iret (v := (-22)) hx hb hr (fun t ht hW => ⟨(-22), rfl, hsp.symm, ht⟩) (fun _ h => nomatch h) dX2_take_8
set_option maxHeartbeats 4000000 in
set_option maxRecDepth 100000 in
theorem cXT_hasPlace (l : Launch) (D : va_G) (q : Nat → Nat) (cI cL : ClassId) (tp : Nat) (u : St) (p1 : Int32) (p2 : Int32) (hok : okXT_hasPlace u p1 p2) : Met l yX2_hasPlace wsX2_hasPlace { frames := 1, cells := 0, slots := 0, locals := 21 } (va_Pc [.ref (q 1), .int p1, .int p2] (fun U => PX D q cI cL tp u U)) (vp_Si (fun r => r = sXT_hasPlace u p1 p2)) 0 0 (fun _ => False) := by
  refine Met.ofW (cc := cX2_hasPlace) (maxL := 3) (ret := (some .boolean)) (by decide) rfl ?_
  intro p e s m args below meth c s₁ B hml hv
  obtain ⟨rfl, hP, hK, hZ⟩ := hv
  have hx := B.exec
  have hb := B.bytes
  have hr := B.returns
  have hts := atoms_spec (ws := wsX2_hasPlace) B.pre
  have hown : s.vm.findClass RX2 = some m.cls := findClass_of_methodNamed B.named
  have hlocks := B.notSynchronized
  have hiX2 : ∀ w ∈ u_ws RX2 TX2 8, w ∈ wsX2_hasPlace := by decide +kernel
  have hf18 := hts (.fieldLink RX2 18 "ThingRules$Things" "places" "[I") (by decide +kernel)
  have hS : va_S (AQ 24 q) s.heap s.heap [] := va_S.rf
  have hP : va_P D vwCl (wX q cI cL u) s.heap := hP
  have hl := lv_entry ([.ref (q 1), .int p1, .int p2]) (n := 3) (Nat.le_of_ble_eq_true rfl)
  rw [lg_entry_eq]
  generalize (lg_sl ([.ref (q 1), .int p1, .int p2]) ++ List.replicate (3 - (lg_sl ([.ref (q 1), .int p1, .int p2])).length) Slot.unset).toArray = ls at hl ⊢
  have hl : lv_has ls 3 [(0, .ref (q 1)), (1, .int p1), (2, .int p2)] := hl
  have hsp : sXT_hasPlace u p1 p2 = _ := sXT_hasPlace.eq_1 u p1 p2
  unfold okXT_hasPlace at hok
  refine lv_aload_n hx hb dX2_hasPlace_0 rfl (lv_at hl 0 rfl) ?_
  refine lv_iload_n hx hb dX2_hasPlace_1 rfl (lv_at hl 1 rfl) ?_
  refine vp_callSi (W.runV (As := [.int p1]) (rest := []) ⟨hx, hb, hml, hown, hts⟩ (cXT_know l D q cI cL tp u p1) (cwV 1 hts gX2_hasPlace_X2_know rfl rfl rfl (by decide +kernel) ⟨(Nat.le_of_ble_eq_true rfl), (Nat.le_of_ble_eq_true rfl)⟩) ⟨PX_blind, va_recv hK hP (ci := 5) (q0 := 1) rfl rfl, fun U hU hW => ⟨rfl, PX_fin hP hK hZ hS hU hW⟩⟩ rfl rfl hl.1 rfl (lv_room (Nat.le_of_ble_eq_true rfl)) dX2_hasPlace_2 ⟨(Nat.le_of_ble_eq_true rfl), (Nat.le_of_ble_eq_true rfl)⟩) (fun r_1 hr_1 => ?_)
  subst hr_1
  refine lv_if_eq (tgt := 26) hx hb dX2_hasPlace_5 (by decide) (fun c_2 => ?_) (fun c_2 => ?_)
  · have hsp := hsp.trans (if_pos c_2)
    refine lv_iconst (v := 0) hx hb dX2_hasPlace_26 (by decide) ?_
    exact W.zret (v := 0) hx hb hr rfl (fun t ht hW => ⟨0, rfl, hsp.symm, ht⟩) (fun _ h => nomatch h) dX2_hasPlace_27
  · have hsp := hsp.trans (if_neg c_2)
    have hok := hok.2 c_2
    refine lv_iload_n hx hb dX2_hasPlace_8 rfl (lv_at hl 2 rfl) ?_
    refine lv_if_lt (tgt := 26) hx hb dX2_hasPlace_9 (by decide) (fun c_3 => ?_) (fun c_3 => ?_)
    · have hsp := hsp.trans (if_pos c_3)
      refine lv_iconst (v := 0) hx hb dX2_hasPlace_26 (by decide) ?_
      exact W.zret (v := 0) hx hb hr rfl (fun t ht hW => ⟨0, rfl, hsp.symm, ht⟩) (fun _ h => nomatch h) dX2_hasPlace_27
    · have hsp := hsp.trans (if_neg c_3)
      have hok := hok.2 c_3
      refine lv_iload_n hx hb dX2_hasPlace_12 rfl (lv_at hl 2 rfl) ?_
      refine lv_aload_n hx hb dX2_hasPlace_13 rfl (lv_at hl 0 rfl) ?_
      refine va_get (D := D) (ci := 5) (v := .ref (q 9)) (C := RX2) (T := TX2) (N := 8) hx hb hts hiX2 hown hK hP 1 rfl rfl 3 (by decide) hf18 (fun _ h9 => h9) rfl dX2_hasPlace_14 ?_
      refine lv_iload_n hx hb dX2_hasPlace_17 rfl (lv_at hl 1 rfl) ?_
      have h_4 := hok.1
      have hok := hok.2
      refine va_iald hx hb hK hP 9 0 rfl rfl h_4 dX2_hasPlace_18 ?_
      refine lv_icmp_ge (tgt := 26) hx hb dX2_hasPlace_19 (by decide) (fun c_5 => ?_) (fun c_5 => ?_)
      · have hsp := hsp.trans (if_pos c_5)
        refine lv_iconst (v := 0) hx hb dX2_hasPlace_26 (by decide) ?_
        exact W.zret (v := 0) hx hb hr rfl (fun t ht hW => ⟨0, rfl, hsp.symm, ht⟩) (fun _ h => nomatch h) dX2_hasPlace_27
      · have hsp := hsp.trans (if_neg c_5)
        refine lv_iconst (v := 1) hx hb dX2_hasPlace_22 (by decide) ?_
        refine lv_goto (tgt := 27) hx hb dX2_hasPlace_23 (by decide) ?_
        exact W.zret (v := 1) hx hb hr rfl (fun t ht hW => ⟨1, rfl, hsp.symm, ht⟩) (fun _ h => nomatch h) dX2_hasPlace_27
set_option maxHeartbeats 4000000 in
set_option maxRecDepth 100000 in
theorem cXT_reach (l : Launch) (D : va_G) (q : Nat → Nat) (cI cL : ClassId) (tp : Nat) (u : St) (p1 : Int32) (p2 : Int32) (p3 : Int32) (hok : okXT_reach u p1 p2 p3) : Met l yX2_reach wsX2_reach { frames := 3, cells := 0, slots := 0, locals := 65 } (va_Pc [.ref (q 1), .int p1, .int p2, .int p3] (fun U => PX D q cI cL tp u U)) (vp_Si (fun r => r = sXT_reach u p1 p2 p3)) 0 0 (fun _ => False) := by
  refine Met.ofW (cc := cX2_reach) (maxL := 5) (ret := (some .int)) (by decide) rfl ?_
  intro p e s m args below meth c s₁ B hml hv
  obtain ⟨rfl, hP, hK, hZ⟩ := hv
  have hx := B.exec
  have hb := B.bytes
  have hr := B.returns
  have hts := atoms_spec (ws := wsX2_reach) B.pre
  have hown : s.vm.findClass RX2 = some m.cls := findClass_of_methodNamed B.named
  have hlocks := B.notSynchronized
  have hS : va_S (AQ 24 q) s.heap s.heap [] := va_S.rf
  have hP : va_P D vwCl (wX q cI cL u) s.heap := hP
  have hl := lv_entry ([.ref (q 1), .int p1, .int p2, .int p3]) (n := 5) (Nat.le_of_ble_eq_true rfl)
  rw [lg_entry_eq]
  generalize (lg_sl ([.ref (q 1), .int p1, .int p2, .int p3]) ++ List.replicate (5 - (lg_sl ([.ref (q 1), .int p1, .int p2, .int p3])).length) Slot.unset).toArray = ls at hl ⊢
  have hl : lv_has ls 5 [(0, .ref (q 1)), (1, .int p1), (2, .int p2), (3, .int p3)] := hl
  have hsp : sXT_reach u p1 p2 p3 = _ := sXT_reach.eq_1 u p1 p2 p3
  unfold okXT_reach at hok
  refine lv_aload_n hx hb dX2_reach_0 rfl (lv_at hl 0 rfl) ?_
  refine lv_iload_n hx hb dX2_reach_1 rfl (lv_at hl 1 rfl) ?_
  refine lv_iload_n hx hb dX2_reach_2 rfl (lv_at hl 2 rfl) ?_
  have h_1 := hok.1
  have hok := hok.2
  refine vp_callSi (W.runV (As := [.int p1, .int p2]) (rest := []) ⟨hx, hb, hml, hown, hts⟩ (cXT_take l D q cI cL tp u p1 p2 h_1) (cwV 2 hts gX2_reach_X2_take rfl rfl rfl (by decide +kernel) ⟨(Nat.le_of_ble_eq_true rfl), (Nat.le_of_ble_eq_true rfl)⟩) ⟨PX_blind, va_recv hK hP (ci := 5) (q0 := 1) rfl rfl, fun U hU hW => ⟨rfl, PX_fin hP hK hZ hS hU hW⟩⟩ rfl rfl hl.1 rfl (lv_room (Nat.le_of_ble_eq_true rfl)) dX2_reach_3 ⟨(Nat.le_of_ble_eq_true rfl), (Nat.le_of_ble_eq_true rfl)⟩) (fun r_2 hr_2 => ?_)
  subst hr_2
  refine lv_topi (fun y1 hy1 => ?_)
  have hsp := hsp.trans (bnd_eq hy1)
  have hok := bnd_ok hy1 hok
  refine lv_istore (lv' := [(4, .int y1), (0, .ref (q 1)), (1, .int p1), (2, .int p2), (3, .int p3)]) hx hb dX2_reach_6 hl (by decide) rfl (fun ls hl => ?_)
  refine lv_iload hx hb dX2_reach_8 (lv_at hl 0 rfl) ?_
  refine lv_iconst (v := 1) hx hb dX2_reach_10 (by decide) ?_
  refine lv_icmp_eq (tgt := 17) hx hb dX2_reach_11 (by decide) (fun c_3 => ?_) (fun c_3 => ?_)
  · have hsp := hsp.trans (if_pos c_3)
    have hok := hok.1 c_3
    refine lv_aload_n hx hb dX2_reach_17 rfl (lv_at hl 1 rfl) ?_
    refine lv_iload_n hx hb dX2_reach_18 rfl (lv_at hl 2 rfl) ?_
    refine lv_iload_n hx hb dX2_reach_19 rfl (lv_at hl 4 rfl) ?_
    have h_4 := hok.1
    have hok := hok.2
    refine vp_callSi (W.runV (As := [.int p1, .int p3]) (rest := []) ⟨hx, hb, hml, hown, hts⟩ (cXT_hasPlace l D q cI cL tp u p1 p3 h_4) (cwV 2 hts gX2_reach_X2_hasPlace rfl rfl rfl (by decide +kernel) ⟨(Nat.le_of_ble_eq_true rfl), (Nat.le_of_ble_eq_true rfl)⟩) ⟨PX_blind, va_recv hK hP (ci := 5) (q0 := 1) rfl rfl, fun U hU hW => ⟨rfl, PX_fin hP hK hZ hS hU hW⟩⟩ rfl rfl hl.1 rfl (lv_room (Nat.le_of_ble_eq_true rfl)) dX2_reach_20 ⟨(Nat.le_of_ble_eq_true rfl), (Nat.le_of_ble_eq_true rfl)⟩) (fun r_5 hr_5 => ?_)
    subst hr_5
    refine lv_if_eq (tgt := 30) hx hb dX2_reach_23 (by decide) (fun c_6 => ?_) (fun c_6 => ?_)
    · have hsp := hsp.trans (if_pos c_6)
      refine lv_bipush (v := (-23)) hx hb dX2_reach_30 (by decide) ?_
      exact W.iret (v := (-23)) hx hb hr (fun t ht hW => ⟨(-23), rfl, hsp.symm, ht⟩) (fun _ h => nomatch h) dX2_reach_32
    · have hsp := hsp.trans (if_neg c_6)
      refine lv_iconst (v := 1) hx hb dX2_reach_26 (by decide) ?_
      refine lv_goto (tgt := 32) hx hb dX2_reach_27 (by decide) ?_
      exact W.iret (v := 1) hx hb hr (fun t ht hW => ⟨1, rfl, hsp.symm, ht⟩) (fun _ h => nomatch h) dX2_reach_32
  · have hsp := hsp.trans (if_neg c_3)
    refine lv_iload hx hb dX2_reach_14 (lv_at hl 0 rfl) ?_
    exact W.iret (v := y1) hx hb hr (fun t ht hW => ⟨y1, rfl, hsp.symm, ht⟩) (fun _ h => nomatch h) dX2_reach_16
set_option maxHeartbeats 4000000 in
set_option maxRecDepth 100000 in
theorem cXT_layIn (l : Launch) (D : va_G) (q : Nat → Nat) (cI cL : ClassId) (tp : Nat) (hq : DQ 24 q) (u : St) (p1 : Int32) (p2 : Int32) (p3 : Int32) (p4 : Int32) (hok : okXT_layIn u p1 p2 p3 p4) : Met l yX2_layIn wsX2_layIn { frames := 4, cells := 0, slots := 0, locals := 89 } (va_Pc [.ref (q 1), .int p1, .int p2, .int p3, .int p4] (fun U => PX D q cI cL tp u U)) (va_Qi (fun (r : Int32) (u' : St) => (r, u') = sXT_layIn u p1 p2 p3 p4) (fun u' t => PX D q cI cL tp u' t) (AQ 24 q)) 0 0 (AQ 24 q) := by
  refine Met.ofW (cc := cX2_layIn) (maxL := 6) (ret := (some .int)) (by decide) rfl ?_
  intro p e s m args below meth c s₁ B hml hv
  obtain ⟨rfl, hP, hK, hZ⟩ := hv
  have hx := B.exec
  have hb := B.bytes
  have hr := B.returns
  have hts := atoms_spec (ws := wsX2_layIn) B.pre
  have hown : s.vm.findClass RX2 = some m.cls := findClass_of_methodNamed B.named
  have hlocks := B.notSynchronized
  have hiX2 : ∀ w ∈ u_ws RX2 TX2 8, w ∈ wsX2_layIn := by decide +kernel
  have hf9 := hts (.fieldLink RX2 9 "ThingRules$Things" "form" "[I") (by decide +kernel)
  have hf27 := hts (.fieldLink RX2 27 "ThingRules$Things" "held" "[I") (by decide +kernel)
  have hS : va_S (AQ 24 q) s.heap s.heap [] := va_S.rf
  have hP : va_P D vwCl (wX q cI cL u) s.heap := hP
  have hl := lv_entry ([.ref (q 1), .int p1, .int p2, .int p3, .int p4]) (n := 6) (Nat.le_of_ble_eq_true rfl)
  rw [lg_entry_eq]
  generalize (lg_sl ([.ref (q 1), .int p1, .int p2, .int p3, .int p4]) ++ List.replicate (6 - (lg_sl ([.ref (q 1), .int p1, .int p2, .int p3, .int p4])).length) Slot.unset).toArray = ls at hl ⊢
  have hl : lv_has ls 6 [(0, .ref (q 1)), (1, .int p1), (2, .int p2), (3, .int p3), (4, .int p4)] := hl
  have hsp : sXT_layIn u p1 p2 p3 p4 = _ := sXT_layIn.eq_1 u p1 p2 p3 p4
  unfold okXT_layIn at hok
  refine lv_aload_n hx hb dX2_layIn_0 rfl (lv_at hl 0 rfl) ?_
  refine lv_iload_n hx hb dX2_layIn_1 rfl (lv_at hl 1 rfl) ?_
  refine lv_iload_n hx hb dX2_layIn_2 rfl (lv_at hl 2 rfl) ?_
  have h_1 := hok.1
  have hok := hok.2
  refine vp_callSi (W.runV (As := [.int p1, .int p2]) (rest := []) ⟨hx, hb, hml, hown, hts⟩ (cXT_mayBeTaken l D q cI cL tp u p1 p2 h_1) (cwV 2 hts gX2_layIn_X2_mayBeTaken rfl rfl rfl (by decide +kernel) ⟨(Nat.le_of_ble_eq_true rfl), (Nat.le_of_ble_eq_true rfl)⟩) ⟨PX_blind, va_recv hK hP (ci := 5) (q0 := 1) rfl rfl, fun U hU hW => ⟨rfl, PX_fin hP hK hZ hS hU hW⟩⟩ rfl rfl hl.1 rfl (lv_room (Nat.le_of_ble_eq_true rfl)) dX2_layIn_3 ⟨(Nat.le_of_ble_eq_true rfl), (Nat.le_of_ble_eq_true rfl)⟩) (fun r_2 hr_2 => ?_)
  subst hr_2
  refine lv_if_eq (tgt := 22) hx hb dX2_layIn_6 (by decide) (fun c_3 => ?_) (fun c_3 => ?_)
  · have hsp := hsp.trans (if_pos c_3)
    refine lv_bipush (v := (-21)) hx hb dX2_layIn_22 (by decide) ?_
    exact W.iret (v := (-21)) hx hb hr (fun t ht hW => ⟨⟨(-21), u, rfl, hsp.symm, PX_fin hP hK hZ hS ht hW⟩, hS.F ht⟩) hS.2.2 dX2_layIn_24
  · have hsp := hsp.trans (if_neg c_3)
    have hok := hok.2 c_3
    refine lv_aload_n hx hb dX2_layIn_9 rfl (lv_at hl 0 rfl) ?_
    refine lv_iload hx hb dX2_layIn_10 (lv_at hl 4 rfl) ?_
    refine lv_iload_n hx hb dX2_layIn_12 rfl (lv_at hl 2 rfl) ?_
    have h_4 := hok.1
    have hok := hok.2
    refine vp_callSi (W.runS (As := [.int p2]) (rest := [.int p4, .ref (q 1)]) ⟨hx, hb, hml, hown, hts⟩ (cXT_partOf l D q cI cL tp u p2 h_4) (va_cwS 1 hts gX2_layIn_X2_partOf rfl rfl rfl (by decide +kernel) ⟨(Nat.le_of_ble_eq_true rfl), (Nat.le_of_ble_eq_true rfl)⟩) ⟨PX_blind, fun U hU hW => ⟨rfl, PX_fin hP hK hZ hS hU hW⟩⟩ rfl rfl hl.1 rfl (lv_room (Nat.le_of_ble_eq_true rfl)) dX2_layIn_13 ⟨(Nat.le_of_ble_eq_true rfl), (Nat.le_of_ble_eq_true rfl)⟩) (fun r_5 hr_5 => ?_)
    subst hr_5
    have h_6 := hok.1
    have hok := hok.2
    refine vp_callSi (W.runV (As := [.int p4, .int (sXT_partOf u p2)]) (rest := []) ⟨hx, hb, hml, hown, hts⟩ (cXT_mayBeTaken l D q cI cL tp u p4 (sXT_partOf u p2) h_6) (cwV 2 hts gX2_layIn_X2_mayBeTaken rfl rfl rfl (by decide +kernel) ⟨(Nat.le_of_ble_eq_true rfl), (Nat.le_of_ble_eq_true rfl)⟩) ⟨PX_blind, va_recv hK hP (ci := 5) (q0 := 1) rfl rfl, fun U hU hW => ⟨rfl, PX_fin hP hK hZ hS hU hW⟩⟩ rfl rfl hl.1 rfl (lv_room (Nat.le_of_ble_eq_true rfl)) dX2_layIn_16 ⟨(Nat.le_of_ble_eq_true rfl), (Nat.le_of_ble_eq_true rfl)⟩) (fun r_7 hr_7 => ?_)
    subst hr_7
    refine lv_if_ne (tgt := 25) hx hb dX2_layIn_19 (by decide) (fun c_8 => ?_) (fun c_8 => ?_)
    · have hsp := hsp.trans (if_neg c_8)
      have hok := hok.2 c_8
      refine lv_aload_n hx hb dX2_layIn_25 rfl (lv_at hl 0 rfl) ?_
      refine lv_iload_n hx hb dX2_layIn_26 rfl (lv_at hl 1 rfl) ?_
      refine lv_iload_n hx hb dX2_layIn_27 rfl (lv_at hl 2 rfl) ?_
      refine lv_iload_n hx hb dX2_layIn_28 rfl (lv_at hl 3 rfl) ?_
      have h_9 := hok.1
      have hok := hok.2
      refine vp_callSi (W.runV (As := [.int p1, .int p2, .int p3]) (rest := []) ⟨hx, hb, hml, hown, hts⟩ (cXT_reach l D q cI cL tp u p1 p2 p3 h_9) (cwV 3 hts gX2_layIn_X2_reach rfl rfl rfl (by decide +kernel) ⟨(Nat.le_of_ble_eq_true rfl), (Nat.le_of_ble_eq_true rfl)⟩) ⟨PX_blind, va_recv hK hP (ci := 5) (q0 := 1) rfl rfl, fun U hU hW => ⟨rfl, PX_fin hP hK hZ hS hU hW⟩⟩ rfl rfl hl.1 rfl (lv_room (Nat.le_of_ble_eq_true rfl)) dX2_layIn_29 ⟨(Nat.le_of_ble_eq_true rfl), (Nat.le_of_ble_eq_true rfl)⟩) (fun r_10 hr_10 => ?_)
      subst hr_10
      refine lv_topi (fun y1 hy1 => ?_)
      have hsp := hsp.trans (bnd_eq hy1)
      have hok := bnd_ok hy1 hok
      refine lv_istore (lv' := [(5, .int y1), (0, .ref (q 1)), (1, .int p1), (2, .int p2), (3, .int p3), (4, .int p4)]) hx hb dX2_layIn_32 hl (by decide) rfl (fun ls hl => ?_)
      refine lv_iload hx hb dX2_layIn_34 (lv_at hl 0 rfl) ?_
      refine lv_iconst (v := 1) hx hb dX2_layIn_36 (by decide) ?_
      refine lv_icmp_eq (tgt := 43) hx hb dX2_layIn_37 (by decide) (fun c_11 => ?_) (fun c_11 => ?_)
      · have hsp := hsp.trans (if_pos c_11)
        have hok := hok.1 c_11
        refine lv_aload_n hx hb dX2_layIn_43 rfl (lv_at hl 1 rfl) ?_
        refine lv_iload hx hb dX2_layIn_44 (lv_at hl 5 rfl) ?_
        refine lv_aload_n hx hb dX2_layIn_46 rfl (lv_at hl 1 rfl) ?_
        refine va_get (D := D) (ci := 5) (v := .ref (q 7)) (C := RX2) (T := TX2) (N := 8) hx hb hts hiX2 hown hK hP 1 rfl rfl 1 (by decide) hf9 (fun _ h9 => h9) rfl dX2_layIn_47 ?_
        refine lv_iload_n hx hb dX2_layIn_50 rfl (lv_at hl 2 rfl) ?_
        have h_12 := hok.1
        have hok := hok.2
        refine va_iald hx hb hK hP 7 0 rfl rfl h_12 dX2_layIn_51 ?_
        have h_13 := hok.1
        have hok := hok.2
        refine vp_callSi (W.runS (As := [.int (u.2.1 7 p1.toNatClampNeg)]) (rest := [.int p4, .ref (q 1)]) ⟨hx, hb, hml, hown, hts⟩ (cXT_partOf l D q cI cL tp u (u.2.1 7 p1.toNatClampNeg) h_13) (va_cwS 1 hts gX2_layIn_X2_partOf rfl rfl rfl (by decide +kernel) ⟨(Nat.le_of_ble_eq_true rfl), (Nat.le_of_ble_eq_true rfl)⟩) ⟨PX_blind, fun U hU hW => ⟨rfl, PX_fin hP hK hZ hS hU hW⟩⟩ rfl rfl hl.1 rfl (lv_room (Nat.le_of_ble_eq_true rfl)) dX2_layIn_52 ⟨(Nat.le_of_ble_eq_true rfl), (Nat.le_of_ble_eq_true rfl)⟩) (fun r_14 hr_14 => ?_)
        subst hr_14
        have h_15 := hok.1
        have hok := hok.2
        refine vp_callSi (W.runV (As := [.int p4, .int (sXT_partOf u (u.2.1 7 p1.toNatClampNeg))]) (rest := []) ⟨hx, hb, hml, hown, hts⟩ (cXT_mayBeTaken l D q cI cL tp u p4 (sXT_partOf u (u.2.1 7 p1.toNatClampNeg)) h_15) (cwV 2 hts gX2_layIn_X2_mayBeTaken rfl rfl rfl (by decide +kernel) ⟨(Nat.le_of_ble_eq_true rfl), (Nat.le_of_ble_eq_true rfl)⟩) ⟨PX_blind, va_recv hK hP (ci := 5) (q0 := 1) rfl rfl, fun U hU hW => ⟨rfl, PX_fin hP hK hZ hS hU hW⟩⟩ rfl rfl hl.1 rfl (lv_room (Nat.le_of_ble_eq_true rfl)) dX2_layIn_55 ⟨(Nat.le_of_ble_eq_true rfl), (Nat.le_of_ble_eq_true rfl)⟩) (fun r_16 hr_16 => ?_)
        subst hr_16
        refine lv_if_ne (tgt := 64) hx hb dX2_layIn_58 (by decide) (fun c_17 => ?_) (fun c_17 => ?_)
        · have hsp := hsp.trans (if_neg c_17)
          have hok := hok.2 c_17
          refine lv_aload_n hx hb dX2_layIn_64 rfl (lv_at hl 1 rfl) ?_
          refine va_get (D := D) (ci := 5) (v := .ref (q 12)) (C := RX2) (T := TX2) (N := 8) hx hb hts hiX2 hown hK hP 1 rfl rfl 6 (by decide) hf27 (fun _ h9 => h9) rfl dX2_layIn_65 ?_
          refine lv_iload_n hx hb dX2_layIn_68 rfl (lv_at hl 2 rfl) ?_
          refine lv_bipush (v := 6) hx hb dX2_layIn_69 (by decide) ?_
          refine lv_imul hx hb dX2_layIn_71 ?_
          refine lv_iload_n hx hb dX2_layIn_72 rfl (lv_at hl 4 rfl) ?_
          refine lv_iadd hx hb dX2_layIn_73 ?_
          refine lv_iload hx hb dX2_layIn_74 (lv_at hl 5 rfl) ?_
          have h_18 := hok.1
          have hok := hok.2
          refine va_iast hx hb hK hP (dX hq) hS 12 0 rfl rfl h_18 dX2_layIn_76 (fun H locs hP _ hS => ?_)
          obtain ⟨u2, hu2⟩ : ∃ z : St, z = (stA u 12 ((p1 * 6) + p3).toNatClampNeg p4) := ⟨_, rfl⟩
          have hP : va_P D vwCl (wX q cI cL u2) H := by rw [hu2]; exact hP
          have hsp := hsp.trans (bnd_eq hu2)
          refine lv_iconst (v := 1) hx hb dX2_layIn_77 (by decide) ?_
          exact W.iret (v := 1) hx hb hr (fun t ht hW => ⟨⟨1, u2, rfl, hsp.symm, PX_fin hP hK hZ hS ht hW⟩, hS.F ht⟩) hS.2.2 dX2_layIn_78
        · have hsp := hsp.trans (if_pos c_17)
          refine lv_bipush (v := (-24)) hx hb dX2_layIn_61 (by decide) ?_
          exact W.iret (v := (-24)) hx hb hr (fun t ht hW => ⟨⟨(-24), u, rfl, hsp.symm, PX_fin hP hK hZ hS ht hW⟩, hS.F ht⟩) hS.2.2 dX2_layIn_63
      · have hsp := hsp.trans (if_neg c_11)
        refine lv_iload hx hb dX2_layIn_40 (lv_at hl 0 rfl) ?_
        exact W.iret (v := y1) hx hb hr (fun t ht hW => ⟨⟨y1, u, rfl, hsp.symm, PX_fin hP hK hZ hS ht hW⟩, hS.F ht⟩) hS.2.2 dX2_layIn_42
    · have hsp := hsp.trans (if_pos c_8)
      refine lv_bipush (v := (-21)) hx hb dX2_layIn_22 (by decide) ?_
      exact W.iret (v := (-21)) hx hb hr (fun t ht hW => ⟨⟨(-21), u, rfl, hsp.symm, PX_fin hP hK hZ hS ht hW⟩, hS.F ht⟩) hS.2.2 dX2_layIn_24
set_option maxHeartbeats 4000000 in
set_option maxRecDepth 100000 in
theorem cX_lay (l : Launch) (D : va_G) (q : Nat → Nat) (cI cL : ClassId) (tp : Nat) (hq : DQ 24 q) (u : St) (p1 : Int32) (p2 : Int32) (p3 : Int32) (p4 : Int32) (hok : okX_lay u p1 p2 p3 p4) : Met l yX3_lay wsX3_lay { frames := 5, cells := 0, slots := 0, locals := 114 } (va_Pc [.ref (q 0), .int p1, .int p2, .int p3, .int p4] (fun U => PX D q cI cL tp u U)) (va_Qi (fun (r : Int32) (u' : St) => (r, u') = sX_lay u p1 p2 p3 p4) (fun u' t => PX D q cI cL tp u' t) (AQ 24 q)) 0 0 (AQ 24 q) := by
  refine Met.ofW (cc := cX3_lay) (maxL := 5) (ret := (some .int)) (by decide) rfl ?_
  intro p e s m args below meth c s₁ B hml hv
  obtain ⟨rfl, hP, hK, hZ⟩ := hv
  have hx := B.exec
  have hb := B.bytes
  have hr := B.returns
  have hts := atoms_spec (ws := wsX3_lay) B.pre
  have hown : s.vm.findClass RX3 = some m.cls := findClass_of_methodNamed B.named
  have hlocks := B.notSynchronized
  have hiX3 : ∀ w ∈ u_ws RX3 TX3 7, w ∈ wsX3_lay := by decide +kernel
  have hf10 := hts (.fieldLink RX3 10 "ThingRules" "things" "LThingRules$Things;") (by decide +kernel)
  have hS : va_S (AQ 24 q) s.heap s.heap [] := va_S.rf
  have hP : va_P D vwCl (wX q cI cL u) s.heap := hP
  have hl := lv_entry ([.ref (q 0), .int p1, .int p2, .int p3, .int p4]) (n := 5) (Nat.le_of_ble_eq_true rfl)
  rw [lg_entry_eq]
  generalize (lg_sl ([.ref (q 0), .int p1, .int p2, .int p3, .int p4]) ++ List.replicate (5 - (lg_sl ([.ref (q 0), .int p1, .int p2, .int p3, .int p4])).length) Slot.unset).toArray = ls at hl ⊢
  have hl : lv_has ls 5 [(0, .ref (q 0)), (1, .int p1), (2, .int p2), (3, .int p3), (4, .int p4)] := hl
  have hsp : sX_lay u p1 p2 p3 p4 = _ := sX_lay.eq_1 u p1 p2 p3 p4
  unfold okX_lay at hok
  refine lv_aload_n hx hb dX3_lay_0 rfl (lv_at hl 0 rfl) ?_
  refine va_get (D := D) (ci := 6) (v := .ref (q 1)) (C := RX3) (T := TX3) (N := 7) hx hb hts hiX3 hown hK hP 0 rfl rfl 0 (by decide) hf10 (fun _ h9 => h9) rfl dX3_lay_1 ?_
  refine lv_iload_n hx hb dX3_lay_4 rfl (lv_at hl 1 rfl) ?_
  refine vp_callSi (W.runV (As := [.int p1]) (rest := []) ⟨hx, hb, hml, hown, hts⟩ (cXT_know l D q cI cL tp u p1) (cwV 1 hts gX3_lay_X2_know rfl rfl rfl (by decide +kernel) ⟨(Nat.le_of_ble_eq_true rfl), (Nat.le_of_ble_eq_true rfl)⟩) ⟨PX_blind, va_recv hK hP (ci := 5) (q0 := 1) rfl rfl, fun U hU hW => ⟨rfl, PX_fin hP hK hZ hS hU hW⟩⟩ rfl rfl hl.1 rfl (lv_room (Nat.le_of_ble_eq_true rfl)) dX3_lay_5 ⟨(Nat.le_of_ble_eq_true rfl), (Nat.le_of_ble_eq_true rfl)⟩) (fun r_1 hr_1 => ?_)
  subst hr_1
  refine lv_if_eq (tgt := 23) hx hb dX3_lay_8 (by decide) (fun c_2 => ?_) (fun c_2 => ?_)
  · have hsp := hsp.trans (if_pos c_2)
    refine lv_iconst (v := (-1)) hx hb dX3_lay_23 (by decide) ?_
    exact W.iret (v := (-1)) hx hb hr (fun t ht hW => ⟨⟨(-1), u, rfl, hsp.symm, PX_fin hP hK hZ hS ht hW⟩, hS.F ht⟩) hS.2.2 dX3_lay_24
  · have hsp := hsp.trans (if_neg c_2)
    have hok := hok.2 c_2
    refine lv_aload_n hx hb dX3_lay_11 rfl (lv_at hl 0 rfl) ?_
    refine va_get (D := D) (ci := 6) (v := .ref (q 1)) (C := RX3) (T := TX3) (N := 7) hx hb hts hiX3 hown hK hP 0 rfl rfl 0 (by decide) hf10 (fun _ h9 => h9) rfl dX3_lay_12 ?_
    refine lv_iload hx hb dX3_lay_15 (lv_at hl 4 rfl) ?_
    refine vp_callSi (W.runV (As := [.int p4]) (rest := []) ⟨hx, hb, hml, hown, hts⟩ (cXT_knowOrNone l D q cI cL tp u p4) (cwV 1 hts gX3_lay_X2_knowOrNone rfl rfl rfl (by decide +kernel) ⟨(Nat.le_of_ble_eq_true rfl), (Nat.le_of_ble_eq_true rfl)⟩) ⟨PX_blind, va_recv hK hP (ci := 5) (q0 := 1) rfl rfl, fun U hU hW => ⟨rfl, PX_fin hP hK hZ hS hU hW⟩⟩ rfl rfl hl.1 rfl (lv_room (Nat.le_of_ble_eq_true rfl)) dX3_lay_17 ⟨(Nat.le_of_ble_eq_true rfl), (Nat.le_of_ble_eq_true rfl)⟩) (fun r_3 hr_3 => ?_)
    subst hr_3
    refine lv_if_ne (tgt := 25) hx hb dX3_lay_20 (by decide) (fun c_4 => ?_) (fun c_4 => ?_)
    · have hsp := hsp.trans (if_neg c_4)
      have hok := hok.2 c_4
      refine lv_iload_n hx hb dX3_lay_25 rfl (lv_at hl 2 rfl) ?_
      refine vp_callSi (W.runS (As := [.int p2]) (rest := []) ⟨hx, hb, hml, hown, hts⟩ (cX_isHolderKind l p2) (va_cwS 1 hts gX3_lay_X3_isHolderKind rfl rfl rfl (by decide +kernel) ⟨(Nat.le_of_ble_eq_true rfl), (Nat.le_of_ble_eq_true rfl)⟩) ⟨T_blind, fun U hU hW => ⟨rfl, trivial⟩⟩ rfl rfl hl.1 rfl (lv_room (Nat.le_of_ble_eq_true rfl)) dX3_lay_26 ⟨(Nat.le_of_ble_eq_true rfl), (Nat.le_of_ble_eq_true rfl)⟩) (fun r_5 hr_5 => ?_)
      subst hr_5
      refine lv_if_eq (tgt := 51) hx hb dX3_lay_29 (by decide) (fun c_6 => ?_) (fun c_6 => ?_)
      · have hsp := hsp.trans (if_pos c_6)
        refine lv_bipush (v := (-2)) hx hb dX3_lay_51 (by decide) ?_
        exact W.iret (v := (-2)) hx hb hr (fun t ht hW => ⟨⟨(-2), u, rfl, hsp.symm, PX_fin hP hK hZ hS ht hW⟩, hS.F ht⟩) hS.2.2 dX3_lay_53
      · have hsp := hsp.trans (if_neg c_6)
        have hok := hok.2 c_6
        refine lv_aload_n hx hb dX3_lay_32 rfl (lv_at hl 0 rfl) ?_
        refine lv_aload_n hx hb dX3_lay_33 rfl (lv_at hl 0 rfl) ?_
        refine va_get (D := D) (ci := 6) (v := .ref (q 1)) (C := RX3) (T := TX3) (N := 7) hx hb hts hiX3 hown hK hP 0 rfl rfl 0 (by decide) hf10 (fun _ h9 => h9) rfl dX3_lay_34 ?_
        refine lv_iload_n hx hb dX3_lay_37 rfl (lv_at hl 1 rfl) ?_
        refine lv_iload_n hx hb dX3_lay_38 rfl (lv_at hl 2 rfl) ?_
        refine lv_iload_n hx hb dX3_lay_39 rfl (lv_at hl 3 rfl) ?_
        refine lv_iload hx hb dX3_lay_40 (lv_at hl 4 rfl) ?_
        have h_7 := hok.1
        have hok := hok.2
        refine va_calli (va_runV (As := [.int p1, .int p2, .int p3, .int p4]) (rest := [.ref (q 0)]) ⟨hx, hb, hml, hown, hts⟩ (cXT_layIn l D q cI cL tp hq u p1 p2 p3 p4 h_7) (cwV 4 hts gX3_lay_X2_layIn rfl rfl rfl (by decide +kernel) ⟨(Nat.le_of_ble_eq_true rfl), (Nat.le_of_ble_eq_true rfl)⟩) ⟨PX_blind, va_recv hK hP (ci := 5) (q0 := 1) rfl rfl, fun U hU hW => ⟨rfl, PX_fin hP hK hZ hS hU hW⟩⟩ rfl rfl hl.1 rfl (lv_room (Nat.le_of_ble_eq_true rfl)) dX3_lay_42 ⟨(Nat.le_of_ble_eq_true rfl), (Nat.le_of_ble_eq_true rfl)⟩) hS (fun q _ h => h) (fun q h => h) (fun r1 u1 t H1 locs ht hvm hu1 hB hz1 hk1 hS => ?_)
        have hP := hB.1
        rw [ht] at hP
        clear hB hk1 hz1 hvm ht
        generalize H1 = H at hP hS ⊢
        refine W.widen (k := 0) (n := 0) (Nat.le_refl 0) (Nat.le_refl 0) ?_
        have hsp := hsp.trans (bnd2_eq hu1)
        have hok := bnd2_ok hu1 hok
        have h_8 := hok.1
        have hok := hok.2
        refine va_calli (va_runV (As := [.int r1]) (rest := []) ⟨hx, hb, hml, hown, hts⟩ (cX_counted l D q cI cL tp hq u1 r1 h_8) (cwV 1 hts gX3_lay_X3_counted rfl rfl rfl (by decide +kernel) ⟨(Nat.le_of_ble_eq_true rfl), (Nat.le_of_ble_eq_true rfl)⟩) ⟨PX_blind, va_recv hK hP (ci := 6) (q0 := 0) rfl rfl, fun U hU hW => ⟨rfl, PX_fin hP hK hZ hS hU hW⟩⟩ rfl rfl hl.1 rfl (lv_room (Nat.le_of_ble_eq_true rfl)) dX3_lay_45 ⟨(Nat.le_of_ble_eq_true rfl), (Nat.le_of_ble_eq_true rfl)⟩) hS (fun q _ h => h) (fun q h => h) (fun r2 u2 t H1 locs ht hvm hu2 hB hz1 hk1 hS => ?_)
        have hP := hB.1
        rw [ht] at hP
        clear hB hk1 hz1 hvm ht
        generalize H1 = H at hP hS ⊢
        refine W.widen (k := 0) (n := 0) (Nat.le_refl 0) (Nat.le_refl 0) ?_
        have hsp := hsp.trans (bnd2_eq hu2)
        refine lv_goto (tgt := 53) hx hb dX3_lay_48 (by decide) ?_
        exact W.iret (v := r2) hx hb hr (fun t ht hW => ⟨⟨r2, u2, rfl, hsp.symm, PX_fin hP hK hZ hS ht hW⟩, hS.F ht⟩) hS.2.2 dX3_lay_53
    · have hsp := hsp.trans (if_pos c_4)
      refine lv_iconst (v := (-1)) hx hb dX3_lay_23 (by decide) ?_
      exact W.iret (v := (-1)) hx hb hr (fun t ht hW => ⟨⟨(-1), u, rfl, hsp.symm, PX_fin hP hK hZ hS ht hW⟩, hS.F ht⟩) hS.2.2 dX3_lay_24
set_option maxHeartbeats 4000000 in
set_option maxRecDepth 100000 in
theorem cX_isSide (l : Launch) (p0 : Int32) : Met l yX3_isSide wsX3_isSide { frames := 1, cells := 0, slots := 0, locals := 22 } (va_Pc [.int p0] (fun _ => True)) (vp_Si (fun r => r = sX_isSide p0)) 0 0 (fun _ => False) := by
  refine Met.ofW (cc := cX3_isSide) (maxL := 1) (ret := (some .boolean)) (by decide) rfl ?_
  intro p e s m args below meth c s₁ B hml hv
  obtain ⟨rfl, -⟩ := hv
  have hx := B.exec
  have hb := B.bytes
  have hr := B.returns
  have hts := atoms_spec (ws := wsX3_isSide) B.pre
  have hown : s.vm.findClass RX3 = some m.cls := findClass_of_methodNamed B.named
  have hlocks := B.notSynchronized
  have hl := lv_entry ([.int p0]) (n := 1) (Nat.le_of_ble_eq_true rfl)
  rw [lg_entry_eq]
  generalize (lg_sl ([.int p0]) ++ List.replicate (1 - (lg_sl ([.int p0])).length) Slot.unset).toArray = ls at hl ⊢
  have hl : lv_has ls 1 [(0, .int p0)] := hl
  have hsp : sX_isSide p0 = _ := sX_isSide.eq_1 p0
  refine lv_iload_n hx hb dX3_isSide_0 rfl (lv_at hl 0 rfl) ?_
  refine lv_iconst (v := 0) hx hb dX3_isSide_1 (by decide) ?_
  refine lv_iconst (v := 1) hx hb dX3_isSide_2 (by decide) ?_
  refine vp_callSi (W.runS (As := [.int p0, .int 0, .int 1]) (rest := []) ⟨hx, hb, hml, hown, hts⟩ (cX_within l p0 0 1) (va_cwS 3 hts gX3_isSide_X3_within rfl rfl rfl (by decide +kernel) ⟨(Nat.le_of_ble_eq_true rfl), (Nat.le_of_ble_eq_true rfl)⟩) ⟨T_blind, fun U hU hW => ⟨rfl, trivial⟩⟩ rfl rfl hl.1 rfl (lv_room (Nat.le_of_ble_eq_true rfl)) dX3_isSide_3 ⟨(Nat.le_of_ble_eq_true rfl), (Nat.le_of_ble_eq_true rfl)⟩) (fun r_1 hr_1 => ?_)
  subst hr_1
  exact W.zret (v := (sX_within p0 0 1)) hx hb hr (isB_n (bX_within p0 0 1)) (fun t ht hW => ⟨(sX_within p0 0 1), rfl, hsp.symm, ht⟩) (fun _ h => nomatch h) dX3_isSide_6
set_option maxHeartbeats 4000000 in
set_option maxRecDepth 100000 in
theorem cXT_setHalf (l : Launch) (D : va_G) (q : Nat → Nat) (cI cL : ClassId) (tp : Nat) (hq : DQ 24 q) (u : St) (p1 : Int32) (p2 : Int32) (p3 : Int32) (hok : okXT_setHalf u p1 p2 p3) : Met l yX2_setHalf wsX2_setHalf { frames := 3, cells := 0, slots := 0, locals := 65 } (va_Pc [.ref (q 1), .int p1, .int p2, .int p3] (fun U => PX D q cI cL tp u U)) (va_Qi (fun (r : Int32) (u' : St) => (r, u') = sXT_setHalf u p1 p2 p3) (fun u' t => PX D q cI cL tp u' t) (AQ 24 q)) 0 0 (AQ 24 q) := by
  refine Met.ofW (cc := cX2_setHalf) (maxL := 5) (ret := (some .int)) (by decide) rfl ?_
  intro p e s m args below meth c s₁ B hml hv
  obtain ⟨rfl, hP, hK, hZ⟩ := hv
  have hx := B.exec
  have hb := B.bytes
  have hr := B.returns
  have hts := atoms_spec (ws := wsX2_setHalf) B.pre
  have hown : s.vm.findClass RX2 = some m.cls := findClass_of_methodNamed B.named
  have hlocks := B.notSynchronized
  have hiX2 : ∀ w ∈ u_ws RX2 TX2 8, w ∈ wsX2_setHalf := by decide +kernel
  have hf24 := hts (.fieldLink RX2 24 "ThingRules$Things" "right" "[I") (by decide +kernel)
  have hf21 := hts (.fieldLink RX2 21 "ThingRules$Things" "left" "[I") (by decide +kernel)
  have hS : va_S (AQ 24 q) s.heap s.heap [] := va_S.rf
  have hP : va_P D vwCl (wX q cI cL u) s.heap := hP
  have hl := lv_entry ([.ref (q 1), .int p1, .int p2, .int p3]) (n := 5) (Nat.le_of_ble_eq_true rfl)
  rw [lg_entry_eq]
  generalize (lg_sl ([.ref (q 1), .int p1, .int p2, .int p3]) ++ List.replicate (5 - (lg_sl ([.ref (q 1), .int p1, .int p2, .int p3])).length) Slot.unset).toArray = ls at hl ⊢
  have hl : lv_has ls 5 [(0, .ref (q 1)), (1, .int p1), (2, .int p2), (3, .int p3)] := hl
  have hsp : sXT_setHalf u p1 p2 p3 = _ := sXT_setHalf.eq_1 u p1 p2 p3
  unfold okXT_setHalf at hok
  refine lv_aload_n hx hb dX2_setHalf_0 rfl (lv_at hl 0 rfl) ?_
  refine lv_iload_n hx hb dX2_setHalf_1 rfl (lv_at hl 1 rfl) ?_
  refine lv_iconst (v := 2) hx hb dX2_setHalf_2 (by decide) ?_
  have h_1 := hok.1
  have hok := hok.2
  refine vp_callSi (W.runV (As := [.int p1, .int 2]) (rest := []) ⟨hx, hb, hml, hown, hts⟩ (cXT_take l D q cI cL tp u p1 2 h_1) (cwV 2 hts gX2_setHalf_X2_take rfl rfl rfl (by decide +kernel) ⟨(Nat.le_of_ble_eq_true rfl), (Nat.le_of_ble_eq_true rfl)⟩) ⟨PX_blind, va_recv hK hP (ci := 5) (q0 := 1) rfl rfl, fun U hU hW => ⟨rfl, PX_fin hP hK hZ hS hU hW⟩⟩ rfl rfl hl.1 rfl (lv_room (Nat.le_of_ble_eq_true rfl)) dX2_setHalf_3 ⟨(Nat.le_of_ble_eq_true rfl), (Nat.le_of_ble_eq_true rfl)⟩) (fun r_2 hr_2 => ?_)
  subst hr_2
  refine lv_topi (fun y1 hy1 => ?_)
  have hsp := hsp.trans (bnd_eq hy1)
  have hok := bnd_ok hy1 hok
  refine lv_istore (lv' := [(4, .int y1), (0, .ref (q 1)), (1, .int p1), (2, .int p2), (3, .int p3)]) hx hb dX2_setHalf_6 hl (by decide) rfl (fun ls hl => ?_)
  refine lv_iload hx hb dX2_setHalf_8 (lv_at hl 0 rfl) ?_
  refine lv_iconst (v := 1) hx hb dX2_setHalf_10 (by decide) ?_
  refine lv_icmp_eq (tgt := 17) hx hb dX2_setHalf_11 (by decide) (fun c_3 => ?_) (fun c_3 => ?_)
  · have hsp := hsp.trans (if_pos c_3)
    have hok := hok.1 c_3
    refine lv_iload_n hx hb dX2_setHalf_17 rfl (lv_at hl 3 rfl) ?_
    refine lv_if_ne (tgt := 31) hx hb dX2_setHalf_18 (by decide) (fun c_4 => ?_) (fun c_4 => ?_)
    · have hsp := hsp.trans (if_neg c_4)
      have hok := hok.2 c_4
      refine lv_aload_n hx hb dX2_setHalf_31 rfl (lv_at hl 1 rfl) ?_
      refine va_get (D := D) (ci := 5) (v := .ref (q 11)) (C := RX2) (T := TX2) (N := 8) hx hb hts hiX2 hown hK hP 1 rfl rfl 5 (by decide) hf24 (fun _ h9 => h9) rfl dX2_setHalf_32 ?_
      refine lv_iload_n hx hb dX2_setHalf_35 rfl (lv_at hl 2 rfl) ?_
      refine lv_iload_n hx hb dX2_setHalf_36 rfl (lv_at hl 4 rfl) ?_
      have h_5 := hok.1
      have hok := hok.2
      refine va_iast hx hb hK hP (dX hq) hS 11 0 rfl rfl h_5 dX2_setHalf_37 (fun H locs hP _ hS => ?_)
      obtain ⟨u2, hu2⟩ : ∃ z : St, z = (stA u 11 p1.toNatClampNeg p3) := ⟨_, rfl⟩
      have hP : va_P D vwCl (wX q cI cL u2) H := by rw [hu2]; exact hP
      have hsp := hsp.trans (bnd_eq hu2)
      refine lv_iconst (v := 1) hx hb dX2_setHalf_38 (by decide) ?_
      exact W.iret (v := 1) hx hb hr (fun t ht hW => ⟨⟨1, u2, rfl, hsp.symm, PX_fin hP hK hZ hS ht hW⟩, hS.F ht⟩) hS.2.2 dX2_setHalf_39
    · have hsp := hsp.trans (if_pos c_4)
      have hok := hok.1 c_4
      refine lv_aload_n hx hb dX2_setHalf_21 rfl (lv_at hl 1 rfl) ?_
      refine va_get (D := D) (ci := 5) (v := .ref (q 10)) (C := RX2) (T := TX2) (N := 8) hx hb hts hiX2 hown hK hP 1 rfl rfl 4 (by decide) hf21 (fun _ h9 => h9) rfl dX2_setHalf_22 ?_
      refine lv_iload_n hx hb dX2_setHalf_25 rfl (lv_at hl 2 rfl) ?_
      refine lv_iload_n hx hb dX2_setHalf_26 rfl (lv_at hl 4 rfl) ?_
      have h_6 := hok.1
      have hok := hok.2
      refine va_iast hx hb hK hP (dX hq) hS 10 0 rfl rfl h_6 dX2_setHalf_27 (fun H locs hP _ hS => ?_)
      obtain ⟨u3, hu3⟩ : ∃ z : St, z = (stA u 10 p1.toNatClampNeg p3) := ⟨_, rfl⟩
      have hP : va_P D vwCl (wX q cI cL u3) H := by rw [hu3]; exact hP
      have hsp := hsp.trans (bnd_eq hu3)
      refine lv_goto (tgt := 38) hx hb dX2_setHalf_28 (by decide) ?_
      refine lv_iconst (v := 1) hx hb dX2_setHalf_38 (by decide) ?_
      exact W.iret (v := 1) hx hb hr (fun t ht hW => ⟨⟨1, u3, rfl, hsp.symm, PX_fin hP hK hZ hS ht hW⟩, hS.F ht⟩) hS.2.2 dX2_setHalf_39
  · have hsp := hsp.trans (if_neg c_3)
    refine lv_iload hx hb dX2_setHalf_14 (lv_at hl 0 rfl) ?_
    exact W.iret (v := y1) hx hb hr (fun t ht hW => ⟨⟨y1, u, rfl, hsp.symm, PX_fin hP hK hZ hS ht hW⟩, hS.F ht⟩) hS.2.2 dX2_setHalf_16
set_option maxHeartbeats 4000000 in
set_option maxRecDepth 100000 in
theorem cX_half (l : Launch) (D : va_G) (q : Nat → Nat) (cI cL : ClassId) (tp : Nat) (hq : DQ 24 q) (u : St) (p1 : Int32) (p2 : Int32) (p3 : Int32) (hok : okX_half u p1 p2 p3) : Met l yX3_half wsX3_half { frames := 4, cells := 0, slots := 0, locals := 89 } (va_Pc [.ref (q 0), .int p1, .int p2, .int p3] (fun U => PX D q cI cL tp u U)) (va_Qi (fun (r : Int32) (u' : St) => (r, u') = sX_half u p1 p2 p3) (fun u' t => PX D q cI cL tp u' t) (AQ 24 q)) 0 0 (AQ 24 q) := by
  refine Met.ofW (cc := cX3_half) (maxL := 4) (ret := (some .int)) (by decide) rfl ?_
  intro p e s m args below meth c s₁ B hml hv
  obtain ⟨rfl, hP, hK, hZ⟩ := hv
  have hx := B.exec
  have hb := B.bytes
  have hr := B.returns
  have hts := atoms_spec (ws := wsX3_half) B.pre
  have hown : s.vm.findClass RX3 = some m.cls := findClass_of_methodNamed B.named
  have hlocks := B.notSynchronized
  have hiX3 : ∀ w ∈ u_ws RX3 TX3 7, w ∈ wsX3_half := by decide +kernel
  have hf10 := hts (.fieldLink RX3 10 "ThingRules" "things" "LThingRules$Things;") (by decide +kernel)
  have hS : va_S (AQ 24 q) s.heap s.heap [] := va_S.rf
  have hP : va_P D vwCl (wX q cI cL u) s.heap := hP
  have hl := lv_entry ([.ref (q 0), .int p1, .int p2, .int p3]) (n := 4) (Nat.le_of_ble_eq_true rfl)
  rw [lg_entry_eq]
  generalize (lg_sl ([.ref (q 0), .int p1, .int p2, .int p3]) ++ List.replicate (4 - (lg_sl ([.ref (q 0), .int p1, .int p2, .int p3])).length) Slot.unset).toArray = ls at hl ⊢
  have hl : lv_has ls 4 [(0, .ref (q 0)), (1, .int p1), (2, .int p2), (3, .int p3)] := hl
  have hsp : sX_half u p1 p2 p3 = _ := sX_half.eq_1 u p1 p2 p3
  unfold okX_half at hok
  refine lv_aload_n hx hb dX3_half_0 rfl (lv_at hl 0 rfl) ?_
  refine va_get (D := D) (ci := 6) (v := .ref (q 1)) (C := RX3) (T := TX3) (N := 7) hx hb hts hiX3 hown hK hP 0 rfl rfl 0 (by decide) hf10 (fun _ h9 => h9) rfl dX3_half_1 ?_
  refine lv_iload_n hx hb dX3_half_4 rfl (lv_at hl 1 rfl) ?_
  refine vp_callSi (W.runV (As := [.int p1]) (rest := []) ⟨hx, hb, hml, hown, hts⟩ (cXT_know l D q cI cL tp u p1) (cwV 1 hts gX3_half_X2_know rfl rfl rfl (by decide +kernel) ⟨(Nat.le_of_ble_eq_true rfl), (Nat.le_of_ble_eq_true rfl)⟩) ⟨PX_blind, va_recv hK hP (ci := 5) (q0 := 1) rfl rfl, fun U hU hW => ⟨rfl, PX_fin hP hK hZ hS hU hW⟩⟩ rfl rfl hl.1 rfl (lv_room (Nat.le_of_ble_eq_true rfl)) dX3_half_5 ⟨(Nat.le_of_ble_eq_true rfl), (Nat.le_of_ble_eq_true rfl)⟩) (fun r_1 hr_1 => ?_)
  subst hr_1
  refine lv_if_eq (tgt := 22) hx hb dX3_half_8 (by decide) (fun c_2 => ?_) (fun c_2 => ?_)
  · have hsp := hsp.trans (if_pos c_2)
    refine lv_iconst (v := (-1)) hx hb dX3_half_22 (by decide) ?_
    exact W.iret (v := (-1)) hx hb hr (fun t ht hW => ⟨⟨(-1), u, rfl, hsp.symm, PX_fin hP hK hZ hS ht hW⟩, hS.F ht⟩) hS.2.2 dX3_half_23
  · have hsp := hsp.trans (if_neg c_2)
    have hok := hok.2 c_2
    refine lv_aload_n hx hb dX3_half_11 rfl (lv_at hl 0 rfl) ?_
    refine va_get (D := D) (ci := 6) (v := .ref (q 1)) (C := RX3) (T := TX3) (N := 7) hx hb hts hiX3 hown hK hP 0 rfl rfl 0 (by decide) hf10 (fun _ h9 => h9) rfl dX3_half_12 ?_
    refine lv_iload_n hx hb dX3_half_15 rfl (lv_at hl 3 rfl) ?_
    refine vp_callSi (W.runV (As := [.int p3]) (rest := []) ⟨hx, hb, hml, hown, hts⟩ (cXT_knowOrNone l D q cI cL tp u p3) (cwV 1 hts gX3_half_X2_knowOrNone rfl rfl rfl (by decide +kernel) ⟨(Nat.le_of_ble_eq_true rfl), (Nat.le_of_ble_eq_true rfl)⟩) ⟨PX_blind, va_recv hK hP (ci := 5) (q0 := 1) rfl rfl, fun U hU hW => ⟨rfl, PX_fin hP hK hZ hS hU hW⟩⟩ rfl rfl hl.1 rfl (lv_room (Nat.le_of_ble_eq_true rfl)) dX3_half_16 ⟨(Nat.le_of_ble_eq_true rfl), (Nat.le_of_ble_eq_true rfl)⟩) (fun r_3 hr_3 => ?_)
    subst hr_3
    refine lv_if_ne (tgt := 24) hx hb dX3_half_19 (by decide) (fun c_4 => ?_) (fun c_4 => ?_)
    · have hsp := hsp.trans (if_neg c_4)
      have hok := hok.2 c_4
      refine lv_iload_n hx hb dX3_half_24 rfl (lv_at hl 2 rfl) ?_
      refine vp_callSi (W.runS (As := [.int p2]) (rest := []) ⟨hx, hb, hml, hown, hts⟩ (cX_isSide l p2) (va_cwS 1 hts gX3_half_X3_isSide rfl rfl rfl (by decide +kernel) ⟨(Nat.le_of_ble_eq_true rfl), (Nat.le_of_ble_eq_true rfl)⟩) ⟨T_blind, fun U hU hW => ⟨rfl, trivial⟩⟩ rfl rfl hl.1 rfl (lv_room (Nat.le_of_ble_eq_true rfl)) dX3_half_25 ⟨(Nat.le_of_ble_eq_true rfl), (Nat.le_of_ble_eq_true rfl)⟩) (fun r_5 hr_5 => ?_)
      subst hr_5
      refine lv_if_eq (tgt := 48) hx hb dX3_half_28 (by decide) (fun c_6 => ?_) (fun c_6 => ?_)
      · have hsp := hsp.trans (if_pos c_6)
        refine lv_bipush (v := (-2)) hx hb dX3_half_48 (by decide) ?_
        exact W.iret (v := (-2)) hx hb hr (fun t ht hW => ⟨⟨(-2), u, rfl, hsp.symm, PX_fin hP hK hZ hS ht hW⟩, hS.F ht⟩) hS.2.2 dX3_half_50
      · have hsp := hsp.trans (if_neg c_6)
        have hok := hok.2 c_6
        refine lv_aload_n hx hb dX3_half_31 rfl (lv_at hl 0 rfl) ?_
        refine lv_aload_n hx hb dX3_half_32 rfl (lv_at hl 0 rfl) ?_
        refine va_get (D := D) (ci := 6) (v := .ref (q 1)) (C := RX3) (T := TX3) (N := 7) hx hb hts hiX3 hown hK hP 0 rfl rfl 0 (by decide) hf10 (fun _ h9 => h9) rfl dX3_half_33 ?_
        refine lv_iload_n hx hb dX3_half_36 rfl (lv_at hl 1 rfl) ?_
        refine lv_iload_n hx hb dX3_half_37 rfl (lv_at hl 2 rfl) ?_
        refine lv_iload_n hx hb dX3_half_38 rfl (lv_at hl 3 rfl) ?_
        have h_7 := hok.1
        have hok := hok.2
        refine va_calli (va_runV (As := [.int p1, .int p2, .int p3]) (rest := [.ref (q 0)]) ⟨hx, hb, hml, hown, hts⟩ (cXT_setHalf l D q cI cL tp hq u p1 p2 p3 h_7) (cwV 3 hts gX3_half_X2_setHalf rfl rfl rfl (by decide +kernel) ⟨(Nat.le_of_ble_eq_true rfl), (Nat.le_of_ble_eq_true rfl)⟩) ⟨PX_blind, va_recv hK hP (ci := 5) (q0 := 1) rfl rfl, fun U hU hW => ⟨rfl, PX_fin hP hK hZ hS hU hW⟩⟩ rfl rfl hl.1 rfl (lv_room (Nat.le_of_ble_eq_true rfl)) dX3_half_39 ⟨(Nat.le_of_ble_eq_true rfl), (Nat.le_of_ble_eq_true rfl)⟩) hS (fun q _ h => h) (fun q h => h) (fun r1 u1 t H1 locs ht hvm hu1 hB hz1 hk1 hS => ?_)
        have hP := hB.1
        rw [ht] at hP
        clear hB hk1 hz1 hvm ht
        generalize H1 = H at hP hS ⊢
        refine W.widen (k := 0) (n := 0) (Nat.le_refl 0) (Nat.le_refl 0) ?_
        have hsp := hsp.trans (bnd2_eq hu1)
        have hok := bnd2_ok hu1 hok
        have h_8 := hok.1
        have hok := hok.2
        refine va_calli (va_runV (As := [.int r1]) (rest := []) ⟨hx, hb, hml, hown, hts⟩ (cX_counted l D q cI cL tp hq u1 r1 h_8) (cwV 1 hts gX3_half_X3_counted rfl rfl rfl (by decide +kernel) ⟨(Nat.le_of_ble_eq_true rfl), (Nat.le_of_ble_eq_true rfl)⟩) ⟨PX_blind, va_recv hK hP (ci := 6) (q0 := 0) rfl rfl, fun U hU hW => ⟨rfl, PX_fin hP hK hZ hS hU hW⟩⟩ rfl rfl hl.1 rfl (lv_room (Nat.le_of_ble_eq_true rfl)) dX3_half_42 ⟨(Nat.le_of_ble_eq_true rfl), (Nat.le_of_ble_eq_true rfl)⟩) hS (fun q _ h => h) (fun q h => h) (fun r2 u2 t H1 locs ht hvm hu2 hB hz1 hk1 hS => ?_)
        have hP := hB.1
        rw [ht] at hP
        clear hB hk1 hz1 hvm ht
        generalize H1 = H at hP hS ⊢
        refine W.widen (k := 0) (n := 0) (Nat.le_refl 0) (Nat.le_refl 0) ?_
        have hsp := hsp.trans (bnd2_eq hu2)
        refine lv_goto (tgt := 50) hx hb dX3_half_45 (by decide) ?_
        exact W.iret (v := r2) hx hb hr (fun t ht hW => ⟨⟨r2, u2, rfl, hsp.symm, PX_fin hP hK hZ hS ht hW⟩, hS.F ht⟩) hS.2.2 dX3_half_50
    · have hsp := hsp.trans (if_pos c_4)
      refine lv_iconst (v := (-1)) hx hb dX3_half_22 (by decide) ?_
      exact W.iret (v := (-1)) hx hb hr (fun t ht hW => ⟨⟨(-1), u, rfl, hsp.symm, PX_fin hP hK hZ hS ht hW⟩, hS.F ht⟩) hS.2.2 dX3_half_23
set_option maxHeartbeats 4000000 in
set_option maxRecDepth 100000 in
theorem cX_isNumbersKind (l : Launch) (p0 : Int32) : Met l yX3_isNumbersKind wsX3_isNumbersKind { frames := 1, cells := 0, slots := 0, locals := 22 } (va_Pc [.int p0] (fun _ => True)) (vp_Si (fun r => r = sX_isNumbersKind p0)) 0 0 (fun _ => False) := by
  refine Met.ofW (cc := cX3_isNumbersKind) (maxL := 1) (ret := (some .boolean)) (by decide) rfl ?_
  intro p e s m args below meth c s₁ B hml hv
  obtain ⟨rfl, -⟩ := hv
  have hx := B.exec
  have hb := B.bytes
  have hr := B.returns
  have hts := atoms_spec (ws := wsX3_isNumbersKind) B.pre
  have hown : s.vm.findClass RX3 = some m.cls := findClass_of_methodNamed B.named
  have hlocks := B.notSynchronized
  have hl := lv_entry ([.int p0]) (n := 1) (Nat.le_of_ble_eq_true rfl)
  rw [lg_entry_eq]
  generalize (lg_sl ([.int p0]) ++ List.replicate (1 - (lg_sl ([.int p0])).length) Slot.unset).toArray = ls at hl ⊢
  have hl : lv_has ls 1 [(0, .int p0)] := hl
  have hsp : sX_isNumbersKind p0 = _ := sX_isNumbersKind.eq_1 p0
  refine lv_iload_n hx hb dX3_isNumbersKind_0 rfl (lv_at hl 0 rfl) ?_
  refine lv_iconst (v := 4) hx hb dX3_isNumbersKind_1 (by decide) ?_
  refine lv_bipush (v := 6) hx hb dX3_isNumbersKind_2 (by decide) ?_
  refine vp_callSi (W.runS (As := [.int p0, .int 4, .int 6]) (rest := []) ⟨hx, hb, hml, hown, hts⟩ (cX_within l p0 4 6) (va_cwS 3 hts gX3_isNumbersKind_X3_within rfl rfl rfl (by decide +kernel) ⟨(Nat.le_of_ble_eq_true rfl), (Nat.le_of_ble_eq_true rfl)⟩) ⟨T_blind, fun U hU hW => ⟨rfl, trivial⟩⟩ rfl rfl hl.1 rfl (lv_room (Nat.le_of_ble_eq_true rfl)) dX3_isNumbersKind_4 ⟨(Nat.le_of_ble_eq_true rfl), (Nat.le_of_ble_eq_true rfl)⟩) (fun r_1 hr_1 => ?_)
  subst hr_1
  exact W.zret (v := (sX_within p0 4 6)) hx hb hr (isB_n (bX_within p0 4 6)) (fun t ht hW => ⟨(sX_within p0 4 6), rfl, hsp.symm, ht⟩) (fun _ h => nomatch h) dX3_isNumbersKind_7
set_option maxHeartbeats 4000000 in
set_option maxRecDepth 100000 in
theorem cXT_cutTo (l : Launch) (p0 : Int32) (p1 : Int64) : Met l yX2_cutTo wsX2_cutTo { frames := 0, cells := 0, slots := 0, locals := 0 } (va_Pc [.int p0, .long p1] (fun _ => True)) (vp_Sl (fun r => r = sXT_cutTo p0 p1)) 0 0 (fun _ => False) := by
  refine Met.ofW (cc := cX2_cutTo) (maxL := 3) (ret := (some .long)) (by decide) rfl ?_
  intro p e s m args below meth c s₁ B hml hv
  obtain ⟨rfl, -⟩ := hv
  have hx := B.exec
  have hb := B.bytes
  have hr := B.returns
  have hts := atoms_spec (ws := wsX2_cutTo) B.pre
  have hown : s.vm.findClass RX2 = some m.cls := findClass_of_methodNamed B.named
  have hlocks := B.notSynchronized
  have hl := lv_entry ([.int p0, .long p1]) (n := 3) (Nat.le_of_ble_eq_true rfl)
  rw [lg_entry_eq]
  generalize (lg_sl ([.int p0, .long p1]) ++ List.replicate (3 - (lg_sl ([.int p0, .long p1])).length) Slot.unset).toArray = ls at hl ⊢
  have hl : lv_has ls 3 [(0, .int p0), (1, .long p1)] := hl
  have hsp : sXT_cutTo p0 p1 = _ := sXT_cutTo.eq_1 p0 p1
  refine lv_iload_n hx hb dX2_cutTo_0 rfl (lv_at hl 0 rfl) ?_
  by_cases c_1 : p0 = 4
  · have hsp := hsp.trans (if_pos c_1)
    refine lv_lookup (off := 27) (tgt := 28) hx hb dX2_cutTo_1 (by decide) (by rw [c_1]; rfl) (by decide) ?_
    refine lv_lload_n hx hb dX2_cutTo_28 rfl (lv_at hl 1 rfl) ?_
    refine lv_l2i (v := (p1.toInt32)) hx hb dX2_cutTo_29 rfl ?_
    refine lv_i2l (v := (((p1.toInt32) : Int32).toInt64)) hx hb dX2_cutTo_30 rfl ?_
    exact W.lret (v := (((p1.toInt32) : Int32).toInt64)) hx hb hr (fun t ht hW => ⟨(((p1.toInt32) : Int32).toInt64), rfl, hsp.symm, ht⟩) (fun _ h => nomatch h) dX2_cutTo_31
  · have hsp := hsp.trans (if_neg c_1)
    by_cases c_2 : p0 = 6
    · have hsp := hsp.trans (if_pos c_2)
      refine lv_lookup (off := 31) (tgt := 32) hx hb dX2_cutTo_1 (by decide) (by rw [c_2]; rfl) (by decide) ?_
      refine lv_lload_n hx hb dX2_cutTo_32 rfl (lv_at hl 1 rfl) ?_
      refine lv_l2i (v := (p1.toInt32)) hx hb dX2_cutTo_33 rfl ?_
      refine lv_i2c (v := ((((p1.toInt32) : Int32).toUInt32 % 65536).toInt32)) hx hb dX2_cutTo_34 rfl ?_
      refine lv_i2l (v := ((((((p1.toInt32) : Int32).toUInt32 % 65536).toInt32) : Int32).toInt64)) hx hb dX2_cutTo_35 rfl ?_
      exact W.lret (v := ((((((p1.toInt32) : Int32).toUInt32 % 65536).toInt32) : Int32).toInt64)) hx hb hr (fun t ht hW => ⟨((((((p1.toInt32) : Int32).toUInt32 % 65536).toInt32) : Int32).toInt64), rfl, hsp.symm, ht⟩) (fun _ h => nomatch h) dX2_cutTo_36
    · have hsp := hsp.trans (if_neg c_2)
      refine lv_lookup (off := 36) (tgt := 37) hx hb dX2_cutTo_1 (by decide) ((lv_osw c_1 (by decide)).trans ((lv_osw c_2 (by decide)).trans rfl)) (by decide) ?_
      refine lv_lload_n hx hb dX2_cutTo_37 rfl (lv_at hl 1 rfl) ?_
      exact W.lret (v := p1) hx hb hr (fun t ht hW => ⟨p1, rfl, hsp.symm, ht⟩) (fun _ h => nomatch h) dX2_cutTo_38
set_option maxHeartbeats 4000000 in
set_option maxRecDepth 100000 in
theorem cXT_putNumber (l : Launch) (D : va_G) (q : Nat → Nat) (cI cL : ClassId) (tp : Nat) (hq : DQ 24 q) (u : St) (p1 : Int32) (p2 : Int32) (p3 : Int32) (p4 : Int64) (hok : okXT_putNumber u p1 p2 p3 p4) : Met l yX2_putNumber wsX2_putNumber { frames := 4, cells := 0, slots := 0, locals := 89 } (va_Pc [.ref (q 1), .int p1, .int p2, .int p3, .long p4] (fun U => PX D q cI cL tp u U)) (va_Qi (fun (r : Int32) (u' : St) => (r, u') = sXT_putNumber u p1 p2 p3 p4) (fun u' t => PX D q cI cL tp u' t) (AQ 24 q)) 0 0 (AQ 24 q) := by
  refine Met.ofW (cc := cX2_putNumber) (maxL := 7) (ret := (some .int)) (by decide) rfl ?_
  intro p e s m args below meth c s₁ B hml hv
  obtain ⟨rfl, hP, hK, hZ⟩ := hv
  have hx := B.exec
  have hb := B.bytes
  have hr := B.returns
  have hts := atoms_spec (ws := wsX2_putNumber) B.pre
  have hown : s.vm.findClass RX2 = some m.cls := findClass_of_methodNamed B.named
  have hlocks := B.notSynchronized
  have hiX2 : ∀ w ∈ u_ws RX2 TX2 8, w ∈ wsX2_putNumber := by decide +kernel
  have hf30 := hts (.fieldLink RX2 30 "ThingRules$Things" "numbers" "[J") (by decide +kernel)
  have hS : va_S (AQ 24 q) s.heap s.heap [] := va_S.rf
  have hP : va_P D vwCl (wX q cI cL u) s.heap := hP
  have hl := lv_entry ([.ref (q 1), .int p1, .int p2, .int p3, .long p4]) (n := 7) (Nat.le_of_ble_eq_true rfl)
  rw [lg_entry_eq]
  generalize (lg_sl ([.ref (q 1), .int p1, .int p2, .int p3, .long p4]) ++ List.replicate (7 - (lg_sl ([.ref (q 1), .int p1, .int p2, .int p3, .long p4])).length) Slot.unset).toArray = ls at hl ⊢
  have hl : lv_has ls 7 [(0, .ref (q 1)), (1, .int p1), (2, .int p2), (3, .int p3), (4, .long p4)] := hl
  have hsp : sXT_putNumber u p1 p2 p3 p4 = _ := sXT_putNumber.eq_1 u p1 p2 p3 p4
  unfold okXT_putNumber at hok
  refine lv_aload_n hx hb dX2_putNumber_0 rfl (lv_at hl 0 rfl) ?_
  refine lv_iload_n hx hb dX2_putNumber_1 rfl (lv_at hl 1 rfl) ?_
  refine lv_iload_n hx hb dX2_putNumber_2 rfl (lv_at hl 2 rfl) ?_
  refine lv_iload_n hx hb dX2_putNumber_3 rfl (lv_at hl 3 rfl) ?_
  have h_1 := hok.1
  have hok := hok.2
  refine vp_callSi (W.runV (As := [.int p1, .int p2, .int p3]) (rest := []) ⟨hx, hb, hml, hown, hts⟩ (cXT_reach l D q cI cL tp u p1 p2 p3 h_1) (cwV 3 hts gX2_putNumber_X2_reach rfl rfl rfl (by decide +kernel) ⟨(Nat.le_of_ble_eq_true rfl), (Nat.le_of_ble_eq_true rfl)⟩) ⟨PX_blind, va_recv hK hP (ci := 5) (q0 := 1) rfl rfl, fun U hU hW => ⟨rfl, PX_fin hP hK hZ hS hU hW⟩⟩ rfl rfl hl.1 rfl (lv_room (Nat.le_of_ble_eq_true rfl)) dX2_putNumber_4 ⟨(Nat.le_of_ble_eq_true rfl), (Nat.le_of_ble_eq_true rfl)⟩) (fun r_2 hr_2 => ?_)
  subst hr_2
  refine lv_topi (fun y1 hy1 => ?_)
  have hsp := hsp.trans (bnd_eq hy1)
  have hok := bnd_ok hy1 hok
  refine lv_istore (lv' := [(6, .int y1), (0, .ref (q 1)), (1, .int p1), (2, .int p2), (3, .int p3), (4, .long p4)]) hx hb dX2_putNumber_7 hl (by decide) rfl (fun ls hl => ?_)
  refine lv_iload hx hb dX2_putNumber_9 (lv_at hl 0 rfl) ?_
  refine lv_iconst (v := 1) hx hb dX2_putNumber_11 (by decide) ?_
  refine lv_icmp_ne (tgt := 32) hx hb dX2_putNumber_12 (by decide) (fun c_3 => ?_) (fun c_3 => ?_)
  · have hsp := hsp.trans (if_neg c_3)
    refine lv_iload hx hb dX2_putNumber_32 (lv_at hl 0 rfl) ?_
    exact W.iret (v := y1) hx hb hr (fun t ht hW => ⟨⟨y1, u, rfl, hsp.symm, PX_fin hP hK hZ hS ht hW⟩, hS.F ht⟩) hS.2.2 dX2_putNumber_34
  · have hsp := hsp.trans (if_pos c_3)
    have hok := hok.1 c_3
    refine lv_aload_n hx hb dX2_putNumber_15 rfl (lv_at hl 1 rfl) ?_
    refine va_get (D := D) (ci := 5) (v := .ref (q 13)) (C := RX2) (T := TX2) (N := 8) hx hb hts hiX2 hown hK hP 1 rfl rfl 7 (by decide) hf30 (fun _ h9 => h9) rfl dX2_putNumber_16 ?_
    refine lv_iload_n hx hb dX2_putNumber_19 rfl (lv_at hl 2 rfl) ?_
    refine lv_bipush (v := 6) hx hb dX2_putNumber_20 (by decide) ?_
    refine lv_imul hx hb dX2_putNumber_22 ?_
    refine lv_iload_n hx hb dX2_putNumber_23 rfl (lv_at hl 4 rfl) ?_
    refine lv_iadd hx hb dX2_putNumber_24 ?_
    refine lv_iload_n hx hb dX2_putNumber_25 rfl (lv_at hl 3 rfl) ?_
    refine lv_lload hx hb dX2_putNumber_26 (lv_at hl 5 rfl) ?_
    refine vp_callSl (W.runS (As := [.int p2, .long p4]) (rest := [.int ((p1 * 6) + p3), .ref (q 13)]) ⟨hx, hb, hml, hown, hts⟩ (cXT_cutTo l p2 p4) (va_cwS 2 hts gX2_putNumber_X2_cutTo rfl rfl rfl (by decide +kernel) ⟨(Nat.le_of_ble_eq_true rfl), (Nat.le_of_ble_eq_true rfl)⟩) ⟨T_blind, fun U hU hW => ⟨rfl, trivial⟩⟩ rfl rfl hl.1 rfl (lv_room (Nat.le_of_ble_eq_true rfl)) dX2_putNumber_28 ⟨(Nat.le_of_ble_eq_true rfl), (Nat.le_of_ble_eq_true rfl)⟩) (fun r_4 hr_4 => ?_)
    subst hr_4
    have h_5 := hok.1
    have hok := hok.2
    refine va_last hx hb hK hP (dX hq) hS 13 1 rfl rfl h_5 dX2_putNumber_31 (fun H locs hP _ hS => ?_)
    obtain ⟨u2, hu2⟩ : ∃ z : St, z = (stL u ((p1 * 6) + p3).toNatClampNeg (sXT_cutTo p2 p4)) := ⟨_, rfl⟩
    have hP : va_P D vwCl (wX q cI cL u2) H := by rw [hu2]; exact hP
    have hsp := hsp.trans (bnd_eq hu2)
    refine lv_iload hx hb dX2_putNumber_32 (lv_at hl 0 rfl) ?_
    exact W.iret (v := y1) hx hb hr (fun t ht hW => ⟨⟨y1, u2, rfl, hsp.symm, PX_fin hP hK hZ hS ht hW⟩, hS.F ht⟩) hS.2.2 dX2_putNumber_34
