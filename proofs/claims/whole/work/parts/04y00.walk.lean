set_option maxHeartbeats 4000000 in
set_option maxRecDepth 100000 in
theorem cM_thrown (l : Launch) (D : va_G) (q : Nat → Nat) (cI cL : ClassId) (u : St) : Met l yX4_thrown wsX4_thrown { frames := 0, cells := 0, slots := 0, locals := 0 } (va_Pc [.ref (q 0)] (fun U => PM D q cI cL u U)) (vp_Si (fun r => r = sM_thrown u)) 0 0 (fun _ => False) := by
  refine Met.ofW (cc := cX4_thrown) (maxL := 1) (ret := (some .int)) (by decide) rfl ?_
  intro p e s m args below meth c s₁ B hml hv
  obtain ⟨rfl, hP, hK⟩ := hv
  have hx := B.exec
  have hb := B.bytes
  have hr := B.returns
  have hts := atoms_spec (ws := wsX4_thrown) B.pre
  have hown : s.vm.findClass RX4 = some m.cls := findClass_of_methodNamed B.named
  have hlocks := B.notSynchronized
  have hiX4 : ∀ w ∈ u_ws RX4 TX4 29, w ∈ wsX4_thrown := by decide +kernel
  have hf74 := hts (.fieldLink RX4 74 "ThingRulesModel" "thrown" "I") (by decide +kernel)
  have hS : va_S (AQ 22 q) s.heap s.heap [] := va_S.rf
  have hP : va_P D vwCl (wM q cI cL u) s.heap := hP
  have hl := lv_entry ([.ref (q 0)]) (n := 1) (Nat.le_of_ble_eq_true rfl)
  rw [lg_entry_eq]
  generalize (lg_sl ([.ref (q 0)]) ++ List.replicate (1 - (lg_sl ([.ref (q 0)])).length) Slot.unset).toArray = ls at hl ⊢
  have hl : lv_has ls 1 [(0, .ref (q 0))] := hl
  have hsp : sM_thrown u = _ := sM_thrown.eq_1 u
  refine lv_aload_n hx hb dX4_thrown_0 rfl (lv_at hl 0 rfl) ?_
  refine va_get (D := D) (ci := 7) (v := .int (u.1 0)) (C := RX4) (T := TX4) (N := 29) hx hb hts hiX4 hown hK hP 0 rfl rfl 0 (by decide) hf74 (fun _ h9 => h9) rfl dX4_thrown_1 ?_
  exact W.iret (v := (u.1 0)) hx hb hr (fun t ht hW => ⟨(u.1 0), rfl, hsp.symm, ht⟩) (fun _ h => nomatch h) dX4_thrown_4
set_option maxHeartbeats 4000000 in
set_option maxRecDepth 100000 in
theorem cM_in (l : Launch) (p0 : Int32) (p1 : Int32) (p2 : Int32) : Met l yX4_in wsX4_in { frames := 0, cells := 0, slots := 0, locals := 0 } (va_Pc [.int p0, .int p1, .int p2] (fun _ => True)) (vp_Si (fun r => r = sM_in p0 p1 p2)) 0 0 (fun _ => False) := by
  refine Met.ofW (cc := cX4_in) (maxL := 3) (ret := (some .boolean)) (by decide) rfl ?_
  intro p e s m args below meth c s₁ B hml hv
  obtain ⟨rfl, -⟩ := hv
  have hx := B.exec
  have hb := B.bytes
  have hr := B.returns
  have hts := atoms_spec (ws := wsX4_in) B.pre
  have hown : s.vm.findClass RX4 = some m.cls := findClass_of_methodNamed B.named
  have hlocks := B.notSynchronized
  have hl := lv_entry ([.int p0, .int p1, .int p2]) (n := 3) (Nat.le_of_ble_eq_true rfl)
  rw [lg_entry_eq]
  generalize (lg_sl ([.int p0, .int p1, .int p2]) ++ List.replicate (3 - (lg_sl ([.int p0, .int p1, .int p2])).length) Slot.unset).toArray = ls at hl ⊢
  have hl : lv_has ls 3 [(0, .int p0), (1, .int p1), (2, .int p2)] := hl
  have hsp : sM_in p0 p1 p2 = _ := sM_in.eq_1 p0 p1 p2
  refine lv_iload_n hx hb dX4_in_0 rfl (lv_at hl 0 rfl) ?_
  refine lv_iload_n hx hb dX4_in_1 rfl (lv_at hl 1 rfl) ?_
  refine lv_icmp_lt (tgt := 14) hx hb dX4_in_2 (by decide) (fun c_1 => ?_) (fun c_1 => ?_)
  · have hsp := hsp.trans (if_pos c_1)
    refine lv_iconst (v := 0) hx hb dX4_in_14 (by decide) ?_
    exact W.zret (v := 0) hx hb hr rfl (fun t ht hW => ⟨0, rfl, hsp.symm, ht⟩) (fun _ h => nomatch h) dX4_in_15
  · have hsp := hsp.trans (if_neg c_1)
    refine lv_iload_n hx hb dX4_in_5 rfl (lv_at hl 0 rfl) ?_
    refine lv_iload_n hx hb dX4_in_6 rfl (lv_at hl 2 rfl) ?_
    refine lv_icmp_gt (tgt := 14) hx hb dX4_in_7 (by decide) (fun c_2 => ?_) (fun c_2 => ?_)
    · have hsp := hsp.trans (if_pos c_2)
      refine lv_iconst (v := 0) hx hb dX4_in_14 (by decide) ?_
      exact W.zret (v := 0) hx hb hr rfl (fun t ht hW => ⟨0, rfl, hsp.symm, ht⟩) (fun _ h => nomatch h) dX4_in_15
    · have hsp := hsp.trans (if_neg c_2)
      refine lv_iconst (v := 1) hx hb dX4_in_10 (by decide) ?_
      refine lv_goto (tgt := 15) hx hb dX4_in_11 (by decide) ?_
      exact W.zret (v := 1) hx hb hr rfl (fun t ht hW => ⟨1, rfl, hsp.symm, ht⟩) (fun _ h => nomatch h) dX4_in_15
set_option maxHeartbeats 4000000 in
set_option maxRecDepth 100000 in
theorem cM_isThing (l : Launch) (D : va_G) (q : Nat → Nat) (cI cL : ClassId) (u : St) (p1 : Int32) : Met l yX4_isThing wsX4_isThing { frames := 1, cells := 0, slots := 0, locals := 22 } (va_Pc [.ref (q 0), .int p1] (fun U => PM D q cI cL u U)) (vp_Si (fun r => r = sM_isThing u p1)) 0 0 (fun _ => False) := by
  refine Met.ofW (cc := cX4_isThing) (maxL := 2) (ret := (some .boolean)) (by decide) rfl ?_
  intro p e s m args below meth c s₁ B hml hv
  obtain ⟨rfl, hP, hK⟩ := hv
  have hx := B.exec
  have hb := B.bytes
  have hr := B.returns
  have hts := atoms_spec (ws := wsX4_isThing) B.pre
  have hown : s.vm.findClass RX4 = some m.cls := findClass_of_methodNamed B.named
  have hlocks := B.notSynchronized
  have hiX4 : ∀ w ∈ u_ws RX4 TX4 29, w ∈ wsX4_isThing := by decide +kernel
  have hf78 := hts (.fieldLink RX4 78 "ThingRulesModel" "things" "I") (by decide +kernel)
  have hS : va_S (AQ 22 q) s.heap s.heap [] := va_S.rf
  have hP : va_P D vwCl (wM q cI cL u) s.heap := hP
  have hl := lv_entry ([.ref (q 0), .int p1]) (n := 2) (Nat.le_of_ble_eq_true rfl)
  rw [lg_entry_eq]
  generalize (lg_sl ([.ref (q 0), .int p1]) ++ List.replicate (2 - (lg_sl ([.ref (q 0), .int p1])).length) Slot.unset).toArray = ls at hl ⊢
  have hl : lv_has ls 2 [(0, .ref (q 0)), (1, .int p1)] := hl
  have hsp : sM_isThing u p1 = _ := sM_isThing.eq_1 u p1
  refine lv_iload_n hx hb dX4_isThing_0 rfl (lv_at hl 1 rfl) ?_
  refine lv_iconst (v := 0) hx hb dX4_isThing_1 (by decide) ?_
  refine lv_aload_n hx hb dX4_isThing_2 rfl (lv_at hl 0 rfl) ?_
  refine va_get (D := D) (ci := 7) (v := .int (u.1 1)) (C := RX4) (T := TX4) (N := 29) hx hb hts hiX4 hown hK hP 0 rfl rfl 1 (by decide) hf78 (fun _ h9 => h9) rfl dX4_isThing_3 ?_
  refine lv_iconst (v := 1) hx hb dX4_isThing_6 (by decide) ?_
  refine lv_isub hx hb dX4_isThing_7 ?_
  refine vp_callSi (W.runS (As := [.int p1, .int 0, .int ((u.1 1) - 1)]) (rest := []) ⟨hx, hb, hml, hown, hts⟩ (cM_in l p1 0 ((u.1 1) - 1)) (va_cwS 3 hts gX4_isThing_X4_in rfl rfl rfl (by decide +kernel) ⟨(Nat.le_of_ble_eq_true rfl), (Nat.le_of_ble_eq_true rfl)⟩) ⟨T_blind, fun U hU hW => ⟨rfl, trivial⟩⟩ rfl rfl hl.1 rfl (lv_room (Nat.le_of_ble_eq_true rfl)) dX4_isThing_8 ⟨(Nat.le_of_ble_eq_true rfl), (Nat.le_of_ble_eq_true rfl)⟩) (fun r_1 hr_1 => ?_)
  subst hr_1
  exact W.zret (v := (sM_in p1 0 ((u.1 1) - 1))) hx hb hr (isB_n (bM_in p1 0 ((u.1 1) - 1))) (fun t ht hW => ⟨(sM_in p1 0 ((u.1 1) - 1)), rfl, hsp.symm, ht⟩) (fun _ h => nomatch h) dX4_isThing_11
set_option maxHeartbeats 4000000 in
set_option maxRecDepth 100000 in
theorem cM_isThingOrNone (l : Launch) (D : va_G) (q : Nat → Nat) (cI cL : ClassId) (u : St) (p1 : Int32) : Met l yX4_isThingOrNone wsX4_isThingOrNone { frames := 2, cells := 0, slots := 0, locals := 43 } (va_Pc [.ref (q 0), .int p1] (fun U => PM D q cI cL u U)) (vp_Si (fun r => r = sM_isThingOrNone u p1)) 0 0 (fun _ => False) := by
  refine Met.ofW (cc := cX4_isThingOrNone) (maxL := 2) (ret := (some .boolean)) (by decide) rfl ?_
  intro p e s m args below meth c s₁ B hml hv
  obtain ⟨rfl, hP, hK⟩ := hv
  have hx := B.exec
  have hb := B.bytes
  have hr := B.returns
  have hts := atoms_spec (ws := wsX4_isThingOrNone) B.pre
  have hown : s.vm.findClass RX4 = some m.cls := findClass_of_methodNamed B.named
  have hlocks := B.notSynchronized
  have hS : va_S (AQ 22 q) s.heap s.heap [] := va_S.rf
  have hP : va_P D vwCl (wM q cI cL u) s.heap := hP
  have hl := lv_entry ([.ref (q 0), .int p1]) (n := 2) (Nat.le_of_ble_eq_true rfl)
  rw [lg_entry_eq]
  generalize (lg_sl ([.ref (q 0), .int p1]) ++ List.replicate (2 - (lg_sl ([.ref (q 0), .int p1])).length) Slot.unset).toArray = ls at hl ⊢
  have hl : lv_has ls 2 [(0, .ref (q 0)), (1, .int p1)] := hl
  have hsp : sM_isThingOrNone u p1 = _ := sM_isThingOrNone.eq_1 u p1
  refine lv_iload_n hx hb dX4_isThingOrNone_0 rfl (lv_at hl 1 rfl) ?_
  refine lv_bipush (v := (-5)) hx hb dX4_isThingOrNone_1 (by decide) ?_
  refine lv_icmp_eq (tgt := 14) hx hb dX4_isThingOrNone_3 (by decide) (fun c_1 => ?_) (fun c_1 => ?_)
  · have hsp := hsp.trans (if_pos c_1)
    refine lv_iconst (v := 1) hx hb dX4_isThingOrNone_14 (by decide) ?_
    refine lv_goto (tgt := 19) hx hb dX4_isThingOrNone_15 (by decide) ?_
    exact W.zret (v := 1) hx hb hr rfl (fun t ht hW => ⟨1, rfl, hsp.symm, ht⟩) (fun _ h => nomatch h) dX4_isThingOrNone_19
  · have hsp := hsp.trans (if_neg c_1)
    refine lv_aload_n hx hb dX4_isThingOrNone_6 rfl (lv_at hl 0 rfl) ?_
    refine lv_iload_n hx hb dX4_isThingOrNone_7 rfl (lv_at hl 1 rfl) ?_
    refine vp_callSi (W.runV (As := [.int p1]) (rest := []) ⟨hx, hb, hml, hown, hts⟩ (cM_isThing l D q cI cL u p1) (cwV 1 hts gX4_isThingOrNone_X4_isThing rfl rfl rfl (by decide +kernel) ⟨(Nat.le_of_ble_eq_true rfl), (Nat.le_of_ble_eq_true rfl)⟩) ⟨PM_blind, va_recv hK hP (ci := 7) (q0 := 0) rfl rfl, fun U hU hW => ⟨rfl, PM_fin hP hK hU hW⟩⟩ rfl rfl hl.1 rfl (lv_room (Nat.le_of_ble_eq_true rfl)) dX4_isThingOrNone_8 ⟨(Nat.le_of_ble_eq_true rfl), (Nat.le_of_ble_eq_true rfl)⟩) (fun r_2 hr_2 => ?_)
    subst hr_2
    refine lv_if_eq (tgt := 18) hx hb dX4_isThingOrNone_11 (by decide) (fun c_3 => ?_) (fun c_3 => ?_)
    · have hsp := hsp.trans (if_pos c_3)
      refine lv_iconst (v := 0) hx hb dX4_isThingOrNone_18 (by decide) ?_
      exact W.zret (v := 0) hx hb hr rfl (fun t ht hW => ⟨0, rfl, hsp.symm, ht⟩) (fun _ h => nomatch h) dX4_isThingOrNone_19
    · have hsp := hsp.trans (if_neg c_3)
      refine lv_iconst (v := 1) hx hb dX4_isThingOrNone_14 (by decide) ?_
      refine lv_goto (tgt := 19) hx hb dX4_isThingOrNone_15 (by decide) ?_
      exact W.zret (v := 1) hx hb hr rfl (fun t ht hW => ⟨1, rfl, hsp.symm, ht⟩) (fun _ h => nomatch h) dX4_isThingOrNone_19
set_option maxHeartbeats 4000000 in
set_option maxRecDepth 100000 in
theorem cM_finds (l : Launch) (D : va_G) (q : Nat → Nat) (cI cL : ClassId) (hq : DQ 22 q) (u : St) (p1 : Int32) (hok : okM_finds u p1) : Met l yX4_finds wsX4_finds { frames := 0, cells := 0, slots := 0, locals := 0 } (va_Pc [.ref (q 0), .int p1] (fun U => PM D q cI cL u U)) (va_Qi (fun (r : Int32) (u' : St) => (r, u') = sM_finds u p1) (fun u' t => PM D q cI cL u' t) (AQ 22 q)) 0 0 (AQ 22 q) := by
  refine Met.ofW (cc := cX4_finds) (maxL := 2) (ret := (some .int)) (by decide) rfl ?_
  intro p e s m args below meth c s₁ B hml hv
  obtain ⟨rfl, hP, hK⟩ := hv
  have hx := B.exec
  have hb := B.bytes
  have hr := B.returns
  have hts := atoms_spec (ws := wsX4_finds) B.pre
  have hown : s.vm.findClass RX4 = some m.cls := findClass_of_methodNamed B.named
  have hlocks := B.notSynchronized
  have hiX4 : ∀ w ∈ u_ws RX4 TX4 29, w ∈ wsX4_finds := by decide +kernel
  have hf62 := hts (.fieldLink RX4 62 "ThingRulesModel" "findings" "[I") (by decide +kernel)
  have hS : va_S (AQ 22 q) s.heap s.heap [] := va_S.rf
  have hP : va_P D vwCl (wM q cI cL u) s.heap := hP
  have hl := lv_entry ([.ref (q 0), .int p1]) (n := 2) (Nat.le_of_ble_eq_true rfl)
  rw [lg_entry_eq]
  generalize (lg_sl ([.ref (q 0), .int p1]) ++ List.replicate (2 - (lg_sl ([.ref (q 0), .int p1])).length) Slot.unset).toArray = ls at hl ⊢
  have hl : lv_has ls 2 [(0, .ref (q 0)), (1, .int p1)] := hl
  have hsp : sM_finds u p1 = _ := sM_finds.eq_1 u p1
  unfold okM_finds at hok
  refine lv_aload_n hx hb dX4_finds_0 rfl (lv_at hl 0 rfl) ?_
  refine va_get (D := D) (ci := 7) (v := .ref (q 18)) (C := RX4) (T := TX4) (N := 29) hx hb hts hiX4 hown hK hP 0 rfl rfl 21 (by decide) hf62 (fun _ h9 => h9) rfl dX4_finds_1 ?_
  refine lv_bipush (v := (-20)) hx hb dX4_finds_4 (by decide) ?_
  refine lv_iload_n hx hb dX4_finds_6 rfl (lv_at hl 1 rfl) ?_
  refine lv_isub hx hb dX4_finds_7 ?_
  refine lv_dup2_11 hx hb dX4_finds_8 rfl rfl ?_
  have h_1 := hok.1
  have hok := hok.2
  refine va_iald hx hb hK hP 18 0 rfl rfl h_1 dX4_finds_9 ?_
  refine lv_iconst (v := 1) hx hb dX4_finds_10 (by decide) ?_
  refine lv_iadd hx hb dX4_finds_11 ?_
  have h_2 := hok.1
  have hok := hok.2
  refine va_iast hx hb hK hP (dM hq) hS 18 0 rfl rfl h_2 dX4_finds_12 (fun H locs hP _ hS => ?_)
  obtain ⟨u1, hu1⟩ : ∃ z : St, z = (stA u 18 ((-20) - p1).toNatClampNeg ((u.2.1 18 ((-20) - p1).toNatClampNeg) + 1)) := ⟨_, rfl⟩
  have hP : va_P D vwCl (wM q cI cL u1) H := by rw [hu1]; exact hP
  have hsp := hsp.trans (bnd_eq hu1)
  refine lv_iload_n hx hb dX4_finds_13 rfl (lv_at hl 1 rfl) ?_
  exact W.iret (v := p1) hx hb hr (fun t ht hW => ⟨⟨p1, u1, rfl, hsp.symm, PM_fin hP hK ht hW⟩, hS.F ht⟩) hS.2.2 dX4_finds_14
set_option maxHeartbeats 4000000 in
set_option maxRecDepth 100000 in
theorem cM_isOf (l : Launch) (p0 : Int32) (p1 : Int32) : Met l yX4_isOf wsX4_isOf { frames := 0, cells := 0, slots := 0, locals := 0 } (va_Pc [.int p0, .int p1] (fun _ => True)) (vp_Si (fun r => r = sM_isOf p0 p1)) 0 0 (fun _ => False) := by
  refine Met.ofW (cc := cX4_isOf) (maxL := 2) (ret := (some .boolean)) (by decide) rfl ?_
  intro p e s m args below meth c s₁ B hml hv
  obtain ⟨rfl, -⟩ := hv
  have hx := B.exec
  have hb := B.bytes
  have hr := B.returns
  have hts := atoms_spec (ws := wsX4_isOf) B.pre
  have hown : s.vm.findClass RX4 = some m.cls := findClass_of_methodNamed B.named
  have hlocks := B.notSynchronized
  have hl := lv_entry ([.int p0, .int p1]) (n := 2) (Nat.le_of_ble_eq_true rfl)
  rw [lg_entry_eq]
  generalize (lg_sl ([.int p0, .int p1]) ++ List.replicate (2 - (lg_sl ([.int p0, .int p1])).length) Slot.unset).toArray = ls at hl ⊢
  have hl : lv_has ls 2 [(0, .int p0), (1, .int p1)] := hl
  have hsp : sM_isOf p0 p1 = _ := sM_isOf.eq_1 p0 p1
  refine lv_iload_n hx hb dX4_isOf_0 rfl (lv_at hl 1 rfl) ?_
  by_cases c_1 : p1 = 0
  · have hsp := hsp.trans (if_pos c_1)
    refine lv_tableIn (off := 79) (tgt := 80) hx hb dX4_isOf_1 (by rw [c_1]; decide) (by rw [c_1]; decide) (by rw [c_1]; rfl) (by decide) ?_
    refine lv_iload_n hx hb dX4_isOf_80 rfl (lv_at hl 0 rfl) ?_
    refine lv_if_eq (tgt := 89) hx hb dX4_isOf_81 (by decide) (fun c_2 => ?_) (fun c_2 => ?_)
    · have hsp := hsp.trans (if_pos c_2)
      refine lv_iconst (v := 1) hx hb dX4_isOf_89 (by decide) ?_
      refine lv_goto (tgt := 94) hx hb dX4_isOf_90 (by decide) ?_
      exact W.zret (v := 1) hx hb hr rfl (fun t ht hW => ⟨1, rfl, hsp.symm, ht⟩) (fun _ h => nomatch h) dX4_isOf_94
    · have hsp := hsp.trans (if_neg c_2)
      refine lv_iload_n hx hb dX4_isOf_84 rfl (lv_at hl 0 rfl) ?_
      refine lv_iconst (v := 1) hx hb dX4_isOf_85 (by decide) ?_
      refine lv_icmp_ne (tgt := 93) hx hb dX4_isOf_86 (by decide) (fun c_3 => ?_) (fun c_3 => ?_)
      · have hsp := hsp.trans (if_neg c_3)
        refine lv_iconst (v := 0) hx hb dX4_isOf_93 (by decide) ?_
        exact W.zret (v := 0) hx hb hr rfl (fun t ht hW => ⟨0, rfl, hsp.symm, ht⟩) (fun _ h => nomatch h) dX4_isOf_94
      · have hsp := hsp.trans (if_pos c_3)
        refine lv_iconst (v := 1) hx hb dX4_isOf_89 (by decide) ?_
        refine lv_goto (tgt := 94) hx hb dX4_isOf_90 (by decide) ?_
        exact W.zret (v := 1) hx hb hr rfl (fun t ht hW => ⟨1, rfl, hsp.symm, ht⟩) (fun _ h => nomatch h) dX4_isOf_94
  · have hsp := hsp.trans (if_neg c_1)
    by_cases c_4 : p1 = 1
    · have hsp := hsp.trans (if_pos c_4)
      refine lv_tableIn (off := 166) (tgt := 167) hx hb dX4_isOf_1 (by rw [c_4]; decide) (by rw [c_4]; decide) (by rw [c_4]; rfl) (by decide) ?_
      refine lv_iload_n hx hb dX4_isOf_167 rfl (lv_at hl 0 rfl) ?_
      refine lv_iload_n hx hb dX4_isOf_168 rfl (lv_at hl 1 rfl) ?_
      refine lv_icmp_ne (tgt := 176) hx hb dX4_isOf_169 (by decide) (fun c_5 => ?_) (fun c_5 => ?_)
      · have hsp := hsp.trans (if_neg c_5)
        refine lv_iconst (v := 0) hx hb dX4_isOf_176 (by decide) ?_
        exact W.zret (v := 0) hx hb hr rfl (fun t ht hW => ⟨0, rfl, hsp.symm, ht⟩) (fun _ h => nomatch h) dX4_isOf_177
      · have hsp := hsp.trans (if_pos c_5)
        refine lv_iconst (v := 1) hx hb dX4_isOf_172 (by decide) ?_
        refine lv_goto (tgt := 177) hx hb dX4_isOf_173 (by decide) ?_
        exact W.zret (v := 1) hx hb hr rfl (fun t ht hW => ⟨1, rfl, hsp.symm, ht⟩) (fun _ h => nomatch h) dX4_isOf_177
    · have hsp := hsp.trans (if_neg c_4)
      by_cases c_6 : p1 = 2
      · have hsp := hsp.trans (if_pos c_6)
        refine lv_tableIn (off := 166) (tgt := 167) hx hb dX4_isOf_1 (by rw [c_6]; decide) (by rw [c_6]; decide) (by rw [c_6]; rfl) (by decide) ?_
        refine lv_iload_n hx hb dX4_isOf_167 rfl (lv_at hl 0 rfl) ?_
        refine lv_iload_n hx hb dX4_isOf_168 rfl (lv_at hl 1 rfl) ?_
        refine lv_icmp_ne (tgt := 176) hx hb dX4_isOf_169 (by decide) (fun c_7 => ?_) (fun c_7 => ?_)
        · have hsp := hsp.trans (if_neg c_7)
          refine lv_iconst (v := 0) hx hb dX4_isOf_176 (by decide) ?_
          exact W.zret (v := 0) hx hb hr rfl (fun t ht hW => ⟨0, rfl, hsp.symm, ht⟩) (fun _ h => nomatch h) dX4_isOf_177
        · have hsp := hsp.trans (if_pos c_7)
          refine lv_iconst (v := 1) hx hb dX4_isOf_172 (by decide) ?_
          refine lv_goto (tgt := 177) hx hb dX4_isOf_173 (by decide) ?_
          exact W.zret (v := 1) hx hb hr rfl (fun t ht hW => ⟨1, rfl, hsp.symm, ht⟩) (fun _ h => nomatch h) dX4_isOf_177
      · have hsp := hsp.trans (if_neg c_6)
        by_cases c_8 : p1 = 3
        · have hsp := hsp.trans (if_pos c_8)
          refine lv_tableIn (off := 166) (tgt := 167) hx hb dX4_isOf_1 (by rw [c_8]; decide) (by rw [c_8]; decide) (by rw [c_8]; rfl) (by decide) ?_
          refine lv_iload_n hx hb dX4_isOf_167 rfl (lv_at hl 0 rfl) ?_
          refine lv_iload_n hx hb dX4_isOf_168 rfl (lv_at hl 1 rfl) ?_
          refine lv_icmp_ne (tgt := 176) hx hb dX4_isOf_169 (by decide) (fun c_9 => ?_) (fun c_9 => ?_)
          · have hsp := hsp.trans (if_neg c_9)
            refine lv_iconst (v := 0) hx hb dX4_isOf_176 (by decide) ?_
            exact W.zret (v := 0) hx hb hr rfl (fun t ht hW => ⟨0, rfl, hsp.symm, ht⟩) (fun _ h => nomatch h) dX4_isOf_177
          · have hsp := hsp.trans (if_pos c_9)
            refine lv_iconst (v := 1) hx hb dX4_isOf_172 (by decide) ?_
            refine lv_goto (tgt := 177) hx hb dX4_isOf_173 (by decide) ?_
            exact W.zret (v := 1) hx hb hr rfl (fun t ht hW => ⟨1, rfl, hsp.symm, ht⟩) (fun _ h => nomatch h) dX4_isOf_177
        · have hsp := hsp.trans (if_neg c_8)
          by_cases c_10 : p1 = 4
          · have hsp := hsp.trans (if_pos c_10)
            refine lv_tableIn (off := 166) (tgt := 167) hx hb dX4_isOf_1 (by rw [c_10]; decide) (by rw [c_10]; decide) (by rw [c_10]; rfl) (by decide) ?_
            refine lv_iload_n hx hb dX4_isOf_167 rfl (lv_at hl 0 rfl) ?_
            refine lv_iload_n hx hb dX4_isOf_168 rfl (lv_at hl 1 rfl) ?_
            refine lv_icmp_ne (tgt := 176) hx hb dX4_isOf_169 (by decide) (fun c_11 => ?_) (fun c_11 => ?_)
            · have hsp := hsp.trans (if_neg c_11)
              refine lv_iconst (v := 0) hx hb dX4_isOf_176 (by decide) ?_
              exact W.zret (v := 0) hx hb hr rfl (fun t ht hW => ⟨0, rfl, hsp.symm, ht⟩) (fun _ h => nomatch h) dX4_isOf_177
            · have hsp := hsp.trans (if_pos c_11)
              refine lv_iconst (v := 1) hx hb dX4_isOf_172 (by decide) ?_
              refine lv_goto (tgt := 177) hx hb dX4_isOf_173 (by decide) ?_
              exact W.zret (v := 1) hx hb hr rfl (fun t ht hW => ⟨1, rfl, hsp.symm, ht⟩) (fun _ h => nomatch h) dX4_isOf_177
          · have hsp := hsp.trans (if_neg c_10)
            by_cases c_12 : p1 = 5
            · have hsp := hsp.trans (if_pos c_12)
              refine lv_tableIn (off := 166) (tgt := 167) hx hb dX4_isOf_1 (by rw [c_12]; decide) (by rw [c_12]; decide) (by rw [c_12]; rfl) (by decide) ?_
              refine lv_iload_n hx hb dX4_isOf_167 rfl (lv_at hl 0 rfl) ?_
              refine lv_iload_n hx hb dX4_isOf_168 rfl (lv_at hl 1 rfl) ?_
              refine lv_icmp_ne (tgt := 176) hx hb dX4_isOf_169 (by decide) (fun c_13 => ?_) (fun c_13 => ?_)
              · have hsp := hsp.trans (if_neg c_13)
                refine lv_iconst (v := 0) hx hb dX4_isOf_176 (by decide) ?_
                exact W.zret (v := 0) hx hb hr rfl (fun t ht hW => ⟨0, rfl, hsp.symm, ht⟩) (fun _ h => nomatch h) dX4_isOf_177
              · have hsp := hsp.trans (if_pos c_13)
                refine lv_iconst (v := 1) hx hb dX4_isOf_172 (by decide) ?_
                refine lv_goto (tgt := 177) hx hb dX4_isOf_173 (by decide) ?_
                exact W.zret (v := 1) hx hb hr rfl (fun t ht hW => ⟨1, rfl, hsp.symm, ht⟩) (fun _ h => nomatch h) dX4_isOf_177
            · have hsp := hsp.trans (if_neg c_12)
              by_cases c_14 : p1 = 6
              · have hsp := hsp.trans (if_pos c_14)
                refine lv_tableIn (off := 166) (tgt := 167) hx hb dX4_isOf_1 (by rw [c_14]; decide) (by rw [c_14]; decide) (by rw [c_14]; rfl) (by decide) ?_
                refine lv_iload_n hx hb dX4_isOf_167 rfl (lv_at hl 0 rfl) ?_
                refine lv_iload_n hx hb dX4_isOf_168 rfl (lv_at hl 1 rfl) ?_
                refine lv_icmp_ne (tgt := 176) hx hb dX4_isOf_169 (by decide) (fun c_15 => ?_) (fun c_15 => ?_)
                · have hsp := hsp.trans (if_neg c_15)
                  refine lv_iconst (v := 0) hx hb dX4_isOf_176 (by decide) ?_
                  exact W.zret (v := 0) hx hb hr rfl (fun t ht hW => ⟨0, rfl, hsp.symm, ht⟩) (fun _ h => nomatch h) dX4_isOf_177
                · have hsp := hsp.trans (if_pos c_15)
                  refine lv_iconst (v := 1) hx hb dX4_isOf_172 (by decide) ?_
                  refine lv_goto (tgt := 177) hx hb dX4_isOf_173 (by decide) ?_
                  exact W.zret (v := 1) hx hb hr rfl (fun t ht hW => ⟨1, rfl, hsp.symm, ht⟩) (fun _ h => nomatch h) dX4_isOf_177
              · have hsp := hsp.trans (if_neg c_14)
                by_cases c_16 : p1 = 7
                · have hsp := hsp.trans (if_pos c_16)
                  refine lv_tableIn (off := 166) (tgt := 167) hx hb dX4_isOf_1 (by rw [c_16]; decide) (by rw [c_16]; decide) (by rw [c_16]; rfl) (by decide) ?_
                  refine lv_iload_n hx hb dX4_isOf_167 rfl (lv_at hl 0 rfl) ?_
                  refine lv_iload_n hx hb dX4_isOf_168 rfl (lv_at hl 1 rfl) ?_
                  refine lv_icmp_ne (tgt := 176) hx hb dX4_isOf_169 (by decide) (fun c_17 => ?_) (fun c_17 => ?_)
                  · have hsp := hsp.trans (if_neg c_17)
                    refine lv_iconst (v := 0) hx hb dX4_isOf_176 (by decide) ?_
                    exact W.zret (v := 0) hx hb hr rfl (fun t ht hW => ⟨0, rfl, hsp.symm, ht⟩) (fun _ h => nomatch h) dX4_isOf_177
                  · have hsp := hsp.trans (if_pos c_17)
                    refine lv_iconst (v := 1) hx hb dX4_isOf_172 (by decide) ?_
                    refine lv_goto (tgt := 177) hx hb dX4_isOf_173 (by decide) ?_
                    exact W.zret (v := 1) hx hb hr rfl (fun t ht hW => ⟨1, rfl, hsp.symm, ht⟩) (fun _ h => nomatch h) dX4_isOf_177
                · have hsp := hsp.trans (if_neg c_16)
                  by_cases c_18 : p1 = 8
                  · have hsp := hsp.trans (if_pos c_18)
                    refine lv_tableIn (off := 94) (tgt := 95) hx hb dX4_isOf_1 (by rw [c_18]; decide) (by rw [c_18]; decide) (by rw [c_18]; rfl) (by decide) ?_
                    refine lv_iload_n hx hb dX4_isOf_95 rfl (lv_at hl 0 rfl) ?_
                    refine lv_bipush (v := 8) hx hb dX4_isOf_96 (by decide) ?_
                    refine lv_icmp_eq (tgt := 107) hx hb dX4_isOf_98 (by decide) (fun c_19 => ?_) (fun c_19 => ?_)
                    · have hsp := hsp.trans (if_pos c_19)
                      refine lv_iconst (v := 1) hx hb dX4_isOf_107 (by decide) ?_
                      refine lv_goto (tgt := 112) hx hb dX4_isOf_108 (by decide) ?_
                      exact W.zret (v := 1) hx hb hr rfl (fun t ht hW => ⟨1, rfl, hsp.symm, ht⟩) (fun _ h => nomatch h) dX4_isOf_112
                    · have hsp := hsp.trans (if_neg c_19)
                      refine lv_iload_n hx hb dX4_isOf_101 rfl (lv_at hl 0 rfl) ?_
                      refine lv_bipush (v := 9) hx hb dX4_isOf_102 (by decide) ?_
                      refine lv_icmp_ne (tgt := 111) hx hb dX4_isOf_104 (by decide) (fun c_20 => ?_) (fun c_20 => ?_)
                      · have hsp := hsp.trans (if_neg c_20)
                        refine lv_iconst (v := 0) hx hb dX4_isOf_111 (by decide) ?_
                        exact W.zret (v := 0) hx hb hr rfl (fun t ht hW => ⟨0, rfl, hsp.symm, ht⟩) (fun _ h => nomatch h) dX4_isOf_112
                      · have hsp := hsp.trans (if_pos c_20)
                        refine lv_iconst (v := 1) hx hb dX4_isOf_107 (by decide) ?_
                        refine lv_goto (tgt := 112) hx hb dX4_isOf_108 (by decide) ?_
                        exact W.zret (v := 1) hx hb hr rfl (fun t ht hW => ⟨1, rfl, hsp.symm, ht⟩) (fun _ h => nomatch h) dX4_isOf_112
                  · have hsp := hsp.trans (if_neg c_18)
                    by_cases c_21 : p1 = 9
                    · have hsp := hsp.trans (if_pos c_21)
                      refine lv_tableIn (off := 166) (tgt := 167) hx hb dX4_isOf_1 (by rw [c_21]; decide) (by rw [c_21]; decide) (by rw [c_21]; rfl) (by decide) ?_
                      refine lv_iload_n hx hb dX4_isOf_167 rfl (lv_at hl 0 rfl) ?_
                      refine lv_iload_n hx hb dX4_isOf_168 rfl (lv_at hl 1 rfl) ?_
                      refine lv_icmp_ne (tgt := 176) hx hb dX4_isOf_169 (by decide) (fun c_22 => ?_) (fun c_22 => ?_)
                      · have hsp := hsp.trans (if_neg c_22)
                        refine lv_iconst (v := 0) hx hb dX4_isOf_176 (by decide) ?_
                        exact W.zret (v := 0) hx hb hr rfl (fun t ht hW => ⟨0, rfl, hsp.symm, ht⟩) (fun _ h => nomatch h) dX4_isOf_177
                      · have hsp := hsp.trans (if_pos c_22)
                        refine lv_iconst (v := 1) hx hb dX4_isOf_172 (by decide) ?_
                        refine lv_goto (tgt := 177) hx hb dX4_isOf_173 (by decide) ?_
                        exact W.zret (v := 1) hx hb hr rfl (fun t ht hW => ⟨1, rfl, hsp.symm, ht⟩) (fun _ h => nomatch h) dX4_isOf_177
                    · have hsp := hsp.trans (if_neg c_21)
                      by_cases c_23 : p1 = 10
                      · have hsp := hsp.trans (if_pos c_23)
                        refine lv_tableIn (off := 166) (tgt := 167) hx hb dX4_isOf_1 (by rw [c_23]; decide) (by rw [c_23]; decide) (by rw [c_23]; rfl) (by decide) ?_
                        refine lv_iload_n hx hb dX4_isOf_167 rfl (lv_at hl 0 rfl) ?_
                        refine lv_iload_n hx hb dX4_isOf_168 rfl (lv_at hl 1 rfl) ?_
                        refine lv_icmp_ne (tgt := 176) hx hb dX4_isOf_169 (by decide) (fun c_24 => ?_) (fun c_24 => ?_)
                        · have hsp := hsp.trans (if_neg c_24)
                          refine lv_iconst (v := 0) hx hb dX4_isOf_176 (by decide) ?_
                          exact W.zret (v := 0) hx hb hr rfl (fun t ht hW => ⟨0, rfl, hsp.symm, ht⟩) (fun _ h => nomatch h) dX4_isOf_177
                        · have hsp := hsp.trans (if_pos c_24)
                          refine lv_iconst (v := 1) hx hb dX4_isOf_172 (by decide) ?_
                          refine lv_goto (tgt := 177) hx hb dX4_isOf_173 (by decide) ?_
                          exact W.zret (v := 1) hx hb hr rfl (fun t ht hW => ⟨1, rfl, hsp.symm, ht⟩) (fun _ h => nomatch h) dX4_isOf_177
                      · have hsp := hsp.trans (if_neg c_23)
                        by_cases c_25 : p1 = 11
                        · have hsp := hsp.trans (if_pos c_25)
                          refine lv_tableIn (off := 112) (tgt := 113) hx hb dX4_isOf_1 (by rw [c_25]; decide) (by rw [c_25]; decide) (by rw [c_25]; rfl) (by decide) ?_
                          refine lv_iload_n hx hb dX4_isOf_113 rfl (lv_at hl 0 rfl) ?_
                          refine lv_bipush (v := 11) hx hb dX4_isOf_114 (by decide) ?_
                          refine lv_icmp_eq (tgt := 125) hx hb dX4_isOf_116 (by decide) (fun c_26 => ?_) (fun c_26 => ?_)
                          · have hsp := hsp.trans (if_pos c_26)
                            refine lv_iconst (v := 1) hx hb dX4_isOf_125 (by decide) ?_
                            refine lv_goto (tgt := 130) hx hb dX4_isOf_126 (by decide) ?_
                            exact W.zret (v := 1) hx hb hr rfl (fun t ht hW => ⟨1, rfl, hsp.symm, ht⟩) (fun _ h => nomatch h) dX4_isOf_130
                          · have hsp := hsp.trans (if_neg c_26)
                            refine lv_iload_n hx hb dX4_isOf_119 rfl (lv_at hl 0 rfl) ?_
                            refine lv_bipush (v := 9) hx hb dX4_isOf_120 (by decide) ?_
                            refine lv_icmp_ne (tgt := 129) hx hb dX4_isOf_122 (by decide) (fun c_27 => ?_) (fun c_27 => ?_)
                            · have hsp := hsp.trans (if_neg c_27)
                              refine lv_iconst (v := 0) hx hb dX4_isOf_129 (by decide) ?_
                              exact W.zret (v := 0) hx hb hr rfl (fun t ht hW => ⟨0, rfl, hsp.symm, ht⟩) (fun _ h => nomatch h) dX4_isOf_130
                            · have hsp := hsp.trans (if_pos c_27)
                              refine lv_iconst (v := 1) hx hb dX4_isOf_125 (by decide) ?_
                              refine lv_goto (tgt := 130) hx hb dX4_isOf_126 (by decide) ?_
                              exact W.zret (v := 1) hx hb hr rfl (fun t ht hW => ⟨1, rfl, hsp.symm, ht⟩) (fun _ h => nomatch h) dX4_isOf_130
                        · have hsp := hsp.trans (if_neg c_25)
                          by_cases c_28 : p1 = 12
                          · have hsp := hsp.trans (if_pos c_28)
                            refine lv_tableIn (off := 130) (tgt := 131) hx hb dX4_isOf_1 (by rw [c_28]; decide) (by rw [c_28]; decide) (by rw [c_28]; rfl) (by decide) ?_
                            refine lv_iload_n hx hb dX4_isOf_131 rfl (lv_at hl 0 rfl) ?_
                            refine lv_bipush (v := 12) hx hb dX4_isOf_132 (by decide) ?_
                            refine lv_icmp_eq (tgt := 143) hx hb dX4_isOf_134 (by decide) (fun c_29 => ?_) (fun c_29 => ?_)
                            · have hsp := hsp.trans (if_pos c_29)
                              refine lv_iconst (v := 1) hx hb dX4_isOf_143 (by decide) ?_
                              refine lv_goto (tgt := 148) hx hb dX4_isOf_144 (by decide) ?_
                              exact W.zret (v := 1) hx hb hr rfl (fun t ht hW => ⟨1, rfl, hsp.symm, ht⟩) (fun _ h => nomatch h) dX4_isOf_148
                            · have hsp := hsp.trans (if_neg c_29)
                              refine lv_iload_n hx hb dX4_isOf_137 rfl (lv_at hl 0 rfl) ?_
                              refine lv_bipush (v := 13) hx hb dX4_isOf_138 (by decide) ?_
                              refine lv_icmp_ne (tgt := 147) hx hb dX4_isOf_140 (by decide) (fun c_30 => ?_) (fun c_30 => ?_)
                              · have hsp := hsp.trans (if_neg c_30)
                                refine lv_iconst (v := 0) hx hb dX4_isOf_147 (by decide) ?_
                                exact W.zret (v := 0) hx hb hr rfl (fun t ht hW => ⟨0, rfl, hsp.symm, ht⟩) (fun _ h => nomatch h) dX4_isOf_148
                              · have hsp := hsp.trans (if_pos c_30)
                                refine lv_iconst (v := 1) hx hb dX4_isOf_143 (by decide) ?_
                                refine lv_goto (tgt := 148) hx hb dX4_isOf_144 (by decide) ?_
                                exact W.zret (v := 1) hx hb hr rfl (fun t ht hW => ⟨1, rfl, hsp.symm, ht⟩) (fun _ h => nomatch h) dX4_isOf_148
                          · have hsp := hsp.trans (if_neg c_28)
                            by_cases c_31 : p1 = 13
                            · have hsp := hsp.trans (if_pos c_31)
                              refine lv_tableIn (off := 166) (tgt := 167) hx hb dX4_isOf_1 (by rw [c_31]; decide) (by rw [c_31]; decide) (by rw [c_31]; rfl) (by decide) ?_
                              refine lv_iload_n hx hb dX4_isOf_167 rfl (lv_at hl 0 rfl) ?_
                              refine lv_iload_n hx hb dX4_isOf_168 rfl (lv_at hl 1 rfl) ?_
                              refine lv_icmp_ne (tgt := 176) hx hb dX4_isOf_169 (by decide) (fun c_32 => ?_) (fun c_32 => ?_)
                              · have hsp := hsp.trans (if_neg c_32)
                                refine lv_iconst (v := 0) hx hb dX4_isOf_176 (by decide) ?_
                                exact W.zret (v := 0) hx hb hr rfl (fun t ht hW => ⟨0, rfl, hsp.symm, ht⟩) (fun _ h => nomatch h) dX4_isOf_177
                              · have hsp := hsp.trans (if_pos c_32)
                                refine lv_iconst (v := 1) hx hb dX4_isOf_172 (by decide) ?_
                                refine lv_goto (tgt := 177) hx hb dX4_isOf_173 (by decide) ?_
                                exact W.zret (v := 1) hx hb hr rfl (fun t ht hW => ⟨1, rfl, hsp.symm, ht⟩) (fun _ h => nomatch h) dX4_isOf_177
                            · have hsp := hsp.trans (if_neg c_31)
                              by_cases c_33 : p1 = 14
                              · have hsp := hsp.trans (if_pos c_33)
                                refine lv_tableIn (off := 148) (tgt := 149) hx hb dX4_isOf_1 (by rw [c_33]; decide) (by rw [c_33]; decide) (by rw [c_33]; rfl) (by decide) ?_
                                refine lv_iload_n hx hb dX4_isOf_149 rfl (lv_at hl 0 rfl) ?_
                                refine lv_iconst (v := 1) hx hb dX4_isOf_150 (by decide) ?_
                                refine lv_icmp_eq (tgt := 159) hx hb dX4_isOf_151 (by decide) (fun c_34 => ?_) (fun c_34 => ?_)
                                · have hsp := hsp.trans (if_pos c_34)
                                  refine lv_iconst (v := 1) hx hb dX4_isOf_159 (by decide) ?_
                                  refine lv_goto (tgt := 164) hx hb dX4_isOf_160 (by decide) ?_
                                  exact W.zret (v := 1) hx hb hr rfl (fun t ht hW => ⟨1, rfl, hsp.symm, ht⟩) (fun _ h => nomatch h) dX4_isOf_164
                                · have hsp := hsp.trans (if_neg c_34)
                                  refine lv_iload_n hx hb dX4_isOf_154 rfl (lv_at hl 0 rfl) ?_
                                  refine lv_iconst (v := 3) hx hb dX4_isOf_155 (by decide) ?_
                                  refine lv_icmp_ne (tgt := 163) hx hb dX4_isOf_156 (by decide) (fun c_35 => ?_) (fun c_35 => ?_)
                                  · have hsp := hsp.trans (if_neg c_35)
                                    refine lv_iconst (v := 0) hx hb dX4_isOf_163 (by decide) ?_
                                    exact W.zret (v := 0) hx hb hr rfl (fun t ht hW => ⟨0, rfl, hsp.symm, ht⟩) (fun _ h => nomatch h) dX4_isOf_164
                                  · have hsp := hsp.trans (if_pos c_35)
                                    refine lv_iconst (v := 1) hx hb dX4_isOf_159 (by decide) ?_
                                    refine lv_goto (tgt := 164) hx hb dX4_isOf_160 (by decide) ?_
                                    exact W.zret (v := 1) hx hb hr rfl (fun t ht hW => ⟨1, rfl, hsp.symm, ht⟩) (fun _ h => nomatch h) dX4_isOf_164
                              · have hsp := hsp.trans (if_neg c_33)
                                by_cases c_36 : p1 = 15
                                · have hsp := hsp.trans (if_pos c_36)
                                  refine lv_tableIn (off := 164) (tgt := 165) hx hb dX4_isOf_1 (by rw [c_36]; decide) (by rw [c_36]; decide) (by rw [c_36]; rfl) (by decide) ?_
                                  refine lv_iconst (v := 1) hx hb dX4_isOf_165 (by decide) ?_
                                  exact W.zret (v := 1) hx hb hr rfl (fun t ht hW => ⟨1, rfl, hsp.symm, ht⟩) (fun _ h => nomatch h) dX4_isOf_166
                                · have hsp := hsp.trans (if_neg c_36)
                                  refine lv_tableOut (tgt := 167) hx hb dX4_isOf_1 (by have e0 := lv_neT (a := 0) c_1 (by decide); have e1 := lv_neT (a := 1) c_4 (by decide); have e2 := lv_neT (a := 2) c_6 (by decide); have e3 := lv_neT (a := 3) c_8 (by decide); have e4 := lv_neT (a := 4) c_10 (by decide); have e5 := lv_neT (a := 5) c_12 (by decide); have e6 := lv_neT (a := 6) c_14 (by decide); have e7 := lv_neT (a := 7) c_16 (by decide); have e8 := lv_neT (a := 8) c_18 (by decide); have e9 := lv_neT (a := 9) c_21 (by decide); have e10 := lv_neT (a := 10) c_23 (by decide); have e11 := lv_neT (a := 11) c_25 (by decide); have e12 := lv_neT (a := 12) c_28 (by decide); have e13 := lv_neT (a := 13) c_31 (by decide); have e14 := lv_neT (a := 14) c_33 (by decide); have e15 := lv_neT (a := 15) c_36 (by decide); omega) (by decide) ?_
                                  refine lv_iload_n hx hb dX4_isOf_167 rfl (lv_at hl 0 rfl) ?_
                                  refine lv_iload_n hx hb dX4_isOf_168 rfl (lv_at hl 1 rfl) ?_
                                  refine lv_icmp_ne (tgt := 176) hx hb dX4_isOf_169 (by decide) (fun c_37 => ?_) (fun c_37 => ?_)
                                  · have hsp := hsp.trans (if_neg c_37)
                                    refine lv_iconst (v := 0) hx hb dX4_isOf_176 (by decide) ?_
                                    exact W.zret (v := 0) hx hb hr rfl (fun t ht hW => ⟨0, rfl, hsp.symm, ht⟩) (fun _ h => nomatch h) dX4_isOf_177
                                  · have hsp := hsp.trans (if_pos c_37)
                                    refine lv_iconst (v := 1) hx hb dX4_isOf_172 (by decide) ?_
                                    refine lv_goto (tgt := 177) hx hb dX4_isOf_173 (by decide) ?_
                                    exact W.zret (v := 1) hx hb hr rfl (fun t ht hW => ⟨1, rfl, hsp.symm, ht⟩) (fun _ h => nomatch h) dX4_isOf_177
set_option maxHeartbeats 4000000 in
set_option maxRecDepth 100000 in
theorem cM_isA (l : Launch) (D : va_G) (q : Nat → Nat) (cI cL : ClassId) (u : St) (p1 : Int32) (p2 : Int32) (hok : okM_isA u p1 p2) : Met l yX4_isA wsX4_isA { frames := 1, cells := 0, slots := 0, locals := 21 } (va_Pc [.ref (q 0), .int p1, .int p2] (fun U => PM D q cI cL u U)) (vp_Si (fun r => r = sM_isA u p1 p2)) 0 0 (fun _ => False) := by
  refine Met.ofW (cc := cX4_isA) (maxL := 3) (ret := (some .boolean)) (by decide) rfl ?_
  intro p e s m args below meth c s₁ B hml hv
  obtain ⟨rfl, hP, hK⟩ := hv
  have hx := B.exec
  have hb := B.bytes
  have hr := B.returns
  have hts := atoms_spec (ws := wsX4_isA) B.pre
  have hown : s.vm.findClass RX4 = some m.cls := findClass_of_methodNamed B.named
  have hlocks := B.notSynchronized
  have hiX4 : ∀ w ∈ u_ws RX4 TX4 29, w ∈ wsX4_isA := by decide +kernel
  have hf7 := hts (.fieldLink RX4 7 "ThingRulesModel" "form" "[I") (by decide +kernel)
  have hS : va_S (AQ 22 q) s.heap s.heap [] := va_S.rf
  have hP : va_P D vwCl (wM q cI cL u) s.heap := hP
  have hl := lv_entry ([.ref (q 0), .int p1, .int p2]) (n := 3) (Nat.le_of_ble_eq_true rfl)
  rw [lg_entry_eq]
  generalize (lg_sl ([.ref (q 0), .int p1, .int p2]) ++ List.replicate (3 - (lg_sl ([.ref (q 0), .int p1, .int p2])).length) Slot.unset).toArray = ls at hl ⊢
  have hl : lv_has ls 3 [(0, .ref (q 0)), (1, .int p1), (2, .int p2)] := hl
  have hsp : sM_isA u p1 p2 = _ := sM_isA.eq_1 u p1 p2
  unfold okM_isA at hok
  refine lv_iload_n hx hb dX4_isA_0 rfl (lv_at hl 1 rfl) ?_
  refine lv_if_lt (tgt := 21) hx hb dX4_isA_1 (by decide) (fun c_1 => ?_) (fun c_1 => ?_)
  · have hsp := hsp.trans (if_pos c_1)
    refine lv_iconst (v := 0) hx hb dX4_isA_21 (by decide) ?_
    exact W.zret (v := 0) hx hb hr rfl (fun t ht hW => ⟨0, rfl, hsp.symm, ht⟩) (fun _ h => nomatch h) dX4_isA_22
  · have hsp := hsp.trans (if_neg c_1)
    have hok := hok.2 c_1
    refine lv_aload_n hx hb dX4_isA_4 rfl (lv_at hl 0 rfl) ?_
    refine va_get (D := D) (ci := 7) (v := .ref (q 1)) (C := RX4) (T := TX4) (N := 29) hx hb hts hiX4 hown hK hP 0 rfl rfl 2 (by decide) hf7 (fun _ h9 => h9) rfl dX4_isA_5 ?_
    refine lv_iload_n hx hb dX4_isA_8 rfl (lv_at hl 1 rfl) ?_
    have h_2 := hok.1
    have hok := hok.2
    refine va_iald hx hb hK hP 1 0 rfl rfl h_2 dX4_isA_9 ?_
    refine lv_iload_n hx hb dX4_isA_10 rfl (lv_at hl 2 rfl) ?_
    refine vp_callSi (W.runS (As := [.int (u.2.1 1 p1.toNatClampNeg), .int p2]) (rest := []) ⟨hx, hb, hml, hown, hts⟩ (cM_isOf l (u.2.1 1 p1.toNatClampNeg) p2) (va_cwS 2 hts gX4_isA_X4_isOf rfl rfl rfl (by decide +kernel) ⟨(Nat.le_of_ble_eq_true rfl), (Nat.le_of_ble_eq_true rfl)⟩) ⟨T_blind, fun U hU hW => ⟨rfl, trivial⟩⟩ rfl rfl hl.1 rfl (lv_room (Nat.le_of_ble_eq_true rfl)) dX4_isA_11 ⟨(Nat.le_of_ble_eq_true rfl), (Nat.le_of_ble_eq_true rfl)⟩) (fun r_3 hr_3 => ?_)
    subst hr_3
    refine lv_if_eq (tgt := 21) hx hb dX4_isA_14 (by decide) (fun c_4 => ?_) (fun c_4 => ?_)
    · have hsp := hsp.trans (if_pos c_4)
      refine lv_iconst (v := 0) hx hb dX4_isA_21 (by decide) ?_
      exact W.zret (v := 0) hx hb hr rfl (fun t ht hW => ⟨0, rfl, hsp.symm, ht⟩) (fun _ h => nomatch h) dX4_isA_22
    · have hsp := hsp.trans (if_neg c_4)
      refine lv_iconst (v := 1) hx hb dX4_isA_17 (by decide) ?_
      refine lv_goto (tgt := 22) hx hb dX4_isA_18 (by decide) ?_
      exact W.zret (v := 1) hx hb hr rfl (fun t ht hW => ⟨1, rfl, hsp.symm, ht⟩) (fun _ h => nomatch h) dX4_isA_22
set_option maxHeartbeats 4000000 in
set_option maxRecDepth 100000 in
theorem cM_passes (l : Launch) (D : va_G) (q : Nat → Nat) (cI cL : ClassId) (u : St) (p1 : Int32) (p2 : Int32) (hok : okM_passes u p1 p2) : Met l yX4_passes wsX4_passes { frames := 1, cells := 0, slots := 0, locals := 21 } (va_Pc [.ref (q 0), .int p1, .int p2] (fun U => PM D q cI cL u U)) (vp_Si (fun r => r = sM_passes u p1 p2)) 0 0 (fun _ => False) := by
  refine Met.ofW (cc := cX4_passes) (maxL := 3) (ret := (some .boolean)) (by decide) rfl ?_
  intro p e s m args below meth c s₁ B hml hv
  obtain ⟨rfl, hP, hK⟩ := hv
  have hx := B.exec
  have hb := B.bytes
  have hr := B.returns
  have hts := atoms_spec (ws := wsX4_passes) B.pre
  have hown : s.vm.findClass RX4 = some m.cls := findClass_of_methodNamed B.named
  have hlocks := B.notSynchronized
  have hiX4 : ∀ w ∈ u_ws RX4 TX4 29, w ∈ wsX4_passes := by decide +kernel
  have hf7 := hts (.fieldLink RX4 7 "ThingRulesModel" "form" "[I") (by decide +kernel)
  have hS : va_S (AQ 22 q) s.heap s.heap [] := va_S.rf
  have hP : va_P D vwCl (wM q cI cL u) s.heap := hP
  have hl := lv_entry ([.ref (q 0), .int p1, .int p2]) (n := 3) (Nat.le_of_ble_eq_true rfl)
  rw [lg_entry_eq]
  generalize (lg_sl ([.ref (q 0), .int p1, .int p2]) ++ List.replicate (3 - (lg_sl ([.ref (q 0), .int p1, .int p2])).length) Slot.unset).toArray = ls at hl ⊢
  have hl : lv_has ls 3 [(0, .ref (q 0)), (1, .int p1), (2, .int p2)] := hl
  have hsp : sM_passes u p1 p2 = _ := sM_passes.eq_1 u p1 p2
  unfold okM_passes at hok
  refine lv_iload_n hx hb dX4_passes_0 rfl (lv_at hl 1 rfl) ?_
  refine lv_if_lt (tgt := 17) hx hb dX4_passes_1 (by decide) (fun c_1 => ?_) (fun c_1 => ?_)
  · have hsp := hsp.trans (if_pos c_1)
    refine lv_iconst (v := 1) hx hb dX4_passes_17 (by decide) ?_
    refine lv_goto (tgt := 22) hx hb dX4_passes_18 (by decide) ?_
    exact W.zret (v := 1) hx hb hr rfl (fun t ht hW => ⟨1, rfl, hsp.symm, ht⟩) (fun _ h => nomatch h) dX4_passes_22
  · have hsp := hsp.trans (if_neg c_1)
    have hok := hok.2 c_1
    refine lv_aload_n hx hb dX4_passes_4 rfl (lv_at hl 0 rfl) ?_
    refine va_get (D := D) (ci := 7) (v := .ref (q 1)) (C := RX4) (T := TX4) (N := 29) hx hb hts hiX4 hown hK hP 0 rfl rfl 2 (by decide) hf7 (fun _ h9 => h9) rfl dX4_passes_5 ?_
    refine lv_iload_n hx hb dX4_passes_8 rfl (lv_at hl 1 rfl) ?_
    have h_2 := hok.1
    have hok := hok.2
    refine va_iald hx hb hK hP 1 0 rfl rfl h_2 dX4_passes_9 ?_
    refine lv_iload_n hx hb dX4_passes_10 rfl (lv_at hl 2 rfl) ?_
    refine vp_callSi (W.runS (As := [.int (u.2.1 1 p1.toNatClampNeg), .int p2]) (rest := []) ⟨hx, hb, hml, hown, hts⟩ (cM_isOf l (u.2.1 1 p1.toNatClampNeg) p2) (va_cwS 2 hts gX4_passes_X4_isOf rfl rfl rfl (by decide +kernel) ⟨(Nat.le_of_ble_eq_true rfl), (Nat.le_of_ble_eq_true rfl)⟩) ⟨T_blind, fun U hU hW => ⟨rfl, trivial⟩⟩ rfl rfl hl.1 rfl (lv_room (Nat.le_of_ble_eq_true rfl)) dX4_passes_11 ⟨(Nat.le_of_ble_eq_true rfl), (Nat.le_of_ble_eq_true rfl)⟩) (fun r_3 hr_3 => ?_)
    subst hr_3
    refine lv_if_eq (tgt := 21) hx hb dX4_passes_14 (by decide) (fun c_4 => ?_) (fun c_4 => ?_)
    · have hsp := hsp.trans (if_pos c_4)
      refine lv_iconst (v := 0) hx hb dX4_passes_21 (by decide) ?_
      exact W.zret (v := 0) hx hb hr rfl (fun t ht hW => ⟨0, rfl, hsp.symm, ht⟩) (fun _ h => nomatch h) dX4_passes_22
    · have hsp := hsp.trans (if_neg c_4)
      refine lv_iconst (v := 1) hx hb dX4_passes_17 (by decide) ?_
      refine lv_goto (tgt := 22) hx hb dX4_passes_18 (by decide) ?_
      exact W.zret (v := 1) hx hb hr rfl (fun t ht hW => ⟨1, rfl, hsp.symm, ht⟩) (fun _ h => nomatch h) dX4_passes_22
set_option maxHeartbeats 4000000 in
set_option maxRecDepth 100000 in
theorem cM_of (l : Launch) (p0 : Int32) : Met l yX4_of wsX4_of { frames := 0, cells := 0, slots := 0, locals := 0 } (va_Pc [.int p0] (fun _ => True)) (vp_Si (fun r => r = sM_of p0)) 0 0 (fun _ => False) := by
  refine Met.ofW (cc := cX4_of) (maxL := 1) (ret := (some .int)) (by decide) rfl ?_
  intro p e s m args below meth c s₁ B hml hv
  obtain ⟨rfl, -⟩ := hv
  have hx := B.exec
  have hb := B.bytes
  have hr := B.returns
  have hts := atoms_spec (ws := wsX4_of) B.pre
  have hown : s.vm.findClass RX4 = some m.cls := findClass_of_methodNamed B.named
  have hlocks := B.notSynchronized
  have hl := lv_entry ([.int p0]) (n := 1) (Nat.le_of_ble_eq_true rfl)
  rw [lg_entry_eq]
  generalize (lg_sl ([.int p0]) ++ List.replicate (1 - (lg_sl ([.int p0])).length) Slot.unset).toArray = ls at hl ⊢
  have hl : lv_has ls 1 [(0, .int p0)] := hl
  have hsp : sM_of p0 = _ := sM_of.eq_1 p0
  refine lv_iload_n hx hb dX4_of_0 rfl (lv_at hl 0 rfl) ?_
  refine lv_bipush (v := 7) hx hb dX4_of_1 (by decide) ?_
  refine lv_icmp_ne (tgt := 10) hx hb dX4_of_3 (by decide) (fun c_1 => ?_) (fun c_1 => ?_)
  · have hsp := hsp.trans (if_neg c_1)
    refine lv_iload_n hx hb dX4_of_10 rfl (lv_at hl 0 rfl) ?_
    refine lv_bipush (v := 8) hx hb dX4_of_11 (by decide) ?_
    refine lv_icmp_ne (tgt := 20) hx hb dX4_of_13 (by decide) (fun c_2 => ?_) (fun c_2 => ?_)
    · have hsp := hsp.trans (if_neg c_2)
      refine lv_iload_n hx hb dX4_of_20 rfl (lv_at hl 0 rfl) ?_
      refine lv_bipush (v := 9) hx hb dX4_of_21 (by decide) ?_
      refine lv_icmp_ne (tgt := 30) hx hb dX4_of_23 (by decide) (fun c_3 => ?_) (fun c_3 => ?_)
      · have hsp := hsp.trans (if_neg c_3)
        refine lv_iload_n hx hb dX4_of_30 rfl (lv_at hl 0 rfl) ?_
        refine lv_bipush (v := 10) hx hb dX4_of_31 (by decide) ?_
        refine lv_icmp_ne (tgt := 40) hx hb dX4_of_33 (by decide) (fun c_4 => ?_) (fun c_4 => ?_)
        · have hsp := hsp.trans (if_neg c_4)
          refine lv_iload_n hx hb dX4_of_40 rfl (lv_at hl 0 rfl) ?_
          refine lv_bipush (v := 11) hx hb dX4_of_41 (by decide) ?_
          refine lv_icmp_ne (tgt := 51) hx hb dX4_of_43 (by decide) (fun c_5 => ?_) (fun c_5 => ?_)
          · have hsp := hsp.trans (if_neg c_5)
            refine lv_iload_n hx hb dX4_of_51 rfl (lv_at hl 0 rfl) ?_
            refine lv_bipush (v := 12) hx hb dX4_of_52 (by decide) ?_
            refine lv_icmp_ne (tgt := 62) hx hb dX4_of_54 (by decide) (fun c_6 => ?_) (fun c_6 => ?_)
            · have hsp := hsp.trans (if_neg c_6)
              refine lv_bipush (v := 9) hx hb dX4_of_62 (by decide) ?_
              exact W.iret (v := 9) hx hb hr (fun t ht hW => ⟨9, rfl, hsp.symm, ht⟩) (fun _ h => nomatch h) dX4_of_64
            · have hsp := hsp.trans (if_pos c_6)
              refine lv_bipush (v := 8) hx hb dX4_of_57 (by decide) ?_
              refine lv_goto (tgt := 64) hx hb dX4_of_59 (by decide) ?_
              exact W.iret (v := 8) hx hb hr (fun t ht hW => ⟨8, rfl, hsp.symm, ht⟩) (fun _ h => nomatch h) dX4_of_64
          · have hsp := hsp.trans (if_pos c_5)
            refine lv_bipush (v := 14) hx hb dX4_of_46 (by decide) ?_
            refine lv_goto (tgt := 64) hx hb dX4_of_48 (by decide) ?_
            exact W.iret (v := 14) hx hb hr (fun t ht hW => ⟨14, rfl, hsp.symm, ht⟩) (fun _ h => nomatch h) dX4_of_64
        · have hsp := hsp.trans (if_pos c_4)
          refine lv_iconst (v := 2) hx hb dX4_of_36 (by decide) ?_
          refine lv_goto (tgt := 64) hx hb dX4_of_37 (by decide) ?_
          exact W.iret (v := 2) hx hb hr (fun t ht hW => ⟨2, rfl, hsp.symm, ht⟩) (fun _ h => nomatch h) dX4_of_64
      · have hsp := hsp.trans (if_pos c_3)
        refine lv_iconst (v := 1) hx hb dX4_of_26 (by decide) ?_
        refine lv_goto (tgt := 64) hx hb dX4_of_27 (by decide) ?_
        exact W.iret (v := 1) hx hb hr (fun t ht hW => ⟨1, rfl, hsp.symm, ht⟩) (fun _ h => nomatch h) dX4_of_64
    · have hsp := hsp.trans (if_pos c_2)
      refine lv_iconst (v := 0) hx hb dX4_of_16 (by decide) ?_
      refine lv_goto (tgt := 64) hx hb dX4_of_17 (by decide) ?_
      exact W.iret (v := 0) hx hb hr (fun t ht hW => ⟨0, rfl, hsp.symm, ht⟩) (fun _ h => nomatch h) dX4_of_64
  · have hsp := hsp.trans (if_pos c_1)
    refine lv_iconst (v := 4) hx hb dX4_of_6 (by decide) ?_
    refine lv_goto (tgt := 64) hx hb dX4_of_7 (by decide) ?_
    exact W.iret (v := 4) hx hb hr (fun t ht hW => ⟨4, rfl, hsp.symm, ht⟩) (fun _ h => nomatch h) dX4_of_64
set_option maxHeartbeats 4000000 in
set_option maxRecDepth 100000 in
theorem cM_make (l : Launch) (D : va_G) (q : Nat → Nat) (cI cL : ClassId) (hq : DQ 22 q) (u : St) (p1 : Int32) (p2 : Int32) (p3 : Int32) (hok : okM_make u p1 p2 p3) : Met l yX4_make wsX4_make { frames := 0, cells := 0, slots := 0, locals := 0 } (va_Pc [.ref (q 0), .int p1, .int p2, .int p3] (fun U => PM D q cI cL u U)) (va_Qi (fun (r : Int32) (u' : St) => (r, u') = sM_make u p1 p2 p3) (fun u' t => PM D q cI cL u' t) (AQ 22 q)) 0 0 (AQ 22 q) := by
  refine Met.ofW (cc := cX4_make) (maxL := 5) (ret := (some .int)) (by decide) rfl ?_
  intro p e s m args below meth c s₁ B hml hv
  obtain ⟨rfl, hP, hK⟩ := hv
  have hx := B.exec
  have hb := B.bytes
  have hr := B.returns
  have hts := atoms_spec (ws := wsX4_make) B.pre
  have hown : s.vm.findClass RX4 = some m.cls := findClass_of_methodNamed B.named
  have hlocks := B.notSynchronized
  have hiX4 : ∀ w ∈ u_ws RX4 TX4 29, w ∈ wsX4_make := by decide +kernel
  have hf78 := hts (.fieldLink RX4 78 "ThingRulesModel" "things" "I") (by decide +kernel)
  have hf19 := hts (.fieldLink RX4 19 "ThingRulesModel" "number" "[J") (by decide +kernel)
  have hf23 := hts (.fieldLink RX4 23 "ThingRulesModel" "piece" "[I") (by decide +kernel)
  have hf7 := hts (.fieldLink RX4 7 "ThingRulesModel" "form" "[I") (by decide +kernel)
  have hf13 := hts (.fieldLink RX4 13 "ThingRulesModel" "told" "[I") (by decide +kernel)
  have hf16 := hts (.fieldLink RX4 16 "ThingRulesModel" "size" "[I") (by decide +kernel)
  have hS : va_S (AQ 22 q) s.heap s.heap [] := va_S.rf
  have hP : va_P D vwCl (wM q cI cL u) s.heap := hP
  have hl := lv_entry ([.ref (q 0), .int p1, .int p2, .int p3]) (n := 5) (Nat.le_of_ble_eq_true rfl)
  rw [lg_entry_eq]
  generalize (lg_sl ([.ref (q 0), .int p1, .int p2, .int p3]) ++ List.replicate (5 - (lg_sl ([.ref (q 0), .int p1, .int p2, .int p3])).length) Slot.unset).toArray = ls at hl ⊢
  have hl : lv_has ls 5 [(0, .ref (q 0)), (1, .int p1), (2, .int p2), (3, .int p3)] := hl
  have loop_39 : ∀ (n : Nat) (u' : St) (x4 : Int32) (H : Heap) (locs : List Loc) (ls : Array Slot), oklM_make_39 n u' p1 p2 p3 x4 → sM_make u p1 p2 p3 = lM_make_39 n u' p1 p2 p3 x4 → va_P D vwCl (wM q cI cL u') H → va_S (AQ 22 q) s.heap H locs → lv_has ls 5 [(0, .ref (q 0)), (1, .int p1), (2, .int p2), (3, .int p3), (4, .int x4)] → W p l e (headSpec wsX4_make { frames := 0, cells := 0, slots := 0, locals := 0 }).room s m ([.ref (q 0), .int p1, .int p2, .int p3] : List Value).toArray below meth c H locs 0 0 (MQ below (va_Qi (fun (r : Int32) (u' : St) => (r, u') = sM_make u p1 p2 p3) (fun u' t => PM D q cI cL u' t) (AQ 22 q)) ([.ref (q 0), .int p1, .int p2, .int p3] : List Value).toArray s 0 0 (AQ 22 q)) (F0 m 39 ls []) := by
    intro n
    induction n with
    | zero => intro u' x4 H locs ls hok; exact False.elim hok
    | succ n ih =>
      intro u' x4 H locs ls hok hsp hP hS hl
      replace hsp := hsp.trans (lM_make_39_s n u' p1 p2 p3 x4)
      replace hok := (oklM_make_39_s n u' p1 p2 p3 x4).mp hok
      refine lv_iload hx hb dX4_make_39 (lv_at hl 4 rfl) ?_
      refine lv_bipush (v := 6) hx hb dX4_make_41 (by decide) ?_
      refine lv_aload_n hx hb dX4_make_43 rfl (lv_at hl 0 rfl) ?_
      refine va_get (D := D) (ci := 7) (v := .int (u'.1 1)) (C := RX4) (T := TX4) (N := 29) hx hb hts hiX4 hown hK hP 0 rfl rfl 1 (by decide) hf78 (fun _ h9 => h9) rfl dX4_make_44 ?_
      refine lv_imul hx hb dX4_make_47 ?_
      refine lv_bipush (v := 6) hx hb dX4_make_48 (by decide) ?_
      refine lv_iadd hx hb dX4_make_50 ?_
      refine lv_icmp_ge (tgt := 77) hx hb dX4_make_51 (by decide) (fun c_1 => ?_) (fun c_1 => ?_)
      · have hsp := hsp.trans (if_pos c_1)
        refine lv_aload_n hx hb dX4_make_77 rfl (lv_at hl 0 rfl) ?_
        refine lv_dup hx hb dX4_make_78 rfl ?_
        refine va_get (D := D) (ci := 7) (v := .int (u'.1 1)) (C := RX4) (T := TX4) (N := 29) hx hb hts hiX4 hown hK hP 0 rfl rfl 1 (by decide) hf78 (fun _ h9 => h9) rfl dX4_make_79 ?_
        refine lv_iconst (v := 1) hx hb dX4_make_82 (by decide) ?_
        refine lv_iadd hx hb dX4_make_83 ?_
        refine va_put (D := D) (ci := 7) (v := .int ((u'.1 1) + 1)) (ty := .int) (C := RX4) (T := TX4) (N := 29) hx hb hts hiX4 tyX4 tyX4_ok nmX4 hown hK hP (dM hq) hS 0 rfl rfl 1 (by decide) hf78 (fun _ h9 => h9) rfl (by decide +kernel) rfl rfl (Nat.le_of_ble_eq_true rfl) dX4_make_84 (fun H locs hP _ hS => ?_)
        obtain ⟨u5, hu5⟩ : ∃ z : St, z = (stI u' 1 ((u'.1 1) + 1)) := ⟨_, rfl⟩
        have hP : va_P D vwCl (wM q cI cL u5) H := by rw [hu5]; exact hP
        have hsp := hsp.trans (bnd_eq hu5)
        refine lv_aload_n hx hb dX4_make_87 rfl (lv_at hl 0 rfl) ?_
        refine va_get (D := D) (ci := 7) (v := .int (u5.1 1)) (C := RX4) (T := TX4) (N := 29) hx hb hts hiX4 hown hK hP 0 rfl rfl 1 (by decide) hf78 (fun _ h9 => h9) rfl dX4_make_88 ?_
        refine lv_iconst (v := 1) hx hb dX4_make_91 (by decide) ?_
        refine lv_isub hx hb dX4_make_92 ?_
        exact W.iret (v := ((u5.1 1) - 1)) hx hb hr (fun t ht hW => ⟨⟨((u5.1 1) - 1), u5, rfl, hsp.symm, PM_fin hP hK ht hW⟩, hS.F ht⟩) hS.2.2 dX4_make_93
      · have hsp := hsp.trans (if_neg c_1)
        have hok := hok.2 c_1
        refine lv_aload_n hx hb dX4_make_54 rfl (lv_at hl 0 rfl) ?_
        refine va_get (D := D) (ci := 7) (v := .ref (q 4)) (C := RX4) (T := TX4) (N := 29) hx hb hts hiX4 hown hK hP 0 rfl rfl 5 (by decide) hf19 (fun _ h9 => h9) rfl dX4_make_55 ?_
        refine lv_iload hx hb dX4_make_58 (lv_at hl 4 rfl) ?_
        refine lv_lconst (v := 0) hx hb dX4_make_60 (by decide) ?_
        have h_2 := hok.1
        have hok := hok.2
        refine va_last hx hb hK hP (dM hq) hS 4 1 rfl rfl h_2 dX4_make_61 (fun H locs hP _ hS => ?_)
        obtain ⟨u6, hu6⟩ : ∃ z : St, z = (stL u' x4.toNatClampNeg 0) := ⟨_, rfl⟩
        have hP : va_P D vwCl (wM q cI cL u6) H := by rw [hu6]; exact hP
        have hsp := hsp.trans (bnd_eq hu6)
        have hok := bnd_ok hu6 hok
        refine lv_aload_n hx hb dX4_make_62 rfl (lv_at hl 0 rfl) ?_
        refine va_get (D := D) (ci := 7) (v := .ref (q 5)) (C := RX4) (T := TX4) (N := 29) hx hb hts hiX4 hown hK hP 0 rfl rfl 6 (by decide) hf23 (fun _ h9 => h9) rfl dX4_make_63 ?_
        refine lv_iload hx hb dX4_make_66 (lv_at hl 4 rfl) ?_
        refine lv_bipush (v := (-5)) hx hb dX4_make_68 (by decide) ?_
        have h_3 := hok.1
        have hok := hok.2
        refine va_iast hx hb hK hP (dM hq) hS 5 0 rfl rfl h_3 dX4_make_70 (fun H locs hP _ hS => ?_)
        obtain ⟨u7, hu7⟩ : ∃ z : St, z = (stA u6 5 x4.toNatClampNeg (-5)) := ⟨_, rfl⟩
        have hP : va_P D vwCl (wM q cI cL u7) H := by rw [hu7]; exact hP
        have hsp := hsp.trans (bnd_eq hu7)
        have hok := bnd_ok hu7 hok
        refine lv_iinc (v := (x4 + 1)) (lv' := [(4, .int (x4 + 1)), (0, .ref (q 0)), (1, .int p1), (2, .int p2), (3, .int p3)]) hx hb dX4_make_71 hl (k := 4) rfl rfl (by decide) rfl (fun ls hl => ?_)
        refine lv_goto (tgt := 39) hx hb dX4_make_74 (by decide) ?_
        exact ih u7 (x4 + 1) _ _ _ hok hsp hP hS (lv_sub hl [1, 2, 3, 4, 0] rfl)
  have hsp : sM_make u p1 p2 p3 = _ := sM_make.eq_1 u p1 p2 p3
  unfold okM_make at hok
  refine lv_aload_n hx hb dX4_make_0 rfl (lv_at hl 0 rfl) ?_
  refine va_get (D := D) (ci := 7) (v := .ref (q 1)) (C := RX4) (T := TX4) (N := 29) hx hb hts hiX4 hown hK hP 0 rfl rfl 2 (by decide) hf7 (fun _ h9 => h9) rfl dX4_make_1 ?_
  refine lv_aload_n hx hb dX4_make_4 rfl (lv_at hl 0 rfl) ?_
  refine va_get (D := D) (ci := 7) (v := .int (u.1 1)) (C := RX4) (T := TX4) (N := 29) hx hb hts hiX4 hown hK hP 0 rfl rfl 1 (by decide) hf78 (fun _ h9 => h9) rfl dX4_make_5 ?_
  refine lv_iload_n hx hb dX4_make_8 rfl (lv_at hl 1 rfl) ?_
  have h_4 := hok.1
  have hok := hok.2
  refine va_iast hx hb hK hP (dM hq) hS 1 0 rfl rfl h_4 dX4_make_9 (fun H locs hP _ hS => ?_)
  obtain ⟨u1, hu1⟩ : ∃ z : St, z = (stA u 1 (u.1 1).toNatClampNeg p1) := ⟨_, rfl⟩
  have hP : va_P D vwCl (wM q cI cL u1) H := by rw [hu1]; exact hP
  have hsp := hsp.trans (bnd_eq hu1)
  have hok := bnd_ok hu1 hok
  refine lv_aload_n hx hb dX4_make_10 rfl (lv_at hl 0 rfl) ?_
  refine va_get (D := D) (ci := 7) (v := .ref (q 2)) (C := RX4) (T := TX4) (N := 29) hx hb hts hiX4 hown hK hP 0 rfl rfl 3 (by decide) hf13 (fun _ h9 => h9) rfl dX4_make_11 ?_
  refine lv_aload_n hx hb dX4_make_14 rfl (lv_at hl 0 rfl) ?_
  refine va_get (D := D) (ci := 7) (v := .int (u1.1 1)) (C := RX4) (T := TX4) (N := 29) hx hb hts hiX4 hown hK hP 0 rfl rfl 1 (by decide) hf78 (fun _ h9 => h9) rfl dX4_make_15 ?_
  refine lv_iload_n hx hb dX4_make_18 rfl (lv_at hl 2 rfl) ?_
  have h_5 := hok.1
  have hok := hok.2
  refine va_iast hx hb hK hP (dM hq) hS 2 0 rfl rfl h_5 dX4_make_19 (fun H locs hP _ hS => ?_)
  obtain ⟨u2, hu2⟩ : ∃ z : St, z = (stA u1 2 (u1.1 1).toNatClampNeg p2) := ⟨_, rfl⟩
  have hP : va_P D vwCl (wM q cI cL u2) H := by rw [hu2]; exact hP
  have hsp := hsp.trans (bnd_eq hu2)
  have hok := bnd_ok hu2 hok
  refine lv_aload_n hx hb dX4_make_20 rfl (lv_at hl 0 rfl) ?_
  refine va_get (D := D) (ci := 7) (v := .ref (q 3)) (C := RX4) (T := TX4) (N := 29) hx hb hts hiX4 hown hK hP 0 rfl rfl 4 (by decide) hf16 (fun _ h9 => h9) rfl dX4_make_21 ?_
  refine lv_aload_n hx hb dX4_make_24 rfl (lv_at hl 0 rfl) ?_
  refine va_get (D := D) (ci := 7) (v := .int (u2.1 1)) (C := RX4) (T := TX4) (N := 29) hx hb hts hiX4 hown hK hP 0 rfl rfl 1 (by decide) hf78 (fun _ h9 => h9) rfl dX4_make_25 ?_
  refine lv_iload_n hx hb dX4_make_28 rfl (lv_at hl 3 rfl) ?_
  have h_6 := hok.1
  have hok := hok.2
  refine va_iast hx hb hK hP (dM hq) hS 3 0 rfl rfl h_6 dX4_make_29 (fun H locs hP _ hS => ?_)
  obtain ⟨u3, hu3⟩ : ∃ z : St, z = (stA u2 3 (u2.1 1).toNatClampNeg p3) := ⟨_, rfl⟩
  have hP : va_P D vwCl (wM q cI cL u3) H := by rw [hu3]; exact hP
  have hsp := hsp.trans (bnd_eq hu3)
  have hok := bnd_ok hu3 hok
  refine lv_bipush (v := 6) hx hb dX4_make_30 (by decide) ?_
  refine lv_aload_n hx hb dX4_make_32 rfl (lv_at hl 0 rfl) ?_
  refine va_get (D := D) (ci := 7) (v := .int (u3.1 1)) (C := RX4) (T := TX4) (N := 29) hx hb hts hiX4 hown hK hP 0 rfl rfl 1 (by decide) hf78 (fun _ h9 => h9) rfl dX4_make_33 ?_
  refine lv_imul hx hb dX4_make_36 ?_
  refine lv_topi (fun y4 hy4 => ?_)
  have hsp := hsp.trans (bnd_eq hy4)
  have hok := bnd_ok hy4 hok
  refine lv_istore (lv' := [(4, .int y4), (0, .ref (q 0)), (1, .int p1), (2, .int p2), (3, .int p3)]) hx hb dX4_make_37 hl (by decide) rfl (fun ls hl => ?_)
  exact loop_39 100 u3 y4 _ _ _ hok hsp hP hS (lv_sub hl [1, 2, 3, 4, 0] rfl)
