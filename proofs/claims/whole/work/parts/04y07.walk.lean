set_option maxHeartbeats 4000000 in
set_option maxRecDepth 100000 in
theorem cM_match (l : Launch) (D : va_G) (q : Nat → Nat) (cI cL : ClassId) (hq : DQ 22 q) (u : St) (p1 : Int32) (p2 : Int32) (hok : okM_match u p1 p2) : Met l yX4_match wsX4_match { frames := 5, cells := 0, slots := 0, locals := 116 } (va_Pc [.ref (q 0), .int p1, .int p2] (fun U => PM D q cI cL u U)) (va_Qi (fun (r : Int32) (u' : St) => (r, u') = sM_match u p1 p2) (fun u' t => PM D q cI cL u' t) (AQ 22 q)) 0 0 (AQ 22 q) := by
  refine Met.ofW (cc := cX4_match) (maxL := 3) (ret := (some .int)) (by decide) rfl ?_
  intro p e s m args below meth c s₁ B hml hv
  obtain ⟨rfl, hP, hK⟩ := hv
  have hx := B.exec
  have hb := B.bytes
  have hr := B.returns
  have hts := atoms_spec (ws := wsX4_match) B.pre
  have hown : s.vm.findClass RX4 = some m.cls := findClass_of_methodNamed B.named
  have hlocks := B.notSynchronized
  have hiX4 : ∀ w ∈ u_ws RX4 TX4 29, w ∈ wsX4_match := by decide +kernel
  have hf74 := hts (.fieldLink RX4 74 "ThingRulesModel" "thrown" "I") (by decide +kernel)
  have hS : va_S (AQ 22 q) s.heap s.heap [] := va_S.rf
  have hP : va_P D vwCl (wM q cI cL u) s.heap := hP
  have hl := lv_entry ([.ref (q 0), .int p1, .int p2]) (n := 3) (Nat.le_of_ble_eq_true rfl)
  rw [lg_entry_eq]
  generalize (lg_sl ([.ref (q 0), .int p1, .int p2]) ++ List.replicate (3 - (lg_sl ([.ref (q 0), .int p1, .int p2])).length) Slot.unset).toArray = ls at hl ⊢
  have hl : lv_has ls 3 [(0, .ref (q 0)), (1, .int p1), (2, .int p2)] := hl
  have hsp : sM_match u p1 p2 = _ := sM_match.eq_1 u p1 p2
  unfold okM_match at hok
  refine lv_aload_n hx hb dX4_match_0 rfl (lv_at hl 0 rfl) ?_
  refine lv_iconst (v := 0) hx hb dX4_match_1 (by decide) ?_
  refine va_put (D := D) (ci := 7) (v := .int 0) (ty := .int) (C := RX4) (T := TX4) (N := 29) hx hb hts hiX4 tyX4 tyX4_ok nmX4 hown hK hP (dM hq) hS 0 rfl rfl 0 (by decide) hf74 (fun _ h9 => h9) rfl (by decide +kernel) rfl rfl (Nat.le_of_ble_eq_true rfl) dX4_match_2 (fun H locs hP _ hS => ?_)
  obtain ⟨u1, hu1⟩ : ∃ z : St, z = (stI u 0 0) := ⟨_, rfl⟩
  have hP : va_P D vwCl (wM q cI cL u1) H := by rw [hu1]; exact hP
  have hsp := hsp.trans (bnd_eq hu1)
  have hok := bnd_ok hu1 hok
  refine lv_aload_n hx hb dX4_match_5 rfl (lv_at hl 0 rfl) ?_
  refine lv_iload_n hx hb dX4_match_6 rfl (lv_at hl 1 rfl) ?_
  refine vp_callSi (W.runV (As := [.int p1]) (rest := []) ⟨hx, hb, hml, hown, hts⟩ (cM_isPattern l D q cI cL u1 p1) (cwV 1 hts gX4_match_X4_isPattern rfl rfl rfl (by decide +kernel) ⟨(Nat.le_of_ble_eq_true rfl), (Nat.le_of_ble_eq_true rfl)⟩) ⟨PM_blind, va_recv hK hP (ci := 7) (q0 := 0) rfl rfl, fun U hU hW => ⟨rfl, PM_fin hP hK hU hW⟩⟩ rfl rfl hl.1 rfl (lv_room (Nat.le_of_ble_eq_true rfl)) dX4_match_7 ⟨(Nat.le_of_ble_eq_true rfl), (Nat.le_of_ble_eq_true rfl)⟩) (fun r_1 hr_1 => ?_)
  subst hr_1
  refine lv_if_eq (tgt := 21) hx hb dX4_match_10 (by decide) (fun c_2 => ?_) (fun c_2 => ?_)
  · have hsp := hsp.trans (if_pos c_2)
    refine lv_iconst (v := (-1)) hx hb dX4_match_21 (by decide) ?_
    exact W.iret (v := (-1)) hx hb hr (fun t ht hW => ⟨⟨(-1), u1, rfl, hsp.symm, PM_fin hP hK ht hW⟩, hS.F ht⟩) hS.2.2 dX4_match_22
  · have hsp := hsp.trans (if_neg c_2)
    have hok := hok.2 c_2
    refine lv_aload_n hx hb dX4_match_13 rfl (lv_at hl 0 rfl) ?_
    refine lv_iload_n hx hb dX4_match_14 rfl (lv_at hl 2 rfl) ?_
    refine vp_callSi (W.runV (As := [.int p2]) (rest := []) ⟨hx, hb, hml, hown, hts⟩ (cM_isThingOrNone l D q cI cL u1 p2) (cwV 1 hts gX4_match_X4_isThingOrNone rfl rfl rfl (by decide +kernel) ⟨(Nat.le_of_ble_eq_true rfl), (Nat.le_of_ble_eq_true rfl)⟩) ⟨PM_blind, va_recv hK hP (ci := 7) (q0 := 0) rfl rfl, fun U hU hW => ⟨rfl, PM_fin hP hK hU hW⟩⟩ rfl rfl hl.1 rfl (lv_room (Nat.le_of_ble_eq_true rfl)) dX4_match_15 ⟨(Nat.le_of_ble_eq_true rfl), (Nat.le_of_ble_eq_true rfl)⟩) (fun r_3 hr_3 => ?_)
    subst hr_3
    refine lv_if_ne (tgt := 23) hx hb dX4_match_18 (by decide) (fun c_4 => ?_) (fun c_4 => ?_)
    · have hsp := hsp.trans (if_neg c_4)
      have hok := hok.2 c_4
      refine lv_aload_n hx hb dX4_match_23 rfl (lv_at hl 0 rfl) ?_
      refine lv_iload_n hx hb dX4_match_24 rfl (lv_at hl 1 rfl) ?_
      refine lv_iload_n hx hb dX4_match_25 rfl (lv_at hl 2 rfl) ?_
      have h_5 := hok.1
      have hok := hok.2
      refine va_calli (va_runV (As := [.int p1, .int p2]) (rest := []) ⟨hx, hb, hml, hown, hts⟩ (cM_matches l D q cI cL hq u1 p1 p2 h_5) (cwV 2 hts gX4_match_X4_matches rfl rfl rfl (by decide +kernel) ⟨(Nat.le_of_ble_eq_true rfl), (Nat.le_of_ble_eq_true rfl)⟩) ⟨PM_blind, va_recv hK hP (ci := 7) (q0 := 0) rfl rfl, fun U hU hW => ⟨rfl, PM_fin hP hK hU hW⟩⟩ rfl rfl hl.1 rfl (lv_room (Nat.le_of_ble_eq_true rfl)) dX4_match_26 ⟨(Nat.le_of_ble_eq_true rfl), (Nat.le_of_ble_eq_true rfl)⟩) hS (fun q _ h => h) (fun q h => h) (fun r2 u2 t H1 locs ht hvm hu2 hB hz1 hk1 hS => ?_)
      have hP := hB.1
      rw [ht] at hP
      clear hB hk1 hz1 hvm ht
      generalize H1 = H at hP hS ⊢
      refine W.widen (k := 0) (n := 0) (Nat.le_refl 0) (Nat.le_refl 0) ?_
      exact W.iret (v := r2) hx hb hr (fun t ht hW => ⟨⟨r2, u2, rfl, (hu2.trans hsp.symm), PM_fin hP hK ht hW⟩, hS.F ht⟩) hS.2.2 dX4_match_29
    · have hsp := hsp.trans (if_pos c_4)
      refine lv_iconst (v := (-1)) hx hb dX4_match_21 (by decide) ?_
      exact W.iret (v := (-1)) hx hb hr (fun t ht hW => ⟨⟨(-1), u1, rfl, hsp.symm, PM_fin hP hK ht hW⟩, hS.F ht⟩) hS.2.2 dX4_match_22
set_option maxHeartbeats 4000000 in
set_option maxRecDepth 100000 in
theorem cM_slot (l : Launch) (D : va_G) (q : Nat → Nat) (cI cL : ClassId) (hq : DQ 22 q) (u : St) (p1 : Int32) (hok : okM_slot u p1) : Met l yX4_slot wsX4_slot { frames := 1, cells := 0, slots := 0, locals := 22 } (va_Pc [.ref (q 0), .int p1] (fun U => PM D q cI cL u U)) (va_Qi (fun (r : Int32) (u' : St) => (r, u') = sM_slot u p1) (fun u' t => PM D q cI cL u' t) (AQ 22 q)) 0 0 (AQ 22 q) := by
  refine Met.ofW (cc := cX4_slot) (maxL := 2) (ret := (some .int)) (by decide) rfl ?_
  intro p e s m args below meth c s₁ B hml hv
  obtain ⟨rfl, hP, hK⟩ := hv
  have hx := B.exec
  have hb := B.bytes
  have hr := B.returns
  have hts := atoms_spec (ws := wsX4_slot) B.pre
  have hown : s.vm.findClass RX4 = some m.cls := findClass_of_methodNamed B.named
  have hlocks := B.notSynchronized
  have hiX4 : ∀ w ∈ u_ws RX4 TX4 29, w ∈ wsX4_slot := by decide +kernel
  have hf74 := hts (.fieldLink RX4 74 "ThingRulesModel" "thrown" "I") (by decide +kernel)
  have hf56 := hts (.fieldLink RX4 56 "ThingRulesModel" "slots" "[I") (by decide +kernel)
  have hS : va_S (AQ 22 q) s.heap s.heap [] := va_S.rf
  have hP : va_P D vwCl (wM q cI cL u) s.heap := hP
  have hl := lv_entry ([.ref (q 0), .int p1]) (n := 2) (Nat.le_of_ble_eq_true rfl)
  rw [lg_entry_eq]
  generalize (lg_sl ([.ref (q 0), .int p1]) ++ List.replicate (2 - (lg_sl ([.ref (q 0), .int p1])).length) Slot.unset).toArray = ls at hl ⊢
  have hl : lv_has ls 2 [(0, .ref (q 0)), (1, .int p1)] := hl
  have hsp : sM_slot u p1 = _ := sM_slot.eq_1 u p1
  unfold okM_slot at hok
  refine lv_aload_n hx hb dX4_slot_0 rfl (lv_at hl 0 rfl) ?_
  refine lv_iconst (v := 0) hx hb dX4_slot_1 (by decide) ?_
  refine va_put (D := D) (ci := 7) (v := .int 0) (ty := .int) (C := RX4) (T := TX4) (N := 29) hx hb hts hiX4 tyX4 tyX4_ok nmX4 hown hK hP (dM hq) hS 0 rfl rfl 0 (by decide) hf74 (fun _ h9 => h9) rfl (by decide +kernel) rfl rfl (Nat.le_of_ble_eq_true rfl) dX4_slot_2 (fun H locs hP _ hS => ?_)
  obtain ⟨u1, hu1⟩ : ∃ z : St, z = (stI u 0 0) := ⟨_, rfl⟩
  have hP : va_P D vwCl (wM q cI cL u1) H := by rw [hu1]; exact hP
  have hsp := hsp.trans (bnd_eq hu1)
  have hok := bnd_ok hu1 hok
  refine lv_iload_n hx hb dX4_slot_5 rfl (lv_at hl 1 rfl) ?_
  refine lv_iconst (v := 0) hx hb dX4_slot_6 (by decide) ?_
  refine lv_iconst (v := 3) hx hb dX4_slot_7 (by decide) ?_
  refine vp_callSi (W.runS (As := [.int p1, .int 0, .int 3]) (rest := []) ⟨hx, hb, hml, hown, hts⟩ (cM_in l p1 0 3) (va_cwS 3 hts gX4_slot_X4_in rfl rfl rfl (by decide +kernel) ⟨(Nat.le_of_ble_eq_true rfl), (Nat.le_of_ble_eq_true rfl)⟩) ⟨T_blind, fun U hU hW => ⟨rfl, trivial⟩⟩ rfl rfl hl.1 rfl (lv_room (Nat.le_of_ble_eq_true rfl)) dX4_slot_8 ⟨(Nat.le_of_ble_eq_true rfl), (Nat.le_of_ble_eq_true rfl)⟩) (fun r_1 hr_1 => ?_)
  subst hr_1
  refine lv_if_eq (tgt := 23) hx hb dX4_slot_11 (by decide) (fun c_2 => ?_) (fun c_2 => ?_)
  · have hsp := hsp.trans (if_pos c_2)
    refine lv_bipush (v := (-2)) hx hb dX4_slot_23 (by decide) ?_
    exact W.iret (v := (-2)) hx hb hr (fun t ht hW => ⟨⟨(-2), u1, rfl, hsp.symm, PM_fin hP hK ht hW⟩, hS.F ht⟩) hS.2.2 dX4_slot_25
  · have hsp := hsp.trans (if_neg c_2)
    have hok := hok.2 c_2
    refine lv_aload_n hx hb dX4_slot_14 rfl (lv_at hl 0 rfl) ?_
    refine va_get (D := D) (ci := 7) (v := .ref (q 16)) (C := RX4) (T := TX4) (N := 29) hx hb hts hiX4 hown hK hP 0 rfl rfl 19 (by decide) hf56 (fun _ h9 => h9) rfl dX4_slot_15 ?_
    refine lv_iload_n hx hb dX4_slot_18 rfl (lv_at hl 1 rfl) ?_
    have h_3 := hok.1
    have hok := hok.2
    refine va_iald hx hb hK hP 16 0 rfl rfl h_3 dX4_slot_19 ?_
    refine lv_goto (tgt := 25) hx hb dX4_slot_20 (by decide) ?_
    exact W.iret (v := (u1.2.1 16 p1.toNatClampNeg)) hx hb hr (fun t ht hW => ⟨⟨(u1.2.1 16 p1.toNatClampNeg), u1, rfl, hsp.symm, PM_fin hP hK ht hW⟩, hS.F ht⟩) hS.2.2 dX4_slot_25
set_option maxHeartbeats 4000000 in
set_option maxRecDepth 100000 in
theorem cM_rule (l : Launch) (D : va_G) (q : Nat → Nat) (cI cL : ClassId) (hq : DQ 22 q) (u : St) (p1 : Int32) (p2 : Int32) (p3 : Int32) (p4 : Int32) (hok : okM_rule u p1 p2 p3 p4) : Met l yX4_rule wsX4_rule { frames := 2, cells := 0, slots := 0, locals := 43 } (va_Pc [.ref (q 0), .int p1, .int p2, .int p3, .int p4] (fun U => PM D q cI cL u U)) (va_Qi (fun (r : Int32) (u' : St) => (r, u') = sM_rule u p1 p2 p3 p4) (fun u' t => PM D q cI cL u' t) (AQ 22 q)) 0 0 (AQ 22 q) := by
  refine Met.ofW (cc := cX4_rule) (maxL := 5) (ret := (some .int)) (by decide) rfl ?_
  intro p e s m args below meth c s₁ B hml hv
  obtain ⟨rfl, hP, hK⟩ := hv
  have hx := B.exec
  have hb := B.bytes
  have hr := B.returns
  have hts := atoms_spec (ws := wsX4_rule) B.pre
  have hown : s.vm.findClass RX4 = some m.cls := findClass_of_methodNamed B.named
  have hlocks := B.notSynchronized
  have hiX4 : ∀ w ∈ u_ws RX4 TX4 29, w ∈ wsX4_rule := by decide +kernel
  have hf74 := hts (.fieldLink RX4 74 "ThingRulesModel" "thrown" "I") (by decide +kernel)
  have hf183 := hts (.fieldLink RX4 183 "ThingRulesModel" "rules" "I") (by decide +kernel)
  have hf38 := hts (.fieldLink RX4 38 "ThingRulesModel" "rulePattern" "[I") (by decide +kernel)
  have hf41 := hts (.fieldLink RX4 41 "ThingRulesModel" "ruleAct" "[I") (by decide +kernel)
  have hf44 := hts (.fieldLink RX4 44 "ThingRulesModel" "ruleKind" "[I") (by decide +kernel)
  have hf47 := hts (.fieldLink RX4 47 "ThingRulesModel" "rulePlace" "[I") (by decide +kernel)
  have hf50 := hts (.fieldLink RX4 50 "ThingRulesModel" "used" "[I") (by decide +kernel)
  have hf53 := hts (.fieldLink RX4 53 "ThingRulesModel" "fell" "[I") (by decide +kernel)
  have hS : va_S (AQ 22 q) s.heap s.heap [] := va_S.rf
  have hP : va_P D vwCl (wM q cI cL u) s.heap := hP
  have hl := lv_entry ([.ref (q 0), .int p1, .int p2, .int p3, .int p4]) (n := 5) (Nat.le_of_ble_eq_true rfl)
  rw [lg_entry_eq]
  generalize (lg_sl ([.ref (q 0), .int p1, .int p2, .int p3, .int p4]) ++ List.replicate (5 - (lg_sl ([.ref (q 0), .int p1, .int p2, .int p3, .int p4])).length) Slot.unset).toArray = ls at hl ⊢
  have hl : lv_has ls 5 [(0, .ref (q 0)), (1, .int p1), (2, .int p2), (3, .int p3), (4, .int p4)] := hl
  have hsp : sM_rule u p1 p2 p3 p4 = _ := sM_rule.eq_1 u p1 p2 p3 p4
  unfold okM_rule at hok
  refine lv_aload_n hx hb dX4_rule_0 rfl (lv_at hl 0 rfl) ?_
  refine lv_iconst (v := 0) hx hb dX4_rule_1 (by decide) ?_
  refine va_put (D := D) (ci := 7) (v := .int 0) (ty := .int) (C := RX4) (T := TX4) (N := 29) hx hb hts hiX4 tyX4 tyX4_ok nmX4 hown hK hP (dM hq) hS 0 rfl rfl 0 (by decide) hf74 (fun _ h9 => h9) rfl (by decide +kernel) rfl rfl (Nat.le_of_ble_eq_true rfl) dX4_rule_2 (fun H locs hP _ hS => ?_)
  obtain ⟨u1, hu1⟩ : ∃ z : St, z = (stI u 0 0) := ⟨_, rfl⟩
  have hP : va_P D vwCl (wM q cI cL u1) H := by rw [hu1]; exact hP
  have hsp := hsp.trans (bnd_eq hu1)
  have hok := bnd_ok hu1 hok
  refine lv_aload_n hx hb dX4_rule_5 rfl (lv_at hl 0 rfl) ?_
  refine lv_iload_n hx hb dX4_rule_6 rfl (lv_at hl 1 rfl) ?_
  refine vp_callSi (W.runV (As := [.int p1]) (rest := []) ⟨hx, hb, hml, hown, hts⟩ (cM_isPattern l D q cI cL u1 p1) (cwV 1 hts gX4_rule_X4_isPattern rfl rfl rfl (by decide +kernel) ⟨(Nat.le_of_ble_eq_true rfl), (Nat.le_of_ble_eq_true rfl)⟩) ⟨PM_blind, va_recv hK hP (ci := 7) (q0 := 0) rfl rfl, fun U hU hW => ⟨rfl, PM_fin hP hK hU hW⟩⟩ rfl rfl hl.1 rfl (lv_room (Nat.le_of_ble_eq_true rfl)) dX4_rule_7 ⟨(Nat.le_of_ble_eq_true rfl), (Nat.le_of_ble_eq_true rfl)⟩) (fun r_1 hr_1 => ?_)
  subst hr_1
  refine lv_if_ne (tgt := 15) hx hb dX4_rule_10 (by decide) (fun c_2 => ?_) (fun c_2 => ?_)
  · have hsp := hsp.trans (if_neg c_2)
    have hok := hok.2 c_2
    refine lv_iload_n hx hb dX4_rule_15 rfl (lv_at hl 2 rfl) ?_
    refine lv_iconst (v := 0) hx hb dX4_rule_16 (by decide) ?_
    refine lv_iconst (v := 5) hx hb dX4_rule_17 (by decide) ?_
    refine vp_callSi (W.runS (As := [.int p2, .int 0, .int 5]) (rest := []) ⟨hx, hb, hml, hown, hts⟩ (cM_in l p2 0 5) (va_cwS 3 hts gX4_rule_X4_in rfl rfl rfl (by decide +kernel) ⟨(Nat.le_of_ble_eq_true rfl), (Nat.le_of_ble_eq_true rfl)⟩) ⟨T_blind, fun U hU hW => ⟨rfl, trivial⟩⟩ rfl rfl hl.1 rfl (lv_room (Nat.le_of_ble_eq_true rfl)) dX4_rule_18 ⟨(Nat.le_of_ble_eq_true rfl), (Nat.le_of_ble_eq_true rfl)⟩) (fun r_3 hr_3 => ?_)
    subst hr_3
    refine lv_if_eq (tgt := 40) hx hb dX4_rule_21 (by decide) (fun c_4 => ?_) (fun c_4 => ?_)
    · have hsp := hsp.trans (if_pos c_4)
      refine lv_bipush (v := (-2)) hx hb dX4_rule_40 (by decide) ?_
      exact W.iret (v := (-2)) hx hb hr (fun t ht hW => ⟨⟨(-2), u1, rfl, hsp.symm, PM_fin hP hK ht hW⟩, hS.F ht⟩) hS.2.2 dX4_rule_42
    · have hsp := hsp.trans (if_neg c_4)
      have hok := hok.2 c_4
      refine lv_iload_n hx hb dX4_rule_24 rfl (lv_at hl 2 rfl) ?_
      refine lv_iconst (v := 1) hx hb dX4_rule_25 (by decide) ?_
      refine lv_icmp_ne (tgt := 43) hx hb dX4_rule_26 (by decide) (fun c_5 => ?_) (fun c_5 => ?_)
      · have hsp := hsp.trans (if_neg c_5)
        have hok := hok.2 c_5
        refine lv_aload_n hx hb dX4_rule_43 rfl (lv_at hl 0 rfl) ?_
        refine va_get (D := D) (ci := 7) (v := .int (u1.1 3)) (C := RX4) (T := TX4) (N := 29) hx hb hts hiX4 hown hK hP 0 rfl rfl 12 (by decide) hf183 (fun _ h9 => h9) rfl dX4_rule_44 ?_
        refine lv_bipush (v := 16) hx hb dX4_rule_47 (by decide) ?_
        refine lv_icmp_ne (tgt := 55) hx hb dX4_rule_49 (by decide) (fun c_6 => ?_) (fun c_6 => ?_)
        · have hsp := hsp.trans (if_neg c_6)
          have hok := hok.2 c_6
          refine lv_aload_n hx hb dX4_rule_55 rfl (lv_at hl 0 rfl) ?_
          refine va_get (D := D) (ci := 7) (v := .ref (q 10)) (C := RX4) (T := TX4) (N := 29) hx hb hts hiX4 hown hK hP 0 rfl rfl 13 (by decide) hf38 (fun _ h9 => h9) rfl dX4_rule_56 ?_
          refine lv_aload_n hx hb dX4_rule_59 rfl (lv_at hl 0 rfl) ?_
          refine va_get (D := D) (ci := 7) (v := .int (u1.1 3)) (C := RX4) (T := TX4) (N := 29) hx hb hts hiX4 hown hK hP 0 rfl rfl 12 (by decide) hf183 (fun _ h9 => h9) rfl dX4_rule_60 ?_
          refine lv_iload_n hx hb dX4_rule_63 rfl (lv_at hl 1 rfl) ?_
          have h_7 := hok.1
          have hok := hok.2
          refine va_iast hx hb hK hP (dM hq) hS 10 0 rfl rfl h_7 dX4_rule_64 (fun H locs hP _ hS => ?_)
          obtain ⟨u2, hu2⟩ : ∃ z : St, z = (stA u1 10 (u1.1 3).toNatClampNeg p1) := ⟨_, rfl⟩
          have hP : va_P D vwCl (wM q cI cL u2) H := by rw [hu2]; exact hP
          have hsp := hsp.trans (bnd_eq hu2)
          have hok := bnd_ok hu2 hok
          refine lv_aload_n hx hb dX4_rule_65 rfl (lv_at hl 0 rfl) ?_
          refine va_get (D := D) (ci := 7) (v := .ref (q 11)) (C := RX4) (T := TX4) (N := 29) hx hb hts hiX4 hown hK hP 0 rfl rfl 14 (by decide) hf41 (fun _ h9 => h9) rfl dX4_rule_66 ?_
          refine lv_aload_n hx hb dX4_rule_69 rfl (lv_at hl 0 rfl) ?_
          refine va_get (D := D) (ci := 7) (v := .int (u2.1 3)) (C := RX4) (T := TX4) (N := 29) hx hb hts hiX4 hown hK hP 0 rfl rfl 12 (by decide) hf183 (fun _ h9 => h9) rfl dX4_rule_70 ?_
          refine lv_iload_n hx hb dX4_rule_73 rfl (lv_at hl 2 rfl) ?_
          have h_8 := hok.1
          have hok := hok.2
          refine va_iast hx hb hK hP (dM hq) hS 11 0 rfl rfl h_8 dX4_rule_74 (fun H locs hP _ hS => ?_)
          obtain ⟨u3, hu3⟩ : ∃ z : St, z = (stA u2 11 (u2.1 3).toNatClampNeg p2) := ⟨_, rfl⟩
          have hP : va_P D vwCl (wM q cI cL u3) H := by rw [hu3]; exact hP
          have hsp := hsp.trans (bnd_eq hu3)
          have hok := bnd_ok hu3 hok
          refine lv_aload_n hx hb dX4_rule_75 rfl (lv_at hl 0 rfl) ?_
          refine va_get (D := D) (ci := 7) (v := .ref (q 12)) (C := RX4) (T := TX4) (N := 29) hx hb hts hiX4 hown hK hP 0 rfl rfl 15 (by decide) hf44 (fun _ h9 => h9) rfl dX4_rule_76 ?_
          refine lv_aload_n hx hb dX4_rule_79 rfl (lv_at hl 0 rfl) ?_
          refine va_get (D := D) (ci := 7) (v := .int (u3.1 3)) (C := RX4) (T := TX4) (N := 29) hx hb hts hiX4 hown hK hP 0 rfl rfl 12 (by decide) hf183 (fun _ h9 => h9) rfl dX4_rule_80 ?_
          refine lv_iload_n hx hb dX4_rule_83 rfl (lv_at hl 3 rfl) ?_
          have h_9 := hok.1
          have hok := hok.2
          refine va_iast hx hb hK hP (dM hq) hS 12 0 rfl rfl h_9 dX4_rule_84 (fun H locs hP _ hS => ?_)
          obtain ⟨u4, hu4⟩ : ∃ z : St, z = (stA u3 12 (u3.1 3).toNatClampNeg p3) := ⟨_, rfl⟩
          have hP : va_P D vwCl (wM q cI cL u4) H := by rw [hu4]; exact hP
          have hsp := hsp.trans (bnd_eq hu4)
          have hok := bnd_ok hu4 hok
          refine lv_aload_n hx hb dX4_rule_85 rfl (lv_at hl 0 rfl) ?_
          refine va_get (D := D) (ci := 7) (v := .ref (q 13)) (C := RX4) (T := TX4) (N := 29) hx hb hts hiX4 hown hK hP 0 rfl rfl 16 (by decide) hf47 (fun _ h9 => h9) rfl dX4_rule_86 ?_
          refine lv_aload_n hx hb dX4_rule_89 rfl (lv_at hl 0 rfl) ?_
          refine va_get (D := D) (ci := 7) (v := .int (u4.1 3)) (C := RX4) (T := TX4) (N := 29) hx hb hts hiX4 hown hK hP 0 rfl rfl 12 (by decide) hf183 (fun _ h9 => h9) rfl dX4_rule_90 ?_
          refine lv_iload hx hb dX4_rule_93 (lv_at hl 4 rfl) ?_
          have h_10 := hok.1
          have hok := hok.2
          refine va_iast hx hb hK hP (dM hq) hS 13 0 rfl rfl h_10 dX4_rule_95 (fun H locs hP _ hS => ?_)
          obtain ⟨u5, hu5⟩ : ∃ z : St, z = (stA u4 13 (u4.1 3).toNatClampNeg p4) := ⟨_, rfl⟩
          have hP : va_P D vwCl (wM q cI cL u5) H := by rw [hu5]; exact hP
          have hsp := hsp.trans (bnd_eq hu5)
          have hok := bnd_ok hu5 hok
          refine lv_aload_n hx hb dX4_rule_96 rfl (lv_at hl 0 rfl) ?_
          refine va_get (D := D) (ci := 7) (v := .ref (q 14)) (C := RX4) (T := TX4) (N := 29) hx hb hts hiX4 hown hK hP 0 rfl rfl 17 (by decide) hf50 (fun _ h9 => h9) rfl dX4_rule_97 ?_
          refine lv_aload_n hx hb dX4_rule_100 rfl (lv_at hl 0 rfl) ?_
          refine va_get (D := D) (ci := 7) (v := .int (u5.1 3)) (C := RX4) (T := TX4) (N := 29) hx hb hts hiX4 hown hK hP 0 rfl rfl 12 (by decide) hf183 (fun _ h9 => h9) rfl dX4_rule_101 ?_
          refine lv_iconst (v := 0) hx hb dX4_rule_104 (by decide) ?_
          have h_11 := hok.1
          have hok := hok.2
          refine va_iast hx hb hK hP (dM hq) hS 14 0 rfl rfl h_11 dX4_rule_105 (fun H locs hP _ hS => ?_)
          obtain ⟨u6, hu6⟩ : ∃ z : St, z = (stA u5 14 (u5.1 3).toNatClampNeg 0) := ⟨_, rfl⟩
          have hP : va_P D vwCl (wM q cI cL u6) H := by rw [hu6]; exact hP
          have hsp := hsp.trans (bnd_eq hu6)
          have hok := bnd_ok hu6 hok
          refine lv_aload_n hx hb dX4_rule_106 rfl (lv_at hl 0 rfl) ?_
          refine va_get (D := D) (ci := 7) (v := .ref (q 15)) (C := RX4) (T := TX4) (N := 29) hx hb hts hiX4 hown hK hP 0 rfl rfl 18 (by decide) hf53 (fun _ h9 => h9) rfl dX4_rule_107 ?_
          refine lv_aload_n hx hb dX4_rule_110 rfl (lv_at hl 0 rfl) ?_
          refine va_get (D := D) (ci := 7) (v := .int (u6.1 3)) (C := RX4) (T := TX4) (N := 29) hx hb hts hiX4 hown hK hP 0 rfl rfl 12 (by decide) hf183 (fun _ h9 => h9) rfl dX4_rule_111 ?_
          refine lv_iconst (v := 0) hx hb dX4_rule_114 (by decide) ?_
          have h_12 := hok.1
          have hok := hok.2
          refine va_iast hx hb hK hP (dM hq) hS 15 0 rfl rfl h_12 dX4_rule_115 (fun H locs hP _ hS => ?_)
          obtain ⟨u7, hu7⟩ : ∃ z : St, z = (stA u6 15 (u6.1 3).toNatClampNeg 0) := ⟨_, rfl⟩
          have hP : va_P D vwCl (wM q cI cL u7) H := by rw [hu7]; exact hP
          have hsp := hsp.trans (bnd_eq hu7)
          refine lv_aload_n hx hb dX4_rule_116 rfl (lv_at hl 0 rfl) ?_
          refine lv_dup hx hb dX4_rule_117 rfl ?_
          refine va_get (D := D) (ci := 7) (v := .int (u7.1 3)) (C := RX4) (T := TX4) (N := 29) hx hb hts hiX4 hown hK hP 0 rfl rfl 12 (by decide) hf183 (fun _ h9 => h9) rfl dX4_rule_118 ?_
          refine lv_iconst (v := 1) hx hb dX4_rule_121 (by decide) ?_
          refine lv_iadd hx hb dX4_rule_122 ?_
          refine va_put (D := D) (ci := 7) (v := .int ((u7.1 3) + 1)) (ty := .int) (C := RX4) (T := TX4) (N := 29) hx hb hts hiX4 tyX4 tyX4_ok nmX4 hown hK hP (dM hq) hS 0 rfl rfl 12 (by decide) hf183 (fun _ h9 => h9) rfl (by decide +kernel) rfl rfl (Nat.le_of_ble_eq_true rfl) dX4_rule_123 (fun H locs hP _ hS => ?_)
          obtain ⟨u8, hu8⟩ : ∃ z : St, z = (stI u7 3 ((u7.1 3) + 1)) := ⟨_, rfl⟩
          have hP : va_P D vwCl (wM q cI cL u8) H := by rw [hu8]; exact hP
          have hsp := hsp.trans (bnd_eq hu8)
          refine lv_aload_n hx hb dX4_rule_126 rfl (lv_at hl 0 rfl) ?_
          refine va_get (D := D) (ci := 7) (v := .int (u8.1 3)) (C := RX4) (T := TX4) (N := 29) hx hb hts hiX4 hown hK hP 0 rfl rfl 12 (by decide) hf183 (fun _ h9 => h9) rfl dX4_rule_127 ?_
          refine lv_iconst (v := 1) hx hb dX4_rule_130 (by decide) ?_
          refine lv_isub hx hb dX4_rule_131 ?_
          exact W.iret (v := ((u8.1 3) - 1)) hx hb hr (fun t ht hW => ⟨⟨((u8.1 3) - 1), u8, rfl, hsp.symm, PM_fin hP hK ht hW⟩, hS.F ht⟩) hS.2.2 dX4_rule_132
        · have hsp := hsp.trans (if_pos c_6)
          refine lv_bipush (v := (-4)) hx hb dX4_rule_52 (by decide) ?_
          exact W.iret (v := (-4)) hx hb hr (fun t ht hW => ⟨⟨(-4), u1, rfl, hsp.symm, PM_fin hP hK ht hW⟩, hS.F ht⟩) hS.2.2 dX4_rule_54
      · have hsp := hsp.trans (if_pos c_5)
        have hok := hok.1 c_5
        refine lv_iload_n hx hb dX4_rule_29 rfl (lv_at hl 3 rfl) ?_
        refine lv_bipush (v := 7) hx hb dX4_rule_30 (by decide) ?_
        refine lv_bipush (v := 13) hx hb dX4_rule_32 (by decide) ?_
        refine vp_callSi (W.runS (As := [.int p3, .int 7, .int 13]) (rest := []) ⟨hx, hb, hml, hown, hts⟩ (cM_in l p3 7 13) (va_cwS 3 hts gX4_rule_X4_in rfl rfl rfl (by decide +kernel) ⟨(Nat.le_of_ble_eq_true rfl), (Nat.le_of_ble_eq_true rfl)⟩) ⟨T_blind, fun U hU hW => ⟨rfl, trivial⟩⟩ rfl rfl hl.1 rfl (lv_room (Nat.le_of_ble_eq_true rfl)) dX4_rule_34 ⟨(Nat.le_of_ble_eq_true rfl), (Nat.le_of_ble_eq_true rfl)⟩) (fun r_13 hr_13 => ?_)
        subst hr_13
        refine lv_if_ne (tgt := 43) hx hb dX4_rule_37 (by decide) (fun c_14 => ?_) (fun c_14 => ?_)
        · have hsp := hsp.trans (if_neg c_14)
          have hok := hok.2 c_14
          refine lv_aload_n hx hb dX4_rule_43 rfl (lv_at hl 0 rfl) ?_
          refine va_get (D := D) (ci := 7) (v := .int (u1.1 3)) (C := RX4) (T := TX4) (N := 29) hx hb hts hiX4 hown hK hP 0 rfl rfl 12 (by decide) hf183 (fun _ h9 => h9) rfl dX4_rule_44 ?_
          refine lv_bipush (v := 16) hx hb dX4_rule_47 (by decide) ?_
          refine lv_icmp_ne (tgt := 55) hx hb dX4_rule_49 (by decide) (fun c_15 => ?_) (fun c_15 => ?_)
          · have hsp := hsp.trans (if_neg c_15)
            have hok := hok.2 c_15
            refine lv_aload_n hx hb dX4_rule_55 rfl (lv_at hl 0 rfl) ?_
            refine va_get (D := D) (ci := 7) (v := .ref (q 10)) (C := RX4) (T := TX4) (N := 29) hx hb hts hiX4 hown hK hP 0 rfl rfl 13 (by decide) hf38 (fun _ h9 => h9) rfl dX4_rule_56 ?_
            refine lv_aload_n hx hb dX4_rule_59 rfl (lv_at hl 0 rfl) ?_
            refine va_get (D := D) (ci := 7) (v := .int (u1.1 3)) (C := RX4) (T := TX4) (N := 29) hx hb hts hiX4 hown hK hP 0 rfl rfl 12 (by decide) hf183 (fun _ h9 => h9) rfl dX4_rule_60 ?_
            refine lv_iload_n hx hb dX4_rule_63 rfl (lv_at hl 1 rfl) ?_
            have h_16 := hok.1
            have hok := hok.2
            refine va_iast hx hb hK hP (dM hq) hS 10 0 rfl rfl h_16 dX4_rule_64 (fun H locs hP _ hS => ?_)
            obtain ⟨u9, hu9⟩ : ∃ z : St, z = (stA u1 10 (u1.1 3).toNatClampNeg p1) := ⟨_, rfl⟩
            have hP : va_P D vwCl (wM q cI cL u9) H := by rw [hu9]; exact hP
            have hsp := hsp.trans (bnd_eq hu9)
            have hok := bnd_ok hu9 hok
            refine lv_aload_n hx hb dX4_rule_65 rfl (lv_at hl 0 rfl) ?_
            refine va_get (D := D) (ci := 7) (v := .ref (q 11)) (C := RX4) (T := TX4) (N := 29) hx hb hts hiX4 hown hK hP 0 rfl rfl 14 (by decide) hf41 (fun _ h9 => h9) rfl dX4_rule_66 ?_
            refine lv_aload_n hx hb dX4_rule_69 rfl (lv_at hl 0 rfl) ?_
            refine va_get (D := D) (ci := 7) (v := .int (u9.1 3)) (C := RX4) (T := TX4) (N := 29) hx hb hts hiX4 hown hK hP 0 rfl rfl 12 (by decide) hf183 (fun _ h9 => h9) rfl dX4_rule_70 ?_
            refine lv_iload_n hx hb dX4_rule_73 rfl (lv_at hl 2 rfl) ?_
            have h_17 := hok.1
            have hok := hok.2
            refine va_iast hx hb hK hP (dM hq) hS 11 0 rfl rfl h_17 dX4_rule_74 (fun H locs hP _ hS => ?_)
            obtain ⟨u10, hu10⟩ : ∃ z : St, z = (stA u9 11 (u9.1 3).toNatClampNeg p2) := ⟨_, rfl⟩
            have hP : va_P D vwCl (wM q cI cL u10) H := by rw [hu10]; exact hP
            have hsp := hsp.trans (bnd_eq hu10)
            have hok := bnd_ok hu10 hok
            refine lv_aload_n hx hb dX4_rule_75 rfl (lv_at hl 0 rfl) ?_
            refine va_get (D := D) (ci := 7) (v := .ref (q 12)) (C := RX4) (T := TX4) (N := 29) hx hb hts hiX4 hown hK hP 0 rfl rfl 15 (by decide) hf44 (fun _ h9 => h9) rfl dX4_rule_76 ?_
            refine lv_aload_n hx hb dX4_rule_79 rfl (lv_at hl 0 rfl) ?_
            refine va_get (D := D) (ci := 7) (v := .int (u10.1 3)) (C := RX4) (T := TX4) (N := 29) hx hb hts hiX4 hown hK hP 0 rfl rfl 12 (by decide) hf183 (fun _ h9 => h9) rfl dX4_rule_80 ?_
            refine lv_iload_n hx hb dX4_rule_83 rfl (lv_at hl 3 rfl) ?_
            have h_18 := hok.1
            have hok := hok.2
            refine va_iast hx hb hK hP (dM hq) hS 12 0 rfl rfl h_18 dX4_rule_84 (fun H locs hP _ hS => ?_)
            obtain ⟨u11, hu11⟩ : ∃ z : St, z = (stA u10 12 (u10.1 3).toNatClampNeg p3) := ⟨_, rfl⟩
            have hP : va_P D vwCl (wM q cI cL u11) H := by rw [hu11]; exact hP
            have hsp := hsp.trans (bnd_eq hu11)
            have hok := bnd_ok hu11 hok
            refine lv_aload_n hx hb dX4_rule_85 rfl (lv_at hl 0 rfl) ?_
            refine va_get (D := D) (ci := 7) (v := .ref (q 13)) (C := RX4) (T := TX4) (N := 29) hx hb hts hiX4 hown hK hP 0 rfl rfl 16 (by decide) hf47 (fun _ h9 => h9) rfl dX4_rule_86 ?_
            refine lv_aload_n hx hb dX4_rule_89 rfl (lv_at hl 0 rfl) ?_
            refine va_get (D := D) (ci := 7) (v := .int (u11.1 3)) (C := RX4) (T := TX4) (N := 29) hx hb hts hiX4 hown hK hP 0 rfl rfl 12 (by decide) hf183 (fun _ h9 => h9) rfl dX4_rule_90 ?_
            refine lv_iload hx hb dX4_rule_93 (lv_at hl 4 rfl) ?_
            have h_19 := hok.1
            have hok := hok.2
            refine va_iast hx hb hK hP (dM hq) hS 13 0 rfl rfl h_19 dX4_rule_95 (fun H locs hP _ hS => ?_)
            obtain ⟨u12, hu12⟩ : ∃ z : St, z = (stA u11 13 (u11.1 3).toNatClampNeg p4) := ⟨_, rfl⟩
            have hP : va_P D vwCl (wM q cI cL u12) H := by rw [hu12]; exact hP
            have hsp := hsp.trans (bnd_eq hu12)
            have hok := bnd_ok hu12 hok
            refine lv_aload_n hx hb dX4_rule_96 rfl (lv_at hl 0 rfl) ?_
            refine va_get (D := D) (ci := 7) (v := .ref (q 14)) (C := RX4) (T := TX4) (N := 29) hx hb hts hiX4 hown hK hP 0 rfl rfl 17 (by decide) hf50 (fun _ h9 => h9) rfl dX4_rule_97 ?_
            refine lv_aload_n hx hb dX4_rule_100 rfl (lv_at hl 0 rfl) ?_
            refine va_get (D := D) (ci := 7) (v := .int (u12.1 3)) (C := RX4) (T := TX4) (N := 29) hx hb hts hiX4 hown hK hP 0 rfl rfl 12 (by decide) hf183 (fun _ h9 => h9) rfl dX4_rule_101 ?_
            refine lv_iconst (v := 0) hx hb dX4_rule_104 (by decide) ?_
            have h_20 := hok.1
            have hok := hok.2
            refine va_iast hx hb hK hP (dM hq) hS 14 0 rfl rfl h_20 dX4_rule_105 (fun H locs hP _ hS => ?_)
            obtain ⟨u13, hu13⟩ : ∃ z : St, z = (stA u12 14 (u12.1 3).toNatClampNeg 0) := ⟨_, rfl⟩
            have hP : va_P D vwCl (wM q cI cL u13) H := by rw [hu13]; exact hP
            have hsp := hsp.trans (bnd_eq hu13)
            have hok := bnd_ok hu13 hok
            refine lv_aload_n hx hb dX4_rule_106 rfl (lv_at hl 0 rfl) ?_
            refine va_get (D := D) (ci := 7) (v := .ref (q 15)) (C := RX4) (T := TX4) (N := 29) hx hb hts hiX4 hown hK hP 0 rfl rfl 18 (by decide) hf53 (fun _ h9 => h9) rfl dX4_rule_107 ?_
            refine lv_aload_n hx hb dX4_rule_110 rfl (lv_at hl 0 rfl) ?_
            refine va_get (D := D) (ci := 7) (v := .int (u13.1 3)) (C := RX4) (T := TX4) (N := 29) hx hb hts hiX4 hown hK hP 0 rfl rfl 12 (by decide) hf183 (fun _ h9 => h9) rfl dX4_rule_111 ?_
            refine lv_iconst (v := 0) hx hb dX4_rule_114 (by decide) ?_
            have h_21 := hok.1
            have hok := hok.2
            refine va_iast hx hb hK hP (dM hq) hS 15 0 rfl rfl h_21 dX4_rule_115 (fun H locs hP _ hS => ?_)
            obtain ⟨u14, hu14⟩ : ∃ z : St, z = (stA u13 15 (u13.1 3).toNatClampNeg 0) := ⟨_, rfl⟩
            have hP : va_P D vwCl (wM q cI cL u14) H := by rw [hu14]; exact hP
            have hsp := hsp.trans (bnd_eq hu14)
            refine lv_aload_n hx hb dX4_rule_116 rfl (lv_at hl 0 rfl) ?_
            refine lv_dup hx hb dX4_rule_117 rfl ?_
            refine va_get (D := D) (ci := 7) (v := .int (u14.1 3)) (C := RX4) (T := TX4) (N := 29) hx hb hts hiX4 hown hK hP 0 rfl rfl 12 (by decide) hf183 (fun _ h9 => h9) rfl dX4_rule_118 ?_
            refine lv_iconst (v := 1) hx hb dX4_rule_121 (by decide) ?_
            refine lv_iadd hx hb dX4_rule_122 ?_
            refine va_put (D := D) (ci := 7) (v := .int ((u14.1 3) + 1)) (ty := .int) (C := RX4) (T := TX4) (N := 29) hx hb hts hiX4 tyX4 tyX4_ok nmX4 hown hK hP (dM hq) hS 0 rfl rfl 12 (by decide) hf183 (fun _ h9 => h9) rfl (by decide +kernel) rfl rfl (Nat.le_of_ble_eq_true rfl) dX4_rule_123 (fun H locs hP _ hS => ?_)
            obtain ⟨u15, hu15⟩ : ∃ z : St, z = (stI u14 3 ((u14.1 3) + 1)) := ⟨_, rfl⟩
            have hP : va_P D vwCl (wM q cI cL u15) H := by rw [hu15]; exact hP
            have hsp := hsp.trans (bnd_eq hu15)
            refine lv_aload_n hx hb dX4_rule_126 rfl (lv_at hl 0 rfl) ?_
            refine va_get (D := D) (ci := 7) (v := .int (u15.1 3)) (C := RX4) (T := TX4) (N := 29) hx hb hts hiX4 hown hK hP 0 rfl rfl 12 (by decide) hf183 (fun _ h9 => h9) rfl dX4_rule_127 ?_
            refine lv_iconst (v := 1) hx hb dX4_rule_130 (by decide) ?_
            refine lv_isub hx hb dX4_rule_131 ?_
            exact W.iret (v := ((u15.1 3) - 1)) hx hb hr (fun t ht hW => ⟨⟨((u15.1 3) - 1), u15, rfl, hsp.symm, PM_fin hP hK ht hW⟩, hS.F ht⟩) hS.2.2 dX4_rule_132
          · have hsp := hsp.trans (if_pos c_15)
            refine lv_bipush (v := (-4)) hx hb dX4_rule_52 (by decide) ?_
            exact W.iret (v := (-4)) hx hb hr (fun t ht hW => ⟨⟨(-4), u1, rfl, hsp.symm, PM_fin hP hK ht hW⟩, hS.F ht⟩) hS.2.2 dX4_rule_54
        · have hsp := hsp.trans (if_pos c_14)
          refine lv_bipush (v := (-2)) hx hb dX4_rule_40 (by decide) ?_
          exact W.iret (v := (-2)) hx hb hr (fun t ht hW => ⟨⟨(-2), u1, rfl, hsp.symm, PM_fin hP hK ht hW⟩, hS.F ht⟩) hS.2.2 dX4_rule_42
  · have hsp := hsp.trans (if_pos c_2)
    refine lv_iconst (v := (-1)) hx hb dX4_rule_13 (by decide) ?_
    exact W.iret (v := (-1)) hx hb hr (fun t ht hW => ⟨⟨(-1), u1, rfl, hsp.symm, PM_fin hP hK ht hW⟩, hS.F ht⟩) hS.2.2 dX4_rule_14
set_option maxHeartbeats 4000000 in
set_option maxRecDepth 100000 in
theorem cM_grows (l : Launch) (D : va_G) (q : Nat → Nat) (cI cL : ClassId) (hq : DQ 22 q) (u : St) (p1 : Int32) (p2 : Int32) (hok : okM_grows u p1 p2) : Met l yX4_grows wsX4_grows { frames := 3, cells := 0, slots := 0, locals := 66 } (va_Pc [.ref (q 0), .int p1, .int p2] (fun U => PM D q cI cL u U)) (va_Qi (fun (r : Int32) (u' : St) => (r, u') = sM_grows u p1 p2) (fun u' t => PM D q cI cL u' t) (AQ 22 q)) 0 0 (AQ 22 q) := by
  refine Met.ofW (cc := cX4_grows) (maxL := 4) (ret := (some .int)) (by decide) rfl ?_
  intro p e s m args below meth c s₁ B hml hv
  obtain ⟨rfl, hP, hK⟩ := hv
  have hx := B.exec
  have hb := B.bytes
  have hr := B.returns
  have hts := atoms_spec (ws := wsX4_grows) B.pre
  have hown : s.vm.findClass RX4 = some m.cls := findClass_of_methodNamed B.named
  have hlocks := B.notSynchronized
  have hiX4 : ∀ w ∈ u_ws RX4 TX4 29, w ∈ wsX4_grows := by decide +kernel
  have hf19 := hts (.fieldLink RX4 19 "ThingRulesModel" "number" "[J") (by decide +kernel)
  have hS : va_S (AQ 22 q) s.heap s.heap [] := va_S.rf
  have hP : va_P D vwCl (wM q cI cL u) s.heap := hP
  have hl := lv_entry ([.ref (q 0), .int p1, .int p2]) (n := 4) (Nat.le_of_ble_eq_true rfl)
  rw [lg_entry_eq]
  generalize (lg_sl ([.ref (q 0), .int p1, .int p2]) ++ List.replicate (4 - (lg_sl ([.ref (q 0), .int p1, .int p2])).length) Slot.unset).toArray = ls at hl ⊢
  have hl : lv_has ls 4 [(0, .ref (q 0)), (1, .int p1), (2, .int p2)] := hl
  have hsp : sM_grows u p1 p2 = _ := sM_grows.eq_1 u p1 p2
  unfold okM_grows at hok
  refine lv_aload_n hx hb dX4_grows_0 rfl (lv_at hl 0 rfl) ?_
  refine lv_iload_n hx hb dX4_grows_1 rfl (lv_at hl 1 rfl) ?_
  refine lv_iconst (v := 4) hx hb dX4_grows_2 (by decide) ?_
  refine lv_iload_n hx hb dX4_grows_3 rfl (lv_at hl 2 rfl) ?_
  have h_1 := hok.1
  have hok := hok.2
  refine vp_callSi (W.runV (As := [.int p1, .int 4, .int p2]) (rest := []) ⟨hx, hb, hml, hown, hts⟩ (cM_taken l D q cI cL u p1 4 p2 h_1) (cwV 3 hts gX4_grows_X4_taken rfl rfl rfl (by decide +kernel) ⟨(Nat.le_of_ble_eq_true rfl), (Nat.le_of_ble_eq_true rfl)⟩) ⟨PM_blind, va_recv hK hP (ci := 7) (q0 := 0) rfl rfl, fun U hU hW => ⟨rfl, PM_fin hP hK hU hW⟩⟩ rfl rfl hl.1 rfl (lv_room (Nat.le_of_ble_eq_true rfl)) dX4_grows_4 ⟨(Nat.le_of_ble_eq_true rfl), (Nat.le_of_ble_eq_true rfl)⟩) (fun r_2 hr_2 => ?_)
  subst hr_2
  refine lv_topi (fun y1 hy1 => ?_)
  have hsp := hsp.trans (bnd_eq hy1)
  have hok := bnd_ok hy1 hok
  refine lv_istore_n (lv' := [(3, .int y1), (0, .ref (q 0)), (1, .int p1), (2, .int p2)]) hx hb dX4_grows_7 rfl hl (by decide) rfl (fun ls hl => ?_)
  refine lv_iload_n hx hb dX4_grows_8 rfl (lv_at hl 0 rfl) ?_
  refine lv_if_eq (tgt := 18) hx hb dX4_grows_9 (by decide) (fun c_3 => ?_) (fun c_3 => ?_)
  · have hsp := hsp.trans (if_pos c_3)
    have hok := hok.1 c_3
    refine lv_aload_n hx hb dX4_grows_18 rfl (lv_at hl 1 rfl) ?_
    refine va_get (D := D) (ci := 7) (v := .ref (q 4)) (C := RX4) (T := TX4) (N := 29) hx hb hts hiX4 hown hK hP 0 rfl rfl 5 (by decide) hf19 (fun _ h9 => h9) rfl dX4_grows_19 ?_
    refine lv_bipush (v := 6) hx hb dX4_grows_22 (by decide) ?_
    refine lv_iload_n hx hb dX4_grows_24 rfl (lv_at hl 2 rfl) ?_
    refine lv_imul hx hb dX4_grows_25 ?_
    refine lv_iload_n hx hb dX4_grows_26 rfl (lv_at hl 3 rfl) ?_
    refine lv_iadd hx hb dX4_grows_27 ?_
    refine lv_aload_n hx hb dX4_grows_28 rfl (lv_at hl 1 rfl) ?_
    refine va_get (D := D) (ci := 7) (v := .ref (q 4)) (C := RX4) (T := TX4) (N := 29) hx hb hts hiX4 hown hK hP 0 rfl rfl 5 (by decide) hf19 (fun _ h9 => h9) rfl dX4_grows_29 ?_
    refine lv_bipush (v := 6) hx hb dX4_grows_32 (by decide) ?_
    refine lv_iload_n hx hb dX4_grows_34 rfl (lv_at hl 2 rfl) ?_
    refine lv_imul hx hb dX4_grows_35 ?_
    refine lv_iload_n hx hb dX4_grows_36 rfl (lv_at hl 3 rfl) ?_
    refine lv_iadd hx hb dX4_grows_37 ?_
    have h_4 := hok.1
    have hok := hok.2
    refine va_lald hx hb hK hP 4 1 rfl rfl h_4 dX4_grows_38 ?_
    refine lv_lconst (v := 1) hx hb dX4_grows_39 (by decide) ?_
    refine lv_ladd hx hb dX4_grows_40 ?_
    refine lv_l2i (v := (((u.2.2 ((6 * p1) + p2).toNatClampNeg) + 1).toInt32)) hx hb dX4_grows_41 rfl ?_
    refine lv_i2l (v := (((((u.2.2 ((6 * p1) + p2).toNatClampNeg) + 1).toInt32) : Int32).toInt64)) hx hb dX4_grows_42 rfl ?_
    have h_5 := hok.1
    have hok := hok.2
    refine va_last hx hb hK hP (dM hq) hS 4 1 rfl rfl h_5 dX4_grows_43 (fun H locs hP _ hS => ?_)
    obtain ⟨u2, hu2⟩ : ∃ z : St, z = (stL u ((6 * p1) + p2).toNatClampNeg (((((u.2.2 ((6 * p1) + p2).toNatClampNeg) + 1).toInt32) : Int32).toInt64)) := ⟨_, rfl⟩
    have hP : va_P D vwCl (wM q cI cL u2) H := by rw [hu2]; exact hP
    have hsp := hsp.trans (bnd_eq hu2)
    refine lv_iconst (v := 1) hx hb dX4_grows_44 (by decide) ?_
    exact W.iret (v := 1) hx hb hr (fun t ht hW => ⟨⟨1, u2, rfl, hsp.symm, PM_fin hP hK ht hW⟩, hS.F ht⟩) hS.2.2 dX4_grows_45
  · have hsp := hsp.trans (if_neg c_3)
    have hok := hok.2 c_3
    refine lv_aload_n hx hb dX4_grows_12 rfl (lv_at hl 1 rfl) ?_
    refine lv_iload_n hx hb dX4_grows_13 rfl (lv_at hl 0 rfl) ?_
    have h_6 := hok.1
    have hok := hok.2
    refine va_calli (va_runV (As := [.int y1]) (rest := []) ⟨hx, hb, hml, hown, hts⟩ (cM_finds l D q cI cL hq u y1 h_6) (cwV 1 hts gX4_grows_X4_finds rfl rfl rfl (by decide +kernel) ⟨(Nat.le_of_ble_eq_true rfl), (Nat.le_of_ble_eq_true rfl)⟩) ⟨PM_blind, va_recv hK hP (ci := 7) (q0 := 0) rfl rfl, fun U hU hW => ⟨rfl, PM_fin hP hK hU hW⟩⟩ rfl rfl hl.1 rfl (lv_room (Nat.le_of_ble_eq_true rfl)) dX4_grows_14 ⟨(Nat.le_of_ble_eq_true rfl), (Nat.le_of_ble_eq_true rfl)⟩) hS (fun q _ h => h) (fun q h => h) (fun r3 u3 t H1 locs ht hvm hu3 hB hz1 hk1 hS => ?_)
    have hP := hB.1
    rw [ht] at hP
    clear hB hk1 hz1 hvm ht
    generalize H1 = H at hP hS ⊢
    refine W.widen (k := 0) (n := 0) (Nat.le_refl 0) (Nat.le_refl 0) ?_
    exact W.iret (v := r3) hx hb hr (fun t ht hW => ⟨⟨r3, u3, rfl, (hu3.trans hsp.symm), PM_fin hP hK ht hW⟩, hS.F ht⟩) hS.2.2 dX4_grows_17
set_option maxHeartbeats 4000000 in
set_option maxRecDepth 100000 in
theorem cM_acts (l : Launch) (D : va_G) (q : Nat → Nat) (cI cL : ClassId) (hq : DQ 22 q) (u : St) (p1 : Int32) (hok : okM_acts u p1) : Met l yX4_acts wsX4_acts { frames := 4, cells := 0, slots := 0, locals := 89 } (va_Pc [.ref (q 0), .int p1] (fun U => PM D q cI cL u U)) (va_Qi (fun (r : Int32) (u' : St) => (r, u') = sM_acts u p1) (fun u' t => PM D q cI cL u' t) (AQ 22 q)) 0 0 (AQ 22 q) := by
  refine Met.ofW (cc := cX4_acts) (maxL := 3) (ret := (some .int)) (by decide) rfl ?_
  intro p e s m args below meth c s₁ B hml hv
  obtain ⟨rfl, hP, hK⟩ := hv
  have hx := B.exec
  have hb := B.bytes
  have hr := B.returns
  have hts := atoms_spec (ws := wsX4_acts) B.pre
  have hown : s.vm.findClass RX4 = some m.cls := findClass_of_methodNamed B.named
  have hlocks := B.notSynchronized
  have hiX4 : ∀ w ∈ u_ws RX4 TX4 29, w ∈ wsX4_acts := by decide +kernel
  have hf56 := hts (.fieldLink RX4 56 "ThingRulesModel" "slots" "[I") (by decide +kernel)
  have hf41 := hts (.fieldLink RX4 41 "ThingRulesModel" "ruleAct" "[I") (by decide +kernel)
  have hf44 := hts (.fieldLink RX4 44 "ThingRulesModel" "ruleKind" "[I") (by decide +kernel)
  have hf47 := hts (.fieldLink RX4 47 "ThingRulesModel" "rulePlace" "[I") (by decide +kernel)
  have hS : va_S (AQ 22 q) s.heap s.heap [] := va_S.rf
  have hP : va_P D vwCl (wM q cI cL u) s.heap := hP
  have hl := lv_entry ([.ref (q 0), .int p1]) (n := 3) (Nat.le_of_ble_eq_true rfl)
  rw [lg_entry_eq]
  generalize (lg_sl ([.ref (q 0), .int p1]) ++ List.replicate (3 - (lg_sl ([.ref (q 0), .int p1])).length) Slot.unset).toArray = ls at hl ⊢
  have hl : lv_has ls 3 [(0, .ref (q 0)), (1, .int p1)] := hl
  have hsp : sM_acts u p1 = _ := sM_acts.eq_1 u p1
  unfold okM_acts at hok
  refine lv_aload_n hx hb dX4_acts_0 rfl (lv_at hl 0 rfl) ?_
  refine va_get (D := D) (ci := 7) (v := .ref (q 16)) (C := RX4) (T := TX4) (N := 29) hx hb hts hiX4 hown hK hP 0 rfl rfl 19 (by decide) hf56 (fun _ h9 => h9) rfl dX4_acts_1 ?_
  refine lv_iconst (v := 0) hx hb dX4_acts_4 (by decide) ?_
  have h_1 := hok.1
  have hok := hok.2
  refine va_iald hx hb hK hP 16 0 rfl rfl h_1 dX4_acts_5 ?_
  refine lv_topi (fun y1 hy1 => ?_)
  have hsp := hsp.trans (bnd_eq hy1)
  have hok := bnd_ok hy1 hok
  refine lv_istore_n (lv' := [(2, .int y1), (0, .ref (q 0)), (1, .int p1)]) hx hb dX4_acts_6 rfl hl (by decide) rfl (fun ls hl => ?_)
  refine lv_aload_n hx hb dX4_acts_7 rfl (lv_at hl 1 rfl) ?_
  refine va_get (D := D) (ci := 7) (v := .ref (q 11)) (C := RX4) (T := TX4) (N := 29) hx hb hts hiX4 hown hK hP 0 rfl rfl 14 (by decide) hf41 (fun _ h9 => h9) rfl dX4_acts_8 ?_
  refine lv_iload_n hx hb dX4_acts_11 rfl (lv_at hl 2 rfl) ?_
  have h_2 := hok.1
  have hok := hok.2
  refine va_iald hx hb hK hP 11 0 rfl rfl h_2 dX4_acts_12 ?_
  by_cases c_3 : (u.2.1 11 p1.toNatClampNeg) = 1
  · have hsp := hsp.trans (if_pos c_3)
    have hok := hok.1 c_3
    refine lv_tableIn (off := 35) (tgt := 48) hx hb dX4_acts_13 (by rw [c_3]; decide) (by rw [c_3]; decide) (by rw [c_3]; rfl) (by decide) ?_
    refine lv_aload_n hx hb dX4_acts_48 rfl (lv_at hl 1 rfl) ?_
    refine lv_iload_n hx hb dX4_acts_49 rfl (lv_at hl 0 rfl) ?_
    refine lv_aload_n hx hb dX4_acts_50 rfl (lv_at hl 1 rfl) ?_
    refine va_get (D := D) (ci := 7) (v := .ref (q 12)) (C := RX4) (T := TX4) (N := 29) hx hb hts hiX4 hown hK hP 0 rfl rfl 15 (by decide) hf44 (fun _ h9 => h9) rfl dX4_acts_51 ?_
    refine lv_iload_n hx hb dX4_acts_54 rfl (lv_at hl 2 rfl) ?_
    have h_4 := hok.1
    have hok := hok.2
    refine va_iald hx hb hK hP 12 0 rfl rfl h_4 dX4_acts_55 ?_
    refine lv_aload_n hx hb dX4_acts_56 rfl (lv_at hl 1 rfl) ?_
    refine va_get (D := D) (ci := 7) (v := .ref (q 13)) (C := RX4) (T := TX4) (N := 29) hx hb hts hiX4 hown hK hP 0 rfl rfl 16 (by decide) hf47 (fun _ h9 => h9) rfl dX4_acts_57 ?_
    refine lv_iload_n hx hb dX4_acts_60 rfl (lv_at hl 2 rfl) ?_
    have h_5 := hok.1
    have hok := hok.2
    refine va_iald hx hb hK hP 13 0 rfl rfl h_5 dX4_acts_61 ?_
    refine lv_aload_n hx hb dX4_acts_62 rfl (lv_at hl 1 rfl) ?_
    refine va_get (D := D) (ci := 7) (v := .ref (q 16)) (C := RX4) (T := TX4) (N := 29) hx hb hts hiX4 hown hK hP 0 rfl rfl 19 (by decide) hf56 (fun _ h9 => h9) rfl dX4_acts_63 ?_
    refine lv_iconst (v := 1) hx hb dX4_acts_66 (by decide) ?_
    have h_6 := hok.1
    have hok := hok.2
    refine va_iald hx hb hK hP 16 0 rfl rfl h_6 dX4_acts_67 ?_
    have h_7 := hok.1
    have hok := hok.2
    refine va_calli (va_runV (As := [.int y1, .int (u.2.1 12 p1.toNatClampNeg), .int (u.2.1 13 p1.toNatClampNeg), .int (u.2.1 16 (1 : Int32).toNatClampNeg)]) (rest := []) ⟨hx, hb, hml, hown, hts⟩ (cM_lays l D q cI cL hq u y1 (u.2.1 12 p1.toNatClampNeg) (u.2.1 13 p1.toNatClampNeg) (u.2.1 16 (1 : Int32).toNatClampNeg) h_7) (cwV 4 hts gX4_acts_X4_lays rfl rfl rfl (by decide +kernel) ⟨(Nat.le_of_ble_eq_true rfl), (Nat.le_of_ble_eq_true rfl)⟩) ⟨PM_blind, va_recv hK hP (ci := 7) (q0 := 0) rfl rfl, fun U hU hW => ⟨rfl, PM_fin hP hK hU hW⟩⟩ rfl rfl hl.1 rfl (lv_room (Nat.le_of_ble_eq_true rfl)) dX4_acts_68 ⟨(Nat.le_of_ble_eq_true rfl), (Nat.le_of_ble_eq_true rfl)⟩) hS (fun q _ h => h) (fun q h => h) (fun r2 u2 t H1 locs ht hvm hu2 hB hz1 hk1 hS => ?_)
    have hP := hB.1
    rw [ht] at hP
    clear hB hk1 hz1 hvm ht
    generalize H1 = H at hP hS ⊢
    refine W.widen (k := 0) (n := 0) (Nat.le_refl 0) (Nat.le_refl 0) ?_
    exact W.iret (v := r2) hx hb hr (fun t ht hW => ⟨⟨r2, u2, rfl, (hu2.trans hsp.symm), PM_fin hP hK ht hW⟩, hS.F ht⟩) hS.2.2 dX4_acts_71
  · have hsp := hsp.trans (if_neg c_3)
    have hok := hok.2 c_3
    by_cases c_8 : (u.2.1 11 p1.toNatClampNeg) = 2
    · have hsp := hsp.trans (if_pos c_8)
      have hok := hok.1 c_8
      refine lv_tableIn (off := 59) (tgt := 72) hx hb dX4_acts_13 (by rw [c_8]; decide) (by rw [c_8]; decide) (by rw [c_8]; rfl) (by decide) ?_
      refine lv_aload_n hx hb dX4_acts_72 rfl (lv_at hl 1 rfl) ?_
      refine lv_iload_n hx hb dX4_acts_73 rfl (lv_at hl 0 rfl) ?_
      refine lv_iconst (v := 0) hx hb dX4_acts_74 (by decide) ?_
      refine lv_aload_n hx hb dX4_acts_75 rfl (lv_at hl 1 rfl) ?_
      refine va_get (D := D) (ci := 7) (v := .ref (q 16)) (C := RX4) (T := TX4) (N := 29) hx hb hts hiX4 hown hK hP 0 rfl rfl 19 (by decide) hf56 (fun _ h9 => h9) rfl dX4_acts_76 ?_
      refine lv_iconst (v := 1) hx hb dX4_acts_79 (by decide) ?_
      have h_9 := hok.1
      have hok := hok.2
      refine va_iald hx hb hK hP 16 0 rfl rfl h_9 dX4_acts_80 ?_
      have h_10 := hok.1
      have hok := hok.2
      refine va_calli (va_runV (As := [.int y1, .int 0, .int (u.2.1 16 (1 : Int32).toNatClampNeg)]) (rest := []) ⟨hx, hb, hml, hown, hts⟩ (cM_halves l D q cI cL hq u y1 0 (u.2.1 16 (1 : Int32).toNatClampNeg) h_10) (cwV 3 hts gX4_acts_X4_halves rfl rfl rfl (by decide +kernel) ⟨(Nat.le_of_ble_eq_true rfl), (Nat.le_of_ble_eq_true rfl)⟩) ⟨PM_blind, va_recv hK hP (ci := 7) (q0 := 0) rfl rfl, fun U hU hW => ⟨rfl, PM_fin hP hK hU hW⟩⟩ rfl rfl hl.1 rfl (lv_room (Nat.le_of_ble_eq_true rfl)) dX4_acts_81 ⟨(Nat.le_of_ble_eq_true rfl), (Nat.le_of_ble_eq_true rfl)⟩) hS (fun q _ h => h) (fun q h => h) (fun r3 u3 t H1 locs ht hvm hu3 hB hz1 hk1 hS => ?_)
      have hP := hB.1
      rw [ht] at hP
      clear hB hk1 hz1 hvm ht
      generalize H1 = H at hP hS ⊢
      refine W.widen (k := 0) (n := 0) (Nat.le_refl 0) (Nat.le_refl 0) ?_
      exact W.iret (v := r3) hx hb hr (fun t ht hW => ⟨⟨r3, u3, rfl, (hu3.trans hsp.symm), PM_fin hP hK ht hW⟩, hS.F ht⟩) hS.2.2 dX4_acts_84
    · have hsp := hsp.trans (if_neg c_8)
      have hok := hok.2 c_8
      by_cases c_11 : (u.2.1 11 p1.toNatClampNeg) = 3
      · have hsp := hsp.trans (if_pos c_11)
        have hok := hok.1 c_11
        refine lv_tableIn (off := 72) (tgt := 85) hx hb dX4_acts_13 (by rw [c_11]; decide) (by rw [c_11]; decide) (by rw [c_11]; rfl) (by decide) ?_
        refine lv_aload_n hx hb dX4_acts_85 rfl (lv_at hl 1 rfl) ?_
        refine lv_iload_n hx hb dX4_acts_86 rfl (lv_at hl 0 rfl) ?_
        refine lv_iconst (v := 1) hx hb dX4_acts_87 (by decide) ?_
        refine lv_aload_n hx hb dX4_acts_88 rfl (lv_at hl 1 rfl) ?_
        refine va_get (D := D) (ci := 7) (v := .ref (q 16)) (C := RX4) (T := TX4) (N := 29) hx hb hts hiX4 hown hK hP 0 rfl rfl 19 (by decide) hf56 (fun _ h9 => h9) rfl dX4_acts_89 ?_
        refine lv_iconst (v := 1) hx hb dX4_acts_92 (by decide) ?_
        have h_12 := hok.1
        have hok := hok.2
        refine va_iald hx hb hK hP 16 0 rfl rfl h_12 dX4_acts_93 ?_
        have h_13 := hok.1
        have hok := hok.2
        refine va_calli (va_runV (As := [.int y1, .int 1, .int (u.2.1 16 (1 : Int32).toNatClampNeg)]) (rest := []) ⟨hx, hb, hml, hown, hts⟩ (cM_halves l D q cI cL hq u y1 1 (u.2.1 16 (1 : Int32).toNatClampNeg) h_13) (cwV 3 hts gX4_acts_X4_halves rfl rfl rfl (by decide +kernel) ⟨(Nat.le_of_ble_eq_true rfl), (Nat.le_of_ble_eq_true rfl)⟩) ⟨PM_blind, va_recv hK hP (ci := 7) (q0 := 0) rfl rfl, fun U hU hW => ⟨rfl, PM_fin hP hK hU hW⟩⟩ rfl rfl hl.1 rfl (lv_room (Nat.le_of_ble_eq_true rfl)) dX4_acts_94 ⟨(Nat.le_of_ble_eq_true rfl), (Nat.le_of_ble_eq_true rfl)⟩) hS (fun q _ h => h) (fun q h => h) (fun r4 u4 t H1 locs ht hvm hu4 hB hz1 hk1 hS => ?_)
        have hP := hB.1
        rw [ht] at hP
        clear hB hk1 hz1 hvm ht
        generalize H1 = H at hP hS ⊢
        refine W.widen (k := 0) (n := 0) (Nat.le_refl 0) (Nat.le_refl 0) ?_
        exact W.iret (v := r4) hx hb hr (fun t ht hW => ⟨⟨r4, u4, rfl, (hu4.trans hsp.symm), PM_fin hP hK ht hW⟩, hS.F ht⟩) hS.2.2 dX4_acts_97
      · have hsp := hsp.trans (if_neg c_11)
        have hok := hok.2 c_11
        by_cases c_14 : (u.2.1 11 p1.toNatClampNeg) = 4
        · have hsp := hsp.trans (if_pos c_14)
          have hok := hok.1 c_14
          refine lv_tableIn (off := 85) (tgt := 98) hx hb dX4_acts_13 (by rw [c_14]; decide) (by rw [c_14]; decide) (by rw [c_14]; rfl) (by decide) ?_
          refine lv_aload_n hx hb dX4_acts_98 rfl (lv_at hl 1 rfl) ?_
          refine va_get (D := D) (ci := 7) (v := .ref (q 16)) (C := RX4) (T := TX4) (N := 29) hx hb hts hiX4 hown hK hP 0 rfl rfl 19 (by decide) hf56 (fun _ h9 => h9) rfl dX4_acts_99 ?_
          refine lv_iconst (v := 0) hx hb dX4_acts_102 (by decide) ?_
          refine lv_aload_n hx hb dX4_acts_103 rfl (lv_at hl 1 rfl) ?_
          refine va_get (D := D) (ci := 7) (v := .ref (q 16)) (C := RX4) (T := TX4) (N := 29) hx hb hts hiX4 hown hK hP 0 rfl rfl 19 (by decide) hf56 (fun _ h9 => h9) rfl dX4_acts_104 ?_
          refine lv_iconst (v := 1) hx hb dX4_acts_107 (by decide) ?_
          have h_15 := hok.1
          have hok := hok.2
          refine va_iald hx hb hK hP 16 0 rfl rfl h_15 dX4_acts_108 ?_
          have h_16 := hok.1
          have hok := hok.2
          refine va_iast hx hb hK hP (dM hq) hS 16 0 rfl rfl h_16 dX4_acts_109 (fun H locs hP _ hS => ?_)
          obtain ⟨u5, hu5⟩ : ∃ z : St, z = (stA u 16 (0 : Int32).toNatClampNeg (u.2.1 16 (1 : Int32).toNatClampNeg)) := ⟨_, rfl⟩
          have hP : va_P D vwCl (wM q cI cL u5) H := by rw [hu5]; exact hP
          have hsp := hsp.trans (bnd_eq hu5)
          have hok := bnd_ok hu5 hok
          refine lv_aload_n hx hb dX4_acts_110 rfl (lv_at hl 1 rfl) ?_
          refine va_get (D := D) (ci := 7) (v := .ref (q 16)) (C := RX4) (T := TX4) (N := 29) hx hb hts hiX4 hown hK hP 0 rfl rfl 19 (by decide) hf56 (fun _ h9 => h9) rfl dX4_acts_111 ?_
          refine lv_iconst (v := 1) hx hb dX4_acts_114 (by decide) ?_
          refine lv_iload_n hx hb dX4_acts_115 rfl (lv_at hl 0 rfl) ?_
          have h_17 := hok.1
          have hok := hok.2
          refine va_iast hx hb hK hP (dM hq) hS 16 0 rfl rfl h_17 dX4_acts_116 (fun H locs hP _ hS => ?_)
          obtain ⟨u6, hu6⟩ : ∃ z : St, z = (stA u5 16 (1 : Int32).toNatClampNeg y1) := ⟨_, rfl⟩
          have hP : va_P D vwCl (wM q cI cL u6) H := by rw [hu6]; exact hP
          have hsp := hsp.trans (bnd_eq hu6)
          refine lv_iconst (v := 1) hx hb dX4_acts_117 (by decide) ?_
          exact W.iret (v := 1) hx hb hr (fun t ht hW => ⟨⟨1, u6, rfl, hsp.symm, PM_fin hP hK ht hW⟩, hS.F ht⟩) hS.2.2 dX4_acts_118
        · have hsp := hsp.trans (if_neg c_14)
          have hok := hok.2 c_14
          by_cases c_18 : (u.2.1 11 p1.toNatClampNeg) = 5
          · have hsp := hsp.trans (if_pos c_18)
            have hok := hok.1 c_18
            refine lv_tableIn (off := 106) (tgt := 119) hx hb dX4_acts_13 (by rw [c_18]; decide) (by rw [c_18]; decide) (by rw [c_18]; rfl) (by decide) ?_
            refine lv_aload_n hx hb dX4_acts_119 rfl (lv_at hl 1 rfl) ?_
            refine lv_iload_n hx hb dX4_acts_120 rfl (lv_at hl 0 rfl) ?_
            refine lv_aload_n hx hb dX4_acts_121 rfl (lv_at hl 1 rfl) ?_
            refine va_get (D := D) (ci := 7) (v := .ref (q 13)) (C := RX4) (T := TX4) (N := 29) hx hb hts hiX4 hown hK hP 0 rfl rfl 16 (by decide) hf47 (fun _ h9 => h9) rfl dX4_acts_122 ?_
            refine lv_iload_n hx hb dX4_acts_125 rfl (lv_at hl 2 rfl) ?_
            have h_19 := hok.1
            have hok := hok.2
            refine va_iald hx hb hK hP 13 0 rfl rfl h_19 dX4_acts_126 ?_
            have h_20 := hok.1
            have hok := hok.2
            refine va_calli (va_runV (As := [.int y1, .int (u.2.1 13 p1.toNatClampNeg)]) (rest := []) ⟨hx, hb, hml, hown, hts⟩ (cM_grows l D q cI cL hq u y1 (u.2.1 13 p1.toNatClampNeg) h_20) (cwV 2 hts gX4_acts_X4_grows rfl rfl rfl (by decide +kernel) ⟨(Nat.le_of_ble_eq_true rfl), (Nat.le_of_ble_eq_true rfl)⟩) ⟨PM_blind, va_recv hK hP (ci := 7) (q0 := 0) rfl rfl, fun U hU hW => ⟨rfl, PM_fin hP hK hU hW⟩⟩ rfl rfl hl.1 rfl (lv_room (Nat.le_of_ble_eq_true rfl)) dX4_acts_127 ⟨(Nat.le_of_ble_eq_true rfl), (Nat.le_of_ble_eq_true rfl)⟩) hS (fun q _ h => h) (fun q h => h) (fun r7 u7 t H1 locs ht hvm hu7 hB hz1 hk1 hS => ?_)
            have hP := hB.1
            rw [ht] at hP
            clear hB hk1 hz1 hvm ht
            generalize H1 = H at hP hS ⊢
            refine W.widen (k := 0) (n := 0) (Nat.le_refl 0) (Nat.le_refl 0) ?_
            exact W.iret (v := r7) hx hb hr (fun t ht hW => ⟨⟨r7, u7, rfl, (hu7.trans hsp.symm), PM_fin hP hK ht hW⟩, hS.F ht⟩) hS.2.2 dX4_acts_130
          · have hsp := hsp.trans (if_neg c_18)
            have hok := hok.2 c_18
            refine lv_tableOut (tgt := 131) hx hb dX4_acts_13 (by have e0 := lv_neT (a := 1) c_3 (by decide); have e1 := lv_neT (a := 2) c_8 (by decide); have e2 := lv_neT (a := 3) c_11 (by decide); have e3 := lv_neT (a := 4) c_14 (by decide); have e4 := lv_neT (a := 5) c_18 (by decide); omega) (by decide) ?_
            refine lv_iconst (v := 1) hx hb dX4_acts_131 (by decide) ?_
            exact W.iret (v := 1) hx hb hr (fun t ht hW => ⟨⟨1, u, rfl, hsp.symm, PM_fin hP hK ht hW⟩, hS.F ht⟩) hS.2.2 dX4_acts_132
