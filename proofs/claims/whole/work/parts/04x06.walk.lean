set_option maxHeartbeats 4000000 in
set_option maxRecDepth 100000 in
theorem cX_slot (l : Launch) (D : va_G) (q : Nat → Nat) (cI cL : ClassId) (tp : Nat) (u : St) (p1 : Int32) (hok : okX_slot u p1) : Met l yX3_slot wsX3_slot { frames := 2, cells := 0, slots := 0, locals := 42 } (va_Pc [.ref (q 0), .int p1] (fun U => PX D q cI cL tp u U)) (vp_Si (fun r => r = sX_slot u p1)) 0 0 (fun _ => False) := by
  refine Met.ofW (cc := cX3_slot) (maxL := 2) (ret := (some .int)) (by decide) rfl ?_
  intro p e s m args below meth c s₁ B hml hv
  obtain ⟨rfl, hP, hK, hZ⟩ := hv
  have hx := B.exec
  have hb := B.bytes
  have hr := B.returns
  have hts := atoms_spec (ws := wsX3_slot) B.pre
  have hown : s.vm.findClass RX3 = some m.cls := findClass_of_methodNamed B.named
  have hlocks := B.notSynchronized
  have hiX3 : ∀ w ∈ u_ws RX3 TX3 7, w ∈ wsX3_slot := by decide +kernel
  have hf30 := hts (.fieldLink RX3 30 "ThingRules" "slots" "[I") (by decide +kernel)
  have hS : va_S (AQ 24 q) s.heap s.heap [] := va_S.rf
  have hP : va_P D vwCl (wX q cI cL u) s.heap := hP
  have hl := lv_entry ([.ref (q 0), .int p1]) (n := 2) (Nat.le_of_ble_eq_true rfl)
  rw [lg_entry_eq]
  generalize (lg_sl ([.ref (q 0), .int p1]) ++ List.replicate (2 - (lg_sl ([.ref (q 0), .int p1])).length) Slot.unset).toArray = ls at hl ⊢
  have hl : lv_has ls 2 [(0, .ref (q 0)), (1, .int p1)] := hl
  have hsp : sX_slot u p1 = _ := sX_slot.eq_1 u p1
  unfold okX_slot at hok
  refine lv_iload_n hx hb dX3_slot_0 rfl (lv_at hl 1 rfl) ?_
  refine vp_callSi (W.runS (As := [.int p1]) (rest := []) ⟨hx, hb, hml, hown, hts⟩ (cX_isSlot l p1) (va_cwS 1 hts gX3_slot_X3_isSlot rfl rfl rfl (by decide +kernel) ⟨(Nat.le_of_ble_eq_true rfl), (Nat.le_of_ble_eq_true rfl)⟩) ⟨T_blind, fun U hU hW => ⟨rfl, trivial⟩⟩ rfl rfl hl.1 rfl (lv_room (Nat.le_of_ble_eq_true rfl)) dX3_slot_1 ⟨(Nat.le_of_ble_eq_true rfl), (Nat.le_of_ble_eq_true rfl)⟩) (fun r_1 hr_1 => ?_)
  subst hr_1
  refine lv_if_eq (tgt := 16) hx hb dX3_slot_4 (by decide) (fun c_2 => ?_) (fun c_2 => ?_)
  · have hsp := hsp.trans (if_pos c_2)
    refine lv_bipush (v := (-2)) hx hb dX3_slot_16 (by decide) ?_
    exact W.iret (v := (-2)) hx hb hr (fun t ht hW => ⟨(-2), rfl, hsp.symm, ht⟩) (fun _ h => nomatch h) dX3_slot_18
  · have hsp := hsp.trans (if_neg c_2)
    have hok := hok.2 c_2
    refine lv_aload_n hx hb dX3_slot_7 rfl (lv_at hl 0 rfl) ?_
    refine va_get (D := D) (ci := 6) (v := .ref (q 4)) (C := RX3) (T := TX3) (N := 7) hx hb hts hiX3 hown hK hP 0 rfl rfl 3 (by decide) hf30 (fun _ h9 => h9) rfl dX3_slot_8 ?_
    refine lv_iload_n hx hb dX3_slot_11 rfl (lv_at hl 1 rfl) ?_
    have h_3 := hok.1
    have hok := hok.2
    refine va_iald hx hb hK hP 4 0 rfl rfl h_3 dX3_slot_12 ?_
    refine lv_goto (tgt := 18) hx hb dX3_slot_13 (by decide) ?_
    exact W.iret (v := (u.2.1 4 p1.toNatClampNeg)) hx hb hr (fun t ht hW => ⟨(u.2.1 4 p1.toNatClampNeg), rfl, hsp.symm, ht⟩) (fun _ h => nomatch h) dX3_slot_18
set_option maxHeartbeats 4000000 in
set_option maxRecDepth 100000 in
theorem cXR_make (l : Launch) (D : va_G) (q : Nat → Nat) (cI cL : ClassId) (tp : Nat) (hq : DQ 24 q) (u : St) (p1 : Int32) (p2 : Int32) (p3 : Int32) (p4 : Int32) (hok : okXR_make u p1 p2 p3 p4) : Met l yX1_make wsX1_make { frames := 0, cells := 0, slots := 0, locals := 0 } (va_Pc [.ref (q 3), .int p1, .int p2, .int p3, .int p4] (fun U => PX D q cI cL tp u U)) (va_Qi (fun (r : Int32) (u' : St) => (r, u') = sXR_make u p1 p2 p3 p4) (fun u' t => PX D q cI cL tp u' t) (AQ 24 q)) 0 0 (AQ 24 q) := by
  refine Met.ofW (cc := cX1_make) (maxL := 6) (ret := (some .int)) (by decide) rfl ?_
  intro p e s m args below meth c s₁ B hml hv
  obtain ⟨rfl, hP, hK, hZ⟩ := hv
  have hx := B.exec
  have hb := B.bytes
  have hr := B.returns
  have hts := atoms_spec (ws := wsX1_make) B.pre
  have hown : s.vm.findClass RX1 = some m.cls := findClass_of_methodNamed B.named
  have hlocks := B.notSynchronized
  have hiX1 : ∀ w ∈ u_ws RX1 TX1 7, w ∈ wsX1_make := by decide +kernel
  have hf30 := hts (.fieldLink RX1 30 "ThingRules$Rules" "made" "I") (by decide +kernel)
  have hf9 := hts (.fieldLink RX1 9 "ThingRules$Rules" "pattern" "[I") (by decide +kernel)
  have hf15 := hts (.fieldLink RX1 15 "ThingRules$Rules" "act" "[I") (by decide +kernel)
  have hf18 := hts (.fieldLink RX1 18 "ThingRules$Rules" "kind" "[I") (by decide +kernel)
  have hf21 := hts (.fieldLink RX1 21 "ThingRules$Rules" "place" "[I") (by decide +kernel)
  have hf24 := hts (.fieldLink RX1 24 "ThingRules$Rules" "used" "[I") (by decide +kernel)
  have hf27 := hts (.fieldLink RX1 27 "ThingRules$Rules" "fell" "[I") (by decide +kernel)
  have hS : va_S (AQ 24 q) s.heap s.heap [] := va_S.rf
  have hP : va_P D vwCl (wX q cI cL u) s.heap := hP
  have hl := lv_entry ([.ref (q 3), .int p1, .int p2, .int p3, .int p4]) (n := 6) (Nat.le_of_ble_eq_true rfl)
  rw [lg_entry_eq]
  generalize (lg_sl ([.ref (q 3), .int p1, .int p2, .int p3, .int p4]) ++ List.replicate (6 - (lg_sl ([.ref (q 3), .int p1, .int p2, .int p3, .int p4])).length) Slot.unset).toArray = ls at hl ⊢
  have hl : lv_has ls 6 [(0, .ref (q 3)), (1, .int p1), (2, .int p2), (3, .int p3), (4, .int p4)] := hl
  have hsp : sXR_make u p1 p2 p3 p4 = _ := sXR_make.eq_1 u p1 p2 p3 p4
  unfold okXR_make at hok
  refine lv_aload_n hx hb dX1_make_0 rfl (lv_at hl 0 rfl) ?_
  refine va_get (D := D) (ci := 4) (v := .int (u.1 3)) (C := RX1) (T := TX1) (N := 7) hx hb hts hiX1 hown hK hP 3 rfl rfl 0 (by decide) hf30 (fun _ h9 => h9) rfl dX1_make_1 ?_
  refine lv_bipush (v := 16) hx hb dX1_make_4 (by decide) ?_
  refine lv_icmp_lt (tgt := 12) hx hb dX1_make_6 (by decide) (fun c_1 => ?_) (fun c_1 => ?_)
  · have hsp := hsp.trans (if_pos c_1)
    have hok := hok.1 c_1
    refine lv_aload_n hx hb dX1_make_12 rfl (lv_at hl 0 rfl) ?_
    refine va_get (D := D) (ci := 4) (v := .int (u.1 3)) (C := RX1) (T := TX1) (N := 7) hx hb hts hiX1 hown hK hP 3 rfl rfl 0 (by decide) hf30 (fun _ h9 => h9) rfl dX1_make_13 ?_
    refine lv_topi (fun y1 hy1 => ?_)
    have hsp := hsp.trans (bnd_eq hy1)
    have hok := bnd_ok hy1 hok
    refine lv_istore (lv' := [(5, .int y1), (0, .ref (q 3)), (1, .int p1), (2, .int p2), (3, .int p3), (4, .int p4)]) hx hb dX1_make_16 hl (by decide) rfl (fun ls hl => ?_)
    refine lv_aload_n hx hb dX1_make_18 rfl (lv_at hl 1 rfl) ?_
    refine va_get (D := D) (ci := 4) (v := .ref (q 18)) (C := RX1) (T := TX1) (N := 7) hx hb hts hiX1 hown hK hP 3 rfl rfl 1 (by decide) hf9 (fun _ h9 => h9) rfl dX1_make_19 ?_
    refine lv_iload hx hb dX1_make_22 (lv_at hl 0 rfl) ?_
    refine lv_iload_n hx hb dX1_make_24 rfl (lv_at hl 2 rfl) ?_
    have h_2 := hok.1
    have hok := hok.2
    refine va_iast hx hb hK hP (dX hq) hS 18 0 rfl rfl h_2 dX1_make_25 (fun H locs hP _ hS => ?_)
    obtain ⟨u2, hu2⟩ : ∃ z : St, z = (stA u 18 y1.toNatClampNeg p1) := ⟨_, rfl⟩
    have hP : va_P D vwCl (wX q cI cL u2) H := by rw [hu2]; exact hP
    have hsp := hsp.trans (bnd_eq hu2)
    have hok := bnd_ok hu2 hok
    refine lv_aload_n hx hb dX1_make_26 rfl (lv_at hl 1 rfl) ?_
    refine va_get (D := D) (ci := 4) (v := .ref (q 19)) (C := RX1) (T := TX1) (N := 7) hx hb hts hiX1 hown hK hP 3 rfl rfl 2 (by decide) hf15 (fun _ h9 => h9) rfl dX1_make_27 ?_
    refine lv_iload hx hb dX1_make_30 (lv_at hl 0 rfl) ?_
    refine lv_iload_n hx hb dX1_make_32 rfl (lv_at hl 3 rfl) ?_
    have h_3 := hok.1
    have hok := hok.2
    refine va_iast hx hb hK hP (dX hq) hS 19 0 rfl rfl h_3 dX1_make_33 (fun H locs hP _ hS => ?_)
    obtain ⟨u3, hu3⟩ : ∃ z : St, z = (stA u2 19 y1.toNatClampNeg p2) := ⟨_, rfl⟩
    have hP : va_P D vwCl (wX q cI cL u3) H := by rw [hu3]; exact hP
    have hsp := hsp.trans (bnd_eq hu3)
    have hok := bnd_ok hu3 hok
    refine lv_aload_n hx hb dX1_make_34 rfl (lv_at hl 1 rfl) ?_
    refine va_get (D := D) (ci := 4) (v := .ref (q 20)) (C := RX1) (T := TX1) (N := 7) hx hb hts hiX1 hown hK hP 3 rfl rfl 3 (by decide) hf18 (fun _ h9 => h9) rfl dX1_make_35 ?_
    refine lv_iload hx hb dX1_make_38 (lv_at hl 0 rfl) ?_
    refine lv_iload_n hx hb dX1_make_40 rfl (lv_at hl 4 rfl) ?_
    have h_4 := hok.1
    have hok := hok.2
    refine va_iast hx hb hK hP (dX hq) hS 20 0 rfl rfl h_4 dX1_make_41 (fun H locs hP _ hS => ?_)
    obtain ⟨u4, hu4⟩ : ∃ z : St, z = (stA u3 20 y1.toNatClampNeg p3) := ⟨_, rfl⟩
    have hP : va_P D vwCl (wX q cI cL u4) H := by rw [hu4]; exact hP
    have hsp := hsp.trans (bnd_eq hu4)
    have hok := bnd_ok hu4 hok
    refine lv_aload_n hx hb dX1_make_42 rfl (lv_at hl 1 rfl) ?_
    refine va_get (D := D) (ci := 4) (v := .ref (q 21)) (C := RX1) (T := TX1) (N := 7) hx hb hts hiX1 hown hK hP 3 rfl rfl 4 (by decide) hf21 (fun _ h9 => h9) rfl dX1_make_43 ?_
    refine lv_iload hx hb dX1_make_46 (lv_at hl 0 rfl) ?_
    refine lv_iload hx hb dX1_make_48 (lv_at hl 5 rfl) ?_
    have h_5 := hok.1
    have hok := hok.2
    refine va_iast hx hb hK hP (dX hq) hS 21 0 rfl rfl h_5 dX1_make_50 (fun H locs hP _ hS => ?_)
    obtain ⟨u5, hu5⟩ : ∃ z : St, z = (stA u4 21 y1.toNatClampNeg p4) := ⟨_, rfl⟩
    have hP : va_P D vwCl (wX q cI cL u5) H := by rw [hu5]; exact hP
    have hsp := hsp.trans (bnd_eq hu5)
    have hok := bnd_ok hu5 hok
    refine lv_aload_n hx hb dX1_make_51 rfl (lv_at hl 1 rfl) ?_
    refine va_get (D := D) (ci := 4) (v := .ref (q 22)) (C := RX1) (T := TX1) (N := 7) hx hb hts hiX1 hown hK hP 3 rfl rfl 5 (by decide) hf24 (fun _ h9 => h9) rfl dX1_make_52 ?_
    refine lv_iload hx hb dX1_make_55 (lv_at hl 0 rfl) ?_
    refine lv_iconst (v := 0) hx hb dX1_make_57 (by decide) ?_
    have h_6 := hok.1
    have hok := hok.2
    refine va_iast hx hb hK hP (dX hq) hS 22 0 rfl rfl h_6 dX1_make_58 (fun H locs hP _ hS => ?_)
    obtain ⟨u6, hu6⟩ : ∃ z : St, z = (stA u5 22 y1.toNatClampNeg 0) := ⟨_, rfl⟩
    have hP : va_P D vwCl (wX q cI cL u6) H := by rw [hu6]; exact hP
    have hsp := hsp.trans (bnd_eq hu6)
    have hok := bnd_ok hu6 hok
    refine lv_aload_n hx hb dX1_make_59 rfl (lv_at hl 1 rfl) ?_
    refine va_get (D := D) (ci := 4) (v := .ref (q 23)) (C := RX1) (T := TX1) (N := 7) hx hb hts hiX1 hown hK hP 3 rfl rfl 6 (by decide) hf27 (fun _ h9 => h9) rfl dX1_make_60 ?_
    refine lv_iload hx hb dX1_make_63 (lv_at hl 0 rfl) ?_
    refine lv_iconst (v := 0) hx hb dX1_make_65 (by decide) ?_
    have h_7 := hok.1
    have hok := hok.2
    refine va_iast hx hb hK hP (dX hq) hS 23 0 rfl rfl h_7 dX1_make_66 (fun H locs hP _ hS => ?_)
    obtain ⟨u7, hu7⟩ : ∃ z : St, z = (stA u6 23 y1.toNatClampNeg 0) := ⟨_, rfl⟩
    have hP : va_P D vwCl (wX q cI cL u7) H := by rw [hu7]; exact hP
    have hsp := hsp.trans (bnd_eq hu7)
    refine lv_aload_n hx hb dX1_make_67 rfl (lv_at hl 1 rfl) ?_
    refine lv_dup hx hb dX1_make_68 rfl ?_
    refine va_get (D := D) (ci := 4) (v := .int (u7.1 3)) (C := RX1) (T := TX1) (N := 7) hx hb hts hiX1 hown hK hP 3 rfl rfl 0 (by decide) hf30 (fun _ h9 => h9) rfl dX1_make_69 ?_
    refine lv_iconst (v := 1) hx hb dX1_make_72 (by decide) ?_
    refine lv_iadd hx hb dX1_make_73 ?_
    refine va_put (D := D) (ci := 4) (v := .int ((u7.1 3) + 1)) (ty := .int) (C := RX1) (T := TX1) (N := 7) hx hb hts hiX1 tyX1 tyX1_ok nmX1 hown hK hP (dX hq) hS 3 rfl rfl 0 (by decide) hf30 (fun _ h9 => h9) rfl (by decide +kernel) rfl rfl (Nat.le_of_ble_eq_true rfl) dX1_make_74 (fun H locs hP _ hS => ?_)
    obtain ⟨u8, hu8⟩ : ∃ z : St, z = (stI u7 3 ((u7.1 3) + 1)) := ⟨_, rfl⟩
    have hP : va_P D vwCl (wX q cI cL u8) H := by rw [hu8]; exact hP
    have hsp := hsp.trans (bnd_eq hu8)
    refine lv_iload hx hb dX1_make_77 (lv_at hl 0 rfl) ?_
    exact W.iret (v := y1) hx hb hr (fun t ht hW => ⟨⟨y1, u8, rfl, hsp.symm, PX_fin hP hK hZ hS ht hW⟩, hS.F ht⟩) hS.2.2 dX1_make_79
  · have hsp := hsp.trans (if_neg c_1)
    refine lv_bipush (v := (-4)) hx hb dX1_make_9 (by decide) ?_
    exact W.iret (v := (-4)) hx hb hr (fun t ht hW => ⟨⟨(-4), u, rfl, hsp.symm, PX_fin hP hK hZ hS ht hW⟩, hS.F ht⟩) hS.2.2 dX1_make_11
set_option maxHeartbeats 4000000 in
set_option maxRecDepth 100000 in
theorem cX_rule (l : Launch) (D : va_G) (q : Nat → Nat) (cI cL : ClassId) (tp : Nat) (hq : DQ 24 q) (u : St) (p1 : Int32) (p2 : Int32) (p3 : Int32) (p4 : Int32) (hok : okX_rule u p1 p2 p3 p4) : Met l yX3_rule wsX3_rule { frames := 2, cells := 0, slots := 0, locals := 42 } (va_Pc [.ref (q 0), .int p1, .int p2, .int p3, .int p4] (fun U => PX D q cI cL tp u U)) (va_Qi (fun (r : Int32) (u' : St) => (r, u') = sX_rule u p1 p2 p3 p4) (fun u' t => PX D q cI cL tp u' t) (AQ 24 q)) 0 0 (AQ 24 q) := by
  refine Met.ofW (cc := cX3_rule) (maxL := 5) (ret := (some .int)) (by decide) rfl ?_
  intro p e s m args below meth c s₁ B hml hv
  obtain ⟨rfl, hP, hK, hZ⟩ := hv
  have hx := B.exec
  have hb := B.bytes
  have hr := B.returns
  have hts := atoms_spec (ws := wsX3_rule) B.pre
  have hown : s.vm.findClass RX3 = some m.cls := findClass_of_methodNamed B.named
  have hlocks := B.notSynchronized
  have hiX3 : ∀ w ∈ u_ws RX3 TX3 7, w ∈ wsX3_rule := by decide +kernel
  have hf19 := hts (.fieldLink RX3 19 "ThingRules" "patterns" "LThingRules$Patterns;") (by decide +kernel)
  have hf26 := hts (.fieldLink RX3 26 "ThingRules" "rules" "LThingRules$Rules;") (by decide +kernel)
  have hS : va_S (AQ 24 q) s.heap s.heap [] := va_S.rf
  have hP : va_P D vwCl (wX q cI cL u) s.heap := hP
  have hl := lv_entry ([.ref (q 0), .int p1, .int p2, .int p3, .int p4]) (n := 5) (Nat.le_of_ble_eq_true rfl)
  rw [lg_entry_eq]
  generalize (lg_sl ([.ref (q 0), .int p1, .int p2, .int p3, .int p4]) ++ List.replicate (5 - (lg_sl ([.ref (q 0), .int p1, .int p2, .int p3, .int p4])).length) Slot.unset).toArray = ls at hl ⊢
  have hl : lv_has ls 5 [(0, .ref (q 0)), (1, .int p1), (2, .int p2), (3, .int p3), (4, .int p4)] := hl
  have hsp : sX_rule u p1 p2 p3 p4 = _ := sX_rule.eq_1 u p1 p2 p3 p4
  unfold okX_rule at hok
  refine lv_aload_n hx hb dX3_rule_0 rfl (lv_at hl 0 rfl) ?_
  refine va_get (D := D) (ci := 6) (v := .ref (q 2)) (C := RX3) (T := TX3) (N := 7) hx hb hts hiX3 hown hK hP 0 rfl rfl 1 (by decide) hf19 (fun _ h9 => h9) rfl dX3_rule_1 ?_
  refine lv_iload_n hx hb dX3_rule_4 rfl (lv_at hl 1 rfl) ?_
  refine vp_callSi (W.runV (As := [.int p1]) (rest := []) ⟨hx, hb, hml, hown, hts⟩ (cXP_know l D q cI cL tp u p1) (cwV 1 hts gX3_rule_X0_know rfl rfl rfl (by decide +kernel) ⟨(Nat.le_of_ble_eq_true rfl), (Nat.le_of_ble_eq_true rfl)⟩) ⟨PX_blind, va_recv hK hP (ci := 3) (q0 := 2) rfl rfl, fun U hU hW => ⟨rfl, PX_fin hP hK hZ hS hU hW⟩⟩ rfl rfl hl.1 rfl (lv_room (Nat.le_of_ble_eq_true rfl)) dX3_rule_5 ⟨(Nat.le_of_ble_eq_true rfl), (Nat.le_of_ble_eq_true rfl)⟩) (fun r_1 hr_1 => ?_)
  subst hr_1
  refine lv_if_ne (tgt := 13) hx hb dX3_rule_8 (by decide) (fun c_2 => ?_) (fun c_2 => ?_)
  · have hsp := hsp.trans (if_neg c_2)
    have hok := hok.2 c_2
    refine lv_iload_n hx hb dX3_rule_13 rfl (lv_at hl 2 rfl) ?_
    refine lv_iconst (v := 0) hx hb dX3_rule_14 (by decide) ?_
    refine lv_iconst (v := 5) hx hb dX3_rule_15 (by decide) ?_
    refine vp_callSi (W.runS (As := [.int p2, .int 0, .int 5]) (rest := []) ⟨hx, hb, hml, hown, hts⟩ (cX_within l p2 0 5) (va_cwS 3 hts gX3_rule_X3_within rfl rfl rfl (by decide +kernel) ⟨(Nat.le_of_ble_eq_true rfl), (Nat.le_of_ble_eq_true rfl)⟩) ⟨T_blind, fun U hU hW => ⟨rfl, trivial⟩⟩ rfl rfl hl.1 rfl (lv_room (Nat.le_of_ble_eq_true rfl)) dX3_rule_16 ⟨(Nat.le_of_ble_eq_true rfl), (Nat.le_of_ble_eq_true rfl)⟩) (fun r_3 hr_3 => ?_)
    subst hr_3
    refine lv_if_eq (tgt := 34) hx hb dX3_rule_19 (by decide) (fun c_4 => ?_) (fun c_4 => ?_)
    · have hsp := hsp.trans (if_pos c_4)
      refine lv_bipush (v := (-2)) hx hb dX3_rule_34 (by decide) ?_
      exact W.iret (v := (-2)) hx hb hr (fun t ht hW => ⟨⟨(-2), u, rfl, hsp.symm, PX_fin hP hK hZ hS ht hW⟩, hS.F ht⟩) hS.2.2 dX3_rule_36
    · have hsp := hsp.trans (if_neg c_4)
      have hok := hok.2 c_4
      refine lv_iload_n hx hb dX3_rule_22 rfl (lv_at hl 2 rfl) ?_
      refine lv_iconst (v := 1) hx hb dX3_rule_23 (by decide) ?_
      refine lv_icmp_ne (tgt := 37) hx hb dX3_rule_24 (by decide) (fun c_5 => ?_) (fun c_5 => ?_)
      · have hsp := hsp.trans (if_neg c_5)
        have hok := hok.2 c_5
        refine lv_aload_n hx hb dX3_rule_37 rfl (lv_at hl 0 rfl) ?_
        refine va_get (D := D) (ci := 6) (v := .ref (q 3)) (C := RX3) (T := TX3) (N := 7) hx hb hts hiX3 hown hK hP 0 rfl rfl 2 (by decide) hf26 (fun _ h9 => h9) rfl dX3_rule_38 ?_
        refine lv_iload_n hx hb dX3_rule_41 rfl (lv_at hl 1 rfl) ?_
        refine lv_iload_n hx hb dX3_rule_42 rfl (lv_at hl 2 rfl) ?_
        refine lv_iload_n hx hb dX3_rule_43 rfl (lv_at hl 3 rfl) ?_
        refine lv_iload hx hb dX3_rule_44 (lv_at hl 4 rfl) ?_
        have h_6 := hok.1
        have hok := hok.2
        refine va_calli (va_runV (As := [.int p1, .int p2, .int p3, .int p4]) (rest := []) ⟨hx, hb, hml, hown, hts⟩ (cXR_make l D q cI cL tp hq u p1 p2 p3 p4 h_6) (cwV 4 hts gX3_rule_X1_make rfl rfl rfl (by decide +kernel) ⟨(Nat.le_of_ble_eq_true rfl), (Nat.le_of_ble_eq_true rfl)⟩) ⟨PX_blind, va_recv hK hP (ci := 4) (q0 := 3) rfl rfl, fun U hU hW => ⟨rfl, PX_fin hP hK hZ hS hU hW⟩⟩ rfl rfl hl.1 rfl (lv_room (Nat.le_of_ble_eq_true rfl)) dX3_rule_46 ⟨(Nat.le_of_ble_eq_true rfl), (Nat.le_of_ble_eq_true rfl)⟩) hS (fun q _ h => h) (fun q h => h) (fun r1 u1 t H1 locs ht hvm hu1 hB hz1 hk1 hS => ?_)
        have hP := hB.1
        rw [ht] at hP
        clear hB hk1 hz1 hvm ht
        generalize H1 = H at hP hS ⊢
        refine W.widen (k := 0) (n := 0) (Nat.le_refl 0) (Nat.le_refl 0) ?_
        exact W.iret (v := r1) hx hb hr (fun t ht hW => ⟨⟨r1, u1, rfl, (hu1.trans hsp.symm), PX_fin hP hK hZ hS ht hW⟩, hS.F ht⟩) hS.2.2 dX3_rule_49
      · have hsp := hsp.trans (if_pos c_5)
        have hok := hok.1 c_5
        refine lv_iload_n hx hb dX3_rule_27 rfl (lv_at hl 3 rfl) ?_
        refine vp_callSi (W.runS (As := [.int p3]) (rest := []) ⟨hx, hb, hml, hown, hts⟩ (cX_isHolderKind l p3) (va_cwS 1 hts gX3_rule_X3_isHolderKind rfl rfl rfl (by decide +kernel) ⟨(Nat.le_of_ble_eq_true rfl), (Nat.le_of_ble_eq_true rfl)⟩) ⟨T_blind, fun U hU hW => ⟨rfl, trivial⟩⟩ rfl rfl hl.1 rfl (lv_room (Nat.le_of_ble_eq_true rfl)) dX3_rule_28 ⟨(Nat.le_of_ble_eq_true rfl), (Nat.le_of_ble_eq_true rfl)⟩) (fun r_7 hr_7 => ?_)
        subst hr_7
        refine lv_if_ne (tgt := 37) hx hb dX3_rule_31 (by decide) (fun c_8 => ?_) (fun c_8 => ?_)
        · have hsp := hsp.trans (if_neg c_8)
          have hok := hok.2 c_8
          refine lv_aload_n hx hb dX3_rule_37 rfl (lv_at hl 0 rfl) ?_
          refine va_get (D := D) (ci := 6) (v := .ref (q 3)) (C := RX3) (T := TX3) (N := 7) hx hb hts hiX3 hown hK hP 0 rfl rfl 2 (by decide) hf26 (fun _ h9 => h9) rfl dX3_rule_38 ?_
          refine lv_iload_n hx hb dX3_rule_41 rfl (lv_at hl 1 rfl) ?_
          refine lv_iload_n hx hb dX3_rule_42 rfl (lv_at hl 2 rfl) ?_
          refine lv_iload_n hx hb dX3_rule_43 rfl (lv_at hl 3 rfl) ?_
          refine lv_iload hx hb dX3_rule_44 (lv_at hl 4 rfl) ?_
          have h_9 := hok.1
          have hok := hok.2
          refine va_calli (va_runV (As := [.int p1, .int p2, .int p3, .int p4]) (rest := []) ⟨hx, hb, hml, hown, hts⟩ (cXR_make l D q cI cL tp hq u p1 p2 p3 p4 h_9) (cwV 4 hts gX3_rule_X1_make rfl rfl rfl (by decide +kernel) ⟨(Nat.le_of_ble_eq_true rfl), (Nat.le_of_ble_eq_true rfl)⟩) ⟨PX_blind, va_recv hK hP (ci := 4) (q0 := 3) rfl rfl, fun U hU hW => ⟨rfl, PX_fin hP hK hZ hS hU hW⟩⟩ rfl rfl hl.1 rfl (lv_room (Nat.le_of_ble_eq_true rfl)) dX3_rule_46 ⟨(Nat.le_of_ble_eq_true rfl), (Nat.le_of_ble_eq_true rfl)⟩) hS (fun q _ h => h) (fun q h => h) (fun r2 u2 t H1 locs ht hvm hu2 hB hz1 hk1 hS => ?_)
          have hP := hB.1
          rw [ht] at hP
          clear hB hk1 hz1 hvm ht
          generalize H1 = H at hP hS ⊢
          refine W.widen (k := 0) (n := 0) (Nat.le_refl 0) (Nat.le_refl 0) ?_
          exact W.iret (v := r2) hx hb hr (fun t ht hW => ⟨⟨r2, u2, rfl, (hu2.trans hsp.symm), PX_fin hP hK hZ hS ht hW⟩, hS.F ht⟩) hS.2.2 dX3_rule_49
        · have hsp := hsp.trans (if_pos c_8)
          refine lv_bipush (v := (-2)) hx hb dX3_rule_34 (by decide) ?_
          exact W.iret (v := (-2)) hx hb hr (fun t ht hW => ⟨⟨(-2), u, rfl, hsp.symm, PX_fin hP hK hZ hS ht hW⟩, hS.F ht⟩) hS.2.2 dX3_rule_36
  · have hsp := hsp.trans (if_pos c_2)
    refine lv_iconst (v := (-1)) hx hb dX3_rule_11 (by decide) ?_
    exact W.iret (v := (-1)) hx hb hr (fun t ht hW => ⟨⟨(-1), u, rfl, hsp.symm, PX_fin hP hK hZ hS ht hW⟩, hS.F ht⟩) hS.2.2 dX3_rule_12
set_option maxHeartbeats 4000000 in
set_option maxRecDepth 100000 in
theorem cX_turnSlots (l : Launch) (D : va_G) (q : Nat → Nat) (cI cL : ClassId) (tp : Nat) (hq : DQ 24 q) (u : St) (hok : okX_turnSlots u) : Met l yX3_turnSlots wsX3_turnSlots { frames := 0, cells := 0, slots := 0, locals := 0 } (va_Pc [.ref (q 0)] (fun U => PX D q cI cL tp u U)) (va_Qi (fun (r : Int32) (u' : St) => (r, u') = sX_turnSlots u) (fun u' t => PX D q cI cL tp u' t) (AQ 24 q)) 0 0 (AQ 24 q) := by
  refine Met.ofW (cc := cX3_turnSlots) (maxL := 2) (ret := (some .int)) (by decide) rfl ?_
  intro p e s m args below meth c s₁ B hml hv
  obtain ⟨rfl, hP, hK, hZ⟩ := hv
  have hx := B.exec
  have hb := B.bytes
  have hr := B.returns
  have hts := atoms_spec (ws := wsX3_turnSlots) B.pre
  have hown : s.vm.findClass RX3 = some m.cls := findClass_of_methodNamed B.named
  have hlocks := B.notSynchronized
  have hiX3 : ∀ w ∈ u_ws RX3 TX3 7, w ∈ wsX3_turnSlots := by decide +kernel
  have hf30 := hts (.fieldLink RX3 30 "ThingRules" "slots" "[I") (by decide +kernel)
  have hS : va_S (AQ 24 q) s.heap s.heap [] := va_S.rf
  have hP : va_P D vwCl (wX q cI cL u) s.heap := hP
  have hl := lv_entry ([.ref (q 0)]) (n := 2) (Nat.le_of_ble_eq_true rfl)
  rw [lg_entry_eq]
  generalize (lg_sl ([.ref (q 0)]) ++ List.replicate (2 - (lg_sl ([.ref (q 0)])).length) Slot.unset).toArray = ls at hl ⊢
  have hl : lv_has ls 2 [(0, .ref (q 0))] := hl
  have hsp : sX_turnSlots u = _ := sX_turnSlots.eq_1 u
  unfold okX_turnSlots at hok
  refine lv_aload_n hx hb dX3_turnSlots_0 rfl (lv_at hl 0 rfl) ?_
  refine va_get (D := D) (ci := 6) (v := .ref (q 4)) (C := RX3) (T := TX3) (N := 7) hx hb hts hiX3 hown hK hP 0 rfl rfl 3 (by decide) hf30 (fun _ h9 => h9) rfl dX3_turnSlots_1 ?_
  refine lv_iconst (v := 0) hx hb dX3_turnSlots_4 (by decide) ?_
  have h_1 := hok.1
  have hok := hok.2
  refine va_iald hx hb hK hP 4 0 rfl rfl h_1 dX3_turnSlots_5 ?_
  refine lv_topi (fun y1 hy1 => ?_)
  have hsp := hsp.trans (bnd_eq hy1)
  have hok := bnd_ok hy1 hok
  refine lv_istore_n (lv' := [(1, .int y1), (0, .ref (q 0))]) hx hb dX3_turnSlots_6 rfl hl (by decide) rfl (fun ls hl => ?_)
  refine lv_aload_n hx hb dX3_turnSlots_7 rfl (lv_at hl 1 rfl) ?_
  refine va_get (D := D) (ci := 6) (v := .ref (q 4)) (C := RX3) (T := TX3) (N := 7) hx hb hts hiX3 hown hK hP 0 rfl rfl 3 (by decide) hf30 (fun _ h9 => h9) rfl dX3_turnSlots_8 ?_
  refine lv_iconst (v := 0) hx hb dX3_turnSlots_11 (by decide) ?_
  refine lv_aload_n hx hb dX3_turnSlots_12 rfl (lv_at hl 1 rfl) ?_
  refine va_get (D := D) (ci := 6) (v := .ref (q 4)) (C := RX3) (T := TX3) (N := 7) hx hb hts hiX3 hown hK hP 0 rfl rfl 3 (by decide) hf30 (fun _ h9 => h9) rfl dX3_turnSlots_13 ?_
  refine lv_iconst (v := 1) hx hb dX3_turnSlots_16 (by decide) ?_
  have h_2 := hok.1
  have hok := hok.2
  refine va_iald hx hb hK hP 4 0 rfl rfl h_2 dX3_turnSlots_17 ?_
  have h_3 := hok.1
  have hok := hok.2
  refine va_iast hx hb hK hP (dX hq) hS 4 0 rfl rfl h_3 dX3_turnSlots_18 (fun H locs hP _ hS => ?_)
  obtain ⟨u2, hu2⟩ : ∃ z : St, z = (stA u 4 (0 : Int32).toNatClampNeg (u.2.1 4 (1 : Int32).toNatClampNeg)) := ⟨_, rfl⟩
  have hP : va_P D vwCl (wX q cI cL u2) H := by rw [hu2]; exact hP
  have hsp := hsp.trans (bnd_eq hu2)
  have hok := bnd_ok hu2 hok
  refine lv_aload_n hx hb dX3_turnSlots_19 rfl (lv_at hl 1 rfl) ?_
  refine va_get (D := D) (ci := 6) (v := .ref (q 4)) (C := RX3) (T := TX3) (N := 7) hx hb hts hiX3 hown hK hP 0 rfl rfl 3 (by decide) hf30 (fun _ h9 => h9) rfl dX3_turnSlots_20 ?_
  refine lv_iconst (v := 1) hx hb dX3_turnSlots_23 (by decide) ?_
  refine lv_iload_n hx hb dX3_turnSlots_24 rfl (lv_at hl 0 rfl) ?_
  have h_4 := hok.1
  have hok := hok.2
  refine va_iast hx hb hK hP (dX hq) hS 4 0 rfl rfl h_4 dX3_turnSlots_25 (fun H locs hP _ hS => ?_)
  obtain ⟨u3, hu3⟩ : ∃ z : St, z = (stA u2 4 (1 : Int32).toNatClampNeg y1) := ⟨_, rfl⟩
  have hP : va_P D vwCl (wX q cI cL u3) H := by rw [hu3]; exact hP
  have hsp := hsp.trans (bnd_eq hu3)
  refine lv_iconst (v := 1) hx hb dX3_turnSlots_26 (by decide) ?_
  exact W.iret (v := 1) hx hb hr (fun t ht hW => ⟨⟨1, u3, rfl, hsp.symm, PX_fin hP hK hZ hS ht hW⟩, hS.F ht⟩) hS.2.2 dX3_turnSlots_27
set_option maxHeartbeats 4000000 in
set_option maxRecDepth 100000 in
theorem cX_doAct (l : Launch) (D : va_G) (q : Nat → Nat) (cI cL : ClassId) (tp : Nat) (hq : DQ 24 q) (u : St) (p1 : Int32) (p2 : Int32) (p3 : Int32) (hok : okX_doAct u p1 p2 p3) : Met l yX3_doAct wsX3_doAct { frames := 5, cells := 0, slots := 0, locals := 115 } (va_Pc [.ref (q 0), .int p1, .int p2, .int p3] (fun U => PX D q cI cL tp u U)) (va_Qi (fun (r : Int32) (u' : St) => (r, u') = sX_doAct u p1 p2 p3) (fun u' t => PX D q cI cL tp u' t) (AQ 24 q)) 0 0 (AQ 24 q) := by
  refine Met.ofW (cc := cX3_doAct) (maxL := 4) (ret := (some .int)) (by decide) rfl ?_
  intro p e s m args below meth c s₁ B hml hv
  obtain ⟨rfl, hP, hK, hZ⟩ := hv
  have hx := B.exec
  have hb := B.bytes
  have hr := B.returns
  have hts := atoms_spec (ws := wsX3_doAct) B.pre
  have hown : s.vm.findClass RX3 = some m.cls := findClass_of_methodNamed B.named
  have hlocks := B.notSynchronized
  have hiX3 : ∀ w ∈ u_ws RX3 TX3 7, w ∈ wsX3_doAct := by decide +kernel
  have hf10 := hts (.fieldLink RX3 10 "ThingRules" "things" "LThingRules$Things;") (by decide +kernel)
  have hf30 := hts (.fieldLink RX3 30 "ThingRules" "slots" "[I") (by decide +kernel)
  have hS : va_S (AQ 24 q) s.heap s.heap [] := va_S.rf
  have hP : va_P D vwCl (wX q cI cL u) s.heap := hP
  have hl := lv_entry ([.ref (q 0), .int p1, .int p2, .int p3]) (n := 4) (Nat.le_of_ble_eq_true rfl)
  rw [lg_entry_eq]
  generalize (lg_sl ([.ref (q 0), .int p1, .int p2, .int p3]) ++ List.replicate (4 - (lg_sl ([.ref (q 0), .int p1, .int p2, .int p3])).length) Slot.unset).toArray = ls at hl ⊢
  have hl : lv_has ls 4 [(0, .ref (q 0)), (1, .int p1), (2, .int p2), (3, .int p3)] := hl
  have hsp : sX_doAct u p1 p2 p3 = _ := sX_doAct.eq_1 u p1 p2 p3
  unfold okX_doAct at hok
  refine lv_iload_n hx hb dX3_doAct_0 rfl (lv_at hl 1 rfl) ?_
  by_cases c_1 : p1 = 1
  · have hsp := hsp.trans (if_pos c_1)
    have hok := hok.1 c_1
    refine lv_tableIn (off := 35) (tgt := 36) hx hb dX3_doAct_1 (by rw [c_1]; decide) (by rw [c_1]; decide) (by rw [c_1]; rfl) (by decide) ?_
    refine lv_aload_n hx hb dX3_doAct_36 rfl (lv_at hl 0 rfl) ?_
    refine va_get (D := D) (ci := 6) (v := .ref (q 1)) (C := RX3) (T := TX3) (N := 7) hx hb hts hiX3 hown hK hP 0 rfl rfl 0 (by decide) hf10 (fun _ h9 => h9) rfl dX3_doAct_37 ?_
    refine lv_aload_n hx hb dX3_doAct_40 rfl (lv_at hl 0 rfl) ?_
    refine va_get (D := D) (ci := 6) (v := .ref (q 4)) (C := RX3) (T := TX3) (N := 7) hx hb hts hiX3 hown hK hP 0 rfl rfl 3 (by decide) hf30 (fun _ h9 => h9) rfl dX3_doAct_41 ?_
    refine lv_iconst (v := 0) hx hb dX3_doAct_44 (by decide) ?_
    have h_2 := hok.1
    have hok := hok.2
    refine va_iald hx hb hK hP 4 0 rfl rfl h_2 dX3_doAct_45 ?_
    refine lv_iload_n hx hb dX3_doAct_46 rfl (lv_at hl 2 rfl) ?_
    refine lv_iload_n hx hb dX3_doAct_47 rfl (lv_at hl 3 rfl) ?_
    refine lv_aload_n hx hb dX3_doAct_48 rfl (lv_at hl 0 rfl) ?_
    refine va_get (D := D) (ci := 6) (v := .ref (q 4)) (C := RX3) (T := TX3) (N := 7) hx hb hts hiX3 hown hK hP 0 rfl rfl 3 (by decide) hf30 (fun _ h9 => h9) rfl dX3_doAct_49 ?_
    refine lv_iconst (v := 1) hx hb dX3_doAct_52 (by decide) ?_
    have h_3 := hok.1
    have hok := hok.2
    refine va_iald hx hb hK hP 4 0 rfl rfl h_3 dX3_doAct_53 ?_
    have h_4 := hok.1
    have hok := hok.2
    refine va_calli (va_runV (As := [.int (u.2.1 4 (0 : Int32).toNatClampNeg), .int p2, .int p3, .int (u.2.1 4 (1 : Int32).toNatClampNeg)]) (rest := []) ⟨hx, hb, hml, hown, hts⟩ (cXT_layIn l D q cI cL tp hq u (u.2.1 4 (0 : Int32).toNatClampNeg) p2 p3 (u.2.1 4 (1 : Int32).toNatClampNeg) h_4) (cwV 4 hts gX3_doAct_X2_layIn rfl rfl rfl (by decide +kernel) ⟨(Nat.le_of_ble_eq_true rfl), (Nat.le_of_ble_eq_true rfl)⟩) ⟨PX_blind, va_recv hK hP (ci := 5) (q0 := 1) rfl rfl, fun U hU hW => ⟨rfl, PX_fin hP hK hZ hS hU hW⟩⟩ rfl rfl hl.1 rfl (lv_room (Nat.le_of_ble_eq_true rfl)) dX3_doAct_54 ⟨(Nat.le_of_ble_eq_true rfl), (Nat.le_of_ble_eq_true rfl)⟩) hS (fun q _ h => h) (fun q h => h) (fun r1 u1 t H1 locs ht hvm hu1 hB hz1 hk1 hS => ?_)
    have hP := hB.1
    rw [ht] at hP
    clear hB hk1 hz1 hvm ht
    generalize H1 = H at hP hS ⊢
    refine W.widen (k := 0) (n := 0) (Nat.le_refl 0) (Nat.le_refl 0) ?_
    exact W.iret (v := r1) hx hb hr (fun t ht hW => ⟨⟨r1, u1, rfl, (hu1.trans hsp.symm), PX_fin hP hK hZ hS ht hW⟩, hS.F ht⟩) hS.2.2 dX3_doAct_57
  · have hsp := hsp.trans (if_neg c_1)
    have hok := hok.2 c_1
    by_cases c_5 : p1 = 2
    · have hsp := hsp.trans (if_pos c_5)
      have hok := hok.1 c_5
      refine lv_tableIn (off := 57) (tgt := 58) hx hb dX3_doAct_1 (by rw [c_5]; decide) (by rw [c_5]; decide) (by rw [c_5]; rfl) (by decide) ?_
      refine lv_aload_n hx hb dX3_doAct_58 rfl (lv_at hl 0 rfl) ?_
      refine va_get (D := D) (ci := 6) (v := .ref (q 1)) (C := RX3) (T := TX3) (N := 7) hx hb hts hiX3 hown hK hP 0 rfl rfl 0 (by decide) hf10 (fun _ h9 => h9) rfl dX3_doAct_59 ?_
      refine lv_aload_n hx hb dX3_doAct_62 rfl (lv_at hl 0 rfl) ?_
      refine va_get (D := D) (ci := 6) (v := .ref (q 4)) (C := RX3) (T := TX3) (N := 7) hx hb hts hiX3 hown hK hP 0 rfl rfl 3 (by decide) hf30 (fun _ h9 => h9) rfl dX3_doAct_63 ?_
      refine lv_iconst (v := 0) hx hb dX3_doAct_66 (by decide) ?_
      have h_6 := hok.1
      have hok := hok.2
      refine va_iald hx hb hK hP 4 0 rfl rfl h_6 dX3_doAct_67 ?_
      refine lv_iconst (v := 0) hx hb dX3_doAct_68 (by decide) ?_
      refine lv_aload_n hx hb dX3_doAct_69 rfl (lv_at hl 0 rfl) ?_
      refine va_get (D := D) (ci := 6) (v := .ref (q 4)) (C := RX3) (T := TX3) (N := 7) hx hb hts hiX3 hown hK hP 0 rfl rfl 3 (by decide) hf30 (fun _ h9 => h9) rfl dX3_doAct_70 ?_
      refine lv_iconst (v := 1) hx hb dX3_doAct_73 (by decide) ?_
      have h_7 := hok.1
      have hok := hok.2
      refine va_iald hx hb hK hP 4 0 rfl rfl h_7 dX3_doAct_74 ?_
      have h_8 := hok.1
      have hok := hok.2
      refine va_calli (va_runV (As := [.int (u.2.1 4 (0 : Int32).toNatClampNeg), .int 0, .int (u.2.1 4 (1 : Int32).toNatClampNeg)]) (rest := []) ⟨hx, hb, hml, hown, hts⟩ (cXT_setHalf l D q cI cL tp hq u (u.2.1 4 (0 : Int32).toNatClampNeg) 0 (u.2.1 4 (1 : Int32).toNatClampNeg) h_8) (cwV 3 hts gX3_doAct_X2_setHalf rfl rfl rfl (by decide +kernel) ⟨(Nat.le_of_ble_eq_true rfl), (Nat.le_of_ble_eq_true rfl)⟩) ⟨PX_blind, va_recv hK hP (ci := 5) (q0 := 1) rfl rfl, fun U hU hW => ⟨rfl, PX_fin hP hK hZ hS hU hW⟩⟩ rfl rfl hl.1 rfl (lv_room (Nat.le_of_ble_eq_true rfl)) dX3_doAct_75 ⟨(Nat.le_of_ble_eq_true rfl), (Nat.le_of_ble_eq_true rfl)⟩) hS (fun q _ h => h) (fun q h => h) (fun r2 u2 t H1 locs ht hvm hu2 hB hz1 hk1 hS => ?_)
      have hP := hB.1
      rw [ht] at hP
      clear hB hk1 hz1 hvm ht
      generalize H1 = H at hP hS ⊢
      refine W.widen (k := 0) (n := 0) (Nat.le_refl 0) (Nat.le_refl 0) ?_
      exact W.iret (v := r2) hx hb hr (fun t ht hW => ⟨⟨r2, u2, rfl, (hu2.trans hsp.symm), PX_fin hP hK hZ hS ht hW⟩, hS.F ht⟩) hS.2.2 dX3_doAct_78
    · have hsp := hsp.trans (if_neg c_5)
      have hok := hok.2 c_5
      by_cases c_9 : p1 = 3
      · have hsp := hsp.trans (if_pos c_9)
        have hok := hok.1 c_9
        refine lv_tableIn (off := 78) (tgt := 79) hx hb dX3_doAct_1 (by rw [c_9]; decide) (by rw [c_9]; decide) (by rw [c_9]; rfl) (by decide) ?_
        refine lv_aload_n hx hb dX3_doAct_79 rfl (lv_at hl 0 rfl) ?_
        refine va_get (D := D) (ci := 6) (v := .ref (q 1)) (C := RX3) (T := TX3) (N := 7) hx hb hts hiX3 hown hK hP 0 rfl rfl 0 (by decide) hf10 (fun _ h9 => h9) rfl dX3_doAct_80 ?_
        refine lv_aload_n hx hb dX3_doAct_83 rfl (lv_at hl 0 rfl) ?_
        refine va_get (D := D) (ci := 6) (v := .ref (q 4)) (C := RX3) (T := TX3) (N := 7) hx hb hts hiX3 hown hK hP 0 rfl rfl 3 (by decide) hf30 (fun _ h9 => h9) rfl dX3_doAct_84 ?_
        refine lv_iconst (v := 0) hx hb dX3_doAct_87 (by decide) ?_
        have h_10 := hok.1
        have hok := hok.2
        refine va_iald hx hb hK hP 4 0 rfl rfl h_10 dX3_doAct_88 ?_
        refine lv_iconst (v := 1) hx hb dX3_doAct_89 (by decide) ?_
        refine lv_aload_n hx hb dX3_doAct_90 rfl (lv_at hl 0 rfl) ?_
        refine va_get (D := D) (ci := 6) (v := .ref (q 4)) (C := RX3) (T := TX3) (N := 7) hx hb hts hiX3 hown hK hP 0 rfl rfl 3 (by decide) hf30 (fun _ h9 => h9) rfl dX3_doAct_91 ?_
        refine lv_iconst (v := 1) hx hb dX3_doAct_94 (by decide) ?_
        have h_11 := hok.1
        have hok := hok.2
        refine va_iald hx hb hK hP 4 0 rfl rfl h_11 dX3_doAct_95 ?_
        have h_12 := hok.1
        have hok := hok.2
        refine va_calli (va_runV (As := [.int (u.2.1 4 (0 : Int32).toNatClampNeg), .int 1, .int (u.2.1 4 (1 : Int32).toNatClampNeg)]) (rest := []) ⟨hx, hb, hml, hown, hts⟩ (cXT_setHalf l D q cI cL tp hq u (u.2.1 4 (0 : Int32).toNatClampNeg) 1 (u.2.1 4 (1 : Int32).toNatClampNeg) h_12) (cwV 3 hts gX3_doAct_X2_setHalf rfl rfl rfl (by decide +kernel) ⟨(Nat.le_of_ble_eq_true rfl), (Nat.le_of_ble_eq_true rfl)⟩) ⟨PX_blind, va_recv hK hP (ci := 5) (q0 := 1) rfl rfl, fun U hU hW => ⟨rfl, PX_fin hP hK hZ hS hU hW⟩⟩ rfl rfl hl.1 rfl (lv_room (Nat.le_of_ble_eq_true rfl)) dX3_doAct_96 ⟨(Nat.le_of_ble_eq_true rfl), (Nat.le_of_ble_eq_true rfl)⟩) hS (fun q _ h => h) (fun q h => h) (fun r3 u3 t H1 locs ht hvm hu3 hB hz1 hk1 hS => ?_)
        have hP := hB.1
        rw [ht] at hP
        clear hB hk1 hz1 hvm ht
        generalize H1 = H at hP hS ⊢
        refine W.widen (k := 0) (n := 0) (Nat.le_refl 0) (Nat.le_refl 0) ?_
        exact W.iret (v := r3) hx hb hr (fun t ht hW => ⟨⟨r3, u3, rfl, (hu3.trans hsp.symm), PX_fin hP hK hZ hS ht hW⟩, hS.F ht⟩) hS.2.2 dX3_doAct_99
      · have hsp := hsp.trans (if_neg c_9)
        have hok := hok.2 c_9
        by_cases c_13 : p1 = 4
        · have hsp := hsp.trans (if_pos c_13)
          have hok := hok.1 c_13
          refine lv_tableIn (off := 99) (tgt := 100) hx hb dX3_doAct_1 (by rw [c_13]; decide) (by rw [c_13]; decide) (by rw [c_13]; rfl) (by decide) ?_
          refine lv_aload_n hx hb dX3_doAct_100 rfl (lv_at hl 0 rfl) ?_
          have h_14 := hok.1
          have hok := hok.2
          refine va_calli (va_runV (As := []) (rest := []) ⟨hx, hb, hml, hown, hts⟩ (cX_turnSlots l D q cI cL tp hq u h_14) (cwV 0 hts gX3_doAct_X3_turnSlots rfl rfl rfl (by decide +kernel) ⟨(Nat.le_of_ble_eq_true rfl), (Nat.le_of_ble_eq_true rfl)⟩) ⟨PX_blind, va_recv hK hP (ci := 6) (q0 := 0) rfl rfl, fun U hU hW => ⟨rfl, PX_fin hP hK hZ hS hU hW⟩⟩ rfl rfl hl.1 rfl (lv_room (Nat.le_of_ble_eq_true rfl)) dX3_doAct_101 ⟨(Nat.le_of_ble_eq_true rfl), (Nat.le_of_ble_eq_true rfl)⟩) hS (fun q _ h => h) (fun q h => h) (fun r4 u4 t H1 locs ht hvm hu4 hB hz1 hk1 hS => ?_)
          have hP := hB.1
          rw [ht] at hP
          clear hB hk1 hz1 hvm ht
          generalize H1 = H at hP hS ⊢
          refine W.widen (k := 0) (n := 0) (Nat.le_refl 0) (Nat.le_refl 0) ?_
          exact W.iret (v := r4) hx hb hr (fun t ht hW => ⟨⟨r4, u4, rfl, (hu4.trans hsp.symm), PX_fin hP hK hZ hS ht hW⟩, hS.F ht⟩) hS.2.2 dX3_doAct_104
        · have hsp := hsp.trans (if_neg c_13)
          have hok := hok.2 c_13
          by_cases c_15 : p1 = 5
          · have hsp := hsp.trans (if_pos c_15)
            have hok := hok.1 c_15
            refine lv_tableIn (off := 104) (tgt := 105) hx hb dX3_doAct_1 (by rw [c_15]; decide) (by rw [c_15]; decide) (by rw [c_15]; rfl) (by decide) ?_
            refine lv_aload_n hx hb dX3_doAct_105 rfl (lv_at hl 0 rfl) ?_
            refine va_get (D := D) (ci := 6) (v := .ref (q 1)) (C := RX3) (T := TX3) (N := 7) hx hb hts hiX3 hown hK hP 0 rfl rfl 0 (by decide) hf10 (fun _ h9 => h9) rfl dX3_doAct_106 ?_
            refine lv_aload_n hx hb dX3_doAct_109 rfl (lv_at hl 0 rfl) ?_
            refine va_get (D := D) (ci := 6) (v := .ref (q 4)) (C := RX3) (T := TX3) (N := 7) hx hb hts hiX3 hown hK hP 0 rfl rfl 3 (by decide) hf30 (fun _ h9 => h9) rfl dX3_doAct_110 ?_
            refine lv_iconst (v := 0) hx hb dX3_doAct_113 (by decide) ?_
            have h_16 := hok.1
            have hok := hok.2
            refine va_iald hx hb hK hP 4 0 rfl rfl h_16 dX3_doAct_114 ?_
            refine lv_iconst (v := 4) hx hb dX3_doAct_115 (by decide) ?_
            refine lv_iload_n hx hb dX3_doAct_116 rfl (lv_at hl 3 rfl) ?_
            refine lv_aload_n hx hb dX3_doAct_117 rfl (lv_at hl 0 rfl) ?_
            refine va_get (D := D) (ci := 6) (v := .ref (q 1)) (C := RX3) (T := TX3) (N := 7) hx hb hts hiX3 hown hK hP 0 rfl rfl 0 (by decide) hf10 (fun _ h9 => h9) rfl dX3_doAct_118 ?_
            refine lv_aload_n hx hb dX3_doAct_121 rfl (lv_at hl 0 rfl) ?_
            refine va_get (D := D) (ci := 6) (v := .ref (q 4)) (C := RX3) (T := TX3) (N := 7) hx hb hts hiX3 hown hK hP 0 rfl rfl 3 (by decide) hf30 (fun _ h9 => h9) rfl dX3_doAct_122 ?_
            refine lv_iconst (v := 0) hx hb dX3_doAct_125 (by decide) ?_
            have h_17 := hok.1
            have hok := hok.2
            refine va_iald hx hb hK hP 4 0 rfl rfl h_17 dX3_doAct_126 ?_
            refine lv_iload_n hx hb dX3_doAct_127 rfl (lv_at hl 3 rfl) ?_
            have h_18 := hok.1
            have hok := hok.2
            refine vp_callSl (W.runV (As := [.int (u.2.1 4 (0 : Int32).toNatClampNeg), .int p3]) (rest := [.int p3, .int 4, .int (u.2.1 4 (0 : Int32).toNatClampNeg), .ref (q 1)]) ⟨hx, hb, hml, hown, hts⟩ (cXT_numberIn l D q cI cL tp u (u.2.1 4 (0 : Int32).toNatClampNeg) p3 h_18) (cwV 2 hts gX3_doAct_X2_numberIn rfl rfl rfl (by decide +kernel) ⟨(Nat.le_of_ble_eq_true rfl), (Nat.le_of_ble_eq_true rfl)⟩) ⟨PX_blind, va_recv hK hP (ci := 5) (q0 := 1) rfl rfl, fun U hU hW => ⟨rfl, PX_fin hP hK hZ hS hU hW⟩⟩ rfl rfl hl.1 rfl (lv_room (Nat.le_of_ble_eq_true rfl)) dX3_doAct_128 ⟨(Nat.le_of_ble_eq_true rfl), (Nat.le_of_ble_eq_true rfl)⟩) (fun r_19 hr_19 => ?_)
            subst hr_19
            refine lv_lconst (v := 1) hx hb dX3_doAct_131 (by decide) ?_
            refine lv_ladd hx hb dX3_doAct_132 ?_
            have h_20 := hok.1
            have hok := hok.2
            refine va_calli (va_runV (As := [.int (u.2.1 4 (0 : Int32).toNatClampNeg), .int 4, .int p3, .long ((sXT_numberIn u (u.2.1 4 (0 : Int32).toNatClampNeg) p3) + 1)]) (rest := []) ⟨hx, hb, hml, hown, hts⟩ (cXT_putNumber l D q cI cL tp hq u (u.2.1 4 (0 : Int32).toNatClampNeg) 4 p3 ((sXT_numberIn u (u.2.1 4 (0 : Int32).toNatClampNeg) p3) + 1) h_20) (cwV 4 hts gX3_doAct_X2_putNumber rfl rfl rfl (by decide +kernel) ⟨(Nat.le_of_ble_eq_true rfl), (Nat.le_of_ble_eq_true rfl)⟩) ⟨PX_blind, va_recv hK hP (ci := 5) (q0 := 1) rfl rfl, fun U hU hW => ⟨rfl, PX_fin hP hK hZ hS hU hW⟩⟩ rfl rfl hl.1 rfl (lv_room (Nat.le_of_ble_eq_true rfl)) dX3_doAct_133 ⟨(Nat.le_of_ble_eq_true rfl), (Nat.le_of_ble_eq_true rfl)⟩) hS (fun q _ h => h) (fun q h => h) (fun r5 u5 t H1 locs ht hvm hu5 hB hz1 hk1 hS => ?_)
            have hP := hB.1
            rw [ht] at hP
            clear hB hk1 hz1 hvm ht
            generalize H1 = H at hP hS ⊢
            refine W.widen (k := 0) (n := 0) (Nat.le_refl 0) (Nat.le_refl 0) ?_
            exact W.iret (v := r5) hx hb hr (fun t ht hW => ⟨⟨r5, u5, rfl, (hu5.trans hsp.symm), PX_fin hP hK hZ hS ht hW⟩, hS.F ht⟩) hS.2.2 dX3_doAct_136
          · have hsp := hsp.trans (if_neg c_15)
            have hok := hok.2 c_15
            refine lv_tableOut (tgt := 137) hx hb dX3_doAct_1 (by have e0 := lv_neT (a := 1) c_1 (by decide); have e1 := lv_neT (a := 2) c_5 (by decide); have e2 := lv_neT (a := 3) c_9 (by decide); have e3 := lv_neT (a := 4) c_13 (by decide); have e4 := lv_neT (a := 5) c_15 (by decide); omega) (by decide) ?_
            refine lv_iconst (v := 1) hx hb dX3_doAct_137 (by decide) ?_
            exact W.iret (v := 1) hx hb hr (fun t ht hW => ⟨⟨1, u, rfl, hsp.symm, PX_fin hP hK hZ hS ht hW⟩, hS.F ht⟩) hS.2.2 dX3_doAct_138
set_option maxHeartbeats 4000000 in
set_option maxRecDepth 100000 in
theorem cX_apply (l : Launch) (D : va_G) (q : Nat → Nat) (cI cL : ClassId) (tp : Nat) (hq : DQ 24 q) (u : St) (p1 : Int32) (hok : okX_apply u p1) : Met l yX3_apply wsX3_apply { frames := 96, cells := 0, slots := 0, locals := 2909 } (va_Pc [.ref (q 0), .int p1] (fun U => PX D q cI cL tp u U)) (va_Qi (fun (r : Int32) (u' : St) => (r, u') = sX_apply u p1) (fun u' t => PX D q cI cL tp u' t) (AQ 24 q)) 0 0 (AQ 24 q) := by
  refine Met.ofW (cc := cX3_apply) (maxL := 5) (ret := (some .int)) (by decide) rfl ?_
  intro p e s m args below meth c s₁ B hml hv
  obtain ⟨rfl, hP, hK, hZ⟩ := hv
  have hx := B.exec
  have hb := B.bytes
  have hr := B.returns
  have hts := atoms_spec (ws := wsX3_apply) B.pre
  have hown : s.vm.findClass RX3 = some m.cls := findClass_of_methodNamed B.named
  have hlocks := B.notSynchronized
  have hiX3 : ∀ w ∈ u_ws RX3 TX3 7, w ∈ wsX3_apply := by decide +kernel
  have hiX1 : ∀ w ∈ u_ws RX1 TX1 7, w ∈ wsX3_apply := by decide +kernel
  have hf26 := hts (.fieldLink RX3 26 "ThingRules" "rules" "LThingRules$Rules;") (by decide +kernel)
  have hf127 := hts (.fieldLink RX3 127 "ThingRules$Rules" "made" "I") (by decide +kernel)
  have hf131 := hts (.fieldLink RX3 131 "ThingRules$Rules" "pattern" "[I") (by decide +kernel)
  have hf149 := hts (.fieldLink RX3 149 "ThingRules$Rules" "fell" "[I") (by decide +kernel)
  have hf134 := hts (.fieldLink RX3 134 "ThingRules$Rules" "used" "[I") (by decide +kernel)
  have hf137 := hts (.fieldLink RX3 137 "ThingRules$Rules" "act" "[I") (by decide +kernel)
  have hf140 := hts (.fieldLink RX3 140 "ThingRules$Rules" "kind" "[I") (by decide +kernel)
  have hf143 := hts (.fieldLink RX3 143 "ThingRules$Rules" "place" "[I") (by decide +kernel)
  have hf10 := hts (.fieldLink RX3 10 "ThingRules" "things" "LThingRules$Things;") (by decide +kernel)
  have hS : va_S (AQ 24 q) s.heap s.heap [] := va_S.rf
  have hP : va_P D vwCl (wX q cI cL u) s.heap := hP
  have hl := lv_entry ([.ref (q 0), .int p1]) (n := 5) (Nat.le_of_ble_eq_true rfl)
  rw [lg_entry_eq]
  generalize (lg_sl ([.ref (q 0), .int p1]) ++ List.replicate (5 - (lg_sl ([.ref (q 0), .int p1])).length) Slot.unset).toArray = ls at hl ⊢
  have hl : lv_has ls 5 [(0, .ref (q 0)), (1, .int p1)] := hl
  have loop_15 : ∀ (n : Nat) (u' : St) (x2 : Int32) (H : Heap) (locs : List Loc) (ls : Array Slot), oklX_apply_15 n u' p1 x2 → sX_apply u p1 = lX_apply_15 n u' p1 x2 → va_P D vwCl (wX q cI cL u') H → va_S (AQ 24 q) s.heap H locs → lv_has ls 5 [(0, .ref (q 0)), (1, .int p1), (2, .int x2)] → W p l e (headSpec wsX3_apply { frames := 96, cells := 0, slots := 0, locals := 2909 }).room s m ([.ref (q 0), .int p1] : List Value).toArray below meth c H locs 0 0 (MQ below (va_Qi (fun (r : Int32) (u' : St) => (r, u') = sX_apply u p1) (fun u' t => PX D q cI cL tp u' t) (AQ 24 q)) ([.ref (q 0), .int p1] : List Value).toArray s 0 0 (AQ 24 q)) (F0 m 15 ls []) := by
    intro n
    induction n with
    | zero => intro u' x2 H locs ls hok; exact False.elim hok
    | succ n ih =>
      intro u' x2 H locs ls hok hsp hP hS hl
      replace hsp := hsp.trans (lX_apply_15_s n u' p1 x2)
      replace hok := (oklX_apply_15_s n u' p1 x2).mp hok
      refine lv_iload_n hx hb dX3_apply_15 rfl (lv_at hl 2 rfl) ?_
      refine lv_aload_n hx hb dX3_apply_16 rfl (lv_at hl 0 rfl) ?_
      refine va_get (D := D) (ci := 6) (v := .ref (q 3)) (C := RX3) (T := TX3) (N := 7) hx hb hts hiX3 hown hK hP 0 rfl rfl 2 (by decide) hf26 (fun _ h9 => h9) rfl dX3_apply_17 ?_
      refine va_get (D := D) (ci := 4) (v := .int (u'.1 3)) (C := RX1) (T := TX1) (N := 7) hx hb hts hiX1 hown hK hP 3 rfl rfl 0 (by decide) hf127 (fun _ h9 => h9) rfl dX3_apply_20 ?_
      refine lv_icmp_ge (tgt := 132) hx hb dX3_apply_23 (by decide) (fun c_1 => ?_) (fun c_1 => ?_)
      · have hsp := hsp.trans (if_pos c_1)
        refine lv_bipush (v := (-5)) hx hb dX3_apply_132 (by decide) ?_
        exact W.iret (v := (-5)) hx hb hr (fun t ht hW => ⟨⟨(-5), u', rfl, hsp.symm, PX_fin hP hK hZ hS ht hW⟩, hS.F ht⟩) hS.2.2 dX3_apply_134
      · have hsp := hsp.trans (if_neg c_1)
        have hok := hok.2 c_1
        refine lv_aload_n hx hb dX3_apply_26 rfl (lv_at hl 0 rfl) ?_
        refine lv_aload_n hx hb dX3_apply_27 rfl (lv_at hl 0 rfl) ?_
        refine va_get (D := D) (ci := 6) (v := .ref (q 3)) (C := RX3) (T := TX3) (N := 7) hx hb hts hiX3 hown hK hP 0 rfl rfl 2 (by decide) hf26 (fun _ h9 => h9) rfl dX3_apply_28 ?_
        refine va_get (D := D) (ci := 4) (v := .ref (q 18)) (C := RX1) (T := TX1) (N := 7) hx hb hts hiX1 hown hK hP 3 rfl rfl 1 (by decide) hf131 (fun _ h9 => h9) rfl dX3_apply_31 ?_
        refine lv_iload_n hx hb dX3_apply_34 rfl (lv_at hl 2 rfl) ?_
        have h_2 := hok.1
        have hok := hok.2
        refine va_iald hx hb hK hP 18 0 rfl rfl h_2 dX3_apply_35 ?_
        refine lv_iload_n hx hb dX3_apply_36 rfl (lv_at hl 1 rfl) ?_
        have h_3 := hok.1
        have hok := hok.2
        refine va_calli (va_runV (As := [.int (u'.2.1 18 x2.toNatClampNeg), .int p1]) (rest := []) ⟨hx, hb, hml, hown, hts⟩ (cX_matched l D q cI cL tp hq u' (u'.2.1 18 x2.toNatClampNeg) p1 h_3) (cwV 2 hts gX3_apply_X3_matched rfl rfl rfl (by decide +kernel) ⟨(Nat.le_of_ble_eq_true rfl), (Nat.le_of_ble_eq_true rfl)⟩) ⟨PX_blind, va_recv hK hP (ci := 6) (q0 := 0) rfl rfl, fun U hU hW => ⟨rfl, PX_fin hP hK hZ hS hU hW⟩⟩ rfl rfl hl.1 rfl (lv_room (Nat.le_of_ble_eq_true rfl)) dX3_apply_37 ⟨(Nat.le_of_ble_eq_true rfl), (Nat.le_of_ble_eq_true rfl)⟩) hS (fun q _ h => h) (fun q h => h) (fun r1 u1 t H1 locs ht hvm hu1 hB hz1 hk1 hS => ?_)
        have hP := hB.1
        rw [ht] at hP
        clear hB hk1 hz1 hvm ht
        generalize H1 = H at hP hS ⊢
        refine W.widen (k := 0) (n := 0) (Nat.le_refl 0) (Nat.le_refl 0) ?_
        have hsp := hsp.trans (bnd2_eq hu1)
        have hok := bnd2_ok hu1 hok
        refine lv_istore_n (lv' := [(3, .int r1), (0, .ref (q 0)), (1, .int p1), (2, .int x2)]) hx hb dX3_apply_40 rfl hl (by decide) rfl (fun ls hl => ?_)
        refine lv_iload_n hx hb dX3_apply_41 rfl (lv_at hl 0 rfl) ?_
        refine lv_iconst (v := 1) hx hb dX3_apply_42 (by decide) ?_
        refine lv_icmp_ne (tgt := 109) hx hb dX3_apply_43 (by decide) (fun c_4 => ?_) (fun c_4 => ?_)
        · have hsp := hsp.trans (if_neg c_4)
          have hok := hok.2 c_4
          refine lv_iload_n hx hb dX3_apply_109 rfl (lv_at hl 0 rfl) ?_
          refine lv_if_eq (tgt := 126) hx hb dX3_apply_110 (by decide) (fun c_5 => ?_) (fun c_5 => ?_)
          · have hsp := hsp.trans (if_pos c_5)
            have hok := hok.1 c_5
            refine lv_iinc (v := (x2 + 1)) (lv' := [(2, .int (x2 + 1)), (3, .int r1), (0, .ref (q 0)), (1, .int p1)]) hx hb dX3_apply_126 hl (k := 3) rfl rfl (by decide) rfl (fun ls hl => ?_)
            refine lv_goto (tgt := 15) hx hb dX3_apply_129 (by decide) ?_
            exact ih u1 (x2 + 1) _ _ _ hok hsp hP hS (lv_sub hl [2, 3, 0] rfl)
          · have hsp := hsp.trans (if_neg c_5)
            have hok := hok.2 c_5
            refine lv_aload_n hx hb dX3_apply_113 rfl (lv_at hl 1 rfl) ?_
            refine va_get (D := D) (ci := 6) (v := .ref (q 3)) (C := RX3) (T := TX3) (N := 7) hx hb hts hiX3 hown hK hP 0 rfl rfl 2 (by decide) hf26 (fun _ h9 => h9) rfl dX3_apply_114 ?_
            refine va_get (D := D) (ci := 4) (v := .ref (q 23)) (C := RX1) (T := TX1) (N := 7) hx hb hts hiX1 hown hK hP 3 rfl rfl 6 (by decide) hf149 (fun _ h9 => h9) rfl dX3_apply_117 ?_
            refine lv_iload_n hx hb dX3_apply_120 rfl (lv_at hl 3 rfl) ?_
            refine lv_dup2_11 hx hb dX3_apply_121 rfl rfl ?_
            have h_6 := hok.1
            have hok := hok.2
            refine va_iald hx hb hK hP 23 0 rfl rfl h_6 dX3_apply_122 ?_
            refine lv_iconst (v := 1) hx hb dX3_apply_123 (by decide) ?_
            refine lv_iadd hx hb dX3_apply_124 ?_
            have h_7 := hok.1
            have hok := hok.2
            refine va_iast hx hb hK hP (dX hq) hS 23 0 rfl rfl h_7 dX3_apply_125 (fun H locs hP _ hS => ?_)
            obtain ⟨u2, hu2⟩ : ∃ z : St, z = (stA u1 23 x2.toNatClampNeg ((u1.2.1 23 x2.toNatClampNeg) + 1)) := ⟨_, rfl⟩
            have hP : va_P D vwCl (wX q cI cL u2) H := by rw [hu2]; exact hP
            have hsp := hsp.trans (bnd_eq hu2)
            have hok := bnd_ok hu2 hok
            refine lv_iinc (v := (x2 + 1)) (lv' := [(2, .int (x2 + 1)), (3, .int r1), (0, .ref (q 0)), (1, .int p1)]) hx hb dX3_apply_126 hl (k := 3) rfl rfl (by decide) rfl (fun ls hl => ?_)
            refine lv_goto (tgt := 15) hx hb dX3_apply_129 (by decide) ?_
            exact ih u2 (x2 + 1) _ _ _ hok hsp hP hS (lv_sub hl [2, 3, 0] rfl)
        · have hsp := hsp.trans (if_pos c_4)
          have hok := hok.1 c_4
          refine lv_aload_n hx hb dX3_apply_46 rfl (lv_at hl 1 rfl) ?_
          refine va_get (D := D) (ci := 6) (v := .ref (q 3)) (C := RX3) (T := TX3) (N := 7) hx hb hts hiX3 hown hK hP 0 rfl rfl 2 (by decide) hf26 (fun _ h9 => h9) rfl dX3_apply_47 ?_
          refine va_get (D := D) (ci := 4) (v := .ref (q 22)) (C := RX1) (T := TX1) (N := 7) hx hb hts hiX1 hown hK hP 3 rfl rfl 5 (by decide) hf134 (fun _ h9 => h9) rfl dX3_apply_50 ?_
          refine lv_iload_n hx hb dX3_apply_53 rfl (lv_at hl 3 rfl) ?_
          refine lv_dup2_11 hx hb dX3_apply_54 rfl rfl ?_
          have h_8 := hok.1
          have hok := hok.2
          refine va_iald hx hb hK hP 22 0 rfl rfl h_8 dX3_apply_55 ?_
          refine lv_iconst (v := 1) hx hb dX3_apply_56 (by decide) ?_
          refine lv_iadd hx hb dX3_apply_57 ?_
          have h_9 := hok.1
          have hok := hok.2
          refine va_iast hx hb hK hP (dX hq) hS 22 0 rfl rfl h_9 dX3_apply_58 (fun H locs hP _ hS => ?_)
          obtain ⟨u3, hu3⟩ : ∃ z : St, z = (stA u1 22 x2.toNatClampNeg ((u1.2.1 22 x2.toNatClampNeg) + 1)) := ⟨_, rfl⟩
          have hP : va_P D vwCl (wX q cI cL u3) H := by rw [hu3]; exact hP
          have hsp := hsp.trans (bnd_eq hu3)
          have hok := bnd_ok hu3 hok
          refine lv_aload_n hx hb dX3_apply_59 rfl (lv_at hl 1 rfl) ?_
          refine lv_aload_n hx hb dX3_apply_60 rfl (lv_at hl 1 rfl) ?_
          refine lv_aload_n hx hb dX3_apply_61 rfl (lv_at hl 1 rfl) ?_
          refine va_get (D := D) (ci := 6) (v := .ref (q 3)) (C := RX3) (T := TX3) (N := 7) hx hb hts hiX3 hown hK hP 0 rfl rfl 2 (by decide) hf26 (fun _ h9 => h9) rfl dX3_apply_62 ?_
          refine va_get (D := D) (ci := 4) (v := .ref (q 19)) (C := RX1) (T := TX1) (N := 7) hx hb hts hiX1 hown hK hP 3 rfl rfl 2 (by decide) hf137 (fun _ h9 => h9) rfl dX3_apply_65 ?_
          refine lv_iload_n hx hb dX3_apply_68 rfl (lv_at hl 3 rfl) ?_
          have h_10 := hok.1
          have hok := hok.2
          refine va_iald hx hb hK hP 19 0 rfl rfl h_10 dX3_apply_69 ?_
          refine lv_aload_n hx hb dX3_apply_70 rfl (lv_at hl 1 rfl) ?_
          refine va_get (D := D) (ci := 6) (v := .ref (q 3)) (C := RX3) (T := TX3) (N := 7) hx hb hts hiX3 hown hK hP 0 rfl rfl 2 (by decide) hf26 (fun _ h9 => h9) rfl dX3_apply_71 ?_
          refine va_get (D := D) (ci := 4) (v := .ref (q 20)) (C := RX1) (T := TX1) (N := 7) hx hb hts hiX1 hown hK hP 3 rfl rfl 3 (by decide) hf140 (fun _ h9 => h9) rfl dX3_apply_74 ?_
          refine lv_iload_n hx hb dX3_apply_77 rfl (lv_at hl 3 rfl) ?_
          have h_11 := hok.1
          have hok := hok.2
          refine va_iald hx hb hK hP 20 0 rfl rfl h_11 dX3_apply_78 ?_
          refine lv_aload_n hx hb dX3_apply_79 rfl (lv_at hl 1 rfl) ?_
          refine va_get (D := D) (ci := 6) (v := .ref (q 3)) (C := RX3) (T := TX3) (N := 7) hx hb hts hiX3 hown hK hP 0 rfl rfl 2 (by decide) hf26 (fun _ h9 => h9) rfl dX3_apply_80 ?_
          refine va_get (D := D) (ci := 4) (v := .ref (q 21)) (C := RX1) (T := TX1) (N := 7) hx hb hts hiX1 hown hK hP 3 rfl rfl 4 (by decide) hf143 (fun _ h9 => h9) rfl dX3_apply_83 ?_
          refine lv_iload_n hx hb dX3_apply_86 rfl (lv_at hl 3 rfl) ?_
          have h_12 := hok.1
          have hok := hok.2
          refine va_iald hx hb hK hP 21 0 rfl rfl h_12 dX3_apply_87 ?_
          have h_13 := hok.1
          have hok := hok.2
          refine va_calli (va_runV (As := [.int (u3.2.1 19 x2.toNatClampNeg), .int (u3.2.1 20 x2.toNatClampNeg), .int (u3.2.1 21 x2.toNatClampNeg)]) (rest := [.ref (q 0)]) ⟨hx, hb, hml, hown, hts⟩ (cX_doAct l D q cI cL tp hq u3 (u3.2.1 19 x2.toNatClampNeg) (u3.2.1 20 x2.toNatClampNeg) (u3.2.1 21 x2.toNatClampNeg) h_13) (cwV 3 hts gX3_apply_X3_doAct rfl rfl rfl (by decide +kernel) ⟨(Nat.le_of_ble_eq_true rfl), (Nat.le_of_ble_eq_true rfl)⟩) ⟨PX_blind, va_recv hK hP (ci := 6) (q0 := 0) rfl rfl, fun U hU hW => ⟨rfl, PX_fin hP hK hZ hS hU hW⟩⟩ rfl rfl hl.1 rfl (lv_room (Nat.le_of_ble_eq_true rfl)) dX3_apply_88 ⟨(Nat.le_of_ble_eq_true rfl), (Nat.le_of_ble_eq_true rfl)⟩) hS (fun q _ h => h) (fun q h => h) (fun r4 u4 t H1 locs ht hvm hu4 hB hz1 hk1 hS => ?_)
          have hP := hB.1
          rw [ht] at hP
          clear hB hk1 hz1 hvm ht
          generalize H1 = H at hP hS ⊢
          refine W.widen (k := 0) (n := 0) (Nat.le_refl 0) (Nat.le_refl 0) ?_
          have hsp := hsp.trans (bnd2_eq hu4)
          have hok := bnd2_ok hu4 hok
          have h_14 := hok.1
          have hok := hok.2
          refine va_calli (va_runV (As := [.int r4]) (rest := []) ⟨hx, hb, hml, hown, hts⟩ (cX_counted l D q cI cL tp hq u4 r4 h_14) (cwV 1 hts gX3_apply_X3_counted rfl rfl rfl (by decide +kernel) ⟨(Nat.le_of_ble_eq_true rfl), (Nat.le_of_ble_eq_true rfl)⟩) ⟨PX_blind, va_recv hK hP (ci := 6) (q0 := 0) rfl rfl, fun U hU hW => ⟨rfl, PX_fin hP hK hZ hS hU hW⟩⟩ rfl rfl hl.1 rfl (lv_room (Nat.le_of_ble_eq_true rfl)) dX3_apply_91 ⟨(Nat.le_of_ble_eq_true rfl), (Nat.le_of_ble_eq_true rfl)⟩) hS (fun q _ h => h) (fun q h => h) (fun r5 u5 t H1 locs ht hvm hu5 hB hz1 hk1 hS => ?_)
          have hP := hB.1
          rw [ht] at hP
          clear hB hk1 hz1 hvm ht
          generalize H1 = H at hP hS ⊢
          refine W.widen (k := 0) (n := 0) (Nat.le_refl 0) (Nat.le_refl 0) ?_
          have hsp := hsp.trans (bnd2_eq hu5)
          refine lv_istore (lv' := [(4, .int r5), (3, .int r1), (0, .ref (q 0)), (1, .int p1), (2, .int x2)]) hx hb dX3_apply_94 hl (by decide) rfl (fun ls hl => ?_)
          refine lv_iload hx hb dX3_apply_96 (lv_at hl 0 rfl) ?_
          refine lv_iconst (v := 1) hx hb dX3_apply_98 (by decide) ?_
          refine lv_icmp_ne (tgt := 106) hx hb dX3_apply_99 (by decide) (fun c_15 => ?_) (fun c_15 => ?_)
          · have hsp := hsp.trans (if_neg c_15)
            refine lv_iload hx hb dX3_apply_106 (lv_at hl 0 rfl) ?_
            exact W.iret (v := r5) hx hb hr (fun t ht hW => ⟨⟨r5, u5, rfl, hsp.symm, PX_fin hP hK hZ hS ht hW⟩, hS.F ht⟩) hS.2.2 dX3_apply_108
          · have hsp := hsp.trans (if_pos c_15)
            refine lv_iload_n hx hb dX3_apply_102 rfl (lv_at hl 4 rfl) ?_
            refine lv_goto (tgt := 108) hx hb dX3_apply_103 (by decide) ?_
            exact W.iret (v := x2) hx hb hr (fun t ht hW => ⟨⟨x2, u5, rfl, hsp.symm, PX_fin hP hK hZ hS ht hW⟩, hS.F ht⟩) hS.2.2 dX3_apply_108
  have hsp : sX_apply u p1 = _ := sX_apply.eq_1 u p1
  unfold okX_apply at hok
  refine lv_aload_n hx hb dX3_apply_0 rfl (lv_at hl 0 rfl) ?_
  refine va_get (D := D) (ci := 6) (v := .ref (q 1)) (C := RX3) (T := TX3) (N := 7) hx hb hts hiX3 hown hK hP 0 rfl rfl 0 (by decide) hf10 (fun _ h9 => h9) rfl dX3_apply_1 ?_
  refine lv_iload_n hx hb dX3_apply_4 rfl (lv_at hl 1 rfl) ?_
  refine vp_callSi (W.runV (As := [.int p1]) (rest := []) ⟨hx, hb, hml, hown, hts⟩ (cXT_know l D q cI cL tp u p1) (cwV 1 hts gX3_apply_X2_know rfl rfl rfl (by decide +kernel) ⟨(Nat.le_of_ble_eq_true rfl), (Nat.le_of_ble_eq_true rfl)⟩) ⟨PX_blind, va_recv hK hP (ci := 5) (q0 := 1) rfl rfl, fun U hU hW => ⟨rfl, PX_fin hP hK hZ hS hU hW⟩⟩ rfl rfl hl.1 rfl (lv_room (Nat.le_of_ble_eq_true rfl)) dX3_apply_5 ⟨(Nat.le_of_ble_eq_true rfl), (Nat.le_of_ble_eq_true rfl)⟩) (fun r_16 hr_16 => ?_)
  subst hr_16
  refine lv_if_ne (tgt := 13) hx hb dX3_apply_8 (by decide) (fun c_17 => ?_) (fun c_17 => ?_)
  · have hsp := hsp.trans (if_neg c_17)
    have hok := hok.2 c_17
    refine lv_iconst (v := 0) hx hb dX3_apply_13 (by decide) ?_
    refine lv_istore_n (lv' := [(2, .int 0), (0, .ref (q 0)), (1, .int p1)]) hx hb dX3_apply_14 rfl hl (by decide) rfl (fun ls hl => ?_)
    exact loop_15 100 u 0 _ _ _ hok hsp hP hS (lv_sub hl [1, 2, 0] rfl)
  · have hsp := hsp.trans (if_pos c_17)
    refine lv_iconst (v := (-1)) hx hb dX3_apply_11 (by decide) ?_
    exact W.iret (v := (-1)) hx hb hr (fun t ht hW => ⟨⟨(-1), u, rfl, hsp.symm, PX_fin hP hK hZ hS ht hW⟩, hS.F ht⟩) hS.2.2 dX3_apply_12
set_option maxHeartbeats 4000000 in
set_option maxRecDepth 100000 in
theorem cXR_know (l : Launch) (D : va_G) (q : Nat → Nat) (cI cL : ClassId) (tp : Nat) (u : St) (p1 : Int32) : Met l yX1_know wsX1_know { frames := 0, cells := 0, slots := 0, locals := 0 } (va_Pc [.ref (q 3), .int p1] (fun U => PX D q cI cL tp u U)) (vp_Si (fun r => r = sXR_know u p1)) 0 0 (fun _ => False) := by
  refine Met.ofW (cc := cX1_know) (maxL := 2) (ret := (some .boolean)) (by decide) rfl ?_
  intro p e s m args below meth c s₁ B hml hv
  obtain ⟨rfl, hP, hK, hZ⟩ := hv
  have hx := B.exec
  have hb := B.bytes
  have hr := B.returns
  have hts := atoms_spec (ws := wsX1_know) B.pre
  have hown : s.vm.findClass RX1 = some m.cls := findClass_of_methodNamed B.named
  have hlocks := B.notSynchronized
  have hiX1 : ∀ w ∈ u_ws RX1 TX1 7, w ∈ wsX1_know := by decide +kernel
  have hf30 := hts (.fieldLink RX1 30 "ThingRules$Rules" "made" "I") (by decide +kernel)
  have hS : va_S (AQ 24 q) s.heap s.heap [] := va_S.rf
  have hP : va_P D vwCl (wX q cI cL u) s.heap := hP
  have hl := lv_entry ([.ref (q 3), .int p1]) (n := 2) (Nat.le_of_ble_eq_true rfl)
  rw [lg_entry_eq]
  generalize (lg_sl ([.ref (q 3), .int p1]) ++ List.replicate (2 - (lg_sl ([.ref (q 3), .int p1])).length) Slot.unset).toArray = ls at hl ⊢
  have hl : lv_has ls 2 [(0, .ref (q 3)), (1, .int p1)] := hl
  have hsp : sXR_know u p1 = _ := sXR_know.eq_1 u p1
  refine lv_iload_n hx hb dX1_know_0 rfl (lv_at hl 1 rfl) ?_
  refine lv_if_lt (tgt := 16) hx hb dX1_know_1 (by decide) (fun c_1 => ?_) (fun c_1 => ?_)
  · have hsp := hsp.trans (if_pos c_1)
    refine lv_iconst (v := 0) hx hb dX1_know_16 (by decide) ?_
    exact W.zret (v := 0) hx hb hr rfl (fun t ht hW => ⟨0, rfl, hsp.symm, ht⟩) (fun _ h => nomatch h) dX1_know_17
  · have hsp := hsp.trans (if_neg c_1)
    refine lv_iload_n hx hb dX1_know_4 rfl (lv_at hl 1 rfl) ?_
    refine lv_aload_n hx hb dX1_know_5 rfl (lv_at hl 0 rfl) ?_
    refine va_get (D := D) (ci := 4) (v := .int (u.1 3)) (C := RX1) (T := TX1) (N := 7) hx hb hts hiX1 hown hK hP 3 rfl rfl 0 (by decide) hf30 (fun _ h9 => h9) rfl dX1_know_6 ?_
    refine lv_icmp_ge (tgt := 16) hx hb dX1_know_9 (by decide) (fun c_2 => ?_) (fun c_2 => ?_)
    · have hsp := hsp.trans (if_pos c_2)
      refine lv_iconst (v := 0) hx hb dX1_know_16 (by decide) ?_
      exact W.zret (v := 0) hx hb hr rfl (fun t ht hW => ⟨0, rfl, hsp.symm, ht⟩) (fun _ h => nomatch h) dX1_know_17
    · have hsp := hsp.trans (if_neg c_2)
      refine lv_iconst (v := 1) hx hb dX1_know_12 (by decide) ?_
      refine lv_goto (tgt := 17) hx hb dX1_know_13 (by decide) ?_
      exact W.zret (v := 1) hx hb hr rfl (fun t ht hW => ⟨1, rfl, hsp.symm, ht⟩) (fun _ h => nomatch h) dX1_know_17
