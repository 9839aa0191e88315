set_option maxHeartbeats 4000000 in
set_option maxRecDepth 100000 in
theorem cX_told (l : Launch) (D : va_G) (q : Nat → Nat) (cI cL : ClassId) (tp : Nat) (u : St) (p1 : Int32) (p2 : Int32) (hok : okX_told u p1 p2) : Met l yX3_told wsX3_told { frames := 1, cells := 0, slots := 0, locals := 21 } (va_Pc [.ref (q 0), .int p1, .int p2] (fun U => PX D q cI cL tp u U)) (vp_Si (fun r => r = sX_told u p1 p2)) 0 0 (fun _ => False) := by
  refine Met.ofW (cc := cX3_told) (maxL := 3) (ret := (some .int)) (by decide) rfl ?_
  intro p e s m args below meth c s₁ B hml hv
  obtain ⟨rfl, hP, hK, hZ⟩ := hv
  have hx := B.exec
  have hb := B.bytes
  have hr := B.returns
  have hts := atoms_spec (ws := wsX3_told) B.pre
  have hown : s.vm.findClass RX3 = some m.cls := findClass_of_methodNamed B.named
  have hlocks := B.notSynchronized
  have hiX3 : ∀ w ∈ u_ws RX3 TX3 7, w ∈ wsX3_told := by decide +kernel
  have hiX1 : ∀ w ∈ u_ws RX1 TX1 7, w ∈ wsX3_told := by decide +kernel
  have hf26 := hts (.fieldLink RX3 26 "ThingRules" "rules" "LThingRules$Rules;") (by decide +kernel)
  have hf134 := hts (.fieldLink RX3 134 "ThingRules$Rules" "used" "[I") (by decide +kernel)
  have hf149 := hts (.fieldLink RX3 149 "ThingRules$Rules" "fell" "[I") (by decide +kernel)
  have hS : va_S (AQ 24 q) s.heap s.heap [] := va_S.rf
  have hP : va_P D vwCl (wX q cI cL u) s.heap := hP
  have hl := lv_entry ([.ref (q 0), .int p1, .int p2]) (n := 3) (Nat.le_of_ble_eq_true rfl)
  rw [lg_entry_eq]
  generalize (lg_sl ([.ref (q 0), .int p1, .int p2]) ++ List.replicate (3 - (lg_sl ([.ref (q 0), .int p1, .int p2])).length) Slot.unset).toArray = ls at hl ⊢
  have hl : lv_has ls 3 [(0, .ref (q 0)), (1, .int p1), (2, .int p2)] := hl
  have hsp : sX_told u p1 p2 = _ := sX_told.eq_1 u p1 p2
  unfold okX_told at hok
  refine lv_aload_n hx hb dX3_told_0 rfl (lv_at hl 0 rfl) ?_
  refine va_get (D := D) (ci := 6) (v := .ref (q 3)) (C := RX3) (T := TX3) (N := 7) hx hb hts hiX3 hown hK hP 0 rfl rfl 2 (by decide) hf26 (fun _ h9 => h9) rfl dX3_told_1 ?_
  refine lv_iload_n hx hb dX3_told_4 rfl (lv_at hl 1 rfl) ?_
  refine vp_callSi (W.runV (As := [.int p1]) (rest := []) ⟨hx, hb, hml, hown, hts⟩ (cXR_know l D q cI cL tp u p1) (cwV 1 hts gX3_told_X1_know rfl rfl rfl (by decide +kernel) ⟨(Nat.le_of_ble_eq_true rfl), (Nat.le_of_ble_eq_true rfl)⟩) ⟨PX_blind, va_recv hK hP (ci := 4) (q0 := 3) rfl rfl, fun U hU hW => ⟨rfl, PX_fin hP hK hZ hS hU hW⟩⟩ rfl rfl hl.1 rfl (lv_room (Nat.le_of_ble_eq_true rfl)) dX3_told_5 ⟨(Nat.le_of_ble_eq_true rfl), (Nat.le_of_ble_eq_true rfl)⟩) (fun r_1 hr_1 => ?_)
  subst hr_1
  refine lv_if_ne (tgt := 13) hx hb dX3_told_8 (by decide) (fun c_2 => ?_) (fun c_2 => ?_)
  · have hsp := hsp.trans (if_neg c_2)
    have hok := hok.2 c_2
    refine lv_iload_n hx hb dX3_told_13 rfl (lv_at hl 2 rfl) ?_
    by_cases c_3 : p2 = 0
    · have hsp := hsp.trans (if_pos c_3)
      have hok := hok.1 c_3
      refine lv_lookup (off := 26) (tgt := 40) hx hb dX3_told_14 (by decide) (by rw [c_3]; rfl) (by decide) ?_
      refine lv_aload_n hx hb dX3_told_40 rfl (lv_at hl 0 rfl) ?_
      refine va_get (D := D) (ci := 6) (v := .ref (q 3)) (C := RX3) (T := TX3) (N := 7) hx hb hts hiX3 hown hK hP 0 rfl rfl 2 (by decide) hf26 (fun _ h9 => h9) rfl dX3_told_41 ?_
      refine va_get (D := D) (ci := 4) (v := .ref (q 22)) (C := RX1) (T := TX1) (N := 7) hx hb hts hiX1 hown hK hP 3 rfl rfl 5 (by decide) hf134 (fun _ h9 => h9) rfl dX3_told_44 ?_
      refine lv_iload_n hx hb dX3_told_47 rfl (lv_at hl 1 rfl) ?_
      have h_4 := hok.1
      have hok := hok.2
      refine va_iald hx hb hK hP 22 0 rfl rfl h_4 dX3_told_48 ?_
      exact W.iret (v := (u.2.1 22 p1.toNatClampNeg)) hx hb hr (fun t ht hW => ⟨(u.2.1 22 p1.toNatClampNeg), rfl, hsp.symm, ht⟩) (fun _ h => nomatch h) dX3_told_49
    · have hsp := hsp.trans (if_neg c_3)
      have hok := hok.2 c_3
      by_cases c_5 : p2 = 1
      · have hsp := hsp.trans (if_pos c_5)
        have hok := hok.1 c_5
        refine lv_lookup (off := 36) (tgt := 50) hx hb dX3_told_14 (by decide) (by rw [c_5]; rfl) (by decide) ?_
        refine lv_aload_n hx hb dX3_told_50 rfl (lv_at hl 0 rfl) ?_
        refine va_get (D := D) (ci := 6) (v := .ref (q 3)) (C := RX3) (T := TX3) (N := 7) hx hb hts hiX3 hown hK hP 0 rfl rfl 2 (by decide) hf26 (fun _ h9 => h9) rfl dX3_told_51 ?_
        refine va_get (D := D) (ci := 4) (v := .ref (q 23)) (C := RX1) (T := TX1) (N := 7) hx hb hts hiX1 hown hK hP 3 rfl rfl 6 (by decide) hf149 (fun _ h9 => h9) rfl dX3_told_54 ?_
        refine lv_iload_n hx hb dX3_told_57 rfl (lv_at hl 1 rfl) ?_
        have h_6 := hok.1
        have hok := hok.2
        refine va_iald hx hb hK hP 23 0 rfl rfl h_6 dX3_told_58 ?_
        exact W.iret (v := (u.2.1 23 p1.toNatClampNeg)) hx hb hr (fun t ht hW => ⟨(u.2.1 23 p1.toNatClampNeg), rfl, hsp.symm, ht⟩) (fun _ h => nomatch h) dX3_told_59
      · have hsp := hsp.trans (if_neg c_5)
        have hok := hok.2 c_5
        refine lv_lookup (off := 46) (tgt := 60) hx hb dX3_told_14 (by decide) ((lv_osw c_3 (by decide)).trans ((lv_osw c_5 (by decide)).trans rfl)) (by decide) ?_
        refine lv_bipush (v := (-2)) hx hb dX3_told_60 (by decide) ?_
        exact W.iret (v := (-2)) hx hb hr (fun t ht hW => ⟨(-2), rfl, hsp.symm, ht⟩) (fun _ h => nomatch h) dX3_told_62
  · have hsp := hsp.trans (if_pos c_2)
    refine lv_iconst (v := (-1)) hx hb dX3_told_11 (by decide) ?_
    exact W.iret (v := (-1)) hx hb hr (fun t ht hW => ⟨(-1), rfl, hsp.symm, ht⟩) (fun _ h => nomatch h) dX3_told_12
set_option maxHeartbeats 4000000 in
set_option maxRecDepth 100000 in
theorem cX_count (l : Launch) (D : va_G) (q : Nat → Nat) (cI cL : ClassId) (tp : Nat) (u : St) (p1 : Int32) (hok : okX_count u p1) : Met l yX3_count wsX3_count { frames := 1, cells := 0, slots := 0, locals := 22 } (va_Pc [.ref (q 0), .int p1] (fun U => PX D q cI cL tp u U)) (vp_Si (fun r => r = sX_count u p1)) 0 0 (fun _ => False) := by
  refine Met.ofW (cc := cX3_count) (maxL := 2) (ret := (some .int)) (by decide) rfl ?_
  intro p e s m args below meth c s₁ B hml hv
  obtain ⟨rfl, hP, hK, hZ⟩ := hv
  have hx := B.exec
  have hb := B.bytes
  have hr := B.returns
  have hts := atoms_spec (ws := wsX3_count) B.pre
  have hown : s.vm.findClass RX3 = some m.cls := findClass_of_methodNamed B.named
  have hlocks := B.notSynchronized
  have hiX3 : ∀ w ∈ u_ws RX3 TX3 7, w ∈ wsX3_count := by decide +kernel
  have hiX2 : ∀ w ∈ u_ws RX2 TX2 8, w ∈ wsX3_count := by decide +kernel
  have hiX0 : ∀ w ∈ u_ws RX0 TX0 5, w ∈ wsX3_count := by decide +kernel
  have hiX1 : ∀ w ∈ u_ws RX1 TX1 7, w ∈ wsX3_count := by decide +kernel
  have hf10 := hts (.fieldLink RX3 10 "ThingRules" "things" "LThingRules$Things;") (by decide +kernel)
  have hf153 := hts (.fieldLink RX3 153 "ThingRules$Things" "made" "I") (by decide +kernel)
  have hf19 := hts (.fieldLink RX3 19 "ThingRules" "patterns" "LThingRules$Patterns;") (by decide +kernel)
  have hf154 := hts (.fieldLink RX3 154 "ThingRules$Patterns" "made" "I") (by decide +kernel)
  have hf26 := hts (.fieldLink RX3 26 "ThingRules" "rules" "LThingRules$Rules;") (by decide +kernel)
  have hf127 := hts (.fieldLink RX3 127 "ThingRules$Rules" "made" "I") (by decide +kernel)
  have hf155 := hts (.fieldLink RX3 155 "ThingRules" "steps" "I") (by decide +kernel)
  have hf37 := hts (.fieldLink RX3 37 "ThingRules" "findings" "[I") (by decide +kernel)
  have hS : va_S (AQ 24 q) s.heap s.heap [] := va_S.rf
  have hP : va_P D vwCl (wX q cI cL u) s.heap := hP
  have hl := lv_entry ([.ref (q 0), .int p1]) (n := 2) (Nat.le_of_ble_eq_true rfl)
  rw [lg_entry_eq]
  generalize (lg_sl ([.ref (q 0), .int p1]) ++ List.replicate (2 - (lg_sl ([.ref (q 0), .int p1])).length) Slot.unset).toArray = ls at hl ⊢
  have hl : lv_has ls 2 [(0, .ref (q 0)), (1, .int p1)] := hl
  have hsp : sX_count u p1 = _ := sX_count.eq_1 u p1
  unfold okX_count at hok
  refine lv_iload_n hx hb dX3_count_0 rfl (lv_at hl 1 rfl) ?_
  by_cases c_1 : p1 = 0
  · have hsp := hsp.trans (if_pos c_1)
    refine lv_tableIn (off := 31) (tgt := 32) hx hb dX3_count_1 (by rw [c_1]; decide) (by rw [c_1]; decide) (by rw [c_1]; rfl) (by decide) ?_
    refine lv_aload_n hx hb dX3_count_32 rfl (lv_at hl 0 rfl) ?_
    refine va_get (D := D) (ci := 6) (v := .ref (q 1)) (C := RX3) (T := TX3) (N := 7) hx hb hts hiX3 hown hK hP 0 rfl rfl 0 (by decide) hf10 (fun _ h9 => h9) rfl dX3_count_33 ?_
    refine va_get (D := D) (ci := 5) (v := .int (u.1 1)) (C := RX2) (T := TX2) (N := 8) hx hb hts hiX2 hown hK hP 1 rfl rfl 0 (by decide) hf153 (fun _ h9 => h9) rfl dX3_count_36 ?_
    exact W.iret (v := (u.1 1)) hx hb hr (fun t ht hW => ⟨(u.1 1), rfl, hsp.symm, ht⟩) (fun _ h => nomatch h) dX3_count_39
  · have hsp := hsp.trans (if_neg c_1)
    have hok := hok.2 c_1
    by_cases c_2 : p1 = 1
    · have hsp := hsp.trans (if_pos c_2)
      refine lv_tableIn (off := 39) (tgt := 40) hx hb dX3_count_1 (by rw [c_2]; decide) (by rw [c_2]; decide) (by rw [c_2]; rfl) (by decide) ?_
      refine lv_aload_n hx hb dX3_count_40 rfl (lv_at hl 0 rfl) ?_
      refine va_get (D := D) (ci := 6) (v := .ref (q 2)) (C := RX3) (T := TX3) (N := 7) hx hb hts hiX3 hown hK hP 0 rfl rfl 1 (by decide) hf19 (fun _ h9 => h9) rfl dX3_count_41 ?_
      refine va_get (D := D) (ci := 3) (v := .int (u.1 2)) (C := RX0) (T := TX0) (N := 5) hx hb hts hiX0 hown hK hP 2 rfl rfl 0 (by decide) hf154 (fun _ h9 => h9) rfl dX3_count_44 ?_
      exact W.iret (v := (u.1 2)) hx hb hr (fun t ht hW => ⟨(u.1 2), rfl, hsp.symm, ht⟩) (fun _ h => nomatch h) dX3_count_47
    · have hsp := hsp.trans (if_neg c_2)
      have hok := hok.2 c_2
      by_cases c_3 : p1 = 2
      · have hsp := hsp.trans (if_pos c_3)
        refine lv_tableIn (off := 47) (tgt := 48) hx hb dX3_count_1 (by rw [c_3]; decide) (by rw [c_3]; decide) (by rw [c_3]; rfl) (by decide) ?_
        refine lv_aload_n hx hb dX3_count_48 rfl (lv_at hl 0 rfl) ?_
        refine va_get (D := D) (ci := 6) (v := .ref (q 3)) (C := RX3) (T := TX3) (N := 7) hx hb hts hiX3 hown hK hP 0 rfl rfl 2 (by decide) hf26 (fun _ h9 => h9) rfl dX3_count_49 ?_
        refine va_get (D := D) (ci := 4) (v := .int (u.1 3)) (C := RX1) (T := TX1) (N := 7) hx hb hts hiX1 hown hK hP 3 rfl rfl 0 (by decide) hf127 (fun _ h9 => h9) rfl dX3_count_52 ?_
        exact W.iret (v := (u.1 3)) hx hb hr (fun t ht hW => ⟨(u.1 3), rfl, hsp.symm, ht⟩) (fun _ h => nomatch h) dX3_count_55
      · have hsp := hsp.trans (if_neg c_3)
        have hok := hok.2 c_3
        by_cases c_4 : p1 = 3
        · have hsp := hsp.trans (if_pos c_4)
          refine lv_tableIn (off := 55) (tgt := 56) hx hb dX3_count_1 (by rw [c_4]; decide) (by rw [c_4]; decide) (by rw [c_4]; rfl) (by decide) ?_
          refine lv_aload_n hx hb dX3_count_56 rfl (lv_at hl 0 rfl) ?_
          refine va_get (D := D) (ci := 6) (v := .int (u.1 0)) (C := RX3) (T := TX3) (N := 7) hx hb hts hiX3 hown hK hP 0 rfl rfl 6 (by decide) hf155 (fun _ h9 => h9) rfl dX3_count_57 ?_
          exact W.iret (v := (u.1 0)) hx hb hr (fun t ht hW => ⟨(u.1 0), rfl, hsp.symm, ht⟩) (fun _ h => nomatch h) dX3_count_60
        · have hsp := hsp.trans (if_neg c_4)
          have hok := hok.2 c_4
          refine lv_tableOut (tgt := 61) hx hb dX3_count_1 (by have e0 := lv_neT (a := 0) c_1 (by decide); have e1 := lv_neT (a := 1) c_2 (by decide); have e2 := lv_neT (a := 2) c_3 (by decide); have e3 := lv_neT (a := 3) c_4 (by decide); omega) (by decide) ?_
          refine lv_iload_n hx hb dX3_count_61 rfl (lv_at hl 1 rfl) ?_
          refine lv_iconst (v := 4) hx hb dX3_count_62 (by decide) ?_
          refine lv_bipush (v := 9) hx hb dX3_count_63 (by decide) ?_
          refine vp_callSi (W.runS (As := [.int p1, .int 4, .int 9]) (rest := []) ⟨hx, hb, hml, hown, hts⟩ (cX_within l p1 4 9) (va_cwS 3 hts gX3_count_X3_within rfl rfl rfl (by decide +kernel) ⟨(Nat.le_of_ble_eq_true rfl), (Nat.le_of_ble_eq_true rfl)⟩) ⟨T_blind, fun U hU hW => ⟨rfl, trivial⟩⟩ rfl rfl hl.1 rfl (lv_room (Nat.le_of_ble_eq_true rfl)) dX3_count_65 ⟨(Nat.le_of_ble_eq_true rfl), (Nat.le_of_ble_eq_true rfl)⟩) (fun r_5 hr_5 => ?_)
          subst hr_5
          refine lv_if_eq (tgt := 82) hx hb dX3_count_68 (by decide) (fun c_6 => ?_) (fun c_6 => ?_)
          · have hsp := hsp.trans (if_pos c_6)
            refine lv_bipush (v := (-2)) hx hb dX3_count_82 (by decide) ?_
            exact W.iret (v := (-2)) hx hb hr (fun t ht hW => ⟨(-2), rfl, hsp.symm, ht⟩) (fun _ h => nomatch h) dX3_count_84
          · have hsp := hsp.trans (if_neg c_6)
            have hok := hok.2 c_6
            refine lv_aload_n hx hb dX3_count_71 rfl (lv_at hl 0 rfl) ?_
            refine va_get (D := D) (ci := 6) (v := .ref (q 6)) (C := RX3) (T := TX3) (N := 7) hx hb hts hiX3 hown hK hP 0 rfl rfl 5 (by decide) hf37 (fun _ h9 => h9) rfl dX3_count_72 ?_
            refine lv_iload_n hx hb dX3_count_75 rfl (lv_at hl 1 rfl) ?_
            refine lv_iconst (v := 4) hx hb dX3_count_76 (by decide) ?_
            refine lv_isub hx hb dX3_count_77 ?_
            have h_7 := hok.1
            have hok := hok.2
            refine va_iald hx hb hK hP 6 0 rfl rfl h_7 dX3_count_78 ?_
            refine lv_goto (tgt := 84) hx hb dX3_count_79 (by decide) ?_
            exact W.iret (v := (u.2.1 6 (p1 - 4).toNatClampNeg)) hx hb hr (fun t ht hW => ⟨(u.2.1 6 (p1 - 4).toNatClampNeg), rfl, hsp.symm, ht⟩) (fun _ h => nomatch h) dX3_count_84
set_option maxHeartbeats 4000000 in
set_option maxRecDepth 100000 in
theorem cX_forgetTraces (l : Launch) (D : va_G) (q : Nat → Nat) (cI cL : ClassId) (tp : Nat) (hq : DQ 24 q) (u : St) (hok : okX_forgetTraces u) : Met l yX3_forgetTraces wsX3_forgetTraces { frames := 0, cells := 0, slots := 0, locals := 0 } (va_Pc [.ref (q 0)] (fun U => PX D q cI cL tp u U)) (va_Qv (fun u' : St => u' = sX_forgetTraces u) (fun u' t => PX D q cI cL tp u' t) (AQ 24 q)) 0 0 (AQ 24 q) := by
  refine Met.ofW (cc := cX3_forgetTraces) (maxL := 2) (ret := none) (by decide) rfl ?_
  intro p e s m args below meth c s₁ B hml hv
  obtain ⟨rfl, hP, hK, hZ⟩ := hv
  have hx := B.exec
  have hb := B.bytes
  have hr := B.returns
  have hts := atoms_spec (ws := wsX3_forgetTraces) B.pre
  have hown : s.vm.findClass RX3 = some m.cls := findClass_of_methodNamed B.named
  have hlocks := B.notSynchronized
  have hiX3 : ∀ w ∈ u_ws RX3 TX3 7, w ∈ wsX3_forgetTraces := by decide +kernel
  have hf155 := hts (.fieldLink RX3 155 "ThingRules" "steps" "I") (by decide +kernel)
  have hf37 := hts (.fieldLink RX3 37 "ThingRules" "findings" "[I") (by decide +kernel)
  have hf30 := hts (.fieldLink RX3 30 "ThingRules" "slots" "[I") (by decide +kernel)
  have hS : va_S (AQ 24 q) s.heap s.heap [] := va_S.rf
  have hP : va_P D vwCl (wX q cI cL u) s.heap := hP
  have hl := lv_entry ([.ref (q 0)]) (n := 2) (Nat.le_of_ble_eq_true rfl)
  rw [lg_entry_eq]
  generalize (lg_sl ([.ref (q 0)]) ++ List.replicate (2 - (lg_sl ([.ref (q 0)])).length) Slot.unset).toArray = ls at hl ⊢
  have hl : lv_has ls 2 [(0, .ref (q 0))] := hl
  have loop_23 : ∀ (n : Nat) (u' : St) (x1 : Int32) (H : Heap) (locs : List Loc) (ls : Array Slot), oklX_forgetTraces_23 n u' x1 → sX_forgetTraces u = lX_forgetTraces_23 n u' x1 → va_P D vwCl (wX q cI cL u') H → va_S (AQ 24 q) s.heap H locs → lv_has ls 2 [(0, .ref (q 0)), (1, .int x1)] → W p l e (headSpec wsX3_forgetTraces { frames := 0, cells := 0, slots := 0, locals := 0 }).room s m ([.ref (q 0)] : List Value).toArray below meth c H locs 0 0 (MQ below (va_Qv (fun u' : St => u' = sX_forgetTraces u) (fun u' t => PX D q cI cL tp u' t) (AQ 24 q)) ([.ref (q 0)] : List Value).toArray s 0 0 (AQ 24 q)) (F0 m 23 ls []) := by
    intro n
    induction n with
    | zero => intro u' x1 H locs ls hok; exact False.elim hok
    | succ n ih =>
      intro u' x1 H locs ls hok hsp hP hS hl
      replace hsp := hsp.trans (lX_forgetTraces_23_s n u' x1)
      replace hok := (oklX_forgetTraces_23_s n u' x1).mp hok
      refine lv_iload_n hx hb dX3_forgetTraces_23 rfl (lv_at hl 1 rfl) ?_
      refine lv_bipush (v := 6) hx hb dX3_forgetTraces_24 (by decide) ?_
      refine lv_icmp_ge (tgt := 42) hx hb dX3_forgetTraces_26 (by decide) (fun c_1 => ?_) (fun c_1 => ?_)
      · have hsp := hsp.trans (if_pos c_1)
        refine lv_aload_n hx hb dX3_forgetTraces_42 rfl (lv_at hl 0 rfl) ?_
        refine lv_iconst (v := 0) hx hb dX3_forgetTraces_43 (by decide) ?_
        refine va_put (D := D) (ci := 6) (v := .int 0) (ty := .int) (C := RX3) (T := TX3) (N := 7) hx hb hts hiX3 tyX3 tyX3_ok nmX3 hown hK hP (dX hq) hS 0 rfl rfl 6 (by decide) hf155 (fun _ h9 => h9) rfl (by decide +kernel) rfl rfl (Nat.le_of_ble_eq_true rfl) dX3_forgetTraces_44 (fun H locs hP _ hS => ?_)
        obtain ⟨u1, hu1⟩ : ∃ z : St, z = (stI u' 0 0) := ⟨_, rfl⟩
        have hP : va_P D vwCl (wX q cI cL u1) H := by rw [hu1]; exact hP
        have hsp := hsp.trans (bnd_eq hu1)
        exact W.vret hx hb hr (fun t ht hW => ⟨⟨u1, rfl, hsp.symm, PX_fin hP hK hZ hS ht hW⟩, hS.F ht⟩) hS.2.2 dX3_forgetTraces_47
      · have hsp := hsp.trans (if_neg c_1)
        have hok := hok.2 c_1
        refine lv_aload_n hx hb dX3_forgetTraces_29 rfl (lv_at hl 0 rfl) ?_
        refine va_get (D := D) (ci := 6) (v := .ref (q 6)) (C := RX3) (T := TX3) (N := 7) hx hb hts hiX3 hown hK hP 0 rfl rfl 5 (by decide) hf37 (fun _ h9 => h9) rfl dX3_forgetTraces_30 ?_
        refine lv_iload_n hx hb dX3_forgetTraces_33 rfl (lv_at hl 1 rfl) ?_
        refine lv_iconst (v := 0) hx hb dX3_forgetTraces_34 (by decide) ?_
        have h_2 := hok.1
        have hok := hok.2
        refine va_iast hx hb hK hP (dX hq) hS 6 0 rfl rfl h_2 dX3_forgetTraces_35 (fun H locs hP _ hS => ?_)
        obtain ⟨u2, hu2⟩ : ∃ z : St, z = (stA u' 6 x1.toNatClampNeg 0) := ⟨_, rfl⟩
        have hP : va_P D vwCl (wX q cI cL u2) H := by rw [hu2]; exact hP
        have hsp := hsp.trans (bnd_eq hu2)
        have hok := bnd_ok hu2 hok
        refine lv_iinc (v := (x1 + 1)) (lv' := [(1, .int (x1 + 1)), (0, .ref (q 0))]) hx hb dX3_forgetTraces_36 hl (k := 1) rfl rfl (by decide) rfl (fun ls hl => ?_)
        refine lv_goto (tgt := 23) hx hb dX3_forgetTraces_39 (by decide) ?_
        exact ih u2 (x1 + 1) _ _ _ hok hsp hP hS (lv_sub hl [1, 0] rfl)
  have loop_2 : ∀ (n : Nat) (u' : St) (x1 : Int32) (H : Heap) (locs : List Loc) (ls : Array Slot), oklX_forgetTraces_2 n u' x1 → sX_forgetTraces u = lX_forgetTraces_2 n u' x1 → va_P D vwCl (wX q cI cL u') H → va_S (AQ 24 q) s.heap H locs → lv_has ls 2 [(0, .ref (q 0)), (1, .int x1)] → W p l e (headSpec wsX3_forgetTraces { frames := 0, cells := 0, slots := 0, locals := 0 }).room s m ([.ref (q 0)] : List Value).toArray below meth c H locs 0 0 (MQ below (va_Qv (fun u' : St => u' = sX_forgetTraces u) (fun u' t => PX D q cI cL tp u' t) (AQ 24 q)) ([.ref (q 0)] : List Value).toArray s 0 0 (AQ 24 q)) (F0 m 2 ls []) := by
    intro n
    induction n with
    | zero => intro u' x1 H locs ls hok; exact False.elim hok
    | succ n ih =>
      intro u' x1 H locs ls hok hsp hP hS hl
      replace hsp := hsp.trans (lX_forgetTraces_2_s n u' x1)
      replace hok := (oklX_forgetTraces_2_s n u' x1).mp hok
      refine lv_iload_n hx hb dX3_forgetTraces_2 rfl (lv_at hl 1 rfl) ?_
      refine lv_iconst (v := 4) hx hb dX3_forgetTraces_3 (by decide) ?_
      refine lv_icmp_ge (tgt := 21) hx hb dX3_forgetTraces_4 (by decide) (fun c_3 => ?_) (fun c_3 => ?_)
      · have hsp := hsp.trans (if_pos c_3)
        have hok := hok.1 c_3
        refine lv_iconst (v := 0) hx hb dX3_forgetTraces_21 (by decide) ?_
        refine lv_istore_n (lv' := [(1, .int 0), (0, .ref (q 0))]) hx hb dX3_forgetTraces_22 rfl hl (by decide) rfl (fun ls hl => ?_)
        exact loop_23 100 u' 0 _ _ _ hok hsp hP hS (lv_sub hl [1, 0] rfl)
      · have hsp := hsp.trans (if_neg c_3)
        have hok := hok.2 c_3
        refine lv_aload_n hx hb dX3_forgetTraces_7 rfl (lv_at hl 0 rfl) ?_
        refine va_get (D := D) (ci := 6) (v := .ref (q 4)) (C := RX3) (T := TX3) (N := 7) hx hb hts hiX3 hown hK hP 0 rfl rfl 3 (by decide) hf30 (fun _ h9 => h9) rfl dX3_forgetTraces_8 ?_
        refine lv_iload_n hx hb dX3_forgetTraces_11 rfl (lv_at hl 1 rfl) ?_
        refine lv_bipush (v := (-5)) hx hb dX3_forgetTraces_12 (by decide) ?_
        have h_4 := hok.1
        have hok := hok.2
        refine va_iast hx hb hK hP (dX hq) hS 4 0 rfl rfl h_4 dX3_forgetTraces_14 (fun H locs hP _ hS => ?_)
        obtain ⟨u3, hu3⟩ : ∃ z : St, z = (stA u' 4 x1.toNatClampNeg (-5)) := ⟨_, rfl⟩
        have hP : va_P D vwCl (wX q cI cL u3) H := by rw [hu3]; exact hP
        have hsp := hsp.trans (bnd_eq hu3)
        have hok := bnd_ok hu3 hok
        refine lv_iinc (v := (x1 + 1)) (lv' := [(1, .int (x1 + 1)), (0, .ref (q 0))]) hx hb dX3_forgetTraces_15 hl (k := 1) rfl rfl (by decide) rfl (fun ls hl => ?_)
        refine lv_goto (tgt := 2) hx hb dX3_forgetTraces_18 (by decide) ?_
        exact ih u3 (x1 + 1) _ _ _ hok hsp hP hS (lv_sub hl [1, 0] rfl)
  have hsp : sX_forgetTraces u = _ := sX_forgetTraces.eq_1 u
  unfold okX_forgetTraces at hok
  refine lv_iconst (v := 0) hx hb dX3_forgetTraces_0 (by decide) ?_
  refine lv_istore_n (lv' := [(1, .int 0), (0, .ref (q 0))]) hx hb dX3_forgetTraces_1 rfl hl (by decide) rfl (fun ls hl => ?_)
  exact loop_2 100 u 0 _ _ _ hok hsp hP hS (lv_sub hl [1, 0] rfl)
set_option maxHeartbeats 4000000 in
set_option maxRecDepth 100000 in
theorem cX_clear (l : Launch) (D : va_G) (q : Nat → Nat) (cI cL : ClassId) (tp : Nat) (hq : DQ 24 q) (u : St) (hok : okX_clear u) : Met l yX3_clear wsX3_clear { frames := 1, cells := 0, slots := 0, locals := 21 } (va_Pc [.ref (q 0)] (fun U => PX D q cI cL tp u U)) (va_Qi (fun (r : Int32) (u' : St) => (r, u') = sX_clear u) (fun u' t => PX D q cI cL tp u' t) (AQ 24 q)) 0 0 (AQ 24 q) := by
  refine Met.ofW (cc := cX3_clear) (maxL := 2) (ret := (some .int)) (by decide) rfl ?_
  intro p e s m args below meth c s₁ B hml hv
  obtain ⟨rfl, hP, hK, hZ⟩ := hv
  have hx := B.exec
  have hb := B.bytes
  have hr := B.returns
  have hts := atoms_spec (ws := wsX3_clear) B.pre
  have hown : s.vm.findClass RX3 = some m.cls := findClass_of_methodNamed B.named
  have hlocks := B.notSynchronized
  have hiX3 : ∀ w ∈ u_ws RX3 TX3 7, w ∈ wsX3_clear := by decide +kernel
  have hiX2 : ∀ w ∈ u_ws RX2 TX2 8, w ∈ wsX3_clear := by decide +kernel
  have hiX0 : ∀ w ∈ u_ws RX0 TX0 5, w ∈ wsX3_clear := by decide +kernel
  have hiX1 : ∀ w ∈ u_ws RX1 TX1 7, w ∈ wsX3_clear := by decide +kernel
  have hf10 := hts (.fieldLink RX3 10 "ThingRules" "things" "LThingRules$Things;") (by decide +kernel)
  have hf153 := hts (.fieldLink RX3 153 "ThingRules$Things" "made" "I") (by decide +kernel)
  have hf19 := hts (.fieldLink RX3 19 "ThingRules" "patterns" "LThingRules$Patterns;") (by decide +kernel)
  have hf154 := hts (.fieldLink RX3 154 "ThingRules$Patterns" "made" "I") (by decide +kernel)
  have hf26 := hts (.fieldLink RX3 26 "ThingRules" "rules" "LThingRules$Rules;") (by decide +kernel)
  have hf127 := hts (.fieldLink RX3 127 "ThingRules$Rules" "made" "I") (by decide +kernel)
  have hS : va_S (AQ 24 q) s.heap s.heap [] := va_S.rf
  have hP : va_P D vwCl (wX q cI cL u) s.heap := hP
  have hl := lv_entry ([.ref (q 0)]) (n := 2) (Nat.le_of_ble_eq_true rfl)
  rw [lg_entry_eq]
  generalize (lg_sl ([.ref (q 0)]) ++ List.replicate (2 - (lg_sl ([.ref (q 0)])).length) Slot.unset).toArray = ls at hl ⊢
  have hl : lv_has ls 2 [(0, .ref (q 0))] := hl
  have hsp : sX_clear u = _ := sX_clear.eq_1 u
  unfold okX_clear at hok
  refine lv_aload_n hx hb dX3_clear_0 rfl (lv_at hl 0 rfl) ?_
  refine va_get (D := D) (ci := 6) (v := .ref (q 1)) (C := RX3) (T := TX3) (N := 7) hx hb hts hiX3 hown hK hP 0 rfl rfl 0 (by decide) hf10 (fun _ h9 => h9) rfl dX3_clear_1 ?_
  refine va_get (D := D) (ci := 5) (v := .int (u.1 1)) (C := RX2) (T := TX2) (N := 8) hx hb hts hiX2 hown hK hP 1 rfl rfl 0 (by decide) hf153 (fun _ h9 => h9) rfl dX3_clear_4 ?_
  refine lv_topi (fun y1 hy1 => ?_)
  have hsp := hsp.trans (bnd_eq hy1)
  have hok := bnd_ok hy1 hok
  refine lv_istore_n (lv' := [(1, .int y1), (0, .ref (q 0))]) hx hb dX3_clear_7 rfl hl (by decide) rfl (fun ls hl => ?_)
  refine lv_aload_n hx hb dX3_clear_8 rfl (lv_at hl 1 rfl) ?_
  refine va_get (D := D) (ci := 6) (v := .ref (q 1)) (C := RX3) (T := TX3) (N := 7) hx hb hts hiX3 hown hK hP 0 rfl rfl 0 (by decide) hf10 (fun _ h9 => h9) rfl dX3_clear_9 ?_
  refine lv_iconst (v := 0) hx hb dX3_clear_12 (by decide) ?_
  refine va_put (D := D) (ci := 5) (v := .int 0) (ty := .int) (C := RX2) (T := TX2) (N := 8) hx hb hts hiX2 tyX2 tyX2_ok nmX2 hown hK hP (dX hq) hS 1 rfl rfl 0 (by decide) hf153 (fun _ h9 => h9) rfl (by decide +kernel) rfl rfl (Nat.le_of_ble_eq_true rfl) dX3_clear_13 (fun H locs hP _ hS => ?_)
  obtain ⟨u2, hu2⟩ : ∃ z : St, z = (stI u 1 0) := ⟨_, rfl⟩
  have hP : va_P D vwCl (wX q cI cL u2) H := by rw [hu2]; exact hP
  have hsp := hsp.trans (bnd_eq hu2)
  have hok := bnd_ok hu2 hok
  refine lv_aload_n hx hb dX3_clear_16 rfl (lv_at hl 1 rfl) ?_
  refine va_get (D := D) (ci := 6) (v := .ref (q 2)) (C := RX3) (T := TX3) (N := 7) hx hb hts hiX3 hown hK hP 0 rfl rfl 1 (by decide) hf19 (fun _ h9 => h9) rfl dX3_clear_17 ?_
  refine lv_iconst (v := 0) hx hb dX3_clear_20 (by decide) ?_
  refine va_put (D := D) (ci := 3) (v := .int 0) (ty := .int) (C := RX0) (T := TX0) (N := 5) hx hb hts hiX0 tyX0 tyX0_ok nmX0 hown hK hP (dX hq) hS 2 rfl rfl 0 (by decide) hf154 (fun _ h9 => h9) rfl (by decide +kernel) rfl rfl (Nat.le_of_ble_eq_true rfl) dX3_clear_21 (fun H locs hP _ hS => ?_)
  obtain ⟨u3, hu3⟩ : ∃ z : St, z = (stI u2 2 0) := ⟨_, rfl⟩
  have hP : va_P D vwCl (wX q cI cL u3) H := by rw [hu3]; exact hP
  have hsp := hsp.trans (bnd_eq hu3)
  have hok := bnd_ok hu3 hok
  refine lv_aload_n hx hb dX3_clear_24 rfl (lv_at hl 1 rfl) ?_
  refine va_get (D := D) (ci := 6) (v := .ref (q 3)) (C := RX3) (T := TX3) (N := 7) hx hb hts hiX3 hown hK hP 0 rfl rfl 2 (by decide) hf26 (fun _ h9 => h9) rfl dX3_clear_25 ?_
  refine lv_iconst (v := 0) hx hb dX3_clear_28 (by decide) ?_
  refine va_put (D := D) (ci := 4) (v := .int 0) (ty := .int) (C := RX1) (T := TX1) (N := 7) hx hb hts hiX1 tyX1 tyX1_ok nmX1 hown hK hP (dX hq) hS 3 rfl rfl 0 (by decide) hf127 (fun _ h9 => h9) rfl (by decide +kernel) rfl rfl (Nat.le_of_ble_eq_true rfl) dX3_clear_29 (fun H locs hP _ hS => ?_)
  obtain ⟨u4, hu4⟩ : ∃ z : St, z = (stI u3 3 0) := ⟨_, rfl⟩
  have hP : va_P D vwCl (wX q cI cL u4) H := by rw [hu4]; exact hP
  have hsp := hsp.trans (bnd_eq hu4)
  have hok := bnd_ok hu4 hok
  refine lv_aload_n hx hb dX3_clear_32 rfl (lv_at hl 1 rfl) ?_
  have h_1 := hok.1
  have hok := hok.2
  refine va_callv (va_runV (As := []) (rest := []) ⟨hx, hb, hml, hown, hts⟩ (cX_forgetTraces l D q cI cL tp hq u4 h_1) (cwV 0 hts gX3_clear_X3_forgetTraces rfl rfl rfl (by decide +kernel) ⟨(Nat.le_of_ble_eq_true rfl), (Nat.le_of_ble_eq_true rfl)⟩) ⟨PX_blind, va_recv hK hP (ci := 6) (q0 := 0) rfl rfl, fun U hU hW => ⟨rfl, PX_fin hP hK hZ hS hU hW⟩⟩ rfl rfl hl.1 rfl (lv_room (Nat.le_of_ble_eq_true rfl)) dX3_clear_33 ⟨(Nat.le_of_ble_eq_true rfl), (Nat.le_of_ble_eq_true rfl)⟩) hS (fun q _ h => h) (fun q h => h) (fun u5 t H1 locs ht hvm hu5 hB hz1 hk1 hS => ?_)
  have hP := hB.1
  rw [ht] at hP
  clear hB hk1 hz1 hvm ht
  generalize H1 = H at hP hS ⊢
  refine W.widen (k := 0) (n := 0) (Nat.le_refl 0) (Nat.le_refl 0) ?_
  have hsp := hsp.trans (bnd_eq hu5)
  refine lv_iload_n hx hb dX3_clear_36 rfl (lv_at hl 0 rfl) ?_
  exact W.iret (v := y1) hx hb hr (fun t ht hW => ⟨⟨y1, u5, rfl, hsp.symm, PX_fin hP hK hZ hS ht hW⟩, hS.F ht⟩) hS.2.2 dX3_clear_37
