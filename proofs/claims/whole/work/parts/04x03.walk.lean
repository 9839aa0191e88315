set_option maxHeartbeats 4000000 in
set_option maxRecDepth 100000 in
theorem cXP_know (l : Launch) (D : va_G) (q : Nat → Nat) (cI cL : ClassId) (tp : Nat) (u : St) (p1 : Int32) : Met l yX0_know wsX0_know { frames := 0, cells := 0, slots := 0, locals := 0 } (va_Pc [.ref (q 2), .int p1] (fun U => PX D q cI cL tp u U)) (vp_Si (fun r => r = sXP_know u p1)) 0 0 (fun _ => False) := by
  refine Met.ofW (cc := cX0_know) (maxL := 2) (ret := (some .boolean)) (by decide) rfl ?_
  intro p e s m args below meth c s₁ B hml hv
  obtain ⟨rfl, hP, hK, hZ⟩ := hv
  have hx := B.exec
  have hb := B.bytes
  have hr := B.returns
  have hts := atoms_spec (ws := wsX0_know) B.pre
  have hown : s.vm.findClass RX0 = some m.cls := findClass_of_methodNamed B.named
  have hlocks := B.notSynchronized
  have hiX0 : ∀ w ∈ u_ws RX0 TX0 5, w ∈ wsX0_know := by decide +kernel
  have hf24 := hts (.fieldLink RX0 24 "ThingRules$Patterns" "made" "I") (by decide +kernel)
  have hS : va_S (AQ 24 q) s.heap s.heap [] := va_S.rf
  have hP : va_P D vwCl (wX q cI cL u) s.heap := hP
  have hl := lv_entry ([.ref (q 2), .int p1]) (n := 2) (Nat.le_of_ble_eq_true rfl)
  rw [lg_entry_eq]
  generalize (lg_sl ([.ref (q 2), .int p1]) ++ List.replicate (2 - (lg_sl ([.ref (q 2), .int p1])).length) Slot.unset).toArray = ls at hl ⊢
  have hl : lv_has ls 2 [(0, .ref (q 2)), (1, .int p1)] := hl
  have hsp : sXP_know u p1 = _ := sXP_know.eq_1 u p1
  refine lv_iload_n hx hb dX0_know_0 rfl (lv_at hl 1 rfl) ?_
  refine lv_if_lt (tgt := 16) hx hb dX0_know_1 (by decide) (fun c_1 => ?_) (fun c_1 => ?_)
  · have hsp := hsp.trans (if_pos c_1)
    refine lv_iconst (v := 0) hx hb dX0_know_16 (by decide) ?_
    exact W.zret (v := 0) hx hb hr rfl (fun t ht hW => ⟨0, rfl, hsp.symm, ht⟩) (fun _ h => nomatch h) dX0_know_17
  · have hsp := hsp.trans (if_neg c_1)
    refine lv_iload_n hx hb dX0_know_4 rfl (lv_at hl 1 rfl) ?_
    refine lv_aload_n hx hb dX0_know_5 rfl (lv_at hl 0 rfl) ?_
    refine va_get (D := D) (ci := 3) (v := .int (u.1 2)) (C := RX0) (T := TX0) (N := 5) hx hb hts hiX0 hown hK hP 2 rfl rfl 0 (by decide) hf24 (fun _ h9 => h9) rfl dX0_know_6 ?_
    refine lv_icmp_ge (tgt := 16) hx hb dX0_know_9 (by decide) (fun c_2 => ?_) (fun c_2 => ?_)
    · have hsp := hsp.trans (if_pos c_2)
      refine lv_iconst (v := 0) hx hb dX0_know_16 (by decide) ?_
      exact W.zret (v := 0) hx hb hr rfl (fun t ht hW => ⟨0, rfl, hsp.symm, ht⟩) (fun _ h => nomatch h) dX0_know_17
    · have hsp := hsp.trans (if_neg c_2)
      refine lv_iconst (v := 1) hx hb dX0_know_12 (by decide) ?_
      refine lv_goto (tgt := 17) hx hb dX0_know_13 (by decide) ?_
      exact W.zret (v := 1) hx hb hr rfl (fun t ht hW => ⟨1, rfl, hsp.symm, ht⟩) (fun _ h => nomatch h) dX0_know_17
set_option maxHeartbeats 4000000 in
set_option maxRecDepth 100000 in
theorem cX_namesKnownPatterns (l : Launch) (D : va_G) (q : Nat → Nat) (cI cL : ClassId) (tp : Nat) (u : St) (p1 : Int32) (p2 : Int32) (p3 : Int32) (p4 : Int32) : Met l yX3_namesKnownPatterns wsX3_namesKnownPatterns { frames := 1, cells := 0, slots := 0, locals := 21 } (va_Pc [.ref (q 0), .int p1, .int p2, .int p3, .int p4] (fun U => PX D q cI cL tp u U)) (vp_Si (fun r => r = sX_namesKnownPatterns u p1 p2 p3 p4)) 0 0 (fun _ => False) := by
  refine Met.ofW (cc := cX3_namesKnownPatterns) (maxL := 5) (ret := (some .boolean)) (by decide) rfl ?_
  intro p e s m args below meth c s₁ B hml hv
  obtain ⟨rfl, hP, hK, hZ⟩ := hv
  have hx := B.exec
  have hb := B.bytes
  have hr := B.returns
  have hts := atoms_spec (ws := wsX3_namesKnownPatterns) B.pre
  have hown : s.vm.findClass RX3 = some m.cls := findClass_of_methodNamed B.named
  have hlocks := B.notSynchronized
  have hiX3 : ∀ w ∈ u_ws RX3 TX3 7, w ∈ wsX3_namesKnownPatterns := by decide +kernel
  have hf19 := hts (.fieldLink RX3 19 "ThingRules" "patterns" "LThingRules$Patterns;") (by decide +kernel)
  have hS : va_S (AQ 24 q) s.heap s.heap [] := va_S.rf
  have hP : va_P D vwCl (wX q cI cL u) s.heap := hP
  have hl := lv_entry ([.ref (q 0), .int p1, .int p2, .int p3, .int p4]) (n := 5) (Nat.le_of_ble_eq_true rfl)
  rw [lg_entry_eq]
  generalize (lg_sl ([.ref (q 0), .int p1, .int p2, .int p3, .int p4]) ++ List.replicate (5 - (lg_sl ([.ref (q 0), .int p1, .int p2, .int p3, .int p4])).length) Slot.unset).toArray = ls at hl ⊢
  have hl : lv_has ls 5 [(0, .ref (q 0)), (1, .int p1), (2, .int p2), (3, .int p3), (4, .int p4)] := hl
  have hsp : sX_namesKnownPatterns u p1 p2 p3 p4 = _ := sX_namesKnownPatterns.eq_1 u p1 p2 p3 p4
  refine lv_iload_n hx hb dX3_namesKnownPatterns_0 rfl (lv_at hl 1 rfl) ?_
  by_cases c_1 : p1 = 1
  · have hsp := hsp.trans (if_pos c_1)
    refine lv_tableIn (off := 79) (tgt := 80) hx hb dX3_namesKnownPatterns_1 (by rw [c_1]; decide) (by rw [c_1]; decide) (by rw [c_1]; rfl) (by decide) ?_
    refine lv_aload_n hx hb dX3_namesKnownPatterns_80 rfl (lv_at hl 0 rfl) ?_
    refine va_get (D := D) (ci := 6) (v := .ref (q 2)) (C := RX3) (T := TX3) (N := 7) hx hb hts hiX3 hown hK hP 0 rfl rfl 1 (by decide) hf19 (fun _ h9 => h9) rfl dX3_namesKnownPatterns_81 ?_
    refine lv_iload_n hx hb dX3_namesKnownPatterns_84 rfl (lv_at hl 3 rfl) ?_
    refine vp_callSi (W.runV (As := [.int p3]) (rest := []) ⟨hx, hb, hml, hown, hts⟩ (cXP_know l D q cI cL tp u p3) (cwV 1 hts gX3_namesKnownPatterns_X0_know rfl rfl rfl (by decide +kernel) ⟨(Nat.le_of_ble_eq_true rfl), (Nat.le_of_ble_eq_true rfl)⟩) ⟨PX_blind, va_recv hK hP (ci := 3) (q0 := 2) rfl rfl, fun U hU hW => ⟨rfl, PX_fin hP hK hZ hS hU hW⟩⟩ rfl rfl hl.1 rfl (lv_room (Nat.le_of_ble_eq_true rfl)) dX3_namesKnownPatterns_85 ⟨(Nat.le_of_ble_eq_true rfl), (Nat.le_of_ble_eq_true rfl)⟩) (fun r_2 hr_2 => ?_)
    subst hr_2
    exact W.zret (v := (sXP_know u p3)) hx hb hr (isB_n (bXP_know u p3)) (fun t ht hW => ⟨(sXP_know u p3), rfl, hsp.symm, ht⟩) (fun _ h => nomatch h) dX3_namesKnownPatterns_88
  · have hsp := hsp.trans (if_neg c_1)
    by_cases c_3 : p1 = 2
    · have hsp := hsp.trans (if_pos c_3)
      refine lv_tableIn (off := 107) (tgt := 108) hx hb dX3_namesKnownPatterns_1 (by rw [c_3]; decide) (by rw [c_3]; decide) (by rw [c_3]; rfl) (by decide) ?_
      refine lv_iconst (v := 1) hx hb dX3_namesKnownPatterns_108 (by decide) ?_
      exact W.zret (v := 1) hx hb hr rfl (fun t ht hW => ⟨1, rfl, hsp.symm, ht⟩) (fun _ h => nomatch h) dX3_namesKnownPatterns_109
    · have hsp := hsp.trans (if_neg c_3)
      by_cases c_4 : p1 = 3
      · have hsp := hsp.trans (if_pos c_4)
        refine lv_tableIn (off := 51) (tgt := 52) hx hb dX3_namesKnownPatterns_1 (by rw [c_4]; decide) (by rw [c_4]; decide) (by rw [c_4]; rfl) (by decide) ?_
        refine lv_aload_n hx hb dX3_namesKnownPatterns_52 rfl (lv_at hl 0 rfl) ?_
        refine va_get (D := D) (ci := 6) (v := .ref (q 2)) (C := RX3) (T := TX3) (N := 7) hx hb hts hiX3 hown hK hP 0 rfl rfl 1 (by decide) hf19 (fun _ h9 => h9) rfl dX3_namesKnownPatterns_53 ?_
        refine lv_iload_n hx hb dX3_namesKnownPatterns_56 rfl (lv_at hl 2 rfl) ?_
        refine vp_callSi (W.runV (As := [.int p2]) (rest := []) ⟨hx, hb, hml, hown, hts⟩ (cXP_know l D q cI cL tp u p2) (cwV 1 hts gX3_namesKnownPatterns_X0_know rfl rfl rfl (by decide +kernel) ⟨(Nat.le_of_ble_eq_true rfl), (Nat.le_of_ble_eq_true rfl)⟩) ⟨PX_blind, va_recv hK hP (ci := 3) (q0 := 2) rfl rfl, fun U hU hW => ⟨rfl, PX_fin hP hK hZ hS hU hW⟩⟩ rfl rfl hl.1 rfl (lv_room (Nat.le_of_ble_eq_true rfl)) dX3_namesKnownPatterns_57 ⟨(Nat.le_of_ble_eq_true rfl), (Nat.le_of_ble_eq_true rfl)⟩) (fun r_5 hr_5 => ?_)
        subst hr_5
        refine lv_if_eq (tgt := 78) hx hb dX3_namesKnownPatterns_60 (by decide) (fun c_6 => ?_) (fun c_6 => ?_)
        · have hsp := hsp.trans (if_pos c_6)
          refine lv_iconst (v := 0) hx hb dX3_namesKnownPatterns_78 (by decide) ?_
          exact W.zret (v := 0) hx hb hr rfl (fun t ht hW => ⟨0, rfl, hsp.symm, ht⟩) (fun _ h => nomatch h) dX3_namesKnownPatterns_79
        · have hsp := hsp.trans (if_neg c_6)
          refine lv_aload_n hx hb dX3_namesKnownPatterns_63 rfl (lv_at hl 0 rfl) ?_
          refine va_get (D := D) (ci := 6) (v := .ref (q 2)) (C := RX3) (T := TX3) (N := 7) hx hb hts hiX3 hown hK hP 0 rfl rfl 1 (by decide) hf19 (fun _ h9 => h9) rfl dX3_namesKnownPatterns_64 ?_
          refine lv_iload_n hx hb dX3_namesKnownPatterns_67 rfl (lv_at hl 3 rfl) ?_
          refine vp_callSi (W.runV (As := [.int p3]) (rest := []) ⟨hx, hb, hml, hown, hts⟩ (cXP_know l D q cI cL tp u p3) (cwV 1 hts gX3_namesKnownPatterns_X0_know rfl rfl rfl (by decide +kernel) ⟨(Nat.le_of_ble_eq_true rfl), (Nat.le_of_ble_eq_true rfl)⟩) ⟨PX_blind, va_recv hK hP (ci := 3) (q0 := 2) rfl rfl, fun U hU hW => ⟨rfl, PX_fin hP hK hZ hS hU hW⟩⟩ rfl rfl hl.1 rfl (lv_room (Nat.le_of_ble_eq_true rfl)) dX3_namesKnownPatterns_68 ⟨(Nat.le_of_ble_eq_true rfl), (Nat.le_of_ble_eq_true rfl)⟩) (fun r_7 hr_7 => ?_)
          subst hr_7
          refine lv_if_eq (tgt := 78) hx hb dX3_namesKnownPatterns_71 (by decide) (fun c_8 => ?_) (fun c_8 => ?_)
          · have hsp := hsp.trans (if_pos c_8)
            refine lv_iconst (v := 0) hx hb dX3_namesKnownPatterns_78 (by decide) ?_
            exact W.zret (v := 0) hx hb hr rfl (fun t ht hW => ⟨0, rfl, hsp.symm, ht⟩) (fun _ h => nomatch h) dX3_namesKnownPatterns_79
          · have hsp := hsp.trans (if_neg c_8)
            refine lv_iconst (v := 1) hx hb dX3_namesKnownPatterns_74 (by decide) ?_
            refine lv_goto (tgt := 79) hx hb dX3_namesKnownPatterns_75 (by decide) ?_
            exact W.zret (v := 1) hx hb hr rfl (fun t ht hW => ⟨1, rfl, hsp.symm, ht⟩) (fun _ h => nomatch h) dX3_namesKnownPatterns_79
      · have hsp := hsp.trans (if_neg c_4)
        by_cases c_9 : p1 = 4
        · have hsp := hsp.trans (if_pos c_9)
          refine lv_tableIn (off := 79) (tgt := 80) hx hb dX3_namesKnownPatterns_1 (by rw [c_9]; decide) (by rw [c_9]; decide) (by rw [c_9]; rfl) (by decide) ?_
          refine lv_aload_n hx hb dX3_namesKnownPatterns_80 rfl (lv_at hl 0 rfl) ?_
          refine va_get (D := D) (ci := 6) (v := .ref (q 2)) (C := RX3) (T := TX3) (N := 7) hx hb hts hiX3 hown hK hP 0 rfl rfl 1 (by decide) hf19 (fun _ h9 => h9) rfl dX3_namesKnownPatterns_81 ?_
          refine lv_iload_n hx hb dX3_namesKnownPatterns_84 rfl (lv_at hl 3 rfl) ?_
          refine vp_callSi (W.runV (As := [.int p3]) (rest := []) ⟨hx, hb, hml, hown, hts⟩ (cXP_know l D q cI cL tp u p3) (cwV 1 hts gX3_namesKnownPatterns_X0_know rfl rfl rfl (by decide +kernel) ⟨(Nat.le_of_ble_eq_true rfl), (Nat.le_of_ble_eq_true rfl)⟩) ⟨PX_blind, va_recv hK hP (ci := 3) (q0 := 2) rfl rfl, fun U hU hW => ⟨rfl, PX_fin hP hK hZ hS hU hW⟩⟩ rfl rfl hl.1 rfl (lv_room (Nat.le_of_ble_eq_true rfl)) dX3_namesKnownPatterns_85 ⟨(Nat.le_of_ble_eq_true rfl), (Nat.le_of_ble_eq_true rfl)⟩) (fun r_10 hr_10 => ?_)
          subst hr_10
          exact W.zret (v := (sXP_know u p3)) hx hb hr (isB_n (bXP_know u p3)) (fun t ht hW => ⟨(sXP_know u p3), rfl, hsp.symm, ht⟩) (fun _ h => nomatch h) dX3_namesKnownPatterns_88
        · have hsp := hsp.trans (if_neg c_9)
          by_cases c_11 : p1 = 5
          · have hsp := hsp.trans (if_pos c_11)
            refine lv_tableIn (off := 88) (tgt := 89) hx hb dX3_namesKnownPatterns_1 (by rw [c_11]; decide) (by rw [c_11]; decide) (by rw [c_11]; rfl) (by decide) ?_
            refine lv_aload_n hx hb dX3_namesKnownPatterns_89 rfl (lv_at hl 0 rfl) ?_
            refine va_get (D := D) (ci := 6) (v := .ref (q 2)) (C := RX3) (T := TX3) (N := 7) hx hb hts hiX3 hown hK hP 0 rfl rfl 1 (by decide) hf19 (fun _ h9 => h9) rfl dX3_namesKnownPatterns_90 ?_
            refine lv_iload hx hb dX3_namesKnownPatterns_93 (lv_at hl 4 rfl) ?_
            refine vp_callSi (W.runV (As := [.int p4]) (rest := []) ⟨hx, hb, hml, hown, hts⟩ (cXP_know l D q cI cL tp u p4) (cwV 1 hts gX3_namesKnownPatterns_X0_know rfl rfl rfl (by decide +kernel) ⟨(Nat.le_of_ble_eq_true rfl), (Nat.le_of_ble_eq_true rfl)⟩) ⟨PX_blind, va_recv hK hP (ci := 3) (q0 := 2) rfl rfl, fun U hU hW => ⟨rfl, PX_fin hP hK hZ hS hU hW⟩⟩ rfl rfl hl.1 rfl (lv_room (Nat.le_of_ble_eq_true rfl)) dX3_namesKnownPatterns_95 ⟨(Nat.le_of_ble_eq_true rfl), (Nat.le_of_ble_eq_true rfl)⟩) (fun r_12 hr_12 => ?_)
            subst hr_12
            exact W.zret (v := (sXP_know u p4)) hx hb hr (isB_n (bXP_know u p4)) (fun t ht hW => ⟨(sXP_know u p4), rfl, hsp.symm, ht⟩) (fun _ h => nomatch h) dX3_namesKnownPatterns_98
          · have hsp := hsp.trans (if_neg c_11)
            by_cases c_13 : p1 = 6
            · have hsp := hsp.trans (if_pos c_13)
              refine lv_tableIn (off := 107) (tgt := 108) hx hb dX3_namesKnownPatterns_1 (by rw [c_13]; decide) (by rw [c_13]; decide) (by rw [c_13]; rfl) (by decide) ?_
              refine lv_iconst (v := 1) hx hb dX3_namesKnownPatterns_108 (by decide) ?_
              exact W.zret (v := 1) hx hb hr rfl (fun t ht hW => ⟨1, rfl, hsp.symm, ht⟩) (fun _ h => nomatch h) dX3_namesKnownPatterns_109
            · have hsp := hsp.trans (if_neg c_13)
              by_cases c_14 : p1 = 7
              · have hsp := hsp.trans (if_pos c_14)
                refine lv_tableIn (off := 51) (tgt := 52) hx hb dX3_namesKnownPatterns_1 (by rw [c_14]; decide) (by rw [c_14]; decide) (by rw [c_14]; rfl) (by decide) ?_
                refine lv_aload_n hx hb dX3_namesKnownPatterns_52 rfl (lv_at hl 0 rfl) ?_
                refine va_get (D := D) (ci := 6) (v := .ref (q 2)) (C := RX3) (T := TX3) (N := 7) hx hb hts hiX3 hown hK hP 0 rfl rfl 1 (by decide) hf19 (fun _ h9 => h9) rfl dX3_namesKnownPatterns_53 ?_
                refine lv_iload_n hx hb dX3_namesKnownPatterns_56 rfl (lv_at hl 2 rfl) ?_
                refine vp_callSi (W.runV (As := [.int p2]) (rest := []) ⟨hx, hb, hml, hown, hts⟩ (cXP_know l D q cI cL tp u p2) (cwV 1 hts gX3_namesKnownPatterns_X0_know rfl rfl rfl (by decide +kernel) ⟨(Nat.le_of_ble_eq_true rfl), (Nat.le_of_ble_eq_true rfl)⟩) ⟨PX_blind, va_recv hK hP (ci := 3) (q0 := 2) rfl rfl, fun U hU hW => ⟨rfl, PX_fin hP hK hZ hS hU hW⟩⟩ rfl rfl hl.1 rfl (lv_room (Nat.le_of_ble_eq_true rfl)) dX3_namesKnownPatterns_57 ⟨(Nat.le_of_ble_eq_true rfl), (Nat.le_of_ble_eq_true rfl)⟩) (fun r_15 hr_15 => ?_)
                subst hr_15
                refine lv_if_eq (tgt := 78) hx hb dX3_namesKnownPatterns_60 (by decide) (fun c_16 => ?_) (fun c_16 => ?_)
                · have hsp := hsp.trans (if_pos c_16)
                  refine lv_iconst (v := 0) hx hb dX3_namesKnownPatterns_78 (by decide) ?_
                  exact W.zret (v := 0) hx hb hr rfl (fun t ht hW => ⟨0, rfl, hsp.symm, ht⟩) (fun _ h => nomatch h) dX3_namesKnownPatterns_79
                · have hsp := hsp.trans (if_neg c_16)
                  refine lv_aload_n hx hb dX3_namesKnownPatterns_63 rfl (lv_at hl 0 rfl) ?_
                  refine va_get (D := D) (ci := 6) (v := .ref (q 2)) (C := RX3) (T := TX3) (N := 7) hx hb hts hiX3 hown hK hP 0 rfl rfl 1 (by decide) hf19 (fun _ h9 => h9) rfl dX3_namesKnownPatterns_64 ?_
                  refine lv_iload_n hx hb dX3_namesKnownPatterns_67 rfl (lv_at hl 3 rfl) ?_
                  refine vp_callSi (W.runV (As := [.int p3]) (rest := []) ⟨hx, hb, hml, hown, hts⟩ (cXP_know l D q cI cL tp u p3) (cwV 1 hts gX3_namesKnownPatterns_X0_know rfl rfl rfl (by decide +kernel) ⟨(Nat.le_of_ble_eq_true rfl), (Nat.le_of_ble_eq_true rfl)⟩) ⟨PX_blind, va_recv hK hP (ci := 3) (q0 := 2) rfl rfl, fun U hU hW => ⟨rfl, PX_fin hP hK hZ hS hU hW⟩⟩ rfl rfl hl.1 rfl (lv_room (Nat.le_of_ble_eq_true rfl)) dX3_namesKnownPatterns_68 ⟨(Nat.le_of_ble_eq_true rfl), (Nat.le_of_ble_eq_true rfl)⟩) (fun r_17 hr_17 => ?_)
                  subst hr_17
                  refine lv_if_eq (tgt := 78) hx hb dX3_namesKnownPatterns_71 (by decide) (fun c_18 => ?_) (fun c_18 => ?_)
                  · have hsp := hsp.trans (if_pos c_18)
                    refine lv_iconst (v := 0) hx hb dX3_namesKnownPatterns_78 (by decide) ?_
                    exact W.zret (v := 0) hx hb hr rfl (fun t ht hW => ⟨0, rfl, hsp.symm, ht⟩) (fun _ h => nomatch h) dX3_namesKnownPatterns_79
                  · have hsp := hsp.trans (if_neg c_18)
                    refine lv_iconst (v := 1) hx hb dX3_namesKnownPatterns_74 (by decide) ?_
                    refine lv_goto (tgt := 79) hx hb dX3_namesKnownPatterns_75 (by decide) ?_
                    exact W.zret (v := 1) hx hb hr rfl (fun t ht hW => ⟨1, rfl, hsp.symm, ht⟩) (fun _ h => nomatch h) dX3_namesKnownPatterns_79
              · have hsp := hsp.trans (if_neg c_14)
                by_cases c_19 : p1 = 8
                · have hsp := hsp.trans (if_pos c_19)
                  refine lv_tableIn (off := 51) (tgt := 52) hx hb dX3_namesKnownPatterns_1 (by rw [c_19]; decide) (by rw [c_19]; decide) (by rw [c_19]; rfl) (by decide) ?_
                  refine lv_aload_n hx hb dX3_namesKnownPatterns_52 rfl (lv_at hl 0 rfl) ?_
                  refine va_get (D := D) (ci := 6) (v := .ref (q 2)) (C := RX3) (T := TX3) (N := 7) hx hb hts hiX3 hown hK hP 0 rfl rfl 1 (by decide) hf19 (fun _ h9 => h9) rfl dX3_namesKnownPatterns_53 ?_
                  refine lv_iload_n hx hb dX3_namesKnownPatterns_56 rfl (lv_at hl 2 rfl) ?_
                  refine vp_callSi (W.runV (As := [.int p2]) (rest := []) ⟨hx, hb, hml, hown, hts⟩ (cXP_know l D q cI cL tp u p2) (cwV 1 hts gX3_namesKnownPatterns_X0_know rfl rfl rfl (by decide +kernel) ⟨(Nat.le_of_ble_eq_true rfl), (Nat.le_of_ble_eq_true rfl)⟩) ⟨PX_blind, va_recv hK hP (ci := 3) (q0 := 2) rfl rfl, fun U hU hW => ⟨rfl, PX_fin hP hK hZ hS hU hW⟩⟩ rfl rfl hl.1 rfl (lv_room (Nat.le_of_ble_eq_true rfl)) dX3_namesKnownPatterns_57 ⟨(Nat.le_of_ble_eq_true rfl), (Nat.le_of_ble_eq_true rfl)⟩) (fun r_20 hr_20 => ?_)
                  subst hr_20
                  refine lv_if_eq (tgt := 78) hx hb dX3_namesKnownPatterns_60 (by decide) (fun c_21 => ?_) (fun c_21 => ?_)
                  · have hsp := hsp.trans (if_pos c_21)
                    refine lv_iconst (v := 0) hx hb dX3_namesKnownPatterns_78 (by decide) ?_
                    exact W.zret (v := 0) hx hb hr rfl (fun t ht hW => ⟨0, rfl, hsp.symm, ht⟩) (fun _ h => nomatch h) dX3_namesKnownPatterns_79
                  · have hsp := hsp.trans (if_neg c_21)
                    refine lv_aload_n hx hb dX3_namesKnownPatterns_63 rfl (lv_at hl 0 rfl) ?_
                    refine va_get (D := D) (ci := 6) (v := .ref (q 2)) (C := RX3) (T := TX3) (N := 7) hx hb hts hiX3 hown hK hP 0 rfl rfl 1 (by decide) hf19 (fun _ h9 => h9) rfl dX3_namesKnownPatterns_64 ?_
                    refine lv_iload_n hx hb dX3_namesKnownPatterns_67 rfl (lv_at hl 3 rfl) ?_
                    refine vp_callSi (W.runV (As := [.int p3]) (rest := []) ⟨hx, hb, hml, hown, hts⟩ (cXP_know l D q cI cL tp u p3) (cwV 1 hts gX3_namesKnownPatterns_X0_know rfl rfl rfl (by decide +kernel) ⟨(Nat.le_of_ble_eq_true rfl), (Nat.le_of_ble_eq_true rfl)⟩) ⟨PX_blind, va_recv hK hP (ci := 3) (q0 := 2) rfl rfl, fun U hU hW => ⟨rfl, PX_fin hP hK hZ hS hU hW⟩⟩ rfl rfl hl.1 rfl (lv_room (Nat.le_of_ble_eq_true rfl)) dX3_namesKnownPatterns_68 ⟨(Nat.le_of_ble_eq_true rfl), (Nat.le_of_ble_eq_true rfl)⟩) (fun r_22 hr_22 => ?_)
                    subst hr_22
                    refine lv_if_eq (tgt := 78) hx hb dX3_namesKnownPatterns_71 (by decide) (fun c_23 => ?_) (fun c_23 => ?_)
                    · have hsp := hsp.trans (if_pos c_23)
                      refine lv_iconst (v := 0) hx hb dX3_namesKnownPatterns_78 (by decide) ?_
                      exact W.zret (v := 0) hx hb hr rfl (fun t ht hW => ⟨0, rfl, hsp.symm, ht⟩) (fun _ h => nomatch h) dX3_namesKnownPatterns_79
                    · have hsp := hsp.trans (if_neg c_23)
                      refine lv_iconst (v := 1) hx hb dX3_namesKnownPatterns_74 (by decide) ?_
                      refine lv_goto (tgt := 79) hx hb dX3_namesKnownPatterns_75 (by decide) ?_
                      exact W.zret (v := 1) hx hb hr rfl (fun t ht hW => ⟨1, rfl, hsp.symm, ht⟩) (fun _ h => nomatch h) dX3_namesKnownPatterns_79
                · have hsp := hsp.trans (if_neg c_19)
                  by_cases c_24 : p1 = 9
                  · have hsp := hsp.trans (if_pos c_24)
                    refine lv_tableIn (off := 98) (tgt := 99) hx hb dX3_namesKnownPatterns_1 (by rw [c_24]; decide) (by rw [c_24]; decide) (by rw [c_24]; rfl) (by decide) ?_
                    refine lv_aload_n hx hb dX3_namesKnownPatterns_99 rfl (lv_at hl 0 rfl) ?_
                    refine va_get (D := D) (ci := 6) (v := .ref (q 2)) (C := RX3) (T := TX3) (N := 7) hx hb hts hiX3 hown hK hP 0 rfl rfl 1 (by decide) hf19 (fun _ h9 => h9) rfl dX3_namesKnownPatterns_100 ?_
                    refine lv_iload_n hx hb dX3_namesKnownPatterns_103 rfl (lv_at hl 2 rfl) ?_
                    refine vp_callSi (W.runV (As := [.int p2]) (rest := []) ⟨hx, hb, hml, hown, hts⟩ (cXP_know l D q cI cL tp u p2) (cwV 1 hts gX3_namesKnownPatterns_X0_know rfl rfl rfl (by decide +kernel) ⟨(Nat.le_of_ble_eq_true rfl), (Nat.le_of_ble_eq_true rfl)⟩) ⟨PX_blind, va_recv hK hP (ci := 3) (q0 := 2) rfl rfl, fun U hU hW => ⟨rfl, PX_fin hP hK hZ hS hU hW⟩⟩ rfl rfl hl.1 rfl (lv_room (Nat.le_of_ble_eq_true rfl)) dX3_namesKnownPatterns_104 ⟨(Nat.le_of_ble_eq_true rfl), (Nat.le_of_ble_eq_true rfl)⟩) (fun r_25 hr_25 => ?_)
                    subst hr_25
                    exact W.zret (v := (sXP_know u p2)) hx hb hr (isB_n (bXP_know u p2)) (fun t ht hW => ⟨(sXP_know u p2), rfl, hsp.symm, ht⟩) (fun _ h => nomatch h) dX3_namesKnownPatterns_107
                  · have hsp := hsp.trans (if_neg c_24)
                    refine lv_tableOut (tgt := 108) hx hb dX3_namesKnownPatterns_1 (by have e0 := lv_neT (a := 1) c_1 (by decide); have e1 := lv_neT (a := 2) c_3 (by decide); have e2 := lv_neT (a := 3) c_4 (by decide); have e3 := lv_neT (a := 4) c_9 (by decide); have e4 := lv_neT (a := 5) c_11 (by decide); have e5 := lv_neT (a := 6) c_13 (by decide); have e6 := lv_neT (a := 7) c_14 (by decide); have e7 := lv_neT (a := 8) c_19 (by decide); have e8 := lv_neT (a := 9) c_24 (by decide); omega) (by decide) ?_
                    refine lv_iconst (v := 1) hx hb dX3_namesKnownPatterns_108 (by decide) ?_
                    exact W.zret (v := 1) hx hb hr rfl (fun t ht hW => ⟨1, rfl, hsp.symm, ht⟩) (fun _ h => nomatch h) dX3_namesKnownPatterns_109
set_option maxHeartbeats 4000000 in
set_option maxRecDepth 100000 in
theorem cXP_make (l : Launch) (D : va_G) (q : Nat → Nat) (cI cL : ClassId) (tp : Nat) (hq : DQ 24 q) (u : St) (p1 : Int32) (p2 : Int32) (p3 : Int32) (p4 : Int32) (hok : okXP_make u p1 p2 p3 p4) : Met l yX0_make wsX0_make { frames := 0, cells := 0, slots := 0, locals := 0 } (va_Pc [.ref (q 2), .int p1, .int p2, .int p3, .int p4] (fun U => PX D q cI cL tp u U)) (va_Qi (fun (r : Int32) (u' : St) => (r, u') = sXP_make u p1 p2 p3 p4) (fun u' t => PX D q cI cL tp u' t) (AQ 24 q)) 0 0 (AQ 24 q) := by
  refine Met.ofW (cc := cX0_make) (maxL := 6) (ret := (some .int)) (by decide) rfl ?_
  intro p e s m args below meth c s₁ B hml hv
  obtain ⟨rfl, hP, hK, hZ⟩ := hv
  have hx := B.exec
  have hb := B.bytes
  have hr := B.returns
  have hts := atoms_spec (ws := wsX0_make) B.pre
  have hown : s.vm.findClass RX0 = some m.cls := findClass_of_methodNamed B.named
  have hlocks := B.notSynchronized
  have hiX0 : ∀ w ∈ u_ws RX0 TX0 5, w ∈ wsX0_make := by decide +kernel
  have hf24 := hts (.fieldLink RX0 24 "ThingRules$Patterns" "made" "I") (by decide +kernel)
  have hf9 := hts (.fieldLink RX0 9 "ThingRules$Patterns" "sort" "[I") (by decide +kernel)
  have hf15 := hts (.fieldLink RX0 15 "ThingRules$Patterns" "a" "[I") (by decide +kernel)
  have hf18 := hts (.fieldLink RX0 18 "ThingRules$Patterns" "b" "[I") (by decide +kernel)
  have hf21 := hts (.fieldLink RX0 21 "ThingRules$Patterns" "c" "[I") (by decide +kernel)
  have hS : va_S (AQ 24 q) s.heap s.heap [] := va_S.rf
  have hP : va_P D vwCl (wX q cI cL u) s.heap := hP
  have hl := lv_entry ([.ref (q 2), .int p1, .int p2, .int p3, .int p4]) (n := 6) (Nat.le_of_ble_eq_true rfl)
  rw [lg_entry_eq]
  generalize (lg_sl ([.ref (q 2), .int p1, .int p2, .int p3, .int p4]) ++ List.replicate (6 - (lg_sl ([.ref (q 2), .int p1, .int p2, .int p3, .int p4])).length) Slot.unset).toArray = ls at hl ⊢
  have hl : lv_has ls 6 [(0, .ref (q 2)), (1, .int p1), (2, .int p2), (3, .int p3), (4, .int p4)] := hl
  have hsp : sXP_make u p1 p2 p3 p4 = _ := sXP_make.eq_1 u p1 p2 p3 p4
  unfold okXP_make at hok
  refine lv_aload_n hx hb dX0_make_0 rfl (lv_at hl 0 rfl) ?_
  refine va_get (D := D) (ci := 3) (v := .int (u.1 2)) (C := RX0) (T := TX0) (N := 5) hx hb hts hiX0 hown hK hP 2 rfl rfl 0 (by decide) hf24 (fun _ h9 => h9) rfl dX0_make_1 ?_
  refine lv_bipush (v := 40) hx hb dX0_make_4 (by decide) ?_
  refine lv_icmp_lt (tgt := 12) hx hb dX0_make_6 (by decide) (fun c_1 => ?_) (fun c_1 => ?_)
  · have hsp := hsp.trans (if_pos c_1)
    have hok := hok.1 c_1
    refine lv_aload_n hx hb dX0_make_12 rfl (lv_at hl 0 rfl) ?_
    refine va_get (D := D) (ci := 3) (v := .int (u.1 2)) (C := RX0) (T := TX0) (N := 5) hx hb hts hiX0 hown hK hP 2 rfl rfl 0 (by decide) hf24 (fun _ h9 => h9) rfl dX0_make_13 ?_
    refine lv_topi (fun y1 hy1 => ?_)
    have hsp := hsp.trans (bnd_eq hy1)
    have hok := bnd_ok hy1 hok
    refine lv_istore (lv' := [(5, .int y1), (0, .ref (q 2)), (1, .int p1), (2, .int p2), (3, .int p3), (4, .int p4)]) hx hb dX0_make_16 hl (by decide) rfl (fun ls hl => ?_)
    refine lv_aload_n hx hb dX0_make_18 rfl (lv_at hl 1 rfl) ?_
    refine va_get (D := D) (ci := 3) (v := .ref (q 14)) (C := RX0) (T := TX0) (N := 5) hx hb hts hiX0 hown hK hP 2 rfl rfl 1 (by decide) hf9 (fun _ h9 => h9) rfl dX0_make_19 ?_
    refine lv_iload hx hb dX0_make_22 (lv_at hl 0 rfl) ?_
    refine lv_iload_n hx hb dX0_make_24 rfl (lv_at hl 2 rfl) ?_
    have h_2 := hok.1
    have hok := hok.2
    refine va_iast hx hb hK hP (dX hq) hS 14 0 rfl rfl h_2 dX0_make_25 (fun H locs hP _ hS => ?_)
    obtain ⟨u2, hu2⟩ : ∃ z : St, z = (stA u 14 y1.toNatClampNeg p1) := ⟨_, rfl⟩
    have hP : va_P D vwCl (wX q cI cL u2) H := by rw [hu2]; exact hP
    have hsp := hsp.trans (bnd_eq hu2)
    have hok := bnd_ok hu2 hok
    refine lv_aload_n hx hb dX0_make_26 rfl (lv_at hl 1 rfl) ?_
    refine va_get (D := D) (ci := 3) (v := .ref (q 15)) (C := RX0) (T := TX0) (N := 5) hx hb hts hiX0 hown hK hP 2 rfl rfl 2 (by decide) hf15 (fun _ h9 => h9) rfl dX0_make_27 ?_
    refine lv_iload hx hb dX0_make_30 (lv_at hl 0 rfl) ?_
    refine lv_iload_n hx hb dX0_make_32 rfl (lv_at hl 3 rfl) ?_
    have h_3 := hok.1
    have hok := hok.2
    refine va_iast hx hb hK hP (dX hq) hS 15 0 rfl rfl h_3 dX0_make_33 (fun H locs hP _ hS => ?_)
    obtain ⟨u3, hu3⟩ : ∃ z : St, z = (stA u2 15 y1.toNatClampNeg p2) := ⟨_, rfl⟩
    have hP : va_P D vwCl (wX q cI cL u3) H := by rw [hu3]; exact hP
    have hsp := hsp.trans (bnd_eq hu3)
    have hok := bnd_ok hu3 hok
    refine lv_aload_n hx hb dX0_make_34 rfl (lv_at hl 1 rfl) ?_
    refine va_get (D := D) (ci := 3) (v := .ref (q 16)) (C := RX0) (T := TX0) (N := 5) hx hb hts hiX0 hown hK hP 2 rfl rfl 3 (by decide) hf18 (fun _ h9 => h9) rfl dX0_make_35 ?_
    refine lv_iload hx hb dX0_make_38 (lv_at hl 0 rfl) ?_
    refine lv_iload_n hx hb dX0_make_40 rfl (lv_at hl 4 rfl) ?_
    have h_4 := hok.1
    have hok := hok.2
    refine va_iast hx hb hK hP (dX hq) hS 16 0 rfl rfl h_4 dX0_make_41 (fun H locs hP _ hS => ?_)
    obtain ⟨u4, hu4⟩ : ∃ z : St, z = (stA u3 16 y1.toNatClampNeg p3) := ⟨_, rfl⟩
    have hP : va_P D vwCl (wX q cI cL u4) H := by rw [hu4]; exact hP
    have hsp := hsp.trans (bnd_eq hu4)
    have hok := bnd_ok hu4 hok
    refine lv_aload_n hx hb dX0_make_42 rfl (lv_at hl 1 rfl) ?_
    refine va_get (D := D) (ci := 3) (v := .ref (q 17)) (C := RX0) (T := TX0) (N := 5) hx hb hts hiX0 hown hK hP 2 rfl rfl 4 (by decide) hf21 (fun _ h9 => h9) rfl dX0_make_43 ?_
    refine lv_iload hx hb dX0_make_46 (lv_at hl 0 rfl) ?_
    refine lv_iload hx hb dX0_make_48 (lv_at hl 5 rfl) ?_
    have h_5 := hok.1
    have hok := hok.2
    refine va_iast hx hb hK hP (dX hq) hS 17 0 rfl rfl h_5 dX0_make_50 (fun H locs hP _ hS => ?_)
    obtain ⟨u5, hu5⟩ : ∃ z : St, z = (stA u4 17 y1.toNatClampNeg p4) := ⟨_, rfl⟩
    have hP : va_P D vwCl (wX q cI cL u5) H := by rw [hu5]; exact hP
    have hsp := hsp.trans (bnd_eq hu5)
    refine lv_aload_n hx hb dX0_make_51 rfl (lv_at hl 1 rfl) ?_
    refine lv_dup hx hb dX0_make_52 rfl ?_
    refine va_get (D := D) (ci := 3) (v := .int (u5.1 2)) (C := RX0) (T := TX0) (N := 5) hx hb hts hiX0 hown hK hP 2 rfl rfl 0 (by decide) hf24 (fun _ h9 => h9) rfl dX0_make_53 ?_
    refine lv_iconst (v := 1) hx hb dX0_make_56 (by decide) ?_
    refine lv_iadd hx hb dX0_make_57 ?_
    refine va_put (D := D) (ci := 3) (v := .int ((u5.1 2) + 1)) (ty := .int) (C := RX0) (T := TX0) (N := 5) hx hb hts hiX0 tyX0 tyX0_ok nmX0 hown hK hP (dX hq) hS 2 rfl rfl 0 (by decide) hf24 (fun _ h9 => h9) rfl (by decide +kernel) rfl rfl (Nat.le_of_ble_eq_true rfl) dX0_make_58 (fun H locs hP _ hS => ?_)
    obtain ⟨u6, hu6⟩ : ∃ z : St, z = (stI u5 2 ((u5.1 2) + 1)) := ⟨_, rfl⟩
    have hP : va_P D vwCl (wX q cI cL u6) H := by rw [hu6]; exact hP
    have hsp := hsp.trans (bnd_eq hu6)
    refine lv_iload hx hb dX0_make_61 (lv_at hl 0 rfl) ?_
    exact W.iret (v := y1) hx hb hr (fun t ht hW => ⟨⟨y1, u6, rfl, hsp.symm, PX_fin hP hK hZ hS ht hW⟩, hS.F ht⟩) hS.2.2 dX0_make_63
  · have hsp := hsp.trans (if_neg c_1)
    refine lv_bipush (v := (-4)) hx hb dX0_make_9 (by decide) ?_
    exact W.iret (v := (-4)) hx hb hr (fun t ht hW => ⟨⟨(-4), u, rfl, hsp.symm, PX_fin hP hK hZ hS ht hW⟩, hS.F ht⟩) hS.2.2 dX0_make_11
set_option maxHeartbeats 4000000 in
set_option maxRecDepth 100000 in
theorem cX_pattern (l : Launch) (D : va_G) (q : Nat → Nat) (cI cL : ClassId) (tp : Nat) (hq : DQ 24 q) (u : St) (p1 : Int32) (p2 : Int32) (p3 : Int32) (p4 : Int32) (hok : okX_pattern u p1 p2 p3 p4) : Met l yX3_pattern wsX3_pattern { frames := 3, cells := 0, slots := 0, locals := 63 } (va_Pc [.ref (q 0), .int p1, .int p2, .int p3, .int p4] (fun U => PX D q cI cL tp u U)) (va_Qi (fun (r : Int32) (u' : St) => (r, u') = sX_pattern u p1 p2 p3 p4) (fun u' t => PX D q cI cL tp u' t) (AQ 24 q)) 0 0 (AQ 24 q) := by
  refine Met.ofW (cc := cX3_pattern) (maxL := 5) (ret := (some .int)) (by decide) rfl ?_
  intro p e s m args below meth c s₁ B hml hv
  obtain ⟨rfl, hP, hK, hZ⟩ := hv
  have hx := B.exec
  have hb := B.bytes
  have hr := B.returns
  have hts := atoms_spec (ws := wsX3_pattern) B.pre
  have hown : s.vm.findClass RX3 = some m.cls := findClass_of_methodNamed B.named
  have hlocks := B.notSynchronized
  have hiX3 : ∀ w ∈ u_ws RX3 TX3 7, w ∈ wsX3_pattern := by decide +kernel
  have hf19 := hts (.fieldLink RX3 19 "ThingRules" "patterns" "LThingRules$Patterns;") (by decide +kernel)
  have hS : va_S (AQ 24 q) s.heap s.heap [] := va_S.rf
  have hP : va_P D vwCl (wX q cI cL u) s.heap := hP
  have hl := lv_entry ([.ref (q 0), .int p1, .int p2, .int p3, .int p4]) (n := 5) (Nat.le_of_ble_eq_true rfl)
  rw [lg_entry_eq]
  generalize (lg_sl ([.ref (q 0), .int p1, .int p2, .int p3, .int p4]) ++ List.replicate (5 - (lg_sl ([.ref (q 0), .int p1, .int p2, .int p3, .int p4])).length) Slot.unset).toArray = ls at hl ⊢
  have hl : lv_has ls 5 [(0, .ref (q 0)), (1, .int p1), (2, .int p2), (3, .int p3), (4, .int p4)] := hl
  have hsp : sX_pattern u p1 p2 p3 p4 = _ := sX_pattern.eq_1 u p1 p2 p3 p4
  unfold okX_pattern at hok
  refine lv_iload_n hx hb dX3_pattern_0 rfl (lv_at hl 1 rfl) ?_
  refine lv_iload_n hx hb dX3_pattern_1 rfl (lv_at hl 2 rfl) ?_
  refine vp_callSi (W.runS (As := [.int p1, .int p2]) (rest := []) ⟨hx, hb, hml, hown, hts⟩ (cX_isAsTold l p1 p2) (va_cwS 2 hts gX3_pattern_X3_isAsTold rfl rfl rfl (by decide +kernel) ⟨(Nat.le_of_ble_eq_true rfl), (Nat.le_of_ble_eq_true rfl)⟩) ⟨T_blind, fun U hU hW => ⟨rfl, trivial⟩⟩ rfl rfl hl.1 rfl (lv_room (Nat.le_of_ble_eq_true rfl)) dX3_pattern_2 ⟨(Nat.le_of_ble_eq_true rfl), (Nat.le_of_ble_eq_true rfl)⟩) (fun r_1 hr_1 => ?_)
  subst hr_1
  refine lv_if_ne (tgt := 11) hx hb dX3_pattern_5 (by decide) (fun c_2 => ?_) (fun c_2 => ?_)
  · have hsp := hsp.trans (if_neg c_2)
    have hok := hok.2 c_2
    refine lv_aload_n hx hb dX3_pattern_11 rfl (lv_at hl 0 rfl) ?_
    refine lv_iload_n hx hb dX3_pattern_12 rfl (lv_at hl 1 rfl) ?_
    refine lv_iload_n hx hb dX3_pattern_13 rfl (lv_at hl 2 rfl) ?_
    refine lv_iload_n hx hb dX3_pattern_14 rfl (lv_at hl 3 rfl) ?_
    refine lv_iload hx hb dX3_pattern_15 (lv_at hl 4 rfl) ?_
    refine vp_callSi (W.runV (As := [.int p1, .int p2, .int p3, .int p4]) (rest := []) ⟨hx, hb, hml, hown, hts⟩ (cX_namesKnownPatterns l D q cI cL tp u p1 p2 p3 p4) (cwV 4 hts gX3_pattern_X3_namesKnownPatterns rfl rfl rfl (by decide +kernel) ⟨(Nat.le_of_ble_eq_true rfl), (Nat.le_of_ble_eq_true rfl)⟩) ⟨PX_blind, va_recv hK hP (ci := 6) (q0 := 0) rfl rfl, fun U hU hW => ⟨rfl, PX_fin hP hK hZ hS hU hW⟩⟩ rfl rfl hl.1 rfl (lv_room (Nat.le_of_ble_eq_true rfl)) dX3_pattern_17 ⟨(Nat.le_of_ble_eq_true rfl), (Nat.le_of_ble_eq_true rfl)⟩) (fun r_3 hr_3 => ?_)
    subst hr_3
    refine lv_if_eq (tgt := 38) hx hb dX3_pattern_20 (by decide) (fun c_4 => ?_) (fun c_4 => ?_)
    · have hsp := hsp.trans (if_pos c_4)
      refine lv_iconst (v := (-1)) hx hb dX3_pattern_38 (by decide) ?_
      exact W.iret (v := (-1)) hx hb hr (fun t ht hW => ⟨⟨(-1), u, rfl, hsp.symm, PX_fin hP hK hZ hS ht hW⟩, hS.F ht⟩) hS.2.2 dX3_pattern_39
    · have hsp := hsp.trans (if_neg c_4)
      have hok := hok.2 c_4
      refine lv_aload_n hx hb dX3_pattern_23 rfl (lv_at hl 0 rfl) ?_
      refine va_get (D := D) (ci := 6) (v := .ref (q 2)) (C := RX3) (T := TX3) (N := 7) hx hb hts hiX3 hown hK hP 0 rfl rfl 1 (by decide) hf19 (fun _ h9 => h9) rfl dX3_pattern_24 ?_
      refine lv_iload_n hx hb dX3_pattern_27 rfl (lv_at hl 1 rfl) ?_
      refine lv_iload_n hx hb dX3_pattern_28 rfl (lv_at hl 2 rfl) ?_
      refine lv_iload_n hx hb dX3_pattern_29 rfl (lv_at hl 3 rfl) ?_
      refine lv_iload hx hb dX3_pattern_30 (lv_at hl 4 rfl) ?_
      have h_5 := hok.1
      have hok := hok.2
      refine va_calli (va_runV (As := [.int p1, .int p2, .int p3, .int p4]) (rest := []) ⟨hx, hb, hml, hown, hts⟩ (cXP_make l D q cI cL tp hq u p1 p2 p3 p4 h_5) (cwV 4 hts gX3_pattern_X0_make rfl rfl rfl (by decide +kernel) ⟨(Nat.le_of_ble_eq_true rfl), (Nat.le_of_ble_eq_true rfl)⟩) ⟨PX_blind, va_recv hK hP (ci := 3) (q0 := 2) rfl rfl, fun U hU hW => ⟨rfl, PX_fin hP hK hZ hS hU hW⟩⟩ rfl rfl hl.1 rfl (lv_room (Nat.le_of_ble_eq_true rfl)) dX3_pattern_32 ⟨(Nat.le_of_ble_eq_true rfl), (Nat.le_of_ble_eq_true rfl)⟩) hS (fun q _ h => h) (fun q h => h) (fun r1 u1 t H1 locs ht hvm hu1 hB hz1 hk1 hS => ?_)
      have hP := hB.1
      rw [ht] at hP
      clear hB hk1 hz1 hvm ht
      generalize H1 = H at hP hS ⊢
      refine W.widen (k := 0) (n := 0) (Nat.le_refl 0) (Nat.le_refl 0) ?_
      have hsp := hsp.trans (bnd2_eq hu1)
      refine lv_goto (tgt := 39) hx hb dX3_pattern_35 (by decide) ?_
      exact W.iret (v := r1) hx hb hr (fun t ht hW => ⟨⟨r1, u1, rfl, hsp.symm, PX_fin hP hK hZ hS ht hW⟩, hS.F ht⟩) hS.2.2 dX3_pattern_39
  · have hsp := hsp.trans (if_pos c_2)
    refine lv_bipush (v := (-2)) hx hb dX3_pattern_8 (by decide) ?_
    exact W.iret (v := (-2)) hx hb hr (fun t ht hW => ⟨⟨(-2), u, rfl, hsp.symm, PX_fin hP hK hZ hS ht hW⟩, hS.F ht⟩) hS.2.2 dX3_pattern_10
set_option maxHeartbeats 4000000 in
set_option maxRecDepth 100000 in
theorem cX_fitsIf (l : Launch) (p0 : Int32) : Met l yX3_fitsIf wsX3_fitsIf { frames := 0, cells := 0, slots := 0, locals := 0 } (va_Pc [.int p0] (fun _ => True)) (vp_Si (fun r => r = sX_fitsIf p0)) 0 0 (fun _ => False) := by
  refine Met.ofW (cc := cX3_fitsIf) (maxL := 1) (ret := (some .int)) (by decide) rfl ?_
  intro p e s m args below meth c s₁ B hml hv
  obtain ⟨rfl, -⟩ := hv
  have hx := B.exec
  have hb := B.bytes
  have hr := B.returns
  have hts := atoms_spec (ws := wsX3_fitsIf) B.pre
  have hown : s.vm.findClass RX3 = some m.cls := findClass_of_methodNamed B.named
  have hlocks := B.notSynchronized
  have hl := lv_entry ([.int p0]) (n := 1) (Nat.le_of_ble_eq_true rfl)
  rw [lg_entry_eq]
  generalize (lg_sl ([.int p0]) ++ List.replicate (1 - (lg_sl ([.int p0])).length) Slot.unset).toArray = ls at hl ⊢
  have hl : lv_has ls 1 [(0, .int p0)] := hl
  have hsp : sX_fitsIf p0 = _ := sX_fitsIf.eq_1 p0
  refine lv_iload_n hx hb dX3_fitsIf_0 rfl (lv_at hl 0 rfl) ?_
  refine lv_if_eq (tgt := 8) hx hb dX3_fitsIf_1 (by decide) (fun c_1 => ?_) (fun c_1 => ?_)
  · have hsp := hsp.trans (if_pos c_1)
    refine lv_iconst (v := 0) hx hb dX3_fitsIf_8 (by decide) ?_
    exact W.iret (v := 0) hx hb hr (fun t ht hW => ⟨0, rfl, hsp.symm, ht⟩) (fun _ h => nomatch h) dX3_fitsIf_9
  · have hsp := hsp.trans (if_neg c_1)
    refine lv_iconst (v := 1) hx hb dX3_fitsIf_4 (by decide) ?_
    refine lv_goto (tgt := 9) hx hb dX3_fitsIf_5 (by decide) ?_
    exact W.iret (v := 1) hx hb hr (fun t ht hW => ⟨1, rfl, hsp.symm, ht⟩) (fun _ h => nomatch h) dX3_fitsIf_9
set_option maxHeartbeats 4000000 in
set_option maxRecDepth 100000 in
theorem cX_lookAtHalves (l : Launch) (D : va_G) (q : Nat → Nat) (cI cL : ClassId) (tp : Nat) (hq : DQ 24 q) (lk : St → Int32 → Int32 → Int32 × St) (oklk : St → Int32 → Int32 → Prop) (d : Nat) (hlk : ∀ (u : St) (p it : Int32), oklk u p it → Met l yX3_look wsX3_look (rmL d) (va_Pc [.ref (q 0), .int p, .int it] (fun U => PX D q cI cL tp u U)) (va_Qi (fun (r : Int32) (u' : St) => (r, u') = lk u p it) (fun u' t => PX D q cI cL tp u' t) (AQ 24 q)) 0 0 (AQ 24 q)) (u : St) (p1 : Int32) (p2 : Int32) (p3 : Int32) (hok : okX_lookAtHalves lk oklk u p1 p2 p3) : Met l yX3_lookAtHalves wsX3_lookAtHalves { frames := 2 * d + 13, cells := 0, slots := 0, locals := 60 * d + 425 } (va_Pc [.ref (q 0), .int p1, .int p2, .int p3] (fun U => PX D q cI cL tp u U)) (va_Qi (fun (r : Int32) (u' : St) => (r, u') = sX_lookAtHalves lk u p1 p2 p3) (fun u' t => PX D q cI cL tp u' t) (AQ 24 q)) 0 0 (AQ 24 q) := by
  refine Met.ofW (cc := cX3_lookAtHalves) (maxL := 5) (ret := (some .int)) (by decide) rfl ?_
  intro p e s m args below meth c s₁ B hml hv
  obtain ⟨rfl, hP, hK, hZ⟩ := hv
  have hx := B.exec
  have hb := B.bytes
  have hr := B.returns
  have hts := atoms_spec (ws := wsX3_lookAtHalves) B.pre
  have hown : s.vm.findClass RX3 = some m.cls := findClass_of_methodNamed B.named
  have hlocks := B.notSynchronized
  have hiX3 : ∀ w ∈ u_ws RX3 TX3 7, w ∈ wsX3_lookAtHalves := by decide +kernel
  have hf10 := hts (.fieldLink RX3 10 "ThingRules" "things" "LThingRules$Things;") (by decide +kernel)
  have hS : va_S (AQ 24 q) s.heap s.heap [] := va_S.rf
  have hP : va_P D vwCl (wX q cI cL u) s.heap := hP
  have hl := lv_entry ([.ref (q 0), .int p1, .int p2, .int p3]) (n := 5) (Nat.le_of_ble_eq_true rfl)
  rw [lg_entry_eq]
  generalize (lg_sl ([.ref (q 0), .int p1, .int p2, .int p3]) ++ List.replicate (5 - (lg_sl ([.ref (q 0), .int p1, .int p2, .int p3])).length) Slot.unset).toArray = ls at hl ⊢
  have hl : lv_has ls 5 [(0, .ref (q 0)), (1, .int p1), (2, .int p2), (3, .int p3)] := hl
  have hsp : sX_lookAtHalves lk u p1 p2 p3 = _ := sX_lookAtHalves.eq_1 lk u p1 p2 p3
  unfold okX_lookAtHalves at hok
  refine lv_aload_n hx hb dX3_lookAtHalves_0 rfl (lv_at hl 0 rfl) ?_
  refine va_get (D := D) (ci := 6) (v := .ref (q 1)) (C := RX3) (T := TX3) (N := 7) hx hb hts hiX3 hown hK hP 0 rfl rfl 0 (by decide) hf10 (fun _ h9 => h9) rfl dX3_lookAtHalves_1 ?_
  refine lv_iload_n hx hb dX3_lookAtHalves_4 rfl (lv_at hl 1 rfl) ?_
  refine lv_iconst (v := 2) hx hb dX3_lookAtHalves_5 (by decide) ?_
  have h_1 := hok.1
  have hok := hok.2
  refine vp_callSi (W.runV (As := [.int p1, .int 2]) (rest := []) ⟨hx, hb, hml, hown, hts⟩ (cXT_isOf l D q cI cL tp u p1 2 h_1) (cwV 2 hts gX3_lookAtHalves_X2_isOf rfl rfl rfl (by decide +kernel) ⟨by simp [headSpec, rmL] <;> omega, by simp [headSpec, rmL] <;> omega⟩) ⟨PX_blind, va_recv hK hP (ci := 5) (q0 := 1) rfl rfl, fun U hU hW => ⟨rfl, PX_fin hP hK hZ hS hU hW⟩⟩ rfl rfl hl.1 rfl (lv_room (Nat.le_of_ble_eq_true rfl)) dX3_lookAtHalves_6 ⟨(Nat.le_of_ble_eq_true rfl), (Nat.le_of_ble_eq_true rfl)⟩) (fun r_2 hr_2 => ?_)
  subst hr_2
  refine lv_if_ne (tgt := 14) hx hb dX3_lookAtHalves_9 (by decide) (fun c_3 => ?_) (fun c_3 => ?_)
  · have hsp := hsp.trans (if_neg c_3)
    have hok := hok.2 c_3
    refine lv_aload_n hx hb dX3_lookAtHalves_14 rfl (lv_at hl 0 rfl) ?_
    refine lv_iload_n hx hb dX3_lookAtHalves_15 rfl (lv_at hl 2 rfl) ?_
    refine lv_aload_n hx hb dX3_lookAtHalves_16 rfl (lv_at hl 0 rfl) ?_
    refine va_get (D := D) (ci := 6) (v := .ref (q 1)) (C := RX3) (T := TX3) (N := 7) hx hb hts hiX3 hown hK hP 0 rfl rfl 0 (by decide) hf10 (fun _ h9 => h9) rfl dX3_lookAtHalves_17 ?_
    refine lv_iload_n hx hb dX3_lookAtHalves_20 rfl (lv_at hl 1 rfl) ?_
    refine lv_iconst (v := 0) hx hb dX3_lookAtHalves_21 (by decide) ?_
    have h_4 := hok.1
    have hok := hok.2
    refine vp_callSi (W.runV (As := [.int p1, .int 0]) (rest := [.int p2, .ref (q 0)]) ⟨hx, hb, hml, hown, hts⟩ (cXT_heldHalf l D q cI cL tp u p1 0 h_4) (cwV 2 hts gX3_lookAtHalves_X2_heldHalf rfl rfl rfl (by decide +kernel) ⟨by simp [headSpec, rmL] <;> omega, by simp [headSpec, rmL] <;> omega⟩) ⟨PX_blind, va_recv hK hP (ci := 5) (q0 := 1) rfl rfl, fun U hU hW => ⟨rfl, PX_fin hP hK hZ hS hU hW⟩⟩ rfl rfl hl.1 rfl (lv_room (Nat.le_of_ble_eq_true rfl)) dX3_lookAtHalves_22 ⟨(Nat.le_of_ble_eq_true rfl), (Nat.le_of_ble_eq_true rfl)⟩) (fun r_5 hr_5 => ?_)
    subst hr_5
    have h_6 := hok.1
    have hok := hok.2
    refine va_calli (va_runV (As := [.int p2, .int (sXT_heldHalf u p1 0)]) (rest := []) ⟨hx, hb, hml, hown, hts⟩ (hlk u p2 (sXT_heldHalf u p1 0) h_6) (cwV 2 hts gX3_lookAtHalves_X3_look rfl rfl rfl (by decide +kernel) ⟨by simp [headSpec, rmL] <;> omega, by simp [headSpec, rmL] <;> omega⟩) ⟨PX_blind, va_recv hK hP (ci := 6) (q0 := 0) rfl rfl, fun U hU hW => ⟨rfl, PX_fin hP hK hZ hS hU hW⟩⟩ rfl rfl hl.1 rfl (lv_room (Nat.le_of_ble_eq_true rfl)) dX3_lookAtHalves_25 ⟨(Nat.le_of_ble_eq_true rfl), (Nat.le_of_ble_eq_true rfl)⟩) hS (fun q _ h => h) (fun q h => h) (fun r1 u1 t H1 locs ht hvm hu1 hB hz1 hk1 hS => ?_)
    have hP := hB.1
    rw [ht] at hP
    clear hB hk1 hz1 hvm ht
    generalize H1 = H at hP hS ⊢
    refine W.widen (k := 0) (n := 0) (Nat.le_refl 0) (Nat.le_refl 0) ?_
    have hsp := hsp.trans (bnd2_eq hu1)
    have hok := bnd2_ok hu1 hok
    refine lv_istore (lv' := [(4, .int r1), (0, .ref (q 0)), (1, .int p1), (2, .int p2), (3, .int p3)]) hx hb dX3_lookAtHalves_28 hl (by decide) rfl (fun ls hl => ?_)
    refine lv_iload hx hb dX3_lookAtHalves_30 (lv_at hl 0 rfl) ?_
    refine lv_iconst (v := 1) hx hb dX3_lookAtHalves_32 (by decide) ?_
    refine lv_icmp_ne (tgt := 53) hx hb dX3_lookAtHalves_33 (by decide) (fun c_7 => ?_) (fun c_7 => ?_)
    · have hsp := hsp.trans (if_neg c_7)
      refine lv_iload hx hb dX3_lookAtHalves_53 (lv_at hl 0 rfl) ?_
      exact W.iret (v := r1) hx hb hr (fun t ht hW => ⟨⟨r1, u1, rfl, hsp.symm, PX_fin hP hK hZ hS ht hW⟩, hS.F ht⟩) hS.2.2 dX3_lookAtHalves_55
    · have hsp := hsp.trans (if_pos c_7)
      have hok := hok.1 c_7
      refine lv_aload_n hx hb dX3_lookAtHalves_36 rfl (lv_at hl 1 rfl) ?_
      refine lv_iload_n hx hb dX3_lookAtHalves_37 rfl (lv_at hl 4 rfl) ?_
      refine lv_aload_n hx hb dX3_lookAtHalves_38 rfl (lv_at hl 1 rfl) ?_
      refine va_get (D := D) (ci := 6) (v := .ref (q 1)) (C := RX3) (T := TX3) (N := 7) hx hb hts hiX3 hown hK hP 0 rfl rfl 0 (by decide) hf10 (fun _ h9 => h9) rfl dX3_lookAtHalves_39 ?_
      refine lv_iload_n hx hb dX3_lookAtHalves_42 rfl (lv_at hl 2 rfl) ?_
      refine lv_iconst (v := 1) hx hb dX3_lookAtHalves_43 (by decide) ?_
      have h_8 := hok.1
      have hok := hok.2
      refine vp_callSi (W.runV (As := [.int p1, .int 1]) (rest := [.int p3, .ref (q 0)]) ⟨hx, hb, hml, hown, hts⟩ (cXT_heldHalf l D q cI cL tp u1 p1 1 h_8) (cwV 2 hts gX3_lookAtHalves_X2_heldHalf rfl rfl rfl (by decide +kernel) ⟨by simp [headSpec, rmL] <;> omega, by simp [headSpec, rmL] <;> omega⟩) ⟨PX_blind, va_recv hK hP (ci := 5) (q0 := 1) rfl rfl, fun U hU hW => ⟨rfl, PX_fin hP hK hZ hS hU hW⟩⟩ rfl rfl hl.1 rfl (lv_room (Nat.le_of_ble_eq_true rfl)) dX3_lookAtHalves_44 ⟨(Nat.le_of_ble_eq_true rfl), (Nat.le_of_ble_eq_true rfl)⟩) (fun r_9 hr_9 => ?_)
      subst hr_9
      have h_10 := hok.1
      have hok := hok.2
      refine va_calli (va_runV (As := [.int p3, .int (sXT_heldHalf u1 p1 1)]) (rest := []) ⟨hx, hb, hml, hown, hts⟩ (hlk u1 p3 (sXT_heldHalf u1 p1 1) h_10) (cwV 2 hts gX3_lookAtHalves_X3_look rfl rfl rfl (by decide +kernel) ⟨by simp [headSpec, rmL] <;> omega, by simp [headSpec, rmL] <;> omega⟩) ⟨PX_blind, va_recv hK hP (ci := 6) (q0 := 0) rfl rfl, fun U hU hW => ⟨rfl, PX_fin hP hK hZ hS hU hW⟩⟩ rfl rfl hl.1 rfl (lv_room (Nat.le_of_ble_eq_true rfl)) dX3_lookAtHalves_47 ⟨(Nat.le_of_ble_eq_true rfl), (Nat.le_of_ble_eq_true rfl)⟩) hS (fun q _ h => h) (fun q h => h) (fun r2 u2 t H1 locs ht hvm hu2 hB hz1 hk1 hS => ?_)
      have hP := hB.1
      rw [ht] at hP
      clear hB hk1 hz1 hvm ht
      generalize H1 = H at hP hS ⊢
      refine W.widen (k := 0) (n := 0) (Nat.le_refl 0) (Nat.le_refl 0) ?_
      have hsp := hsp.trans (bnd2_eq hu2)
      refine lv_goto (tgt := 55) hx hb dX3_lookAtHalves_50 (by decide) ?_
      exact W.iret (v := r2) hx hb hr (fun t ht hW => ⟨⟨r2, u2, rfl, hsp.symm, PX_fin hP hK hZ hS ht hW⟩, hS.F ht⟩) hS.2.2 dX3_lookAtHalves_55
  · have hsp := hsp.trans (if_pos c_3)
    refine lv_iconst (v := 0) hx hb dX3_lookAtHalves_12 (by decide) ?_
    exact W.iret (v := 0) hx hb hr (fun t ht hW => ⟨⟨0, u, rfl, hsp.symm, PX_fin hP hK hZ hS ht hW⟩, hS.F ht⟩) hS.2.2 dX3_lookAtHalves_13
set_option maxHeartbeats 4000000 in
set_option maxRecDepth 100000 in
theorem cXT_placesOf (l : Launch) (D : va_G) (q : Nat → Nat) (cI cL : ClassId) (tp : Nat) (u : St) (p1 : Int32) (hok : okXT_placesOf u p1) : Met l yX2_placesOf wsX2_placesOf { frames := 1, cells := 0, slots := 0, locals := 21 } (va_Pc [.ref (q 1), .int p1] (fun U => PX D q cI cL tp u U)) (vp_Si (fun r => r = sXT_placesOf u p1)) 0 0 (fun _ => False) := by
  refine Met.ofW (cc := cX2_placesOf) (maxL := 2) (ret := (some .int)) (by decide) rfl ?_
  intro p e s m args below meth c s₁ B hml hv
  obtain ⟨rfl, hP, hK, hZ⟩ := hv
  have hx := B.exec
  have hb := B.bytes
  have hr := B.returns
  have hts := atoms_spec (ws := wsX2_placesOf) B.pre
  have hown : s.vm.findClass RX2 = some m.cls := findClass_of_methodNamed B.named
  have hlocks := B.notSynchronized
  have hiX2 : ∀ w ∈ u_ws RX2 TX2 8, w ∈ wsX2_placesOf := by decide +kernel
  have hf18 := hts (.fieldLink RX2 18 "ThingRules$Things" "places" "[I") (by decide +kernel)
  have hS : va_S (AQ 24 q) s.heap s.heap [] := va_S.rf
  have hP : va_P D vwCl (wX q cI cL u) s.heap := hP
  have hl := lv_entry ([.ref (q 1), .int p1]) (n := 2) (Nat.le_of_ble_eq_true rfl)
  rw [lg_entry_eq]
  generalize (lg_sl ([.ref (q 1), .int p1]) ++ List.replicate (2 - (lg_sl ([.ref (q 1), .int p1])).length) Slot.unset).toArray = ls at hl ⊢
  have hl : lv_has ls 2 [(0, .ref (q 1)), (1, .int p1)] := hl
  have hsp : sXT_placesOf u p1 = _ := sXT_placesOf.eq_1 u p1
  unfold okXT_placesOf at hok
  refine lv_aload_n hx hb dX2_placesOf_0 rfl (lv_at hl 0 rfl) ?_
  refine lv_iload_n hx hb dX2_placesOf_1 rfl (lv_at hl 1 rfl) ?_
  refine vp_callSi (W.runV (As := [.int p1]) (rest := []) ⟨hx, hb, hml, hown, hts⟩ (cXT_know l D q cI cL tp u p1) (cwV 1 hts gX2_placesOf_X2_know rfl rfl rfl (by decide +kernel) ⟨(Nat.le_of_ble_eq_true rfl), (Nat.le_of_ble_eq_true rfl)⟩) ⟨PX_blind, va_recv hK hP (ci := 5) (q0 := 1) rfl rfl, fun U hU hW => ⟨rfl, PX_fin hP hK hZ hS hU hW⟩⟩ rfl rfl hl.1 rfl (lv_room (Nat.le_of_ble_eq_true rfl)) dX2_placesOf_2 ⟨(Nat.le_of_ble_eq_true rfl), (Nat.le_of_ble_eq_true rfl)⟩) (fun r_1 hr_1 => ?_)
  subst hr_1
  refine lv_if_eq (tgt := 17) hx hb dX2_placesOf_5 (by decide) (fun c_2 => ?_) (fun c_2 => ?_)
  · have hsp := hsp.trans (if_pos c_2)
    refine lv_iconst (v := 0) hx hb dX2_placesOf_17 (by decide) ?_
    exact W.iret (v := 0) hx hb hr (fun t ht hW => ⟨0, rfl, hsp.symm, ht⟩) (fun _ h => nomatch h) dX2_placesOf_18
  · have hsp := hsp.trans (if_neg c_2)
    have hok := hok.2 c_2
    refine lv_aload_n hx hb dX2_placesOf_8 rfl (lv_at hl 0 rfl) ?_
    refine va_get (D := D) (ci := 5) (v := .ref (q 9)) (C := RX2) (T := TX2) (N := 8) hx hb hts hiX2 hown hK hP 1 rfl rfl 3 (by decide) hf18 (fun _ h9 => h9) rfl dX2_placesOf_9 ?_
    refine lv_iload_n hx hb dX2_placesOf_12 rfl (lv_at hl 1 rfl) ?_
    have h_3 := hok.1
    have hok := hok.2
    refine va_iald hx hb hK hP 9 0 rfl rfl h_3 dX2_placesOf_13 ?_
    refine lv_goto (tgt := 18) hx hb dX2_placesOf_14 (by decide) ?_
    exact W.iret (v := (u.2.1 9 p1.toNatClampNeg)) hx hb hr (fun t ht hW => ⟨(u.2.1 9 p1.toNatClampNeg), rfl, hsp.symm, ht⟩) (fun _ h => nomatch h) dX2_placesOf_18
set_option maxHeartbeats 4000000 in
set_option maxRecDepth 100000 in
theorem cX_lookAtEach (l : Launch) (D : va_G) (q : Nat → Nat) (cI cL : ClassId) (tp : Nat) (hq : DQ 24 q) (lk : St → Int32 → Int32 → Int32 × St) (oklk : St → Int32 → Int32 → Prop) (d : Nat) (hlk : ∀ (u : St) (p it : Int32), oklk u p it → Met l yX3_look wsX3_look (rmL d) (va_Pc [.ref (q 0), .int p, .int it] (fun U => PX D q cI cL tp u U)) (va_Qi (fun (r : Int32) (u' : St) => (r, u') = lk u p it) (fun u' t => PX D q cI cL tp u' t) (AQ 24 q)) 0 0 (AQ 24 q)) (u : St) (p1 : Int32) (p2 : Int32) (p3 : Int32) (hok : okX_lookAtEach lk oklk u p1 p2 p3) : Met l yX3_lookAtEach wsX3_lookAtEach { frames := 2 * d + 13, cells := 0, slots := 0, locals := 60 * d + 425 } (va_Pc [.ref (q 0), .int p1, .int p2, .int p3] (fun U => PX D q cI cL tp u U)) (va_Qi (fun (r : Int32) (u' : St) => (r, u') = sX_lookAtEach lk u p1 p2 p3) (fun u' t => PX D q cI cL tp u' t) (AQ 24 q)) 0 0 (AQ 24 q) := by
  refine Met.ofW (cc := cX3_lookAtEach) (maxL := 7) (ret := (some .int)) (by decide) rfl ?_
  intro p e s m args below meth c s₁ B hml hv
  obtain ⟨rfl, hP, hK, hZ⟩ := hv
  have hx := B.exec
  have hb := B.bytes
  have hr := B.returns
  have hts := atoms_spec (ws := wsX3_lookAtEach) B.pre
  have hown : s.vm.findClass RX3 = some m.cls := findClass_of_methodNamed B.named
  have hlocks := B.notSynchronized
  have hiX3 : ∀ w ∈ u_ws RX3 TX3 7, w ∈ wsX3_lookAtEach := by decide +kernel
  have hf10 := hts (.fieldLink RX3 10 "ThingRules" "things" "LThingRules$Things;") (by decide +kernel)
  have hS : va_S (AQ 24 q) s.heap s.heap [] := va_S.rf
  have hP : va_P D vwCl (wX q cI cL u) s.heap := hP
  have hl := lv_entry ([.ref (q 0), .int p1, .int p2, .int p3]) (n := 7) (Nat.le_of_ble_eq_true rfl)
  rw [lg_entry_eq]
  generalize (lg_sl ([.ref (q 0), .int p1, .int p2, .int p3]) ++ List.replicate (7 - (lg_sl ([.ref (q 0), .int p1, .int p2, .int p3])).length) Slot.unset).toArray = ls at hl ⊢
  have hl : lv_has ls 7 [(0, .ref (q 0)), (1, .int p1), (2, .int p2), (3, .int p3)] := hl
  have loop_30 : ∀ (n : Nat) (u' : St) (x4 : Int32) (x5 : Int32) (x6 : Int32) (H : Heap) (locs : List Loc) (ls : Array Slot), oklX_lookAtEach_30 lk oklk n u' p1 p2 p3 x4 x5 x6 → sX_lookAtEach lk u p1 p2 p3 = lX_lookAtEach_30 lk n u' p1 p2 p3 x4 x5 x6 → va_P D vwCl (wX q cI cL u') H → va_S (AQ 24 q) s.heap H locs → lv_has ls 7 [(0, .ref (q 0)), (1, .int p1), (2, .int p2), (3, .int p3), (4, .int x4), (5, .int x5), (6, .int x6)] → W p l e (headSpec wsX3_lookAtEach { frames := 2 * d + 13, cells := 0, slots := 0, locals := 60 * d + 425 }).room s m ([.ref (q 0), .int p1, .int p2, .int p3] : List Value).toArray below meth c H locs 0 0 (MQ below (va_Qi (fun (r : Int32) (u' : St) => (r, u') = sX_lookAtEach lk u p1 p2 p3) (fun u' t => PX D q cI cL tp u' t) (AQ 24 q)) ([.ref (q 0), .int p1, .int p2, .int p3] : List Value).toArray s 0 0 (AQ 24 q)) (F0 m 30 ls []) := by
    intro n
    induction n with
    | zero => intro u' x4 x5 x6 H locs ls hok; exact False.elim hok
    | succ n ih =>
      intro u' x4 x5 x6 H locs ls hok hsp hP hS hl
      replace hsp := hsp.trans (lX_lookAtEach_30_s lk n u' p1 p2 p3 x4 x5 x6)
      replace hok := (oklX_lookAtEach_30_s lk oklk n u' p1 p2 p3 x4 x5 x6).mp hok
      refine lv_iload hx hb dX3_lookAtEach_30 (lv_at hl 6 rfl) ?_
      refine lv_iload hx hb dX3_lookAtEach_32 (lv_at hl 5 rfl) ?_
      refine lv_icmp_ge (tgt := 66) hx hb dX3_lookAtEach_34 (by decide) (fun c_1 => ?_) (fun c_1 => ?_)
      · have hsp := hsp.trans (if_pos c_1)
        refine lv_iload hx hb dX3_lookAtEach_66 (lv_at hl 4 rfl) ?_
        exact W.iret (v := x4) hx hb hr (fun t ht hW => ⟨⟨x4, u', rfl, hsp.symm, PX_fin hP hK hZ hS ht hW⟩, hS.F ht⟩) hS.2.2 dX3_lookAtEach_68
      · have hsp := hsp.trans (if_neg c_1)
        have hok := hok.2 c_1
        refine lv_iload hx hb dX3_lookAtEach_37 (lv_at hl 4 rfl) ?_
        refine lv_iconst (v := 1) hx hb dX3_lookAtEach_39 (by decide) ?_
        refine lv_icmp_ne (tgt := 66) hx hb dX3_lookAtEach_40 (by decide) (fun c_2 => ?_) (fun c_2 => ?_)
        · have hsp := hsp.trans (if_neg c_2)
          refine lv_iload hx hb dX3_lookAtEach_66 (lv_at hl 4 rfl) ?_
          exact W.iret (v := x4) hx hb hr (fun t ht hW => ⟨⟨x4, u', rfl, hsp.symm, PX_fin hP hK hZ hS ht hW⟩, hS.F ht⟩) hS.2.2 dX3_lookAtEach_68
        · have hsp := hsp.trans (if_pos c_2)
          have hok := hok.1 c_2
          refine lv_aload_n hx hb dX3_lookAtEach_43 rfl (lv_at hl 0 rfl) ?_
          refine lv_iload_n hx hb dX3_lookAtEach_44 rfl (lv_at hl 3 rfl) ?_
          refine lv_aload_n hx hb dX3_lookAtEach_45 rfl (lv_at hl 0 rfl) ?_
          refine va_get (D := D) (ci := 6) (v := .ref (q 1)) (C := RX3) (T := TX3) (N := 7) hx hb hts hiX3 hown hK hP 0 rfl rfl 0 (by decide) hf10 (fun _ h9 => h9) rfl dX3_lookAtEach_46 ?_
          refine lv_iload_n hx hb dX3_lookAtEach_49 rfl (lv_at hl 1 rfl) ?_
          refine lv_iload hx hb dX3_lookAtEach_50 (lv_at hl 6 rfl) ?_
          have h_3 := hok.1
          have hok := hok.2
          refine vp_callSi (W.runV (As := [.int p1, .int x6]) (rest := [.int p3, .ref (q 0)]) ⟨hx, hb, hml, hown, hts⟩ (cXT_heldIn l D q cI cL tp u' p1 x6 h_3) (cwV 2 hts gX3_lookAtEach_X2_heldIn rfl rfl rfl (by decide +kernel) ⟨by simp [headSpec, rmL] <;> omega, by simp [headSpec, rmL] <;> omega⟩) ⟨PX_blind, va_recv hK hP (ci := 5) (q0 := 1) rfl rfl, fun U hU hW => ⟨rfl, PX_fin hP hK hZ hS hU hW⟩⟩ rfl rfl hl.1 rfl (lv_room (Nat.le_of_ble_eq_true rfl)) dX3_lookAtEach_52 ⟨(Nat.le_of_ble_eq_true rfl), (Nat.le_of_ble_eq_true rfl)⟩) (fun r_4 hr_4 => ?_)
          subst hr_4
          have h_5 := hok.1
          have hok := hok.2
          refine va_calli (va_runV (As := [.int p3, .int (sXT_heldIn u' p1 x6)]) (rest := []) ⟨hx, hb, hml, hown, hts⟩ (hlk u' p3 (sXT_heldIn u' p1 x6) h_5) (cwV 2 hts gX3_lookAtEach_X3_look rfl rfl rfl (by decide +kernel) ⟨by simp [headSpec, rmL] <;> omega, by simp [headSpec, rmL] <;> omega⟩) ⟨PX_blind, va_recv hK hP (ci := 6) (q0 := 0) rfl rfl, fun U hU hW => ⟨rfl, PX_fin hP hK hZ hS hU hW⟩⟩ rfl rfl hl.1 rfl (lv_room (Nat.le_of_ble_eq_true rfl)) dX3_lookAtEach_55 ⟨(Nat.le_of_ble_eq_true rfl), (Nat.le_of_ble_eq_true rfl)⟩) hS (fun q _ h => h) (fun q h => h) (fun r2 u2 t H1 locs ht hvm hu2 hB hz1 hk1 hS => ?_)
          have hP := hB.1
          rw [ht] at hP
          clear hB hk1 hz1 hvm ht
          generalize H1 = H at hP hS ⊢
          refine W.widen (k := 0) (n := 0) (Nat.le_refl 0) (Nat.le_refl 0) ?_
          have hsp := hsp.trans (bnd2_eq hu2)
          have hok := bnd2_ok hu2 hok
          refine lv_istore (lv' := [(4, .int r2), (0, .ref (q 0)), (1, .int p1), (2, .int p2), (3, .int p3), (5, .int x5), (6, .int x6)]) hx hb dX3_lookAtEach_58 hl (by decide) rfl (fun ls hl => ?_)
          refine lv_iinc (v := (x6 + 1)) (lv' := [(6, .int (x6 + 1)), (4, .int r2), (0, .ref (q 0)), (1, .int p1), (2, .int p2), (3, .int p3), (5, .int x5)]) hx hb dX3_lookAtEach_60 hl (k := 6) rfl rfl (by decide) rfl (fun ls hl => ?_)
          refine lv_goto (tgt := 30) hx hb dX3_lookAtEach_63 (by decide) ?_
          exact ih u2 r2 x5 (x6 + 1) _ _ _ hok hsp hP hS (lv_sub hl [2, 3, 4, 5, 1, 6, 0] rfl)
  have hsp : sX_lookAtEach lk u p1 p2 p3 = _ := sX_lookAtEach.eq_1 lk u p1 p2 p3
  unfold okX_lookAtEach at hok
  refine lv_aload_n hx hb dX3_lookAtEach_0 rfl (lv_at hl 0 rfl) ?_
  refine va_get (D := D) (ci := 6) (v := .ref (q 1)) (C := RX3) (T := TX3) (N := 7) hx hb hts hiX3 hown hK hP 0 rfl rfl 0 (by decide) hf10 (fun _ h9 => h9) rfl dX3_lookAtEach_1 ?_
  refine lv_iload_n hx hb dX3_lookAtEach_4 rfl (lv_at hl 1 rfl) ?_
  refine lv_iload_n hx hb dX3_lookAtEach_5 rfl (lv_at hl 2 rfl) ?_
  have h_6 := hok.1
  have hok := hok.2
  refine vp_callSi (W.runV (As := [.int p1, .int p2]) (rest := []) ⟨hx, hb, hml, hown, hts⟩ (cXT_isOf l D q cI cL tp u p1 p2 h_6) (cwV 2 hts gX3_lookAtEach_X2_isOf rfl rfl rfl (by decide +kernel) ⟨by simp [headSpec, rmL] <;> omega, by simp [headSpec, rmL] <;> omega⟩) ⟨PX_blind, va_recv hK hP (ci := 5) (q0 := 1) rfl rfl, fun U hU hW => ⟨rfl, PX_fin hP hK hZ hS hU hW⟩⟩ rfl rfl hl.1 rfl (lv_room (Nat.le_of_ble_eq_true rfl)) dX3_lookAtEach_6 ⟨(Nat.le_of_ble_eq_true rfl), (Nat.le_of_ble_eq_true rfl)⟩) (fun r_7 hr_7 => ?_)
  subst hr_7
  refine lv_if_ne (tgt := 14) hx hb dX3_lookAtEach_9 (by decide) (fun c_8 => ?_) (fun c_8 => ?_)
  · have hsp := hsp.trans (if_neg c_8)
    have hok := hok.2 c_8
    refine lv_iconst (v := 1) hx hb dX3_lookAtEach_14 (by decide) ?_
    refine lv_istore (lv' := [(4, .int 1), (0, .ref (q 0)), (1, .int p1), (2, .int p2), (3, .int p3)]) hx hb dX3_lookAtEach_15 hl (by decide) rfl (fun ls hl => ?_)
    refine lv_aload_n hx hb dX3_lookAtEach_17 rfl (lv_at hl 1 rfl) ?_
    refine va_get (D := D) (ci := 6) (v := .ref (q 1)) (C := RX3) (T := TX3) (N := 7) hx hb hts hiX3 hown hK hP 0 rfl rfl 0 (by decide) hf10 (fun _ h9 => h9) rfl dX3_lookAtEach_18 ?_
    refine lv_iload_n hx hb dX3_lookAtEach_21 rfl (lv_at hl 2 rfl) ?_
    have h_9 := hok.1
    have hok := hok.2
    refine vp_callSi (W.runV (As := [.int p1]) (rest := []) ⟨hx, hb, hml, hown, hts⟩ (cXT_placesOf l D q cI cL tp u p1 h_9) (cwV 1 hts gX3_lookAtEach_X2_placesOf rfl rfl rfl (by decide +kernel) ⟨by simp [headSpec, rmL] <;> omega, by simp [headSpec, rmL] <;> omega⟩) ⟨PX_blind, va_recv hK hP (ci := 5) (q0 := 1) rfl rfl, fun U hU hW => ⟨rfl, PX_fin hP hK hZ hS hU hW⟩⟩ rfl rfl hl.1 rfl (lv_room (Nat.le_of_ble_eq_true rfl)) dX3_lookAtEach_22 ⟨(Nat.le_of_ble_eq_true rfl), (Nat.le_of_ble_eq_true rfl)⟩) (fun r_10 hr_10 => ?_)
    subst hr_10
    refine lv_topi (fun y1 hy1 => ?_)
    have hsp := hsp.trans (bnd_eq hy1)
    have hok := bnd_ok hy1 hok
    refine lv_istore (lv' := [(5, .int y1), (4, .int 1), (0, .ref (q 0)), (1, .int p1), (2, .int p2), (3, .int p3)]) hx hb dX3_lookAtEach_25 hl (by decide) rfl (fun ls hl => ?_)
    refine lv_iconst (v := 0) hx hb dX3_lookAtEach_27 (by decide) ?_
    refine lv_istore (lv' := [(6, .int 0), (5, .int y1), (4, .int 1), (0, .ref (q 0)), (1, .int p1), (2, .int p2), (3, .int p3)]) hx hb dX3_lookAtEach_28 hl (by decide) rfl (fun ls hl => ?_)
    exact loop_30 100 u 1 y1 0 _ _ _ hok hsp hP hS (lv_sub hl [3, 4, 5, 6, 2, 1, 0] rfl)
  · have hsp := hsp.trans (if_pos c_8)
    refine lv_iconst (v := 0) hx hb dX3_lookAtEach_12 (by decide) ?_
    exact W.iret (v := 0) hx hb hr (fun t ht hW => ⟨⟨0, u, rfl, hsp.symm, PX_fin hP hK hZ hS ht hW⟩, hS.F ht⟩) hS.2.2 dX3_lookAtEach_13
