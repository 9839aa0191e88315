set_option maxHeartbeats 4000000 in
set_option maxRecDepth 100000 in
theorem cM_isWell (l : Launch) (p0 : Int32) (p1 : Int32) : Met l yX4_isWell wsX4_isWell { frames := 1, cells := 0, slots := 0, locals := 22 } (va_Pc [.int p0, .int p1] (fun _ => True)) (vp_Si (fun r => r = sM_isWell p0 p1)) 0 0 (fun _ => False) := by
  refine Met.ofW (cc := cX4_isWell) (maxL := 2) (ret := (some .boolean)) (by decide) rfl ?_
  intro p e s m args below meth c s₁ B hml hv
  obtain ⟨rfl, -⟩ := hv
  have hx := B.exec
  have hb := B.bytes
  have hr := B.returns
  have hts := atoms_spec (ws := wsX4_isWell) B.pre
  have hown : s.vm.findClass RX4 = some m.cls := findClass_of_methodNamed B.named
  have hlocks := B.notSynchronized
  have hl := lv_entry ([.int p0, .int p1]) (n := 2) (Nat.le_of_ble_eq_true rfl)
  rw [lg_entry_eq]
  generalize (lg_sl ([.int p0, .int p1]) ++ List.replicate (2 - (lg_sl ([.int p0, .int p1])).length) Slot.unset).toArray = ls at hl ⊢
  have hl : lv_has ls 2 [(0, .int p0), (1, .int p1)] := hl
  have hsp : sM_isWell p0 p1 = _ := sM_isWell.eq_1 p0 p1
  refine lv_iload_n hx hb dX4_isWell_0 rfl (lv_at hl 0 rfl) ?_
  by_cases c_1 : p0 = 0
  · have hsp := hsp.trans (if_pos c_1)
    refine lv_tableIn (off := 71) (tgt := 72) hx hb dX4_isWell_1 (by rw [c_1]; decide) (by rw [c_1]; decide) (by rw [c_1]; rfl) (by decide) ?_
    refine lv_iload_n hx hb dX4_isWell_72 rfl (lv_at hl 1 rfl) ?_
    refine lv_iconst (v := 0) hx hb dX4_isWell_73 (by decide) ?_
    refine lv_bipush (v := 15) hx hb dX4_isWell_74 (by decide) ?_
    refine vp_callSi (W.runS (As := [.int p1, .int 0, .int 15]) (rest := []) ⟨hx, hb, hml, hown, hts⟩ (cM_in l p1 0 15) (va_cwS 3 hts gX4_isWell_X4_in rfl rfl rfl (by decide +kernel) ⟨(Nat.le_of_ble_eq_true rfl), (Nat.le_of_ble_eq_true rfl)⟩) ⟨T_blind, fun U hU hW => ⟨rfl, trivial⟩⟩ rfl rfl hl.1 rfl (lv_room (Nat.le_of_ble_eq_true rfl)) dX4_isWell_76 ⟨(Nat.le_of_ble_eq_true rfl), (Nat.le_of_ble_eq_true rfl)⟩) (fun r_2 hr_2 => ?_)
    subst hr_2
    exact W.zret (v := (sM_in p1 0 15)) hx hb hr (isB_n (bM_in p1 0 15)) (fun t ht hW => ⟨(sM_in p1 0 15), rfl, hsp.symm, ht⟩) (fun _ h => nomatch h) dX4_isWell_79
  · have hsp := hsp.trans (if_neg c_1)
    by_cases c_3 : p0 = 1
    · have hsp := hsp.trans (if_pos c_3)
      refine lv_tableIn (off := 71) (tgt := 72) hx hb dX4_isWell_1 (by rw [c_3]; decide) (by rw [c_3]; decide) (by rw [c_3]; rfl) (by decide) ?_
      refine lv_iload_n hx hb dX4_isWell_72 rfl (lv_at hl 1 rfl) ?_
      refine lv_iconst (v := 0) hx hb dX4_isWell_73 (by decide) ?_
      refine lv_bipush (v := 15) hx hb dX4_isWell_74 (by decide) ?_
      refine vp_callSi (W.runS (As := [.int p1, .int 0, .int 15]) (rest := []) ⟨hx, hb, hml, hown, hts⟩ (cM_in l p1 0 15) (va_cwS 3 hts gX4_isWell_X4_in rfl rfl rfl (by decide +kernel) ⟨(Nat.le_of_ble_eq_true rfl), (Nat.le_of_ble_eq_true rfl)⟩) ⟨T_blind, fun U hU hW => ⟨rfl, trivial⟩⟩ rfl rfl hl.1 rfl (lv_room (Nat.le_of_ble_eq_true rfl)) dX4_isWell_76 ⟨(Nat.le_of_ble_eq_true rfl), (Nat.le_of_ble_eq_true rfl)⟩) (fun r_4 hr_4 => ?_)
      subst hr_4
      exact W.zret (v := (sM_in p1 0 15)) hx hb hr (isB_n (bM_in p1 0 15)) (fun t ht hW => ⟨(sM_in p1 0 15), rfl, hsp.symm, ht⟩) (fun _ h => nomatch h) dX4_isWell_79
    · have hsp := hsp.trans (if_neg c_3)
      by_cases c_5 : p0 = 2
      · have hsp := hsp.trans (if_pos c_5)
        refine lv_tableIn (off := 111) (tgt := 112) hx hb dX4_isWell_1 (by rw [c_5]; decide) (by rw [c_5]; decide) (by rw [c_5]; rfl) (by decide) ?_
        refine lv_iconst (v := 1) hx hb dX4_isWell_112 (by decide) ?_
        exact W.zret (v := 1) hx hb hr rfl (fun t ht hW => ⟨1, rfl, hsp.symm, ht⟩) (fun _ h => nomatch h) dX4_isWell_113
      · have hsp := hsp.trans (if_neg c_5)
        by_cases c_6 : p0 = 3
        · have hsp := hsp.trans (if_pos c_6)
          refine lv_tableIn (off := 111) (tgt := 112) hx hb dX4_isWell_1 (by rw [c_6]; decide) (by rw [c_6]; decide) (by rw [c_6]; rfl) (by decide) ?_
          refine lv_iconst (v := 1) hx hb dX4_isWell_112 (by decide) ?_
          exact W.zret (v := 1) hx hb hr rfl (fun t ht hW => ⟨1, rfl, hsp.symm, ht⟩) (fun _ h => nomatch h) dX4_isWell_113
        · have hsp := hsp.trans (if_neg c_6)
          by_cases c_7 : p0 = 4
          · have hsp := hsp.trans (if_pos c_7)
            refine lv_tableIn (off := 79) (tgt := 80) hx hb dX4_isWell_1 (by rw [c_7]; decide) (by rw [c_7]; decide) (by rw [c_7]; rfl) (by decide) ?_
            refine lv_iload_n hx hb dX4_isWell_80 rfl (lv_at hl 1 rfl) ?_
            refine lv_bipush (v := 7) hx hb dX4_isWell_81 (by decide) ?_
            refine lv_bipush (v := 13) hx hb dX4_isWell_83 (by decide) ?_
            refine vp_callSi (W.runS (As := [.int p1, .int 7, .int 13]) (rest := []) ⟨hx, hb, hml, hown, hts⟩ (cM_in l p1 7 13) (va_cwS 3 hts gX4_isWell_X4_in rfl rfl rfl (by decide +kernel) ⟨(Nat.le_of_ble_eq_true rfl), (Nat.le_of_ble_eq_true rfl)⟩) ⟨T_blind, fun U hU hW => ⟨rfl, trivial⟩⟩ rfl rfl hl.1 rfl (lv_room (Nat.le_of_ble_eq_true rfl)) dX4_isWell_85 ⟨(Nat.le_of_ble_eq_true rfl), (Nat.le_of_ble_eq_true rfl)⟩) (fun r_8 hr_8 => ?_)
            subst hr_8
            exact W.zret (v := (sM_in p1 7 13)) hx hb hr (isB_n (bM_in p1 7 13)) (fun t ht hW => ⟨(sM_in p1 7 13), rfl, hsp.symm, ht⟩) (fun _ h => nomatch h) dX4_isWell_88
          · have hsp := hsp.trans (if_neg c_7)
            by_cases c_9 : p0 = 5
            · have hsp := hsp.trans (if_pos c_9)
              refine lv_tableIn (off := 79) (tgt := 80) hx hb dX4_isWell_1 (by rw [c_9]; decide) (by rw [c_9]; decide) (by rw [c_9]; rfl) (by decide) ?_
              refine lv_iload_n hx hb dX4_isWell_80 rfl (lv_at hl 1 rfl) ?_
              refine lv_bipush (v := 7) hx hb dX4_isWell_81 (by decide) ?_
              refine lv_bipush (v := 13) hx hb dX4_isWell_83 (by decide) ?_
              refine vp_callSi (W.runS (As := [.int p1, .int 7, .int 13]) (rest := []) ⟨hx, hb, hml, hown, hts⟩ (cM_in l p1 7 13) (va_cwS 3 hts gX4_isWell_X4_in rfl rfl rfl (by decide +kernel) ⟨(Nat.le_of_ble_eq_true rfl), (Nat.le_of_ble_eq_true rfl)⟩) ⟨T_blind, fun U hU hW => ⟨rfl, trivial⟩⟩ rfl rfl hl.1 rfl (lv_room (Nat.le_of_ble_eq_true rfl)) dX4_isWell_85 ⟨(Nat.le_of_ble_eq_true rfl), (Nat.le_of_ble_eq_true rfl)⟩) (fun r_10 hr_10 => ?_)
              subst hr_10
              exact W.zret (v := (sM_in p1 7 13)) hx hb hr (isB_n (bM_in p1 7 13)) (fun t ht hW => ⟨(sM_in p1 7 13), rfl, hsp.symm, ht⟩) (fun _ h => nomatch h) dX4_isWell_88
            · have hsp := hsp.trans (if_neg c_9)
              by_cases c_11 : p0 = 6
              · have hsp := hsp.trans (if_pos c_11)
                refine lv_tableIn (off := 88) (tgt := 89) hx hb dX4_isWell_1 (by rw [c_11]; decide) (by rw [c_11]; decide) (by rw [c_11]; rfl) (by decide) ?_
                refine lv_iload_n hx hb dX4_isWell_89 rfl (lv_at hl 1 rfl) ?_
                refine lv_iconst (v := 4) hx hb dX4_isWell_90 (by decide) ?_
                refine lv_bipush (v := 6) hx hb dX4_isWell_91 (by decide) ?_
                refine vp_callSi (W.runS (As := [.int p1, .int 4, .int 6]) (rest := []) ⟨hx, hb, hml, hown, hts⟩ (cM_in l p1 4 6) (va_cwS 3 hts gX4_isWell_X4_in rfl rfl rfl (by decide +kernel) ⟨(Nat.le_of_ble_eq_true rfl), (Nat.le_of_ble_eq_true rfl)⟩) ⟨T_blind, fun U hU hW => ⟨rfl, trivial⟩⟩ rfl rfl hl.1 rfl (lv_room (Nat.le_of_ble_eq_true rfl)) dX4_isWell_93 ⟨(Nat.le_of_ble_eq_true rfl), (Nat.le_of_ble_eq_true rfl)⟩) (fun r_12 hr_12 => ?_)
                subst hr_12
                exact W.zret (v := (sM_in p1 4 6)) hx hb hr (isB_n (bM_in p1 4 6)) (fun t ht hW => ⟨(sM_in p1 4 6), rfl, hsp.symm, ht⟩) (fun _ h => nomatch h) dX4_isWell_96
              · have hsp := hsp.trans (if_neg c_11)
                by_cases c_13 : p0 = 7
                · have hsp := hsp.trans (if_pos c_13)
                  refine lv_tableIn (off := 111) (tgt := 112) hx hb dX4_isWell_1 (by rw [c_13]; decide) (by rw [c_13]; decide) (by rw [c_13]; rfl) (by decide) ?_
                  refine lv_iconst (v := 1) hx hb dX4_isWell_112 (by decide) ?_
                  exact W.zret (v := 1) hx hb hr rfl (fun t ht hW => ⟨1, rfl, hsp.symm, ht⟩) (fun _ h => nomatch h) dX4_isWell_113
                · have hsp := hsp.trans (if_neg c_13)
                  by_cases c_14 : p0 = 8
                  · have hsp := hsp.trans (if_pos c_14)
                    refine lv_tableIn (off := 111) (tgt := 112) hx hb dX4_isWell_1 (by rw [c_14]; decide) (by rw [c_14]; decide) (by rw [c_14]; rfl) (by decide) ?_
                    refine lv_iconst (v := 1) hx hb dX4_isWell_112 (by decide) ?_
                    exact W.zret (v := 1) hx hb hr rfl (fun t ht hW => ⟨1, rfl, hsp.symm, ht⟩) (fun _ h => nomatch h) dX4_isWell_113
                  · have hsp := hsp.trans (if_neg c_14)
                    by_cases c_15 : p0 = 9
                    · have hsp := hsp.trans (if_pos c_15)
                      refine lv_tableIn (off := 111) (tgt := 112) hx hb dX4_isWell_1 (by rw [c_15]; decide) (by rw [c_15]; decide) (by rw [c_15]; rfl) (by decide) ?_
                      refine lv_iconst (v := 1) hx hb dX4_isWell_112 (by decide) ?_
                      exact W.zret (v := 1) hx hb hr rfl (fun t ht hW => ⟨1, rfl, hsp.symm, ht⟩) (fun _ h => nomatch h) dX4_isWell_113
                    · have hsp := hsp.trans (if_neg c_15)
                      by_cases c_16 : p0 = 10
                      · have hsp := hsp.trans (if_pos c_16)
                        refine lv_tableIn (off := 96) (tgt := 97) hx hb dX4_isWell_1 (by rw [c_16]; decide) (by rw [c_16]; decide) (by rw [c_16]; rfl) (by decide) ?_
                        refine lv_iload_n hx hb dX4_isWell_97 rfl (lv_at hl 1 rfl) ?_
                        refine lv_iconst (v := 0) hx hb dX4_isWell_98 (by decide) ?_
                        refine lv_iconst (v := 3) hx hb dX4_isWell_99 (by decide) ?_
                        refine vp_callSi (W.runS (As := [.int p1, .int 0, .int 3]) (rest := []) ⟨hx, hb, hml, hown, hts⟩ (cM_in l p1 0 3) (va_cwS 3 hts gX4_isWell_X4_in rfl rfl rfl (by decide +kernel) ⟨(Nat.le_of_ble_eq_true rfl), (Nat.le_of_ble_eq_true rfl)⟩) ⟨T_blind, fun U hU hW => ⟨rfl, trivial⟩⟩ rfl rfl hl.1 rfl (lv_room (Nat.le_of_ble_eq_true rfl)) dX4_isWell_100 ⟨(Nat.le_of_ble_eq_true rfl), (Nat.le_of_ble_eq_true rfl)⟩) (fun r_17 hr_17 => ?_)
                        subst hr_17
                        exact W.zret (v := (sM_in p1 0 3)) hx hb hr (isB_n (bM_in p1 0 3)) (fun t ht hW => ⟨(sM_in p1 0 3), rfl, hsp.symm, ht⟩) (fun _ h => nomatch h) dX4_isWell_103
                      · have hsp := hsp.trans (if_neg c_16)
                        by_cases c_18 : p0 = 11
                        · have hsp := hsp.trans (if_pos c_18)
                          refine lv_tableIn (off := 96) (tgt := 97) hx hb dX4_isWell_1 (by rw [c_18]; decide) (by rw [c_18]; decide) (by rw [c_18]; rfl) (by decide) ?_
                          refine lv_iload_n hx hb dX4_isWell_97 rfl (lv_at hl 1 rfl) ?_
                          refine lv_iconst (v := 0) hx hb dX4_isWell_98 (by decide) ?_
                          refine lv_iconst (v := 3) hx hb dX4_isWell_99 (by decide) ?_
                          refine vp_callSi (W.runS (As := [.int p1, .int 0, .int 3]) (rest := []) ⟨hx, hb, hml, hown, hts⟩ (cM_in l p1 0 3) (va_cwS 3 hts gX4_isWell_X4_in rfl rfl rfl (by decide +kernel) ⟨(Nat.le_of_ble_eq_true rfl), (Nat.le_of_ble_eq_true rfl)⟩) ⟨T_blind, fun U hU hW => ⟨rfl, trivial⟩⟩ rfl rfl hl.1 rfl (lv_room (Nat.le_of_ble_eq_true rfl)) dX4_isWell_100 ⟨(Nat.le_of_ble_eq_true rfl), (Nat.le_of_ble_eq_true rfl)⟩) (fun r_19 hr_19 => ?_)
                          subst hr_19
                          exact W.zret (v := (sM_in p1 0 3)) hx hb hr (isB_n (bM_in p1 0 3)) (fun t ht hW => ⟨(sM_in p1 0 3), rfl, hsp.symm, ht⟩) (fun _ h => nomatch h) dX4_isWell_103
                        · have hsp := hsp.trans (if_neg c_18)
                          by_cases c_20 : p0 = 12
                          · have hsp := hsp.trans (if_pos c_20)
                            refine lv_tableIn (off := 111) (tgt := 112) hx hb dX4_isWell_1 (by rw [c_20]; decide) (by rw [c_20]; decide) (by rw [c_20]; rfl) (by decide) ?_
                            refine lv_iconst (v := 1) hx hb dX4_isWell_112 (by decide) ?_
                            exact W.zret (v := 1) hx hb hr rfl (fun t ht hW => ⟨1, rfl, hsp.symm, ht⟩) (fun _ h => nomatch h) dX4_isWell_113
                          · have hsp := hsp.trans (if_neg c_20)
                            by_cases c_21 : p0 = 13
                            · have hsp := hsp.trans (if_pos c_21)
                              refine lv_tableIn (off := 103) (tgt := 104) hx hb dX4_isWell_1 (by rw [c_21]; decide) (by rw [c_21]; decide) (by rw [c_21]; rfl) (by decide) ?_
                              refine lv_iload_n hx hb dX4_isWell_104 rfl (lv_at hl 1 rfl) ?_
                              refine lv_iconst (v := 4) hx hb dX4_isWell_105 (by decide) ?_
                              refine lv_bipush (v := 13) hx hb dX4_isWell_106 (by decide) ?_
                              refine vp_callSi (W.runS (As := [.int p1, .int 4, .int 13]) (rest := []) ⟨hx, hb, hml, hown, hts⟩ (cM_in l p1 4 13) (va_cwS 3 hts gX4_isWell_X4_in rfl rfl rfl (by decide +kernel) ⟨(Nat.le_of_ble_eq_true rfl), (Nat.le_of_ble_eq_true rfl)⟩) ⟨T_blind, fun U hU hW => ⟨rfl, trivial⟩⟩ rfl rfl hl.1 rfl (lv_room (Nat.le_of_ble_eq_true rfl)) dX4_isWell_108 ⟨(Nat.le_of_ble_eq_true rfl), (Nat.le_of_ble_eq_true rfl)⟩) (fun r_22 hr_22 => ?_)
                              subst hr_22
                              exact W.zret (v := (sM_in p1 4 13)) hx hb hr (isB_n (bM_in p1 4 13)) (fun t ht hW => ⟨(sM_in p1 4 13), rfl, hsp.symm, ht⟩) (fun _ h => nomatch h) dX4_isWell_111
                            · have hsp := hsp.trans (if_neg c_21)
                              refine lv_tableOut (tgt := 112) hx hb dX4_isWell_1 (by have e0 := lv_neT (a := 0) c_1 (by decide); have e1 := lv_neT (a := 1) c_3 (by decide); have e2 := lv_neT (a := 2) c_5 (by decide); have e3 := lv_neT (a := 3) c_6 (by decide); have e4 := lv_neT (a := 4) c_7 (by decide); have e5 := lv_neT (a := 5) c_9 (by decide); have e6 := lv_neT (a := 6) c_11 (by decide); have e7 := lv_neT (a := 7) c_13 (by decide); have e8 := lv_neT (a := 8) c_14 (by decide); have e9 := lv_neT (a := 9) c_15 (by decide); have e10 := lv_neT (a := 10) c_16 (by decide); have e11 := lv_neT (a := 11) c_18 (by decide); have e12 := lv_neT (a := 12) c_20 (by decide); have e13 := lv_neT (a := 13) c_21 (by decide); omega) (by decide) ?_
                              refine lv_iconst (v := 1) hx hb dX4_isWell_112 (by decide) ?_
                              exact W.zret (v := 1) hx hb hr rfl (fun t ht hW => ⟨1, rfl, hsp.symm, ht⟩) (fun _ h => nomatch h) dX4_isWell_113
set_option maxHeartbeats 4000000 in
set_option maxRecDepth 100000 in
theorem cM_areKnown (l : Launch) (D : va_G) (q : Nat → Nat) (cI cL : ClassId) (u : St) (p1 : Int32) (p2 : Int32) (p3 : Int32) (p4 : Int32) : Met l yX4_areKnown wsX4_areKnown { frames := 2, cells := 0, slots := 0, locals := 43 } (va_Pc [.ref (q 0), .int p1, .int p2, .int p3, .int p4] (fun U => PM D q cI cL u U)) (vp_Si (fun r => r = sM_areKnown u p1 p2 p3 p4)) 0 0 (fun _ => False) := by
  refine Met.ofW (cc := cX4_areKnown) (maxL := 5) (ret := (some .boolean)) (by decide) rfl ?_
  intro p e s m args below meth c s₁ B hml hv
  obtain ⟨rfl, hP, hK⟩ := hv
  have hx := B.exec
  have hb := B.bytes
  have hr := B.returns
  have hts := atoms_spec (ws := wsX4_areKnown) B.pre
  have hown : s.vm.findClass RX4 = some m.cls := findClass_of_methodNamed B.named
  have hlocks := B.notSynchronized
  have hS : va_S (AQ 22 q) s.heap s.heap [] := va_S.rf
  have hP : va_P D vwCl (wM q cI cL u) s.heap := hP
  have hl := lv_entry ([.ref (q 0), .int p1, .int p2, .int p3, .int p4]) (n := 5) (Nat.le_of_ble_eq_true rfl)
  rw [lg_entry_eq]
  generalize (lg_sl ([.ref (q 0), .int p1, .int p2, .int p3, .int p4]) ++ List.replicate (5 - (lg_sl ([.ref (q 0), .int p1, .int p2, .int p3, .int p4])).length) Slot.unset).toArray = ls at hl ⊢
  have hl : lv_has ls 5 [(0, .ref (q 0)), (1, .int p1), (2, .int p2), (3, .int p3), (4, .int p4)] := hl
  have hsp : sM_areKnown u p1 p2 p3 p4 = _ := sM_areKnown.eq_1 u p1 p2 p3 p4
  refine lv_iload_n hx hb dX4_areKnown_0 rfl (lv_at hl 1 rfl) ?_
  by_cases c_1 : p1 = 1
  · have hsp := hsp.trans (if_pos c_1)
    refine lv_tableIn (off := 51) (tgt := 52) hx hb dX4_areKnown_1 (by rw [c_1]; decide) (by rw [c_1]; decide) (by rw [c_1]; rfl) (by decide) ?_
    refine lv_aload_n hx hb dX4_areKnown_52 rfl (lv_at hl 0 rfl) ?_
    refine lv_iload_n hx hb dX4_areKnown_53 rfl (lv_at hl 3 rfl) ?_
    refine vp_callSi (W.runV (As := [.int p3]) (rest := []) ⟨hx, hb, hml, hown, hts⟩ (cM_isPattern l D q cI cL u p3) (cwV 1 hts gX4_areKnown_X4_isPattern rfl rfl rfl (by decide +kernel) ⟨(Nat.le_of_ble_eq_true rfl), (Nat.le_of_ble_eq_true rfl)⟩) ⟨PM_blind, va_recv hK hP (ci := 7) (q0 := 0) rfl rfl, fun U hU hW => ⟨rfl, PM_fin hP hK hU hW⟩⟩ rfl rfl hl.1 rfl (lv_room (Nat.le_of_ble_eq_true rfl)) dX4_areKnown_54 ⟨(Nat.le_of_ble_eq_true rfl), (Nat.le_of_ble_eq_true rfl)⟩) (fun r_2 hr_2 => ?_)
    subst hr_2
    exact W.zret (v := (sM_isPattern u p3)) hx hb hr (isB_n (bM_isPattern u p3)) (fun t ht hW => ⟨(sM_isPattern u p3), rfl, hsp.symm, ht⟩) (fun _ h => nomatch h) dX4_areKnown_57
  · have hsp := hsp.trans (if_neg c_1)
    by_cases c_3 : p1 = 2
    · have hsp := hsp.trans (if_pos c_3)
      refine lv_tableIn (off := 92) (tgt := 93) hx hb dX4_areKnown_1 (by rw [c_3]; decide) (by rw [c_3]; decide) (by rw [c_3]; rfl) (by decide) ?_
      refine lv_iconst (v := 1) hx hb dX4_areKnown_93 (by decide) ?_
      exact W.zret (v := 1) hx hb hr rfl (fun t ht hW => ⟨1, rfl, hsp.symm, ht⟩) (fun _ h => nomatch h) dX4_areKnown_94
    · have hsp := hsp.trans (if_neg c_3)
      by_cases c_4 : p1 = 3
      · have hsp := hsp.trans (if_pos c_4)
        refine lv_tableIn (off := 57) (tgt := 58) hx hb dX4_areKnown_1 (by rw [c_4]; decide) (by rw [c_4]; decide) (by rw [c_4]; rfl) (by decide) ?_
        refine lv_aload_n hx hb dX4_areKnown_58 rfl (lv_at hl 0 rfl) ?_
        refine lv_iload_n hx hb dX4_areKnown_59 rfl (lv_at hl 2 rfl) ?_
        refine vp_callSi (W.runV (As := [.int p2]) (rest := []) ⟨hx, hb, hml, hown, hts⟩ (cM_isPattern l D q cI cL u p2) (cwV 1 hts gX4_areKnown_X4_isPattern rfl rfl rfl (by decide +kernel) ⟨(Nat.le_of_ble_eq_true rfl), (Nat.le_of_ble_eq_true rfl)⟩) ⟨PM_blind, va_recv hK hP (ci := 7) (q0 := 0) rfl rfl, fun U hU hW => ⟨rfl, PM_fin hP hK hU hW⟩⟩ rfl rfl hl.1 rfl (lv_room (Nat.le_of_ble_eq_true rfl)) dX4_areKnown_60 ⟨(Nat.le_of_ble_eq_true rfl), (Nat.le_of_ble_eq_true rfl)⟩) (fun r_5 hr_5 => ?_)
        subst hr_5
        refine lv_if_eq (tgt := 78) hx hb dX4_areKnown_63 (by decide) (fun c_6 => ?_) (fun c_6 => ?_)
        · have hsp := hsp.trans (if_pos c_6)
          refine lv_iconst (v := 0) hx hb dX4_areKnown_78 (by decide) ?_
          exact W.zret (v := 0) hx hb hr rfl (fun t ht hW => ⟨0, rfl, hsp.symm, ht⟩) (fun _ h => nomatch h) dX4_areKnown_79
        · have hsp := hsp.trans (if_neg c_6)
          refine lv_aload_n hx hb dX4_areKnown_66 rfl (lv_at hl 0 rfl) ?_
          refine lv_iload_n hx hb dX4_areKnown_67 rfl (lv_at hl 3 rfl) ?_
          refine vp_callSi (W.runV (As := [.int p3]) (rest := []) ⟨hx, hb, hml, hown, hts⟩ (cM_isPattern l D q cI cL u p3) (cwV 1 hts gX4_areKnown_X4_isPattern rfl rfl rfl (by decide +kernel) ⟨(Nat.le_of_ble_eq_true rfl), (Nat.le_of_ble_eq_true rfl)⟩) ⟨PM_blind, va_recv hK hP (ci := 7) (q0 := 0) rfl rfl, fun U hU hW => ⟨rfl, PM_fin hP hK hU hW⟩⟩ rfl rfl hl.1 rfl (lv_room (Nat.le_of_ble_eq_true rfl)) dX4_areKnown_68 ⟨(Nat.le_of_ble_eq_true rfl), (Nat.le_of_ble_eq_true rfl)⟩) (fun r_7 hr_7 => ?_)
          subst hr_7
          refine lv_if_eq (tgt := 78) hx hb dX4_areKnown_71 (by decide) (fun c_8 => ?_) (fun c_8 => ?_)
          · have hsp := hsp.trans (if_pos c_8)
            refine lv_iconst (v := 0) hx hb dX4_areKnown_78 (by decide) ?_
            exact W.zret (v := 0) hx hb hr rfl (fun t ht hW => ⟨0, rfl, hsp.symm, ht⟩) (fun _ h => nomatch h) dX4_areKnown_79
          · have hsp := hsp.trans (if_neg c_8)
            refine lv_iconst (v := 1) hx hb dX4_areKnown_74 (by decide) ?_
            refine lv_goto (tgt := 79) hx hb dX4_areKnown_75 (by decide) ?_
            exact W.zret (v := 1) hx hb hr rfl (fun t ht hW => ⟨1, rfl, hsp.symm, ht⟩) (fun _ h => nomatch h) dX4_areKnown_79
      · have hsp := hsp.trans (if_neg c_4)
        by_cases c_9 : p1 = 4
        · have hsp := hsp.trans (if_pos c_9)
          refine lv_tableIn (off := 51) (tgt := 52) hx hb dX4_areKnown_1 (by rw [c_9]; decide) (by rw [c_9]; decide) (by rw [c_9]; rfl) (by decide) ?_
          refine lv_aload_n hx hb dX4_areKnown_52 rfl (lv_at hl 0 rfl) ?_
          refine lv_iload_n hx hb dX4_areKnown_53 rfl (lv_at hl 3 rfl) ?_
          refine vp_callSi (W.runV (As := [.int p3]) (rest := []) ⟨hx, hb, hml, hown, hts⟩ (cM_isPattern l D q cI cL u p3) (cwV 1 hts gX4_areKnown_X4_isPattern rfl rfl rfl (by decide +kernel) ⟨(Nat.le_of_ble_eq_true rfl), (Nat.le_of_ble_eq_true rfl)⟩) ⟨PM_blind, va_recv hK hP (ci := 7) (q0 := 0) rfl rfl, fun U hU hW => ⟨rfl, PM_fin hP hK hU hW⟩⟩ rfl rfl hl.1 rfl (lv_room (Nat.le_of_ble_eq_true rfl)) dX4_areKnown_54 ⟨(Nat.le_of_ble_eq_true rfl), (Nat.le_of_ble_eq_true rfl)⟩) (fun r_10 hr_10 => ?_)
          subst hr_10
          exact W.zret (v := (sM_isPattern u p3)) hx hb hr (isB_n (bM_isPattern u p3)) (fun t ht hW => ⟨(sM_isPattern u p3), rfl, hsp.symm, ht⟩) (fun _ h => nomatch h) dX4_areKnown_57
        · have hsp := hsp.trans (if_neg c_9)
          by_cases c_11 : p1 = 5
          · have hsp := hsp.trans (if_pos c_11)
            refine lv_tableIn (off := 79) (tgt := 80) hx hb dX4_areKnown_1 (by rw [c_11]; decide) (by rw [c_11]; decide) (by rw [c_11]; rfl) (by decide) ?_
            refine lv_aload_n hx hb dX4_areKnown_80 rfl (lv_at hl 0 rfl) ?_
            refine lv_iload hx hb dX4_areKnown_81 (lv_at hl 4 rfl) ?_
            refine vp_callSi (W.runV (As := [.int p4]) (rest := []) ⟨hx, hb, hml, hown, hts⟩ (cM_isPattern l D q cI cL u p4) (cwV 1 hts gX4_areKnown_X4_isPattern rfl rfl rfl (by decide +kernel) ⟨(Nat.le_of_ble_eq_true rfl), (Nat.le_of_ble_eq_true rfl)⟩) ⟨PM_blind, va_recv hK hP (ci := 7) (q0 := 0) rfl rfl, fun U hU hW => ⟨rfl, PM_fin hP hK hU hW⟩⟩ rfl rfl hl.1 rfl (lv_room (Nat.le_of_ble_eq_true rfl)) dX4_areKnown_83 ⟨(Nat.le_of_ble_eq_true rfl), (Nat.le_of_ble_eq_true rfl)⟩) (fun r_12 hr_12 => ?_)
            subst hr_12
            exact W.zret (v := (sM_isPattern u p4)) hx hb hr (isB_n (bM_isPattern u p4)) (fun t ht hW => ⟨(sM_isPattern u p4), rfl, hsp.symm, ht⟩) (fun _ h => nomatch h) dX4_areKnown_86
          · have hsp := hsp.trans (if_neg c_11)
            by_cases c_13 : p1 = 6
            · have hsp := hsp.trans (if_pos c_13)
              refine lv_tableIn (off := 92) (tgt := 93) hx hb dX4_areKnown_1 (by rw [c_13]; decide) (by rw [c_13]; decide) (by rw [c_13]; rfl) (by decide) ?_
              refine lv_iconst (v := 1) hx hb dX4_areKnown_93 (by decide) ?_
              exact W.zret (v := 1) hx hb hr rfl (fun t ht hW => ⟨1, rfl, hsp.symm, ht⟩) (fun _ h => nomatch h) dX4_areKnown_94
            · have hsp := hsp.trans (if_neg c_13)
              by_cases c_14 : p1 = 7
              · have hsp := hsp.trans (if_pos c_14)
                refine lv_tableIn (off := 57) (tgt := 58) hx hb dX4_areKnown_1 (by rw [c_14]; decide) (by rw [c_14]; decide) (by rw [c_14]; rfl) (by decide) ?_
                refine lv_aload_n hx hb dX4_areKnown_58 rfl (lv_at hl 0 rfl) ?_
                refine lv_iload_n hx hb dX4_areKnown_59 rfl (lv_at hl 2 rfl) ?_
                refine vp_callSi (W.runV (As := [.int p2]) (rest := []) ⟨hx, hb, hml, hown, hts⟩ (cM_isPattern l D q cI cL u p2) (cwV 1 hts gX4_areKnown_X4_isPattern rfl rfl rfl (by decide +kernel) ⟨(Nat.le_of_ble_eq_true rfl), (Nat.le_of_ble_eq_true rfl)⟩) ⟨PM_blind, va_recv hK hP (ci := 7) (q0 := 0) rfl rfl, fun U hU hW => ⟨rfl, PM_fin hP hK hU hW⟩⟩ rfl rfl hl.1 rfl (lv_room (Nat.le_of_ble_eq_true rfl)) dX4_areKnown_60 ⟨(Nat.le_of_ble_eq_true rfl), (Nat.le_of_ble_eq_true rfl)⟩) (fun r_15 hr_15 => ?_)
                subst hr_15
                refine lv_if_eq (tgt := 78) hx hb dX4_areKnown_63 (by decide) (fun c_16 => ?_) (fun c_16 => ?_)
                · have hsp := hsp.trans (if_pos c_16)
                  refine lv_iconst (v := 0) hx hb dX4_areKnown_78 (by decide) ?_
                  exact W.zret (v := 0) hx hb hr rfl (fun t ht hW => ⟨0, rfl, hsp.symm, ht⟩) (fun _ h => nomatch h) dX4_areKnown_79
                · have hsp := hsp.trans (if_neg c_16)
                  refine lv_aload_n hx hb dX4_areKnown_66 rfl (lv_at hl 0 rfl) ?_
                  refine lv_iload_n hx hb dX4_areKnown_67 rfl (lv_at hl 3 rfl) ?_
                  refine vp_callSi (W.runV (As := [.int p3]) (rest := []) ⟨hx, hb, hml, hown, hts⟩ (cM_isPattern l D q cI cL u p3) (cwV 1 hts gX4_areKnown_X4_isPattern rfl rfl rfl (by decide +kernel) ⟨(Nat.le_of_ble_eq_true rfl), (Nat.le_of_ble_eq_true rfl)⟩) ⟨PM_blind, va_recv hK hP (ci := 7) (q0 := 0) rfl rfl, fun U hU hW => ⟨rfl, PM_fin hP hK hU hW⟩⟩ rfl rfl hl.1 rfl (lv_room (Nat.le_of_ble_eq_true rfl)) dX4_areKnown_68 ⟨(Nat.le_of_ble_eq_true rfl), (Nat.le_of_ble_eq_true rfl)⟩) (fun r_17 hr_17 => ?_)
                  subst hr_17
                  refine lv_if_eq (tgt := 78) hx hb dX4_areKnown_71 (by decide) (fun c_18 => ?_) (fun c_18 => ?_)
                  · have hsp := hsp.trans (if_pos c_18)
                    refine lv_iconst (v := 0) hx hb dX4_areKnown_78 (by decide) ?_
                    exact W.zret (v := 0) hx hb hr rfl (fun t ht hW => ⟨0, rfl, hsp.symm, ht⟩) (fun _ h => nomatch h) dX4_areKnown_79
                  · have hsp := hsp.trans (if_neg c_18)
                    refine lv_iconst (v := 1) hx hb dX4_areKnown_74 (by decide) ?_
                    refine lv_goto (tgt := 79) hx hb dX4_areKnown_75 (by decide) ?_
                    exact W.zret (v := 1) hx hb hr rfl (fun t ht hW => ⟨1, rfl, hsp.symm, ht⟩) (fun _ h => nomatch h) dX4_areKnown_79
              · have hsp := hsp.trans (if_neg c_14)
                by_cases c_19 : p1 = 8
                · have hsp := hsp.trans (if_pos c_19)
                  refine lv_tableIn (off := 57) (tgt := 58) hx hb dX4_areKnown_1 (by rw [c_19]; decide) (by rw [c_19]; decide) (by rw [c_19]; rfl) (by decide) ?_
                  refine lv_aload_n hx hb dX4_areKnown_58 rfl (lv_at hl 0 rfl) ?_
                  refine lv_iload_n hx hb dX4_areKnown_59 rfl (lv_at hl 2 rfl) ?_
                  refine vp_callSi (W.runV (As := [.int p2]) (rest := []) ⟨hx, hb, hml, hown, hts⟩ (cM_isPattern l D q cI cL u p2) (cwV 1 hts gX4_areKnown_X4_isPattern rfl rfl rfl (by decide +kernel) ⟨(Nat.le_of_ble_eq_true rfl), (Nat.le_of_ble_eq_true rfl)⟩) ⟨PM_blind, va_recv hK hP (ci := 7) (q0 := 0) rfl rfl, fun U hU hW => ⟨rfl, PM_fin hP hK hU hW⟩⟩ rfl rfl hl.1 rfl (lv_room (Nat.le_of_ble_eq_true rfl)) dX4_areKnown_60 ⟨(Nat.le_of_ble_eq_true rfl), (Nat.le_of_ble_eq_true rfl)⟩) (fun r_20 hr_20 => ?_)
                  subst hr_20
                  refine lv_if_eq (tgt := 78) hx hb dX4_areKnown_63 (by decide) (fun c_21 => ?_) (fun c_21 => ?_)
                  · have hsp := hsp.trans (if_pos c_21)
                    refine lv_iconst (v := 0) hx hb dX4_areKnown_78 (by decide) ?_
                    exact W.zret (v := 0) hx hb hr rfl (fun t ht hW => ⟨0, rfl, hsp.symm, ht⟩) (fun _ h => nomatch h) dX4_areKnown_79
                  · have hsp := hsp.trans (if_neg c_21)
                    refine lv_aload_n hx hb dX4_areKnown_66 rfl (lv_at hl 0 rfl) ?_
                    refine lv_iload_n hx hb dX4_areKnown_67 rfl (lv_at hl 3 rfl) ?_
                    refine vp_callSi (W.runV (As := [.int p3]) (rest := []) ⟨hx, hb, hml, hown, hts⟩ (cM_isPattern l D q cI cL u p3) (cwV 1 hts gX4_areKnown_X4_isPattern rfl rfl rfl (by decide +kernel) ⟨(Nat.le_of_ble_eq_true rfl), (Nat.le_of_ble_eq_true rfl)⟩) ⟨PM_blind, va_recv hK hP (ci := 7) (q0 := 0) rfl rfl, fun U hU hW => ⟨rfl, PM_fin hP hK hU hW⟩⟩ rfl rfl hl.1 rfl (lv_room (Nat.le_of_ble_eq_true rfl)) dX4_areKnown_68 ⟨(Nat.le_of_ble_eq_true rfl), (Nat.le_of_ble_eq_true rfl)⟩) (fun r_22 hr_22 => ?_)
                    subst hr_22
                    refine lv_if_eq (tgt := 78) hx hb dX4_areKnown_71 (by decide) (fun c_23 => ?_) (fun c_23 => ?_)
                    · have hsp := hsp.trans (if_pos c_23)
                      refine lv_iconst (v := 0) hx hb dX4_areKnown_78 (by decide) ?_
                      exact W.zret (v := 0) hx hb hr rfl (fun t ht hW => ⟨0, rfl, hsp.symm, ht⟩) (fun _ h => nomatch h) dX4_areKnown_79
                    · have hsp := hsp.trans (if_neg c_23)
                      refine lv_iconst (v := 1) hx hb dX4_areKnown_74 (by decide) ?_
                      refine lv_goto (tgt := 79) hx hb dX4_areKnown_75 (by decide) ?_
                      exact W.zret (v := 1) hx hb hr rfl (fun t ht hW => ⟨1, rfl, hsp.symm, ht⟩) (fun _ h => nomatch h) dX4_areKnown_79
                · have hsp := hsp.trans (if_neg c_19)
                  by_cases c_24 : p1 = 9
                  · have hsp := hsp.trans (if_pos c_24)
                    refine lv_tableIn (off := 86) (tgt := 87) hx hb dX4_areKnown_1 (by rw [c_24]; decide) (by rw [c_24]; decide) (by rw [c_24]; rfl) (by decide) ?_
                    refine lv_aload_n hx hb dX4_areKnown_87 rfl (lv_at hl 0 rfl) ?_
                    refine lv_iload_n hx hb dX4_areKnown_88 rfl (lv_at hl 2 rfl) ?_
                    refine vp_callSi (W.runV (As := [.int p2]) (rest := []) ⟨hx, hb, hml, hown, hts⟩ (cM_isPattern l D q cI cL u p2) (cwV 1 hts gX4_areKnown_X4_isPattern rfl rfl rfl (by decide +kernel) ⟨(Nat.le_of_ble_eq_true rfl), (Nat.le_of_ble_eq_true rfl)⟩) ⟨PM_blind, va_recv hK hP (ci := 7) (q0 := 0) rfl rfl, fun U hU hW => ⟨rfl, PM_fin hP hK hU hW⟩⟩ rfl rfl hl.1 rfl (lv_room (Nat.le_of_ble_eq_true rfl)) dX4_areKnown_89 ⟨(Nat.le_of_ble_eq_true rfl), (Nat.le_of_ble_eq_true rfl)⟩) (fun r_25 hr_25 => ?_)
                    subst hr_25
                    exact W.zret (v := (sM_isPattern u p2)) hx hb hr (isB_n (bM_isPattern u p2)) (fun t ht hW => ⟨(sM_isPattern u p2), rfl, hsp.symm, ht⟩) (fun _ h => nomatch h) dX4_areKnown_92
                  · have hsp := hsp.trans (if_neg c_24)
                    refine lv_tableOut (tgt := 93) hx hb dX4_areKnown_1 (by have e0 := lv_neT (a := 1) c_1 (by decide); have e1 := lv_neT (a := 2) c_3 (by decide); have e2 := lv_neT (a := 3) c_4 (by decide); have e3 := lv_neT (a := 4) c_9 (by decide); have e4 := lv_neT (a := 5) c_11 (by decide); have e5 := lv_neT (a := 6) c_13 (by decide); have e6 := lv_neT (a := 7) c_14 (by decide); have e7 := lv_neT (a := 8) c_19 (by decide); have e8 := lv_neT (a := 9) c_24 (by decide); omega) (by decide) ?_
                    refine lv_iconst (v := 1) hx hb dX4_areKnown_93 (by decide) ?_
                    exact W.zret (v := 1) hx hb hr rfl (fun t ht hW => ⟨1, rfl, hsp.symm, ht⟩) (fun _ h => nomatch h) dX4_areKnown_94
set_option maxHeartbeats 4000000 in
set_option maxRecDepth 100000 in
theorem cM_pattern (l : Launch) (D : va_G) (q : Nat → Nat) (cI cL : ClassId) (hq : DQ 22 q) (u : St) (p1 : Int32) (p2 : Int32) (p3 : Int32) (p4 : Int32) (hok : okM_pattern u p1 p2 p3 p4) : Met l yX4_pattern wsX4_pattern { frames := 3, cells := 0, slots := 0, locals := 67 } (va_Pc [.ref (q 0), .int p1, .int p2, .int p3, .int p4] (fun U => PM D q cI cL u U)) (va_Qi (fun (r : Int32) (u' : St) => (r, u') = sM_pattern u p1 p2 p3 p4) (fun u' t => PM D q cI cL u' t) (AQ 22 q)) 0 0 (AQ 22 q) := by
  refine Met.ofW (cc := cX4_pattern) (maxL := 5) (ret := (some .int)) (by decide) rfl ?_
  intro p e s m args below meth c s₁ B hml hv
  obtain ⟨rfl, hP, hK⟩ := hv
  have hx := B.exec
  have hb := B.bytes
  have hr := B.returns
  have hts := atoms_spec (ws := wsX4_pattern) B.pre
  have hown : s.vm.findClass RX4 = some m.cls := findClass_of_methodNamed B.named
  have hlocks := B.notSynchronized
  have hiX4 : ∀ w ∈ u_ws RX4 TX4 29, w ∈ wsX4_pattern := by decide +kernel
  have hf74 := hts (.fieldLink RX4 74 "ThingRulesModel" "thrown" "I") (by decide +kernel)
  have hf122 := hts (.fieldLink RX4 122 "ThingRulesModel" "patterns" "I") (by decide +kernel)
  have hf26 := hts (.fieldLink RX4 26 "ThingRulesModel" "sort" "[I") (by decide +kernel)
  have hf29 := hts (.fieldLink RX4 29 "ThingRulesModel" "numA" "[I") (by decide +kernel)
  have hf32 := hts (.fieldLink RX4 32 "ThingRulesModel" "numB" "[I") (by decide +kernel)
  have hf35 := hts (.fieldLink RX4 35 "ThingRulesModel" "numC" "[I") (by decide +kernel)
  have hS : va_S (AQ 22 q) s.heap s.heap [] := va_S.rf
  have hP : va_P D vwCl (wM q cI cL u) s.heap := hP
  have hl := lv_entry ([.ref (q 0), .int p1, .int p2, .int p3, .int p4]) (n := 5) (Nat.le_of_ble_eq_true rfl)
  rw [lg_entry_eq]
  generalize (lg_sl ([.ref (q 0), .int p1, .int p2, .int p3, .int p4]) ++ List.replicate (5 - (lg_sl ([.ref (q 0), .int p1, .int p2, .int p3, .int p4])).length) Slot.unset).toArray = ls at hl ⊢
  have hl : lv_has ls 5 [(0, .ref (q 0)), (1, .int p1), (2, .int p2), (3, .int p3), (4, .int p4)] := hl
  have hsp : sM_pattern u p1 p2 p3 p4 = _ := sM_pattern.eq_1 u p1 p2 p3 p4
  unfold okM_pattern at hok
  refine lv_aload_n hx hb dX4_pattern_0 rfl (lv_at hl 0 rfl) ?_
  refine lv_iconst (v := 0) hx hb dX4_pattern_1 (by decide) ?_
  refine va_put (D := D) (ci := 7) (v := .int 0) (ty := .int) (C := RX4) (T := TX4) (N := 29) hx hb hts hiX4 tyX4 tyX4_ok nmX4 hown hK hP (dM hq) hS 0 rfl rfl 0 (by decide) hf74 (fun _ h9 => h9) rfl (by decide +kernel) rfl rfl (Nat.le_of_ble_eq_true rfl) dX4_pattern_2 (fun H locs hP _ hS => ?_)
  obtain ⟨u1, hu1⟩ : ∃ z : St, z = (stI u 0 0) := ⟨_, rfl⟩
  have hP : va_P D vwCl (wM q cI cL u1) H := by rw [hu1]; exact hP
  have hsp := hsp.trans (bnd_eq hu1)
  have hok := bnd_ok hu1 hok
  refine lv_iload_n hx hb dX4_pattern_5 rfl (lv_at hl 1 rfl) ?_
  refine lv_iconst (v := 0) hx hb dX4_pattern_6 (by decide) ?_
  refine lv_bipush (v := 13) hx hb dX4_pattern_7 (by decide) ?_
  refine vp_callSi (W.runS (As := [.int p1, .int 0, .int 13]) (rest := []) ⟨hx, hb, hml, hown, hts⟩ (cM_in l p1 0 13) (va_cwS 3 hts gX4_pattern_X4_in rfl rfl rfl (by decide +kernel) ⟨(Nat.le_of_ble_eq_true rfl), (Nat.le_of_ble_eq_true rfl)⟩) ⟨T_blind, fun U hU hW => ⟨rfl, trivial⟩⟩ rfl rfl hl.1 rfl (lv_room (Nat.le_of_ble_eq_true rfl)) dX4_pattern_9 ⟨(Nat.le_of_ble_eq_true rfl), (Nat.le_of_ble_eq_true rfl)⟩) (fun r_1 hr_1 => ?_)
  subst hr_1
  refine lv_if_eq (tgt := 23) hx hb dX4_pattern_12 (by decide) (fun c_2 => ?_) (fun c_2 => ?_)
  · have hsp := hsp.trans (if_pos c_2)
    refine lv_bipush (v := (-2)) hx hb dX4_pattern_23 (by decide) ?_
    exact W.iret (v := (-2)) hx hb hr (fun t ht hW => ⟨⟨(-2), u1, rfl, hsp.symm, PM_fin hP hK ht hW⟩, hS.F ht⟩) hS.2.2 dX4_pattern_25
  · have hsp := hsp.trans (if_neg c_2)
    have hok := hok.2 c_2
    refine lv_iload_n hx hb dX4_pattern_15 rfl (lv_at hl 1 rfl) ?_
    refine lv_iload_n hx hb dX4_pattern_16 rfl (lv_at hl 2 rfl) ?_
    refine vp_callSi (W.runS (As := [.int p1, .int p2]) (rest := []) ⟨hx, hb, hml, hown, hts⟩ (cM_isWell l p1 p2) (va_cwS 2 hts gX4_pattern_X4_isWell rfl rfl rfl (by decide +kernel) ⟨(Nat.le_of_ble_eq_true rfl), (Nat.le_of_ble_eq_true rfl)⟩) ⟨T_blind, fun U hU hW => ⟨rfl, trivial⟩⟩ rfl rfl hl.1 rfl (lv_room (Nat.le_of_ble_eq_true rfl)) dX4_pattern_17 ⟨(Nat.le_of_ble_eq_true rfl), (Nat.le_of_ble_eq_true rfl)⟩) (fun r_3 hr_3 => ?_)
    subst hr_3
    refine lv_if_ne (tgt := 26) hx hb dX4_pattern_20 (by decide) (fun c_4 => ?_) (fun c_4 => ?_)
    · have hsp := hsp.trans (if_neg c_4)
      have hok := hok.2 c_4
      refine lv_aload_n hx hb dX4_pattern_26 rfl (lv_at hl 0 rfl) ?_
      refine lv_iload_n hx hb dX4_pattern_27 rfl (lv_at hl 1 rfl) ?_
      refine lv_iload_n hx hb dX4_pattern_28 rfl (lv_at hl 2 rfl) ?_
      refine lv_iload_n hx hb dX4_pattern_29 rfl (lv_at hl 3 rfl) ?_
      refine lv_iload hx hb dX4_pattern_30 (lv_at hl 4 rfl) ?_
      refine vp_callSi (W.runV (As := [.int p1, .int p2, .int p3, .int p4]) (rest := []) ⟨hx, hb, hml, hown, hts⟩ (cM_areKnown l D q cI cL u1 p1 p2 p3 p4) (cwV 4 hts gX4_pattern_X4_areKnown rfl rfl rfl (by decide +kernel) ⟨(Nat.le_of_ble_eq_true rfl), (Nat.le_of_ble_eq_true rfl)⟩) ⟨PM_blind, va_recv hK hP (ci := 7) (q0 := 0) rfl rfl, fun U hU hW => ⟨rfl, PM_fin hP hK hU hW⟩⟩ rfl rfl hl.1 rfl (lv_room (Nat.le_of_ble_eq_true rfl)) dX4_pattern_32 ⟨(Nat.le_of_ble_eq_true rfl), (Nat.le_of_ble_eq_true rfl)⟩) (fun r_5 hr_5 => ?_)
      subst hr_5
      refine lv_if_ne (tgt := 40) hx hb dX4_pattern_35 (by decide) (fun c_6 => ?_) (fun c_6 => ?_)
      · have hsp := hsp.trans (if_neg c_6)
        have hok := hok.2 c_6
        refine lv_aload_n hx hb dX4_pattern_40 rfl (lv_at hl 0 rfl) ?_
        refine va_get (D := D) (ci := 7) (v := .int (u1.1 2)) (C := RX4) (T := TX4) (N := 29) hx hb hts hiX4 hown hK hP 0 rfl rfl 7 (by decide) hf122 (fun _ h9 => h9) rfl dX4_pattern_41 ?_
        refine lv_bipush (v := 40) hx hb dX4_pattern_44 (by decide) ?_
        refine lv_icmp_ne (tgt := 52) hx hb dX4_pattern_46 (by decide) (fun c_7 => ?_) (fun c_7 => ?_)
        · have hsp := hsp.trans (if_neg c_7)
          have hok := hok.2 c_7
          refine lv_aload_n hx hb dX4_pattern_52 rfl (lv_at hl 0 rfl) ?_
          refine va_get (D := D) (ci := 7) (v := .ref (q 6)) (C := RX4) (T := TX4) (N := 29) hx hb hts hiX4 hown hK hP 0 rfl rfl 8 (by decide) hf26 (fun _ h9 => h9) rfl dX4_pattern_53 ?_
          refine lv_aload_n hx hb dX4_pattern_56 rfl (lv_at hl 0 rfl) ?_
          refine va_get (D := D) (ci := 7) (v := .int (u1.1 2)) (C := RX4) (T := TX4) (N := 29) hx hb hts hiX4 hown hK hP 0 rfl rfl 7 (by decide) hf122 (fun _ h9 => h9) rfl dX4_pattern_57 ?_
          refine lv_iload_n hx hb dX4_pattern_60 rfl (lv_at hl 1 rfl) ?_
          have h_8 := hok.1
          have hok := hok.2
          refine va_iast hx hb hK hP (dM hq) hS 6 0 rfl rfl h_8 dX4_pattern_61 (fun H locs hP _ hS => ?_)
          obtain ⟨u2, hu2⟩ : ∃ z : St, z = (stA u1 6 (u1.1 2).toNatClampNeg p1) := ⟨_, rfl⟩
          have hP : va_P D vwCl (wM q cI cL u2) H := by rw [hu2]; exact hP
          have hsp := hsp.trans (bnd_eq hu2)
          have hok := bnd_ok hu2 hok
          refine lv_aload_n hx hb dX4_pattern_62 rfl (lv_at hl 0 rfl) ?_
          refine va_get (D := D) (ci := 7) (v := .ref (q 7)) (C := RX4) (T := TX4) (N := 29) hx hb hts hiX4 hown hK hP 0 rfl rfl 9 (by decide) hf29 (fun _ h9 => h9) rfl dX4_pattern_63 ?_
          refine lv_aload_n hx hb dX4_pattern_66 rfl (lv_at hl 0 rfl) ?_
          refine va_get (D := D) (ci := 7) (v := .int (u2.1 2)) (C := RX4) (T := TX4) (N := 29) hx hb hts hiX4 hown hK hP 0 rfl rfl 7 (by decide) hf122 (fun _ h9 => h9) rfl dX4_pattern_67 ?_
          refine lv_iload_n hx hb dX4_pattern_70 rfl (lv_at hl 2 rfl) ?_
          have h_9 := hok.1
          have hok := hok.2
          refine va_iast hx hb hK hP (dM hq) hS 7 0 rfl rfl h_9 dX4_pattern_71 (fun H locs hP _ hS => ?_)
          obtain ⟨u3, hu3⟩ : ∃ z : St, z = (stA u2 7 (u2.1 2).toNatClampNeg p2) := ⟨_, rfl⟩
          have hP : va_P D vwCl (wM q cI cL u3) H := by rw [hu3]; exact hP
          have hsp := hsp.trans (bnd_eq hu3)
          have hok := bnd_ok hu3 hok
          refine lv_aload_n hx hb dX4_pattern_72 rfl (lv_at hl 0 rfl) ?_
          refine va_get (D := D) (ci := 7) (v := .ref (q 8)) (C := RX4) (T := TX4) (N := 29) hx hb hts hiX4 hown hK hP 0 rfl rfl 10 (by decide) hf32 (fun _ h9 => h9) rfl dX4_pattern_73 ?_
          refine lv_aload_n hx hb dX4_pattern_76 rfl (lv_at hl 0 rfl) ?_
          refine va_get (D := D) (ci := 7) (v := .int (u3.1 2)) (C := RX4) (T := TX4) (N := 29) hx hb hts hiX4 hown hK hP 0 rfl rfl 7 (by decide) hf122 (fun _ h9 => h9) rfl dX4_pattern_77 ?_
          refine lv_iload_n hx hb dX4_pattern_80 rfl (lv_at hl 3 rfl) ?_
          have h_10 := hok.1
          have hok := hok.2
          refine va_iast hx hb hK hP (dM hq) hS 8 0 rfl rfl h_10 dX4_pattern_81 (fun H locs hP _ hS => ?_)
          obtain ⟨u4, hu4⟩ : ∃ z : St, z = (stA u3 8 (u3.1 2).toNatClampNeg p3) := ⟨_, rfl⟩
          have hP : va_P D vwCl (wM q cI cL u4) H := by rw [hu4]; exact hP
          have hsp := hsp.trans (bnd_eq hu4)
          have hok := bnd_ok hu4 hok
          refine lv_aload_n hx hb dX4_pattern_82 rfl (lv_at hl 0 rfl) ?_
          refine va_get (D := D) (ci := 7) (v := .ref (q 9)) (C := RX4) (T := TX4) (N := 29) hx hb hts hiX4 hown hK hP 0 rfl rfl 11 (by decide) hf35 (fun _ h9 => h9) rfl dX4_pattern_83 ?_
          refine lv_aload_n hx hb dX4_pattern_86 rfl (lv_at hl 0 rfl) ?_
          refine va_get (D := D) (ci := 7) (v := .int (u4.1 2)) (C := RX4) (T := TX4) (N := 29) hx hb hts hiX4 hown hK hP 0 rfl rfl 7 (by decide) hf122 (fun _ h9 => h9) rfl dX4_pattern_87 ?_
          refine lv_iload hx hb dX4_pattern_90 (lv_at hl 4 rfl) ?_
          have h_11 := hok.1
          have hok := hok.2
          refine va_iast hx hb hK hP (dM hq) hS 9 0 rfl rfl h_11 dX4_pattern_92 (fun H locs hP _ hS => ?_)
          obtain ⟨u5, hu5⟩ : ∃ z : St, z = (stA u4 9 (u4.1 2).toNatClampNeg p4) := ⟨_, rfl⟩
          have hP : va_P D vwCl (wM q cI cL u5) H := by rw [hu5]; exact hP
          have hsp := hsp.trans (bnd_eq hu5)
          refine lv_aload_n hx hb dX4_pattern_93 rfl (lv_at hl 0 rfl) ?_
          refine lv_dup hx hb dX4_pattern_94 rfl ?_
          refine va_get (D := D) (ci := 7) (v := .int (u5.1 2)) (C := RX4) (T := TX4) (N := 29) hx hb hts hiX4 hown hK hP 0 rfl rfl 7 (by decide) hf122 (fun _ h9 => h9) rfl dX4_pattern_95 ?_
          refine lv_iconst (v := 1) hx hb dX4_pattern_98 (by decide) ?_
          refine lv_iadd hx hb dX4_pattern_99 ?_
          refine va_put (D := D) (ci := 7) (v := .int ((u5.1 2) + 1)) (ty := .int) (C := RX4) (T := TX4) (N := 29) hx hb hts hiX4 tyX4 tyX4_ok nmX4 hown hK hP (dM hq) hS 0 rfl rfl 7 (by decide) hf122 (fun _ h9 => h9) rfl (by decide +kernel) rfl rfl (Nat.le_of_ble_eq_true rfl) dX4_pattern_100 (fun H locs hP _ hS => ?_)
          obtain ⟨u6, hu6⟩ : ∃ z : St, z = (stI u5 2 ((u5.1 2) + 1)) := ⟨_, rfl⟩
          have hP : va_P D vwCl (wM q cI cL u6) H := by rw [hu6]; exact hP
          have hsp := hsp.trans (bnd_eq hu6)
          refine lv_aload_n hx hb dX4_pattern_103 rfl (lv_at hl 0 rfl) ?_
          refine va_get (D := D) (ci := 7) (v := .int (u6.1 2)) (C := RX4) (T := TX4) (N := 29) hx hb hts hiX4 hown hK hP 0 rfl rfl 7 (by decide) hf122 (fun _ h9 => h9) rfl dX4_pattern_104 ?_
          refine lv_iconst (v := 1) hx hb dX4_pattern_107 (by decide) ?_
          refine lv_isub hx hb dX4_pattern_108 ?_
          exact W.iret (v := ((u6.1 2) - 1)) hx hb hr (fun t ht hW => ⟨⟨((u6.1 2) - 1), u6, rfl, hsp.symm, PM_fin hP hK ht hW⟩, hS.F ht⟩) hS.2.2 dX4_pattern_109
        · have hsp := hsp.trans (if_pos c_7)
          refine lv_bipush (v := (-4)) hx hb dX4_pattern_49 (by decide) ?_
          exact W.iret (v := (-4)) hx hb hr (fun t ht hW => ⟨⟨(-4), u1, rfl, hsp.symm, PM_fin hP hK ht hW⟩, hS.F ht⟩) hS.2.2 dX4_pattern_51
      · have hsp := hsp.trans (if_pos c_6)
        refine lv_iconst (v := (-1)) hx hb dX4_pattern_38 (by decide) ?_
        exact W.iret (v := (-1)) hx hb hr (fun t ht hW => ⟨⟨(-1), u1, rfl, hsp.symm, PM_fin hP hK ht hW⟩, hS.F ht⟩) hS.2.2 dX4_pattern_39
    · have hsp := hsp.trans (if_pos c_4)
      refine lv_bipush (v := (-2)) hx hb dX4_pattern_23 (by decide) ?_
      exact W.iret (v := (-2)) hx hb hr (fun t ht hW => ⟨⟨(-2), u1, rfl, hsp.symm, PM_fin hP hK ht hW⟩, hS.F ht⟩) hS.2.2 dX4_pattern_25
set_option maxHeartbeats 4000000 in
set_option maxRecDepth 100000 in
theorem cM_look (l : Launch) (D : va_G) (q : Nat → Nat) (cI cL : ClassId) (hq : DQ 22 q) (u : St) (p1 : Int32) (p2 : Int32) (hok : okM_look u p1 p2) : Met l yX4_look wsX4_look { frames := 0, cells := 0, slots := 0, locals := 0 } (va_Pc [.ref (q 0), .int p1, .int p2] (fun U => PM D q cI cL u U)) (va_Qv (fun u' : St => u' = sM_look u p1 p2) (fun u' t => PM D q cI cL u' t) (AQ 22 q)) 0 0 (AQ 22 q) := by
  refine Met.ofW (cc := cX4_look) (maxL := 3) (ret := none) (by decide) rfl ?_
  intro p e s m args below meth c s₁ B hml hv
  obtain ⟨rfl, hP, hK⟩ := hv
  have hx := B.exec
  have hb := B.bytes
  have hr := B.returns
  have hts := atoms_spec (ws := wsX4_look) B.pre
  have hown : s.vm.findClass RX4 = some m.cls := findClass_of_methodNamed B.named
  have hlocks := B.notSynchronized
  have hiX4 : ∀ w ∈ u_ws RX4 TX4 29, w ∈ wsX4_look := by decide +kernel
  have hf135 := hts (.fieldLink RX4 135 "ThingRulesModel" "finding" "I") (by decide +kernel)
  have hf138 := hts (.fieldLink RX4 138 "ThingRulesModel" "steps" "I") (by decide +kernel)
  have hf65 := hts (.fieldLink RX4 65 "ThingRulesModel" "lookP" "[I") (by decide +kernel)
  have hf141 := hts (.fieldLink RX4 141 "ThingRulesModel" "looking" "I") (by decide +kernel)
  have hf68 := hts (.fieldLink RX4 68 "ThingRulesModel" "lookT" "[I") (by decide +kernel)
  have hf71 := hts (.fieldLink RX4 71 "ThingRulesModel" "lookS" "[I") (by decide +kernel)
  have hS : va_S (AQ 22 q) s.heap s.heap [] := va_S.rf
  have hP : va_P D vwCl (wM q cI cL u) s.heap := hP
  have hl := lv_entry ([.ref (q 0), .int p1, .int p2]) (n := 3) (Nat.le_of_ble_eq_true rfl)
  rw [lg_entry_eq]
  generalize (lg_sl ([.ref (q 0), .int p1, .int p2]) ++ List.replicate (3 - (lg_sl ([.ref (q 0), .int p1, .int p2])).length) Slot.unset).toArray = ls at hl ⊢
  have hl : lv_has ls 3 [(0, .ref (q 0)), (1, .int p1), (2, .int p2)] := hl
  have hsp : sM_look u p1 p2 = _ := sM_look.eq_1 u p1 p2
  unfold okM_look at hok
  refine lv_aload_n hx hb dX4_look_0 rfl (lv_at hl 0 rfl) ?_
  refine va_get (D := D) (ci := 7) (v := .int (u.1 6)) (C := RX4) (T := TX4) (N := 29) hx hb hts hiX4 hown hK hP 0 rfl rfl 27 (by decide) hf135 (fun _ h9 => h9) rfl dX4_look_1 ?_
  refine lv_if_eq (tgt := 8) hx hb dX4_look_4 (by decide) (fun c_1 => ?_) (fun c_1 => ?_)
  · have hsp := hsp.trans (if_pos c_1)
    have hok := hok.1 c_1
    refine lv_aload_n hx hb dX4_look_8 rfl (lv_at hl 0 rfl) ?_
    refine va_get (D := D) (ci := 7) (v := .int (u.1 4)) (C := RX4) (T := TX4) (N := 29) hx hb hts hiX4 hown hK hP 0 rfl rfl 22 (by decide) hf138 (fun _ h9 => h9) rfl dX4_look_9 ?_
    refine lv_sipush (v := 300) hx hb dX4_look_12 (by decide) ?_
    refine lv_icmp_ne (tgt := 25) hx hb dX4_look_15 (by decide) (fun c_2 => ?_) (fun c_2 => ?_)
    · have hsp := hsp.trans (if_neg c_2)
      have hok := hok.2 c_2
      refine lv_aload_n hx hb dX4_look_25 rfl (lv_at hl 0 rfl) ?_
      refine lv_dup hx hb dX4_look_26 rfl ?_
      refine va_get (D := D) (ci := 7) (v := .int (u.1 4)) (C := RX4) (T := TX4) (N := 29) hx hb hts hiX4 hown hK hP 0 rfl rfl 22 (by decide) hf138 (fun _ h9 => h9) rfl dX4_look_27 ?_
      refine lv_iconst (v := 1) hx hb dX4_look_30 (by decide) ?_
      refine lv_iadd hx hb dX4_look_31 ?_
      refine va_put (D := D) (ci := 7) (v := .int ((u.1 4) + 1)) (ty := .int) (C := RX4) (T := TX4) (N := 29) hx hb hts hiX4 tyX4 tyX4_ok nmX4 hown hK hP (dM hq) hS 0 rfl rfl 22 (by decide) hf138 (fun _ h9 => h9) rfl (by decide +kernel) rfl rfl (Nat.le_of_ble_eq_true rfl) dX4_look_32 (fun H locs hP _ hS => ?_)
      obtain ⟨u1, hu1⟩ : ∃ z : St, z = (stI u 4 ((u.1 4) + 1)) := ⟨_, rfl⟩
      have hP : va_P D vwCl (wM q cI cL u1) H := by rw [hu1]; exact hP
      have hsp := hsp.trans (bnd_eq hu1)
      have hok := bnd_ok hu1 hok
      refine lv_aload_n hx hb dX4_look_35 rfl (lv_at hl 0 rfl) ?_
      refine va_get (D := D) (ci := 7) (v := .ref (q 19)) (C := RX4) (T := TX4) (N := 29) hx hb hts hiX4 hown hK hP 0 rfl rfl 23 (by decide) hf65 (fun _ h9 => h9) rfl dX4_look_36 ?_
      refine lv_aload_n hx hb dX4_look_39 rfl (lv_at hl 0 rfl) ?_
      refine va_get (D := D) (ci := 7) (v := .int (u1.1 5)) (C := RX4) (T := TX4) (N := 29) hx hb hts hiX4 hown hK hP 0 rfl rfl 26 (by decide) hf141 (fun _ h9 => h9) rfl dX4_look_40 ?_
      refine lv_iload_n hx hb dX4_look_43 rfl (lv_at hl 1 rfl) ?_
      have h_3 := hok.1
      have hok := hok.2
      refine va_iast hx hb hK hP (dM hq) hS 19 0 rfl rfl h_3 dX4_look_44 (fun H locs hP _ hS => ?_)
      obtain ⟨u2, hu2⟩ : ∃ z : St, z = (stA u1 19 (u1.1 5).toNatClampNeg p1) := ⟨_, rfl⟩
      have hP : va_P D vwCl (wM q cI cL u2) H := by rw [hu2]; exact hP
      have hsp := hsp.trans (bnd_eq hu2)
      have hok := bnd_ok hu2 hok
      refine lv_aload_n hx hb dX4_look_45 rfl (lv_at hl 0 rfl) ?_
      refine va_get (D := D) (ci := 7) (v := .ref (q 20)) (C := RX4) (T := TX4) (N := 29) hx hb hts hiX4 hown hK hP 0 rfl rfl 24 (by decide) hf68 (fun _ h9 => h9) rfl dX4_look_46 ?_
      refine lv_aload_n hx hb dX4_look_49 rfl (lv_at hl 0 rfl) ?_
      refine va_get (D := D) (ci := 7) (v := .int (u2.1 5)) (C := RX4) (T := TX4) (N := 29) hx hb hts hiX4 hown hK hP 0 rfl rfl 26 (by decide) hf141 (fun _ h9 => h9) rfl dX4_look_50 ?_
      refine lv_iload_n hx hb dX4_look_53 rfl (lv_at hl 2 rfl) ?_
      have h_4 := hok.1
      have hok := hok.2
      refine va_iast hx hb hK hP (dM hq) hS 20 0 rfl rfl h_4 dX4_look_54 (fun H locs hP _ hS => ?_)
      obtain ⟨u3, hu3⟩ : ∃ z : St, z = (stA u2 20 (u2.1 5).toNatClampNeg p2) := ⟨_, rfl⟩
      have hP : va_P D vwCl (wM q cI cL u3) H := by rw [hu3]; exact hP
      have hsp := hsp.trans (bnd_eq hu3)
      have hok := bnd_ok hu3 hok
      refine lv_aload_n hx hb dX4_look_55 rfl (lv_at hl 0 rfl) ?_
      refine va_get (D := D) (ci := 7) (v := .ref (q 21)) (C := RX4) (T := TX4) (N := 29) hx hb hts hiX4 hown hK hP 0 rfl rfl 25 (by decide) hf71 (fun _ h9 => h9) rfl dX4_look_56 ?_
      refine lv_aload_n hx hb dX4_look_59 rfl (lv_at hl 0 rfl) ?_
      refine va_get (D := D) (ci := 7) (v := .int (u3.1 5)) (C := RX4) (T := TX4) (N := 29) hx hb hts hiX4 hown hK hP 0 rfl rfl 26 (by decide) hf141 (fun _ h9 => h9) rfl dX4_look_60 ?_
      refine lv_iconst (v := 0) hx hb dX4_look_63 (by decide) ?_
      have h_5 := hok.1
      have hok := hok.2
      refine va_iast hx hb hK hP (dM hq) hS 21 0 rfl rfl h_5 dX4_look_64 (fun H locs hP _ hS => ?_)
      obtain ⟨u4, hu4⟩ : ∃ z : St, z = (stA u3 21 (u3.1 5).toNatClampNeg 0) := ⟨_, rfl⟩
      have hP : va_P D vwCl (wM q cI cL u4) H := by rw [hu4]; exact hP
      have hsp := hsp.trans (bnd_eq hu4)
      refine lv_aload_n hx hb dX4_look_65 rfl (lv_at hl 0 rfl) ?_
      refine lv_dup hx hb dX4_look_66 rfl ?_
      refine va_get (D := D) (ci := 7) (v := .int (u4.1 5)) (C := RX4) (T := TX4) (N := 29) hx hb hts hiX4 hown hK hP 0 rfl rfl 26 (by decide) hf141 (fun _ h9 => h9) rfl dX4_look_67 ?_
      refine lv_iconst (v := 1) hx hb dX4_look_70 (by decide) ?_
      refine lv_iadd hx hb dX4_look_71 ?_
      refine va_put (D := D) (ci := 7) (v := .int ((u4.1 5) + 1)) (ty := .int) (C := RX4) (T := TX4) (N := 29) hx hb hts hiX4 tyX4 tyX4_ok nmX4 hown hK hP (dM hq) hS 0 rfl rfl 26 (by decide) hf141 (fun _ h9 => h9) rfl (by decide +kernel) rfl rfl (Nat.le_of_ble_eq_true rfl) dX4_look_72 (fun H locs hP _ hS => ?_)
      obtain ⟨u5, hu5⟩ : ∃ z : St, z = (stI u4 5 ((u4.1 5) + 1)) := ⟨_, rfl⟩
      have hP : va_P D vwCl (wM q cI cL u5) H := by rw [hu5]; exact hP
      have hsp := hsp.trans (bnd_eq hu5)
      exact W.vret hx hb hr (fun t ht hW => ⟨⟨u5, rfl, hsp.symm, PM_fin hP hK ht hW⟩, hS.F ht⟩) hS.2.2 dX4_look_75
    · have hsp := hsp.trans (if_pos c_2)
      refine lv_aload_n hx hb dX4_look_18 rfl (lv_at hl 0 rfl) ?_
      refine lv_bipush (v := (-26)) hx hb dX4_look_19 (by decide) ?_
      refine va_put (D := D) (ci := 7) (v := .int (-26)) (ty := .int) (C := RX4) (T := TX4) (N := 29) hx hb hts hiX4 tyX4 tyX4_ok nmX4 hown hK hP (dM hq) hS 0 rfl rfl 27 (by decide) hf135 (fun _ h9 => h9) rfl (by decide +kernel) rfl rfl (Nat.le_of_ble_eq_true rfl) dX4_look_21 (fun H locs hP _ hS => ?_)
      obtain ⟨u6, hu6⟩ : ∃ z : St, z = (stI u 6 (-26)) := ⟨_, rfl⟩
      have hP : va_P D vwCl (wM q cI cL u6) H := by rw [hu6]; exact hP
      have hsp := hsp.trans (bnd_eq hu6)
      exact W.vret hx hb hr (fun t ht hW => ⟨⟨u6, rfl, hsp.symm, PM_fin hP hK ht hW⟩, hS.F ht⟩) hS.2.2 dX4_look_24
  · have hsp := hsp.trans (if_neg c_1)
    exact W.vret hx hb hr (fun t ht hW => ⟨⟨u, rfl, hsp.symm, PM_fin hP hK ht hW⟩, hS.F ht⟩) hS.2.2 dX4_look_7
set_option maxHeartbeats 4000000 in
set_option maxRecDepth 100000 in
theorem cM_ends (l : Launch) (D : va_G) (q : Nat → Nat) (cI cL : ClassId) (hq : DQ 22 q) (u : St) (p1 : Int32) (hok : okM_ends u p1) : Met l yX4_ends wsX4_ends { frames := 0, cells := 0, slots := 0, locals := 0 } (va_Pc [.ref (q 0), .int p1] (fun U => PM D q cI cL u U)) (va_Qv (fun u' : St => u' = sM_ends u p1) (fun u' t => PM D q cI cL u' t) (AQ 22 q)) 0 0 (AQ 22 q) := by
  refine Met.ofW (cc := cX4_ends) (maxL := 2) (ret := none) (by decide) rfl ?_
  intro p e s m args below meth c s₁ B hml hv
  obtain ⟨rfl, hP, hK⟩ := hv
  have hx := B.exec
  have hb := B.bytes
  have hr := B.returns
  have hts := atoms_spec (ws := wsX4_ends) B.pre
  have hown : s.vm.findClass RX4 = some m.cls := findClass_of_methodNamed B.named
  have hlocks := B.notSynchronized
  have hiX4 : ∀ w ∈ u_ws RX4 TX4 29, w ∈ wsX4_ends := by decide +kernel
  have hf144 := hts (.fieldLink RX4 144 "ThingRulesModel" "fits" "Z") (by decide +kernel)
  have hf141 := hts (.fieldLink RX4 141 "ThingRulesModel" "looking" "I") (by decide +kernel)
  have hS : va_S (AQ 22 q) s.heap s.heap [] := va_S.rf
  have hP : va_P D vwCl (wM q cI cL u) s.heap := hP
  have hl := lv_entry ([.ref (q 0), .int p1]) (n := 2) (Nat.le_of_ble_eq_true rfl)
  rw [lg_entry_eq]
  generalize (lg_sl ([.ref (q 0), .int p1]) ++ List.replicate (2 - (lg_sl ([.ref (q 0), .int p1])).length) Slot.unset).toArray = ls at hl ⊢
  have hl : lv_has ls 2 [(0, .ref (q 0)), (1, .int p1)] := hl
  have hsp : sM_ends u p1 = _ := sM_ends.eq_1 u p1
  unfold okM_ends at hok
  refine lv_aload_n hx hb dX4_ends_0 rfl (lv_at hl 0 rfl) ?_
  refine lv_iload_n hx hb dX4_ends_1 rfl (lv_at hl 1 rfl) ?_
  have h_1 := hok.1
  have hok := hok.2
  refine va_put (D := D) (ci := 7) (v := .int p1) (ty := .boolean) (C := RX4) (T := TX4) (N := 29) hx hb hts hiX4 tyX4 tyX4_ok nmX4 hown hK hP (dM hq) hS 0 rfl rfl 28 (by decide) hf144 (fun _ h9 => h9) rfl (by decide +kernel) (isB_n h_1) (isB_f h_1) (Nat.le_of_ble_eq_true rfl) dX4_ends_2 (fun H locs hP _ hS => ?_)
  obtain ⟨u1, hu1⟩ : ∃ z : St, z = (stI u 7 p1) := ⟨_, rfl⟩
  have hP : va_P D vwCl (wM q cI cL u1) H := by rw [hu1]; exact hP
  have hsp := hsp.trans (bnd_eq hu1)
  refine lv_aload_n hx hb dX4_ends_5 rfl (lv_at hl 0 rfl) ?_
  refine lv_dup hx hb dX4_ends_6 rfl ?_
  refine va_get (D := D) (ci := 7) (v := .int (u1.1 5)) (C := RX4) (T := TX4) (N := 29) hx hb hts hiX4 hown hK hP 0 rfl rfl 26 (by decide) hf141 (fun _ h9 => h9) rfl dX4_ends_7 ?_
  refine lv_iconst (v := 1) hx hb dX4_ends_10 (by decide) ?_
  refine lv_isub hx hb dX4_ends_11 ?_
  refine va_put (D := D) (ci := 7) (v := .int ((u1.1 5) - 1)) (ty := .int) (C := RX4) (T := TX4) (N := 29) hx hb hts hiX4 tyX4 tyX4_ok nmX4 hown hK hP (dM hq) hS 0 rfl rfl 26 (by decide) hf141 (fun _ h9 => h9) rfl (by decide +kernel) rfl rfl (Nat.le_of_ble_eq_true rfl) dX4_ends_12 (fun H locs hP _ hS => ?_)
  obtain ⟨u2, hu2⟩ : ∃ z : St, z = (stI u1 5 ((u1.1 5) - 1)) := ⟨_, rfl⟩
  have hP : va_P D vwCl (wM q cI cL u2) H := by rw [hu2]; exact hP
  have hsp := hsp.trans (bnd_eq hu2)
  exact W.vret hx hb hr (fun t ht hW => ⟨⟨u2, rfl, hsp.symm, PM_fin hP hK ht hW⟩, hS.F ht⟩) hS.2.2 dX4_ends_15
set_option maxHeartbeats 4000000 in
set_option maxRecDepth 100000 in
theorem cM_asks (l : Launch) (D : va_G) (q : Nat → Nat) (cI cL : ClassId) (hq : DQ 22 q) (u : St) (p1 : Int32) (p2 : Int32) (p3 : Int32) (hok : okM_asks u p1 p2 p3) : Met l yX4_asks wsX4_asks { frames := 1, cells := 0, slots := 0, locals := 22 } (va_Pc [.ref (q 0), .int p1, .int p2, .int p3] (fun U => PM D q cI cL u U)) (va_Qv (fun u' : St => u' = sM_asks u p1 p2 p3) (fun u' t => PM D q cI cL u' t) (AQ 22 q)) 0 0 (AQ 22 q) := by
  refine Met.ofW (cc := cX4_asks) (maxL := 4) (ret := none) (by decide) rfl ?_
  intro p e s m args below meth c s₁ B hml hv
  obtain ⟨rfl, hP, hK⟩ := hv
  have hx := B.exec
  have hb := B.bytes
  have hr := B.returns
  have hts := atoms_spec (ws := wsX4_asks) B.pre
  have hown : s.vm.findClass RX4 = some m.cls := findClass_of_methodNamed B.named
  have hlocks := B.notSynchronized
  have hiX4 : ∀ w ∈ u_ws RX4 TX4 29, w ∈ wsX4_asks := by decide +kernel
  have hf71 := hts (.fieldLink RX4 71 "ThingRulesModel" "lookS" "[I") (by decide +kernel)
  have hf141 := hts (.fieldLink RX4 141 "ThingRulesModel" "looking" "I") (by decide +kernel)
  have hS : va_S (AQ 22 q) s.heap s.heap [] := va_S.rf
  have hP : va_P D vwCl (wM q cI cL u) s.heap := hP
  have hl := lv_entry ([.ref (q 0), .int p1, .int p2, .int p3]) (n := 4) (Nat.le_of_ble_eq_true rfl)
  rw [lg_entry_eq]
  generalize (lg_sl ([.ref (q 0), .int p1, .int p2, .int p3]) ++ List.replicate (4 - (lg_sl ([.ref (q 0), .int p1, .int p2, .int p3])).length) Slot.unset).toArray = ls at hl ⊢
  have hl : lv_has ls 4 [(0, .ref (q 0)), (1, .int p1), (2, .int p2), (3, .int p3)] := hl
  have hsp : sM_asks u p1 p2 p3 = _ := sM_asks.eq_1 u p1 p2 p3
  unfold okM_asks at hok
  refine lv_aload_n hx hb dX4_asks_0 rfl (lv_at hl 0 rfl) ?_
  refine va_get (D := D) (ci := 7) (v := .ref (q 21)) (C := RX4) (T := TX4) (N := 29) hx hb hts hiX4 hown hK hP 0 rfl rfl 25 (by decide) hf71 (fun _ h9 => h9) rfl dX4_asks_1 ?_
  refine lv_aload_n hx hb dX4_asks_4 rfl (lv_at hl 0 rfl) ?_
  refine va_get (D := D) (ci := 7) (v := .int (u.1 5)) (C := RX4) (T := TX4) (N := 29) hx hb hts hiX4 hown hK hP 0 rfl rfl 26 (by decide) hf141 (fun _ h9 => h9) rfl dX4_asks_5 ?_
  refine lv_iconst (v := 1) hx hb dX4_asks_8 (by decide) ?_
  refine lv_isub hx hb dX4_asks_9 ?_
  refine lv_iload_n hx hb dX4_asks_10 rfl (lv_at hl 3 rfl) ?_
  have h_1 := hok.1
  have hok := hok.2
  refine va_iast hx hb hK hP (dM hq) hS 21 0 rfl rfl h_1 dX4_asks_11 (fun H locs hP _ hS => ?_)
  obtain ⟨u1, hu1⟩ : ∃ z : St, z = (stA u 21 ((u.1 5) - 1).toNatClampNeg p3) := ⟨_, rfl⟩
  have hP : va_P D vwCl (wM q cI cL u1) H := by rw [hu1]; exact hP
  have hsp := hsp.trans (bnd_eq hu1)
  have hok := bnd_ok hu1 hok
  refine lv_aload_n hx hb dX4_asks_12 rfl (lv_at hl 0 rfl) ?_
  refine lv_iload_n hx hb dX4_asks_13 rfl (lv_at hl 1 rfl) ?_
  refine lv_iload_n hx hb dX4_asks_14 rfl (lv_at hl 2 rfl) ?_
  have h_2 := hok.1
  have hok := hok.2
  refine va_callv (va_runV (As := [.int p1, .int p2]) (rest := []) ⟨hx, hb, hml, hown, hts⟩ (cM_look l D q cI cL hq u1 p1 p2 h_2) (cwV 2 hts gX4_asks_X4_look rfl rfl rfl (by decide +kernel) ⟨(Nat.le_of_ble_eq_true rfl), (Nat.le_of_ble_eq_true rfl)⟩) ⟨PM_blind, va_recv hK hP (ci := 7) (q0 := 0) rfl rfl, fun U hU hW => ⟨rfl, PM_fin hP hK hU hW⟩⟩ rfl rfl hl.1 rfl (lv_room (Nat.le_of_ble_eq_true rfl)) dX4_asks_15 ⟨(Nat.le_of_ble_eq_true rfl), (Nat.le_of_ble_eq_true rfl)⟩) hS (fun q _ h => h) (fun q h => h) (fun u2 t H1 locs ht hvm hu2 hB hz1 hk1 hS => ?_)
  have hP := hB.1
  rw [ht] at hP
  clear hB hk1 hz1 hvm ht
  generalize H1 = H at hP hS ⊢
  refine W.widen (k := 0) (n := 0) (Nat.le_refl 0) (Nat.le_refl 0) ?_
  exact W.vret hx hb hr (fun t ht hW => ⟨⟨u2, rfl, (hu2.trans hsp.symm), PM_fin hP hK ht hW⟩, hS.F ht⟩) hS.2.2 dX4_asks_18
