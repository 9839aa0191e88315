set_option maxHeartbeats 4000000 in
set_option maxRecDepth 100000 in
theorem cM_begins (l : Launch) (D : va_G) (q : Nat → Nat) (cI cL : ClassId) (hq : DQ 22 q) (u : St) (p1 : Int32) (p2 : Int32) (hok : okM_begins u p1 p2) : Met l yX4_begins wsX4_begins { frames := 3, cells := 0, slots := 0, locals := 68 } (va_Pc [.ref (q 0), .int p1, .int p2] (fun U => PM D q cI cL u U)) (va_Qv (fun u' : St => u' = sM_begins u p1 p2) (fun u' t => PM D q cI cL u' t) (AQ 22 q)) 0 0 (AQ 22 q) := by
  refine Met.ofW (cc := cX4_begins) (maxL := 6) (ret := none) (by decide) rfl ?_
  intro p e s m args below meth c s₁ B hml hv
  obtain ⟨rfl, hP, hK⟩ := hv
  have hx := B.exec
  have hb := B.bytes
  have hr := B.returns
  have hts := atoms_spec (ws := wsX4_begins) B.pre
  have hown : s.vm.findClass RX4 = some m.cls := findClass_of_methodNamed B.named
  have hlocks := B.notSynchronized
  have hiX4 : ∀ w ∈ u_ws RX4 TX4 29, w ∈ wsX4_begins := by decide +kernel
  have hf29 := hts (.fieldLink RX4 29 "ThingRulesModel" "numA" "[I") (by decide +kernel)
  have hf32 := hts (.fieldLink RX4 32 "ThingRulesModel" "numB" "[I") (by decide +kernel)
  have hf35 := hts (.fieldLink RX4 35 "ThingRulesModel" "numC" "[I") (by decide +kernel)
  have hf26 := hts (.fieldLink RX4 26 "ThingRulesModel" "sort" "[I") (by decide +kernel)
  have hf135 := hts (.fieldLink RX4 135 "ThingRulesModel" "finding" "I") (by decide +kernel)
  have hf23 := hts (.fieldLink RX4 23 "ThingRulesModel" "piece" "[I") (by decide +kernel)
  have hf19 := hts (.fieldLink RX4 19 "ThingRulesModel" "number" "[J") (by decide +kernel)
  have hS : va_S (AQ 22 q) s.heap s.heap [] := va_S.rf
  have hP : va_P D vwCl (wM q cI cL u) s.heap := hP
  have hl := lv_entry ([.ref (q 0), .int p1, .int p2]) (n := 6) (Nat.le_of_ble_eq_true rfl)
  rw [lg_entry_eq]
  generalize (lg_sl ([.ref (q 0), .int p1, .int p2]) ++ List.replicate (6 - (lg_sl ([.ref (q 0), .int p1, .int p2])).length) Slot.unset).toArray = ls at hl ⊢
  have hl : lv_has ls 6 [(0, .ref (q 0)), (1, .int p1), (2, .int p2)] := hl
  have hsp : sM_begins u p1 p2 = _ := sM_begins.eq_1 u p1 p2
  unfold okM_begins at hok
  refine lv_aload_n hx hb dX4_begins_0 rfl (lv_at hl 0 rfl) ?_
  refine va_get (D := D) (ci := 7) (v := .ref (q 7)) (C := RX4) (T := TX4) (N := 29) hx hb hts hiX4 hown hK hP 0 rfl rfl 9 (by decide) hf29 (fun _ h9 => h9) rfl dX4_begins_1 ?_
  refine lv_iload_n hx hb dX4_begins_4 rfl (lv_at hl 1 rfl) ?_
  have h_1 := hok.1
  have hok := hok.2
  refine va_iald hx hb hK hP 7 0 rfl rfl h_1 dX4_begins_5 ?_
  refine lv_topi (fun y1 hy1 => ?_)
  have hsp := hsp.trans (bnd_eq hy1)
  have hok := bnd_ok hy1 hok
  refine lv_istore_n (lv' := [(3, .int y1), (0, .ref (q 0)), (1, .int p1), (2, .int p2)]) hx hb dX4_begins_6 rfl hl (by decide) rfl (fun ls hl => ?_)
  refine lv_aload_n hx hb dX4_begins_7 rfl (lv_at hl 1 rfl) ?_
  refine va_get (D := D) (ci := 7) (v := .ref (q 8)) (C := RX4) (T := TX4) (N := 29) hx hb hts hiX4 hown hK hP 0 rfl rfl 10 (by decide) hf32 (fun _ h9 => h9) rfl dX4_begins_8 ?_
  refine lv_iload_n hx hb dX4_begins_11 rfl (lv_at hl 2 rfl) ?_
  have h_2 := hok.1
  have hok := hok.2
  refine va_iald hx hb hK hP 8 0 rfl rfl h_2 dX4_begins_12 ?_
  refine lv_topi (fun y2 hy2 => ?_)
  have hsp := hsp.trans (bnd_eq hy2)
  have hok := bnd_ok hy2 hok
  refine lv_istore (lv' := [(4, .int y2), (3, .int y1), (0, .ref (q 0)), (1, .int p1), (2, .int p2)]) hx hb dX4_begins_13 hl (by decide) rfl (fun ls hl => ?_)
  refine lv_aload_n hx hb dX4_begins_15 rfl (lv_at hl 2 rfl) ?_
  refine va_get (D := D) (ci := 7) (v := .ref (q 9)) (C := RX4) (T := TX4) (N := 29) hx hb hts hiX4 hown hK hP 0 rfl rfl 11 (by decide) hf35 (fun _ h9 => h9) rfl dX4_begins_16 ?_
  refine lv_iload_n hx hb dX4_begins_19 rfl (lv_at hl 3 rfl) ?_
  have h_3 := hok.1
  have hok := hok.2
  refine va_iald hx hb hK hP 9 0 rfl rfl h_3 dX4_begins_20 ?_
  refine lv_topi (fun y3 hy3 => ?_)
  have hsp := hsp.trans (bnd_eq hy3)
  have hok := bnd_ok hy3 hok
  refine lv_istore (lv' := [(5, .int y3), (4, .int y2), (3, .int y1), (0, .ref (q 0)), (1, .int p1), (2, .int p2)]) hx hb dX4_begins_21 hl (by decide) rfl (fun ls hl => ?_)
  refine lv_aload_n hx hb dX4_begins_23 rfl (lv_at hl 3 rfl) ?_
  refine va_get (D := D) (ci := 7) (v := .ref (q 6)) (C := RX4) (T := TX4) (N := 29) hx hb hts hiX4 hown hK hP 0 rfl rfl 8 (by decide) hf26 (fun _ h9 => h9) rfl dX4_begins_24 ?_
  refine lv_iload_n hx hb dX4_begins_27 rfl (lv_at hl 4 rfl) ?_
  have h_4 := hok.1
  have hok := hok.2
  refine va_iald hx hb hK hP 6 0 rfl rfl h_4 dX4_begins_28 ?_
  by_cases c_5 : (u.2.1 6 p1.toNatClampNeg) = 0
  · have hsp := hsp.trans (if_pos c_5)
    have hok := hok.1 c_5
    refine lv_tableIn (off := 55) (tgt := 84) hx hb dX4_begins_29 (by rw [c_5]; decide) (by rw [c_5]; decide) (by rw [c_5]; rfl) (by decide) ?_
    refine lv_aload_n hx hb dX4_begins_84 rfl (lv_at hl 3 rfl) ?_
    refine lv_aload_n hx hb dX4_begins_85 rfl (lv_at hl 3 rfl) ?_
    refine lv_iload_n hx hb dX4_begins_86 rfl (lv_at hl 5 rfl) ?_
    refine lv_iload_n hx hb dX4_begins_87 rfl (lv_at hl 2 rfl) ?_
    have h_6 := hok.1
    have hok := hok.2
    refine vp_callSi (W.runV (As := [.int p2, .int y1]) (rest := [.ref (q 0)]) ⟨hx, hb, hml, hown, hts⟩ (cM_isA l D q cI cL u p2 y1 h_6) (cwV 2 hts gX4_begins_X4_isA rfl rfl rfl (by decide +kernel) ⟨(Nat.le_of_ble_eq_true rfl), (Nat.le_of_ble_eq_true rfl)⟩) ⟨PM_blind, va_recv hK hP (ci := 7) (q0 := 0) rfl rfl, fun U hU hW => ⟨rfl, PM_fin hP hK hU hW⟩⟩ rfl rfl hl.1 rfl (lv_room (Nat.le_of_ble_eq_true rfl)) dX4_begins_88 ⟨(Nat.le_of_ble_eq_true rfl), (Nat.le_of_ble_eq_true rfl)⟩) (fun r_7 hr_7 => ?_)
    subst hr_7
    have h_8 := hok.1
    have hok := hok.2
    refine va_callv (va_runV (As := [.int (sM_isA u p2 y1)]) (rest := []) ⟨hx, hb, hml, hown, hts⟩ (cM_ends l D q cI cL hq u (sM_isA u p2 y1) h_8) (cwV 1 hts gX4_begins_X4_ends rfl rfl rfl (by decide +kernel) ⟨(Nat.le_of_ble_eq_true rfl), (Nat.le_of_ble_eq_true rfl)⟩) ⟨PM_blind, va_recv hK hP (ci := 7) (q0 := 0) rfl rfl, fun U hU hW => ⟨rfl, PM_fin hP hK hU hW⟩⟩ rfl rfl hl.1 rfl (lv_room (Nat.le_of_ble_eq_true rfl)) dX4_begins_91 ⟨(Nat.le_of_ble_eq_true rfl), (Nat.le_of_ble_eq_true rfl)⟩) hS (fun q _ h => h) (fun q h => h) (fun u4 t H1 locs ht hvm hu4 hB hz1 hk1 hS => ?_)
    have hP := hB.1
    rw [ht] at hP
    clear hB hk1 hz1 hvm ht
    generalize H1 = H at hP hS ⊢
    refine W.widen (k := 0) (n := 0) (Nat.le_refl 0) (Nat.le_refl 0) ?_
    have hsp := hsp.trans (bnd_eq hu4)
    refine lv_goto (tgt := 327) hx hb dX4_begins_94 (by decide) ?_
    exact W.vret hx hb hr (fun t ht hW => ⟨⟨u4, rfl, hsp.symm, PM_fin hP hK ht hW⟩, hS.F ht⟩) hS.2.2 dX4_begins_327
  · have hsp := hsp.trans (if_neg c_5)
    have hok := hok.2 c_5
    by_cases c_9 : (u.2.1 6 p1.toNatClampNeg) = 1
    · have hsp := hsp.trans (if_pos c_9)
      have hok := hok.1 c_9
      refine lv_tableIn (off := 68) (tgt := 97) hx hb dX4_begins_29 (by rw [c_9]; decide) (by rw [c_9]; decide) (by rw [c_9]; rfl) (by decide) ?_
      refine lv_aload_n hx hb dX4_begins_97 rfl (lv_at hl 3 rfl) ?_
      refine lv_iload_n hx hb dX4_begins_98 rfl (lv_at hl 5 rfl) ?_
      refine lv_iload_n hx hb dX4_begins_99 rfl (lv_at hl 2 rfl) ?_
      have h_10 := hok.1
      have hok := hok.2
      refine vp_callSi (W.runV (As := [.int p2, .int y1]) (rest := []) ⟨hx, hb, hml, hown, hts⟩ (cM_passes l D q cI cL u p2 y1 h_10) (cwV 2 hts gX4_begins_X4_passes rfl rfl rfl (by decide +kernel) ⟨(Nat.le_of_ble_eq_true rfl), (Nat.le_of_ble_eq_true rfl)⟩) ⟨PM_blind, va_recv hK hP (ci := 7) (q0 := 0) rfl rfl, fun U hU hW => ⟨rfl, PM_fin hP hK hU hW⟩⟩ rfl rfl hl.1 rfl (lv_room (Nat.le_of_ble_eq_true rfl)) dX4_begins_100 ⟨(Nat.le_of_ble_eq_true rfl), (Nat.le_of_ble_eq_true rfl)⟩) (fun r_11 hr_11 => ?_)
      subst hr_11
      refine lv_if_ne (tgt := 115) hx hb dX4_begins_103 (by decide) (fun c_12 => ?_) (fun c_12 => ?_)
      · have hsp := hsp.trans (if_neg c_12)
        have hok := hok.2 c_12
        refine lv_aload_n hx hb dX4_begins_115 rfl (lv_at hl 3 rfl) ?_
        refine lv_iload hx hb dX4_begins_116 (lv_at hl 1 rfl) ?_
        refine lv_iload_n hx hb dX4_begins_118 rfl (lv_at hl 5 rfl) ?_
        refine lv_bipush (v := 9) hx hb dX4_begins_119 (by decide) ?_
        have h_13 := hok.1
        have hok := hok.2
        refine va_callv (va_runV (As := [.int y2, .int p2, .int 9]) (rest := []) ⟨hx, hb, hml, hown, hts⟩ (cM_asks l D q cI cL hq u y2 p2 9 h_13) (cwV 3 hts gX4_begins_X4_asks rfl rfl rfl (by decide +kernel) ⟨(Nat.le_of_ble_eq_true rfl), (Nat.le_of_ble_eq_true rfl)⟩) ⟨PM_blind, va_recv hK hP (ci := 7) (q0 := 0) rfl rfl, fun U hU hW => ⟨rfl, PM_fin hP hK hU hW⟩⟩ rfl rfl hl.1 rfl (lv_room (Nat.le_of_ble_eq_true rfl)) dX4_begins_121 ⟨(Nat.le_of_ble_eq_true rfl), (Nat.le_of_ble_eq_true rfl)⟩) hS (fun q _ h => h) (fun q h => h) (fun u5 t H1 locs ht hvm hu5 hB hz1 hk1 hS => ?_)
        have hP := hB.1
        rw [ht] at hP
        clear hB hk1 hz1 hvm ht
        generalize H1 = H at hP hS ⊢
        refine W.widen (k := 0) (n := 0) (Nat.le_refl 0) (Nat.le_refl 0) ?_
        have hsp := hsp.trans (bnd_eq hu5)
        refine lv_goto (tgt := 327) hx hb dX4_begins_124 (by decide) ?_
        exact W.vret hx hb hr (fun t ht hW => ⟨⟨u5, rfl, hsp.symm, PM_fin hP hK ht hW⟩, hS.F ht⟩) hS.2.2 dX4_begins_327
      · have hsp := hsp.trans (if_pos c_12)
        refine lv_aload_n hx hb dX4_begins_106 rfl (lv_at hl 3 rfl) ?_
        refine lv_bipush (v := (-21)) hx hb dX4_begins_107 (by decide) ?_
        refine va_put (D := D) (ci := 7) (v := .int (-21)) (ty := .int) (C := RX4) (T := TX4) (N := 29) hx hb hts hiX4 tyX4 tyX4_ok nmX4 hown hK hP (dM hq) hS 0 rfl rfl 27 (by decide) hf135 (fun _ h9 => h9) rfl (by decide +kernel) rfl rfl (Nat.le_of_ble_eq_true rfl) dX4_begins_109 (fun H locs hP _ hS => ?_)
        obtain ⟨u6, hu6⟩ : ∃ z : St, z = (stI u 6 (-21)) := ⟨_, rfl⟩
        have hP : va_P D vwCl (wM q cI cL u6) H := by rw [hu6]; exact hP
        have hsp := hsp.trans (bnd_eq hu6)
        refine lv_goto (tgt := 327) hx hb dX4_begins_112 (by decide) ?_
        exact W.vret hx hb hr (fun t ht hW => ⟨⟨u6, rfl, hsp.symm, PM_fin hP hK ht hW⟩, hS.F ht⟩) hS.2.2 dX4_begins_327
    · have hsp := hsp.trans (if_neg c_9)
      have hok := hok.2 c_9
      by_cases c_14 : (u.2.1 6 p1.toNatClampNeg) = 2
      · have hsp := hsp.trans (if_pos c_14)
        have hok := hok.1 c_14
        refine lv_tableIn (off := 98) (tgt := 127) hx hb dX4_begins_29 (by rw [c_14]; decide) (by rw [c_14]; decide) (by rw [c_14]; rfl) (by decide) ?_
        refine lv_aload_n hx hb dX4_begins_127 rfl (lv_at hl 3 rfl) ?_
        refine lv_iload_n hx hb dX4_begins_128 rfl (lv_at hl 5 rfl) ?_
        refine lv_if_ge (tgt := 136) hx hb dX4_begins_129 (by decide) (fun c_15 => ?_) (fun c_15 => ?_)
        · have hsp := hsp.trans (if_pos c_15)
          have hok := hok.1 c_15
          refine lv_iconst (v := 0) hx hb dX4_begins_136 (by decide) ?_
          have h_16 := hok.1
          have hok := hok.2
          refine va_callv (va_runV (As := [.int 0]) (rest := []) ⟨hx, hb, hml, hown, hts⟩ (cM_ends l D q cI cL hq u 0 h_16) (cwV 1 hts gX4_begins_X4_ends rfl rfl rfl (by decide +kernel) ⟨(Nat.le_of_ble_eq_true rfl), (Nat.le_of_ble_eq_true rfl)⟩) ⟨PM_blind, va_recv hK hP (ci := 7) (q0 := 0) rfl rfl, fun U hU hW => ⟨rfl, PM_fin hP hK hU hW⟩⟩ rfl rfl hl.1 rfl (lv_room (Nat.le_of_ble_eq_true rfl)) dX4_begins_137 ⟨(Nat.le_of_ble_eq_true rfl), (Nat.le_of_ble_eq_true rfl)⟩) hS (fun q _ h => h) (fun q h => h) (fun u7 t H1 locs ht hvm hu7 hB hz1 hk1 hS => ?_)
          have hP := hB.1
          rw [ht] at hP
          clear hB hk1 hz1 hvm ht
          generalize H1 = H at hP hS ⊢
          refine W.widen (k := 0) (n := 0) (Nat.le_refl 0) (Nat.le_refl 0) ?_
          have hsp := hsp.trans (bnd_eq hu7)
          refine lv_goto (tgt := 327) hx hb dX4_begins_140 (by decide) ?_
          exact W.vret hx hb hr (fun t ht hW => ⟨⟨u7, rfl, hsp.symm, PM_fin hP hK ht hW⟩, hS.F ht⟩) hS.2.2 dX4_begins_327
        · have hsp := hsp.trans (if_neg c_15)
          have hok := hok.2 c_15
          refine lv_iconst (v := 1) hx hb dX4_begins_132 (by decide) ?_
          refine lv_goto (tgt := 137) hx hb dX4_begins_133 (by decide) ?_
          have h_17 := hok.1
          have hok := hok.2
          refine va_callv (va_runV (As := [.int 1]) (rest := []) ⟨hx, hb, hml, hown, hts⟩ (cM_ends l D q cI cL hq u 1 h_17) (cwV 1 hts gX4_begins_X4_ends rfl rfl rfl (by decide +kernel) ⟨(Nat.le_of_ble_eq_true rfl), (Nat.le_of_ble_eq_true rfl)⟩) ⟨PM_blind, va_recv hK hP (ci := 7) (q0 := 0) rfl rfl, fun U hU hW => ⟨rfl, PM_fin hP hK hU hW⟩⟩ rfl rfl hl.1 rfl (lv_room (Nat.le_of_ble_eq_true rfl)) dX4_begins_137 ⟨(Nat.le_of_ble_eq_true rfl), (Nat.le_of_ble_eq_true rfl)⟩) hS (fun q _ h => h) (fun q h => h) (fun u8 t H1 locs ht hvm hu8 hB hz1 hk1 hS => ?_)
          have hP := hB.1
          rw [ht] at hP
          clear hB hk1 hz1 hvm ht
          generalize H1 = H at hP hS ⊢
          refine W.widen (k := 0) (n := 0) (Nat.le_refl 0) (Nat.le_refl 0) ?_
          have hsp := hsp.trans (bnd_eq hu8)
          refine lv_goto (tgt := 327) hx hb dX4_begins_140 (by decide) ?_
          exact W.vret hx hb hr (fun t ht hW => ⟨⟨u8, rfl, hsp.symm, PM_fin hP hK ht hW⟩, hS.F ht⟩) hS.2.2 dX4_begins_327
      · have hsp := hsp.trans (if_neg c_14)
        have hok := hok.2 c_14
        by_cases c_18 : (u.2.1 6 p1.toNatClampNeg) = 3
        · have hsp := hsp.trans (if_pos c_18)
          have hok := hok.1 c_18
          refine lv_tableIn (off := 114) (tgt := 143) hx hb dX4_begins_29 (by rw [c_18]; decide) (by rw [c_18]; decide) (by rw [c_18]; rfl) (by decide) ?_
          refine lv_aload_n hx hb dX4_begins_143 rfl (lv_at hl 3 rfl) ?_
          refine lv_iload_n hx hb dX4_begins_144 rfl (lv_at hl 5 rfl) ?_
          refine lv_iconst (v := 2) hx hb dX4_begins_145 (by decide) ?_
          have h_19 := hok.1
          have hok := hok.2
          refine vp_callSi (W.runV (As := [.int p2, .int 2]) (rest := []) ⟨hx, hb, hml, hown, hts⟩ (cM_isA l D q cI cL u p2 2 h_19) (cwV 2 hts gX4_begins_X4_isA rfl rfl rfl (by decide +kernel) ⟨(Nat.le_of_ble_eq_true rfl), (Nat.le_of_ble_eq_true rfl)⟩) ⟨PM_blind, va_recv hK hP (ci := 7) (q0 := 0) rfl rfl, fun U hU hW => ⟨rfl, PM_fin hP hK hU hW⟩⟩ rfl rfl hl.1 rfl (lv_room (Nat.le_of_ble_eq_true rfl)) dX4_begins_146 ⟨(Nat.le_of_ble_eq_true rfl), (Nat.le_of_ble_eq_true rfl)⟩) (fun r_20 hr_20 => ?_)
          subst hr_20
          refine lv_if_eq (tgt := 170) hx hb dX4_begins_149 (by decide) (fun c_21 => ?_) (fun c_21 => ?_)
          · have hsp := hsp.trans (if_pos c_21)
            have hok := hok.1 c_21
            refine lv_aload_n hx hb dX4_begins_170 rfl (lv_at hl 3 rfl) ?_
            refine lv_iconst (v := 0) hx hb dX4_begins_171 (by decide) ?_
            have h_22 := hok.1
            have hok := hok.2
            refine va_callv (va_runV (As := [.int 0]) (rest := []) ⟨hx, hb, hml, hown, hts⟩ (cM_ends l D q cI cL hq u 0 h_22) (cwV 1 hts gX4_begins_X4_ends rfl rfl rfl (by decide +kernel) ⟨(Nat.le_of_ble_eq_true rfl), (Nat.le_of_ble_eq_true rfl)⟩) ⟨PM_blind, va_recv hK hP (ci := 7) (q0 := 0) rfl rfl, fun U hU hW => ⟨rfl, PM_fin hP hK hU hW⟩⟩ rfl rfl hl.1 rfl (lv_room (Nat.le_of_ble_eq_true rfl)) dX4_begins_172 ⟨(Nat.le_of_ble_eq_true rfl), (Nat.le_of_ble_eq_true rfl)⟩) hS (fun q _ h => h) (fun q h => h) (fun u9 t H1 locs ht hvm hu9 hB hz1 hk1 hS => ?_)
            have hP := hB.1
            rw [ht] at hP
            clear hB hk1 hz1 hvm ht
            generalize H1 = H at hP hS ⊢
            refine W.widen (k := 0) (n := 0) (Nat.le_refl 0) (Nat.le_refl 0) ?_
            have hsp := hsp.trans (bnd_eq hu9)
            refine lv_goto (tgt := 327) hx hb dX4_begins_175 (by decide) ?_
            exact W.vret hx hb hr (fun t ht hW => ⟨⟨u9, rfl, hsp.symm, PM_fin hP hK ht hW⟩, hS.F ht⟩) hS.2.2 dX4_begins_327
          · have hsp := hsp.trans (if_neg c_21)
            have hok := hok.2 c_21
            refine lv_aload_n hx hb dX4_begins_152 rfl (lv_at hl 3 rfl) ?_
            refine lv_iload_n hx hb dX4_begins_153 rfl (lv_at hl 2 rfl) ?_
            refine lv_aload_n hx hb dX4_begins_154 rfl (lv_at hl 3 rfl) ?_
            refine va_get (D := D) (ci := 7) (v := .ref (q 5)) (C := RX4) (T := TX4) (N := 29) hx hb hts hiX4 hown hK hP 0 rfl rfl 6 (by decide) hf23 (fun _ h9 => h9) rfl dX4_begins_155 ?_
            refine lv_bipush (v := 6) hx hb dX4_begins_158 (by decide) ?_
            refine lv_iload_n hx hb dX4_begins_160 rfl (lv_at hl 5 rfl) ?_
            refine lv_imul hx hb dX4_begins_161 ?_
            have h_23 := hok.1
            have hok := hok.2
            refine va_iald hx hb hK hP 5 0 rfl rfl h_23 dX4_begins_162 ?_
            refine lv_iconst (v := 1) hx hb dX4_begins_163 (by decide) ?_
            have h_24 := hok.1
            have hok := hok.2
            refine va_callv (va_runV (As := [.int y1, .int (u.2.1 5 (6 * p2).toNatClampNeg), .int 1]) (rest := []) ⟨hx, hb, hml, hown, hts⟩ (cM_asks l D q cI cL hq u y1 (u.2.1 5 (6 * p2).toNatClampNeg) 1 h_24) (cwV 3 hts gX4_begins_X4_asks rfl rfl rfl (by decide +kernel) ⟨(Nat.le_of_ble_eq_true rfl), (Nat.le_of_ble_eq_true rfl)⟩) ⟨PM_blind, va_recv hK hP (ci := 7) (q0 := 0) rfl rfl, fun U hU hW => ⟨rfl, PM_fin hP hK hU hW⟩⟩ rfl rfl hl.1 rfl (lv_room (Nat.le_of_ble_eq_true rfl)) dX4_begins_164 ⟨(Nat.le_of_ble_eq_true rfl), (Nat.le_of_ble_eq_true rfl)⟩) hS (fun q _ h => h) (fun q h => h) (fun u10 t H1 locs ht hvm hu10 hB hz1 hk1 hS => ?_)
            have hP := hB.1
            rw [ht] at hP
            clear hB hk1 hz1 hvm ht
            generalize H1 = H at hP hS ⊢
            refine W.widen (k := 0) (n := 0) (Nat.le_refl 0) (Nat.le_refl 0) ?_
            have hsp := hsp.trans (bnd_eq hu10)
            refine lv_goto (tgt := 327) hx hb dX4_begins_167 (by decide) ?_
            exact W.vret hx hb hr (fun t ht hW => ⟨⟨u10, rfl, hsp.symm, PM_fin hP hK ht hW⟩, hS.F ht⟩) hS.2.2 dX4_begins_327
        · have hsp := hsp.trans (if_neg c_18)
          have hok := hok.2 c_18
          by_cases c_25 : (u.2.1 6 p1.toNatClampNeg) = 4
          · have hsp := hsp.trans (if_pos c_25)
            have hok := hok.1 c_25
            refine lv_tableIn (off := 149) (tgt := 178) hx hb dX4_begins_29 (by rw [c_25]; decide) (by rw [c_25]; decide) (by rw [c_25]; rfl) (by decide) ?_
            refine lv_aload_n hx hb dX4_begins_178 rfl (lv_at hl 3 rfl) ?_
            refine lv_iload_n hx hb dX4_begins_179 rfl (lv_at hl 5 rfl) ?_
            refine lv_iload_n hx hb dX4_begins_180 rfl (lv_at hl 2 rfl) ?_
            have h_26 := hok.1
            have hok := hok.2
            refine vp_callSi (W.runV (As := [.int p2, .int y1]) (rest := []) ⟨hx, hb, hml, hown, hts⟩ (cM_isA l D q cI cL u p2 y1 h_26) (cwV 2 hts gX4_begins_X4_isA rfl rfl rfl (by decide +kernel) ⟨(Nat.le_of_ble_eq_true rfl), (Nat.le_of_ble_eq_true rfl)⟩) ⟨PM_blind, va_recv hK hP (ci := 7) (q0 := 0) rfl rfl, fun U hU hW => ⟨rfl, PM_fin hP hK hU hW⟩⟩ rfl rfl hl.1 rfl (lv_room (Nat.le_of_ble_eq_true rfl)) dX4_begins_181 ⟨(Nat.le_of_ble_eq_true rfl), (Nat.le_of_ble_eq_true rfl)⟩) (fun r_27 hr_27 => ?_)
            subst hr_27
            refine lv_if_eq (tgt := 197) hx hb dX4_begins_184 (by decide) (fun c_28 => ?_) (fun c_28 => ?_)
            · have hsp := hsp.trans (if_pos c_28)
              have hok := hok.1 c_28
              refine lv_aload_n hx hb dX4_begins_197 rfl (lv_at hl 3 rfl) ?_
              refine lv_iconst (v := 0) hx hb dX4_begins_198 (by decide) ?_
              have h_29 := hok.1
              have hok := hok.2
              refine va_callv (va_runV (As := [.int 0]) (rest := []) ⟨hx, hb, hml, hown, hts⟩ (cM_ends l D q cI cL hq u 0 h_29) (cwV 1 hts gX4_begins_X4_ends rfl rfl rfl (by decide +kernel) ⟨(Nat.le_of_ble_eq_true rfl), (Nat.le_of_ble_eq_true rfl)⟩) ⟨PM_blind, va_recv hK hP (ci := 7) (q0 := 0) rfl rfl, fun U hU hW => ⟨rfl, PM_fin hP hK hU hW⟩⟩ rfl rfl hl.1 rfl (lv_room (Nat.le_of_ble_eq_true rfl)) dX4_begins_199 ⟨(Nat.le_of_ble_eq_true rfl), (Nat.le_of_ble_eq_true rfl)⟩) hS (fun q _ h => h) (fun q h => h) (fun u11 t H1 locs ht hvm hu11 hB hz1 hk1 hS => ?_)
              have hP := hB.1
              rw [ht] at hP
              clear hB hk1 hz1 hvm ht
              generalize H1 = H at hP hS ⊢
              refine W.widen (k := 0) (n := 0) (Nat.le_refl 0) (Nat.le_refl 0) ?_
              have hsp := hsp.trans (bnd_eq hu11)
              refine lv_goto (tgt := 327) hx hb dX4_begins_202 (by decide) ?_
              exact W.vret hx hb hr (fun t ht hW => ⟨⟨u11, rfl, hsp.symm, PM_fin hP hK ht hW⟩, hS.F ht⟩) hS.2.2 dX4_begins_327
            · have hsp := hsp.trans (if_neg c_28)
              have hok := hok.2 c_28
              refine lv_aload_n hx hb dX4_begins_187 rfl (lv_at hl 3 rfl) ?_
              refine lv_iload_n hx hb dX4_begins_188 rfl (lv_at hl 4 rfl) ?_
              refine lv_iload_n hx hb dX4_begins_189 rfl (lv_at hl 5 rfl) ?_
              refine lv_iconst (v := 0) hx hb dX4_begins_190 (by decide) ?_
              have h_30 := hok.1
              have hok := hok.2
              refine va_callv (va_runV (As := [.int p1, .int p2, .int 0]) (rest := []) ⟨hx, hb, hml, hown, hts⟩ (cM_each l D q cI cL hq u p1 p2 0 h_30) (cwV 3 hts gX4_begins_X4_each rfl rfl rfl (by decide +kernel) ⟨(Nat.le_of_ble_eq_true rfl), (Nat.le_of_ble_eq_true rfl)⟩) ⟨PM_blind, va_recv hK hP (ci := 7) (q0 := 0) rfl rfl, fun U hU hW => ⟨rfl, PM_fin hP hK hU hW⟩⟩ rfl rfl hl.1 rfl (lv_room (Nat.le_of_ble_eq_true rfl)) dX4_begins_191 ⟨(Nat.le_of_ble_eq_true rfl), (Nat.le_of_ble_eq_true rfl)⟩) hS (fun q _ h => h) (fun q h => h) (fun u12 t H1 locs ht hvm hu12 hB hz1 hk1 hS => ?_)
              have hP := hB.1
              rw [ht] at hP
              clear hB hk1 hz1 hvm ht
              generalize H1 = H at hP hS ⊢
              refine W.widen (k := 0) (n := 0) (Nat.le_refl 0) (Nat.le_refl 0) ?_
              have hsp := hsp.trans (bnd_eq hu12)
              refine lv_goto (tgt := 327) hx hb dX4_begins_194 (by decide) ?_
              exact W.vret hx hb hr (fun t ht hW => ⟨⟨u12, rfl, hsp.symm, PM_fin hP hK ht hW⟩, hS.F ht⟩) hS.2.2 dX4_begins_327
          · have hsp := hsp.trans (if_neg c_25)
            have hok := hok.2 c_25
            by_cases c_31 : (u.2.1 6 p1.toNatClampNeg) = 5
            · have hsp := hsp.trans (if_pos c_31)
              have hok := hok.1 c_31
              refine lv_tableIn (off := 176) (tgt := 205) hx hb dX4_begins_29 (by rw [c_31]; decide) (by rw [c_31]; decide) (by rw [c_31]; rfl) (by decide) ?_
              refine lv_aload_n hx hb dX4_begins_205 rfl (lv_at hl 3 rfl) ?_
              refine lv_aload_n hx hb dX4_begins_206 rfl (lv_at hl 3 rfl) ?_
              refine lv_iload_n hx hb dX4_begins_207 rfl (lv_at hl 5 rfl) ?_
              refine lv_iload_n hx hb dX4_begins_208 rfl (lv_at hl 2 rfl) ?_
              refine lv_iload hx hb dX4_begins_209 (lv_at hl 1 rfl) ?_
              have h_32 := hok.1
              have hok := hok.2
              refine vp_callSi (W.runV (As := [.int p2, .int y1, .int y2]) (rest := [.ref (q 0)]) ⟨hx, hb, hml, hown, hts⟩ (cM_taken l D q cI cL u p2 y1 y2 h_32) (cwV 3 hts gX4_begins_X4_taken rfl rfl rfl (by decide +kernel) ⟨(Nat.le_of_ble_eq_true rfl), (Nat.le_of_ble_eq_true rfl)⟩) ⟨PM_blind, va_recv hK hP (ci := 7) (q0 := 0) rfl rfl, fun U hU hW => ⟨rfl, PM_fin hP hK hU hW⟩⟩ rfl rfl hl.1 rfl (lv_room (Nat.le_of_ble_eq_true rfl)) dX4_begins_211 ⟨(Nat.le_of_ble_eq_true rfl), (Nat.le_of_ble_eq_true rfl)⟩) (fun r_33 hr_33 => ?_)
              subst hr_33
              refine va_put (D := D) (ci := 7) (v := .int (sM_taken u p2 y1 y2)) (ty := .int) (C := RX4) (T := TX4) (N := 29) hx hb hts hiX4 tyX4 tyX4_ok nmX4 hown hK hP (dM hq) hS 0 rfl rfl 27 (by decide) hf135 (fun _ h9 => h9) rfl (by decide +kernel) rfl rfl (Nat.le_of_ble_eq_true rfl) dX4_begins_214 (fun H locs hP _ hS => ?_)
              obtain ⟨u13, hu13⟩ : ∃ z : St, z = (stI u 6 (sM_taken u p2 y1 y2)) := ⟨_, rfl⟩
              have hP : va_P D vwCl (wM q cI cL u13) H := by rw [hu13]; exact hP
              have hsp := hsp.trans (bnd_eq hu13)
              have hok := bnd_ok hu13 hok
              refine lv_aload_n hx hb dX4_begins_217 rfl (lv_at hl 3 rfl) ?_
              refine va_get (D := D) (ci := 7) (v := .int (u13.1 6)) (C := RX4) (T := TX4) (N := 29) hx hb hts hiX4 hown hK hP 0 rfl rfl 27 (by decide) hf135 (fun _ h9 => h9) rfl dX4_begins_218 ?_
              refine lv_if_ne (tgt := 327) hx hb dX4_begins_221 (by decide) (fun c_34 => ?_) (fun c_34 => ?_)
              · have hsp := hsp.trans (if_neg c_34)
                exact W.vret hx hb hr (fun t ht hW => ⟨⟨u13, rfl, hsp.symm, PM_fin hP hK ht hW⟩, hS.F ht⟩) hS.2.2 dX4_begins_327
              · have hsp := hsp.trans (if_pos c_34)
                have hok := hok.1 c_34
                refine lv_aload_n hx hb dX4_begins_224 rfl (lv_at hl 3 rfl) ?_
                refine lv_iload hx hb dX4_begins_225 (lv_at hl 0 rfl) ?_
                refine lv_aload_n hx hb dX4_begins_227 rfl (lv_at hl 3 rfl) ?_
                refine va_get (D := D) (ci := 7) (v := .ref (q 5)) (C := RX4) (T := TX4) (N := 29) hx hb hts hiX4 hown hK hP 0 rfl rfl 6 (by decide) hf23 (fun _ h9 => h9) rfl dX4_begins_228 ?_
                refine lv_bipush (v := 6) hx hb dX4_begins_231 (by decide) ?_
                refine lv_iload_n hx hb dX4_begins_233 rfl (lv_at hl 5 rfl) ?_
                refine lv_imul hx hb dX4_begins_234 ?_
                refine lv_iload hx hb dX4_begins_235 (lv_at hl 1 rfl) ?_
                refine lv_iadd hx hb dX4_begins_237 ?_
                have h_35 := hok.1
                have hok := hok.2
                refine va_iald hx hb hK hP 5 0 rfl rfl h_35 dX4_begins_238 ?_
                refine lv_bipush (v := 9) hx hb dX4_begins_239 (by decide) ?_
                have h_36 := hok.1
                have hok := hok.2
                refine va_callv (va_runV (As := [.int y3, .int (u13.2.1 5 ((6 * p2) + y2).toNatClampNeg), .int 9]) (rest := []) ⟨hx, hb, hml, hown, hts⟩ (cM_asks l D q cI cL hq u13 y3 (u13.2.1 5 ((6 * p2) + y2).toNatClampNeg) 9 h_36) (cwV 3 hts gX4_begins_X4_asks rfl rfl rfl (by decide +kernel) ⟨(Nat.le_of_ble_eq_true rfl), (Nat.le_of_ble_eq_true rfl)⟩) ⟨PM_blind, va_recv hK hP (ci := 7) (q0 := 0) rfl rfl, fun U hU hW => ⟨rfl, PM_fin hP hK hU hW⟩⟩ rfl rfl hl.1 rfl (lv_room (Nat.le_of_ble_eq_true rfl)) dX4_begins_241 ⟨(Nat.le_of_ble_eq_true rfl), (Nat.le_of_ble_eq_true rfl)⟩) hS (fun q _ h => h) (fun q h => h) (fun u14 t H1 locs ht hvm hu14 hB hz1 hk1 hS => ?_)
                have hP := hB.1
                rw [ht] at hP
                clear hB hk1 hz1 hvm ht
                generalize H1 = H at hP hS ⊢
                refine W.widen (k := 0) (n := 0) (Nat.le_refl 0) (Nat.le_refl 0) ?_
                have hsp := hsp.trans (bnd_eq hu14)
                refine lv_goto (tgt := 327) hx hb dX4_begins_244 (by decide) ?_
                exact W.vret hx hb hr (fun t ht hW => ⟨⟨u14, rfl, hsp.symm, PM_fin hP hK ht hW⟩, hS.F ht⟩) hS.2.2 dX4_begins_327
            · have hsp := hsp.trans (if_neg c_31)
              have hok := hok.2 c_31
              by_cases c_37 : (u.2.1 6 p1.toNatClampNeg) = 6
              · have hsp := hsp.trans (if_pos c_37)
                have hok := hok.1 c_37
                refine lv_tableIn (off := 218) (tgt := 247) hx hb dX4_begins_29 (by rw [c_37]; decide) (by rw [c_37]; decide) (by rw [c_37]; rfl) (by decide) ?_
                refine lv_aload_n hx hb dX4_begins_247 rfl (lv_at hl 3 rfl) ?_
                refine lv_aload_n hx hb dX4_begins_248 rfl (lv_at hl 3 rfl) ?_
                refine lv_iload_n hx hb dX4_begins_249 rfl (lv_at hl 5 rfl) ?_
                refine lv_iload_n hx hb dX4_begins_250 rfl (lv_at hl 2 rfl) ?_
                refine lv_iload hx hb dX4_begins_251 (lv_at hl 1 rfl) ?_
                have h_38 := hok.1
                have hok := hok.2
                refine vp_callSi (W.runV (As := [.int p2, .int y1, .int y2]) (rest := [.ref (q 0)]) ⟨hx, hb, hml, hown, hts⟩ (cM_taken l D q cI cL u p2 y1 y2 h_38) (cwV 3 hts gX4_begins_X4_taken rfl rfl rfl (by decide +kernel) ⟨(Nat.le_of_ble_eq_true rfl), (Nat.le_of_ble_eq_true rfl)⟩) ⟨PM_blind, va_recv hK hP (ci := 7) (q0 := 0) rfl rfl, fun U hU hW => ⟨rfl, PM_fin hP hK hU hW⟩⟩ rfl rfl hl.1 rfl (lv_room (Nat.le_of_ble_eq_true rfl)) dX4_begins_253 ⟨(Nat.le_of_ble_eq_true rfl), (Nat.le_of_ble_eq_true rfl)⟩) (fun r_39 hr_39 => ?_)
                subst hr_39
                refine va_put (D := D) (ci := 7) (v := .int (sM_taken u p2 y1 y2)) (ty := .int) (C := RX4) (T := TX4) (N := 29) hx hb hts hiX4 tyX4 tyX4_ok nmX4 hown hK hP (dM hq) hS 0 rfl rfl 27 (by decide) hf135 (fun _ h9 => h9) rfl (by decide +kernel) rfl rfl (Nat.le_of_ble_eq_true rfl) dX4_begins_256 (fun H locs hP _ hS => ?_)
                obtain ⟨u15, hu15⟩ : ∃ z : St, z = (stI u 6 (sM_taken u p2 y1 y2)) := ⟨_, rfl⟩
                have hP : va_P D vwCl (wM q cI cL u15) H := by rw [hu15]; exact hP
                have hsp := hsp.trans (bnd_eq hu15)
                have hok := bnd_ok hu15 hok
                refine lv_aload_n hx hb dX4_begins_259 rfl (lv_at hl 3 rfl) ?_
                refine va_get (D := D) (ci := 7) (v := .int (u15.1 6)) (C := RX4) (T := TX4) (N := 29) hx hb hts hiX4 hown hK hP 0 rfl rfl 27 (by decide) hf135 (fun _ h9 => h9) rfl dX4_begins_260 ?_
                refine lv_if_ne (tgt := 327) hx hb dX4_begins_263 (by decide) (fun c_40 => ?_) (fun c_40 => ?_)
                · have hsp := hsp.trans (if_neg c_40)
                  exact W.vret hx hb hr (fun t ht hW => ⟨⟨u15, rfl, hsp.symm, PM_fin hP hK ht hW⟩, hS.F ht⟩) hS.2.2 dX4_begins_327
                · have hsp := hsp.trans (if_pos c_40)
                  have hok := hok.1 c_40
                  refine lv_aload_n hx hb dX4_begins_266 rfl (lv_at hl 3 rfl) ?_
                  refine lv_aload_n hx hb dX4_begins_267 rfl (lv_at hl 3 rfl) ?_
                  refine va_get (D := D) (ci := 7) (v := .ref (q 4)) (C := RX4) (T := TX4) (N := 29) hx hb hts hiX4 hown hK hP 0 rfl rfl 5 (by decide) hf19 (fun _ h9 => h9) rfl dX4_begins_268 ?_
                  refine lv_bipush (v := 6) hx hb dX4_begins_271 (by decide) ?_
                  refine lv_iload_n hx hb dX4_begins_273 rfl (lv_at hl 5 rfl) ?_
                  refine lv_imul hx hb dX4_begins_274 ?_
                  refine lv_iload hx hb dX4_begins_275 (lv_at hl 1 rfl) ?_
                  refine lv_iadd hx hb dX4_begins_277 ?_
                  have h_41 := hok.1
                  have hok := hok.2
                  refine va_lald hx hb hK hP 4 1 rfl rfl h_41 dX4_begins_278 ?_
                  refine lv_iload hx hb dX4_begins_279 (lv_at hl 0 rfl) ?_
                  refine lv_i2l (v := ((y3 : Int32).toInt64)) hx hb dX4_begins_281 rfl ?_
                  refine W.lcmp hx hb dX4_begins_282 ?_
                  refine lv_if_ne (tgt := 290) hx hb dX4_begins_283 (by decide) (fun c_42 => ?_) (fun c_42 => ?_)
                  · have hsp := hsp.trans (if_neg c_42)
                    have hok := hok.2 c_42
                    refine lv_iconst (v := 0) hx hb dX4_begins_290 (by decide) ?_
                    have h_43 := hok.1
                    have hok := hok.2
                    refine va_callv (va_runV (As := [.int 0]) (rest := []) ⟨hx, hb, hml, hown, hts⟩ (cM_ends l D q cI cL hq u15 0 h_43) (cwV 1 hts gX4_begins_X4_ends rfl rfl rfl (by decide +kernel) ⟨(Nat.le_of_ble_eq_true rfl), (Nat.le_of_ble_eq_true rfl)⟩) ⟨PM_blind, va_recv hK hP (ci := 7) (q0 := 0) rfl rfl, fun U hU hW => ⟨rfl, PM_fin hP hK hU hW⟩⟩ rfl rfl hl.1 rfl (lv_room (Nat.le_of_ble_eq_true rfl)) dX4_begins_291 ⟨(Nat.le_of_ble_eq_true rfl), (Nat.le_of_ble_eq_true rfl)⟩) hS (fun q _ h => h) (fun q h => h) (fun u16 t H1 locs ht hvm hu16 hB hz1 hk1 hS => ?_)
                    have hP := hB.1
                    rw [ht] at hP
                    clear hB hk1 hz1 hvm ht
                    generalize H1 = H at hP hS ⊢
                    refine W.widen (k := 0) (n := 0) (Nat.le_refl 0) (Nat.le_refl 0) ?_
                    have hsp := hsp.trans (bnd_eq hu16)
                    refine lv_goto (tgt := 327) hx hb dX4_begins_294 (by decide) ?_
                    exact W.vret hx hb hr (fun t ht hW => ⟨⟨u16, rfl, hsp.symm, PM_fin hP hK ht hW⟩, hS.F ht⟩) hS.2.2 dX4_begins_327
                  · have hsp := hsp.trans (if_pos c_42)
                    have hok := hok.1 c_42
                    refine lv_iconst (v := 1) hx hb dX4_begins_286 (by decide) ?_
                    refine lv_goto (tgt := 291) hx hb dX4_begins_287 (by decide) ?_
                    have h_44 := hok.1
                    have hok := hok.2
                    refine va_callv (va_runV (As := [.int 1]) (rest := []) ⟨hx, hb, hml, hown, hts⟩ (cM_ends l D q cI cL hq u15 1 h_44) (cwV 1 hts gX4_begins_X4_ends rfl rfl rfl (by decide +kernel) ⟨(Nat.le_of_ble_eq_true rfl), (Nat.le_of_ble_eq_true rfl)⟩) ⟨PM_blind, va_recv hK hP (ci := 7) (q0 := 0) rfl rfl, fun U hU hW => ⟨rfl, PM_fin hP hK hU hW⟩⟩ rfl rfl hl.1 rfl (lv_room (Nat.le_of_ble_eq_true rfl)) dX4_begins_291 ⟨(Nat.le_of_ble_eq_true rfl), (Nat.le_of_ble_eq_true rfl)⟩) hS (fun q _ h => h) (fun q h => h) (fun u17 t H1 locs ht hvm hu17 hB hz1 hk1 hS => ?_)
                    have hP := hB.1
                    rw [ht] at hP
                    clear hB hk1 hz1 hvm ht
                    generalize H1 = H at hP hS ⊢
                    refine W.widen (k := 0) (n := 0) (Nat.le_refl 0) (Nat.le_refl 0) ?_
                    have hsp := hsp.trans (bnd_eq hu17)
                    refine lv_goto (tgt := 327) hx hb dX4_begins_294 (by decide) ?_
                    exact W.vret hx hb hr (fun t ht hW => ⟨⟨u17, rfl, hsp.symm, PM_fin hP hK ht hW⟩, hS.F ht⟩) hS.2.2 dX4_begins_327
              · have hsp := hsp.trans (if_neg c_37)
                have hok := hok.2 c_37
                by_cases c_45 : (u.2.1 6 p1.toNatClampNeg) = 7
                · have hsp := hsp.trans (if_pos c_45)
                  have hok := hok.1 c_45
                  refine lv_tableIn (off := 268) (tgt := 297) hx hb dX4_begins_29 (by rw [c_45]; decide) (by rw [c_45]; decide) (by rw [c_45]; rfl) (by decide) ?_
                  refine lv_aload_n hx hb dX4_begins_297 rfl (lv_at hl 3 rfl) ?_
                  refine lv_iload_n hx hb dX4_begins_298 rfl (lv_at hl 2 rfl) ?_
                  refine lv_iload_n hx hb dX4_begins_299 rfl (lv_at hl 5 rfl) ?_
                  refine lv_iconst (v := 1) hx hb dX4_begins_300 (by decide) ?_
                  have h_46 := hok.1
                  have hok := hok.2
                  refine va_callv (va_runV (As := [.int y1, .int p2, .int 1]) (rest := []) ⟨hx, hb, hml, hown, hts⟩ (cM_asks l D q cI cL hq u y1 p2 1 h_46) (cwV 3 hts gX4_begins_X4_asks rfl rfl rfl (by decide +kernel) ⟨(Nat.le_of_ble_eq_true rfl), (Nat.le_of_ble_eq_true rfl)⟩) ⟨PM_blind, va_recv hK hP (ci := 7) (q0 := 0) rfl rfl, fun U hU hW => ⟨rfl, PM_fin hP hK hU hW⟩⟩ rfl rfl hl.1 rfl (lv_room (Nat.le_of_ble_eq_true rfl)) dX4_begins_301 ⟨(Nat.le_of_ble_eq_true rfl), (Nat.le_of_ble_eq_true rfl)⟩) hS (fun q _ h => h) (fun q h => h) (fun u18 t H1 locs ht hvm hu18 hB hz1 hk1 hS => ?_)
                  have hP := hB.1
                  rw [ht] at hP
                  clear hB hk1 hz1 hvm ht
                  generalize H1 = H at hP hS ⊢
                  refine W.widen (k := 0) (n := 0) (Nat.le_refl 0) (Nat.le_refl 0) ?_
                  have hsp := hsp.trans (bnd_eq hu18)
                  refine lv_goto (tgt := 327) hx hb dX4_begins_304 (by decide) ?_
                  exact W.vret hx hb hr (fun t ht hW => ⟨⟨u18, rfl, hsp.symm, PM_fin hP hK ht hW⟩, hS.F ht⟩) hS.2.2 dX4_begins_327
                · have hsp := hsp.trans (if_neg c_45)
                  have hok := hok.2 c_45
                  by_cases c_47 : (u.2.1 6 p1.toNatClampNeg) = 8
                  · have hsp := hsp.trans (if_pos c_47)
                    have hok := hok.1 c_47
                    refine lv_tableIn (off := 268) (tgt := 297) hx hb dX4_begins_29 (by rw [c_47]; decide) (by rw [c_47]; decide) (by rw [c_47]; rfl) (by decide) ?_
                    refine lv_aload_n hx hb dX4_begins_297 rfl (lv_at hl 3 rfl) ?_
                    refine lv_iload_n hx hb dX4_begins_298 rfl (lv_at hl 2 rfl) ?_
                    refine lv_iload_n hx hb dX4_begins_299 rfl (lv_at hl 5 rfl) ?_
                    refine lv_iconst (v := 1) hx hb dX4_begins_300 (by decide) ?_
                    have h_48 := hok.1
                    have hok := hok.2
                    refine va_callv (va_runV (As := [.int y1, .int p2, .int 1]) (rest := []) ⟨hx, hb, hml, hown, hts⟩ (cM_asks l D q cI cL hq u y1 p2 1 h_48) (cwV 3 hts gX4_begins_X4_asks rfl rfl rfl (by decide +kernel) ⟨(Nat.le_of_ble_eq_true rfl), (Nat.le_of_ble_eq_true rfl)⟩) ⟨PM_blind, va_recv hK hP (ci := 7) (q0 := 0) rfl rfl, fun U hU hW => ⟨rfl, PM_fin hP hK hU hW⟩⟩ rfl rfl hl.1 rfl (lv_room (Nat.le_of_ble_eq_true rfl)) dX4_begins_301 ⟨(Nat.le_of_ble_eq_true rfl), (Nat.le_of_ble_eq_true rfl)⟩) hS (fun q _ h => h) (fun q h => h) (fun u19 t H1 locs ht hvm hu19 hB hz1 hk1 hS => ?_)
                    have hP := hB.1
                    rw [ht] at hP
                    clear hB hk1 hz1 hvm ht
                    generalize H1 = H at hP hS ⊢
                    refine W.widen (k := 0) (n := 0) (Nat.le_refl 0) (Nat.le_refl 0) ?_
                    have hsp := hsp.trans (bnd_eq hu19)
                    refine lv_goto (tgt := 327) hx hb dX4_begins_304 (by decide) ?_
                    exact W.vret hx hb hr (fun t ht hW => ⟨⟨u19, rfl, hsp.symm, PM_fin hP hK ht hW⟩, hS.F ht⟩) hS.2.2 dX4_begins_327
                  · have hsp := hsp.trans (if_neg c_47)
                    have hok := hok.2 c_47
                    by_cases c_49 : (u.2.1 6 p1.toNatClampNeg) = 9
                    · have hsp := hsp.trans (if_pos c_49)
                      have hok := hok.1 c_49
                      refine lv_tableIn (off := 278) (tgt := 307) hx hb dX4_begins_29 (by rw [c_49]; decide) (by rw [c_49]; decide) (by rw [c_49]; rfl) (by decide) ?_
                      refine lv_aload_n hx hb dX4_begins_307 rfl (lv_at hl 3 rfl) ?_
                      refine lv_iload_n hx hb dX4_begins_308 rfl (lv_at hl 2 rfl) ?_
                      refine lv_iload_n hx hb dX4_begins_309 rfl (lv_at hl 5 rfl) ?_
                      refine lv_bipush (v := 8) hx hb dX4_begins_310 (by decide) ?_
                      have h_50 := hok.1
                      have hok := hok.2
                      refine va_callv (va_runV (As := [.int y1, .int p2, .int 8]) (rest := []) ⟨hx, hb, hml, hown, hts⟩ (cM_asks l D q cI cL hq u y1 p2 8 h_50) (cwV 3 hts gX4_begins_X4_asks rfl rfl rfl (by decide +kernel) ⟨(Nat.le_of_ble_eq_true rfl), (Nat.le_of_ble_eq_true rfl)⟩) ⟨PM_blind, va_recv hK hP (ci := 7) (q0 := 0) rfl rfl, fun U hU hW => ⟨rfl, PM_fin hP hK hU hW⟩⟩ rfl rfl hl.1 rfl (lv_room (Nat.le_of_ble_eq_true rfl)) dX4_begins_312 ⟨(Nat.le_of_ble_eq_true rfl), (Nat.le_of_ble_eq_true rfl)⟩) hS (fun q _ h => h) (fun q h => h) (fun u20 t H1 locs ht hvm hu20 hB hz1 hk1 hS => ?_)
                      have hP := hB.1
                      rw [ht] at hP
                      clear hB hk1 hz1 hvm ht
                      generalize H1 = H at hP hS ⊢
                      refine W.widen (k := 0) (n := 0) (Nat.le_refl 0) (Nat.le_refl 0) ?_
                      have hsp := hsp.trans (bnd_eq hu20)
                      refine lv_goto (tgt := 327) hx hb dX4_begins_315 (by decide) ?_
                      exact W.vret hx hb hr (fun t ht hW => ⟨⟨u20, rfl, hsp.symm, PM_fin hP hK ht hW⟩, hS.F ht⟩) hS.2.2 dX4_begins_327
                    · have hsp := hsp.trans (if_neg c_49)
                      have hok := hok.2 c_49
                      refine lv_tableOut (tgt := 318) hx hb dX4_begins_29 (by have e0 := lv_neT (a := 0) c_5 (by decide); have e1 := lv_neT (a := 1) c_9 (by decide); have e2 := lv_neT (a := 2) c_14 (by decide); have e3 := lv_neT (a := 3) c_18 (by decide); have e4 := lv_neT (a := 4) c_25 (by decide); have e5 := lv_neT (a := 5) c_31 (by decide); have e6 := lv_neT (a := 6) c_37 (by decide); have e7 := lv_neT (a := 7) c_45 (by decide); have e8 := lv_neT (a := 8) c_47 (by decide); have e9 := lv_neT (a := 9) c_49 (by decide); omega) (by decide) ?_
                      refine lv_aload_n hx hb dX4_begins_318 rfl (lv_at hl 3 rfl) ?_
                      refine lv_iload_n hx hb dX4_begins_319 rfl (lv_at hl 4 rfl) ?_
                      refine lv_iload_n hx hb dX4_begins_320 rfl (lv_at hl 5 rfl) ?_
                      refine lv_iload_n hx hb dX4_begins_321 rfl (lv_at hl 2 rfl) ?_
                      refine lv_iload hx hb dX4_begins_322 (lv_at hl 1 rfl) ?_
                      have h_51 := hok.1
                      have hok := hok.2
                      refine va_callv (va_runV (As := [.int p1, .int p2, .int y1, .int y2]) (rest := []) ⟨hx, hb, hml, hown, hts⟩ (cM_plain l D q cI cL hq u p1 p2 y1 y2 h_51) (cwV 4 hts gX4_begins_X4_plain rfl rfl rfl (by decide +kernel) ⟨(Nat.le_of_ble_eq_true rfl), (Nat.le_of_ble_eq_true rfl)⟩) ⟨PM_blind, va_recv hK hP (ci := 7) (q0 := 0) rfl rfl, fun U hU hW => ⟨rfl, PM_fin hP hK hU hW⟩⟩ rfl rfl hl.1 rfl (lv_room (Nat.le_of_ble_eq_true rfl)) dX4_begins_324 ⟨(Nat.le_of_ble_eq_true rfl), (Nat.le_of_ble_eq_true rfl)⟩) hS (fun q _ h => h) (fun q h => h) (fun u21 t H1 locs ht hvm hu21 hB hz1 hk1 hS => ?_)
                      have hP := hB.1
                      rw [ht] at hP
                      clear hB hk1 hz1 hvm ht
                      generalize H1 = H at hP hS ⊢
                      refine W.widen (k := 0) (n := 0) (Nat.le_refl 0) (Nat.le_refl 0) ?_
                      exact W.vret hx hb hr (fun t ht hW => ⟨⟨u21, rfl, (hu21.trans hsp.symm), PM_fin hP hK ht hW⟩, hS.F ht⟩) hS.2.2 dX4_begins_327
