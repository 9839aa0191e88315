set_option maxHeartbeats 4000000 in
set_option maxRecDepth 100000 in
theorem cM_put (l : Launch) (D : va_G) (q : Nat → Nat) (cI cL : ClassId) (hq : DQ 22 q) (u : St) (p1 : Int32) (p2 : Int32) (p3 : Int32) (p4 : Int64) (hok : okM_put u p1 p2 p3 p4) : Met l yX4_put wsX4_put { frames := 2, cells := 0, slots := 0, locals := 43 } (va_Pc [.ref (q 0), .int p1, .int p2, .int p3, .long p4] (fun U => PM D q cI cL u U)) (va_Qi (fun (r : Int32) (u' : St) => (r, u') = sM_put u p1 p2 p3 p4) (fun u' t => PM D q cI cL u' t) (AQ 22 q)) 0 0 (AQ 22 q) := by
  refine Met.ofW (cc := cX4_put) (maxL := 6) (ret := (some .int)) (by decide) rfl ?_
  intro p e s m args below meth c s₁ B hml hv
  obtain ⟨rfl, hP, hK⟩ := hv
  have hx := B.exec
  have hb := B.bytes
  have hr := B.returns
  have hts := atoms_spec (ws := wsX4_put) B.pre
  have hown : s.vm.findClass RX4 = some m.cls := findClass_of_methodNamed B.named
  have hlocks := B.notSynchronized
  have hiX4 : ∀ w ∈ u_ws RX4 TX4 29, w ∈ wsX4_put := by decide +kernel
  have hf74 := hts (.fieldLink RX4 74 "ThingRulesModel" "thrown" "I") (by decide +kernel)
  have hf16 := hts (.fieldLink RX4 16 "ThingRulesModel" "size" "[I") (by decide +kernel)
  have hf19 := hts (.fieldLink RX4 19 "ThingRulesModel" "number" "[J") (by decide +kernel)
  have hS : va_S (AQ 22 q) s.heap s.heap [] := va_S.rf
  have hP : va_P D vwCl (wM q cI cL u) s.heap := hP
  have hl := lv_entry ([.ref (q 0), .int p1, .int p2, .int p3, .long p4]) (n := 6) (Nat.le_of_ble_eq_true rfl)
  rw [lg_entry_eq]
  generalize (lg_sl ([.ref (q 0), .int p1, .int p2, .int p3, .long p4]) ++ List.replicate (6 - (lg_sl ([.ref (q 0), .int p1, .int p2, .int p3, .long p4])).length) Slot.unset).toArray = ls at hl ⊢
  have hl : lv_has ls 6 [(0, .ref (q 0)), (1, .int p1), (2, .int p2), (3, .int p3), (4, .long p4)] := hl
  have hsp : sM_put u p1 p2 p3 p4 = _ := sM_put.eq_1 u p1 p2 p3 p4
  unfold okM_put at hok
  refine lv_aload_n hx hb dX4_put_0 rfl (lv_at hl 0 rfl) ?_
  refine lv_iconst (v := 0) hx hb dX4_put_1 (by decide) ?_
  refine va_put (D := D) (ci := 7) (v := .int 0) (ty := .int) (C := RX4) (T := TX4) (N := 29) hx hb hts hiX4 tyX4 tyX4_ok nmX4 hown hK hP (dM hq) hS 0 rfl rfl 0 (by decide) hf74 (fun _ h9 => h9) rfl (by decide +kernel) rfl rfl (Nat.le_of_ble_eq_true rfl) dX4_put_2 (fun H locs hP _ hS => ?_)
  obtain ⟨u1, hu1⟩ : ∃ z : St, z = (stI u 0 0) := ⟨_, rfl⟩
  have hP : va_P D vwCl (wM q cI cL u1) H := by rw [hu1]; exact hP
  have hsp := hsp.trans (bnd_eq hu1)
  have hok := bnd_ok hu1 hok
  refine lv_aload_n hx hb dX4_put_5 rfl (lv_at hl 0 rfl) ?_
  refine lv_iload_n hx hb dX4_put_6 rfl (lv_at hl 1 rfl) ?_
  refine vp_callSi (W.runV (As := [.int p1]) (rest := []) ⟨hx, hb, hml, hown, hts⟩ (cM_isThing l D q cI cL u1 p1) (cwV 1 hts gX4_put_X4_isThing rfl rfl rfl (by decide +kernel) ⟨(Nat.le_of_ble_eq_true rfl), (Nat.le_of_ble_eq_true rfl)⟩) ⟨PM_blind, va_recv hK hP (ci := 7) (q0 := 0) rfl rfl, fun U hU hW => ⟨rfl, PM_fin hP hK hU hW⟩⟩ rfl rfl hl.1 rfl (lv_room (Nat.le_of_ble_eq_true rfl)) dX4_put_7 ⟨(Nat.le_of_ble_eq_true rfl), (Nat.le_of_ble_eq_true rfl)⟩) (fun r_1 hr_1 => ?_)
  subst hr_1
  refine lv_if_ne (tgt := 15) hx hb dX4_put_10 (by decide) (fun c_2 => ?_) (fun c_2 => ?_)
  · have hsp := hsp.trans (if_neg c_2)
    have hok := hok.2 c_2
    refine lv_iload_n hx hb dX4_put_15 rfl (lv_at hl 2 rfl) ?_
    refine lv_iconst (v := 4) hx hb dX4_put_16 (by decide) ?_
    refine lv_bipush (v := 6) hx hb dX4_put_17 (by decide) ?_
    refine vp_callSi (W.runS (As := [.int p2, .int 4, .int 6]) (rest := []) ⟨hx, hb, hml, hown, hts⟩ (cM_in l p2 4 6) (va_cwS 3 hts gX4_put_X4_in rfl rfl rfl (by decide +kernel) ⟨(Nat.le_of_ble_eq_true rfl), (Nat.le_of_ble_eq_true rfl)⟩) ⟨T_blind, fun U hU hW => ⟨rfl, trivial⟩⟩ rfl rfl hl.1 rfl (lv_room (Nat.le_of_ble_eq_true rfl)) dX4_put_19 ⟨(Nat.le_of_ble_eq_true rfl), (Nat.le_of_ble_eq_true rfl)⟩) (fun r_3 hr_3 => ?_)
    subst hr_3
    refine lv_if_ne (tgt := 28) hx hb dX4_put_22 (by decide) (fun c_4 => ?_) (fun c_4 => ?_)
    · have hsp := hsp.trans (if_neg c_4)
      have hok := hok.2 c_4
      refine lv_aload_n hx hb dX4_put_28 rfl (lv_at hl 0 rfl) ?_
      refine lv_iload_n hx hb dX4_put_29 rfl (lv_at hl 1 rfl) ?_
      refine lv_iload_n hx hb dX4_put_30 rfl (lv_at hl 2 rfl) ?_
      have h_5 := hok.1
      have hok := hok.2
      refine vp_callSi (W.runV (As := [.int p1, .int p2]) (rest := []) ⟨hx, hb, hml, hown, hts⟩ (cM_isA l D q cI cL u1 p1 p2 h_5) (cwV 2 hts gX4_put_X4_isA rfl rfl rfl (by decide +kernel) ⟨(Nat.le_of_ble_eq_true rfl), (Nat.le_of_ble_eq_true rfl)⟩) ⟨PM_blind, va_recv hK hP (ci := 7) (q0 := 0) rfl rfl, fun U hU hW => ⟨rfl, PM_fin hP hK hU hW⟩⟩ rfl rfl hl.1 rfl (lv_room (Nat.le_of_ble_eq_true rfl)) dX4_put_31 ⟨(Nat.le_of_ble_eq_true rfl), (Nat.le_of_ble_eq_true rfl)⟩) (fun r_6 hr_6 => ?_)
      subst hr_6
      refine lv_if_ne (tgt := 44) hx hb dX4_put_34 (by decide) (fun c_7 => ?_) (fun c_7 => ?_)
      · have hsp := hsp.trans (if_neg c_7)
        have hok := hok.2 c_7
        refine lv_iload_n hx hb dX4_put_44 rfl (lv_at hl 3 rfl) ?_
        refine lv_iconst (v := 0) hx hb dX4_put_45 (by decide) ?_
        refine lv_aload_n hx hb dX4_put_46 rfl (lv_at hl 0 rfl) ?_
        refine va_get (D := D) (ci := 7) (v := .ref (q 3)) (C := RX4) (T := TX4) (N := 29) hx hb hts hiX4 hown hK hP 0 rfl rfl 4 (by decide) hf16 (fun _ h9 => h9) rfl dX4_put_47 ?_
        refine lv_iload_n hx hb dX4_put_50 rfl (lv_at hl 1 rfl) ?_
        have h_8 := hok.1
        have hok := hok.2
        refine va_iald hx hb hK hP 3 0 rfl rfl h_8 dX4_put_51 ?_
        refine lv_iconst (v := 1) hx hb dX4_put_52 (by decide) ?_
        refine lv_isub hx hb dX4_put_53 ?_
        refine vp_callSi (W.runS (As := [.int p3, .int 0, .int ((u1.2.1 3 p1.toNatClampNeg) - 1)]) (rest := []) ⟨hx, hb, hml, hown, hts⟩ (cM_in l p3 0 ((u1.2.1 3 p1.toNatClampNeg) - 1)) (va_cwS 3 hts gX4_put_X4_in rfl rfl rfl (by decide +kernel) ⟨(Nat.le_of_ble_eq_true rfl), (Nat.le_of_ble_eq_true rfl)⟩) ⟨T_blind, fun U hU hW => ⟨rfl, trivial⟩⟩ rfl rfl hl.1 rfl (lv_room (Nat.le_of_ble_eq_true rfl)) dX4_put_54 ⟨(Nat.le_of_ble_eq_true rfl), (Nat.le_of_ble_eq_true rfl)⟩) (fun r_9 hr_9 => ?_)
        subst hr_9
        refine lv_if_ne (tgt := 67) hx hb dX4_put_57 (by decide) (fun c_10 => ?_) (fun c_10 => ?_)
        · have hsp := hsp.trans (if_neg c_10)
          have hok := hok.2 c_10
          refine lv_aload_n hx hb dX4_put_67 rfl (lv_at hl 0 rfl) ?_
          refine va_get (D := D) (ci := 7) (v := .ref (q 4)) (C := RX4) (T := TX4) (N := 29) hx hb hts hiX4 hown hK hP 0 rfl rfl 5 (by decide) hf19 (fun _ h9 => h9) rfl dX4_put_68 ?_
          refine lv_bipush (v := 6) hx hb dX4_put_71 (by decide) ?_
          refine lv_iload_n hx hb dX4_put_73 rfl (lv_at hl 1 rfl) ?_
          refine lv_imul hx hb dX4_put_74 ?_
          refine lv_iload_n hx hb dX4_put_75 rfl (lv_at hl 3 rfl) ?_
          refine lv_iadd hx hb dX4_put_76 ?_
          refine lv_iload_n hx hb dX4_put_77 rfl (lv_at hl 2 rfl) ?_
          refine lv_iconst (v := 4) hx hb dX4_put_78 (by decide) ?_
          refine lv_icmp_ne (tgt := 89) hx hb dX4_put_79 (by decide) (fun c_11 => ?_) (fun c_11 => ?_)
          · have hsp := hsp.trans (if_neg c_11)
            have hok := hok.2 c_11
            refine lv_iload_n hx hb dX4_put_89 rfl (lv_at hl 2 rfl) ?_
            refine lv_iconst (v := 5) hx hb dX4_put_90 (by decide) ?_
            refine lv_icmp_ne (tgt := 99) hx hb dX4_put_91 (by decide) (fun c_12 => ?_) (fun c_12 => ?_)
            · have hsp := hsp.trans (if_neg c_12)
              have hok := hok.2 c_12
              refine lv_lload hx hb dX4_put_99 (lv_at hl 4 rfl) ?_
              refine lv_ldc2 (v := 65535) hx hb hown (hts (.constantLong RX4 120 65535) (by decide +kernel)) dX4_put_101 ?_
              refine lv_land hx hb dX4_put_104 ?_
              have h_13 := hok.1
              have hok := hok.2
              refine va_last hx hb hK hP (dM hq) hS 4 1 rfl rfl h_13 dX4_put_105 (fun H locs hP _ hS => ?_)
              obtain ⟨u2, hu2⟩ : ∃ z : St, z = (stL u1 ((6 * p1) + p3).toNatClampNeg (p4 &&& 65535)) := ⟨_, rfl⟩
              have hP : va_P D vwCl (wM q cI cL u2) H := by rw [hu2]; exact hP
              have hsp := hsp.trans (bnd_eq hu2)
              refine lv_iconst (v := 1) hx hb dX4_put_106 (by decide) ?_
              exact W.iret (v := 1) hx hb hr (fun t ht hW => ⟨⟨1, u2, rfl, hsp.symm, PM_fin hP hK ht hW⟩, hS.F ht⟩) hS.2.2 dX4_put_107
            · have hsp := hsp.trans (if_pos c_12)
              have hok := hok.1 c_12
              refine lv_lload hx hb dX4_put_94 (lv_at hl 4 rfl) ?_
              refine lv_goto (tgt := 105) hx hb dX4_put_96 (by decide) ?_
              have h_14 := hok.1
              have hok := hok.2
              refine va_last hx hb hK hP (dM hq) hS 4 1 rfl rfl h_14 dX4_put_105 (fun H locs hP _ hS => ?_)
              obtain ⟨u3, hu3⟩ : ∃ z : St, z = (stL u1 ((6 * p1) + p3).toNatClampNeg p4) := ⟨_, rfl⟩
              have hP : va_P D vwCl (wM q cI cL u3) H := by rw [hu3]; exact hP
              have hsp := hsp.trans (bnd_eq hu3)
              refine lv_iconst (v := 1) hx hb dX4_put_106 (by decide) ?_
              exact W.iret (v := 1) hx hb hr (fun t ht hW => ⟨⟨1, u3, rfl, hsp.symm, PM_fin hP hK ht hW⟩, hS.F ht⟩) hS.2.2 dX4_put_107
          · have hsp := hsp.trans (if_pos c_11)
            have hok := hok.1 c_11
            refine lv_lload hx hb dX4_put_82 (lv_at hl 4 rfl) ?_
            refine lv_l2i (v := (p4.toInt32)) hx hb dX4_put_84 rfl ?_
            refine lv_i2l (v := (((p4.toInt32) : Int32).toInt64)) hx hb dX4_put_85 rfl ?_
            refine lv_goto (tgt := 105) hx hb dX4_put_86 (by decide) ?_
            have h_15 := hok.1
            have hok := hok.2
            refine va_last hx hb hK hP (dM hq) hS 4 1 rfl rfl h_15 dX4_put_105 (fun H locs hP _ hS => ?_)
            obtain ⟨u4, hu4⟩ : ∃ z : St, z = (stL u1 ((6 * p1) + p3).toNatClampNeg (((p4.toInt32) : Int32).toInt64)) := ⟨_, rfl⟩
            have hP : va_P D vwCl (wM q cI cL u4) H := by rw [hu4]; exact hP
            have hsp := hsp.trans (bnd_eq hu4)
            refine lv_iconst (v := 1) hx hb dX4_put_106 (by decide) ?_
            exact W.iret (v := 1) hx hb hr (fun t ht hW => ⟨⟨1, u4, rfl, hsp.symm, PM_fin hP hK ht hW⟩, hS.F ht⟩) hS.2.2 dX4_put_107
        · have hsp := hsp.trans (if_pos c_10)
          have hok := hok.1 c_10
          refine lv_aload_n hx hb dX4_put_60 rfl (lv_at hl 0 rfl) ?_
          refine lv_bipush (v := (-23)) hx hb dX4_put_61 (by decide) ?_
          have h_16 := hok.1
          have hok := hok.2
          refine va_calli (va_runV (As := [.int (-23)]) (rest := []) ⟨hx, hb, hml, hown, hts⟩ (cM_finds l D q cI cL hq u1 (-23) h_16) (cwV 1 hts gX4_put_X4_finds rfl rfl rfl (by decide +kernel) ⟨(Nat.le_of_ble_eq_true rfl), (Nat.le_of_ble_eq_true rfl)⟩) ⟨PM_blind, va_recv hK hP (ci := 7) (q0 := 0) rfl rfl, fun U hU hW => ⟨rfl, PM_fin hP hK hU hW⟩⟩ rfl rfl hl.1 rfl (lv_room (Nat.le_of_ble_eq_true rfl)) dX4_put_63 ⟨(Nat.le_of_ble_eq_true rfl), (Nat.le_of_ble_eq_true rfl)⟩) hS (fun q _ h => h) (fun q h => h) (fun r5 u5 t H1 locs ht hvm hu5 hB hz1 hk1 hS => ?_)
          have hP := hB.1
          rw [ht] at hP
          clear hB hk1 hz1 hvm ht
          generalize H1 = H at hP hS ⊢
          refine W.widen (k := 0) (n := 0) (Nat.le_refl 0) (Nat.le_refl 0) ?_
          exact W.iret (v := r5) hx hb hr (fun t ht hW => ⟨⟨r5, u5, rfl, (hu5.trans hsp.symm), PM_fin hP hK ht hW⟩, hS.F ht⟩) hS.2.2 dX4_put_66
      · have hsp := hsp.trans (if_pos c_7)
        have hok := hok.1 c_7
        refine lv_aload_n hx hb dX4_put_37 rfl (lv_at hl 0 rfl) ?_
        refine lv_bipush (v := (-21)) hx hb dX4_put_38 (by decide) ?_
        have h_17 := hok.1
        have hok := hok.2
        refine va_calli (va_runV (As := [.int (-21)]) (rest := []) ⟨hx, hb, hml, hown, hts⟩ (cM_finds l D q cI cL hq u1 (-21) h_17) (cwV 1 hts gX4_put_X4_finds rfl rfl rfl (by decide +kernel) ⟨(Nat.le_of_ble_eq_true rfl), (Nat.le_of_ble_eq_true rfl)⟩) ⟨PM_blind, va_recv hK hP (ci := 7) (q0 := 0) rfl rfl, fun U hU hW => ⟨rfl, PM_fin hP hK hU hW⟩⟩ rfl rfl hl.1 rfl (lv_room (Nat.le_of_ble_eq_true rfl)) dX4_put_40 ⟨(Nat.le_of_ble_eq_true rfl), (Nat.le_of_ble_eq_true rfl)⟩) hS (fun q _ h => h) (fun q h => h) (fun r6 u6 t H1 locs ht hvm hu6 hB hz1 hk1 hS => ?_)
        have hP := hB.1
        rw [ht] at hP
        clear hB hk1 hz1 hvm ht
        generalize H1 = H at hP hS ⊢
        refine W.widen (k := 0) (n := 0) (Nat.le_refl 0) (Nat.le_refl 0) ?_
        exact W.iret (v := r6) hx hb hr (fun t ht hW => ⟨⟨r6, u6, rfl, (hu6.trans hsp.symm), PM_fin hP hK ht hW⟩, hS.F ht⟩) hS.2.2 dX4_put_43
    · have hsp := hsp.trans (if_pos c_4)
      refine lv_bipush (v := (-2)) hx hb dX4_put_25 (by decide) ?_
      exact W.iret (v := (-2)) hx hb hr (fun t ht hW => ⟨⟨(-2), u1, rfl, hsp.symm, PM_fin hP hK ht hW⟩, hS.F ht⟩) hS.2.2 dX4_put_27
  · have hsp := hsp.trans (if_pos c_2)
    refine lv_iconst (v := (-1)) hx hb dX4_put_13 (by decide) ?_
    exact W.iret (v := (-1)) hx hb hr (fun t ht hW => ⟨⟨(-1), u1, rfl, hsp.symm, PM_fin hP hK ht hW⟩, hS.F ht⟩) hS.2.2 dX4_put_14
set_option maxHeartbeats 4000000 in
set_option maxRecDepth 100000 in
theorem cM_number (l : Launch) (D : va_G) (q : Nat → Nat) (cI cL : ClassId) (hq : DQ 22 q) (u : St) (p1 : Int32) (p2 : Int32) (p3 : Int32) (hok : okM_number u p1 p2 p3) : Met l yX4_number wsX4_number { frames := 2, cells := 0, slots := 0, locals := 43 } (va_Pc [.ref (q 0), .int p1, .int p2, .int p3] (fun U => PM D q cI cL u U)) (va_Ql (fun (r : Int64) (u' : St) => (r, u') = sM_number u p1 p2 p3) (fun u' t => PM D q cI cL u' t) (AQ 22 q)) 0 0 (AQ 22 q) := by
  refine Met.ofW (cc := cX4_number) (maxL := 4) (ret := (some .long)) (by decide) rfl ?_
  intro p e s m args below meth c s₁ B hml hv
  obtain ⟨rfl, hP, hK⟩ := hv
  have hx := B.exec
  have hb := B.bytes
  have hr := B.returns
  have hts := atoms_spec (ws := wsX4_number) B.pre
  have hown : s.vm.findClass RX4 = some m.cls := findClass_of_methodNamed B.named
  have hlocks := B.notSynchronized
  have hiX4 : ∀ w ∈ u_ws RX4 TX4 29, w ∈ wsX4_number := by decide +kernel
  have hf74 := hts (.fieldLink RX4 74 "ThingRulesModel" "thrown" "I") (by decide +kernel)
  have hf16 := hts (.fieldLink RX4 16 "ThingRulesModel" "size" "[I") (by decide +kernel)
  have hf19 := hts (.fieldLink RX4 19 "ThingRulesModel" "number" "[J") (by decide +kernel)
  have hS : va_S (AQ 22 q) s.heap s.heap [] := va_S.rf
  have hP : va_P D vwCl (wM q cI cL u) s.heap := hP
  have hl := lv_entry ([.ref (q 0), .int p1, .int p2, .int p3]) (n := 4) (Nat.le_of_ble_eq_true rfl)
  rw [lg_entry_eq]
  generalize (lg_sl ([.ref (q 0), .int p1, .int p2, .int p3]) ++ List.replicate (4 - (lg_sl ([.ref (q 0), .int p1, .int p2, .int p3])).length) Slot.unset).toArray = ls at hl ⊢
  have hl : lv_has ls 4 [(0, .ref (q 0)), (1, .int p1), (2, .int p2), (3, .int p3)] := hl
  have hsp : sM_number u p1 p2 p3 = _ := sM_number.eq_1 u p1 p2 p3
  unfold okM_number at hok
  refine lv_aload_n hx hb dX4_number_0 rfl (lv_at hl 0 rfl) ?_
  refine lv_iconst (v := 0) hx hb dX4_number_1 (by decide) ?_
  refine va_put (D := D) (ci := 7) (v := .int 0) (ty := .int) (C := RX4) (T := TX4) (N := 29) hx hb hts hiX4 tyX4 tyX4_ok nmX4 hown hK hP (dM hq) hS 0 rfl rfl 0 (by decide) hf74 (fun _ h9 => h9) rfl (by decide +kernel) rfl rfl (Nat.le_of_ble_eq_true rfl) dX4_number_2 (fun H locs hP _ hS => ?_)
  obtain ⟨u1, hu1⟩ : ∃ z : St, z = (stI u 0 0) := ⟨_, rfl⟩
  have hP : va_P D vwCl (wM q cI cL u1) H := by rw [hu1]; exact hP
  have hsp := hsp.trans (bnd_eq hu1)
  have hok := bnd_ok hu1 hok
  refine lv_aload_n hx hb dX4_number_5 rfl (lv_at hl 0 rfl) ?_
  refine lv_iload_n hx hb dX4_number_6 rfl (lv_at hl 1 rfl) ?_
  refine vp_callSi (W.runV (As := [.int p1]) (rest := []) ⟨hx, hb, hml, hown, hts⟩ (cM_isThing l D q cI cL u1 p1) (cwV 1 hts gX4_number_X4_isThing rfl rfl rfl (by decide +kernel) ⟨(Nat.le_of_ble_eq_true rfl), (Nat.le_of_ble_eq_true rfl)⟩) ⟨PM_blind, va_recv hK hP (ci := 7) (q0 := 0) rfl rfl, fun U hU hW => ⟨rfl, PM_fin hP hK hU hW⟩⟩ rfl rfl hl.1 rfl (lv_room (Nat.le_of_ble_eq_true rfl)) dX4_number_7 ⟨(Nat.le_of_ble_eq_true rfl), (Nat.le_of_ble_eq_true rfl)⟩) (fun r_1 hr_1 => ?_)
  subst hr_1
  refine lv_if_eq (tgt := 23) hx hb dX4_number_10 (by decide) (fun c_2 => ?_) (fun c_2 => ?_)
  · have hsp := hsp.trans (if_pos c_2)
    refine lv_lconst (v := 0) hx hb dX4_number_23 (by decide) ?_
    exact W.lret (v := 0) hx hb hr (fun t ht hW => ⟨⟨0, u1, rfl, hsp.symm, PM_fin hP hK ht hW⟩, hS.F ht⟩) hS.2.2 dX4_number_24
  · have hsp := hsp.trans (if_neg c_2)
    have hok := hok.2 c_2
    refine lv_iload_n hx hb dX4_number_13 rfl (lv_at hl 2 rfl) ?_
    refine lv_iconst (v := 4) hx hb dX4_number_14 (by decide) ?_
    refine lv_bipush (v := 6) hx hb dX4_number_15 (by decide) ?_
    refine vp_callSi (W.runS (As := [.int p2, .int 4, .int 6]) (rest := []) ⟨hx, hb, hml, hown, hts⟩ (cM_in l p2 4 6) (va_cwS 3 hts gX4_number_X4_in rfl rfl rfl (by decide +kernel) ⟨(Nat.le_of_ble_eq_true rfl), (Nat.le_of_ble_eq_true rfl)⟩) ⟨T_blind, fun U hU hW => ⟨rfl, trivial⟩⟩ rfl rfl hl.1 rfl (lv_room (Nat.le_of_ble_eq_true rfl)) dX4_number_17 ⟨(Nat.le_of_ble_eq_true rfl), (Nat.le_of_ble_eq_true rfl)⟩) (fun r_3 hr_3 => ?_)
    subst hr_3
    refine lv_if_ne (tgt := 25) hx hb dX4_number_20 (by decide) (fun c_4 => ?_) (fun c_4 => ?_)
    · have hsp := hsp.trans (if_neg c_4)
      have hok := hok.2 c_4
      refine lv_aload_n hx hb dX4_number_25 rfl (lv_at hl 0 rfl) ?_
      refine lv_aload_n hx hb dX4_number_26 rfl (lv_at hl 0 rfl) ?_
      refine lv_iload_n hx hb dX4_number_27 rfl (lv_at hl 1 rfl) ?_
      refine lv_iload_n hx hb dX4_number_28 rfl (lv_at hl 2 rfl) ?_
      have h_5 := hok.1
      have hok := hok.2
      refine vp_callSi (W.runV (As := [.int p1, .int p2]) (rest := [.ref (q 0)]) ⟨hx, hb, hml, hown, hts⟩ (cM_isA l D q cI cL u1 p1 p2 h_5) (cwV 2 hts gX4_number_X4_isA rfl rfl rfl (by decide +kernel) ⟨(Nat.le_of_ble_eq_true rfl), (Nat.le_of_ble_eq_true rfl)⟩) ⟨PM_blind, va_recv hK hP (ci := 7) (q0 := 0) rfl rfl, fun U hU hW => ⟨rfl, PM_fin hP hK hU hW⟩⟩ rfl rfl hl.1 rfl (lv_room (Nat.le_of_ble_eq_true rfl)) dX4_number_29 ⟨(Nat.le_of_ble_eq_true rfl), (Nat.le_of_ble_eq_true rfl)⟩) (fun r_6 hr_6 => ?_)
      subst hr_6
      refine lv_if_ne (tgt := 39) hx hb dX4_number_32 (by decide) (fun c_7 => ?_) (fun c_7 => ?_)
      · have hsp := hsp.trans (if_neg c_7)
        have hok := hok.2 c_7
        refine lv_iload_n hx hb dX4_number_39 rfl (lv_at hl 3 rfl) ?_
        refine lv_iconst (v := 0) hx hb dX4_number_40 (by decide) ?_
        refine lv_aload_n hx hb dX4_number_41 rfl (lv_at hl 0 rfl) ?_
        refine va_get (D := D) (ci := 7) (v := .ref (q 3)) (C := RX4) (T := TX4) (N := 29) hx hb hts hiX4 hown hK hP 0 rfl rfl 4 (by decide) hf16 (fun _ h9 => h9) rfl dX4_number_42 ?_
        refine lv_iload_n hx hb dX4_number_45 rfl (lv_at hl 1 rfl) ?_
        have h_8 := hok.1
        have hok := hok.2
        refine va_iald hx hb hK hP 3 0 rfl rfl h_8 dX4_number_46 ?_
        refine lv_iconst (v := 1) hx hb dX4_number_47 (by decide) ?_
        refine lv_isub hx hb dX4_number_48 ?_
        refine vp_callSi (W.runS (As := [.int p3, .int 0, .int ((u1.2.1 3 p1.toNatClampNeg) - 1)]) (rest := [.ref (q 0)]) ⟨hx, hb, hml, hown, hts⟩ (cM_in l p3 0 ((u1.2.1 3 p1.toNatClampNeg) - 1)) (va_cwS 3 hts gX4_number_X4_in rfl rfl rfl (by decide +kernel) ⟨(Nat.le_of_ble_eq_true rfl), (Nat.le_of_ble_eq_true rfl)⟩) ⟨T_blind, fun U hU hW => ⟨rfl, trivial⟩⟩ rfl rfl hl.1 rfl (lv_room (Nat.le_of_ble_eq_true rfl)) dX4_number_49 ⟨(Nat.le_of_ble_eq_true rfl), (Nat.le_of_ble_eq_true rfl)⟩) (fun r_9 hr_9 => ?_)
        subst hr_9
        refine lv_if_eq (tgt := 59) hx hb dX4_number_52 (by decide) (fun c_10 => ?_) (fun c_10 => ?_)
        · have hsp := hsp.trans (if_pos c_10)
          have hok := hok.1 c_10
          refine lv_iconst (v := 2) hx hb dX4_number_59 (by decide) ?_
          refine va_put (D := D) (ci := 7) (v := .int 2) (ty := .int) (C := RX4) (T := TX4) (N := 29) hx hb hts hiX4 tyX4 tyX4_ok nmX4 hown hK hP (dM hq) hS 0 rfl rfl 0 (by decide) hf74 (fun _ h9 => h9) rfl (by decide +kernel) rfl rfl (Nat.le_of_ble_eq_true rfl) dX4_number_60 (fun H locs hP _ hS => ?_)
          obtain ⟨u2, hu2⟩ : ∃ z : St, z = (stI u1 0 2) := ⟨_, rfl⟩
          have hP : va_P D vwCl (wM q cI cL u2) H := by rw [hu2]; exact hP
          have hsp := hsp.trans (bnd_eq hu2)
          have hok := bnd_ok hu2 hok
          refine lv_aload_n hx hb dX4_number_63 rfl (lv_at hl 0 rfl) ?_
          refine va_get (D := D) (ci := 7) (v := .int (u2.1 0)) (C := RX4) (T := TX4) (N := 29) hx hb hts hiX4 hown hK hP 0 rfl rfl 0 (by decide) hf74 (fun _ h9 => h9) rfl dX4_number_64 ?_
          refine lv_if_ne (tgt := 84) hx hb dX4_number_67 (by decide) (fun c_11 => ?_) (fun c_11 => ?_)
          · have hsp := hsp.trans (if_neg c_11)
            refine lv_lconst (v := 0) hx hb dX4_number_84 (by decide) ?_
            exact W.lret (v := 0) hx hb hr (fun t ht hW => ⟨⟨0, u2, rfl, hsp.symm, PM_fin hP hK ht hW⟩, hS.F ht⟩) hS.2.2 dX4_number_85
          · have hsp := hsp.trans (if_pos c_11)
            have hok := hok.1 c_11
            refine lv_aload_n hx hb dX4_number_70 rfl (lv_at hl 0 rfl) ?_
            refine va_get (D := D) (ci := 7) (v := .ref (q 4)) (C := RX4) (T := TX4) (N := 29) hx hb hts hiX4 hown hK hP 0 rfl rfl 5 (by decide) hf19 (fun _ h9 => h9) rfl dX4_number_71 ?_
            refine lv_bipush (v := 6) hx hb dX4_number_74 (by decide) ?_
            refine lv_iload_n hx hb dX4_number_76 rfl (lv_at hl 1 rfl) ?_
            refine lv_imul hx hb dX4_number_77 ?_
            refine lv_iload_n hx hb dX4_number_78 rfl (lv_at hl 3 rfl) ?_
            refine lv_iadd hx hb dX4_number_79 ?_
            have h_12 := hok.1
            have hok := hok.2
            refine va_lald hx hb hK hP 4 1 rfl rfl h_12 dX4_number_80 ?_
            refine lv_goto (tgt := 85) hx hb dX4_number_81 (by decide) ?_
            exact W.lret (v := (u2.2.2 ((6 * p1) + p3).toNatClampNeg)) hx hb hr (fun t ht hW => ⟨⟨(u2.2.2 ((6 * p1) + p3).toNatClampNeg), u2, rfl, hsp.symm, PM_fin hP hK ht hW⟩, hS.F ht⟩) hS.2.2 dX4_number_85
        · have hsp := hsp.trans (if_neg c_10)
          have hok := hok.2 c_10
          refine lv_iconst (v := 0) hx hb dX4_number_55 (by decide) ?_
          refine lv_goto (tgt := 60) hx hb dX4_number_56 (by decide) ?_
          refine va_put (D := D) (ci := 7) (v := .int 0) (ty := .int) (C := RX4) (T := TX4) (N := 29) hx hb hts hiX4 tyX4 tyX4_ok nmX4 hown hK hP (dM hq) hS 0 rfl rfl 0 (by decide) hf74 (fun _ h9 => h9) rfl (by decide +kernel) rfl rfl (Nat.le_of_ble_eq_true rfl) dX4_number_60 (fun H locs hP _ hS => ?_)
          obtain ⟨u3, hu3⟩ : ∃ z : St, z = (stI u1 0 0) := ⟨_, rfl⟩
          have hP : va_P D vwCl (wM q cI cL u3) H := by rw [hu3]; exact hP
          have hsp := hsp.trans (bnd_eq hu3)
          have hok := bnd_ok hu3 hok
          refine lv_aload_n hx hb dX4_number_63 rfl (lv_at hl 0 rfl) ?_
          refine va_get (D := D) (ci := 7) (v := .int (u3.1 0)) (C := RX4) (T := TX4) (N := 29) hx hb hts hiX4 hown hK hP 0 rfl rfl 0 (by decide) hf74 (fun _ h9 => h9) rfl dX4_number_64 ?_
          refine lv_if_ne (tgt := 84) hx hb dX4_number_67 (by decide) (fun c_13 => ?_) (fun c_13 => ?_)
          · have hsp := hsp.trans (if_neg c_13)
            refine lv_lconst (v := 0) hx hb dX4_number_84 (by decide) ?_
            exact W.lret (v := 0) hx hb hr (fun t ht hW => ⟨⟨0, u3, rfl, hsp.symm, PM_fin hP hK ht hW⟩, hS.F ht⟩) hS.2.2 dX4_number_85
          · have hsp := hsp.trans (if_pos c_13)
            have hok := hok.1 c_13
            refine lv_aload_n hx hb dX4_number_70 rfl (lv_at hl 0 rfl) ?_
            refine va_get (D := D) (ci := 7) (v := .ref (q 4)) (C := RX4) (T := TX4) (N := 29) hx hb hts hiX4 hown hK hP 0 rfl rfl 5 (by decide) hf19 (fun _ h9 => h9) rfl dX4_number_71 ?_
            refine lv_bipush (v := 6) hx hb dX4_number_74 (by decide) ?_
            refine lv_iload_n hx hb dX4_number_76 rfl (lv_at hl 1 rfl) ?_
            refine lv_imul hx hb dX4_number_77 ?_
            refine lv_iload_n hx hb dX4_number_78 rfl (lv_at hl 3 rfl) ?_
            refine lv_iadd hx hb dX4_number_79 ?_
            have h_14 := hok.1
            have hok := hok.2
            refine va_lald hx hb hK hP 4 1 rfl rfl h_14 dX4_number_80 ?_
            refine lv_goto (tgt := 85) hx hb dX4_number_81 (by decide) ?_
            exact W.lret (v := (u3.2.2 ((6 * p1) + p3).toNatClampNeg)) hx hb hr (fun t ht hW => ⟨⟨(u3.2.2 ((6 * p1) + p3).toNatClampNeg), u3, rfl, hsp.symm, PM_fin hP hK ht hW⟩, hS.F ht⟩) hS.2.2 dX4_number_85
      · have hsp := hsp.trans (if_pos c_7)
        have hok := hok.1 c_7
        refine lv_iconst (v := 1) hx hb dX4_number_35 (by decide) ?_
        refine lv_goto (tgt := 60) hx hb dX4_number_36 (by decide) ?_
        refine va_put (D := D) (ci := 7) (v := .int 1) (ty := .int) (C := RX4) (T := TX4) (N := 29) hx hb hts hiX4 tyX4 tyX4_ok nmX4 hown hK hP (dM hq) hS 0 rfl rfl 0 (by decide) hf74 (fun _ h9 => h9) rfl (by decide +kernel) rfl rfl (Nat.le_of_ble_eq_true rfl) dX4_number_60 (fun H locs hP _ hS => ?_)
        obtain ⟨u4, hu4⟩ : ∃ z : St, z = (stI u1 0 1) := ⟨_, rfl⟩
        have hP : va_P D vwCl (wM q cI cL u4) H := by rw [hu4]; exact hP
        have hsp := hsp.trans (bnd_eq hu4)
        have hok := bnd_ok hu4 hok
        refine lv_aload_n hx hb dX4_number_63 rfl (lv_at hl 0 rfl) ?_
        refine va_get (D := D) (ci := 7) (v := .int (u4.1 0)) (C := RX4) (T := TX4) (N := 29) hx hb hts hiX4 hown hK hP 0 rfl rfl 0 (by decide) hf74 (fun _ h9 => h9) rfl dX4_number_64 ?_
        refine lv_if_ne (tgt := 84) hx hb dX4_number_67 (by decide) (fun c_15 => ?_) (fun c_15 => ?_)
        · have hsp := hsp.trans (if_neg c_15)
          refine lv_lconst (v := 0) hx hb dX4_number_84 (by decide) ?_
          exact W.lret (v := 0) hx hb hr (fun t ht hW => ⟨⟨0, u4, rfl, hsp.symm, PM_fin hP hK ht hW⟩, hS.F ht⟩) hS.2.2 dX4_number_85
        · have hsp := hsp.trans (if_pos c_15)
          have hok := hok.1 c_15
          refine lv_aload_n hx hb dX4_number_70 rfl (lv_at hl 0 rfl) ?_
          refine va_get (D := D) (ci := 7) (v := .ref (q 4)) (C := RX4) (T := TX4) (N := 29) hx hb hts hiX4 hown hK hP 0 rfl rfl 5 (by decide) hf19 (fun _ h9 => h9) rfl dX4_number_71 ?_
          refine lv_bipush (v := 6) hx hb dX4_number_74 (by decide) ?_
          refine lv_iload_n hx hb dX4_number_76 rfl (lv_at hl 1 rfl) ?_
          refine lv_imul hx hb dX4_number_77 ?_
          refine lv_iload_n hx hb dX4_number_78 rfl (lv_at hl 3 rfl) ?_
          refine lv_iadd hx hb dX4_number_79 ?_
          have h_16 := hok.1
          have hok := hok.2
          refine va_lald hx hb hK hP 4 1 rfl rfl h_16 dX4_number_80 ?_
          refine lv_goto (tgt := 85) hx hb dX4_number_81 (by decide) ?_
          exact W.lret (v := (u4.2.2 ((6 * p1) + p3).toNatClampNeg)) hx hb hr (fun t ht hW => ⟨⟨(u4.2.2 ((6 * p1) + p3).toNatClampNeg), u4, rfl, hsp.symm, PM_fin hP hK ht hW⟩, hS.F ht⟩) hS.2.2 dX4_number_85
    · have hsp := hsp.trans (if_pos c_4)
      refine lv_lconst (v := 0) hx hb dX4_number_23 (by decide) ?_
      exact W.lret (v := 0) hx hb hr (fun t ht hW => ⟨⟨0, u1, rfl, hsp.symm, PM_fin hP hK ht hW⟩, hS.F ht⟩) hS.2.2 dX4_number_24
set_option maxHeartbeats 4000000 in
set_option maxRecDepth 100000 in
theorem cM_at (l : Launch) (D : va_G) (q : Nat → Nat) (cI cL : ClassId) (hq : DQ 22 q) (u : St) (p1 : Int32) (p2 : Int32) (p3 : Int32) (hok : okM_at u p1 p2 p3) : Met l yX4_at wsX4_at { frames := 2, cells := 0, slots := 0, locals := 43 } (va_Pc [.ref (q 0), .int p1, .int p2, .int p3] (fun U => PM D q cI cL u U)) (va_Qi (fun (r : Int32) (u' : St) => (r, u') = sM_at u p1 p2 p3) (fun u' t => PM D q cI cL u' t) (AQ 22 q)) 0 0 (AQ 22 q) := by
  refine Met.ofW (cc := cX4_at) (maxL := 4) (ret := (some .int)) (by decide) rfl ?_
  intro p e s m args below meth c s₁ B hml hv
  obtain ⟨rfl, hP, hK⟩ := hv
  have hx := B.exec
  have hb := B.bytes
  have hr := B.returns
  have hts := atoms_spec (ws := wsX4_at) B.pre
  have hown : s.vm.findClass RX4 = some m.cls := findClass_of_methodNamed B.named
  have hlocks := B.notSynchronized
  have hiX4 : ∀ w ∈ u_ws RX4 TX4 29, w ∈ wsX4_at := by decide +kernel
  have hf74 := hts (.fieldLink RX4 74 "ThingRulesModel" "thrown" "I") (by decide +kernel)
  have hf16 := hts (.fieldLink RX4 16 "ThingRulesModel" "size" "[I") (by decide +kernel)
  have hf23 := hts (.fieldLink RX4 23 "ThingRulesModel" "piece" "[I") (by decide +kernel)
  have hS : va_S (AQ 22 q) s.heap s.heap [] := va_S.rf
  have hP : va_P D vwCl (wM q cI cL u) s.heap := hP
  have hl := lv_entry ([.ref (q 0), .int p1, .int p2, .int p3]) (n := 4) (Nat.le_of_ble_eq_true rfl)
  rw [lg_entry_eq]
  generalize (lg_sl ([.ref (q 0), .int p1, .int p2, .int p3]) ++ List.replicate (4 - (lg_sl ([.ref (q 0), .int p1, .int p2, .int p3])).length) Slot.unset).toArray = ls at hl ⊢
  have hl : lv_has ls 4 [(0, .ref (q 0)), (1, .int p1), (2, .int p2), (3, .int p3)] := hl
  have hsp : sM_at u p1 p2 p3 = _ := sM_at.eq_1 u p1 p2 p3
  unfold okM_at at hok
  refine lv_aload_n hx hb dX4_at_0 rfl (lv_at hl 0 rfl) ?_
  refine lv_iconst (v := 0) hx hb dX4_at_1 (by decide) ?_
  refine va_put (D := D) (ci := 7) (v := .int 0) (ty := .int) (C := RX4) (T := TX4) (N := 29) hx hb hts hiX4 tyX4 tyX4_ok nmX4 hown hK hP (dM hq) hS 0 rfl rfl 0 (by decide) hf74 (fun _ h9 => h9) rfl (by decide +kernel) rfl rfl (Nat.le_of_ble_eq_true rfl) dX4_at_2 (fun H locs hP _ hS => ?_)
  obtain ⟨u1, hu1⟩ : ∃ z : St, z = (stI u 0 0) := ⟨_, rfl⟩
  have hP : va_P D vwCl (wM q cI cL u1) H := by rw [hu1]; exact hP
  have hsp := hsp.trans (bnd_eq hu1)
  have hok := bnd_ok hu1 hok
  refine lv_aload_n hx hb dX4_at_5 rfl (lv_at hl 0 rfl) ?_
  refine lv_iload_n hx hb dX4_at_6 rfl (lv_at hl 1 rfl) ?_
  refine vp_callSi (W.runV (As := [.int p1]) (rest := []) ⟨hx, hb, hml, hown, hts⟩ (cM_isThing l D q cI cL u1 p1) (cwV 1 hts gX4_at_X4_isThing rfl rfl rfl (by decide +kernel) ⟨(Nat.le_of_ble_eq_true rfl), (Nat.le_of_ble_eq_true rfl)⟩) ⟨PM_blind, va_recv hK hP (ci := 7) (q0 := 0) rfl rfl, fun U hU hW => ⟨rfl, PM_fin hP hK hU hW⟩⟩ rfl rfl hl.1 rfl (lv_room (Nat.le_of_ble_eq_true rfl)) dX4_at_7 ⟨(Nat.le_of_ble_eq_true rfl), (Nat.le_of_ble_eq_true rfl)⟩) (fun r_1 hr_1 => ?_)
  subst hr_1
  refine lv_if_ne (tgt := 15) hx hb dX4_at_10 (by decide) (fun c_2 => ?_) (fun c_2 => ?_)
  · have hsp := hsp.trans (if_neg c_2)
    have hok := hok.2 c_2
    refine lv_iload_n hx hb dX4_at_15 rfl (lv_at hl 2 rfl) ?_
    refine lv_iconst (v := 2) hx hb dX4_at_16 (by decide) ?_
    refine lv_icmp_ne (tgt := 32) hx hb dX4_at_17 (by decide) (fun c_3 => ?_) (fun c_3 => ?_)
    · have hsp := hsp.trans (if_neg c_3)
      have hok := hok.2 c_3
      refine lv_iload_n hx hb dX4_at_32 rfl (lv_at hl 2 rfl) ?_
      refine lv_bipush (v := 7) hx hb dX4_at_33 (by decide) ?_
      refine lv_bipush (v := 13) hx hb dX4_at_35 (by decide) ?_
      refine vp_callSi (W.runS (As := [.int p2, .int 7, .int 13]) (rest := []) ⟨hx, hb, hml, hown, hts⟩ (cM_in l p2 7 13) (va_cwS 3 hts gX4_at_X4_in rfl rfl rfl (by decide +kernel) ⟨(Nat.le_of_ble_eq_true rfl), (Nat.le_of_ble_eq_true rfl)⟩) ⟨T_blind, fun U hU hW => ⟨rfl, trivial⟩⟩ rfl rfl hl.1 rfl (lv_room (Nat.le_of_ble_eq_true rfl)) dX4_at_37 ⟨(Nat.le_of_ble_eq_true rfl), (Nat.le_of_ble_eq_true rfl)⟩) (fun r_4 hr_4 => ?_)
      subst hr_4
      refine lv_if_ne (tgt := 46) hx hb dX4_at_40 (by decide) (fun c_5 => ?_) (fun c_5 => ?_)
      · have hsp := hsp.trans (if_neg c_5)
        have hok := hok.2 c_5
        refine lv_aload_n hx hb dX4_at_46 rfl (lv_at hl 0 rfl) ?_
        refine lv_iload_n hx hb dX4_at_47 rfl (lv_at hl 1 rfl) ?_
        refine lv_iload_n hx hb dX4_at_48 rfl (lv_at hl 2 rfl) ?_
        have h_6 := hok.1
        have hok := hok.2
        refine vp_callSi (W.runV (As := [.int p1, .int p2]) (rest := []) ⟨hx, hb, hml, hown, hts⟩ (cM_isA l D q cI cL u1 p1 p2 h_6) (cwV 2 hts gX4_at_X4_isA rfl rfl rfl (by decide +kernel) ⟨(Nat.le_of_ble_eq_true rfl), (Nat.le_of_ble_eq_true rfl)⟩) ⟨PM_blind, va_recv hK hP (ci := 7) (q0 := 0) rfl rfl, fun U hU hW => ⟨rfl, PM_fin hP hK hU hW⟩⟩ rfl rfl hl.1 rfl (lv_room (Nat.le_of_ble_eq_true rfl)) dX4_at_49 ⟨(Nat.le_of_ble_eq_true rfl), (Nat.le_of_ble_eq_true rfl)⟩) (fun r_7 hr_7 => ?_)
        subst hr_7
        refine lv_if_ne (tgt := 62) hx hb dX4_at_52 (by decide) (fun c_8 => ?_) (fun c_8 => ?_)
        · have hsp := hsp.trans (if_neg c_8)
          have hok := hok.2 c_8
          refine lv_iload_n hx hb dX4_at_62 rfl (lv_at hl 3 rfl) ?_
          refine lv_iconst (v := 0) hx hb dX4_at_63 (by decide) ?_
          refine lv_aload_n hx hb dX4_at_64 rfl (lv_at hl 0 rfl) ?_
          refine va_get (D := D) (ci := 7) (v := .ref (q 3)) (C := RX4) (T := TX4) (N := 29) hx hb hts hiX4 hown hK hP 0 rfl rfl 4 (by decide) hf16 (fun _ h9 => h9) rfl dX4_at_65 ?_
          refine lv_iload_n hx hb dX4_at_68 rfl (lv_at hl 1 rfl) ?_
          have h_9 := hok.1
          have hok := hok.2
          refine va_iald hx hb hK hP 3 0 rfl rfl h_9 dX4_at_69 ?_
          refine lv_iconst (v := 1) hx hb dX4_at_70 (by decide) ?_
          refine lv_isub hx hb dX4_at_71 ?_
          refine vp_callSi (W.runS (As := [.int p3, .int 0, .int ((u1.2.1 3 p1.toNatClampNeg) - 1)]) (rest := []) ⟨hx, hb, hml, hown, hts⟩ (cM_in l p3 0 ((u1.2.1 3 p1.toNatClampNeg) - 1)) (va_cwS 3 hts gX4_at_X4_in rfl rfl rfl (by decide +kernel) ⟨(Nat.le_of_ble_eq_true rfl), (Nat.le_of_ble_eq_true rfl)⟩) ⟨T_blind, fun U hU hW => ⟨rfl, trivial⟩⟩ rfl rfl hl.1 rfl (lv_room (Nat.le_of_ble_eq_true rfl)) dX4_at_72 ⟨(Nat.le_of_ble_eq_true rfl), (Nat.le_of_ble_eq_true rfl)⟩) (fun r_10 hr_10 => ?_)
          subst hr_10
          refine lv_if_eq (tgt := 92) hx hb dX4_at_75 (by decide) (fun c_11 => ?_) (fun c_11 => ?_)
          · have hsp := hsp.trans (if_pos c_11)
            have hok := hok.1 c_11
            refine lv_aload_n hx hb dX4_at_92 rfl (lv_at hl 0 rfl) ?_
            refine lv_bipush (v := (-23)) hx hb dX4_at_93 (by decide) ?_
            have h_12 := hok.1
            have hok := hok.2
            refine va_calli (va_runV (As := [.int (-23)]) (rest := []) ⟨hx, hb, hml, hown, hts⟩ (cM_finds l D q cI cL hq u1 (-23) h_12) (cwV 1 hts gX4_at_X4_finds rfl rfl rfl (by decide +kernel) ⟨(Nat.le_of_ble_eq_true rfl), (Nat.le_of_ble_eq_true rfl)⟩) ⟨PM_blind, va_recv hK hP (ci := 7) (q0 := 0) rfl rfl, fun U hU hW => ⟨rfl, PM_fin hP hK hU hW⟩⟩ rfl rfl hl.1 rfl (lv_room (Nat.le_of_ble_eq_true rfl)) dX4_at_95 ⟨(Nat.le_of_ble_eq_true rfl), (Nat.le_of_ble_eq_true rfl)⟩) hS (fun q _ h => h) (fun q h => h) (fun r2 u2 t H1 locs ht hvm hu2 hB hz1 hk1 hS => ?_)
            have hP := hB.1
            rw [ht] at hP
            clear hB hk1 hz1 hvm ht
            generalize H1 = H at hP hS ⊢
            refine W.widen (k := 0) (n := 0) (Nat.le_refl 0) (Nat.le_refl 0) ?_
            exact W.iret (v := r2) hx hb hr (fun t ht hW => ⟨⟨r2, u2, rfl, (hu2.trans hsp.symm), PM_fin hP hK ht hW⟩, hS.F ht⟩) hS.2.2 dX4_at_98
          · have hsp := hsp.trans (if_neg c_11)
            have hok := hok.2 c_11
            refine lv_aload_n hx hb dX4_at_78 rfl (lv_at hl 0 rfl) ?_
            refine va_get (D := D) (ci := 7) (v := .ref (q 5)) (C := RX4) (T := TX4) (N := 29) hx hb hts hiX4 hown hK hP 0 rfl rfl 6 (by decide) hf23 (fun _ h9 => h9) rfl dX4_at_79 ?_
            refine lv_bipush (v := 6) hx hb dX4_at_82 (by decide) ?_
            refine lv_iload_n hx hb dX4_at_84 rfl (lv_at hl 1 rfl) ?_
            refine lv_imul hx hb dX4_at_85 ?_
            refine lv_iload_n hx hb dX4_at_86 rfl (lv_at hl 3 rfl) ?_
            refine lv_iadd hx hb dX4_at_87 ?_
            have h_13 := hok.1
            have hok := hok.2
            refine va_iald hx hb hK hP 5 0 rfl rfl h_13 dX4_at_88 ?_
            refine lv_goto (tgt := 98) hx hb dX4_at_89 (by decide) ?_
            exact W.iret (v := (u1.2.1 5 ((6 * p1) + p3).toNatClampNeg)) hx hb hr (fun t ht hW => ⟨⟨(u1.2.1 5 ((6 * p1) + p3).toNatClampNeg), u1, rfl, hsp.symm, PM_fin hP hK ht hW⟩, hS.F ht⟩) hS.2.2 dX4_at_98
        · have hsp := hsp.trans (if_pos c_8)
          have hok := hok.1 c_8
          refine lv_aload_n hx hb dX4_at_55 rfl (lv_at hl 0 rfl) ?_
          refine lv_bipush (v := (-21)) hx hb dX4_at_56 (by decide) ?_
          have h_14 := hok.1
          have hok := hok.2
          refine va_calli (va_runV (As := [.int (-21)]) (rest := []) ⟨hx, hb, hml, hown, hts⟩ (cM_finds l D q cI cL hq u1 (-21) h_14) (cwV 1 hts gX4_at_X4_finds rfl rfl rfl (by decide +kernel) ⟨(Nat.le_of_ble_eq_true rfl), (Nat.le_of_ble_eq_true rfl)⟩) ⟨PM_blind, va_recv hK hP (ci := 7) (q0 := 0) rfl rfl, fun U hU hW => ⟨rfl, PM_fin hP hK hU hW⟩⟩ rfl rfl hl.1 rfl (lv_room (Nat.le_of_ble_eq_true rfl)) dX4_at_58 ⟨(Nat.le_of_ble_eq_true rfl), (Nat.le_of_ble_eq_true rfl)⟩) hS (fun q _ h => h) (fun q h => h) (fun r3 u3 t H1 locs ht hvm hu3 hB hz1 hk1 hS => ?_)
          have hP := hB.1
          rw [ht] at hP
          clear hB hk1 hz1 hvm ht
          generalize H1 = H at hP hS ⊢
          refine W.widen (k := 0) (n := 0) (Nat.le_refl 0) (Nat.le_refl 0) ?_
          exact W.iret (v := r3) hx hb hr (fun t ht hW => ⟨⟨r3, u3, rfl, (hu3.trans hsp.symm), PM_fin hP hK ht hW⟩, hS.F ht⟩) hS.2.2 dX4_at_61
      · have hsp := hsp.trans (if_pos c_5)
        refine lv_bipush (v := (-2)) hx hb dX4_at_43 (by decide) ?_
        exact W.iret (v := (-2)) hx hb hr (fun t ht hW => ⟨⟨(-2), u1, rfl, hsp.symm, PM_fin hP hK ht hW⟩, hS.F ht⟩) hS.2.2 dX4_at_45
    · have hsp := hsp.trans (if_pos c_3)
      have hok := hok.1 c_3
      refine lv_iload_n hx hb dX4_at_20 rfl (lv_at hl 3 rfl) ?_
      refine lv_iconst (v := 0) hx hb dX4_at_21 (by decide) ?_
      refine lv_iconst (v := 1) hx hb dX4_at_22 (by decide) ?_
      refine vp_callSi (W.runS (As := [.int p3, .int 0, .int 1]) (rest := []) ⟨hx, hb, hml, hown, hts⟩ (cM_in l p3 0 1) (va_cwS 3 hts gX4_at_X4_in rfl rfl rfl (by decide +kernel) ⟨(Nat.le_of_ble_eq_true rfl), (Nat.le_of_ble_eq_true rfl)⟩) ⟨T_blind, fun U hU hW => ⟨rfl, trivial⟩⟩ rfl rfl hl.1 rfl (lv_room (Nat.le_of_ble_eq_true rfl)) dX4_at_23 ⟨(Nat.le_of_ble_eq_true rfl), (Nat.le_of_ble_eq_true rfl)⟩) (fun r_15 hr_15 => ?_)
      subst hr_15
      refine lv_if_ne (tgt := 46) hx hb dX4_at_26 (by decide) (fun c_16 => ?_) (fun c_16 => ?_)
      · have hsp := hsp.trans (if_neg c_16)
        have hok := hok.2 c_16
        refine lv_aload_n hx hb dX4_at_46 rfl (lv_at hl 0 rfl) ?_
        refine lv_iload_n hx hb dX4_at_47 rfl (lv_at hl 1 rfl) ?_
        refine lv_iload_n hx hb dX4_at_48 rfl (lv_at hl 2 rfl) ?_
        have h_17 := hok.1
        have hok := hok.2
        refine vp_callSi (W.runV (As := [.int p1, .int p2]) (rest := []) ⟨hx, hb, hml, hown, hts⟩ (cM_isA l D q cI cL u1 p1 p2 h_17) (cwV 2 hts gX4_at_X4_isA rfl rfl rfl (by decide +kernel) ⟨(Nat.le_of_ble_eq_true rfl), (Nat.le_of_ble_eq_true rfl)⟩) ⟨PM_blind, va_recv hK hP (ci := 7) (q0 := 0) rfl rfl, fun U hU hW => ⟨rfl, PM_fin hP hK hU hW⟩⟩ rfl rfl hl.1 rfl (lv_room (Nat.le_of_ble_eq_true rfl)) dX4_at_49 ⟨(Nat.le_of_ble_eq_true rfl), (Nat.le_of_ble_eq_true rfl)⟩) (fun r_18 hr_18 => ?_)
        subst hr_18
        refine lv_if_ne (tgt := 62) hx hb dX4_at_52 (by decide) (fun c_19 => ?_) (fun c_19 => ?_)
        · have hsp := hsp.trans (if_neg c_19)
          have hok := hok.2 c_19
          refine lv_iload_n hx hb dX4_at_62 rfl (lv_at hl 3 rfl) ?_
          refine lv_iconst (v := 0) hx hb dX4_at_63 (by decide) ?_
          refine lv_aload_n hx hb dX4_at_64 rfl (lv_at hl 0 rfl) ?_
          refine va_get (D := D) (ci := 7) (v := .ref (q 3)) (C := RX4) (T := TX4) (N := 29) hx hb hts hiX4 hown hK hP 0 rfl rfl 4 (by decide) hf16 (fun _ h9 => h9) rfl dX4_at_65 ?_
          refine lv_iload_n hx hb dX4_at_68 rfl (lv_at hl 1 rfl) ?_
          have h_20 := hok.1
          have hok := hok.2
          refine va_iald hx hb hK hP 3 0 rfl rfl h_20 dX4_at_69 ?_
          refine lv_iconst (v := 1) hx hb dX4_at_70 (by decide) ?_
          refine lv_isub hx hb dX4_at_71 ?_
          refine vp_callSi (W.runS (As := [.int p3, .int 0, .int ((u1.2.1 3 p1.toNatClampNeg) - 1)]) (rest := []) ⟨hx, hb, hml, hown, hts⟩ (cM_in l p3 0 ((u1.2.1 3 p1.toNatClampNeg) - 1)) (va_cwS 3 hts gX4_at_X4_in rfl rfl rfl (by decide +kernel) ⟨(Nat.le_of_ble_eq_true rfl), (Nat.le_of_ble_eq_true rfl)⟩) ⟨T_blind, fun U hU hW => ⟨rfl, trivial⟩⟩ rfl rfl hl.1 rfl (lv_room (Nat.le_of_ble_eq_true rfl)) dX4_at_72 ⟨(Nat.le_of_ble_eq_true rfl), (Nat.le_of_ble_eq_true rfl)⟩) (fun r_21 hr_21 => ?_)
          subst hr_21
          refine lv_if_eq (tgt := 92) hx hb dX4_at_75 (by decide) (fun c_22 => ?_) (fun c_22 => ?_)
          · have hsp := hsp.trans (if_pos c_22)
            have hok := hok.1 c_22
            refine lv_aload_n hx hb dX4_at_92 rfl (lv_at hl 0 rfl) ?_
            refine lv_bipush (v := (-23)) hx hb dX4_at_93 (by decide) ?_
            have h_23 := hok.1
            have hok := hok.2
            refine va_calli (va_runV (As := [.int (-23)]) (rest := []) ⟨hx, hb, hml, hown, hts⟩ (cM_finds l D q cI cL hq u1 (-23) h_23) (cwV 1 hts gX4_at_X4_finds rfl rfl rfl (by decide +kernel) ⟨(Nat.le_of_ble_eq_true rfl), (Nat.le_of_ble_eq_true rfl)⟩) ⟨PM_blind, va_recv hK hP (ci := 7) (q0 := 0) rfl rfl, fun U hU hW => ⟨rfl, PM_fin hP hK hU hW⟩⟩ rfl rfl hl.1 rfl (lv_room (Nat.le_of_ble_eq_true rfl)) dX4_at_95 ⟨(Nat.le_of_ble_eq_true rfl), (Nat.le_of_ble_eq_true rfl)⟩) hS (fun q _ h => h) (fun q h => h) (fun r4 u4 t H1 locs ht hvm hu4 hB hz1 hk1 hS => ?_)
            have hP := hB.1
            rw [ht] at hP
            clear hB hk1 hz1 hvm ht
            generalize H1 = H at hP hS ⊢
            refine W.widen (k := 0) (n := 0) (Nat.le_refl 0) (Nat.le_refl 0) ?_
            exact W.iret (v := r4) hx hb hr (fun t ht hW => ⟨⟨r4, u4, rfl, (hu4.trans hsp.symm), PM_fin hP hK ht hW⟩, hS.F ht⟩) hS.2.2 dX4_at_98
          · have hsp := hsp.trans (if_neg c_22)
            have hok := hok.2 c_22
            refine lv_aload_n hx hb dX4_at_78 rfl (lv_at hl 0 rfl) ?_
            refine va_get (D := D) (ci := 7) (v := .ref (q 5)) (C := RX4) (T := TX4) (N := 29) hx hb hts hiX4 hown hK hP 0 rfl rfl 6 (by decide) hf23 (fun _ h9 => h9) rfl dX4_at_79 ?_
            refine lv_bipush (v := 6) hx hb dX4_at_82 (by decide) ?_
            refine lv_iload_n hx hb dX4_at_84 rfl (lv_at hl 1 rfl) ?_
            refine lv_imul hx hb dX4_at_85 ?_
            refine lv_iload_n hx hb dX4_at_86 rfl (lv_at hl 3 rfl) ?_
            refine lv_iadd hx hb dX4_at_87 ?_
            have h_24 := hok.1
            have hok := hok.2
            refine va_iald hx hb hK hP 5 0 rfl rfl h_24 dX4_at_88 ?_
            refine lv_goto (tgt := 98) hx hb dX4_at_89 (by decide) ?_
            exact W.iret (v := (u1.2.1 5 ((6 * p1) + p3).toNatClampNeg)) hx hb hr (fun t ht hW => ⟨⟨(u1.2.1 5 ((6 * p1) + p3).toNatClampNeg), u1, rfl, hsp.symm, PM_fin hP hK ht hW⟩, hS.F ht⟩) hS.2.2 dX4_at_98
        · have hsp := hsp.trans (if_pos c_19)
          have hok := hok.1 c_19
          refine lv_aload_n hx hb dX4_at_55 rfl (lv_at hl 0 rfl) ?_
          refine lv_bipush (v := (-21)) hx hb dX4_at_56 (by decide) ?_
          have h_25 := hok.1
          have hok := hok.2
          refine va_calli (va_runV (As := [.int (-21)]) (rest := []) ⟨hx, hb, hml, hown, hts⟩ (cM_finds l D q cI cL hq u1 (-21) h_25) (cwV 1 hts gX4_at_X4_finds rfl rfl rfl (by decide +kernel) ⟨(Nat.le_of_ble_eq_true rfl), (Nat.le_of_ble_eq_true rfl)⟩) ⟨PM_blind, va_recv hK hP (ci := 7) (q0 := 0) rfl rfl, fun U hU hW => ⟨rfl, PM_fin hP hK hU hW⟩⟩ rfl rfl hl.1 rfl (lv_room (Nat.le_of_ble_eq_true rfl)) dX4_at_58 ⟨(Nat.le_of_ble_eq_true rfl), (Nat.le_of_ble_eq_true rfl)⟩) hS (fun q _ h => h) (fun q h => h) (fun r5 u5 t H1 locs ht hvm hu5 hB hz1 hk1 hS => ?_)
          have hP := hB.1
          rw [ht] at hP
          clear hB hk1 hz1 hvm ht
          generalize H1 = H at hP hS ⊢
          refine W.widen (k := 0) (n := 0) (Nat.le_refl 0) (Nat.le_refl 0) ?_
          exact W.iret (v := r5) hx hb hr (fun t ht hW => ⟨⟨r5, u5, rfl, (hu5.trans hsp.symm), PM_fin hP hK ht hW⟩, hS.F ht⟩) hS.2.2 dX4_at_61
      · have hsp := hsp.trans (if_pos c_16)
        refine lv_goto (tgt := 43) hx hb dX4_at_29 (by decide) ?_
        refine lv_bipush (v := (-2)) hx hb dX4_at_43 (by decide) ?_
        exact W.iret (v := (-2)) hx hb hr (fun t ht hW => ⟨⟨(-2), u1, rfl, hsp.symm, PM_fin hP hK ht hW⟩, hS.F ht⟩) hS.2.2 dX4_at_45
  · have hsp := hsp.trans (if_pos c_2)
    refine lv_iconst (v := (-1)) hx hb dX4_at_13 (by decide) ?_
    exact W.iret (v := (-1)) hx hb hr (fun t ht hW => ⟨⟨(-1), u1, rfl, hsp.symm, PM_fin hP hK ht hW⟩, hS.F ht⟩) hS.2.2 dX4_at_14
set_option maxHeartbeats 4000000 in
set_option maxRecDepth 100000 in
theorem cM_is (l : Launch) (D : va_G) (q : Nat → Nat) (cI cL : ClassId) (hq : DQ 22 q) (u : St) (p1 : Int32) (p2 : Int32) (hok : okM_is u p1 p2) : Met l yX4_is wsX4_is { frames := 2, cells := 0, slots := 0, locals := 43 } (va_Pc [.ref (q 0), .int p1, .int p2] (fun U => PM D q cI cL u U)) (va_Qi (fun (r : Int32) (u' : St) => (r, u') = sM_is u p1 p2) (fun u' t => PM D q cI cL u' t) (AQ 22 q)) 0 0 (AQ 22 q) := by
  refine Met.ofW (cc := cX4_is) (maxL := 3) (ret := (some .int)) (by decide) rfl ?_
  intro p e s m args below meth c s₁ B hml hv
  obtain ⟨rfl, hP, hK⟩ := hv
  have hx := B.exec
  have hb := B.bytes
  have hr := B.returns
  have hts := atoms_spec (ws := wsX4_is) B.pre
  have hown : s.vm.findClass RX4 = some m.cls := findClass_of_methodNamed B.named
  have hlocks := B.notSynchronized
  have hiX4 : ∀ w ∈ u_ws RX4 TX4 29, w ∈ wsX4_is := by decide +kernel
  have hf74 := hts (.fieldLink RX4 74 "ThingRulesModel" "thrown" "I") (by decide +kernel)
  have hS : va_S (AQ 22 q) s.heap s.heap [] := va_S.rf
  have hP : va_P D vwCl (wM q cI cL u) s.heap := hP
  have hl := lv_entry ([.ref (q 0), .int p1, .int p2]) (n := 3) (Nat.le_of_ble_eq_true rfl)
  rw [lg_entry_eq]
  generalize (lg_sl ([.ref (q 0), .int p1, .int p2]) ++ List.replicate (3 - (lg_sl ([.ref (q 0), .int p1, .int p2])).length) Slot.unset).toArray = ls at hl ⊢
  have hl : lv_has ls 3 [(0, .ref (q 0)), (1, .int p1), (2, .int p2)] := hl
  have hsp : sM_is u p1 p2 = _ := sM_is.eq_1 u p1 p2
  unfold okM_is at hok
  refine lv_aload_n hx hb dX4_is_0 rfl (lv_at hl 0 rfl) ?_
  refine lv_iconst (v := 0) hx hb dX4_is_1 (by decide) ?_
  refine va_put (D := D) (ci := 7) (v := .int 0) (ty := .int) (C := RX4) (T := TX4) (N := 29) hx hb hts hiX4 tyX4 tyX4_ok nmX4 hown hK hP (dM hq) hS 0 rfl rfl 0 (by decide) hf74 (fun _ h9 => h9) rfl (by decide +kernel) rfl rfl (Nat.le_of_ble_eq_true rfl) dX4_is_2 (fun H locs hP _ hS => ?_)
  obtain ⟨u1, hu1⟩ : ∃ z : St, z = (stI u 0 0) := ⟨_, rfl⟩
  have hP : va_P D vwCl (wM q cI cL u1) H := by rw [hu1]; exact hP
  have hsp := hsp.trans (bnd_eq hu1)
  have hok := bnd_ok hu1 hok
  refine lv_aload_n hx hb dX4_is_5 rfl (lv_at hl 0 rfl) ?_
  refine lv_iload_n hx hb dX4_is_6 rfl (lv_at hl 1 rfl) ?_
  refine vp_callSi (W.runV (As := [.int p1]) (rest := []) ⟨hx, hb, hml, hown, hts⟩ (cM_isThing l D q cI cL u1 p1) (cwV 1 hts gX4_is_X4_isThing rfl rfl rfl (by decide +kernel) ⟨(Nat.le_of_ble_eq_true rfl), (Nat.le_of_ble_eq_true rfl)⟩) ⟨PM_blind, va_recv hK hP (ci := 7) (q0 := 0) rfl rfl, fun U hU hW => ⟨rfl, PM_fin hP hK hU hW⟩⟩ rfl rfl hl.1 rfl (lv_room (Nat.le_of_ble_eq_true rfl)) dX4_is_7 ⟨(Nat.le_of_ble_eq_true rfl), (Nat.le_of_ble_eq_true rfl)⟩) (fun r_1 hr_1 => ?_)
  subst hr_1
  refine lv_if_ne (tgt := 15) hx hb dX4_is_10 (by decide) (fun c_2 => ?_) (fun c_2 => ?_)
  · have hsp := hsp.trans (if_neg c_2)
    have hok := hok.2 c_2
    refine lv_iload_n hx hb dX4_is_15 rfl (lv_at hl 2 rfl) ?_
    refine lv_iconst (v := 0) hx hb dX4_is_16 (by decide) ?_
    refine lv_bipush (v := 15) hx hb dX4_is_17 (by decide) ?_
    refine vp_callSi (W.runS (As := [.int p2, .int 0, .int 15]) (rest := []) ⟨hx, hb, hml, hown, hts⟩ (cM_in l p2 0 15) (va_cwS 3 hts gX4_is_X4_in rfl rfl rfl (by decide +kernel) ⟨(Nat.le_of_ble_eq_true rfl), (Nat.le_of_ble_eq_true rfl)⟩) ⟨T_blind, fun U hU hW => ⟨rfl, trivial⟩⟩ rfl rfl hl.1 rfl (lv_room (Nat.le_of_ble_eq_true rfl)) dX4_is_19 ⟨(Nat.le_of_ble_eq_true rfl), (Nat.le_of_ble_eq_true rfl)⟩) (fun r_3 hr_3 => ?_)
    subst hr_3
    refine lv_if_ne (tgt := 30) hx hb dX4_is_22 (by decide) (fun c_4 => ?_) (fun c_4 => ?_)
    · have hsp := hsp.trans (if_neg c_4)
      have hok := hok.2 c_4
      refine lv_aload_n hx hb dX4_is_30 rfl (lv_at hl 0 rfl) ?_
      refine lv_iload_n hx hb dX4_is_31 rfl (lv_at hl 1 rfl) ?_
      refine lv_iload_n hx hb dX4_is_32 rfl (lv_at hl 2 rfl) ?_
      have h_5 := hok.1
      have hok := hok.2
      refine vp_callSi (W.runV (As := [.int p1, .int p2]) (rest := []) ⟨hx, hb, hml, hown, hts⟩ (cM_isA l D q cI cL u1 p1 p2 h_5) (cwV 2 hts gX4_is_X4_isA rfl rfl rfl (by decide +kernel) ⟨(Nat.le_of_ble_eq_true rfl), (Nat.le_of_ble_eq_true rfl)⟩) ⟨PM_blind, va_recv hK hP (ci := 7) (q0 := 0) rfl rfl, fun U hU hW => ⟨rfl, PM_fin hP hK hU hW⟩⟩ rfl rfl hl.1 rfl (lv_room (Nat.le_of_ble_eq_true rfl)) dX4_is_33 ⟨(Nat.le_of_ble_eq_true rfl), (Nat.le_of_ble_eq_true rfl)⟩) (fun r_6 hr_6 => ?_)
      subst hr_6
      refine lv_if_eq (tgt := 43) hx hb dX4_is_36 (by decide) (fun c_7 => ?_) (fun c_7 => ?_)
      · have hsp := hsp.trans (if_pos c_7)
        refine lv_iconst (v := 0) hx hb dX4_is_43 (by decide) ?_
        exact W.iret (v := 0) hx hb hr (fun t ht hW => ⟨⟨0, u1, rfl, hsp.symm, PM_fin hP hK ht hW⟩, hS.F ht⟩) hS.2.2 dX4_is_44
      · have hsp := hsp.trans (if_neg c_7)
        refine lv_iconst (v := 1) hx hb dX4_is_39 (by decide) ?_
        refine lv_goto (tgt := 44) hx hb dX4_is_40 (by decide) ?_
        exact W.iret (v := 1) hx hb hr (fun t ht hW => ⟨⟨1, u1, rfl, hsp.symm, PM_fin hP hK ht hW⟩, hS.F ht⟩) hS.2.2 dX4_is_44
    · have hsp := hsp.trans (if_pos c_4)
      refine lv_bipush (v := (-2)) hx hb dX4_is_25 (by decide) ?_
      refine lv_goto (tgt := 44) hx hb dX4_is_27 (by decide) ?_
      exact W.iret (v := (-2)) hx hb hr (fun t ht hW => ⟨⟨(-2), u1, rfl, hsp.symm, PM_fin hP hK ht hW⟩, hS.F ht⟩) hS.2.2 dX4_is_44
  · have hsp := hsp.trans (if_pos c_2)
    refine lv_iconst (v := (-1)) hx hb dX4_is_13 (by decide) ?_
    exact W.iret (v := (-1)) hx hb hr (fun t ht hW => ⟨⟨(-1), u1, rfl, hsp.symm, PM_fin hP hK ht hW⟩, hS.F ht⟩) hS.2.2 dX4_is_14
set_option maxHeartbeats 4000000 in
set_option maxRecDepth 100000 in
theorem cM_isPattern (l : Launch) (D : va_G) (q : Nat → Nat) (cI cL : ClassId) (u : St) (p1 : Int32) : Met l yX4_isPattern wsX4_isPattern { frames := 1, cells := 0, slots := 0, locals := 22 } (va_Pc [.ref (q 0), .int p1] (fun U => PM D q cI cL u U)) (vp_Si (fun r => r = sM_isPattern u p1)) 0 0 (fun _ => False) := by
  refine Met.ofW (cc := cX4_isPattern) (maxL := 2) (ret := (some .boolean)) (by decide) rfl ?_
  intro p e s m args below meth c s₁ B hml hv
  obtain ⟨rfl, hP, hK⟩ := hv
  have hx := B.exec
  have hb := B.bytes
  have hr := B.returns
  have hts := atoms_spec (ws := wsX4_isPattern) B.pre
  have hown : s.vm.findClass RX4 = some m.cls := findClass_of_methodNamed B.named
  have hlocks := B.notSynchronized
  have hiX4 : ∀ w ∈ u_ws RX4 TX4 29, w ∈ wsX4_isPattern := by decide +kernel
  have hf122 := hts (.fieldLink RX4 122 "ThingRulesModel" "patterns" "I") (by decide +kernel)
  have hS : va_S (AQ 22 q) s.heap s.heap [] := va_S.rf
  have hP : va_P D vwCl (wM q cI cL u) s.heap := hP
  have hl := lv_entry ([.ref (q 0), .int p1]) (n := 2) (Nat.le_of_ble_eq_true rfl)
  rw [lg_entry_eq]
  generalize (lg_sl ([.ref (q 0), .int p1]) ++ List.replicate (2 - (lg_sl ([.ref (q 0), .int p1])).length) Slot.unset).toArray = ls at hl ⊢
  have hl : lv_has ls 2 [(0, .ref (q 0)), (1, .int p1)] := hl
  have hsp : sM_isPattern u p1 = _ := sM_isPattern.eq_1 u p1
  refine lv_iload_n hx hb dX4_isPattern_0 rfl (lv_at hl 1 rfl) ?_
  refine lv_iconst (v := 0) hx hb dX4_isPattern_1 (by decide) ?_
  refine lv_aload_n hx hb dX4_isPattern_2 rfl (lv_at hl 0 rfl) ?_
  refine va_get (D := D) (ci := 7) (v := .int (u.1 2)) (C := RX4) (T := TX4) (N := 29) hx hb hts hiX4 hown hK hP 0 rfl rfl 7 (by decide) hf122 (fun _ h9 => h9) rfl dX4_isPattern_3 ?_
  refine lv_iconst (v := 1) hx hb dX4_isPattern_6 (by decide) ?_
  refine lv_isub hx hb dX4_isPattern_7 ?_
  refine vp_callSi (W.runS (As := [.int p1, .int 0, .int ((u.1 2) - 1)]) (rest := []) ⟨hx, hb, hml, hown, hts⟩ (cM_in l p1 0 ((u.1 2) - 1)) (va_cwS 3 hts gX4_isPattern_X4_in rfl rfl rfl (by decide +kernel) ⟨(Nat.le_of_ble_eq_true rfl), (Nat.le_of_ble_eq_true rfl)⟩) ⟨T_blind, fun U hU hW => ⟨rfl, trivial⟩⟩ rfl rfl hl.1 rfl (lv_room (Nat.le_of_ble_eq_true rfl)) dX4_isPattern_8 ⟨(Nat.le_of_ble_eq_true rfl), (Nat.le_of_ble_eq_true rfl)⟩) (fun r_1 hr_1 => ?_)
  subst hr_1
  exact W.zret (v := (sM_in p1 0 ((u.1 2) - 1))) hx hb hr (isB_n (bM_in p1 0 ((u.1 2) - 1))) (fun t ht hW => ⟨(sM_in p1 0 ((u.1 2) - 1)), rfl, hsp.symm, ht⟩) (fun _ h => nomatch h) dX4_isPattern_11
