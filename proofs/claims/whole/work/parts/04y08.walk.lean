set_option maxHeartbeats 4000000 in
set_option maxRecDepth 100000 in
theorem cM_apply (l : Launch) (D : va_G) (q : Nat → Nat) (cI cL : ClassId) (hq : DQ 22 q) (u : St) (p1 : Int32) (hok : okM_apply u p1) : Met l yX4_apply wsX4_apply { frames := 5, cells := 0, slots := 0, locals := 116 } (va_Pc [.ref (q 0), .int p1] (fun U => PM D q cI cL u U)) (va_Qi (fun (r : Int32) (u' : St) => (r, u') = sM_apply u p1) (fun u' t => PM D q cI cL u' t) (AQ 22 q)) 0 0 (AQ 22 q) := by
  refine Met.ofW (cc := cX4_apply) (maxL := 5) (ret := (some .int)) (by decide) rfl ?_
  intro p e s m args below meth c s₁ B hml hv
  obtain ⟨rfl, hP, hK⟩ := hv
  have hx := B.exec
  have hb := B.bytes
  have hr := B.returns
  have hts := atoms_spec (ws := wsX4_apply) B.pre
  have hown : s.vm.findClass RX4 = some m.cls := findClass_of_methodNamed B.named
  have hlocks := B.notSynchronized
  have hiX4 : ∀ w ∈ u_ws RX4 TX4 29, w ∈ wsX4_apply := by decide +kernel
  have hf183 := hts (.fieldLink RX4 183 "ThingRulesModel" "rules" "I") (by decide +kernel)
  have hf38 := hts (.fieldLink RX4 38 "ThingRulesModel" "rulePattern" "[I") (by decide +kernel)
  have hf53 := hts (.fieldLink RX4 53 "ThingRulesModel" "fell" "[I") (by decide +kernel)
  have hf50 := hts (.fieldLink RX4 50 "ThingRulesModel" "used" "[I") (by decide +kernel)
  have hf74 := hts (.fieldLink RX4 74 "ThingRulesModel" "thrown" "I") (by decide +kernel)
  have hS : va_S (AQ 22 q) s.heap s.heap [] := va_S.rf
  have hP : va_P D vwCl (wM q cI cL u) s.heap := hP
  have hl := lv_entry ([.ref (q 0), .int p1]) (n := 5) (Nat.le_of_ble_eq_true rfl)
  rw [lg_entry_eq]
  generalize (lg_sl ([.ref (q 0), .int p1]) ++ List.replicate (5 - (lg_sl ([.ref (q 0), .int p1])).length) Slot.unset).toArray = ls at hl ⊢
  have hl : lv_has ls 5 [(0, .ref (q 0)), (1, .int p1)] := hl
  have loop_17 : ∀ (n : Nat) (u' : St) (x2 : Int32) (H : Heap) (locs : List Loc) (ls : Array Slot), oklM_apply_17 n u' p1 x2 → sM_apply u p1 = lM_apply_17 n u' p1 x2 → va_P D vwCl (wM q cI cL u') H → va_S (AQ 22 q) s.heap H locs → lv_has ls 5 [(0, .ref (q 0)), (1, .int p1), (2, .int x2)] → W p l e (headSpec wsX4_apply { frames := 5, cells := 0, slots := 0, locals := 116 }).room s m ([.ref (q 0), .int p1] : List Value).toArray below meth c H locs 0 0 (MQ below (va_Qi (fun (r : Int32) (u' : St) => (r, u') = sM_apply u p1) (fun u' t => PM D q cI cL u' t) (AQ 22 q)) ([.ref (q 0), .int p1] : List Value).toArray s 0 0 (AQ 22 q)) (F0 m 17 ls []) := by
    intro n
    induction n with
    | zero => intro u' x2 H locs ls hok; exact False.elim hok
    | succ n ih =>
      intro u' x2 H locs ls hok hsp hP hS hl
      replace hsp := hsp.trans (lM_apply_17_s n u' p1 x2)
      replace hok := (oklM_apply_17_s n u' p1 x2).mp hok
      refine lv_iload_n hx hb dX4_apply_17 rfl (lv_at hl 2 rfl) ?_
      refine lv_aload_n hx hb dX4_apply_18 rfl (lv_at hl 0 rfl) ?_
      refine va_get (D := D) (ci := 7) (v := .int (u'.1 3)) (C := RX4) (T := TX4) (N := 29) hx hb hts hiX4 hown hK hP 0 rfl rfl 12 (by decide) hf183 (fun _ h9 => h9) rfl dX4_apply_19 ?_
      refine lv_icmp_ge (tgt := 95) hx hb dX4_apply_22 (by decide) (fun c_1 => ?_) (fun c_1 => ?_)
      · have hsp := hsp.trans (if_pos c_1)
        refine lv_bipush (v := (-5)) hx hb dX4_apply_95 (by decide) ?_
        exact W.iret (v := (-5)) hx hb hr (fun t ht hW => ⟨⟨(-5), u', rfl, hsp.symm, PM_fin hP hK ht hW⟩, hS.F ht⟩) hS.2.2 dX4_apply_97
      · have hsp := hsp.trans (if_neg c_1)
        have hok := hok.2 c_1
        refine lv_aload_n hx hb dX4_apply_25 rfl (lv_at hl 0 rfl) ?_
        refine lv_aload_n hx hb dX4_apply_26 rfl (lv_at hl 0 rfl) ?_
        refine va_get (D := D) (ci := 7) (v := .ref (q 10)) (C := RX4) (T := TX4) (N := 29) hx hb hts hiX4 hown hK hP 0 rfl rfl 13 (by decide) hf38 (fun _ h9 => h9) rfl dX4_apply_27 ?_
        refine lv_iload_n hx hb dX4_apply_30 rfl (lv_at hl 2 rfl) ?_
        have h_2 := hok.1
        have hok := hok.2
        refine va_iald hx hb hK hP 10 0 rfl rfl h_2 dX4_apply_31 ?_
        refine lv_iload_n hx hb dX4_apply_32 rfl (lv_at hl 1 rfl) ?_
        have h_3 := hok.1
        have hok := hok.2
        refine va_calli (va_runV (As := [.int (u'.2.1 10 x2.toNatClampNeg), .int p1]) (rest := []) ⟨hx, hb, hml, hown, hts⟩ (cM_matches l D q cI cL hq u' (u'.2.1 10 x2.toNatClampNeg) p1 h_3) (cwV 2 hts gX4_apply_X4_matches rfl rfl rfl (by decide +kernel) ⟨(Nat.le_of_ble_eq_true rfl), (Nat.le_of_ble_eq_true rfl)⟩) ⟨PM_blind, va_recv hK hP (ci := 7) (q0 := 0) rfl rfl, fun U hU hW => ⟨rfl, PM_fin hP hK hU hW⟩⟩ rfl rfl hl.1 rfl (lv_room (Nat.le_of_ble_eq_true rfl)) dX4_apply_33 ⟨(Nat.le_of_ble_eq_true rfl), (Nat.le_of_ble_eq_true rfl)⟩) hS (fun q _ h => h) (fun q h => h) (fun r2 u2 t H1 locs ht hvm hu2 hB hz1 hk1 hS => ?_)
        have hP := hB.1
        rw [ht] at hP
        clear hB hk1 hz1 hvm ht
        generalize H1 = H at hP hS ⊢
        refine W.widen (k := 0) (n := 0) (Nat.le_refl 0) (Nat.le_refl 0) ?_
        have hsp := hsp.trans (bnd2_eq hu2)
        have hok := bnd2_ok hu2 hok
        refine lv_istore_n (lv' := [(3, .int r2), (0, .ref (q 0)), (1, .int p1), (2, .int x2)]) hx hb dX4_apply_36 rfl hl (by decide) rfl (fun ls hl => ?_)
        refine lv_aload_n hx hb dX4_apply_37 rfl (lv_at hl 1 rfl) ?_
        refine va_get (D := D) (ci := 7) (v := .ref (q 15)) (C := RX4) (T := TX4) (N := 29) hx hb hts hiX4 hown hK hP 0 rfl rfl 18 (by decide) hf53 (fun _ h9 => h9) rfl dX4_apply_38 ?_
        refine lv_iload_n hx hb dX4_apply_41 rfl (lv_at hl 3 rfl) ?_
        refine lv_dup2_11 hx hb dX4_apply_42 rfl rfl ?_
        have h_4 := hok.1
        have hok := hok.2
        refine va_iald hx hb hK hP 15 0 rfl rfl h_4 dX4_apply_43 ?_
        refine lv_iload_n hx hb dX4_apply_44 rfl (lv_at hl 0 rfl) ?_
        refine lv_if_ge (tgt := 52) hx hb dX4_apply_45 (by decide) (fun c_5 => ?_) (fun c_5 => ?_)
        · have hsp := hsp.trans (if_pos c_5)
          have hok := hok.1 c_5
          refine lv_iconst (v := 0) hx hb dX4_apply_52 (by decide) ?_
          refine lv_iadd hx hb dX4_apply_53 ?_
          have h_6 := hok.1
          have hok := hok.2
          refine va_iast hx hb hK hP (dM hq) hS 15 0 rfl rfl h_6 dX4_apply_54 (fun H locs hP _ hS => ?_)
          obtain ⟨u3, hu3⟩ : ∃ z : St, z = (stA u2 15 x2.toNatClampNeg ((u2.2.1 15 x2.toNatClampNeg) + 0)) := ⟨_, rfl⟩
          have hP : va_P D vwCl (wM q cI cL u3) H := by rw [hu3]; exact hP
          have hsp := hsp.trans (bnd_eq hu3)
          have hok := bnd_ok hu3 hok
          refine lv_iload_n hx hb dX4_apply_55 rfl (lv_at hl 0 rfl) ?_
          refine lv_iconst (v := 1) hx hb dX4_apply_56 (by decide) ?_
          refine lv_icmp_ne (tgt := 89) hx hb dX4_apply_57 (by decide) (fun c_7 => ?_) (fun c_7 => ?_)
          · have hsp := hsp.trans (if_neg c_7)
            have hok := hok.2 c_7
            refine lv_iinc (v := (x2 + 1)) (lv' := [(2, .int (x2 + 1)), (3, .int r2), (0, .ref (q 0)), (1, .int p1)]) hx hb dX4_apply_89 hl (k := 3) rfl rfl (by decide) rfl (fun ls hl => ?_)
            refine lv_goto (tgt := 17) hx hb dX4_apply_92 (by decide) ?_
            exact ih u3 (x2 + 1) _ _ _ hok hsp hP hS (lv_sub hl [2, 3, 0] rfl)
          · have hsp := hsp.trans (if_pos c_7)
            have hok := hok.1 c_7
            refine lv_aload_n hx hb dX4_apply_60 rfl (lv_at hl 1 rfl) ?_
            refine va_get (D := D) (ci := 7) (v := .ref (q 14)) (C := RX4) (T := TX4) (N := 29) hx hb hts hiX4 hown hK hP 0 rfl rfl 17 (by decide) hf50 (fun _ h9 => h9) rfl dX4_apply_61 ?_
            refine lv_iload_n hx hb dX4_apply_64 rfl (lv_at hl 3 rfl) ?_
            refine lv_dup2_11 hx hb dX4_apply_65 rfl rfl ?_
            have h_8 := hok.1
            have hok := hok.2
            refine va_iald hx hb hK hP 14 0 rfl rfl h_8 dX4_apply_66 ?_
            refine lv_iconst (v := 1) hx hb dX4_apply_67 (by decide) ?_
            refine lv_iadd hx hb dX4_apply_68 ?_
            have h_9 := hok.1
            have hok := hok.2
            refine va_iast hx hb hK hP (dM hq) hS 14 0 rfl rfl h_9 dX4_apply_69 (fun H locs hP _ hS => ?_)
            obtain ⟨u4, hu4⟩ : ∃ z : St, z = (stA u3 14 x2.toNatClampNeg ((u3.2.1 14 x2.toNatClampNeg) + 1)) := ⟨_, rfl⟩
            have hP : va_P D vwCl (wM q cI cL u4) H := by rw [hu4]; exact hP
            have hsp := hsp.trans (bnd_eq hu4)
            have hok := bnd_ok hu4 hok
            refine lv_aload_n hx hb dX4_apply_70 rfl (lv_at hl 1 rfl) ?_
            refine lv_iload_n hx hb dX4_apply_71 rfl (lv_at hl 3 rfl) ?_
            have h_10 := hok.1
            have hok := hok.2
            refine va_calli (va_runV (As := [.int x2]) (rest := []) ⟨hx, hb, hml, hown, hts⟩ (cM_acts l D q cI cL hq u4 x2 h_10) (cwV 1 hts gX4_apply_X4_acts rfl rfl rfl (by decide +kernel) ⟨(Nat.le_of_ble_eq_true rfl), (Nat.le_of_ble_eq_true rfl)⟩) ⟨PM_blind, va_recv hK hP (ci := 7) (q0 := 0) rfl rfl, fun U hU hW => ⟨rfl, PM_fin hP hK hU hW⟩⟩ rfl rfl hl.1 rfl (lv_room (Nat.le_of_ble_eq_true rfl)) dX4_apply_72 ⟨(Nat.le_of_ble_eq_true rfl), (Nat.le_of_ble_eq_true rfl)⟩) hS (fun q _ h => h) (fun q h => h) (fun r5 u5 t H1 locs ht hvm hu5 hB hz1 hk1 hS => ?_)
            have hP := hB.1
            rw [ht] at hP
            clear hB hk1 hz1 hvm ht
            generalize H1 = H at hP hS ⊢
            refine W.widen (k := 0) (n := 0) (Nat.le_refl 0) (Nat.le_refl 0) ?_
            have hsp := hsp.trans (bnd2_eq hu5)
            refine lv_istore (lv' := [(4, .int r5), (3, .int r2), (0, .ref (q 0)), (1, .int p1), (2, .int x2)]) hx hb dX4_apply_75 hl (by decide) rfl (fun ls hl => ?_)
            refine lv_iload hx hb dX4_apply_77 (lv_at hl 0 rfl) ?_
            refine lv_if_ge (tgt := 87) hx hb dX4_apply_79 (by decide) (fun c_11 => ?_) (fun c_11 => ?_)
            · have hsp := hsp.trans (if_pos c_11)
              refine lv_iload_n hx hb dX4_apply_87 rfl (lv_at hl 4 rfl) ?_
              exact W.iret (v := x2) hx hb hr (fun t ht hW => ⟨⟨x2, u5, rfl, hsp.symm, PM_fin hP hK ht hW⟩, hS.F ht⟩) hS.2.2 dX4_apply_88
            · have hsp := hsp.trans (if_neg c_11)
              refine lv_iload hx hb dX4_apply_82 (lv_at hl 0 rfl) ?_
              refine lv_goto (tgt := 88) hx hb dX4_apply_84 (by decide) ?_
              exact W.iret (v := r5) hx hb hr (fun t ht hW => ⟨⟨r5, u5, rfl, hsp.symm, PM_fin hP hK ht hW⟩, hS.F ht⟩) hS.2.2 dX4_apply_88
        · have hsp := hsp.trans (if_neg c_5)
          have hok := hok.2 c_5
          refine lv_iconst (v := 1) hx hb dX4_apply_48 (by decide) ?_
          refine lv_goto (tgt := 53) hx hb dX4_apply_49 (by decide) ?_
          refine lv_iadd hx hb dX4_apply_53 ?_
          have h_12 := hok.1
          have hok := hok.2
          refine va_iast hx hb hK hP (dM hq) hS 15 0 rfl rfl h_12 dX4_apply_54 (fun H locs hP _ hS => ?_)
          obtain ⟨u6, hu6⟩ : ∃ z : St, z = (stA u2 15 x2.toNatClampNeg ((u2.2.1 15 x2.toNatClampNeg) + 1)) := ⟨_, rfl⟩
          have hP : va_P D vwCl (wM q cI cL u6) H := by rw [hu6]; exact hP
          have hsp := hsp.trans (bnd_eq hu6)
          have hok := bnd_ok hu6 hok
          refine lv_iload_n hx hb dX4_apply_55 rfl (lv_at hl 0 rfl) ?_
          refine lv_iconst (v := 1) hx hb dX4_apply_56 (by decide) ?_
          refine lv_icmp_ne (tgt := 89) hx hb dX4_apply_57 (by decide) (fun c_13 => ?_) (fun c_13 => ?_)
          · have hsp := hsp.trans (if_neg c_13)
            have hok := hok.2 c_13
            refine lv_iinc (v := (x2 + 1)) (lv' := [(2, .int (x2 + 1)), (3, .int r2), (0, .ref (q 0)), (1, .int p1)]) hx hb dX4_apply_89 hl (k := 3) rfl rfl (by decide) rfl (fun ls hl => ?_)
            refine lv_goto (tgt := 17) hx hb dX4_apply_92 (by decide) ?_
            exact ih u6 (x2 + 1) _ _ _ hok hsp hP hS (lv_sub hl [2, 3, 0] rfl)
          · have hsp := hsp.trans (if_pos c_13)
            have hok := hok.1 c_13
            refine lv_aload_n hx hb dX4_apply_60 rfl (lv_at hl 1 rfl) ?_
            refine va_get (D := D) (ci := 7) (v := .ref (q 14)) (C := RX4) (T := TX4) (N := 29) hx hb hts hiX4 hown hK hP 0 rfl rfl 17 (by decide) hf50 (fun _ h9 => h9) rfl dX4_apply_61 ?_
            refine lv_iload_n hx hb dX4_apply_64 rfl (lv_at hl 3 rfl) ?_
            refine lv_dup2_11 hx hb dX4_apply_65 rfl rfl ?_
            have h_14 := hok.1
            have hok := hok.2
            refine va_iald hx hb hK hP 14 0 rfl rfl h_14 dX4_apply_66 ?_
            refine lv_iconst (v := 1) hx hb dX4_apply_67 (by decide) ?_
            refine lv_iadd hx hb dX4_apply_68 ?_
            have h_15 := hok.1
            have hok := hok.2
            refine va_iast hx hb hK hP (dM hq) hS 14 0 rfl rfl h_15 dX4_apply_69 (fun H locs hP _ hS => ?_)
            obtain ⟨u7, hu7⟩ : ∃ z : St, z = (stA u6 14 x2.toNatClampNeg ((u6.2.1 14 x2.toNatClampNeg) + 1)) := ⟨_, rfl⟩
            have hP : va_P D vwCl (wM q cI cL u7) H := by rw [hu7]; exact hP
            have hsp := hsp.trans (bnd_eq hu7)
            have hok := bnd_ok hu7 hok
            refine lv_aload_n hx hb dX4_apply_70 rfl (lv_at hl 1 rfl) ?_
            refine lv_iload_n hx hb dX4_apply_71 rfl (lv_at hl 3 rfl) ?_
            have h_16 := hok.1
            have hok := hok.2
            refine va_calli (va_runV (As := [.int x2]) (rest := []) ⟨hx, hb, hml, hown, hts⟩ (cM_acts l D q cI cL hq u7 x2 h_16) (cwV 1 hts gX4_apply_X4_acts rfl rfl rfl (by decide +kernel) ⟨(Nat.le_of_ble_eq_true rfl), (Nat.le_of_ble_eq_true rfl)⟩) ⟨PM_blind, va_recv hK hP (ci := 7) (q0 := 0) rfl rfl, fun U hU hW => ⟨rfl, PM_fin hP hK hU hW⟩⟩ rfl rfl hl.1 rfl (lv_room (Nat.le_of_ble_eq_true rfl)) dX4_apply_72 ⟨(Nat.le_of_ble_eq_true rfl), (Nat.le_of_ble_eq_true rfl)⟩) hS (fun q _ h => h) (fun q h => h) (fun r8 u8 t H1 locs ht hvm hu8 hB hz1 hk1 hS => ?_)
            have hP := hB.1
            rw [ht] at hP
            clear hB hk1 hz1 hvm ht
            generalize H1 = H at hP hS ⊢
            refine W.widen (k := 0) (n := 0) (Nat.le_refl 0) (Nat.le_refl 0) ?_
            have hsp := hsp.trans (bnd2_eq hu8)
            refine lv_istore (lv' := [(4, .int r8), (3, .int r2), (0, .ref (q 0)), (1, .int p1), (2, .int x2)]) hx hb dX4_apply_75 hl (by decide) rfl (fun ls hl => ?_)
            refine lv_iload hx hb dX4_apply_77 (lv_at hl 0 rfl) ?_
            refine lv_if_ge (tgt := 87) hx hb dX4_apply_79 (by decide) (fun c_17 => ?_) (fun c_17 => ?_)
            · have hsp := hsp.trans (if_pos c_17)
              refine lv_iload_n hx hb dX4_apply_87 rfl (lv_at hl 4 rfl) ?_
              exact W.iret (v := x2) hx hb hr (fun t ht hW => ⟨⟨x2, u8, rfl, hsp.symm, PM_fin hP hK ht hW⟩, hS.F ht⟩) hS.2.2 dX4_apply_88
            · have hsp := hsp.trans (if_neg c_17)
              refine lv_iload hx hb dX4_apply_82 (lv_at hl 0 rfl) ?_
              refine lv_goto (tgt := 88) hx hb dX4_apply_84 (by decide) ?_
              exact W.iret (v := r8) hx hb hr (fun t ht hW => ⟨⟨r8, u8, rfl, hsp.symm, PM_fin hP hK ht hW⟩, hS.F ht⟩) hS.2.2 dX4_apply_88
  have hsp : sM_apply u p1 = _ := sM_apply.eq_1 u p1
  unfold okM_apply at hok
  refine lv_aload_n hx hb dX4_apply_0 rfl (lv_at hl 0 rfl) ?_
  refine lv_iconst (v := 0) hx hb dX4_apply_1 (by decide) ?_
  refine va_put (D := D) (ci := 7) (v := .int 0) (ty := .int) (C := RX4) (T := TX4) (N := 29) hx hb hts hiX4 tyX4 tyX4_ok nmX4 hown hK hP (dM hq) hS 0 rfl rfl 0 (by decide) hf74 (fun _ h9 => h9) rfl (by decide +kernel) rfl rfl (Nat.le_of_ble_eq_true rfl) dX4_apply_2 (fun H locs hP _ hS => ?_)
  obtain ⟨u1, hu1⟩ : ∃ z : St, z = (stI u 0 0) := ⟨_, rfl⟩
  have hP : va_P D vwCl (wM q cI cL u1) H := by rw [hu1]; exact hP
  have hsp := hsp.trans (bnd_eq hu1)
  have hok := bnd_ok hu1 hok
  refine lv_aload_n hx hb dX4_apply_5 rfl (lv_at hl 0 rfl) ?_
  refine lv_iload_n hx hb dX4_apply_6 rfl (lv_at hl 1 rfl) ?_
  refine vp_callSi (W.runV (As := [.int p1]) (rest := []) ⟨hx, hb, hml, hown, hts⟩ (cM_isThing l D q cI cL u1 p1) (cwV 1 hts gX4_apply_X4_isThing rfl rfl rfl (by decide +kernel) ⟨(Nat.le_of_ble_eq_true rfl), (Nat.le_of_ble_eq_true rfl)⟩) ⟨PM_blind, va_recv hK hP (ci := 7) (q0 := 0) rfl rfl, fun U hU hW => ⟨rfl, PM_fin hP hK hU hW⟩⟩ rfl rfl hl.1 rfl (lv_room (Nat.le_of_ble_eq_true rfl)) dX4_apply_7 ⟨(Nat.le_of_ble_eq_true rfl), (Nat.le_of_ble_eq_true rfl)⟩) (fun r_18 hr_18 => ?_)
  subst hr_18
  refine lv_if_ne (tgt := 15) hx hb dX4_apply_10 (by decide) (fun c_19 => ?_) (fun c_19 => ?_)
  · have hsp := hsp.trans (if_neg c_19)
    have hok := hok.2 c_19
    refine lv_iconst (v := 0) hx hb dX4_apply_15 (by decide) ?_
    refine lv_istore_n (lv' := [(2, .int 0), (0, .ref (q 0)), (1, .int p1)]) hx hb dX4_apply_16 rfl hl (by decide) rfl (fun ls hl => ?_)
    exact loop_17 100 u1 0 _ _ _ hok hsp hP hS (lv_sub hl [1, 2, 0] rfl)
  · have hsp := hsp.trans (if_pos c_19)
    refine lv_iconst (v := (-1)) hx hb dX4_apply_13 (by decide) ?_
    exact W.iret (v := (-1)) hx hb hr (fun t ht hW => ⟨⟨(-1), u1, rfl, hsp.symm, PM_fin hP hK ht hW⟩, hS.F ht⟩) hS.2.2 dX4_apply_14
set_option maxHeartbeats 4000000 in
set_option maxRecDepth 100000 in
theorem cM_told (l : Launch) (D : va_G) (q : Nat → Nat) (cI cL : ClassId) (hq : DQ 22 q) (u : St) (p1 : Int32) (p2 : Int32) (hok : okM_told u p1 p2) : Met l yX4_told wsX4_told { frames := 1, cells := 0, slots := 0, locals := 22 } (va_Pc [.ref (q 0), .int p1, .int p2] (fun U => PM D q cI cL u U)) (va_Qi (fun (r : Int32) (u' : St) => (r, u') = sM_told u p1 p2) (fun u' t => PM D q cI cL u' t) (AQ 22 q)) 0 0 (AQ 22 q) := by
  refine Met.ofW (cc := cX4_told) (maxL := 3) (ret := (some .int)) (by decide) rfl ?_
  intro p e s m args below meth c s₁ B hml hv
  obtain ⟨rfl, hP, hK⟩ := hv
  have hx := B.exec
  have hb := B.bytes
  have hr := B.returns
  have hts := atoms_spec (ws := wsX4_told) B.pre
  have hown : s.vm.findClass RX4 = some m.cls := findClass_of_methodNamed B.named
  have hlocks := B.notSynchronized
  have hiX4 : ∀ w ∈ u_ws RX4 TX4 29, w ∈ wsX4_told := by decide +kernel
  have hf74 := hts (.fieldLink RX4 74 "ThingRulesModel" "thrown" "I") (by decide +kernel)
  have hf183 := hts (.fieldLink RX4 183 "ThingRulesModel" "rules" "I") (by decide +kernel)
  have hf53 := hts (.fieldLink RX4 53 "ThingRulesModel" "fell" "[I") (by decide +kernel)
  have hf50 := hts (.fieldLink RX4 50 "ThingRulesModel" "used" "[I") (by decide +kernel)
  have hS : va_S (AQ 22 q) s.heap s.heap [] := va_S.rf
  have hP : va_P D vwCl (wM q cI cL u) s.heap := hP
  have hl := lv_entry ([.ref (q 0), .int p1, .int p2]) (n := 3) (Nat.le_of_ble_eq_true rfl)
  rw [lg_entry_eq]
  generalize (lg_sl ([.ref (q 0), .int p1, .int p2]) ++ List.replicate (3 - (lg_sl ([.ref (q 0), .int p1, .int p2])).length) Slot.unset).toArray = ls at hl ⊢
  have hl : lv_has ls 3 [(0, .ref (q 0)), (1, .int p1), (2, .int p2)] := hl
  have hsp : sM_told u p1 p2 = _ := sM_told.eq_1 u p1 p2
  unfold okM_told at hok
  refine lv_aload_n hx hb dX4_told_0 rfl (lv_at hl 0 rfl) ?_
  refine lv_iconst (v := 0) hx hb dX4_told_1 (by decide) ?_
  refine va_put (D := D) (ci := 7) (v := .int 0) (ty := .int) (C := RX4) (T := TX4) (N := 29) hx hb hts hiX4 tyX4 tyX4_ok nmX4 hown hK hP (dM hq) hS 0 rfl rfl 0 (by decide) hf74 (fun _ h9 => h9) rfl (by decide +kernel) rfl rfl (Nat.le_of_ble_eq_true rfl) dX4_told_2 (fun H locs hP _ hS => ?_)
  obtain ⟨u1, hu1⟩ : ∃ z : St, z = (stI u 0 0) := ⟨_, rfl⟩
  have hP : va_P D vwCl (wM q cI cL u1) H := by rw [hu1]; exact hP
  have hsp := hsp.trans (bnd_eq hu1)
  have hok := bnd_ok hu1 hok
  refine lv_iload_n hx hb dX4_told_5 rfl (lv_at hl 1 rfl) ?_
  refine lv_iconst (v := 0) hx hb dX4_told_6 (by decide) ?_
  refine lv_aload_n hx hb dX4_told_7 rfl (lv_at hl 0 rfl) ?_
  refine va_get (D := D) (ci := 7) (v := .int (u1.1 3)) (C := RX4) (T := TX4) (N := 29) hx hb hts hiX4 hown hK hP 0 rfl rfl 12 (by decide) hf183 (fun _ h9 => h9) rfl dX4_told_8 ?_
  refine lv_iconst (v := 1) hx hb dX4_told_11 (by decide) ?_
  refine lv_isub hx hb dX4_told_12 ?_
  refine vp_callSi (W.runS (As := [.int p1, .int 0, .int ((u1.1 3) - 1)]) (rest := []) ⟨hx, hb, hml, hown, hts⟩ (cM_in l p1 0 ((u1.1 3) - 1)) (va_cwS 3 hts gX4_told_X4_in rfl rfl rfl (by decide +kernel) ⟨(Nat.le_of_ble_eq_true rfl), (Nat.le_of_ble_eq_true rfl)⟩) ⟨T_blind, fun U hU hW => ⟨rfl, trivial⟩⟩ rfl rfl hl.1 rfl (lv_room (Nat.le_of_ble_eq_true rfl)) dX4_told_13 ⟨(Nat.le_of_ble_eq_true rfl), (Nat.le_of_ble_eq_true rfl)⟩) (fun r_1 hr_1 => ?_)
  subst hr_1
  refine lv_if_ne (tgt := 21) hx hb dX4_told_16 (by decide) (fun c_2 => ?_) (fun c_2 => ?_)
  · have hsp := hsp.trans (if_neg c_2)
    have hok := hok.2 c_2
    refine lv_iload_n hx hb dX4_told_21 rfl (lv_at hl 2 rfl) ?_
    refine lv_if_ne (tgt := 34) hx hb dX4_told_22 (by decide) (fun c_3 => ?_) (fun c_3 => ?_)
    · have hsp := hsp.trans (if_neg c_3)
      have hok := hok.2 c_3
      refine lv_iload_n hx hb dX4_told_34 rfl (lv_at hl 2 rfl) ?_
      refine lv_iconst (v := 1) hx hb dX4_told_35 (by decide) ?_
      refine lv_icmp_ne (tgt := 48) hx hb dX4_told_36 (by decide) (fun c_4 => ?_) (fun c_4 => ?_)
      · have hsp := hsp.trans (if_neg c_4)
        refine lv_bipush (v := (-2)) hx hb dX4_told_48 (by decide) ?_
        exact W.iret (v := (-2)) hx hb hr (fun t ht hW => ⟨⟨(-2), u1, rfl, hsp.symm, PM_fin hP hK ht hW⟩, hS.F ht⟩) hS.2.2 dX4_told_50
      · have hsp := hsp.trans (if_pos c_4)
        have hok := hok.1 c_4
        refine lv_aload_n hx hb dX4_told_39 rfl (lv_at hl 0 rfl) ?_
        refine va_get (D := D) (ci := 7) (v := .ref (q 15)) (C := RX4) (T := TX4) (N := 29) hx hb hts hiX4 hown hK hP 0 rfl rfl 18 (by decide) hf53 (fun _ h9 => h9) rfl dX4_told_40 ?_
        refine lv_iload_n hx hb dX4_told_43 rfl (lv_at hl 1 rfl) ?_
        have h_5 := hok.1
        have hok := hok.2
        refine va_iald hx hb hK hP 15 0 rfl rfl h_5 dX4_told_44 ?_
        refine lv_goto (tgt := 50) hx hb dX4_told_45 (by decide) ?_
        exact W.iret (v := (u1.2.1 15 p1.toNatClampNeg)) hx hb hr (fun t ht hW => ⟨⟨(u1.2.1 15 p1.toNatClampNeg), u1, rfl, hsp.symm, PM_fin hP hK ht hW⟩, hS.F ht⟩) hS.2.2 dX4_told_50
    · have hsp := hsp.trans (if_pos c_3)
      have hok := hok.1 c_3
      refine lv_aload_n hx hb dX4_told_25 rfl (lv_at hl 0 rfl) ?_
      refine va_get (D := D) (ci := 7) (v := .ref (q 14)) (C := RX4) (T := TX4) (N := 29) hx hb hts hiX4 hown hK hP 0 rfl rfl 17 (by decide) hf50 (fun _ h9 => h9) rfl dX4_told_26 ?_
      refine lv_iload_n hx hb dX4_told_29 rfl (lv_at hl 1 rfl) ?_
      have h_6 := hok.1
      have hok := hok.2
      refine va_iald hx hb hK hP 14 0 rfl rfl h_6 dX4_told_30 ?_
      refine lv_goto (tgt := 50) hx hb dX4_told_31 (by decide) ?_
      exact W.iret (v := (u1.2.1 14 p1.toNatClampNeg)) hx hb hr (fun t ht hW => ⟨⟨(u1.2.1 14 p1.toNatClampNeg), u1, rfl, hsp.symm, PM_fin hP hK ht hW⟩, hS.F ht⟩) hS.2.2 dX4_told_50
  · have hsp := hsp.trans (if_pos c_2)
    refine lv_iconst (v := (-1)) hx hb dX4_told_19 (by decide) ?_
    exact W.iret (v := (-1)) hx hb hr (fun t ht hW => ⟨⟨(-1), u1, rfl, hsp.symm, PM_fin hP hK ht hW⟩, hS.F ht⟩) hS.2.2 dX4_told_20
set_option maxHeartbeats 4000000 in
set_option maxRecDepth 100000 in
theorem cM_count (l : Launch) (D : va_G) (q : Nat → Nat) (cI cL : ClassId) (hq : DQ 22 q) (u : St) (p1 : Int32) (hok : okM_count u p1) : Met l yX4_count wsX4_count { frames := 1, cells := 0, slots := 0, locals := 22 } (va_Pc [.ref (q 0), .int p1] (fun U => PM D q cI cL u U)) (va_Qi (fun (r : Int32) (u' : St) => (r, u') = sM_count u p1) (fun u' t => PM D q cI cL u' t) (AQ 22 q)) 0 0 (AQ 22 q) := by
  refine Met.ofW (cc := cX4_count) (maxL := 2) (ret := (some .int)) (by decide) rfl ?_
  intro p e s m args below meth c s₁ B hml hv
  obtain ⟨rfl, hP, hK⟩ := hv
  have hx := B.exec
  have hb := B.bytes
  have hr := B.returns
  have hts := atoms_spec (ws := wsX4_count) B.pre
  have hown : s.vm.findClass RX4 = some m.cls := findClass_of_methodNamed B.named
  have hlocks := B.notSynchronized
  have hiX4 : ∀ w ∈ u_ws RX4 TX4 29, w ∈ wsX4_count := by decide +kernel
  have hf74 := hts (.fieldLink RX4 74 "ThingRulesModel" "thrown" "I") (by decide +kernel)
  have hf78 := hts (.fieldLink RX4 78 "ThingRulesModel" "things" "I") (by decide +kernel)
  have hf122 := hts (.fieldLink RX4 122 "ThingRulesModel" "patterns" "I") (by decide +kernel)
  have hf183 := hts (.fieldLink RX4 183 "ThingRulesModel" "rules" "I") (by decide +kernel)
  have hf138 := hts (.fieldLink RX4 138 "ThingRulesModel" "steps" "I") (by decide +kernel)
  have hf62 := hts (.fieldLink RX4 62 "ThingRulesModel" "findings" "[I") (by decide +kernel)
  have hS : va_S (AQ 22 q) s.heap s.heap [] := va_S.rf
  have hP : va_P D vwCl (wM q cI cL u) s.heap := hP
  have hl := lv_entry ([.ref (q 0), .int p1]) (n := 2) (Nat.le_of_ble_eq_true rfl)
  rw [lg_entry_eq]
  generalize (lg_sl ([.ref (q 0), .int p1]) ++ List.replicate (2 - (lg_sl ([.ref (q 0), .int p1])).length) Slot.unset).toArray = ls at hl ⊢
  have hl : lv_has ls 2 [(0, .ref (q 0)), (1, .int p1)] := hl
  have hsp : sM_count u p1 = _ := sM_count.eq_1 u p1
  unfold okM_count at hok
  refine lv_aload_n hx hb dX4_count_0 rfl (lv_at hl 0 rfl) ?_
  refine lv_iconst (v := 0) hx hb dX4_count_1 (by decide) ?_
  refine va_put (D := D) (ci := 7) (v := .int 0) (ty := .int) (C := RX4) (T := TX4) (N := 29) hx hb hts hiX4 tyX4 tyX4_ok nmX4 hown hK hP (dM hq) hS 0 rfl rfl 0 (by decide) hf74 (fun _ h9 => h9) rfl (by decide +kernel) rfl rfl (Nat.le_of_ble_eq_true rfl) dX4_count_2 (fun H locs hP _ hS => ?_)
  obtain ⟨u1, hu1⟩ : ∃ z : St, z = (stI u 0 0) := ⟨_, rfl⟩
  have hP : va_P D vwCl (wM q cI cL u1) H := by rw [hu1]; exact hP
  have hsp := hsp.trans (bnd_eq hu1)
  have hok := bnd_ok hu1 hok
  refine lv_iload_n hx hb dX4_count_5 rfl (lv_at hl 1 rfl) ?_
  by_cases c_1 : p1 = 0
  · have hsp := hsp.trans (if_pos c_1)
    refine lv_tableIn (off := 30) (tgt := 36) hx hb dX4_count_6 (by rw [c_1]; decide) (by rw [c_1]; decide) (by rw [c_1]; rfl) (by decide) ?_
    refine lv_aload_n hx hb dX4_count_36 rfl (lv_at hl 0 rfl) ?_
    refine va_get (D := D) (ci := 7) (v := .int (u1.1 1)) (C := RX4) (T := TX4) (N := 29) hx hb hts hiX4 hown hK hP 0 rfl rfl 1 (by decide) hf78 (fun _ h9 => h9) rfl dX4_count_37 ?_
    exact W.iret (v := (u1.1 1)) hx hb hr (fun t ht hW => ⟨⟨(u1.1 1), u1, rfl, hsp.symm, PM_fin hP hK ht hW⟩, hS.F ht⟩) hS.2.2 dX4_count_40
  · have hsp := hsp.trans (if_neg c_1)
    have hok := hok.2 c_1
    by_cases c_2 : p1 = 1
    · have hsp := hsp.trans (if_pos c_2)
      refine lv_tableIn (off := 35) (tgt := 41) hx hb dX4_count_6 (by rw [c_2]; decide) (by rw [c_2]; decide) (by rw [c_2]; rfl) (by decide) ?_
      refine lv_aload_n hx hb dX4_count_41 rfl (lv_at hl 0 rfl) ?_
      refine va_get (D := D) (ci := 7) (v := .int (u1.1 2)) (C := RX4) (T := TX4) (N := 29) hx hb hts hiX4 hown hK hP 0 rfl rfl 7 (by decide) hf122 (fun _ h9 => h9) rfl dX4_count_42 ?_
      exact W.iret (v := (u1.1 2)) hx hb hr (fun t ht hW => ⟨⟨(u1.1 2), u1, rfl, hsp.symm, PM_fin hP hK ht hW⟩, hS.F ht⟩) hS.2.2 dX4_count_45
    · have hsp := hsp.trans (if_neg c_2)
      have hok := hok.2 c_2
      by_cases c_3 : p1 = 2
      · have hsp := hsp.trans (if_pos c_3)
        refine lv_tableIn (off := 40) (tgt := 46) hx hb dX4_count_6 (by rw [c_3]; decide) (by rw [c_3]; decide) (by rw [c_3]; rfl) (by decide) ?_
        refine lv_aload_n hx hb dX4_count_46 rfl (lv_at hl 0 rfl) ?_
        refine va_get (D := D) (ci := 7) (v := .int (u1.1 3)) (C := RX4) (T := TX4) (N := 29) hx hb hts hiX4 hown hK hP 0 rfl rfl 12 (by decide) hf183 (fun _ h9 => h9) rfl dX4_count_47 ?_
        exact W.iret (v := (u1.1 3)) hx hb hr (fun t ht hW => ⟨⟨(u1.1 3), u1, rfl, hsp.symm, PM_fin hP hK ht hW⟩, hS.F ht⟩) hS.2.2 dX4_count_50
      · have hsp := hsp.trans (if_neg c_3)
        have hok := hok.2 c_3
        by_cases c_4 : p1 = 3
        · have hsp := hsp.trans (if_pos c_4)
          refine lv_tableIn (off := 45) (tgt := 51) hx hb dX4_count_6 (by rw [c_4]; decide) (by rw [c_4]; decide) (by rw [c_4]; rfl) (by decide) ?_
          refine lv_aload_n hx hb dX4_count_51 rfl (lv_at hl 0 rfl) ?_
          refine va_get (D := D) (ci := 7) (v := .int (u1.1 4)) (C := RX4) (T := TX4) (N := 29) hx hb hts hiX4 hown hK hP 0 rfl rfl 22 (by decide) hf138 (fun _ h9 => h9) rfl dX4_count_52 ?_
          exact W.iret (v := (u1.1 4)) hx hb hr (fun t ht hW => ⟨⟨(u1.1 4), u1, rfl, hsp.symm, PM_fin hP hK ht hW⟩, hS.F ht⟩) hS.2.2 dX4_count_55
        · have hsp := hsp.trans (if_neg c_4)
          have hok := hok.2 c_4
          refine lv_tableOut (tgt := 56) hx hb dX4_count_6 (by have e0 := lv_neT (a := 0) c_1 (by decide); have e1 := lv_neT (a := 1) c_2 (by decide); have e2 := lv_neT (a := 2) c_3 (by decide); have e3 := lv_neT (a := 3) c_4 (by decide); omega) (by decide) ?_
          refine lv_iload_n hx hb dX4_count_56 rfl (lv_at hl 1 rfl) ?_
          refine lv_iconst (v := 4) hx hb dX4_count_57 (by decide) ?_
          refine lv_bipush (v := 9) hx hb dX4_count_58 (by decide) ?_
          refine vp_callSi (W.runS (As := [.int p1, .int 4, .int 9]) (rest := []) ⟨hx, hb, hml, hown, hts⟩ (cM_in l p1 4 9) (va_cwS 3 hts gX4_count_X4_in rfl rfl rfl (by decide +kernel) ⟨(Nat.le_of_ble_eq_true rfl), (Nat.le_of_ble_eq_true rfl)⟩) ⟨T_blind, fun U hU hW => ⟨rfl, trivial⟩⟩ rfl rfl hl.1 rfl (lv_room (Nat.le_of_ble_eq_true rfl)) dX4_count_60 ⟨(Nat.le_of_ble_eq_true rfl), (Nat.le_of_ble_eq_true rfl)⟩) (fun r_5 hr_5 => ?_)
          subst hr_5
          refine lv_if_eq (tgt := 77) hx hb dX4_count_63 (by decide) (fun c_6 => ?_) (fun c_6 => ?_)
          · have hsp := hsp.trans (if_pos c_6)
            refine lv_bipush (v := (-2)) hx hb dX4_count_77 (by decide) ?_
            exact W.iret (v := (-2)) hx hb hr (fun t ht hW => ⟨⟨(-2), u1, rfl, hsp.symm, PM_fin hP hK ht hW⟩, hS.F ht⟩) hS.2.2 dX4_count_79
          · have hsp := hsp.trans (if_neg c_6)
            have hok := hok.2 c_6
            refine lv_aload_n hx hb dX4_count_66 rfl (lv_at hl 0 rfl) ?_
            refine va_get (D := D) (ci := 7) (v := .ref (q 18)) (C := RX4) (T := TX4) (N := 29) hx hb hts hiX4 hown hK hP 0 rfl rfl 21 (by decide) hf62 (fun _ h9 => h9) rfl dX4_count_67 ?_
            refine lv_iload_n hx hb dX4_count_70 rfl (lv_at hl 1 rfl) ?_
            refine lv_iconst (v := 3) hx hb dX4_count_71 (by decide) ?_
            refine lv_isub hx hb dX4_count_72 ?_
            have h_7 := hok.1
            have hok := hok.2
            refine va_iald hx hb hK hP 18 0 rfl rfl h_7 dX4_count_73 ?_
            refine lv_goto (tgt := 79) hx hb dX4_count_74 (by decide) ?_
            exact W.iret (v := (u1.2.1 18 (p1 - 3).toNatClampNeg)) hx hb hr (fun t ht hW => ⟨⟨(u1.2.1 18 (p1 - 3).toNatClampNeg), u1, rfl, hsp.symm, PM_fin hP hK ht hW⟩, hS.F ht⟩) hS.2.2 dX4_count_79
set_option maxHeartbeats 4000000 in
set_option maxRecDepth 100000 in
theorem cM_clear (l : Launch) (D : va_G) (q : Nat → Nat) (cI cL : ClassId) (hq : DQ 22 q) (u : St) (hok : okM_clear u) : Met l yX4_clear wsX4_clear { frames := 0, cells := 0, slots := 0, locals := 0 } (va_Pc [.ref (q 0)] (fun U => PM D q cI cL u U)) (va_Qi (fun (r : Int32) (u' : St) => (r, u') = sM_clear u) (fun u' t => PM D q cI cL u' t) (AQ 22 q)) 0 0 (AQ 22 q) := by
  refine Met.ofW (cc := cX4_clear) (maxL := 3) (ret := (some .int)) (by decide) rfl ?_
  intro p e s m args below meth c s₁ B hml hv
  obtain ⟨rfl, hP, hK⟩ := hv
  have hx := B.exec
  have hb := B.bytes
  have hr := B.returns
  have hts := atoms_spec (ws := wsX4_clear) B.pre
  have hown : s.vm.findClass RX4 = some m.cls := findClass_of_methodNamed B.named
  have hlocks := B.notSynchronized
  have hiX4 : ∀ w ∈ u_ws RX4 TX4 29, w ∈ wsX4_clear := by decide +kernel
  have hf62 := hts (.fieldLink RX4 62 "ThingRulesModel" "findings" "[I") (by decide +kernel)
  have hf56 := hts (.fieldLink RX4 56 "ThingRulesModel" "slots" "[I") (by decide +kernel)
  have hf74 := hts (.fieldLink RX4 74 "ThingRulesModel" "thrown" "I") (by decide +kernel)
  have hf78 := hts (.fieldLink RX4 78 "ThingRulesModel" "things" "I") (by decide +kernel)
  have hf122 := hts (.fieldLink RX4 122 "ThingRulesModel" "patterns" "I") (by decide +kernel)
  have hf183 := hts (.fieldLink RX4 183 "ThingRulesModel" "rules" "I") (by decide +kernel)
  have hf138 := hts (.fieldLink RX4 138 "ThingRulesModel" "steps" "I") (by decide +kernel)
  have hS : va_S (AQ 22 q) s.heap s.heap [] := va_S.rf
  have hP : va_P D vwCl (wM q cI cL u) s.heap := hP
  have hl := lv_entry ([.ref (q 0)]) (n := 3) (Nat.le_of_ble_eq_true rfl)
  rw [lg_entry_eq]
  generalize (lg_sl ([.ref (q 0)]) ++ List.replicate (3 - (lg_sl ([.ref (q 0)])).length) Slot.unset).toArray = ls at hl ⊢
  have hl : lv_has ls 3 [(0, .ref (q 0))] := hl
  have loop_53 : ∀ (n : Nat) (u' : St) (x1 : Int32) (x2 : Int32) (H : Heap) (locs : List Loc) (ls : Array Slot), oklM_clear_53 n u' x1 x2 → sM_clear u = lM_clear_53 n u' x1 x2 → va_P D vwCl (wM q cI cL u') H → va_S (AQ 22 q) s.heap H locs → lv_has ls 3 [(0, .ref (q 0)), (1, .int x1), (2, .int x2)] → W p l e (headSpec wsX4_clear { frames := 0, cells := 0, slots := 0, locals := 0 }).room s m ([.ref (q 0)] : List Value).toArray below meth c H locs 0 0 (MQ below (va_Qi (fun (r : Int32) (u' : St) => (r, u') = sM_clear u) (fun u' t => PM D q cI cL u' t) (AQ 22 q)) ([.ref (q 0)] : List Value).toArray s 0 0 (AQ 22 q)) (F0 m 53 ls []) := by
    intro n
    induction n with
    | zero => intro u' x1 x2 H locs ls hok; exact False.elim hok
    | succ n ih =>
      intro u' x1 x2 H locs ls hok hsp hP hS hl
      replace hsp := hsp.trans (lM_clear_53_s n u' x1 x2)
      replace hok := (oklM_clear_53_s n u' x1 x2).mp hok
      refine lv_iload_n hx hb dX4_clear_53 rfl (lv_at hl 2 rfl) ?_
      refine lv_bipush (v := 7) hx hb dX4_clear_54 (by decide) ?_
      refine lv_icmp_ge (tgt := 72) hx hb dX4_clear_56 (by decide) (fun c_1 => ?_) (fun c_1 => ?_)
      · have hsp := hsp.trans (if_pos c_1)
        refine lv_iload_n hx hb dX4_clear_72 rfl (lv_at hl 1 rfl) ?_
        exact W.iret (v := x1) hx hb hr (fun t ht hW => ⟨⟨x1, u', rfl, hsp.symm, PM_fin hP hK ht hW⟩, hS.F ht⟩) hS.2.2 dX4_clear_73
      · have hsp := hsp.trans (if_neg c_1)
        have hok := hok.2 c_1
        refine lv_aload_n hx hb dX4_clear_59 rfl (lv_at hl 0 rfl) ?_
        refine va_get (D := D) (ci := 7) (v := .ref (q 18)) (C := RX4) (T := TX4) (N := 29) hx hb hts hiX4 hown hK hP 0 rfl rfl 21 (by decide) hf62 (fun _ h9 => h9) rfl dX4_clear_60 ?_
        refine lv_iload_n hx hb dX4_clear_63 rfl (lv_at hl 2 rfl) ?_
        refine lv_iconst (v := 0) hx hb dX4_clear_64 (by decide) ?_
        have h_2 := hok.1
        have hok := hok.2
        refine va_iast hx hb hK hP (dM hq) hS 18 0 rfl rfl h_2 dX4_clear_65 (fun H locs hP _ hS => ?_)
        obtain ⟨u7, hu7⟩ : ∃ z : St, z = (stA u' 18 x2.toNatClampNeg 0) := ⟨_, rfl⟩
        have hP : va_P D vwCl (wM q cI cL u7) H := by rw [hu7]; exact hP
        have hsp := hsp.trans (bnd_eq hu7)
        have hok := bnd_ok hu7 hok
        refine lv_iinc (v := (x2 + 1)) (lv' := [(2, .int (x2 + 1)), (0, .ref (q 0)), (1, .int x1)]) hx hb dX4_clear_66 hl (k := 2) rfl rfl (by decide) rfl (fun ls hl => ?_)
        refine lv_goto (tgt := 53) hx hb dX4_clear_69 (by decide) ?_
        exact ih u7 x1 (x2 + 1) _ _ _ hok hsp hP hS (lv_sub hl [1, 2, 0] rfl)
  have loop_32 : ∀ (n : Nat) (u' : St) (x1 : Int32) (x2 : Int32) (H : Heap) (locs : List Loc) (ls : Array Slot), oklM_clear_32 n u' x1 x2 → sM_clear u = lM_clear_32 n u' x1 x2 → va_P D vwCl (wM q cI cL u') H → va_S (AQ 22 q) s.heap H locs → lv_has ls 3 [(0, .ref (q 0)), (1, .int x1), (2, .int x2)] → W p l e (headSpec wsX4_clear { frames := 0, cells := 0, slots := 0, locals := 0 }).room s m ([.ref (q 0)] : List Value).toArray below meth c H locs 0 0 (MQ below (va_Qi (fun (r : Int32) (u' : St) => (r, u') = sM_clear u) (fun u' t => PM D q cI cL u' t) (AQ 22 q)) ([.ref (q 0)] : List Value).toArray s 0 0 (AQ 22 q)) (F0 m 32 ls []) := by
    intro n
    induction n with
    | zero => intro u' x1 x2 H locs ls hok; exact False.elim hok
    | succ n ih =>
      intro u' x1 x2 H locs ls hok hsp hP hS hl
      replace hsp := hsp.trans (lM_clear_32_s n u' x1 x2)
      replace hok := (oklM_clear_32_s n u' x1 x2).mp hok
      refine lv_iload_n hx hb dX4_clear_32 rfl (lv_at hl 2 rfl) ?_
      refine lv_iconst (v := 4) hx hb dX4_clear_33 (by decide) ?_
      refine lv_icmp_ge (tgt := 51) hx hb dX4_clear_34 (by decide) (fun c_3 => ?_) (fun c_3 => ?_)
      · have hsp := hsp.trans (if_pos c_3)
        have hok := hok.1 c_3
        refine lv_iconst (v := 0) hx hb dX4_clear_51 (by decide) ?_
        refine lv_istore_n (lv' := [(2, .int 0), (0, .ref (q 0)), (1, .int x1)]) hx hb dX4_clear_52 rfl hl (by decide) rfl (fun ls hl => ?_)
        exact loop_53 100 u' x1 0 _ _ _ hok hsp hP hS (lv_sub hl [1, 2, 0] rfl)
      · have hsp := hsp.trans (if_neg c_3)
        have hok := hok.2 c_3
        refine lv_aload_n hx hb dX4_clear_37 rfl (lv_at hl 0 rfl) ?_
        refine va_get (D := D) (ci := 7) (v := .ref (q 16)) (C := RX4) (T := TX4) (N := 29) hx hb hts hiX4 hown hK hP 0 rfl rfl 19 (by decide) hf56 (fun _ h9 => h9) rfl dX4_clear_38 ?_
        refine lv_iload_n hx hb dX4_clear_41 rfl (lv_at hl 2 rfl) ?_
        refine lv_bipush (v := (-5)) hx hb dX4_clear_42 (by decide) ?_
        have h_4 := hok.1
        have hok := hok.2
        refine va_iast hx hb hK hP (dM hq) hS 16 0 rfl rfl h_4 dX4_clear_44 (fun H locs hP _ hS => ?_)
        obtain ⟨u8, hu8⟩ : ∃ z : St, z = (stA u' 16 x2.toNatClampNeg (-5)) := ⟨_, rfl⟩
        have hP : va_P D vwCl (wM q cI cL u8) H := by rw [hu8]; exact hP
        have hsp := hsp.trans (bnd_eq hu8)
        have hok := bnd_ok hu8 hok
        refine lv_iinc (v := (x2 + 1)) (lv' := [(2, .int (x2 + 1)), (0, .ref (q 0)), (1, .int x1)]) hx hb dX4_clear_45 hl (k := 2) rfl rfl (by decide) rfl (fun ls hl => ?_)
        refine lv_goto (tgt := 32) hx hb dX4_clear_48 (by decide) ?_
        exact ih u8 x1 (x2 + 1) _ _ _ hok hsp hP hS (lv_sub hl [1, 2, 0] rfl)
  have hsp : sM_clear u = _ := sM_clear.eq_1 u
  unfold okM_clear at hok
  refine lv_aload_n hx hb dX4_clear_0 rfl (lv_at hl 0 rfl) ?_
  refine lv_iconst (v := 0) hx hb dX4_clear_1 (by decide) ?_
  refine va_put (D := D) (ci := 7) (v := .int 0) (ty := .int) (C := RX4) (T := TX4) (N := 29) hx hb hts hiX4 tyX4 tyX4_ok nmX4 hown hK hP (dM hq) hS 0 rfl rfl 0 (by decide) hf74 (fun _ h9 => h9) rfl (by decide +kernel) rfl rfl (Nat.le_of_ble_eq_true rfl) dX4_clear_2 (fun H locs hP _ hS => ?_)
  obtain ⟨u1, hu1⟩ : ∃ z : St, z = (stI u 0 0) := ⟨_, rfl⟩
  have hP : va_P D vwCl (wM q cI cL u1) H := by rw [hu1]; exact hP
  have hsp := hsp.trans (bnd_eq hu1)
  have hok := bnd_ok hu1 hok
  refine lv_aload_n hx hb dX4_clear_5 rfl (lv_at hl 0 rfl) ?_
  refine va_get (D := D) (ci := 7) (v := .int (u1.1 1)) (C := RX4) (T := TX4) (N := 29) hx hb hts hiX4 hown hK hP 0 rfl rfl 1 (by decide) hf78 (fun _ h9 => h9) rfl dX4_clear_6 ?_
  refine lv_topi (fun y2 hy2 => ?_)
  have hsp := hsp.trans (bnd_eq hy2)
  have hok := bnd_ok hy2 hok
  refine lv_istore_n (lv' := [(1, .int y2), (0, .ref (q 0))]) hx hb dX4_clear_9 rfl hl (by decide) rfl (fun ls hl => ?_)
  refine lv_aload_n hx hb dX4_clear_10 rfl (lv_at hl 1 rfl) ?_
  refine lv_iconst (v := 0) hx hb dX4_clear_11 (by decide) ?_
  refine va_put (D := D) (ci := 7) (v := .int 0) (ty := .int) (C := RX4) (T := TX4) (N := 29) hx hb hts hiX4 tyX4 tyX4_ok nmX4 hown hK hP (dM hq) hS 0 rfl rfl 1 (by decide) hf78 (fun _ h9 => h9) rfl (by decide +kernel) rfl rfl (Nat.le_of_ble_eq_true rfl) dX4_clear_12 (fun H locs hP _ hS => ?_)
  obtain ⟨u3, hu3⟩ : ∃ z : St, z = (stI u1 1 0) := ⟨_, rfl⟩
  have hP : va_P D vwCl (wM q cI cL u3) H := by rw [hu3]; exact hP
  have hsp := hsp.trans (bnd_eq hu3)
  have hok := bnd_ok hu3 hok
  refine lv_aload_n hx hb dX4_clear_15 rfl (lv_at hl 1 rfl) ?_
  refine lv_iconst (v := 0) hx hb dX4_clear_16 (by decide) ?_
  refine va_put (D := D) (ci := 7) (v := .int 0) (ty := .int) (C := RX4) (T := TX4) (N := 29) hx hb hts hiX4 tyX4 tyX4_ok nmX4 hown hK hP (dM hq) hS 0 rfl rfl 7 (by decide) hf122 (fun _ h9 => h9) rfl (by decide +kernel) rfl rfl (Nat.le_of_ble_eq_true rfl) dX4_clear_17 (fun H locs hP _ hS => ?_)
  obtain ⟨u4, hu4⟩ : ∃ z : St, z = (stI u3 2 0) := ⟨_, rfl⟩
  have hP : va_P D vwCl (wM q cI cL u4) H := by rw [hu4]; exact hP
  have hsp := hsp.trans (bnd_eq hu4)
  have hok := bnd_ok hu4 hok
  refine lv_aload_n hx hb dX4_clear_20 rfl (lv_at hl 1 rfl) ?_
  refine lv_iconst (v := 0) hx hb dX4_clear_21 (by decide) ?_
  refine va_put (D := D) (ci := 7) (v := .int 0) (ty := .int) (C := RX4) (T := TX4) (N := 29) hx hb hts hiX4 tyX4 tyX4_ok nmX4 hown hK hP (dM hq) hS 0 rfl rfl 12 (by decide) hf183 (fun _ h9 => h9) rfl (by decide +kernel) rfl rfl (Nat.le_of_ble_eq_true rfl) dX4_clear_22 (fun H locs hP _ hS => ?_)
  obtain ⟨u5, hu5⟩ : ∃ z : St, z = (stI u4 3 0) := ⟨_, rfl⟩
  have hP : va_P D vwCl (wM q cI cL u5) H := by rw [hu5]; exact hP
  have hsp := hsp.trans (bnd_eq hu5)
  have hok := bnd_ok hu5 hok
  refine lv_aload_n hx hb dX4_clear_25 rfl (lv_at hl 1 rfl) ?_
  refine lv_iconst (v := 0) hx hb dX4_clear_26 (by decide) ?_
  refine va_put (D := D) (ci := 7) (v := .int 0) (ty := .int) (C := RX4) (T := TX4) (N := 29) hx hb hts hiX4 tyX4 tyX4_ok nmX4 hown hK hP (dM hq) hS 0 rfl rfl 22 (by decide) hf138 (fun _ h9 => h9) rfl (by decide +kernel) rfl rfl (Nat.le_of_ble_eq_true rfl) dX4_clear_27 (fun H locs hP _ hS => ?_)
  obtain ⟨u6, hu6⟩ : ∃ z : St, z = (stI u5 4 0) := ⟨_, rfl⟩
  have hP : va_P D vwCl (wM q cI cL u6) H := by rw [hu6]; exact hP
  have hsp := hsp.trans (bnd_eq hu6)
  have hok := bnd_ok hu6 hok
  refine lv_iconst (v := 0) hx hb dX4_clear_30 (by decide) ?_
  refine lv_istore_n (lv' := [(2, .int 0), (1, .int y2), (0, .ref (q 0))]) hx hb dX4_clear_31 rfl hl (by decide) rfl (fun ls hl => ?_)
  exact loop_32 100 u6 y2 0 _ _ _ hok hsp hP hS (lv_sub hl [2, 1, 0] rfl)
