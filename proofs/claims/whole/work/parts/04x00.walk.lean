set_option maxHeartbeats 4000000 in
set_option maxRecDepth 100000 in
theorem cX_within (l : Launch) (p0 : Int32) (p1 : Int32) (p2 : Int32) : Met l yX3_within wsX3_within { frames := 0, cells := 0, slots := 0, locals := 0 } (va_Pc [.int p0, .int p1, .int p2] (fun _ => True)) (vp_Si (fun r => r = sX_within p0 p1 p2)) 0 0 (fun _ => False) := by
  refine Met.ofW (cc := cX3_within) (maxL := 3) (ret := (some .boolean)) (by decide) rfl ?_
  intro p e s m args below meth c s₁ B hml hv
  obtain ⟨rfl, -⟩ := hv
  have hx := B.exec
  have hb := B.bytes
  have hr := B.returns
  have hts := atoms_spec (ws := wsX3_within) B.pre
  have hown : s.vm.findClass RX3 = some m.cls := findClass_of_methodNamed B.named
  have hlocks := B.notSynchronized
  have hl := lv_entry ([.int p0, .int p1, .int p2]) (n := 3) (Nat.le_of_ble_eq_true rfl)
  rw [lg_entry_eq]
  generalize (lg_sl ([.int p0, .int p1, .int p2]) ++ List.replicate (3 - (lg_sl ([.int p0, .int p1, .int p2])).length) Slot.unset).toArray = ls at hl ⊢
  have hl : lv_has ls 3 [(0, .int p0), (1, .int p1), (2, .int p2)] := hl
  have hsp : sX_within p0 p1 p2 = _ := sX_within.eq_1 p0 p1 p2
  refine lv_iload_n hx hb dX3_within_0 rfl (lv_at hl 0 rfl) ?_
  refine lv_iload_n hx hb dX3_within_1 rfl (lv_at hl 1 rfl) ?_
  refine lv_icmp_lt (tgt := 14) hx hb dX3_within_2 (by decide) (fun c_1 => ?_) (fun c_1 => ?_)
  · have hsp := hsp.trans (if_pos c_1)
    refine lv_iconst (v := 0) hx hb dX3_within_14 (by decide) ?_
    exact W.zret (v := 0) hx hb hr rfl (fun t ht hW => ⟨0, rfl, hsp.symm, ht⟩) (fun _ h => nomatch h) dX3_within_15
  · have hsp := hsp.trans (if_neg c_1)
    refine lv_iload_n hx hb dX3_within_5 rfl (lv_at hl 0 rfl) ?_
    refine lv_iload_n hx hb dX3_within_6 rfl (lv_at hl 2 rfl) ?_
    refine lv_icmp_gt (tgt := 14) hx hb dX3_within_7 (by decide) (fun c_2 => ?_) (fun c_2 => ?_)
    · have hsp := hsp.trans (if_pos c_2)
      refine lv_iconst (v := 0) hx hb dX3_within_14 (by decide) ?_
      exact W.zret (v := 0) hx hb hr rfl (fun t ht hW => ⟨0, rfl, hsp.symm, ht⟩) (fun _ h => nomatch h) dX3_within_15
    · have hsp := hsp.trans (if_neg c_2)
      refine lv_iconst (v := 1) hx hb dX3_within_10 (by decide) ?_
      refine lv_goto (tgt := 15) hx hb dX3_within_11 (by decide) ?_
      exact W.zret (v := 1) hx hb hr rfl (fun t ht hW => ⟨1, rfl, hsp.symm, ht⟩) (fun _ h => nomatch h) dX3_within_15
set_option maxHeartbeats 4000000 in
set_option maxRecDepth 100000 in
theorem cXT_areFull (l : Launch) (D : va_G) (q : Nat → Nat) (cI cL : ClassId) (tp : Nat) (u : St) : Met l yX2_areFull wsX2_areFull { frames := 0, cells := 0, slots := 0, locals := 0 } (va_Pc [.ref (q 1)] (fun U => PX D q cI cL tp u U)) (vp_Si (fun r => r = sXT_areFull u)) 0 0 (fun _ => False) := by
  refine Met.ofW (cc := cX2_areFull) (maxL := 1) (ret := (some .boolean)) (by decide) rfl ?_
  intro p e s m args below meth c s₁ B hml hv
  obtain ⟨rfl, hP, hK, hZ⟩ := hv
  have hx := B.exec
  have hb := B.bytes
  have hr := B.returns
  have hts := atoms_spec (ws := wsX2_areFull) B.pre
  have hown : s.vm.findClass RX2 = some m.cls := findClass_of_methodNamed B.named
  have hlocks := B.notSynchronized
  have hiX2 : ∀ w ∈ u_ws RX2 TX2 8, w ∈ wsX2_areFull := by decide +kernel
  have hf34 := hts (.fieldLink RX2 34 "ThingRules$Things" "made" "I") (by decide +kernel)
  have hS : va_S (AQ 24 q) s.heap s.heap [] := va_S.rf
  have hP : va_P D vwCl (wX q cI cL u) s.heap := hP
  have hl := lv_entry ([.ref (q 1)]) (n := 1) (Nat.le_of_ble_eq_true rfl)
  rw [lg_entry_eq]
  generalize (lg_sl ([.ref (q 1)]) ++ List.replicate (1 - (lg_sl ([.ref (q 1)])).length) Slot.unset).toArray = ls at hl ⊢
  have hl : lv_has ls 1 [(0, .ref (q 1))] := hl
  have hsp : sXT_areFull u = _ := sXT_areFull.eq_1 u
  refine lv_aload_n hx hb dX2_areFull_0 rfl (lv_at hl 0 rfl) ?_
  refine va_get (D := D) (ci := 5) (v := .int (u.1 1)) (C := RX2) (T := TX2) (N := 8) hx hb hts hiX2 hown hK hP 1 rfl rfl 0 (by decide) hf34 (fun _ h9 => h9) rfl dX2_areFull_1 ?_
  refine lv_bipush (v := 80) hx hb dX2_areFull_4 (by decide) ?_
  refine lv_icmp_lt (tgt := 13) hx hb dX2_areFull_6 (by decide) (fun c_1 => ?_) (fun c_1 => ?_)
  · have hsp := hsp.trans (if_pos c_1)
    refine lv_iconst (v := 0) hx hb dX2_areFull_13 (by decide) ?_
    exact W.zret (v := 0) hx hb hr rfl (fun t ht hW => ⟨0, rfl, hsp.symm, ht⟩) (fun _ h => nomatch h) dX2_areFull_14
  · have hsp := hsp.trans (if_neg c_1)
    refine lv_iconst (v := 1) hx hb dX2_areFull_9 (by decide) ?_
    refine lv_goto (tgt := 14) hx hb dX2_areFull_10 (by decide) ?_
    exact W.zret (v := 1) hx hb hr rfl (fun t ht hW => ⟨1, rfl, hsp.symm, ht⟩) (fun _ h => nomatch h) dX2_areFull_14
set_option maxHeartbeats 4000000 in
set_option maxRecDepth 100000 in
theorem cXT_make (l : Launch) (D : va_G) (q : Nat → Nat) (cI cL : ClassId) (tp : Nat) (hq : DQ 24 q) (u : St) (p1 : Int32) (p2 : Int32) (p3 : Int32) (hok : okXT_make u p1 p2 p3) : Met l yX2_make wsX2_make { frames := 1, cells := 0, slots := 0, locals := 20 } (va_Pc [.ref (q 1), .int p1, .int p2, .int p3] (fun U => PX D q cI cL tp u U)) (va_Qi (fun (r : Int32) (u' : St) => (r, u') = sXT_make u p1 p2 p3) (fun u' t => PX D q cI cL tp u' t) (AQ 24 q)) 0 0 (AQ 24 q) := by
  refine Met.ofW (cc := cX2_make) (maxL := 6) (ret := (some .int)) (by decide) rfl ?_
  intro p e s m args below meth c s₁ B hml hv
  obtain ⟨rfl, hP, hK, hZ⟩ := hv
  have hx := B.exec
  have hb := B.bytes
  have hr := B.returns
  have hts := atoms_spec (ws := wsX2_make) B.pre
  have hown : s.vm.findClass RX2 = some m.cls := findClass_of_methodNamed B.named
  have hlocks := B.notSynchronized
  have hiX2 : ∀ w ∈ u_ws RX2 TX2 8, w ∈ wsX2_make := by decide +kernel
  have hf34 := hts (.fieldLink RX2 34 "ThingRules$Things" "made" "I") (by decide +kernel)
  have hf27 := hts (.fieldLink RX2 27 "ThingRules$Things" "held" "[I") (by decide +kernel)
  have hf30 := hts (.fieldLink RX2 30 "ThingRules$Things" "numbers" "[J") (by decide +kernel)
  have hf9 := hts (.fieldLink RX2 9 "ThingRules$Things" "form" "[I") (by decide +kernel)
  have hf15 := hts (.fieldLink RX2 15 "ThingRules$Things" "number" "[I") (by decide +kernel)
  have hf18 := hts (.fieldLink RX2 18 "ThingRules$Things" "places" "[I") (by decide +kernel)
  have hf21 := hts (.fieldLink RX2 21 "ThingRules$Things" "left" "[I") (by decide +kernel)
  have hf24 := hts (.fieldLink RX2 24 "ThingRules$Things" "right" "[I") (by decide +kernel)
  have hS : va_S (AQ 24 q) s.heap s.heap [] := va_S.rf
  have hP : va_P D vwCl (wX q cI cL u) s.heap := hP
  have hl := lv_entry ([.ref (q 1), .int p1, .int p2, .int p3]) (n := 6) (Nat.le_of_ble_eq_true rfl)
  rw [lg_entry_eq]
  generalize (lg_sl ([.ref (q 1), .int p1, .int p2, .int p3]) ++ List.replicate (6 - (lg_sl ([.ref (q 1), .int p1, .int p2, .int p3])).length) Slot.unset).toArray = ls at hl ⊢
  have hl : lv_has ls 6 [(0, .ref (q 1)), (1, .int p1), (2, .int p2), (3, .int p3)] := hl
  have loop_61 : ∀ (n : Nat) (u' : St) (x4 : Int32) (x5 : Int32) (H : Heap) (locs : List Loc) (ls : Array Slot), oklXT_make_61 n u' p1 p2 p3 x4 x5 → sXT_make u p1 p2 p3 = lXT_make_61 n u' p1 p2 p3 x4 x5 → va_P D vwCl (wX q cI cL u') H → va_S (AQ 24 q) s.heap H locs → lv_has ls 6 [(0, .ref (q 1)), (1, .int p1), (2, .int p2), (3, .int p3), (4, .int x4), (5, .int x5)] → W p l e (headSpec wsX2_make { frames := 1, cells := 0, slots := 0, locals := 20 }).room s m ([.ref (q 1), .int p1, .int p2, .int p3] : List Value).toArray below meth c H locs 0 0 (MQ below (va_Qi (fun (r : Int32) (u' : St) => (r, u') = sXT_make u p1 p2 p3) (fun u' t => PX D q cI cL tp u' t) (AQ 24 q)) ([.ref (q 1), .int p1, .int p2, .int p3] : List Value).toArray s 0 0 (AQ 24 q)) (F0 m 61 ls []) := by
    intro n
    induction n with
    | zero => intro u' x4 x5 H locs ls hok; exact False.elim hok
    | succ n ih =>
      intro u' x4 x5 H locs ls hok hsp hP hS hl
      replace hsp := hsp.trans (lXT_make_61_s n u' p1 p2 p3 x4 x5)
      replace hok := (oklXT_make_61_s n u' p1 p2 p3 x4 x5).mp hok
      refine lv_iload hx hb dX2_make_61 (lv_at hl 5 rfl) ?_
      refine lv_bipush (v := 6) hx hb dX2_make_63 (by decide) ?_
      refine lv_icmp_ge (tgt := 103) hx hb dX2_make_65 (by decide) (fun c_1 => ?_) (fun c_1 => ?_)
      · have hsp := hsp.trans (if_pos c_1)
        refine lv_aload_n hx hb dX2_make_103 rfl (lv_at hl 0 rfl) ?_
        refine lv_dup hx hb dX2_make_104 rfl ?_
        refine va_get (D := D) (ci := 5) (v := .int (u'.1 1)) (C := RX2) (T := TX2) (N := 8) hx hb hts hiX2 hown hK hP 1 rfl rfl 0 (by decide) hf34 (fun _ h9 => h9) rfl dX2_make_105 ?_
        refine lv_iconst (v := 1) hx hb dX2_make_108 (by decide) ?_
        refine lv_iadd hx hb dX2_make_109 ?_
        refine va_put (D := D) (ci := 5) (v := .int ((u'.1 1) + 1)) (ty := .int) (C := RX2) (T := TX2) (N := 8) hx hb hts hiX2 tyX2 tyX2_ok nmX2 hown hK hP (dX hq) hS 1 rfl rfl 0 (by decide) hf34 (fun _ h9 => h9) rfl (by decide +kernel) rfl rfl (Nat.le_of_ble_eq_true rfl) dX2_make_110 (fun H locs hP _ hS => ?_)
        obtain ⟨u7, hu7⟩ : ∃ z : St, z = (stI u' 1 ((u'.1 1) + 1)) := ⟨_, rfl⟩
        have hP : va_P D vwCl (wX q cI cL u7) H := by rw [hu7]; exact hP
        have hsp := hsp.trans (bnd_eq hu7)
        refine lv_iload hx hb dX2_make_113 (lv_at hl 4 rfl) ?_
        exact W.iret (v := x4) hx hb hr (fun t ht hW => ⟨⟨x4, u7, rfl, hsp.symm, PX_fin hP hK hZ hS ht hW⟩, hS.F ht⟩) hS.2.2 dX2_make_115
      · have hsp := hsp.trans (if_neg c_1)
        have hok := hok.2 c_1
        refine lv_aload_n hx hb dX2_make_68 rfl (lv_at hl 0 rfl) ?_
        refine va_get (D := D) (ci := 5) (v := .ref (q 12)) (C := RX2) (T := TX2) (N := 8) hx hb hts hiX2 hown hK hP 1 rfl rfl 6 (by decide) hf27 (fun _ h9 => h9) rfl dX2_make_69 ?_
        refine lv_iload hx hb dX2_make_72 (lv_at hl 4 rfl) ?_
        refine lv_bipush (v := 6) hx hb dX2_make_74 (by decide) ?_
        refine lv_imul hx hb dX2_make_76 ?_
        refine lv_iload hx hb dX2_make_77 (lv_at hl 5 rfl) ?_
        refine lv_iadd hx hb dX2_make_79 ?_
        refine lv_bipush (v := (-5)) hx hb dX2_make_80 (by decide) ?_
        have h_2 := hok.1
        have hok := hok.2
        refine va_iast hx hb hK hP (dX hq) hS 12 0 rfl rfl h_2 dX2_make_82 (fun H locs hP _ hS => ?_)
        obtain ⟨u8, hu8⟩ : ∃ z : St, z = (stA u' 12 ((x4 * 6) + x5).toNatClampNeg (-5)) := ⟨_, rfl⟩
        have hP : va_P D vwCl (wX q cI cL u8) H := by rw [hu8]; exact hP
        have hsp := hsp.trans (bnd_eq hu8)
        have hok := bnd_ok hu8 hok
        refine lv_aload_n hx hb dX2_make_83 rfl (lv_at hl 0 rfl) ?_
        refine va_get (D := D) (ci := 5) (v := .ref (q 13)) (C := RX2) (T := TX2) (N := 8) hx hb hts hiX2 hown hK hP 1 rfl rfl 7 (by decide) hf30 (fun _ h9 => h9) rfl dX2_make_84 ?_
        refine lv_iload hx hb dX2_make_87 (lv_at hl 4 rfl) ?_
        refine lv_bipush (v := 6) hx hb dX2_make_89 (by decide) ?_
        refine lv_imul hx hb dX2_make_91 ?_
        refine lv_iload hx hb dX2_make_92 (lv_at hl 5 rfl) ?_
        refine lv_iadd hx hb dX2_make_94 ?_
        refine lv_lconst (v := 0) hx hb dX2_make_95 (by decide) ?_
        have h_3 := hok.1
        have hok := hok.2
        refine va_last hx hb hK hP (dX hq) hS 13 1 rfl rfl h_3 dX2_make_96 (fun H locs hP _ hS => ?_)
        obtain ⟨u9, hu9⟩ : ∃ z : St, z = (stL u8 ((x4 * 6) + x5).toNatClampNeg 0) := ⟨_, rfl⟩
        have hP : va_P D vwCl (wX q cI cL u9) H := by rw [hu9]; exact hP
        have hsp := hsp.trans (bnd_eq hu9)
        have hok := bnd_ok hu9 hok
        refine lv_iinc (v := (x5 + 1)) (lv' := [(5, .int (x5 + 1)), (0, .ref (q 1)), (1, .int p1), (2, .int p2), (3, .int p3), (4, .int x4)]) hx hb dX2_make_97 hl (k := 5) rfl rfl (by decide) rfl (fun ls hl => ?_)
        refine lv_goto (tgt := 61) hx hb dX2_make_100 (by decide) ?_
        exact ih u9 x4 (x5 + 1) _ _ _ hok hsp hP hS (lv_sub hl [1, 2, 3, 4, 5, 0] rfl)
  have hsp : sXT_make u p1 p2 p3 = _ := sXT_make.eq_1 u p1 p2 p3
  unfold okXT_make at hok
  refine lv_aload_n hx hb dX2_make_0 rfl (lv_at hl 0 rfl) ?_
  refine vp_callSi (W.runV (As := []) (rest := []) ⟨hx, hb, hml, hown, hts⟩ (cXT_areFull l D q cI cL tp u) (cwV 0 hts gX2_make_X2_areFull rfl rfl rfl (by decide +kernel) ⟨(Nat.le_of_ble_eq_true rfl), (Nat.le_of_ble_eq_true rfl)⟩) ⟨PX_blind, va_recv hK hP (ci := 5) (q0 := 1) rfl rfl, fun U hU hW => ⟨rfl, PX_fin hP hK hZ hS hU hW⟩⟩ rfl rfl hl.1 rfl (lv_room (Nat.le_of_ble_eq_true rfl)) dX2_make_1 ⟨(Nat.le_of_ble_eq_true rfl), (Nat.le_of_ble_eq_true rfl)⟩) (fun r_4 hr_4 => ?_)
  subst hr_4
  refine lv_if_eq (tgt := 10) hx hb dX2_make_4 (by decide) (fun c_5 => ?_) (fun c_5 => ?_)
  · have hsp := hsp.trans (if_pos c_5)
    have hok := hok.1 c_5
    refine lv_aload_n hx hb dX2_make_10 rfl (lv_at hl 0 rfl) ?_
    refine va_get (D := D) (ci := 5) (v := .int (u.1 1)) (C := RX2) (T := TX2) (N := 8) hx hb hts hiX2 hown hK hP 1 rfl rfl 0 (by decide) hf34 (fun _ h9 => h9) rfl dX2_make_11 ?_
    refine lv_topi (fun y1 hy1 => ?_)
    have hsp := hsp.trans (bnd_eq hy1)
    have hok := bnd_ok hy1 hok
    refine lv_istore (lv' := [(4, .int y1), (0, .ref (q 1)), (1, .int p1), (2, .int p2), (3, .int p3)]) hx hb dX2_make_14 hl (by decide) rfl (fun ls hl => ?_)
    refine lv_aload_n hx hb dX2_make_16 rfl (lv_at hl 1 rfl) ?_
    refine va_get (D := D) (ci := 5) (v := .ref (q 7)) (C := RX2) (T := TX2) (N := 8) hx hb hts hiX2 hown hK hP 1 rfl rfl 1 (by decide) hf9 (fun _ h9 => h9) rfl dX2_make_17 ?_
    refine lv_iload hx hb dX2_make_20 (lv_at hl 0 rfl) ?_
    refine lv_iload_n hx hb dX2_make_22 rfl (lv_at hl 2 rfl) ?_
    have h_6 := hok.1
    have hok := hok.2
    refine va_iast hx hb hK hP (dX hq) hS 7 0 rfl rfl h_6 dX2_make_23 (fun H locs hP _ hS => ?_)
    obtain ⟨u2, hu2⟩ : ∃ z : St, z = (stA u 7 y1.toNatClampNeg p1) := ⟨_, rfl⟩
    have hP : va_P D vwCl (wX q cI cL u2) H := by rw [hu2]; exact hP
    have hsp := hsp.trans (bnd_eq hu2)
    have hok := bnd_ok hu2 hok
    refine lv_aload_n hx hb dX2_make_24 rfl (lv_at hl 1 rfl) ?_
    refine va_get (D := D) (ci := 5) (v := .ref (q 8)) (C := RX2) (T := TX2) (N := 8) hx hb hts hiX2 hown hK hP 1 rfl rfl 2 (by decide) hf15 (fun _ h9 => h9) rfl dX2_make_25 ?_
    refine lv_iload hx hb dX2_make_28 (lv_at hl 0 rfl) ?_
    refine lv_iload_n hx hb dX2_make_30 rfl (lv_at hl 3 rfl) ?_
    have h_7 := hok.1
    have hok := hok.2
    refine va_iast hx hb hK hP (dX hq) hS 8 0 rfl rfl h_7 dX2_make_31 (fun H locs hP _ hS => ?_)
    obtain ⟨u3, hu3⟩ : ∃ z : St, z = (stA u2 8 y1.toNatClampNeg p2) := ⟨_, rfl⟩
    have hP : va_P D vwCl (wX q cI cL u3) H := by rw [hu3]; exact hP
    have hsp := hsp.trans (bnd_eq hu3)
    have hok := bnd_ok hu3 hok
    refine lv_aload_n hx hb dX2_make_32 rfl (lv_at hl 1 rfl) ?_
    refine va_get (D := D) (ci := 5) (v := .ref (q 9)) (C := RX2) (T := TX2) (N := 8) hx hb hts hiX2 hown hK hP 1 rfl rfl 3 (by decide) hf18 (fun _ h9 => h9) rfl dX2_make_33 ?_
    refine lv_iload hx hb dX2_make_36 (lv_at hl 0 rfl) ?_
    refine lv_iload_n hx hb dX2_make_38 rfl (lv_at hl 4 rfl) ?_
    have h_8 := hok.1
    have hok := hok.2
    refine va_iast hx hb hK hP (dX hq) hS 9 0 rfl rfl h_8 dX2_make_39 (fun H locs hP _ hS => ?_)
    obtain ⟨u4, hu4⟩ : ∃ z : St, z = (stA u3 9 y1.toNatClampNeg p3) := ⟨_, rfl⟩
    have hP : va_P D vwCl (wX q cI cL u4) H := by rw [hu4]; exact hP
    have hsp := hsp.trans (bnd_eq hu4)
    have hok := bnd_ok hu4 hok
    refine lv_aload_n hx hb dX2_make_40 rfl (lv_at hl 1 rfl) ?_
    refine va_get (D := D) (ci := 5) (v := .ref (q 10)) (C := RX2) (T := TX2) (N := 8) hx hb hts hiX2 hown hK hP 1 rfl rfl 4 (by decide) hf21 (fun _ h9 => h9) rfl dX2_make_41 ?_
    refine lv_iload hx hb dX2_make_44 (lv_at hl 0 rfl) ?_
    refine lv_bipush (v := (-5)) hx hb dX2_make_46 (by decide) ?_
    have h_9 := hok.1
    have hok := hok.2
    refine va_iast hx hb hK hP (dX hq) hS 10 0 rfl rfl h_9 dX2_make_48 (fun H locs hP _ hS => ?_)
    obtain ⟨u5, hu5⟩ : ∃ z : St, z = (stA u4 10 y1.toNatClampNeg (-5)) := ⟨_, rfl⟩
    have hP : va_P D vwCl (wX q cI cL u5) H := by rw [hu5]; exact hP
    have hsp := hsp.trans (bnd_eq hu5)
    have hok := bnd_ok hu5 hok
    refine lv_aload_n hx hb dX2_make_49 rfl (lv_at hl 1 rfl) ?_
    refine va_get (D := D) (ci := 5) (v := .ref (q 11)) (C := RX2) (T := TX2) (N := 8) hx hb hts hiX2 hown hK hP 1 rfl rfl 5 (by decide) hf24 (fun _ h9 => h9) rfl dX2_make_50 ?_
    refine lv_iload hx hb dX2_make_53 (lv_at hl 0 rfl) ?_
    refine lv_bipush (v := (-5)) hx hb dX2_make_55 (by decide) ?_
    have h_10 := hok.1
    have hok := hok.2
    refine va_iast hx hb hK hP (dX hq) hS 11 0 rfl rfl h_10 dX2_make_57 (fun H locs hP _ hS => ?_)
    obtain ⟨u6, hu6⟩ : ∃ z : St, z = (stA u5 11 y1.toNatClampNeg (-5)) := ⟨_, rfl⟩
    have hP : va_P D vwCl (wX q cI cL u6) H := by rw [hu6]; exact hP
    have hsp := hsp.trans (bnd_eq hu6)
    have hok := bnd_ok hu6 hok
    refine lv_iconst (v := 0) hx hb dX2_make_58 (by decide) ?_
    refine lv_istore (lv' := [(5, .int 0), (4, .int y1), (0, .ref (q 1)), (1, .int p1), (2, .int p2), (3, .int p3)]) hx hb dX2_make_59 hl (by decide) rfl (fun ls hl => ?_)
    exact loop_61 100 u6 y1 0 _ _ _ hok hsp hP hS (lv_sub hl [2, 3, 4, 5, 1, 0] rfl)
  · have hsp := hsp.trans (if_neg c_5)
    refine lv_bipush (v := (-4)) hx hb dX2_make_7 (by decide) ?_
    exact W.iret (v := (-4)) hx hb hr (fun t ht hW => ⟨⟨(-4), u, rfl, hsp.symm, PX_fin hP hK hZ hS ht hW⟩, hS.F ht⟩) hS.2.2 dX2_make_9
set_option maxHeartbeats 4000000 in
set_option maxRecDepth 100000 in
theorem cX_thing (l : Launch) (D : va_G) (q : Nat → Nat) (cI cL : ClassId) (tp : Nat) (hq : DQ 24 q) (u : St) (p1 : Int32) (p2 : Int32) (hok : okX_thing u p1 p2) : Met l yX3_thing wsX3_thing { frames := 2, cells := 0, slots := 0, locals := 45 } (va_Pc [.ref (q 0), .int p1, .int p2] (fun U => PX D q cI cL tp u U)) (va_Qi (fun (r : Int32) (u' : St) => (r, u') = sX_thing u p1 p2) (fun u' t => PX D q cI cL tp u' t) (AQ 24 q)) 0 0 (AQ 24 q) := by
  refine Met.ofW (cc := cX3_thing) (maxL := 3) (ret := (some .int)) (by decide) rfl ?_
  intro p e s m args below meth c s₁ B hml hv
  obtain ⟨rfl, hP, hK, hZ⟩ := hv
  have hx := B.exec
  have hb := B.bytes
  have hr := B.returns
  have hts := atoms_spec (ws := wsX3_thing) B.pre
  have hown : s.vm.findClass RX3 = some m.cls := findClass_of_methodNamed B.named
  have hlocks := B.notSynchronized
  have hiX3 : ∀ w ∈ u_ws RX3 TX3 7, w ∈ wsX3_thing := by decide +kernel
  have hf10 := hts (.fieldLink RX3 10 "ThingRules" "things" "LThingRules$Things;") (by decide +kernel)
  have hS : va_S (AQ 24 q) s.heap s.heap [] := va_S.rf
  have hP : va_P D vwCl (wX q cI cL u) s.heap := hP
  have hl := lv_entry ([.ref (q 0), .int p1, .int p2]) (n := 3) (Nat.le_of_ble_eq_true rfl)
  rw [lg_entry_eq]
  generalize (lg_sl ([.ref (q 0), .int p1, .int p2]) ++ List.replicate (3 - (lg_sl ([.ref (q 0), .int p1, .int p2])).length) Slot.unset).toArray = ls at hl ⊢
  have hl : lv_has ls 3 [(0, .ref (q 0)), (1, .int p1), (2, .int p2)] := hl
  have hsp : sX_thing u p1 p2 = _ := sX_thing.eq_1 u p1 p2
  unfold okX_thing at hok
  refine lv_iload_n hx hb dX3_thing_0 rfl (lv_at hl 1 rfl) ?_
  refine lv_iconst (v := 0) hx hb dX3_thing_1 (by decide) ?_
  refine lv_iconst (v := 3) hx hb dX3_thing_2 (by decide) ?_
  refine vp_callSi (W.runS (As := [.int p1, .int 0, .int 3]) (rest := []) ⟨hx, hb, hml, hown, hts⟩ (cX_within l p1 0 3) (va_cwS 3 hts gX3_thing_X3_within rfl rfl rfl (by decide +kernel) ⟨(Nat.le_of_ble_eq_true rfl), (Nat.le_of_ble_eq_true rfl)⟩) ⟨T_blind, fun U hU hW => ⟨rfl, trivial⟩⟩ rfl rfl hl.1 rfl (lv_room (Nat.le_of_ble_eq_true rfl)) dX3_thing_3 ⟨(Nat.le_of_ble_eq_true rfl), (Nat.le_of_ble_eq_true rfl)⟩) (fun r_1 hr_1 => ?_)
  subst hr_1
  refine lv_if_eq (tgt := 22) hx hb dX3_thing_6 (by decide) (fun c_2 => ?_) (fun c_2 => ?_)
  · have hsp := hsp.trans (if_pos c_2)
    refine lv_bipush (v := (-2)) hx hb dX3_thing_22 (by decide) ?_
    exact W.iret (v := (-2)) hx hb hr (fun t ht hW => ⟨⟨(-2), u, rfl, hsp.symm, PX_fin hP hK hZ hS ht hW⟩, hS.F ht⟩) hS.2.2 dX3_thing_24
  · have hsp := hsp.trans (if_neg c_2)
    have hok := hok.2 c_2
    refine lv_iload_n hx hb dX3_thing_9 rfl (lv_at hl 2 rfl) ?_
    refine lv_sipush (v := (-999)) hx hb dX3_thing_10 (by decide) ?_
    refine lv_sipush (v := 999) hx hb dX3_thing_13 (by decide) ?_
    refine vp_callSi (W.runS (As := [.int p2, .int (-999), .int 999]) (rest := []) ⟨hx, hb, hml, hown, hts⟩ (cX_within l p2 (-999) 999) (va_cwS 3 hts gX3_thing_X3_within rfl rfl rfl (by decide +kernel) ⟨(Nat.le_of_ble_eq_true rfl), (Nat.le_of_ble_eq_true rfl)⟩) ⟨T_blind, fun U hU hW => ⟨rfl, trivial⟩⟩ rfl rfl hl.1 rfl (lv_room (Nat.le_of_ble_eq_true rfl)) dX3_thing_16 ⟨(Nat.le_of_ble_eq_true rfl), (Nat.le_of_ble_eq_true rfl)⟩) (fun r_3 hr_3 => ?_)
    subst hr_3
    refine lv_if_ne (tgt := 25) hx hb dX3_thing_19 (by decide) (fun c_4 => ?_) (fun c_4 => ?_)
    · have hsp := hsp.trans (if_neg c_4)
      have hok := hok.2 c_4
      refine lv_aload_n hx hb dX3_thing_25 rfl (lv_at hl 0 rfl) ?_
      refine va_get (D := D) (ci := 6) (v := .ref (q 1)) (C := RX3) (T := TX3) (N := 7) hx hb hts hiX3 hown hK hP 0 rfl rfl 0 (by decide) hf10 (fun _ h9 => h9) rfl dX3_thing_26 ?_
      refine lv_iload_n hx hb dX3_thing_29 rfl (lv_at hl 1 rfl) ?_
      refine lv_iload_n hx hb dX3_thing_30 rfl (lv_at hl 2 rfl) ?_
      refine lv_iconst (v := 0) hx hb dX3_thing_31 (by decide) ?_
      have h_5 := hok.1
      have hok := hok.2
      refine va_calli (va_runV (As := [.int p1, .int p2, .int 0]) (rest := []) ⟨hx, hb, hml, hown, hts⟩ (cXT_make l D q cI cL tp hq u p1 p2 0 h_5) (cwV 3 hts gX3_thing_X2_make rfl rfl rfl (by decide +kernel) ⟨(Nat.le_of_ble_eq_true rfl), (Nat.le_of_ble_eq_true rfl)⟩) ⟨PX_blind, va_recv hK hP (ci := 5) (q0 := 1) rfl rfl, fun U hU hW => ⟨rfl, PX_fin hP hK hZ hS hU hW⟩⟩ rfl rfl hl.1 rfl (lv_room (Nat.le_of_ble_eq_true rfl)) dX3_thing_32 ⟨(Nat.le_of_ble_eq_true rfl), (Nat.le_of_ble_eq_true rfl)⟩) hS (fun q _ h => h) (fun q h => h) (fun r1 u1 t H1 locs ht hvm hu1 hB hz1 hk1 hS => ?_)
      have hP := hB.1
      rw [ht] at hP
      clear hB hk1 hz1 hvm ht
      generalize H1 = H at hP hS ⊢
      refine W.widen (k := 0) (n := 0) (Nat.le_refl 0) (Nat.le_refl 0) ?_
      exact W.iret (v := r1) hx hb hr (fun t ht hW => ⟨⟨r1, u1, rfl, (hu1.trans hsp.symm), PX_fin hP hK hZ hS ht hW⟩, hS.F ht⟩) hS.2.2 dX3_thing_35
    · have hsp := hsp.trans (if_pos c_4)
      refine lv_bipush (v := (-2)) hx hb dX3_thing_22 (by decide) ?_
      exact W.iret (v := (-2)) hx hb hr (fun t ht hW => ⟨⟨(-2), u, rfl, hsp.symm, PX_fin hP hK hZ hS ht hW⟩, hS.F ht⟩) hS.2.2 dX3_thing_24
set_option maxHeartbeats 4000000 in
set_option maxRecDepth 100000 in
theorem cX_counted (l : Launch) (D : va_G) (q : Nat → Nat) (cI cL : ClassId) (tp : Nat) (hq : DQ 24 q) (u : St) (p1 : Int32) (hok : okX_counted u p1) : Met l yX3_counted wsX3_counted { frames := 1, cells := 0, slots := 0, locals := 22 } (va_Pc [.ref (q 0), .int p1] (fun U => PX D q cI cL tp u U)) (va_Qi (fun (r : Int32) (u' : St) => (r, u') = sX_counted u p1) (fun u' t => PX D q cI cL tp u' t) (AQ 24 q)) 0 0 (AQ 24 q) := by
  refine Met.ofW (cc := cX3_counted) (maxL := 3) (ret := (some .int)) (by decide) rfl ?_
  intro p e s m args below meth c s₁ B hml hv
  obtain ⟨rfl, hP, hK, hZ⟩ := hv
  have hx := B.exec
  have hb := B.bytes
  have hr := B.returns
  have hts := atoms_spec (ws := wsX3_counted) B.pre
  have hown : s.vm.findClass RX3 = some m.cls := findClass_of_methodNamed B.named
  have hlocks := B.notSynchronized
  have hiX3 : ∀ w ∈ u_ws RX3 TX3 7, w ∈ wsX3_counted := by decide +kernel
  have hf37 := hts (.fieldLink RX3 37 "ThingRules" "findings" "[I") (by decide +kernel)
  have hS : va_S (AQ 24 q) s.heap s.heap [] := va_S.rf
  have hP : va_P D vwCl (wX q cI cL u) s.heap := hP
  have hl := lv_entry ([.ref (q 0), .int p1]) (n := 3) (Nat.le_of_ble_eq_true rfl)
  rw [lg_entry_eq]
  generalize (lg_sl ([.ref (q 0), .int p1]) ++ List.replicate (3 - (lg_sl ([.ref (q 0), .int p1])).length) Slot.unset).toArray = ls at hl ⊢
  have hl : lv_has ls 3 [(0, .ref (q 0)), (1, .int p1)] := hl
  have hsp : sX_counted u p1 = _ := sX_counted.eq_1 u p1
  unfold okX_counted at hok
  refine lv_bipush (v := (-20)) hx hb dX3_counted_0 (by decide) ?_
  refine lv_iload_n hx hb dX3_counted_2 rfl (lv_at hl 1 rfl) ?_
  refine lv_isub hx hb dX3_counted_3 ?_
  refine lv_topi (fun y1 hy1 => ?_)
  have hsp := hsp.trans (bnd_eq hy1)
  have hok := bnd_ok hy1 hok
  refine lv_istore_n (lv' := [(2, .int y1), (0, .ref (q 0)), (1, .int p1)]) hx hb dX3_counted_4 rfl hl (by decide) rfl (fun ls hl => ?_)
  refine lv_iload_n hx hb dX3_counted_5 rfl (lv_at hl 0 rfl) ?_
  refine lv_iconst (v := 1) hx hb dX3_counted_6 (by decide) ?_
  refine lv_bipush (v := 6) hx hb dX3_counted_7 (by decide) ?_
  refine vp_callSi (W.runS (As := [.int y1, .int 1, .int 6]) (rest := []) ⟨hx, hb, hml, hown, hts⟩ (cX_within l y1 1 6) (va_cwS 3 hts gX3_counted_X3_within rfl rfl rfl (by decide +kernel) ⟨(Nat.le_of_ble_eq_true rfl), (Nat.le_of_ble_eq_true rfl)⟩) ⟨T_blind, fun U hU hW => ⟨rfl, trivial⟩⟩ rfl rfl hl.1 rfl (lv_room (Nat.le_of_ble_eq_true rfl)) dX3_counted_9 ⟨(Nat.le_of_ble_eq_true rfl), (Nat.le_of_ble_eq_true rfl)⟩) (fun r_1 hr_1 => ?_)
  subst hr_1
  refine lv_if_eq (tgt := 27) hx hb dX3_counted_12 (by decide) (fun c_2 => ?_) (fun c_2 => ?_)
  · have hsp := hsp.trans (if_pos c_2)
    refine lv_iload_n hx hb dX3_counted_27 rfl (lv_at hl 2 rfl) ?_
    exact W.iret (v := p1) hx hb hr (fun t ht hW => ⟨⟨p1, u, rfl, hsp.symm, PX_fin hP hK hZ hS ht hW⟩, hS.F ht⟩) hS.2.2 dX3_counted_28
  · have hsp := hsp.trans (if_neg c_2)
    have hok := hok.2 c_2
    refine lv_aload_n hx hb dX3_counted_15 rfl (lv_at hl 1 rfl) ?_
    refine va_get (D := D) (ci := 6) (v := .ref (q 6)) (C := RX3) (T := TX3) (N := 7) hx hb hts hiX3 hown hK hP 0 rfl rfl 5 (by decide) hf37 (fun _ h9 => h9) rfl dX3_counted_16 ?_
    refine lv_iload_n hx hb dX3_counted_19 rfl (lv_at hl 0 rfl) ?_
    refine lv_iconst (v := 1) hx hb dX3_counted_20 (by decide) ?_
    refine lv_isub hx hb dX3_counted_21 ?_
    refine lv_dup2_11 hx hb dX3_counted_22 rfl rfl ?_
    have h_3 := hok.1
    have hok := hok.2
    refine va_iald hx hb hK hP 6 0 rfl rfl h_3 dX3_counted_23 ?_
    refine lv_iconst (v := 1) hx hb dX3_counted_24 (by decide) ?_
    refine lv_iadd hx hb dX3_counted_25 ?_
    have h_4 := hok.1
    have hok := hok.2
    refine va_iast hx hb hK hP (dX hq) hS 6 0 rfl rfl h_4 dX3_counted_26 (fun H locs hP _ hS => ?_)
    obtain ⟨u2, hu2⟩ : ∃ z : St, z = (stA u 6 (y1 - 1).toNatClampNeg ((u.2.1 6 (y1 - 1).toNatClampNeg) + 1)) := ⟨_, rfl⟩
    have hP : va_P D vwCl (wX q cI cL u2) H := by rw [hu2]; exact hP
    have hsp := hsp.trans (bnd_eq hu2)
    refine lv_iload_n hx hb dX3_counted_27 rfl (lv_at hl 2 rfl) ?_
    exact W.iret (v := p1) hx hb hr (fun t ht hW => ⟨⟨p1, u2, rfl, hsp.symm, PX_fin hP hK hZ hS ht hW⟩, hS.F ht⟩) hS.2.2 dX3_counted_28
set_option maxHeartbeats 4000000 in
set_option maxRecDepth 100000 in
theorem cX_row (l : Launch) (D : va_G) (q : Nat → Nat) (cI cL : ClassId) (tp : Nat) (hq : DQ 24 q) (u : St) (p1 : Int32) (p2 : Int32) (hok : okX_row u p1 p2) : Met l yX3_row wsX3_row { frames := 2, cells := 0, slots := 0, locals := 45 } (va_Pc [.ref (q 0), .int p1, .int p2] (fun U => PX D q cI cL tp u U)) (va_Qi (fun (r : Int32) (u' : St) => (r, u') = sX_row u p1 p2) (fun u' t => PX D q cI cL tp u' t) (AQ 24 q)) 0 0 (AQ 24 q) := by
  refine Met.ofW (cc := cX3_row) (maxL := 3) (ret := (some .int)) (by decide) rfl ?_
  intro p e s m args below meth c s₁ B hml hv
  obtain ⟨rfl, hP, hK, hZ⟩ := hv
  have hx := B.exec
  have hb := B.bytes
  have hr := B.returns
  have hts := atoms_spec (ws := wsX3_row) B.pre
  have hown : s.vm.findClass RX3 = some m.cls := findClass_of_methodNamed B.named
  have hlocks := B.notSynchronized
  have hiX3 : ∀ w ∈ u_ws RX3 TX3 7, w ∈ wsX3_row := by decide +kernel
  have hf10 := hts (.fieldLink RX3 10 "ThingRules" "things" "LThingRules$Things;") (by decide +kernel)
  have hS : va_S (AQ 24 q) s.heap s.heap [] := va_S.rf
  have hP : va_P D vwCl (wX q cI cL u) s.heap := hP
  have hl := lv_entry ([.ref (q 0), .int p1, .int p2]) (n := 3) (Nat.le_of_ble_eq_true rfl)
  rw [lg_entry_eq]
  generalize (lg_sl ([.ref (q 0), .int p1, .int p2]) ++ List.replicate (3 - (lg_sl ([.ref (q 0), .int p1, .int p2])).length) Slot.unset).toArray = ls at hl ⊢
  have hl : lv_has ls 3 [(0, .ref (q 0)), (1, .int p1), (2, .int p2)] := hl
  have hsp : sX_row u p1 p2 = _ := sX_row.eq_1 u p1 p2
  unfold okX_row at hok
  refine lv_iload_n hx hb dX3_row_0 rfl (lv_at hl 1 rfl) ?_
  refine lv_iconst (v := 4) hx hb dX3_row_1 (by decide) ?_
  refine lv_bipush (v := 13) hx hb dX3_row_2 (by decide) ?_
  refine vp_callSi (W.runS (As := [.int p1, .int 4, .int 13]) (rest := []) ⟨hx, hb, hml, hown, hts⟩ (cX_within l p1 4 13) (va_cwS 3 hts gX3_row_X3_within rfl rfl rfl (by decide +kernel) ⟨(Nat.le_of_ble_eq_true rfl), (Nat.le_of_ble_eq_true rfl)⟩) ⟨T_blind, fun U hU hW => ⟨rfl, trivial⟩⟩ rfl rfl hl.1 rfl (lv_room (Nat.le_of_ble_eq_true rfl)) dX3_row_4 ⟨(Nat.le_of_ble_eq_true rfl), (Nat.le_of_ble_eq_true rfl)⟩) (fun r_1 hr_1 => ?_)
  subst hr_1
  refine lv_if_eq (tgt := 16) hx hb dX3_row_7 (by decide) (fun c_2 => ?_) (fun c_2 => ?_)
  · have hsp := hsp.trans (if_pos c_2)
    refine lv_bipush (v := (-2)) hx hb dX3_row_16 (by decide) ?_
    exact W.iret (v := (-2)) hx hb hr (fun t ht hW => ⟨⟨(-2), u, rfl, hsp.symm, PX_fin hP hK hZ hS ht hW⟩, hS.F ht⟩) hS.2.2 dX3_row_18
  · have hsp := hsp.trans (if_neg c_2)
    have hok := hok.2 c_2
    refine lv_iload_n hx hb dX3_row_10 rfl (lv_at hl 2 rfl) ?_
    refine lv_bipush (v := 6) hx hb dX3_row_11 (by decide) ?_
    refine lv_icmp_le (tgt := 19) hx hb dX3_row_13 (by decide) (fun c_3 => ?_) (fun c_3 => ?_)
    · have hsp := hsp.trans (if_pos c_3)
      have hok := hok.1 c_3
      refine lv_aload_n hx hb dX3_row_19 rfl (lv_at hl 0 rfl) ?_
      refine va_get (D := D) (ci := 6) (v := .ref (q 1)) (C := RX3) (T := TX3) (N := 7) hx hb hts hiX3 hown hK hP 0 rfl rfl 0 (by decide) hf10 (fun _ h9 => h9) rfl dX3_row_20 ?_
      refine vp_callSi (W.runV (As := []) (rest := []) ⟨hx, hb, hml, hown, hts⟩ (cXT_areFull l D q cI cL tp u) (cwV 0 hts gX3_row_X2_areFull rfl rfl rfl (by decide +kernel) ⟨(Nat.le_of_ble_eq_true rfl), (Nat.le_of_ble_eq_true rfl)⟩) ⟨PX_blind, va_recv hK hP (ci := 5) (q0 := 1) rfl rfl, fun U hU hW => ⟨rfl, PX_fin hP hK hZ hS hU hW⟩⟩ rfl rfl hl.1 rfl (lv_room (Nat.le_of_ble_eq_true rfl)) dX3_row_23 ⟨(Nat.le_of_ble_eq_true rfl), (Nat.le_of_ble_eq_true rfl)⟩) (fun r_4 hr_4 => ?_)
      subst hr_4
      refine lv_if_eq (tgt := 32) hx hb dX3_row_26 (by decide) (fun c_5 => ?_) (fun c_5 => ?_)
      · have hsp := hsp.trans (if_pos c_5)
        have hok := hok.1 c_5
        refine lv_iload_n hx hb dX3_row_32 rfl (lv_at hl 2 rfl) ?_
        refine lv_if_ge (tgt := 45) hx hb dX3_row_33 (by decide) (fun c_6 => ?_) (fun c_6 => ?_)
        · have hsp := hsp.trans (if_pos c_6)
          have hok := hok.1 c_6
          refine lv_aload_n hx hb dX3_row_45 rfl (lv_at hl 0 rfl) ?_
          refine va_get (D := D) (ci := 6) (v := .ref (q 1)) (C := RX3) (T := TX3) (N := 7) hx hb hts hiX3 hown hK hP 0 rfl rfl 0 (by decide) hf10 (fun _ h9 => h9) rfl dX3_row_46 ?_
          refine lv_iload_n hx hb dX3_row_49 rfl (lv_at hl 1 rfl) ?_
          refine lv_iconst (v := 0) hx hb dX3_row_50 (by decide) ?_
          refine lv_iload_n hx hb dX3_row_51 rfl (lv_at hl 2 rfl) ?_
          have h_7 := hok.1
          have hok := hok.2
          refine va_calli (va_runV (As := [.int p1, .int 0, .int p2]) (rest := []) ⟨hx, hb, hml, hown, hts⟩ (cXT_make l D q cI cL tp hq u p1 0 p2 h_7) (cwV 3 hts gX3_row_X2_make rfl rfl rfl (by decide +kernel) ⟨(Nat.le_of_ble_eq_true rfl), (Nat.le_of_ble_eq_true rfl)⟩) ⟨PX_blind, va_recv hK hP (ci := 5) (q0 := 1) rfl rfl, fun U hU hW => ⟨rfl, PX_fin hP hK hZ hS hU hW⟩⟩ rfl rfl hl.1 rfl (lv_room (Nat.le_of_ble_eq_true rfl)) dX3_row_52 ⟨(Nat.le_of_ble_eq_true rfl), (Nat.le_of_ble_eq_true rfl)⟩) hS (fun q _ h => h) (fun q h => h) (fun r1 u1 t H1 locs ht hvm hu1 hB hz1 hk1 hS => ?_)
          have hP := hB.1
          rw [ht] at hP
          clear hB hk1 hz1 hvm ht
          generalize H1 = H at hP hS ⊢
          refine W.widen (k := 0) (n := 0) (Nat.le_refl 0) (Nat.le_refl 0) ?_
          exact W.iret (v := r1) hx hb hr (fun t ht hW => ⟨⟨r1, u1, rfl, (hu1.trans hsp.symm), PX_fin hP hK hZ hS ht hW⟩, hS.F ht⟩) hS.2.2 dX3_row_55
        · have hsp := hsp.trans (if_neg c_6)
          have hok := hok.2 c_6
          refine lv_aload_n hx hb dX3_row_36 rfl (lv_at hl 0 rfl) ?_
          refine lv_bipush (v := (-25)) hx hb dX3_row_37 (by decide) ?_
          have h_8 := hok.1
          have hok := hok.2
          refine va_calli (va_runV (As := [.int (-25)]) (rest := []) ⟨hx, hb, hml, hown, hts⟩ (cX_counted l D q cI cL tp hq u (-25) h_8) (cwV 1 hts gX3_row_X3_counted rfl rfl rfl (by decide +kernel) ⟨(Nat.le_of_ble_eq_true rfl), (Nat.le_of_ble_eq_true rfl)⟩) ⟨PX_blind, va_recv hK hP (ci := 6) (q0 := 0) rfl rfl, fun U hU hW => ⟨rfl, PX_fin hP hK hZ hS hU hW⟩⟩ rfl rfl hl.1 rfl (lv_room (Nat.le_of_ble_eq_true rfl)) dX3_row_39 ⟨(Nat.le_of_ble_eq_true rfl), (Nat.le_of_ble_eq_true rfl)⟩) hS (fun q _ h => h) (fun q h => h) (fun r2 u2 t H1 locs ht hvm hu2 hB hz1 hk1 hS => ?_)
          have hP := hB.1
          rw [ht] at hP
          clear hB hk1 hz1 hvm ht
          generalize H1 = H at hP hS ⊢
          refine W.widen (k := 0) (n := 0) (Nat.le_refl 0) (Nat.le_refl 0) ?_
          have hsp := hsp.trans (bnd2_eq hu2)
          refine lv_goto (tgt := 55) hx hb dX3_row_42 (by decide) ?_
          exact W.iret (v := r2) hx hb hr (fun t ht hW => ⟨⟨r2, u2, rfl, hsp.symm, PX_fin hP hK hZ hS ht hW⟩, hS.F ht⟩) hS.2.2 dX3_row_55
      · have hsp := hsp.trans (if_neg c_5)
        refine lv_bipush (v := (-4)) hx hb dX3_row_29 (by decide) ?_
        exact W.iret (v := (-4)) hx hb hr (fun t ht hW => ⟨⟨(-4), u, rfl, hsp.symm, PX_fin hP hK hZ hS ht hW⟩, hS.F ht⟩) hS.2.2 dX3_row_31
    · have hsp := hsp.trans (if_neg c_3)
      refine lv_bipush (v := (-2)) hx hb dX3_row_16 (by decide) ?_
      exact W.iret (v := (-2)) hx hb hr (fun t ht hW => ⟨⟨(-2), u, rfl, hsp.symm, PX_fin hP hK hZ hS ht hW⟩, hS.F ht⟩) hS.2.2 dX3_row_18
set_option maxHeartbeats 4000000 in
set_option maxRecDepth 100000 in
theorem cXT_know (l : Launch) (D : va_G) (q : Nat → Nat) (cI cL : ClassId) (tp : Nat) (u : St) (p1 : Int32) : Met l yX2_know wsX2_know { frames := 0, cells := 0, slots := 0, locals := 0 } (va_Pc [.ref (q 1), .int p1] (fun U => PX D q cI cL tp u U)) (vp_Si (fun r => r = sXT_know u p1)) 0 0 (fun _ => False) := by
  refine Met.ofW (cc := cX2_know) (maxL := 2) (ret := (some .boolean)) (by decide) rfl ?_
  intro p e s m args below meth c s₁ B hml hv
  obtain ⟨rfl, hP, hK, hZ⟩ := hv
  have hx := B.exec
  have hb := B.bytes
  have hr := B.returns
  have hts := atoms_spec (ws := wsX2_know) B.pre
  have hown : s.vm.findClass RX2 = some m.cls := findClass_of_methodNamed B.named
  have hlocks := B.notSynchronized
  have hiX2 : ∀ w ∈ u_ws RX2 TX2 8, w ∈ wsX2_know := by decide +kernel
  have hf34 := hts (.fieldLink RX2 34 "ThingRules$Things" "made" "I") (by decide +kernel)
  have hS : va_S (AQ 24 q) s.heap s.heap [] := va_S.rf
  have hP : va_P D vwCl (wX q cI cL u) s.heap := hP
  have hl := lv_entry ([.ref (q 1), .int p1]) (n := 2) (Nat.le_of_ble_eq_true rfl)
  rw [lg_entry_eq]
  generalize (lg_sl ([.ref (q 1), .int p1]) ++ List.replicate (2 - (lg_sl ([.ref (q 1), .int p1])).length) Slot.unset).toArray = ls at hl ⊢
  have hl : lv_has ls 2 [(0, .ref (q 1)), (1, .int p1)] := hl
  have hsp : sXT_know u p1 = _ := sXT_know.eq_1 u p1
  refine lv_iload_n hx hb dX2_know_0 rfl (lv_at hl 1 rfl) ?_
  refine lv_if_lt (tgt := 16) hx hb dX2_know_1 (by decide) (fun c_1 => ?_) (fun c_1 => ?_)
  · have hsp := hsp.trans (if_pos c_1)
    refine lv_iconst (v := 0) hx hb dX2_know_16 (by decide) ?_
    exact W.zret (v := 0) hx hb hr rfl (fun t ht hW => ⟨0, rfl, hsp.symm, ht⟩) (fun _ h => nomatch h) dX2_know_17
  · have hsp := hsp.trans (if_neg c_1)
    refine lv_iload_n hx hb dX2_know_4 rfl (lv_at hl 1 rfl) ?_
    refine lv_aload_n hx hb dX2_know_5 rfl (lv_at hl 0 rfl) ?_
    refine va_get (D := D) (ci := 5) (v := .int (u.1 1)) (C := RX2) (T := TX2) (N := 8) hx hb hts hiX2 hown hK hP 1 rfl rfl 0 (by decide) hf34 (fun _ h9 => h9) rfl dX2_know_6 ?_
    refine lv_icmp_ge (tgt := 16) hx hb dX2_know_9 (by decide) (fun c_2 => ?_) (fun c_2 => ?_)
    · have hsp := hsp.trans (if_pos c_2)
      refine lv_iconst (v := 0) hx hb dX2_know_16 (by decide) ?_
      exact W.zret (v := 0) hx hb hr rfl (fun t ht hW => ⟨0, rfl, hsp.symm, ht⟩) (fun _ h => nomatch h) dX2_know_17
    · have hsp := hsp.trans (if_neg c_2)
      refine lv_iconst (v := 1) hx hb dX2_know_12 (by decide) ?_
      refine lv_goto (tgt := 17) hx hb dX2_know_13 (by decide) ?_
      exact W.zret (v := 1) hx hb hr rfl (fun t ht hW => ⟨1, rfl, hsp.symm, ht⟩) (fun _ h => nomatch h) dX2_know_17
set_option maxHeartbeats 4000000 in
set_option maxRecDepth 100000 in
theorem cXT_knowOrNone (l : Launch) (D : va_G) (q : Nat → Nat) (cI cL : ClassId) (tp : Nat) (u : St) (p1 : Int32) : Met l yX2_knowOrNone wsX2_knowOrNone { frames := 1, cells := 0, slots := 0, locals := 21 } (va_Pc [.ref (q 1), .int p1] (fun U => PX D q cI cL tp u U)) (vp_Si (fun r => r = sXT_knowOrNone u p1)) 0 0 (fun _ => False) := by
  refine Met.ofW (cc := cX2_knowOrNone) (maxL := 2) (ret := (some .boolean)) (by decide) rfl ?_
  intro p e s m args below meth c s₁ B hml hv
  obtain ⟨rfl, hP, hK, hZ⟩ := hv
  have hx := B.exec
  have hb := B.bytes
  have hr := B.returns
  have hts := atoms_spec (ws := wsX2_knowOrNone) B.pre
  have hown : s.vm.findClass RX2 = some m.cls := findClass_of_methodNamed B.named
  have hlocks := B.notSynchronized
  have hS : va_S (AQ 24 q) s.heap s.heap [] := va_S.rf
  have hP : va_P D vwCl (wX q cI cL u) s.heap := hP
  have hl := lv_entry ([.ref (q 1), .int p1]) (n := 2) (Nat.le_of_ble_eq_true rfl)
  rw [lg_entry_eq]
  generalize (lg_sl ([.ref (q 1), .int p1]) ++ List.replicate (2 - (lg_sl ([.ref (q 1), .int p1])).length) Slot.unset).toArray = ls at hl ⊢
  have hl : lv_has ls 2 [(0, .ref (q 1)), (1, .int p1)] := hl
  have hsp : sXT_knowOrNone u p1 = _ := sXT_knowOrNone.eq_1 u p1
  refine lv_iload_n hx hb dX2_knowOrNone_0 rfl (lv_at hl 1 rfl) ?_
  refine lv_bipush (v := (-5)) hx hb dX2_knowOrNone_1 (by decide) ?_
  refine lv_icmp_eq (tgt := 14) hx hb dX2_knowOrNone_3 (by decide) (fun c_1 => ?_) (fun c_1 => ?_)
  · have hsp := hsp.trans (if_pos c_1)
    refine lv_iconst (v := 1) hx hb dX2_knowOrNone_14 (by decide) ?_
    refine lv_goto (tgt := 19) hx hb dX2_knowOrNone_15 (by decide) ?_
    exact W.zret (v := 1) hx hb hr rfl (fun t ht hW => ⟨1, rfl, hsp.symm, ht⟩) (fun _ h => nomatch h) dX2_knowOrNone_19
  · have hsp := hsp.trans (if_neg c_1)
    refine lv_aload_n hx hb dX2_knowOrNone_6 rfl (lv_at hl 0 rfl) ?_
    refine lv_iload_n hx hb dX2_knowOrNone_7 rfl (lv_at hl 1 rfl) ?_
    refine vp_callSi (W.runV (As := [.int p1]) (rest := []) ⟨hx, hb, hml, hown, hts⟩ (cXT_know l D q cI cL tp u p1) (cwV 1 hts gX2_knowOrNone_X2_know rfl rfl rfl (by decide +kernel) ⟨(Nat.le_of_ble_eq_true rfl), (Nat.le_of_ble_eq_true rfl)⟩) ⟨PX_blind, va_recv hK hP (ci := 5) (q0 := 1) rfl rfl, fun U hU hW => ⟨rfl, PX_fin hP hK hZ hS hU hW⟩⟩ rfl rfl hl.1 rfl (lv_room (Nat.le_of_ble_eq_true rfl)) dX2_knowOrNone_8 ⟨(Nat.le_of_ble_eq_true rfl), (Nat.le_of_ble_eq_true rfl)⟩) (fun r_2 hr_2 => ?_)
    subst hr_2
    refine lv_if_eq (tgt := 18) hx hb dX2_knowOrNone_11 (by decide) (fun c_3 => ?_) (fun c_3 => ?_)
    · have hsp := hsp.trans (if_pos c_3)
      refine lv_iconst (v := 0) hx hb dX2_knowOrNone_18 (by decide) ?_
      exact W.zret (v := 0) hx hb hr rfl (fun t ht hW => ⟨0, rfl, hsp.symm, ht⟩) (fun _ h => nomatch h) dX2_knowOrNone_19
    · have hsp := hsp.trans (if_neg c_3)
      refine lv_iconst (v := 1) hx hb dX2_knowOrNone_14 (by decide) ?_
      refine lv_goto (tgt := 19) hx hb dX2_knowOrNone_15 (by decide) ?_
      exact W.zret (v := 1) hx hb hr rfl (fun t ht hW => ⟨1, rfl, hsp.symm, ht⟩) (fun _ h => nomatch h) dX2_knowOrNone_19
set_option maxHeartbeats 4000000 in
set_option maxRecDepth 100000 in
theorem cX_isHolderKind (l : Launch) (p0 : Int32) : Met l yX3_isHolderKind wsX3_isHolderKind { frames := 1, cells := 0, slots := 0, locals := 22 } (va_Pc [.int p0] (fun _ => True)) (vp_Si (fun r => r = sX_isHolderKind p0)) 0 0 (fun _ => False) := by
  refine Met.ofW (cc := cX3_isHolderKind) (maxL := 1) (ret := (some .boolean)) (by decide) rfl ?_
  intro p e s m args below meth c s₁ B hml hv
  obtain ⟨rfl, -⟩ := hv
  have hx := B.exec
  have hb := B.bytes
  have hr := B.returns
  have hts := atoms_spec (ws := wsX3_isHolderKind) B.pre
  have hown : s.vm.findClass RX3 = some m.cls := findClass_of_methodNamed B.named
  have hlocks := B.notSynchronized
  have hl := lv_entry ([.int p0]) (n := 1) (Nat.le_of_ble_eq_true rfl)
  rw [lg_entry_eq]
  generalize (lg_sl ([.int p0]) ++ List.replicate (1 - (lg_sl ([.int p0])).length) Slot.unset).toArray = ls at hl ⊢
  have hl : lv_has ls 1 [(0, .int p0)] := hl
  have hsp : sX_isHolderKind p0 = _ := sX_isHolderKind.eq_1 p0
  refine lv_iload_n hx hb dX3_isHolderKind_0 rfl (lv_at hl 0 rfl) ?_
  refine lv_bipush (v := 7) hx hb dX3_isHolderKind_1 (by decide) ?_
  refine lv_bipush (v := 13) hx hb dX3_isHolderKind_3 (by decide) ?_
  refine vp_callSi (W.runS (As := [.int p0, .int 7, .int 13]) (rest := []) ⟨hx, hb, hml, hown, hts⟩ (cX_within l p0 7 13) (va_cwS 3 hts gX3_isHolderKind_X3_within rfl rfl rfl (by decide +kernel) ⟨(Nat.le_of_ble_eq_true rfl), (Nat.le_of_ble_eq_true rfl)⟩) ⟨T_blind, fun U hU hW => ⟨rfl, trivial⟩⟩ rfl rfl hl.1 rfl (lv_room (Nat.le_of_ble_eq_true rfl)) dX3_isHolderKind_5 ⟨(Nat.le_of_ble_eq_true rfl), (Nat.le_of_ble_eq_true rfl)⟩) (fun r_1 hr_1 => ?_)
  subst hr_1
  exact W.zret (v := (sX_within p0 7 13)) hx hb hr (isB_n (bX_within p0 7 13)) (fun t ht hW => ⟨(sX_within p0 7 13), rfl, hsp.symm, ht⟩) (fun _ h => nomatch h) dX3_isHolderKind_8
set_option maxHeartbeats 4000000 in
set_option maxRecDepth 100000 in
theorem cXT_formIsOf (l : Launch) (p0 : Int32) (p1 : Int32) : Met l yX2_formIsOf wsX2_formIsOf { frames := 0, cells := 0, slots := 0, locals := 0 } (va_Pc [.int p0, .int p1] (fun _ => True)) (vp_Si (fun r => r = sXT_formIsOf p0 p1)) 0 0 (fun _ => False) := by
  refine Met.ofW (cc := cX2_formIsOf) (maxL := 2) (ret := (some .boolean)) (by decide) rfl ?_
  intro p e s m args below meth c s₁ B hml hv
  obtain ⟨rfl, -⟩ := hv
  have hx := B.exec
  have hb := B.bytes
  have hr := B.returns
  have hts := atoms_spec (ws := wsX2_formIsOf) B.pre
  have hown : s.vm.findClass RX2 = some m.cls := findClass_of_methodNamed B.named
  have hlocks := B.notSynchronized
  have hl := lv_entry ([.int p0, .int p1]) (n := 2) (Nat.le_of_ble_eq_true rfl)
  rw [lg_entry_eq]
  generalize (lg_sl ([.int p0, .int p1]) ++ List.replicate (2 - (lg_sl ([.int p0, .int p1])).length) Slot.unset).toArray = ls at hl ⊢
  have hl : lv_has ls 2 [(0, .int p0), (1, .int p1)] := hl
  have hsp : sXT_formIsOf p0 p1 = _ := sXT_formIsOf.eq_1 p0 p1
  refine lv_iload_n hx hb dX2_formIsOf_0 rfl (lv_at hl 1 rfl) ?_
  refine lv_iload_n hx hb dX2_formIsOf_1 rfl (lv_at hl 0 rfl) ?_
  refine lv_icmp_eq (tgt := 11) hx hb dX2_formIsOf_2 (by decide) (fun c_1 => ?_) (fun c_1 => ?_)
  · have hsp := hsp.trans (if_pos c_1)
    refine lv_iconst (v := 1) hx hb dX2_formIsOf_11 (by decide) ?_
    exact W.zret (v := 1) hx hb hr rfl (fun t ht hW => ⟨1, rfl, hsp.symm, ht⟩) (fun _ h => nomatch h) dX2_formIsOf_12
  · have hsp := hsp.trans (if_neg c_1)
    refine lv_iload_n hx hb dX2_formIsOf_5 rfl (lv_at hl 1 rfl) ?_
    refine lv_bipush (v := 15) hx hb dX2_formIsOf_6 (by decide) ?_
    refine lv_icmp_ne (tgt := 13) hx hb dX2_formIsOf_8 (by decide) (fun c_2 => ?_) (fun c_2 => ?_)
    · have hsp := hsp.trans (if_neg c_2)
      refine lv_iload_n hx hb dX2_formIsOf_13 rfl (lv_at hl 0 rfl) ?_
      by_cases c_3 : p0 = 1
      · have hsp := hsp.trans (if_pos c_3)
        refine lv_lookup (off := 42) (tgt := 56) hx hb dX2_formIsOf_14 (by decide) (by rw [c_3]; rfl) (by decide) ?_
        refine lv_iload_n hx hb dX2_formIsOf_56 rfl (lv_at hl 1 rfl) ?_
        refine lv_if_eq (tgt := 66) hx hb dX2_formIsOf_57 (by decide) (fun c_4 => ?_) (fun c_4 => ?_)
        · have hsp := hsp.trans (if_pos c_4)
          refine lv_iconst (v := 1) hx hb dX2_formIsOf_66 (by decide) ?_
          refine lv_goto (tgt := 71) hx hb dX2_formIsOf_67 (by decide) ?_
          exact W.zret (v := 1) hx hb hr rfl (fun t ht hW => ⟨1, rfl, hsp.symm, ht⟩) (fun _ h => nomatch h) dX2_formIsOf_71
        · have hsp := hsp.trans (if_neg c_4)
          refine lv_iload_n hx hb dX2_formIsOf_60 rfl (lv_at hl 1 rfl) ?_
          refine lv_bipush (v := 14) hx hb dX2_formIsOf_61 (by decide) ?_
          refine lv_icmp_ne (tgt := 70) hx hb dX2_formIsOf_63 (by decide) (fun c_5 => ?_) (fun c_5 => ?_)
          · have hsp := hsp.trans (if_neg c_5)
            refine lv_iconst (v := 0) hx hb dX2_formIsOf_70 (by decide) ?_
            exact W.zret (v := 0) hx hb hr rfl (fun t ht hW => ⟨0, rfl, hsp.symm, ht⟩) (fun _ h => nomatch h) dX2_formIsOf_71
          · have hsp := hsp.trans (if_pos c_5)
            refine lv_iconst (v := 1) hx hb dX2_formIsOf_66 (by decide) ?_
            refine lv_goto (tgt := 71) hx hb dX2_formIsOf_67 (by decide) ?_
            exact W.zret (v := 1) hx hb hr rfl (fun t ht hW => ⟨1, rfl, hsp.symm, ht⟩) (fun _ h => nomatch h) dX2_formIsOf_71
      · have hsp := hsp.trans (if_neg c_3)
        by_cases c_6 : p0 = 3
        · have hsp := hsp.trans (if_pos c_6)
          refine lv_lookup (off := 58) (tgt := 72) hx hb dX2_formIsOf_14 (by decide) (by rw [c_6]; rfl) (by decide) ?_
          refine lv_iload_n hx hb dX2_formIsOf_72 rfl (lv_at hl 1 rfl) ?_
          refine lv_bipush (v := 14) hx hb dX2_formIsOf_73 (by decide) ?_
          refine lv_icmp_ne (tgt := 82) hx hb dX2_formIsOf_75 (by decide) (fun c_7 => ?_) (fun c_7 => ?_)
          · have hsp := hsp.trans (if_neg c_7)
            refine lv_iconst (v := 0) hx hb dX2_formIsOf_82 (by decide) ?_
            exact W.zret (v := 0) hx hb hr rfl (fun t ht hW => ⟨0, rfl, hsp.symm, ht⟩) (fun _ h => nomatch h) dX2_formIsOf_83
          · have hsp := hsp.trans (if_pos c_7)
            refine lv_iconst (v := 1) hx hb dX2_formIsOf_78 (by decide) ?_
            refine lv_goto (tgt := 83) hx hb dX2_formIsOf_79 (by decide) ?_
            exact W.zret (v := 1) hx hb hr rfl (fun t ht hW => ⟨1, rfl, hsp.symm, ht⟩) (fun _ h => nomatch h) dX2_formIsOf_83
        · have hsp := hsp.trans (if_neg c_6)
          by_cases c_8 : p0 = 9
          · have hsp := hsp.trans (if_pos c_8)
            refine lv_lookup (off := 70) (tgt := 84) hx hb dX2_formIsOf_14 (by decide) (by rw [c_8]; rfl) (by decide) ?_
            refine lv_iload_n hx hb dX2_formIsOf_84 rfl (lv_at hl 1 rfl) ?_
            refine lv_bipush (v := 8) hx hb dX2_formIsOf_85 (by decide) ?_
            refine lv_icmp_eq (tgt := 96) hx hb dX2_formIsOf_87 (by decide) (fun c_9 => ?_) (fun c_9 => ?_)
            · have hsp := hsp.trans (if_pos c_9)
              refine lv_iconst (v := 1) hx hb dX2_formIsOf_96 (by decide) ?_
              refine lv_goto (tgt := 101) hx hb dX2_formIsOf_97 (by decide) ?_
              exact W.zret (v := 1) hx hb hr rfl (fun t ht hW => ⟨1, rfl, hsp.symm, ht⟩) (fun _ h => nomatch h) dX2_formIsOf_101
            · have hsp := hsp.trans (if_neg c_9)
              refine lv_iload_n hx hb dX2_formIsOf_90 rfl (lv_at hl 1 rfl) ?_
              refine lv_bipush (v := 11) hx hb dX2_formIsOf_91 (by decide) ?_
              refine lv_icmp_ne (tgt := 100) hx hb dX2_formIsOf_93 (by decide) (fun c_10 => ?_) (fun c_10 => ?_)
              · have hsp := hsp.trans (if_neg c_10)
                refine lv_iconst (v := 0) hx hb dX2_formIsOf_100 (by decide) ?_
                exact W.zret (v := 0) hx hb hr rfl (fun t ht hW => ⟨0, rfl, hsp.symm, ht⟩) (fun _ h => nomatch h) dX2_formIsOf_101
              · have hsp := hsp.trans (if_pos c_10)
                refine lv_iconst (v := 1) hx hb dX2_formIsOf_96 (by decide) ?_
                refine lv_goto (tgt := 101) hx hb dX2_formIsOf_97 (by decide) ?_
                exact W.zret (v := 1) hx hb hr rfl (fun t ht hW => ⟨1, rfl, hsp.symm, ht⟩) (fun _ h => nomatch h) dX2_formIsOf_101
          · have hsp := hsp.trans (if_neg c_8)
            by_cases c_11 : p0 = 13
            · have hsp := hsp.trans (if_pos c_11)
              refine lv_lookup (off := 88) (tgt := 102) hx hb dX2_formIsOf_14 (by decide) (by rw [c_11]; rfl) (by decide) ?_
              refine lv_iload_n hx hb dX2_formIsOf_102 rfl (lv_at hl 1 rfl) ?_
              refine lv_bipush (v := 12) hx hb dX2_formIsOf_103 (by decide) ?_
              refine lv_icmp_ne (tgt := 112) hx hb dX2_formIsOf_105 (by decide) (fun c_12 => ?_) (fun c_12 => ?_)
              · have hsp := hsp.trans (if_neg c_12)
                refine lv_iconst (v := 0) hx hb dX2_formIsOf_112 (by decide) ?_
                exact W.zret (v := 0) hx hb hr rfl (fun t ht hW => ⟨0, rfl, hsp.symm, ht⟩) (fun _ h => nomatch h) dX2_formIsOf_113
              · have hsp := hsp.trans (if_pos c_12)
                refine lv_iconst (v := 1) hx hb dX2_formIsOf_108 (by decide) ?_
                refine lv_goto (tgt := 113) hx hb dX2_formIsOf_109 (by decide) ?_
                exact W.zret (v := 1) hx hb hr rfl (fun t ht hW => ⟨1, rfl, hsp.symm, ht⟩) (fun _ h => nomatch h) dX2_formIsOf_113
            · have hsp := hsp.trans (if_neg c_11)
              refine lv_lookup (off := 100) (tgt := 114) hx hb dX2_formIsOf_14 (by decide) ((lv_osw c_3 (by decide)).trans ((lv_osw c_6 (by decide)).trans ((lv_osw c_8 (by decide)).trans ((lv_osw c_11 (by decide)).trans rfl)))) (by decide) ?_
              refine lv_iconst (v := 0) hx hb dX2_formIsOf_114 (by decide) ?_
              exact W.zret (v := 0) hx hb hr rfl (fun t ht hW => ⟨0, rfl, hsp.symm, ht⟩) (fun _ h => nomatch h) dX2_formIsOf_115
    · have hsp := hsp.trans (if_pos c_2)
      refine lv_iconst (v := 1) hx hb dX2_formIsOf_11 (by decide) ?_
      exact W.zret (v := 1) hx hb hr rfl (fun t ht hW => ⟨1, rfl, hsp.symm, ht⟩) (fun _ h => nomatch h) dX2_formIsOf_12
set_option maxHeartbeats 4000000 in
set_option maxRecDepth 100000 in
theorem cXT_isOf (l : Launch) (D : va_G) (q : Nat → Nat) (cI cL : ClassId) (tp : Nat) (u : St) (p1 : Int32) (p2 : Int32) (hok : okXT_isOf u p1 p2) : Met l yX2_isOf wsX2_isOf { frames := 1, cells := 0, slots := 0, locals := 21 } (va_Pc [.ref (q 1), .int p1, .int p2] (fun U => PX D q cI cL tp u U)) (vp_Si (fun r => r = sXT_isOf u p1 p2)) 0 0 (fun _ => False) := by
  refine Met.ofW (cc := cX2_isOf) (maxL := 3) (ret := (some .boolean)) (by decide) rfl ?_
  intro p e s m args below meth c s₁ B hml hv
  obtain ⟨rfl, hP, hK, hZ⟩ := hv
  have hx := B.exec
  have hb := B.bytes
  have hr := B.returns
  have hts := atoms_spec (ws := wsX2_isOf) B.pre
  have hown : s.vm.findClass RX2 = some m.cls := findClass_of_methodNamed B.named
  have hlocks := B.notSynchronized
  have hiX2 : ∀ w ∈ u_ws RX2 TX2 8, w ∈ wsX2_isOf := by decide +kernel
  have hf9 := hts (.fieldLink RX2 9 "ThingRules$Things" "form" "[I") (by decide +kernel)
  have hS : va_S (AQ 24 q) s.heap s.heap [] := va_S.rf
  have hP : va_P D vwCl (wX q cI cL u) s.heap := hP
  have hl := lv_entry ([.ref (q 1), .int p1, .int p2]) (n := 3) (Nat.le_of_ble_eq_true rfl)
  rw [lg_entry_eq]
  generalize (lg_sl ([.ref (q 1), .int p1, .int p2]) ++ List.replicate (3 - (lg_sl ([.ref (q 1), .int p1, .int p2])).length) Slot.unset).toArray = ls at hl ⊢
  have hl : lv_has ls 3 [(0, .ref (q 1)), (1, .int p1), (2, .int p2)] := hl
  have hsp : sXT_isOf u p1 p2 = _ := sXT_isOf.eq_1 u p1 p2
  unfold okXT_isOf at hok
  refine lv_aload_n hx hb dX2_isOf_0 rfl (lv_at hl 0 rfl) ?_
  refine lv_iload_n hx hb dX2_isOf_1 rfl (lv_at hl 1 rfl) ?_
  refine vp_callSi (W.runV (As := [.int p1]) (rest := []) ⟨hx, hb, hml, hown, hts⟩ (cXT_know l D q cI cL tp u p1) (cwV 1 hts gX2_isOf_X2_know rfl rfl rfl (by decide +kernel) ⟨(Nat.le_of_ble_eq_true rfl), (Nat.le_of_ble_eq_true rfl)⟩) ⟨PX_blind, va_recv hK hP (ci := 5) (q0 := 1) rfl rfl, fun U hU hW => ⟨rfl, PX_fin hP hK hZ hS hU hW⟩⟩ rfl rfl hl.1 rfl (lv_room (Nat.le_of_ble_eq_true rfl)) dX2_isOf_2 ⟨(Nat.le_of_ble_eq_true rfl), (Nat.le_of_ble_eq_true rfl)⟩) (fun r_1 hr_1 => ?_)
  subst hr_1
  refine lv_if_eq (tgt := 25) hx hb dX2_isOf_5 (by decide) (fun c_2 => ?_) (fun c_2 => ?_)
  · have hsp := hsp.trans (if_pos c_2)
    refine lv_iconst (v := 0) hx hb dX2_isOf_25 (by decide) ?_
    exact W.zret (v := 0) hx hb hr rfl (fun t ht hW => ⟨0, rfl, hsp.symm, ht⟩) (fun _ h => nomatch h) dX2_isOf_26
  · have hsp := hsp.trans (if_neg c_2)
    have hok := hok.2 c_2
    refine lv_aload_n hx hb dX2_isOf_8 rfl (lv_at hl 0 rfl) ?_
    refine va_get (D := D) (ci := 5) (v := .ref (q 7)) (C := RX2) (T := TX2) (N := 8) hx hb hts hiX2 hown hK hP 1 rfl rfl 1 (by decide) hf9 (fun _ h9 => h9) rfl dX2_isOf_9 ?_
    refine lv_iload_n hx hb dX2_isOf_12 rfl (lv_at hl 1 rfl) ?_
    have h_3 := hok.1
    have hok := hok.2
    refine va_iald hx hb hK hP 7 0 rfl rfl h_3 dX2_isOf_13 ?_
    refine lv_iload_n hx hb dX2_isOf_14 rfl (lv_at hl 2 rfl) ?_
    refine vp_callSi (W.runS (As := [.int (u.2.1 7 p1.toNatClampNeg), .int p2]) (rest := []) ⟨hx, hb, hml, hown, hts⟩ (cXT_formIsOf l (u.2.1 7 p1.toNatClampNeg) p2) (va_cwS 2 hts gX2_isOf_X2_formIsOf rfl rfl rfl (by decide +kernel) ⟨(Nat.le_of_ble_eq_true rfl), (Nat.le_of_ble_eq_true rfl)⟩) ⟨T_blind, fun U hU hW => ⟨rfl, trivial⟩⟩ rfl rfl hl.1 rfl (lv_room (Nat.le_of_ble_eq_true rfl)) dX2_isOf_15 ⟨(Nat.le_of_ble_eq_true rfl), (Nat.le_of_ble_eq_true rfl)⟩) (fun r_4 hr_4 => ?_)
    subst hr_4
    refine lv_if_eq (tgt := 25) hx hb dX2_isOf_18 (by decide) (fun c_5 => ?_) (fun c_5 => ?_)
    · have hsp := hsp.trans (if_pos c_5)
      refine lv_iconst (v := 0) hx hb dX2_isOf_25 (by decide) ?_
      exact W.zret (v := 0) hx hb hr rfl (fun t ht hW => ⟨0, rfl, hsp.symm, ht⟩) (fun _ h => nomatch h) dX2_isOf_26
    · have hsp := hsp.trans (if_neg c_5)
      refine lv_iconst (v := 1) hx hb dX2_isOf_21 (by decide) ?_
      refine lv_goto (tgt := 26) hx hb dX2_isOf_22 (by decide) ?_
      exact W.zret (v := 1) hx hb hr rfl (fun t ht hW => ⟨1, rfl, hsp.symm, ht⟩) (fun _ h => nomatch h) dX2_isOf_26
set_option maxHeartbeats 4000000 in
set_option maxRecDepth 100000 in
theorem cXT_mayBeTaken (l : Launch) (D : va_G) (q : Nat → Nat) (cI cL : ClassId) (tp : Nat) (u : St) (p1 : Int32) (p2 : Int32) (hok : okXT_mayBeTaken u p1 p2) : Met l yX2_mayBeTaken wsX2_mayBeTaken { frames := 2, cells := 0, slots := 0, locals := 43 } (va_Pc [.ref (q 1), .int p1, .int p2] (fun U => PX D q cI cL tp u U)) (vp_Si (fun r => r = sXT_mayBeTaken u p1 p2)) 0 0 (fun _ => False) := by
  refine Met.ofW (cc := cX2_mayBeTaken) (maxL := 3) (ret := (some .boolean)) (by decide) rfl ?_
  intro p e s m args below meth c s₁ B hml hv
  obtain ⟨rfl, hP, hK, hZ⟩ := hv
  have hx := B.exec
  have hb := B.bytes
  have hr := B.returns
  have hts := atoms_spec (ws := wsX2_mayBeTaken) B.pre
  have hown : s.vm.findClass RX2 = some m.cls := findClass_of_methodNamed B.named
  have hlocks := B.notSynchronized
  have hS : va_S (AQ 24 q) s.heap s.heap [] := va_S.rf
  have hP : va_P D vwCl (wX q cI cL u) s.heap := hP
  have hl := lv_entry ([.ref (q 1), .int p1, .int p2]) (n := 3) (Nat.le_of_ble_eq_true rfl)
  rw [lg_entry_eq]
  generalize (lg_sl ([.ref (q 1), .int p1, .int p2]) ++ List.replicate (3 - (lg_sl ([.ref (q 1), .int p1, .int p2])).length) Slot.unset).toArray = ls at hl ⊢
  have hl : lv_has ls 3 [(0, .ref (q 1)), (1, .int p1), (2, .int p2)] := hl
  have hsp : sXT_mayBeTaken u p1 p2 = _ := sXT_mayBeTaken.eq_1 u p1 p2
  unfold okXT_mayBeTaken at hok
  refine lv_iload_n hx hb dX2_mayBeTaken_0 rfl (lv_at hl 1 rfl) ?_
  refine lv_bipush (v := (-5)) hx hb dX2_mayBeTaken_1 (by decide) ?_
  refine lv_icmp_eq (tgt := 15) hx hb dX2_mayBeTaken_3 (by decide) (fun c_1 => ?_) (fun c_1 => ?_)
  · have hsp := hsp.trans (if_pos c_1)
    refine lv_iconst (v := 1) hx hb dX2_mayBeTaken_15 (by decide) ?_
    refine lv_goto (tgt := 20) hx hb dX2_mayBeTaken_16 (by decide) ?_
    exact W.zret (v := 1) hx hb hr rfl (fun t ht hW => ⟨1, rfl, hsp.symm, ht⟩) (fun _ h => nomatch h) dX2_mayBeTaken_20
  · have hsp := hsp.trans (if_neg c_1)
    have hok := hok.2 c_1
    refine lv_aload_n hx hb dX2_mayBeTaken_6 rfl (lv_at hl 0 rfl) ?_
    refine lv_iload_n hx hb dX2_mayBeTaken_7 rfl (lv_at hl 1 rfl) ?_
    refine lv_iload_n hx hb dX2_mayBeTaken_8 rfl (lv_at hl 2 rfl) ?_
    have h_2 := hok.1
    have hok := hok.2
    refine vp_callSi (W.runV (As := [.int p1, .int p2]) (rest := []) ⟨hx, hb, hml, hown, hts⟩ (cXT_isOf l D q cI cL tp u p1 p2 h_2) (cwV 2 hts gX2_mayBeTaken_X2_isOf rfl rfl rfl (by decide +kernel) ⟨(Nat.le_of_ble_eq_true rfl), (Nat.le_of_ble_eq_true rfl)⟩) ⟨PX_blind, va_recv hK hP (ci := 5) (q0 := 1) rfl rfl, fun U hU hW => ⟨rfl, PX_fin hP hK hZ hS hU hW⟩⟩ rfl rfl hl.1 rfl (lv_room (Nat.le_of_ble_eq_true rfl)) dX2_mayBeTaken_9 ⟨(Nat.le_of_ble_eq_true rfl), (Nat.le_of_ble_eq_true rfl)⟩) (fun r_3 hr_3 => ?_)
    subst hr_3
    refine lv_if_eq (tgt := 19) hx hb dX2_mayBeTaken_12 (by decide) (fun c_4 => ?_) (fun c_4 => ?_)
    · have hsp := hsp.trans (if_pos c_4)
      refine lv_iconst (v := 0) hx hb dX2_mayBeTaken_19 (by decide) ?_
      exact W.zret (v := 0) hx hb hr rfl (fun t ht hW => ⟨0, rfl, hsp.symm, ht⟩) (fun _ h => nomatch h) dX2_mayBeTaken_20
    · have hsp := hsp.trans (if_neg c_4)
      refine lv_iconst (v := 1) hx hb dX2_mayBeTaken_15 (by decide) ?_
      refine lv_goto (tgt := 20) hx hb dX2_mayBeTaken_16 (by decide) ?_
      exact W.zret (v := 1) hx hb hr rfl (fun t ht hW => ⟨1, rfl, hsp.symm, ht⟩) (fun _ h => nomatch h) dX2_mayBeTaken_20
