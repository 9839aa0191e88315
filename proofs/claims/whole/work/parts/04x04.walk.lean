set_option maxHeartbeats 4000000 in
set_option maxRecDepth 100000 in
theorem cX_lookAtPlace (l : Launch) (D : va_G) (q : Nat → Nat) (cI cL : ClassId) (tp : Nat) (hq : DQ 24 q) (lk : St → Int32 → Int32 → Int32 × St) (oklk : St → Int32 → Int32 → Prop) (d : Nat) (hlk : ∀ (u : St) (p it : Int32), oklk u p it → Met l yX3_look wsX3_look (rmL d) (va_Pc [.ref (q 0), .int p, .int it] (fun U => PX D q cI cL tp u U)) (va_Qi (fun (r : Int32) (u' : St) => (r, u') = lk u p it) (fun u' t => PX D q cI cL tp u' t) (AQ 24 q)) 0 0 (AQ 24 q)) (u : St) (p1 : Int32) (p2 : Int32) (p3 : Int32) (p4 : Int32) (hok : okX_lookAtPlace lk oklk u p1 p2 p3 p4) : Met l yX3_lookAtPlace wsX3_lookAtPlace { frames := 2 * d + 13, cells := 0, slots := 0, locals := 60 * d + 425 } (va_Pc [.ref (q 0), .int p1, .int p2, .int p3, .int p4] (fun U => PX D q cI cL tp u U)) (va_Qi (fun (r : Int32) (u' : St) => (r, u') = sX_lookAtPlace lk u p1 p2 p3 p4) (fun u' t => PX D q cI cL tp u' t) (AQ 24 q)) 0 0 (AQ 24 q) := by
  refine Met.ofW (cc := cX3_lookAtPlace) (maxL := 6) (ret := (some .int)) (by decide) rfl ?_
  intro p e s m args below meth c s₁ B hml hv
  obtain ⟨rfl, hP, hK, hZ⟩ := hv
  have hx := B.exec
  have hb := B.bytes
  have hr := B.returns
  have hts := atoms_spec (ws := wsX3_lookAtPlace) B.pre
  have hown : s.vm.findClass RX3 = some m.cls := findClass_of_methodNamed B.named
  have hlocks := B.notSynchronized
  have hiX3 : ∀ w ∈ u_ws RX3 TX3 7, w ∈ wsX3_lookAtPlace := by decide +kernel
  have hf10 := hts (.fieldLink RX3 10 "ThingRules" "things" "LThingRules$Things;") (by decide +kernel)
  have hS : va_S (AQ 24 q) s.heap s.heap [] := va_S.rf
  have hP : va_P D vwCl (wX q cI cL u) s.heap := hP
  have hl := lv_entry ([.ref (q 0), .int p1, .int p2, .int p3, .int p4]) (n := 6) (Nat.le_of_ble_eq_true rfl)
  rw [lg_entry_eq]
  generalize (lg_sl ([.ref (q 0), .int p1, .int p2, .int p3, .int p4]) ++ List.replicate (6 - (lg_sl ([.ref (q 0), .int p1, .int p2, .int p3, .int p4])).length) Slot.unset).toArray = ls at hl ⊢
  have hl : lv_has ls 6 [(0, .ref (q 0)), (1, .int p1), (2, .int p2), (3, .int p3), (4, .int p4)] := hl
  have hsp : sX_lookAtPlace lk u p1 p2 p3 p4 = _ := sX_lookAtPlace.eq_1 lk u p1 p2 p3 p4
  unfold okX_lookAtPlace at hok
  refine lv_aload_n hx hb dX3_lookAtPlace_0 rfl (lv_at hl 0 rfl) ?_
  refine va_get (D := D) (ci := 6) (v := .ref (q 1)) (C := RX3) (T := TX3) (N := 7) hx hb hts hiX3 hown hK hP 0 rfl rfl 0 (by decide) hf10 (fun _ h9 => h9) rfl dX3_lookAtPlace_1 ?_
  refine lv_iload_n hx hb dX3_lookAtPlace_4 rfl (lv_at hl 1 rfl) ?_
  refine lv_iload_n hx hb dX3_lookAtPlace_5 rfl (lv_at hl 2 rfl) ?_
  refine lv_iload_n hx hb dX3_lookAtPlace_6 rfl (lv_at hl 3 rfl) ?_
  have h_1 := hok.1
  have hok := hok.2
  refine vp_callSi (W.runV (As := [.int p1, .int p2, .int p3]) (rest := []) ⟨hx, hb, hml, hown, hts⟩ (cXT_reach l D q cI cL tp u p1 p2 p3 h_1) (cwV 3 hts gX3_lookAtPlace_X2_reach rfl rfl rfl (by decide +kernel) ⟨by simp [headSpec, rmL] <;> omega, by simp [headSpec, rmL] <;> omega⟩) ⟨PX_blind, va_recv hK hP (ci := 5) (q0 := 1) rfl rfl, fun U hU hW => ⟨rfl, PX_fin hP hK hZ hS hU hW⟩⟩ rfl rfl hl.1 rfl (lv_room (Nat.le_of_ble_eq_true rfl)) dX3_lookAtPlace_7 ⟨(Nat.le_of_ble_eq_true rfl), (Nat.le_of_ble_eq_true rfl)⟩) (fun r_2 hr_2 => ?_)
  subst hr_2
  refine lv_topi (fun y1 hy1 => ?_)
  have hsp := hsp.trans (bnd_eq hy1)
  have hok := bnd_ok hy1 hok
  refine lv_istore (lv' := [(5, .int y1), (0, .ref (q 0)), (1, .int p1), (2, .int p2), (3, .int p3), (4, .int p4)]) hx hb dX3_lookAtPlace_10 hl (by decide) rfl (fun ls hl => ?_)
  refine lv_iload hx hb dX3_lookAtPlace_12 (lv_at hl 0 rfl) ?_
  refine lv_iconst (v := 1) hx hb dX3_lookAtPlace_14 (by decide) ?_
  refine lv_icmp_ne (tgt := 36) hx hb dX3_lookAtPlace_15 (by decide) (fun c_3 => ?_) (fun c_3 => ?_)
  · have hsp := hsp.trans (if_neg c_3)
    refine lv_iload hx hb dX3_lookAtPlace_36 (lv_at hl 0 rfl) ?_
    exact W.iret (v := y1) hx hb hr (fun t ht hW => ⟨⟨y1, u, rfl, hsp.symm, PX_fin hP hK hZ hS ht hW⟩, hS.F ht⟩) hS.2.2 dX3_lookAtPlace_38
  · have hsp := hsp.trans (if_pos c_3)
    have hok := hok.1 c_3
    refine lv_aload_n hx hb dX3_lookAtPlace_18 rfl (lv_at hl 1 rfl) ?_
    refine lv_iload hx hb dX3_lookAtPlace_19 (lv_at hl 5 rfl) ?_
    refine lv_aload_n hx hb dX3_lookAtPlace_21 rfl (lv_at hl 1 rfl) ?_
    refine va_get (D := D) (ci := 6) (v := .ref (q 1)) (C := RX3) (T := TX3) (N := 7) hx hb hts hiX3 hown hK hP 0 rfl rfl 0 (by decide) hf10 (fun _ h9 => h9) rfl dX3_lookAtPlace_22 ?_
    refine lv_iload_n hx hb dX3_lookAtPlace_25 rfl (lv_at hl 2 rfl) ?_
    refine lv_iload_n hx hb dX3_lookAtPlace_26 rfl (lv_at hl 4 rfl) ?_
    have h_4 := hok.1
    have hok := hok.2
    refine vp_callSi (W.runV (As := [.int p1, .int p3]) (rest := [.int p4, .ref (q 0)]) ⟨hx, hb, hml, hown, hts⟩ (cXT_heldIn l D q cI cL tp u p1 p3 h_4) (cwV 2 hts gX3_lookAtPlace_X2_heldIn rfl rfl rfl (by decide +kernel) ⟨by simp [headSpec, rmL] <;> omega, by simp [headSpec, rmL] <;> omega⟩) ⟨PX_blind, va_recv hK hP (ci := 5) (q0 := 1) rfl rfl, fun U hU hW => ⟨rfl, PX_fin hP hK hZ hS hU hW⟩⟩ rfl rfl hl.1 rfl (lv_room (Nat.le_of_ble_eq_true rfl)) dX3_lookAtPlace_27 ⟨(Nat.le_of_ble_eq_true rfl), (Nat.le_of_ble_eq_true rfl)⟩) (fun r_5 hr_5 => ?_)
    subst hr_5
    have h_6 := hok.1
    have hok := hok.2
    refine va_calli (va_runV (As := [.int p4, .int (sXT_heldIn u p1 p3)]) (rest := []) ⟨hx, hb, hml, hown, hts⟩ (hlk u p4 (sXT_heldIn u p1 p3) h_6) (cwV 2 hts gX3_lookAtPlace_X3_look rfl rfl rfl (by decide +kernel) ⟨by simp [headSpec, rmL] <;> omega, by simp [headSpec, rmL] <;> omega⟩) ⟨PX_blind, va_recv hK hP (ci := 6) (q0 := 0) rfl rfl, fun U hU hW => ⟨rfl, PX_fin hP hK hZ hS hU hW⟩⟩ rfl rfl hl.1 rfl (lv_room (Nat.le_of_ble_eq_true rfl)) dX3_lookAtPlace_30 ⟨(Nat.le_of_ble_eq_true rfl), (Nat.le_of_ble_eq_true rfl)⟩) hS (fun q _ h => h) (fun q h => h) (fun r2 u2 t H1 locs ht hvm hu2 hB hz1 hk1 hS => ?_)
    have hP := hB.1
    rw [ht] at hP
    clear hB hk1 hz1 hvm ht
    generalize H1 = H at hP hS ⊢
    refine W.widen (k := 0) (n := 0) (Nat.le_refl 0) (Nat.le_refl 0) ?_
    have hsp := hsp.trans (bnd2_eq hu2)
    refine lv_goto (tgt := 38) hx hb dX3_lookAtPlace_33 (by decide) ?_
    exact W.iret (v := r2) hx hb hr (fun t ht hW => ⟨⟨r2, u2, rfl, hsp.symm, PX_fin hP hK hZ hS ht hW⟩, hS.F ht⟩) hS.2.2 dX3_lookAtPlace_38
set_option maxHeartbeats 4000000 in
set_option maxRecDepth 100000 in
theorem cX_lookAtDigit (l : Launch) (D : va_G) (q : Nat → Nat) (cI cL : ClassId) (tp : Nat) (u : St) (p1 : Int32) (p2 : Int32) (p3 : Int32) (p4 : Int32) (hok : okX_lookAtDigit u p1 p2 p3 p4) : Met l yX3_lookAtDigit wsX3_lookAtDigit { frames := 4, cells := 0, slots := 0, locals := 89 } (va_Pc [.ref (q 0), .int p1, .int p2, .int p3, .int p4] (fun U => PX D q cI cL tp u U)) (vp_Si (fun r => r = sX_lookAtDigit u p1 p2 p3 p4)) 0 0 (fun _ => False) := by
  refine Met.ofW (cc := cX3_lookAtDigit) (maxL := 6) (ret := (some .int)) (by decide) rfl ?_
  intro p e s m args below meth c s₁ B hml hv
  obtain ⟨rfl, hP, hK, hZ⟩ := hv
  have hx := B.exec
  have hb := B.bytes
  have hr := B.returns
  have hts := atoms_spec (ws := wsX3_lookAtDigit) B.pre
  have hown : s.vm.findClass RX3 = some m.cls := findClass_of_methodNamed B.named
  have hlocks := B.notSynchronized
  have hiX3 : ∀ w ∈ u_ws RX3 TX3 7, w ∈ wsX3_lookAtDigit := by decide +kernel
  have hf10 := hts (.fieldLink RX3 10 "ThingRules" "things" "LThingRules$Things;") (by decide +kernel)
  have hS : va_S (AQ 24 q) s.heap s.heap [] := va_S.rf
  have hP : va_P D vwCl (wX q cI cL u) s.heap := hP
  have hl := lv_entry ([.ref (q 0), .int p1, .int p2, .int p3, .int p4]) (n := 6) (Nat.le_of_ble_eq_true rfl)
  rw [lg_entry_eq]
  generalize (lg_sl ([.ref (q 0), .int p1, .int p2, .int p3, .int p4]) ++ List.replicate (6 - (lg_sl ([.ref (q 0), .int p1, .int p2, .int p3, .int p4])).length) Slot.unset).toArray = ls at hl ⊢
  have hl : lv_has ls 6 [(0, .ref (q 0)), (1, .int p1), (2, .int p2), (3, .int p3), (4, .int p4)] := hl
  have hsp : sX_lookAtDigit u p1 p2 p3 p4 = _ := sX_lookAtDigit.eq_1 u p1 p2 p3 p4
  unfold okX_lookAtDigit at hok
  refine lv_aload_n hx hb dX3_lookAtDigit_0 rfl (lv_at hl 0 rfl) ?_
  refine va_get (D := D) (ci := 6) (v := .ref (q 1)) (C := RX3) (T := TX3) (N := 7) hx hb hts hiX3 hown hK hP 0 rfl rfl 0 (by decide) hf10 (fun _ h9 => h9) rfl dX3_lookAtDigit_1 ?_
  refine lv_iload_n hx hb dX3_lookAtDigit_4 rfl (lv_at hl 1 rfl) ?_
  refine lv_iload_n hx hb dX3_lookAtDigit_5 rfl (lv_at hl 2 rfl) ?_
  refine lv_iload_n hx hb dX3_lookAtDigit_6 rfl (lv_at hl 3 rfl) ?_
  have h_1 := hok.1
  have hok := hok.2
  refine vp_callSi (W.runV (As := [.int p1, .int p2, .int p3]) (rest := []) ⟨hx, hb, hml, hown, hts⟩ (cXT_reach l D q cI cL tp u p1 p2 p3 h_1) (cwV 3 hts gX3_lookAtDigit_X2_reach rfl rfl rfl (by decide +kernel) ⟨(Nat.le_of_ble_eq_true rfl), (Nat.le_of_ble_eq_true rfl)⟩) ⟨PX_blind, va_recv hK hP (ci := 5) (q0 := 1) rfl rfl, fun U hU hW => ⟨rfl, PX_fin hP hK hZ hS hU hW⟩⟩ rfl rfl hl.1 rfl (lv_room (Nat.le_of_ble_eq_true rfl)) dX3_lookAtDigit_7 ⟨(Nat.le_of_ble_eq_true rfl), (Nat.le_of_ble_eq_true rfl)⟩) (fun r_2 hr_2 => ?_)
  subst hr_2
  refine lv_topi (fun y1 hy1 => ?_)
  have hsp := hsp.trans (bnd_eq hy1)
  have hok := bnd_ok hy1 hok
  refine lv_istore (lv' := [(5, .int y1), (0, .ref (q 0)), (1, .int p1), (2, .int p2), (3, .int p3), (4, .int p4)]) hx hb dX3_lookAtDigit_10 hl (by decide) rfl (fun ls hl => ?_)
  refine lv_iload hx hb dX3_lookAtDigit_12 (lv_at hl 0 rfl) ?_
  refine lv_iconst (v := 1) hx hb dX3_lookAtDigit_14 (by decide) ?_
  refine lv_icmp_ne (tgt := 45) hx hb dX3_lookAtDigit_15 (by decide) (fun c_3 => ?_) (fun c_3 => ?_)
  · have hsp := hsp.trans (if_neg c_3)
    refine lv_iload hx hb dX3_lookAtDigit_45 (lv_at hl 0 rfl) ?_
    exact W.iret (v := y1) hx hb hr (fun t ht hW => ⟨y1, rfl, hsp.symm, ht⟩) (fun _ h => nomatch h) dX3_lookAtDigit_47
  · have hsp := hsp.trans (if_pos c_3)
    have hok := hok.1 c_3
    refine lv_aload_n hx hb dX3_lookAtDigit_18 rfl (lv_at hl 1 rfl) ?_
    refine va_get (D := D) (ci := 6) (v := .ref (q 1)) (C := RX3) (T := TX3) (N := 7) hx hb hts hiX3 hown hK hP 0 rfl rfl 0 (by decide) hf10 (fun _ h9 => h9) rfl dX3_lookAtDigit_19 ?_
    refine lv_iload_n hx hb dX3_lookAtDigit_22 rfl (lv_at hl 2 rfl) ?_
    refine lv_iload_n hx hb dX3_lookAtDigit_23 rfl (lv_at hl 4 rfl) ?_
    have h_4 := hok.1
    have hok := hok.2
    refine vp_callSl (W.runV (As := [.int p1, .int p3]) (rest := []) ⟨hx, hb, hml, hown, hts⟩ (cXT_numberIn l D q cI cL tp u p1 p3 h_4) (cwV 2 hts gX3_lookAtDigit_X2_numberIn rfl rfl rfl (by decide +kernel) ⟨(Nat.le_of_ble_eq_true rfl), (Nat.le_of_ble_eq_true rfl)⟩) ⟨PX_blind, va_recv hK hP (ci := 5) (q0 := 1) rfl rfl, fun U hU hW => ⟨rfl, PX_fin hP hK hZ hS hU hW⟩⟩ rfl rfl hl.1 rfl (lv_room (Nat.le_of_ble_eq_true rfl)) dX3_lookAtDigit_24 ⟨(Nat.le_of_ble_eq_true rfl), (Nat.le_of_ble_eq_true rfl)⟩) (fun r_5 hr_5 => ?_)
    subst hr_5
    refine lv_iload hx hb dX3_lookAtDigit_27 (lv_at hl 5 rfl) ?_
    refine lv_i2l (v := ((p4 : Int32).toInt64)) hx hb dX3_lookAtDigit_29 rfl ?_
    refine W.lcmp hx hb dX3_lookAtDigit_30 ?_
    refine lv_if_ne (tgt := 38) hx hb dX3_lookAtDigit_31 (by decide) (fun c_6 => ?_) (fun c_6 => ?_)
    · have hsp := hsp.trans (if_neg c_6)
      refine lv_iconst (v := 0) hx hb dX3_lookAtDigit_38 (by decide) ?_
      refine vp_callSi (W.runS (As := [.int 0]) (rest := []) ⟨hx, hb, hml, hown, hts⟩ (cX_fitsIf l 0) (va_cwS 1 hts gX3_lookAtDigit_X3_fitsIf rfl rfl rfl (by decide +kernel) ⟨(Nat.le_of_ble_eq_true rfl), (Nat.le_of_ble_eq_true rfl)⟩) ⟨T_blind, fun U hU hW => ⟨rfl, trivial⟩⟩ rfl rfl hl.1 rfl (lv_room (Nat.le_of_ble_eq_true rfl)) dX3_lookAtDigit_39 ⟨(Nat.le_of_ble_eq_true rfl), (Nat.le_of_ble_eq_true rfl)⟩) (fun r_7 hr_7 => ?_)
      subst hr_7
      refine lv_goto (tgt := 47) hx hb dX3_lookAtDigit_42 (by decide) ?_
      exact W.iret (v := (sX_fitsIf 0)) hx hb hr (fun t ht hW => ⟨(sX_fitsIf 0), rfl, hsp.symm, ht⟩) (fun _ h => nomatch h) dX3_lookAtDigit_47
    · have hsp := hsp.trans (if_pos c_6)
      refine lv_iconst (v := 1) hx hb dX3_lookAtDigit_34 (by decide) ?_
      refine lv_goto (tgt := 39) hx hb dX3_lookAtDigit_35 (by decide) ?_
      refine vp_callSi (W.runS (As := [.int 1]) (rest := []) ⟨hx, hb, hml, hown, hts⟩ (cX_fitsIf l 1) (va_cwS 1 hts gX3_lookAtDigit_X3_fitsIf rfl rfl rfl (by decide +kernel) ⟨(Nat.le_of_ble_eq_true rfl), (Nat.le_of_ble_eq_true rfl)⟩) ⟨T_blind, fun U hU hW => ⟨rfl, trivial⟩⟩ rfl rfl hl.1 rfl (lv_room (Nat.le_of_ble_eq_true rfl)) dX3_lookAtDigit_39 ⟨(Nat.le_of_ble_eq_true rfl), (Nat.le_of_ble_eq_true rfl)⟩) (fun r_8 hr_8 => ?_)
      subst hr_8
      refine lv_goto (tgt := 47) hx hb dX3_lookAtDigit_42 (by decide) ?_
      exact W.iret (v := (sX_fitsIf 1)) hx hb hr (fun t ht hW => ⟨(sX_fitsIf 1), rfl, hsp.symm, ht⟩) (fun _ h => nomatch h) dX3_lookAtDigit_47
set_option maxHeartbeats 4000000 in
set_option maxRecDepth 100000 in
theorem cX_lookWithBoth (l : Launch) (D : va_G) (q : Nat → Nat) (cI cL : ClassId) (tp : Nat) (hq : DQ 24 q) (lk : St → Int32 → Int32 → Int32 × St) (oklk : St → Int32 → Int32 → Prop) (d : Nat) (hlk : ∀ (u : St) (p it : Int32), oklk u p it → Met l yX3_look wsX3_look (rmL d) (va_Pc [.ref (q 0), .int p, .int it] (fun U => PX D q cI cL tp u U)) (va_Qi (fun (r : Int32) (u' : St) => (r, u') = lk u p it) (fun u' t => PX D q cI cL tp u' t) (AQ 24 q)) 0 0 (AQ 24 q)) (u : St) (p1 : Int32) (p2 : Int32) (p3 : Int32) (hok : okX_lookWithBoth lk oklk u p1 p2 p3) : Met l yX3_lookWithBoth wsX3_lookWithBoth { frames := 2 * d + 13, cells := 0, slots := 0, locals := 60 * d + 425 } (va_Pc [.ref (q 0), .int p1, .int p2, .int p3] (fun U => PX D q cI cL tp u U)) (va_Qi (fun (r : Int32) (u' : St) => (r, u') = sX_lookWithBoth lk u p1 p2 p3) (fun u' t => PX D q cI cL tp u' t) (AQ 24 q)) 0 0 (AQ 24 q) := by
  refine Met.ofW (cc := cX3_lookWithBoth) (maxL := 5) (ret := (some .int)) (by decide) rfl ?_
  intro p e s m args below meth c s₁ B hml hv
  obtain ⟨rfl, hP, hK, hZ⟩ := hv
  have hx := B.exec
  have hb := B.bytes
  have hr := B.returns
  have hts := atoms_spec (ws := wsX3_lookWithBoth) B.pre
  have hown : s.vm.findClass RX3 = some m.cls := findClass_of_methodNamed B.named
  have hlocks := B.notSynchronized
  have hS : va_S (AQ 24 q) s.heap s.heap [] := va_S.rf
  have hP : va_P D vwCl (wX q cI cL u) s.heap := hP
  have hl := lv_entry ([.ref (q 0), .int p1, .int p2, .int p3]) (n := 5) (Nat.le_of_ble_eq_true rfl)
  rw [lg_entry_eq]
  generalize (lg_sl ([.ref (q 0), .int p1, .int p2, .int p3]) ++ List.replicate (5 - (lg_sl ([.ref (q 0), .int p1, .int p2, .int p3])).length) Slot.unset).toArray = ls at hl ⊢
  have hl : lv_has ls 5 [(0, .ref (q 0)), (1, .int p1), (2, .int p2), (3, .int p3)] := hl
  have hsp : sX_lookWithBoth lk u p1 p2 p3 = _ := sX_lookWithBoth.eq_1 lk u p1 p2 p3
  unfold okX_lookWithBoth at hok
  refine lv_aload_n hx hb dX3_lookWithBoth_0 rfl (lv_at hl 0 rfl) ?_
  refine lv_iload_n hx hb dX3_lookWithBoth_1 rfl (lv_at hl 2 rfl) ?_
  refine lv_iload_n hx hb dX3_lookWithBoth_2 rfl (lv_at hl 1 rfl) ?_
  have h_1 := hok.1
  have hok := hok.2
  refine va_calli (va_runV (As := [.int p2, .int p1]) (rest := []) ⟨hx, hb, hml, hown, hts⟩ (hlk u p2 p1 h_1) (cwV 2 hts gX3_lookWithBoth_X3_look rfl rfl rfl (by decide +kernel) ⟨by simp [headSpec, rmL] <;> omega, by simp [headSpec, rmL] <;> omega⟩) ⟨PX_blind, va_recv hK hP (ci := 6) (q0 := 0) rfl rfl, fun U hU hW => ⟨rfl, PX_fin hP hK hZ hS hU hW⟩⟩ rfl rfl hl.1 rfl (lv_room (Nat.le_of_ble_eq_true rfl)) dX3_lookWithBoth_3 ⟨(Nat.le_of_ble_eq_true rfl), (Nat.le_of_ble_eq_true rfl)⟩) hS (fun q _ h => h) (fun q h => h) (fun r1 u1 t H1 locs ht hvm hu1 hB hz1 hk1 hS => ?_)
  have hP := hB.1
  rw [ht] at hP
  clear hB hk1 hz1 hvm ht
  generalize H1 = H at hP hS ⊢
  refine W.widen (k := 0) (n := 0) (Nat.le_refl 0) (Nat.le_refl 0) ?_
  have hsp := hsp.trans (bnd2_eq hu1)
  have hok := bnd2_ok hu1 hok
  refine lv_istore (lv' := [(4, .int r1), (0, .ref (q 0)), (1, .int p1), (2, .int p2), (3, .int p3)]) hx hb dX3_lookWithBoth_6 hl (by decide) rfl (fun ls hl => ?_)
  refine lv_iload hx hb dX3_lookWithBoth_8 (lv_at hl 0 rfl) ?_
  refine lv_iconst (v := 1) hx hb dX3_lookWithBoth_10 (by decide) ?_
  refine lv_icmp_ne (tgt := 23) hx hb dX3_lookWithBoth_11 (by decide) (fun c_2 => ?_) (fun c_2 => ?_)
  · have hsp := hsp.trans (if_neg c_2)
    refine lv_iload hx hb dX3_lookWithBoth_23 (lv_at hl 0 rfl) ?_
    exact W.iret (v := r1) hx hb hr (fun t ht hW => ⟨⟨r1, u1, rfl, hsp.symm, PX_fin hP hK hZ hS ht hW⟩, hS.F ht⟩) hS.2.2 dX3_lookWithBoth_25
  · have hsp := hsp.trans (if_pos c_2)
    have hok := hok.1 c_2
    refine lv_aload_n hx hb dX3_lookWithBoth_14 rfl (lv_at hl 1 rfl) ?_
    refine lv_iload_n hx hb dX3_lookWithBoth_15 rfl (lv_at hl 4 rfl) ?_
    refine lv_iload_n hx hb dX3_lookWithBoth_16 rfl (lv_at hl 2 rfl) ?_
    have h_3 := hok.1
    have hok := hok.2
    refine va_calli (va_runV (As := [.int p3, .int p1]) (rest := []) ⟨hx, hb, hml, hown, hts⟩ (hlk u1 p3 p1 h_3) (cwV 2 hts gX3_lookWithBoth_X3_look rfl rfl rfl (by decide +kernel) ⟨by simp [headSpec, rmL] <;> omega, by simp [headSpec, rmL] <;> omega⟩) ⟨PX_blind, va_recv hK hP (ci := 6) (q0 := 0) rfl rfl, fun U hU hW => ⟨rfl, PX_fin hP hK hZ hS hU hW⟩⟩ rfl rfl hl.1 rfl (lv_room (Nat.le_of_ble_eq_true rfl)) dX3_lookWithBoth_17 ⟨(Nat.le_of_ble_eq_true rfl), (Nat.le_of_ble_eq_true rfl)⟩) hS (fun q _ h => h) (fun q h => h) (fun r2 u2 t H1 locs ht hvm hu2 hB hz1 hk1 hS => ?_)
    have hP := hB.1
    rw [ht] at hP
    clear hB hk1 hz1 hvm ht
    generalize H1 = H at hP hS ⊢
    refine W.widen (k := 0) (n := 0) (Nat.le_refl 0) (Nat.le_refl 0) ?_
    have hsp := hsp.trans (bnd2_eq hu2)
    refine lv_goto (tgt := 25) hx hb dX3_lookWithBoth_20 (by decide) ?_
    exact W.iret (v := r2) hx hb hr (fun t ht hW => ⟨⟨r2, u2, rfl, hsp.symm, PX_fin hP hK hZ hS ht hW⟩, hS.F ht⟩) hS.2.2 dX3_lookWithBoth_25
set_option maxHeartbeats 4000000 in
set_option maxRecDepth 100000 in
theorem cX_lookWithEither (l : Launch) (D : va_G) (q : Nat → Nat) (cI cL : ClassId) (tp : Nat) (hq : DQ 24 q) (lk : St → Int32 → Int32 → Int32 × St) (oklk : St → Int32 → Int32 → Prop) (d : Nat) (hlk : ∀ (u : St) (p it : Int32), oklk u p it → Met l yX3_look wsX3_look (rmL d) (va_Pc [.ref (q 0), .int p, .int it] (fun U => PX D q cI cL tp u U)) (va_Qi (fun (r : Int32) (u' : St) => (r, u') = lk u p it) (fun u' t => PX D q cI cL tp u' t) (AQ 24 q)) 0 0 (AQ 24 q)) (u : St) (p1 : Int32) (p2 : Int32) (p3 : Int32) (hok : okX_lookWithEither lk oklk u p1 p2 p3) : Met l yX3_lookWithEither wsX3_lookWithEither { frames := 2 * d + 13, cells := 0, slots := 0, locals := 60 * d + 425 } (va_Pc [.ref (q 0), .int p1, .int p2, .int p3] (fun U => PX D q cI cL tp u U)) (va_Qi (fun (r : Int32) (u' : St) => (r, u') = sX_lookWithEither lk u p1 p2 p3) (fun u' t => PX D q cI cL tp u' t) (AQ 24 q)) 0 0 (AQ 24 q) := by
  refine Met.ofW (cc := cX3_lookWithEither) (maxL := 5) (ret := (some .int)) (by decide) rfl ?_
  intro p e s m args below meth c s₁ B hml hv
  obtain ⟨rfl, hP, hK, hZ⟩ := hv
  have hx := B.exec
  have hb := B.bytes
  have hr := B.returns
  have hts := atoms_spec (ws := wsX3_lookWithEither) B.pre
  have hown : s.vm.findClass RX3 = some m.cls := findClass_of_methodNamed B.named
  have hlocks := B.notSynchronized
  have hS : va_S (AQ 24 q) s.heap s.heap [] := va_S.rf
  have hP : va_P D vwCl (wX q cI cL u) s.heap := hP
  have hl := lv_entry ([.ref (q 0), .int p1, .int p2, .int p3]) (n := 5) (Nat.le_of_ble_eq_true rfl)
  rw [lg_entry_eq]
  generalize (lg_sl ([.ref (q 0), .int p1, .int p2, .int p3]) ++ List.replicate (5 - (lg_sl ([.ref (q 0), .int p1, .int p2, .int p3])).length) Slot.unset).toArray = ls at hl ⊢
  have hl : lv_has ls 5 [(0, .ref (q 0)), (1, .int p1), (2, .int p2), (3, .int p3)] := hl
  have hsp : sX_lookWithEither lk u p1 p2 p3 = _ := sX_lookWithEither.eq_1 lk u p1 p2 p3
  unfold okX_lookWithEither at hok
  refine lv_aload_n hx hb dX3_lookWithEither_0 rfl (lv_at hl 0 rfl) ?_
  refine lv_iload_n hx hb dX3_lookWithEither_1 rfl (lv_at hl 2 rfl) ?_
  refine lv_iload_n hx hb dX3_lookWithEither_2 rfl (lv_at hl 1 rfl) ?_
  have h_1 := hok.1
  have hok := hok.2
  refine va_calli (va_runV (As := [.int p2, .int p1]) (rest := []) ⟨hx, hb, hml, hown, hts⟩ (hlk u p2 p1 h_1) (cwV 2 hts gX3_lookWithEither_X3_look rfl rfl rfl (by decide +kernel) ⟨by simp [headSpec, rmL] <;> omega, by simp [headSpec, rmL] <;> omega⟩) ⟨PX_blind, va_recv hK hP (ci := 6) (q0 := 0) rfl rfl, fun U hU hW => ⟨rfl, PX_fin hP hK hZ hS hU hW⟩⟩ rfl rfl hl.1 rfl (lv_room (Nat.le_of_ble_eq_true rfl)) dX3_lookWithEither_3 ⟨(Nat.le_of_ble_eq_true rfl), (Nat.le_of_ble_eq_true rfl)⟩) hS (fun q _ h => h) (fun q h => h) (fun r1 u1 t H1 locs ht hvm hu1 hB hz1 hk1 hS => ?_)
  have hP := hB.1
  rw [ht] at hP
  clear hB hk1 hz1 hvm ht
  generalize H1 = H at hP hS ⊢
  refine W.widen (k := 0) (n := 0) (Nat.le_refl 0) (Nat.le_refl 0) ?_
  have hsp := hsp.trans (bnd2_eq hu1)
  have hok := bnd2_ok hu1 hok
  refine lv_istore (lv' := [(4, .int r1), (0, .ref (q 0)), (1, .int p1), (2, .int p2), (3, .int p3)]) hx hb dX3_lookWithEither_6 hl (by decide) rfl (fun ls hl => ?_)
  refine lv_iload hx hb dX3_lookWithEither_8 (lv_at hl 0 rfl) ?_
  refine lv_if_ne (tgt := 22) hx hb dX3_lookWithEither_10 (by decide) (fun c_2 => ?_) (fun c_2 => ?_)
  · have hsp := hsp.trans (if_neg c_2)
    refine lv_iload hx hb dX3_lookWithEither_22 (lv_at hl 0 rfl) ?_
    exact W.iret (v := r1) hx hb hr (fun t ht hW => ⟨⟨r1, u1, rfl, hsp.symm, PX_fin hP hK hZ hS ht hW⟩, hS.F ht⟩) hS.2.2 dX3_lookWithEither_24
  · have hsp := hsp.trans (if_pos c_2)
    have hok := hok.1 c_2
    refine lv_aload_n hx hb dX3_lookWithEither_13 rfl (lv_at hl 1 rfl) ?_
    refine lv_iload_n hx hb dX3_lookWithEither_14 rfl (lv_at hl 4 rfl) ?_
    refine lv_iload_n hx hb dX3_lookWithEither_15 rfl (lv_at hl 2 rfl) ?_
    have h_3 := hok.1
    have hok := hok.2
    refine va_calli (va_runV (As := [.int p3, .int p1]) (rest := []) ⟨hx, hb, hml, hown, hts⟩ (hlk u1 p3 p1 h_3) (cwV 2 hts gX3_lookWithEither_X3_look rfl rfl rfl (by decide +kernel) ⟨by simp [headSpec, rmL] <;> omega, by simp [headSpec, rmL] <;> omega⟩) ⟨PX_blind, va_recv hK hP (ci := 6) (q0 := 0) rfl rfl, fun U hU hW => ⟨rfl, PX_fin hP hK hZ hS hU hW⟩⟩ rfl rfl hl.1 rfl (lv_room (Nat.le_of_ble_eq_true rfl)) dX3_lookWithEither_16 ⟨(Nat.le_of_ble_eq_true rfl), (Nat.le_of_ble_eq_true rfl)⟩) hS (fun q _ h => h) (fun q h => h) (fun r2 u2 t H1 locs ht hvm hu2 hB hz1 hk1 hS => ?_)
    have hP := hB.1
    rw [ht] at hP
    clear hB hk1 hz1 hvm ht
    generalize H1 = H at hP hS ⊢
    refine W.widen (k := 0) (n := 0) (Nat.le_refl 0) (Nat.le_refl 0) ?_
    have hsp := hsp.trans (bnd2_eq hu2)
    refine lv_goto (tgt := 24) hx hb dX3_lookWithEither_19 (by decide) ?_
    exact W.iret (v := r2) hx hb hr (fun t ht hW => ⟨⟨r2, u2, rfl, hsp.symm, PX_fin hP hK hZ hS ht hW⟩, hS.F ht⟩) hS.2.2 dX3_lookWithEither_24
set_option maxHeartbeats 4000000 in
set_option maxRecDepth 100000 in
theorem cX_turnedRound (l : Launch) (p0 : Int32) : Met l yX3_turnedRound wsX3_turnedRound { frames := 0, cells := 0, slots := 0, locals := 0 } (va_Pc [.int p0] (fun _ => True)) (vp_Si (fun r => r = sX_turnedRound p0)) 0 0 (fun _ => False) := by
  refine Met.ofW (cc := cX3_turnedRound) (maxL := 1) (ret := (some .int)) (by decide) rfl ?_
  intro p e s m args below meth c s₁ B hml hv
  obtain ⟨rfl, -⟩ := hv
  have hx := B.exec
  have hb := B.bytes
  have hr := B.returns
  have hts := atoms_spec (ws := wsX3_turnedRound) B.pre
  have hown : s.vm.findClass RX3 = some m.cls := findClass_of_methodNamed B.named
  have hlocks := B.notSynchronized
  have hl := lv_entry ([.int p0]) (n := 1) (Nat.le_of_ble_eq_true rfl)
  rw [lg_entry_eq]
  generalize (lg_sl ([.int p0]) ++ List.replicate (1 - (lg_sl ([.int p0])).length) Slot.unset).toArray = ls at hl ⊢
  have hl : lv_has ls 1 [(0, .int p0)] := hl
  have hsp : sX_turnedRound p0 = _ := sX_turnedRound.eq_1 p0
  refine lv_iload_n hx hb dX3_turnedRound_0 rfl (lv_at hl 0 rfl) ?_
  by_cases c_1 : p0 = 0
  · have hsp := hsp.trans (if_pos c_1)
    refine lv_lookup (off := 29) (tgt := 30) hx hb dX3_turnedRound_1 (by decide) (by rw [c_1]; rfl) (by decide) ?_
    refine lv_iconst (v := 1) hx hb dX3_turnedRound_30 (by decide) ?_
    exact W.iret (v := 1) hx hb hr (fun t ht hW => ⟨1, rfl, hsp.symm, ht⟩) (fun _ h => nomatch h) dX3_turnedRound_31
  · have hsp := hsp.trans (if_neg c_1)
    by_cases c_2 : p0 = 1
    · have hsp := hsp.trans (if_pos c_2)
      refine lv_lookup (off := 27) (tgt := 28) hx hb dX3_turnedRound_1 (by decide) (by rw [c_2]; rfl) (by decide) ?_
      refine lv_iconst (v := 0) hx hb dX3_turnedRound_28 (by decide) ?_
      exact W.iret (v := 0) hx hb hr (fun t ht hW => ⟨0, rfl, hsp.symm, ht⟩) (fun _ h => nomatch h) dX3_turnedRound_29
    · have hsp := hsp.trans (if_neg c_2)
      refine lv_lookup (off := 31) (tgt := 32) hx hb dX3_turnedRound_1 (by decide) ((lv_osw c_1 (by decide)).trans ((lv_osw c_2 (by decide)).trans rfl)) (by decide) ?_
      refine lv_iload_n hx hb dX3_turnedRound_32 rfl (lv_at hl 0 rfl) ?_
      exact W.iret (v := p0) hx hb hr (fun t ht hW => ⟨p0, rfl, hsp.symm, ht⟩) (fun _ h => nomatch h) dX3_turnedRound_33
set_option maxHeartbeats 4000000 in
set_option maxRecDepth 100000 in
theorem cX_keep (l : Launch) (D : va_G) (q : Nat → Nat) (cI cL : ClassId) (tp : Nat) (hq : DQ 24 q) (u : St) (p1 : Int32) (p2 : Int32) (hok : okX_keep u p1 p2) : Met l yX3_keep wsX3_keep { frames := 2, cells := 0, slots := 0, locals := 42 } (va_Pc [.ref (q 0), .int p1, .int p2] (fun U => PX D q cI cL tp u U)) (va_Qi (fun (r : Int32) (u' : St) => (r, u') = sX_keep u p1 p2) (fun u' t => PX D q cI cL tp u' t) (AQ 24 q)) 0 0 (AQ 24 q) := by
  refine Met.ofW (cc := cX3_keep) (maxL := 3) (ret := (some .int)) (by decide) rfl ?_
  intro p e s m args below meth c s₁ B hml hv
  obtain ⟨rfl, hP, hK, hZ⟩ := hv
  have hx := B.exec
  have hb := B.bytes
  have hr := B.returns
  have hts := atoms_spec (ws := wsX3_keep) B.pre
  have hown : s.vm.findClass RX3 = some m.cls := findClass_of_methodNamed B.named
  have hlocks := B.notSynchronized
  have hiX3 : ∀ w ∈ u_ws RX3 TX3 7, w ∈ wsX3_keep := by decide +kernel
  have hf30 := hts (.fieldLink RX3 30 "ThingRules" "slots" "[I") (by decide +kernel)
  have hS : va_S (AQ 24 q) s.heap s.heap [] := va_S.rf
  have hP : va_P D vwCl (wX q cI cL u) s.heap := hP
  have hl := lv_entry ([.ref (q 0), .int p1, .int p2]) (n := 3) (Nat.le_of_ble_eq_true rfl)
  rw [lg_entry_eq]
  generalize (lg_sl ([.ref (q 0), .int p1, .int p2]) ++ List.replicate (3 - (lg_sl ([.ref (q 0), .int p1, .int p2])).length) Slot.unset).toArray = ls at hl ⊢
  have hl : lv_has ls 3 [(0, .ref (q 0)), (1, .int p1), (2, .int p2)] := hl
  have hsp : sX_keep u p1 p2 = _ := sX_keep.eq_1 u p1 p2
  unfold okX_keep at hok
  refine lv_iload_n hx hb dX3_keep_0 rfl (lv_at hl 2 rfl) ?_
  refine vp_callSi (W.runS (As := [.int p2]) (rest := []) ⟨hx, hb, hml, hown, hts⟩ (cX_isSlot l p2) (va_cwS 1 hts gX3_keep_X3_isSlot rfl rfl rfl (by decide +kernel) ⟨(Nat.le_of_ble_eq_true rfl), (Nat.le_of_ble_eq_true rfl)⟩) ⟨T_blind, fun U hU hW => ⟨rfl, trivial⟩⟩ rfl rfl hl.1 rfl (lv_room (Nat.le_of_ble_eq_true rfl)) dX3_keep_1 ⟨(Nat.le_of_ble_eq_true rfl), (Nat.le_of_ble_eq_true rfl)⟩) (fun r_1 hr_1 => ?_)
  subst hr_1
  refine lv_if_ne (tgt := 9) hx hb dX3_keep_4 (by decide) (fun c_2 => ?_) (fun c_2 => ?_)
  · have hsp := hsp.trans (if_neg c_2)
    have hok := hok.2 c_2
    refine lv_aload_n hx hb dX3_keep_9 rfl (lv_at hl 0 rfl) ?_
    refine va_get (D := D) (ci := 6) (v := .ref (q 4)) (C := RX3) (T := TX3) (N := 7) hx hb hts hiX3 hown hK hP 0 rfl rfl 3 (by decide) hf30 (fun _ h9 => h9) rfl dX3_keep_10 ?_
    refine lv_iload_n hx hb dX3_keep_13 rfl (lv_at hl 2 rfl) ?_
    refine lv_iload_n hx hb dX3_keep_14 rfl (lv_at hl 1 rfl) ?_
    have h_3 := hok.1
    have hok := hok.2
    refine va_iast hx hb hK hP (dX hq) hS 4 0 rfl rfl h_3 dX3_keep_15 (fun H locs hP _ hS => ?_)
    obtain ⟨u1, hu1⟩ : ∃ z : St, z = (stA u 4 p2.toNatClampNeg p1) := ⟨_, rfl⟩
    have hP : va_P D vwCl (wX q cI cL u1) H := by rw [hu1]; exact hP
    have hsp := hsp.trans (bnd_eq hu1)
    refine lv_iconst (v := 1) hx hb dX3_keep_16 (by decide) ?_
    exact W.iret (v := 1) hx hb hr (fun t ht hW => ⟨⟨1, u1, rfl, hsp.symm, PX_fin hP hK hZ hS ht hW⟩, hS.F ht⟩) hS.2.2 dX3_keep_17
  · have hsp := hsp.trans (if_pos c_2)
    refine lv_iconst (v := 0) hx hb dX3_keep_7 (by decide) ?_
    exact W.iret (v := 0) hx hb hr (fun t ht hW => ⟨⟨0, u, rfl, hsp.symm, PX_fin hP hK hZ hS ht hW⟩, hS.F ht⟩) hS.2.2 dX3_keep_8
set_option maxHeartbeats 4000000 in
set_option maxRecDepth 100000 in
theorem cXT_tellingOf (l : Launch) (D : va_G) (q : Nat → Nat) (cI cL : ClassId) (tp : Nat) (u : St) (p1 : Int32) (hok : okXT_tellingOf u p1) : Met l yX2_tellingOf wsX2_tellingOf { frames := 1, cells := 0, slots := 0, locals := 21 } (va_Pc [.ref (q 1), .int p1] (fun U => PX D q cI cL tp u U)) (vp_Si (fun r => r = sXT_tellingOf u p1)) 0 0 (fun _ => False) := by
  refine Met.ofW (cc := cX2_tellingOf) (maxL := 2) (ret := (some .int)) (by decide) rfl ?_
  intro p e s m args below meth c s₁ B hml hv
  obtain ⟨rfl, hP, hK, hZ⟩ := hv
  have hx := B.exec
  have hb := B.bytes
  have hr := B.returns
  have hts := atoms_spec (ws := wsX2_tellingOf) B.pre
  have hown : s.vm.findClass RX2 = some m.cls := findClass_of_methodNamed B.named
  have hlocks := B.notSynchronized
  have hiX2 : ∀ w ∈ u_ws RX2 TX2 8, w ∈ wsX2_tellingOf := by decide +kernel
  have hf9 := hts (.fieldLink RX2 9 "ThingRules$Things" "form" "[I") (by decide +kernel)
  have hf15 := hts (.fieldLink RX2 15 "ThingRules$Things" "number" "[I") (by decide +kernel)
  have hS : va_S (AQ 24 q) s.heap s.heap [] := va_S.rf
  have hP : va_P D vwCl (wX q cI cL u) s.heap := hP
  have hl := lv_entry ([.ref (q 1), .int p1]) (n := 2) (Nat.le_of_ble_eq_true rfl)
  rw [lg_entry_eq]
  generalize (lg_sl ([.ref (q 1), .int p1]) ++ List.replicate (2 - (lg_sl ([.ref (q 1), .int p1])).length) Slot.unset).toArray = ls at hl ⊢
  have hl : lv_has ls 2 [(0, .ref (q 1)), (1, .int p1)] := hl
  have hsp : sXT_tellingOf u p1 = _ := sXT_tellingOf.eq_1 u p1
  unfold okXT_tellingOf at hok
  refine lv_aload_n hx hb dX2_tellingOf_0 rfl (lv_at hl 0 rfl) ?_
  refine lv_iload_n hx hb dX2_tellingOf_1 rfl (lv_at hl 1 rfl) ?_
  refine vp_callSi (W.runV (As := [.int p1]) (rest := []) ⟨hx, hb, hml, hown, hts⟩ (cXT_know l D q cI cL tp u p1) (cwV 1 hts gX2_tellingOf_X2_know rfl rfl rfl (by decide +kernel) ⟨(Nat.le_of_ble_eq_true rfl), (Nat.le_of_ble_eq_true rfl)⟩) ⟨PX_blind, va_recv hK hP (ci := 5) (q0 := 1) rfl rfl, fun U hU hW => ⟨rfl, PX_fin hP hK hZ hS hU hW⟩⟩ rfl rfl hl.1 rfl (lv_room (Nat.le_of_ble_eq_true rfl)) dX2_tellingOf_2 ⟨(Nat.le_of_ble_eq_true rfl), (Nat.le_of_ble_eq_true rfl)⟩) (fun r_1 hr_1 => ?_)
  subst hr_1
  refine lv_if_ne (tgt := 10) hx hb dX2_tellingOf_5 (by decide) (fun c_2 => ?_) (fun c_2 => ?_)
  · have hsp := hsp.trans (if_neg c_2)
    have hok := hok.2 c_2
    refine lv_aload_n hx hb dX2_tellingOf_10 rfl (lv_at hl 0 rfl) ?_
    refine va_get (D := D) (ci := 5) (v := .ref (q 7)) (C := RX2) (T := TX2) (N := 8) hx hb hts hiX2 hown hK hP 1 rfl rfl 1 (by decide) hf9 (fun _ h9 => h9) rfl dX2_tellingOf_11 ?_
    refine lv_iload_n hx hb dX2_tellingOf_14 rfl (lv_at hl 1 rfl) ?_
    have h_3 := hok.1
    have hok := hok.2
    refine va_iald hx hb hK hP 7 0 rfl rfl h_3 dX2_tellingOf_15 ?_
    refine lv_iconst (v := 1) hx hb dX2_tellingOf_16 (by decide) ?_
    refine lv_icmp_ne (tgt := 33) hx hb dX2_tellingOf_17 (by decide) (fun c_4 => ?_) (fun c_4 => ?_)
    · have hsp := hsp.trans (if_neg c_4)
      have hok := hok.2 c_4
      refine lv_aload_n hx hb dX2_tellingOf_33 rfl (lv_at hl 0 rfl) ?_
      refine va_get (D := D) (ci := 5) (v := .ref (q 8)) (C := RX2) (T := TX2) (N := 8) hx hb hts hiX2 hown hK hP 1 rfl rfl 2 (by decide) hf15 (fun _ h9 => h9) rfl dX2_tellingOf_34 ?_
      refine lv_iload_n hx hb dX2_tellingOf_37 rfl (lv_at hl 1 rfl) ?_
      have h_5 := hok.1
      have hok := hok.2
      refine va_iald hx hb hK hP 8 0 rfl rfl h_5 dX2_tellingOf_38 ?_
      exact W.iret (v := (u.2.1 8 p1.toNatClampNeg)) hx hb hr (fun t ht hW => ⟨(u.2.1 8 p1.toNatClampNeg), rfl, hsp.symm, ht⟩) (fun _ h => nomatch h) dX2_tellingOf_39
    · have hsp := hsp.trans (if_pos c_4)
      have hok := hok.1 c_4
      refine lv_iconst (v := 2) hx hb dX2_tellingOf_20 (by decide) ?_
      refine lv_aload_n hx hb dX2_tellingOf_21 rfl (lv_at hl 0 rfl) ?_
      refine va_get (D := D) (ci := 5) (v := .ref (q 8)) (C := RX2) (T := TX2) (N := 8) hx hb hts hiX2 hown hK hP 1 rfl rfl 2 (by decide) hf15 (fun _ h9 => h9) rfl dX2_tellingOf_22 ?_
      refine lv_iload_n hx hb dX2_tellingOf_25 rfl (lv_at hl 1 rfl) ?_
      have h_6 := hok.1
      have hok := hok.2
      refine va_iald hx hb hK hP 8 0 rfl rfl h_6 dX2_tellingOf_26 ?_
      refine lv_imul hx hb dX2_tellingOf_27 ?_
      refine lv_iconst (v := 1) hx hb dX2_tellingOf_28 (by decide) ?_
      refine lv_iadd hx hb dX2_tellingOf_29 ?_
      refine lv_goto (tgt := 39) hx hb dX2_tellingOf_30 (by decide) ?_
      exact W.iret (v := ((2 * (u.2.1 8 p1.toNatClampNeg)) + 1)) hx hb hr (fun t ht hW => ⟨((2 * (u.2.1 8 p1.toNatClampNeg)) + 1), rfl, hsp.symm, ht⟩) (fun _ h => nomatch h) dX2_tellingOf_39
  · have hsp := hsp.trans (if_pos c_2)
    refine lv_iconst (v := 0) hx hb dX2_tellingOf_8 (by decide) ?_
    exact W.iret (v := 0) hx hb hr (fun t ht hW => ⟨0, rfl, hsp.symm, ht⟩) (fun _ h => nomatch h) dX2_tellingOf_9
set_option maxHeartbeats 4000000 in
set_option maxRecDepth 100000 in
theorem cX_lookAtTold (l : Launch) (D : va_G) (q : Nat → Nat) (cI cL : ClassId) (tp : Nat) (u : St) (p1 : Int32) (p2 : Int32) (hok : okX_lookAtTold u p1 p2) : Met l yX3_lookAtTold wsX3_lookAtTold { frames := 3, cells := 0, slots := 0, locals := 65 } (va_Pc [.ref (q 0), .int p1, .int p2] (fun U => PX D q cI cL tp u U)) (vp_Si (fun r => r = sX_lookAtTold u p1 p2)) 0 0 (fun _ => False) := by
  refine Met.ofW (cc := cX3_lookAtTold) (maxL := 4) (ret := (some .int)) (by decide) rfl ?_
  intro p e s m args below meth c s₁ B hml hv
  obtain ⟨rfl, hP, hK, hZ⟩ := hv
  have hx := B.exec
  have hb := B.bytes
  have hr := B.returns
  have hts := atoms_spec (ws := wsX3_lookAtTold) B.pre
  have hown : s.vm.findClass RX3 = some m.cls := findClass_of_methodNamed B.named
  have hlocks := B.notSynchronized
  have hiX3 : ∀ w ∈ u_ws RX3 TX3 7, w ∈ wsX3_lookAtTold := by decide +kernel
  have hf10 := hts (.fieldLink RX3 10 "ThingRules" "things" "LThingRules$Things;") (by decide +kernel)
  have hS : va_S (AQ 24 q) s.heap s.heap [] := va_S.rf
  have hP : va_P D vwCl (wX q cI cL u) s.heap := hP
  have hl := lv_entry ([.ref (q 0), .int p1, .int p2]) (n := 4) (Nat.le_of_ble_eq_true rfl)
  rw [lg_entry_eq]
  generalize (lg_sl ([.ref (q 0), .int p1, .int p2]) ++ List.replicate (4 - (lg_sl ([.ref (q 0), .int p1, .int p2])).length) Slot.unset).toArray = ls at hl ⊢
  have hl : lv_has ls 4 [(0, .ref (q 0)), (1, .int p1), (2, .int p2)] := hl
  have hsp : sX_lookAtTold u p1 p2 = _ := sX_lookAtTold.eq_1 u p1 p2
  unfold okX_lookAtTold at hok
  refine lv_aload_n hx hb dX3_lookAtTold_0 rfl (lv_at hl 0 rfl) ?_
  refine va_get (D := D) (ci := 6) (v := .ref (q 1)) (C := RX3) (T := TX3) (N := 7) hx hb hts hiX3 hown hK hP 0 rfl rfl 0 (by decide) hf10 (fun _ h9 => h9) rfl dX3_lookAtTold_1 ?_
  refine lv_iload_n hx hb dX3_lookAtTold_4 rfl (lv_at hl 1 rfl) ?_
  refine lv_bipush (v := 14) hx hb dX3_lookAtTold_5 (by decide) ?_
  have h_1 := hok.1
  have hok := hok.2
  refine vp_callSi (W.runV (As := [.int p1, .int 14]) (rest := []) ⟨hx, hb, hml, hown, hts⟩ (cXT_take l D q cI cL tp u p1 14 h_1) (cwV 2 hts gX3_lookAtTold_X2_take rfl rfl rfl (by decide +kernel) ⟨(Nat.le_of_ble_eq_true rfl), (Nat.le_of_ble_eq_true rfl)⟩) ⟨PX_blind, va_recv hK hP (ci := 5) (q0 := 1) rfl rfl, fun U hU hW => ⟨rfl, PX_fin hP hK hZ hS hU hW⟩⟩ rfl rfl hl.1 rfl (lv_room (Nat.le_of_ble_eq_true rfl)) dX3_lookAtTold_7 ⟨(Nat.le_of_ble_eq_true rfl), (Nat.le_of_ble_eq_true rfl)⟩) (fun r_2 hr_2 => ?_)
  subst hr_2
  refine lv_topi (fun y1 hy1 => ?_)
  have hsp := hsp.trans (bnd_eq hy1)
  have hok := bnd_ok hy1 hok
  refine lv_istore_n (lv' := [(3, .int y1), (0, .ref (q 0)), (1, .int p1), (2, .int p2)]) hx hb dX3_lookAtTold_10 rfl hl (by decide) rfl (fun ls hl => ?_)
  refine lv_iload_n hx hb dX3_lookAtTold_11 rfl (lv_at hl 0 rfl) ?_
  refine lv_iconst (v := 1) hx hb dX3_lookAtTold_12 (by decide) ?_
  refine lv_icmp_ne (tgt := 39) hx hb dX3_lookAtTold_13 (by decide) (fun c_3 => ?_) (fun c_3 => ?_)
  · have hsp := hsp.trans (if_neg c_3)
    refine lv_iload_n hx hb dX3_lookAtTold_39 rfl (lv_at hl 0 rfl) ?_
    exact W.iret (v := y1) hx hb hr (fun t ht hW => ⟨y1, rfl, hsp.symm, ht⟩) (fun _ h => nomatch h) dX3_lookAtTold_40
  · have hsp := hsp.trans (if_pos c_3)
    have hok := hok.1 c_3
    refine lv_aload_n hx hb dX3_lookAtTold_16 rfl (lv_at hl 1 rfl) ?_
    refine va_get (D := D) (ci := 6) (v := .ref (q 1)) (C := RX3) (T := TX3) (N := 7) hx hb hts hiX3 hown hK hP 0 rfl rfl 0 (by decide) hf10 (fun _ h9 => h9) rfl dX3_lookAtTold_17 ?_
    refine lv_iload_n hx hb dX3_lookAtTold_20 rfl (lv_at hl 2 rfl) ?_
    have h_4 := hok.1
    have hok := hok.2
    refine vp_callSi (W.runV (As := [.int p1]) (rest := []) ⟨hx, hb, hml, hown, hts⟩ (cXT_tellingOf l D q cI cL tp u p1 h_4) (cwV 1 hts gX3_lookAtTold_X2_tellingOf rfl rfl rfl (by decide +kernel) ⟨(Nat.le_of_ble_eq_true rfl), (Nat.le_of_ble_eq_true rfl)⟩) ⟨PX_blind, va_recv hK hP (ci := 5) (q0 := 1) rfl rfl, fun U hU hW => ⟨rfl, PX_fin hP hK hZ hS hU hW⟩⟩ rfl rfl hl.1 rfl (lv_room (Nat.le_of_ble_eq_true rfl)) dX3_lookAtTold_21 ⟨(Nat.le_of_ble_eq_true rfl), (Nat.le_of_ble_eq_true rfl)⟩) (fun r_5 hr_5 => ?_)
    subst hr_5
    refine lv_iload_n hx hb dX3_lookAtTold_24 rfl (lv_at hl 3 rfl) ?_
    refine lv_icmp_ne (tgt := 32) hx hb dX3_lookAtTold_25 (by decide) (fun c_6 => ?_) (fun c_6 => ?_)
    · have hsp := hsp.trans (if_neg c_6)
      refine lv_iconst (v := 0) hx hb dX3_lookAtTold_32 (by decide) ?_
      refine vp_callSi (W.runS (As := [.int 0]) (rest := []) ⟨hx, hb, hml, hown, hts⟩ (cX_fitsIf l 0) (va_cwS 1 hts gX3_lookAtTold_X3_fitsIf rfl rfl rfl (by decide +kernel) ⟨(Nat.le_of_ble_eq_true rfl), (Nat.le_of_ble_eq_true rfl)⟩) ⟨T_blind, fun U hU hW => ⟨rfl, trivial⟩⟩ rfl rfl hl.1 rfl (lv_room (Nat.le_of_ble_eq_true rfl)) dX3_lookAtTold_33 ⟨(Nat.le_of_ble_eq_true rfl), (Nat.le_of_ble_eq_true rfl)⟩) (fun r_7 hr_7 => ?_)
      subst hr_7
      refine lv_goto (tgt := 40) hx hb dX3_lookAtTold_36 (by decide) ?_
      exact W.iret (v := (sX_fitsIf 0)) hx hb hr (fun t ht hW => ⟨(sX_fitsIf 0), rfl, hsp.symm, ht⟩) (fun _ h => nomatch h) dX3_lookAtTold_40
    · have hsp := hsp.trans (if_pos c_6)
      refine lv_iconst (v := 1) hx hb dX3_lookAtTold_28 (by decide) ?_
      refine lv_goto (tgt := 33) hx hb dX3_lookAtTold_29 (by decide) ?_
      refine vp_callSi (W.runS (As := [.int 1]) (rest := []) ⟨hx, hb, hml, hown, hts⟩ (cX_fitsIf l 1) (va_cwS 1 hts gX3_lookAtTold_X3_fitsIf rfl rfl rfl (by decide +kernel) ⟨(Nat.le_of_ble_eq_true rfl), (Nat.le_of_ble_eq_true rfl)⟩) ⟨T_blind, fun U hU hW => ⟨rfl, trivial⟩⟩ rfl rfl hl.1 rfl (lv_room (Nat.le_of_ble_eq_true rfl)) dX3_lookAtTold_33 ⟨(Nat.le_of_ble_eq_true rfl), (Nat.le_of_ble_eq_true rfl)⟩) (fun r_8 hr_8 => ?_)
      subst hr_8
      refine lv_goto (tgt := 40) hx hb dX3_lookAtTold_36 (by decide) ?_
      exact W.iret (v := (sX_fitsIf 1)) hx hb hr (fun t ht hW => ⟨(sX_fitsIf 1), rfl, hsp.symm, ht⟩) (fun _ h => nomatch h) dX3_lookAtTold_40
set_option maxHeartbeats 4000000 in
set_option maxRecDepth 100000 in
theorem cX_lookAtLength (l : Launch) (D : va_G) (q : Nat → Nat) (cI cL : ClassId) (tp : Nat) (u : St) (p1 : Int32) (p2 : Int32) (p3 : Int32) (hok : okX_lookAtLength u p1 p2 p3) : Met l yX3_lookAtLength wsX3_lookAtLength { frames := 3, cells := 0, slots := 0, locals := 65 } (va_Pc [.ref (q 0), .int p1, .int p2, .int p3] (fun U => PX D q cI cL tp u U)) (vp_Si (fun r => r = sX_lookAtLength u p1 p2 p3)) 0 0 (fun _ => False) := by
  refine Met.ofW (cc := cX3_lookAtLength) (maxL := 5) (ret := (some .int)) (by decide) rfl ?_
  intro p e s m args below meth c s₁ B hml hv
  obtain ⟨rfl, hP, hK, hZ⟩ := hv
  have hx := B.exec
  have hb := B.bytes
  have hr := B.returns
  have hts := atoms_spec (ws := wsX3_lookAtLength) B.pre
  have hown : s.vm.findClass RX3 = some m.cls := findClass_of_methodNamed B.named
  have hlocks := B.notSynchronized
  have hiX3 : ∀ w ∈ u_ws RX3 TX3 7, w ∈ wsX3_lookAtLength := by decide +kernel
  have hf10 := hts (.fieldLink RX3 10 "ThingRules" "things" "LThingRules$Things;") (by decide +kernel)
  have hS : va_S (AQ 24 q) s.heap s.heap [] := va_S.rf
  have hP : va_P D vwCl (wX q cI cL u) s.heap := hP
  have hl := lv_entry ([.ref (q 0), .int p1, .int p2, .int p3]) (n := 5) (Nat.le_of_ble_eq_true rfl)
  rw [lg_entry_eq]
  generalize (lg_sl ([.ref (q 0), .int p1, .int p2, .int p3]) ++ List.replicate (5 - (lg_sl ([.ref (q 0), .int p1, .int p2, .int p3])).length) Slot.unset).toArray = ls at hl ⊢
  have hl : lv_has ls 5 [(0, .ref (q 0)), (1, .int p1), (2, .int p2), (3, .int p3)] := hl
  have hsp : sX_lookAtLength u p1 p2 p3 = _ := sX_lookAtLength.eq_1 u p1 p2 p3
  unfold okX_lookAtLength at hok
  refine lv_aload_n hx hb dX3_lookAtLength_0 rfl (lv_at hl 0 rfl) ?_
  refine va_get (D := D) (ci := 6) (v := .ref (q 1)) (C := RX3) (T := TX3) (N := 7) hx hb hts hiX3 hown hK hP 0 rfl rfl 0 (by decide) hf10 (fun _ h9 => h9) rfl dX3_lookAtLength_1 ?_
  refine lv_iload_n hx hb dX3_lookAtLength_4 rfl (lv_at hl 1 rfl) ?_
  refine lv_iload_n hx hb dX3_lookAtLength_5 rfl (lv_at hl 2 rfl) ?_
  have h_1 := hok.1
  have hok := hok.2
  refine vp_callSi (W.runV (As := [.int p1, .int p2]) (rest := []) ⟨hx, hb, hml, hown, hts⟩ (cXT_take l D q cI cL tp u p1 p2 h_1) (cwV 2 hts gX3_lookAtLength_X2_take rfl rfl rfl (by decide +kernel) ⟨(Nat.le_of_ble_eq_true rfl), (Nat.le_of_ble_eq_true rfl)⟩) ⟨PX_blind, va_recv hK hP (ci := 5) (q0 := 1) rfl rfl, fun U hU hW => ⟨rfl, PX_fin hP hK hZ hS hU hW⟩⟩ rfl rfl hl.1 rfl (lv_room (Nat.le_of_ble_eq_true rfl)) dX3_lookAtLength_6 ⟨(Nat.le_of_ble_eq_true rfl), (Nat.le_of_ble_eq_true rfl)⟩) (fun r_2 hr_2 => ?_)
  subst hr_2
  refine lv_topi (fun y1 hy1 => ?_)
  have hsp := hsp.trans (bnd_eq hy1)
  have hok := bnd_ok hy1 hok
  refine lv_istore (lv' := [(4, .int y1), (0, .ref (q 0)), (1, .int p1), (2, .int p2), (3, .int p3)]) hx hb dX3_lookAtLength_9 hl (by decide) rfl (fun ls hl => ?_)
  refine lv_iload hx hb dX3_lookAtLength_11 (lv_at hl 0 rfl) ?_
  refine lv_iconst (v := 1) hx hb dX3_lookAtLength_13 (by decide) ?_
  refine lv_icmp_ne (tgt := 40) hx hb dX3_lookAtLength_14 (by decide) (fun c_3 => ?_) (fun c_3 => ?_)
  · have hsp := hsp.trans (if_neg c_3)
    refine lv_iload hx hb dX3_lookAtLength_40 (lv_at hl 0 rfl) ?_
    exact W.iret (v := y1) hx hb hr (fun t ht hW => ⟨y1, rfl, hsp.symm, ht⟩) (fun _ h => nomatch h) dX3_lookAtLength_42
  · have hsp := hsp.trans (if_pos c_3)
    have hok := hok.1 c_3
    refine lv_aload_n hx hb dX3_lookAtLength_17 rfl (lv_at hl 1 rfl) ?_
    refine va_get (D := D) (ci := 6) (v := .ref (q 1)) (C := RX3) (T := TX3) (N := 7) hx hb hts hiX3 hown hK hP 0 rfl rfl 0 (by decide) hf10 (fun _ h9 => h9) rfl dX3_lookAtLength_18 ?_
    refine lv_iload_n hx hb dX3_lookAtLength_21 rfl (lv_at hl 2 rfl) ?_
    have h_4 := hok.1
    have hok := hok.2
    refine vp_callSi (W.runV (As := [.int p1]) (rest := []) ⟨hx, hb, hml, hown, hts⟩ (cXT_placesOf l D q cI cL tp u p1 h_4) (cwV 1 hts gX3_lookAtLength_X2_placesOf rfl rfl rfl (by decide +kernel) ⟨(Nat.le_of_ble_eq_true rfl), (Nat.le_of_ble_eq_true rfl)⟩) ⟨PX_blind, va_recv hK hP (ci := 5) (q0 := 1) rfl rfl, fun U hU hW => ⟨rfl, PX_fin hP hK hZ hS hU hW⟩⟩ rfl rfl hl.1 rfl (lv_room (Nat.le_of_ble_eq_true rfl)) dX3_lookAtLength_22 ⟨(Nat.le_of_ble_eq_true rfl), (Nat.le_of_ble_eq_true rfl)⟩) (fun r_5 hr_5 => ?_)
    subst hr_5
    refine lv_iload_n hx hb dX3_lookAtLength_25 rfl (lv_at hl 4 rfl) ?_
    refine lv_icmp_ne (tgt := 33) hx hb dX3_lookAtLength_26 (by decide) (fun c_6 => ?_) (fun c_6 => ?_)
    · have hsp := hsp.trans (if_neg c_6)
      refine lv_iconst (v := 0) hx hb dX3_lookAtLength_33 (by decide) ?_
      refine vp_callSi (W.runS (As := [.int 0]) (rest := []) ⟨hx, hb, hml, hown, hts⟩ (cX_fitsIf l 0) (va_cwS 1 hts gX3_lookAtLength_X3_fitsIf rfl rfl rfl (by decide +kernel) ⟨(Nat.le_of_ble_eq_true rfl), (Nat.le_of_ble_eq_true rfl)⟩) ⟨T_blind, fun U hU hW => ⟨rfl, trivial⟩⟩ rfl rfl hl.1 rfl (lv_room (Nat.le_of_ble_eq_true rfl)) dX3_lookAtLength_34 ⟨(Nat.le_of_ble_eq_true rfl), (Nat.le_of_ble_eq_true rfl)⟩) (fun r_7 hr_7 => ?_)
      subst hr_7
      refine lv_goto (tgt := 42) hx hb dX3_lookAtLength_37 (by decide) ?_
      exact W.iret (v := (sX_fitsIf 0)) hx hb hr (fun t ht hW => ⟨(sX_fitsIf 0), rfl, hsp.symm, ht⟩) (fun _ h => nomatch h) dX3_lookAtLength_42
    · have hsp := hsp.trans (if_pos c_6)
      refine lv_iconst (v := 1) hx hb dX3_lookAtLength_29 (by decide) ?_
      refine lv_goto (tgt := 34) hx hb dX3_lookAtLength_30 (by decide) ?_
      refine vp_callSi (W.runS (As := [.int 1]) (rest := []) ⟨hx, hb, hml, hown, hts⟩ (cX_fitsIf l 1) (va_cwS 1 hts gX3_lookAtLength_X3_fitsIf rfl rfl rfl (by decide +kernel) ⟨(Nat.le_of_ble_eq_true rfl), (Nat.le_of_ble_eq_true rfl)⟩) ⟨T_blind, fun U hU hW => ⟨rfl, trivial⟩⟩ rfl rfl hl.1 rfl (lv_room (Nat.le_of_ble_eq_true rfl)) dX3_lookAtLength_34 ⟨(Nat.le_of_ble_eq_true rfl), (Nat.le_of_ble_eq_true rfl)⟩) (fun r_8 hr_8 => ?_)
      subst hr_8
      refine lv_goto (tgt := 42) hx hb dX3_lookAtLength_37 (by decide) ?_
      exact W.iret (v := (sX_fitsIf 1)) hx hb hr (fun t ht hW => ⟨(sX_fitsIf 1), rfl, hsp.symm, ht⟩) (fun _ h => nomatch h) dX3_lookAtLength_42
