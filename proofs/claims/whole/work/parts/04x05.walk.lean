set_option maxHeartbeats 4000000 in
set_option maxRecDepth 100000 in
theorem cX_look (l : Launch) (D : va_G) (q : Nat → Nat) (cI cL : ClassId) (tp : Nat) (hq : DQ 24 q) (lk : St → Int32 → Int32 → Int32 × St) (oklk : St → Int32 → Int32 → Prop) (d : Nat) (hlk : ∀ (u : St) (p it : Int32), oklk u p it → Met l yX3_look wsX3_look (rmL d) (va_Pc [.ref (q 0), .int p, .int it] (fun U => PX D q cI cL tp u U)) (va_Qi (fun (r : Int32) (u' : St) => (r, u') = lk u p it) (fun u' t => PX D q cI cL tp u' t) (AQ 24 q)) 0 0 (AQ 24 q)) (u : St) (p1 : Int32) (p2 : Int32) (hok : okX_look lk oklk u p1 p2) : Met l yX3_look wsX3_look (rmL (d + 1)) (va_Pc [.ref (q 0), .int p1, .int p2] (fun U => PX D q cI cL tp u U)) (va_Qi (fun (r : Int32) (u' : St) => (r, u') = sX_look lk u p1 p2) (fun u' t => PX D q cI cL tp u' t) (AQ 24 q)) 0 0 (AQ 24 q) := by
  refine Met.ofW (cc := cX3_look) (maxL := 6) (ret := (some .int)) (by decide) rfl ?_
  intro p e s m args below meth c s₁ B hml hv
  obtain ⟨rfl, hP, hK, hZ⟩ := hv
  have hx := B.exec
  have hb := B.bytes
  have hr := B.returns
  have hts := atoms_spec (ws := wsX3_look) B.pre
  have hown : s.vm.findClass RX3 = some m.cls := findClass_of_methodNamed B.named
  have hlocks := B.notSynchronized
  have hiX3 : ∀ w ∈ u_ws RX3 TX3 7, w ∈ wsX3_look := by decide +kernel
  have hiX0 : ∀ w ∈ u_ws RX0 TX0 5, w ∈ wsX3_look := by decide +kernel
  have hf155 := hts (.fieldLink RX3 155 "ThingRules" "steps" "I") (by decide +kernel)
  have hf19 := hts (.fieldLink RX3 19 "ThingRules" "patterns" "LThingRules$Patterns;") (by decide +kernel)
  have hf164 := hts (.fieldLink RX3 164 "ThingRules$Patterns" "a" "[I") (by decide +kernel)
  have hf167 := hts (.fieldLink RX3 167 "ThingRules$Patterns" "b" "[I") (by decide +kernel)
  have hf170 := hts (.fieldLink RX3 170 "ThingRules$Patterns" "c" "[I") (by decide +kernel)
  have hf173 := hts (.fieldLink RX3 173 "ThingRules$Patterns" "sort" "[I") (by decide +kernel)
  have hf10 := hts (.fieldLink RX3 10 "ThingRules" "things" "LThingRules$Things;") (by decide +kernel)
  have hf30 := hts (.fieldLink RX3 30 "ThingRules" "slots" "[I") (by decide +kernel)
  have hS : va_S (AQ 24 q) s.heap s.heap [] := va_S.rf
  have hP : va_P D vwCl (wX q cI cL u) s.heap := hP
  have hl := lv_entry ([.ref (q 0), .int p1, .int p2]) (n := 6) (Nat.le_of_ble_eq_true rfl)
  rw [lg_entry_eq]
  generalize (lg_sl ([.ref (q 0), .int p1, .int p2]) ++ List.replicate (6 - (lg_sl ([.ref (q 0), .int p1, .int p2])).length) Slot.unset).toArray = ls at hl ⊢
  have hl : lv_has ls 6 [(0, .ref (q 0)), (1, .int p1), (2, .int p2)] := hl
  have hsp : sX_look lk u p1 p2 = _ := sX_look.eq_1 lk u p1 p2
  unfold okX_look at hok
  refine lv_aload_n hx hb dX3_look_0 rfl (lv_at hl 0 rfl) ?_
  refine va_get (D := D) (ci := 6) (v := .int (u.1 0)) (C := RX3) (T := TX3) (N := 7) hx hb hts hiX3 hown hK hP 0 rfl rfl 6 (by decide) hf155 (fun _ h9 => h9) rfl dX3_look_1 ?_
  refine lv_sipush (v := 300) hx hb dX3_look_4 (by decide) ?_
  refine lv_icmp_lt (tgt := 13) hx hb dX3_look_7 (by decide) (fun c_1 => ?_) (fun c_1 => ?_)
  · have hsp := hsp.trans (if_pos c_1)
    have hok := hok.1 c_1
    refine lv_aload_n hx hb dX3_look_13 rfl (lv_at hl 0 rfl) ?_
    refine lv_dup hx hb dX3_look_14 rfl ?_
    refine va_get (D := D) (ci := 6) (v := .int (u.1 0)) (C := RX3) (T := TX3) (N := 7) hx hb hts hiX3 hown hK hP 0 rfl rfl 6 (by decide) hf155 (fun _ h9 => h9) rfl dX3_look_15 ?_
    refine lv_iconst (v := 1) hx hb dX3_look_18 (by decide) ?_
    refine lv_iadd hx hb dX3_look_19 ?_
    refine va_put (D := D) (ci := 6) (v := .int ((u.1 0) + 1)) (ty := .int) (C := RX3) (T := TX3) (N := 7) hx hb hts hiX3 tyX3 tyX3_ok nmX3 hown hK hP (dX hq) hS 0 rfl rfl 6 (by decide) hf155 (fun _ h9 => h9) rfl (by decide +kernel) rfl rfl (Nat.le_of_ble_eq_true rfl) dX3_look_20 (fun H locs hP _ hS => ?_)
    obtain ⟨u1, hu1⟩ : ∃ z : St, z = (stI u 0 ((u.1 0) + 1)) := ⟨_, rfl⟩
    have hP : va_P D vwCl (wX q cI cL u1) H := by rw [hu1]; exact hP
    have hsp := hsp.trans (bnd_eq hu1)
    have hok := bnd_ok hu1 hok
    refine lv_aload_n hx hb dX3_look_23 rfl (lv_at hl 0 rfl) ?_
    refine va_get (D := D) (ci := 6) (v := .ref (q 2)) (C := RX3) (T := TX3) (N := 7) hx hb hts hiX3 hown hK hP 0 rfl rfl 1 (by decide) hf19 (fun _ h9 => h9) rfl dX3_look_24 ?_
    refine lv_iload_n hx hb dX3_look_27 rfl (lv_at hl 1 rfl) ?_
    refine vp_callSi (W.runV (As := [.int p1]) (rest := []) ⟨hx, hb, hml, hown, hts⟩ (cXP_know l D q cI cL tp u1 p1) (cwV 1 hts gX3_look_X0_know rfl rfl rfl (by decide +kernel) ⟨by simp [headSpec, rmL] <;> omega, by simp [headSpec, rmL] <;> omega⟩) ⟨PX_blind, va_recv hK hP (ci := 3) (q0 := 2) rfl rfl, fun U hU hW => ⟨rfl, PX_fin hP hK hZ hS hU hW⟩⟩ rfl rfl hl.1 rfl (lv_room (Nat.le_of_ble_eq_true rfl)) dX3_look_28 ⟨(Nat.le_of_ble_eq_true rfl), (Nat.le_of_ble_eq_true rfl)⟩) (fun r_2 hr_2 => ?_)
    subst hr_2
    refine lv_if_ne (tgt := 36) hx hb dX3_look_31 (by decide) (fun c_3 => ?_) (fun c_3 => ?_)
    · have hsp := hsp.trans (if_neg c_3)
      have hok := hok.2 c_3
      refine lv_aload_n hx hb dX3_look_36 rfl (lv_at hl 0 rfl) ?_
      refine va_get (D := D) (ci := 6) (v := .ref (q 2)) (C := RX3) (T := TX3) (N := 7) hx hb hts hiX3 hown hK hP 0 rfl rfl 1 (by decide) hf19 (fun _ h9 => h9) rfl dX3_look_37 ?_
      refine va_get (D := D) (ci := 3) (v := .ref (q 15)) (C := RX0) (T := TX0) (N := 5) hx hb hts hiX0 hown hK hP 2 rfl rfl 2 (by decide) hf164 (fun _ h9 => h9) rfl dX3_look_40 ?_
      refine lv_iload_n hx hb dX3_look_43 rfl (lv_at hl 1 rfl) ?_
      have h_4 := hok.1
      have hok := hok.2
      refine va_iald hx hb hK hP 15 0 rfl rfl h_4 dX3_look_44 ?_
      refine lv_topi (fun y2 hy2 => ?_)
      have hsp := hsp.trans (bnd_eq hy2)
      have hok := bnd_ok hy2 hok
      refine lv_istore_n (lv' := [(3, .int y2), (0, .ref (q 0)), (1, .int p1), (2, .int p2)]) hx hb dX3_look_45 rfl hl (by decide) rfl (fun ls hl => ?_)
      refine lv_aload_n hx hb dX3_look_46 rfl (lv_at hl 1 rfl) ?_
      refine va_get (D := D) (ci := 6) (v := .ref (q 2)) (C := RX3) (T := TX3) (N := 7) hx hb hts hiX3 hown hK hP 0 rfl rfl 1 (by decide) hf19 (fun _ h9 => h9) rfl dX3_look_47 ?_
      refine va_get (D := D) (ci := 3) (v := .ref (q 16)) (C := RX0) (T := TX0) (N := 5) hx hb hts hiX0 hown hK hP 2 rfl rfl 3 (by decide) hf167 (fun _ h9 => h9) rfl dX3_look_50 ?_
      refine lv_iload_n hx hb dX3_look_53 rfl (lv_at hl 2 rfl) ?_
      have h_5 := hok.1
      have hok := hok.2
      refine va_iald hx hb hK hP 16 0 rfl rfl h_5 dX3_look_54 ?_
      refine lv_topi (fun y3 hy3 => ?_)
      have hsp := hsp.trans (bnd_eq hy3)
      have hok := bnd_ok hy3 hok
      refine lv_istore (lv' := [(4, .int y3), (3, .int y2), (0, .ref (q 0)), (1, .int p1), (2, .int p2)]) hx hb dX3_look_55 hl (by decide) rfl (fun ls hl => ?_)
      refine lv_aload_n hx hb dX3_look_57 rfl (lv_at hl 2 rfl) ?_
      refine va_get (D := D) (ci := 6) (v := .ref (q 2)) (C := RX3) (T := TX3) (N := 7) hx hb hts hiX3 hown hK hP 0 rfl rfl 1 (by decide) hf19 (fun _ h9 => h9) rfl dX3_look_58 ?_
      refine va_get (D := D) (ci := 3) (v := .ref (q 17)) (C := RX0) (T := TX0) (N := 5) hx hb hts hiX0 hown hK hP 2 rfl rfl 4 (by decide) hf170 (fun _ h9 => h9) rfl dX3_look_61 ?_
      refine lv_iload_n hx hb dX3_look_64 rfl (lv_at hl 3 rfl) ?_
      have h_6 := hok.1
      have hok := hok.2
      refine va_iald hx hb hK hP 17 0 rfl rfl h_6 dX3_look_65 ?_
      refine lv_topi (fun y4 hy4 => ?_)
      have hsp := hsp.trans (bnd_eq hy4)
      have hok := bnd_ok hy4 hok
      refine lv_istore (lv' := [(5, .int y4), (4, .int y3), (3, .int y2), (0, .ref (q 0)), (1, .int p1), (2, .int p2)]) hx hb dX3_look_66 hl (by decide) rfl (fun ls hl => ?_)
      refine lv_aload_n hx hb dX3_look_68 rfl (lv_at hl 3 rfl) ?_
      refine va_get (D := D) (ci := 6) (v := .ref (q 2)) (C := RX3) (T := TX3) (N := 7) hx hb hts hiX3 hown hK hP 0 rfl rfl 1 (by decide) hf19 (fun _ h9 => h9) rfl dX3_look_69 ?_
      refine va_get (D := D) (ci := 3) (v := .ref (q 14)) (C := RX0) (T := TX0) (N := 5) hx hb hts hiX0 hown hK hP 2 rfl rfl 1 (by decide) hf173 (fun _ h9 => h9) rfl dX3_look_72 ?_
      refine lv_iload_n hx hb dX3_look_75 rfl (lv_at hl 4 rfl) ?_
      have h_7 := hok.1
      have hok := hok.2
      refine va_iald hx hb hK hP 14 0 rfl rfl h_7 dX3_look_76 ?_
      by_cases c_8 : (u1.2.1 14 p1.toNatClampNeg) = 0
      · have hsp := hsp.trans (if_pos c_8)
        have hok := hok.1 c_8
        refine lv_tableIn (off := 71) (tgt := 148) hx hb dX3_look_77 (by rw [c_8]; decide) (by rw [c_8]; decide) (by rw [c_8]; rfl) (by decide) ?_
        refine lv_aload_n hx hb dX3_look_148 rfl (lv_at hl 3 rfl) ?_
        refine va_get (D := D) (ci := 6) (v := .ref (q 1)) (C := RX3) (T := TX3) (N := 7) hx hb hts hiX3 hown hK hP 0 rfl rfl 0 (by decide) hf10 (fun _ h9 => h9) rfl dX3_look_149 ?_
        refine lv_iload_n hx hb dX3_look_152 rfl (lv_at hl 5 rfl) ?_
        refine lv_iload_n hx hb dX3_look_153 rfl (lv_at hl 2 rfl) ?_
        have h_9 := hok.1
        have hok := hok.2
        refine vp_callSi (W.runV (As := [.int p2, .int y2]) (rest := []) ⟨hx, hb, hml, hown, hts⟩ (cXT_isOf l D q cI cL tp u1 p2 y2 h_9) (cwV 2 hts gX3_look_X2_isOf rfl rfl rfl (by decide +kernel) ⟨by simp [headSpec, rmL] <;> omega, by simp [headSpec, rmL] <;> omega⟩) ⟨PX_blind, va_recv hK hP (ci := 5) (q0 := 1) rfl rfl, fun U hU hW => ⟨rfl, PX_fin hP hK hZ hS hU hW⟩⟩ rfl rfl hl.1 rfl (lv_room (Nat.le_of_ble_eq_true rfl)) dX3_look_154 ⟨(Nat.le_of_ble_eq_true rfl), (Nat.le_of_ble_eq_true rfl)⟩) (fun r_10 hr_10 => ?_)
        subst hr_10
        refine vp_callSi (W.runS (As := [.int (sXT_isOf u1 p2 y2)]) (rest := []) ⟨hx, hb, hml, hown, hts⟩ (cX_fitsIf l (sXT_isOf u1 p2 y2)) (va_cwS 1 hts gX3_look_X3_fitsIf rfl rfl rfl (by decide +kernel) ⟨by simp [headSpec, rmL] <;> omega, by simp [headSpec, rmL] <;> omega⟩) ⟨T_blind, fun U hU hW => ⟨rfl, trivial⟩⟩ rfl rfl hl.1 rfl (lv_room (Nat.le_of_ble_eq_true rfl)) dX3_look_157 ⟨(Nat.le_of_ble_eq_true rfl), (Nat.le_of_ble_eq_true rfl)⟩) (fun r_11 hr_11 => ?_)
        subst hr_11
        exact W.iret (v := (sX_fitsIf (sXT_isOf u1 p2 y2))) hx hb hr (fun t ht hW => ⟨⟨(sX_fitsIf (sXT_isOf u1 p2 y2)), u1, rfl, hsp.symm, PX_fin hP hK hZ hS ht hW⟩, hS.F ht⟩) hS.2.2 dX3_look_160
      · have hsp := hsp.trans (if_neg c_8)
        have hok := hok.2 c_8
        by_cases c_12 : (u1.2.1 14 p1.toNatClampNeg) = 1
        · have hsp := hsp.trans (if_pos c_12)
          have hok := hok.1 c_12
          refine lv_tableIn (off := 84) (tgt := 161) hx hb dX3_look_77 (by rw [c_12]; decide) (by rw [c_12]; decide) (by rw [c_12]; rfl) (by decide) ?_
          refine lv_aload_n hx hb dX3_look_161 rfl (lv_at hl 3 rfl) ?_
          refine va_get (D := D) (ci := 6) (v := .ref (q 1)) (C := RX3) (T := TX3) (N := 7) hx hb hts hiX3 hown hK hP 0 rfl rfl 0 (by decide) hf10 (fun _ h9 => h9) rfl dX3_look_162 ?_
          refine lv_iload_n hx hb dX3_look_165 rfl (lv_at hl 5 rfl) ?_
          refine lv_iload_n hx hb dX3_look_166 rfl (lv_at hl 2 rfl) ?_
          have h_13 := hok.1
          have hok := hok.2
          refine vp_callSi (W.runV (As := [.int p2, .int y2]) (rest := []) ⟨hx, hb, hml, hown, hts⟩ (cXT_mayBeTaken l D q cI cL tp u1 p2 y2 h_13) (cwV 2 hts gX3_look_X2_mayBeTaken rfl rfl rfl (by decide +kernel) ⟨by simp [headSpec, rmL] <;> omega, by simp [headSpec, rmL] <;> omega⟩) ⟨PX_blind, va_recv hK hP (ci := 5) (q0 := 1) rfl rfl, fun U hU hW => ⟨rfl, PX_fin hP hK hZ hS hU hW⟩⟩ rfl rfl hl.1 rfl (lv_room (Nat.le_of_ble_eq_true rfl)) dX3_look_167 ⟨(Nat.le_of_ble_eq_true rfl), (Nat.le_of_ble_eq_true rfl)⟩) (fun r_14 hr_14 => ?_)
          subst hr_14
          refine lv_if_eq (tgt := 183) hx hb dX3_look_170 (by decide) (fun c_15 => ?_) (fun c_15 => ?_)
          · have hsp := hsp.trans (if_pos c_15)
            refine lv_bipush (v := (-21)) hx hb dX3_look_183 (by decide) ?_
            exact W.iret (v := (-21)) hx hb hr (fun t ht hW => ⟨⟨(-21), u1, rfl, hsp.symm, PX_fin hP hK hZ hS ht hW⟩, hS.F ht⟩) hS.2.2 dX3_look_185
          · have hsp := hsp.trans (if_neg c_15)
            have hok := hok.2 c_15
            refine lv_aload_n hx hb dX3_look_173 rfl (lv_at hl 3 rfl) ?_
            refine lv_iload hx hb dX3_look_174 (lv_at hl 1 rfl) ?_
            refine lv_iload_n hx hb dX3_look_176 rfl (lv_at hl 5 rfl) ?_
            have h_16 := hok.1
            have hok := hok.2
            refine va_calli (va_runV (As := [.int y3, .int p2]) (rest := []) ⟨hx, hb, hml, hown, hts⟩ (hlk u1 y3 p2 h_16) (cwV 2 hts gX3_look_X3_look rfl rfl rfl (by decide +kernel) ⟨by simp [headSpec, rmL] <;> omega, by simp [headSpec, rmL] <;> omega⟩) ⟨PX_blind, va_recv hK hP (ci := 6) (q0 := 0) rfl rfl, fun U hU hW => ⟨rfl, PX_fin hP hK hZ hS hU hW⟩⟩ rfl rfl hl.1 rfl (lv_room (Nat.le_of_ble_eq_true rfl)) dX3_look_177 ⟨(Nat.le_of_ble_eq_true rfl), (Nat.le_of_ble_eq_true rfl)⟩) hS (fun q _ h => h) (fun q h => h) (fun r5 u5 t H1 locs ht hvm hu5 hB hz1 hk1 hS => ?_)
            have hP := hB.1
            rw [ht] at hP
            clear hB hk1 hz1 hvm ht
            generalize H1 = H at hP hS ⊢
            refine W.widen (k := 0) (n := 0) (Nat.le_refl 0) (Nat.le_refl 0) ?_
            have hsp := hsp.trans (bnd2_eq hu5)
            refine lv_goto (tgt := 185) hx hb dX3_look_180 (by decide) ?_
            exact W.iret (v := r5) hx hb hr (fun t ht hW => ⟨⟨r5, u5, rfl, hsp.symm, PX_fin hP hK hZ hS ht hW⟩, hS.F ht⟩) hS.2.2 dX3_look_185
        · have hsp := hsp.trans (if_neg c_12)
          have hok := hok.2 c_12
          by_cases c_17 : (u1.2.1 14 p1.toNatClampNeg) = 2
          · have hsp := hsp.trans (if_pos c_17)
            refine lv_tableIn (off := 109) (tgt := 186) hx hb dX3_look_77 (by rw [c_17]; decide) (by rw [c_17]; decide) (by rw [c_17]; rfl) (by decide) ?_
            refine lv_iload_n hx hb dX3_look_186 rfl (lv_at hl 5 rfl) ?_
            refine lv_bipush (v := (-5)) hx hb dX3_look_187 (by decide) ?_
            refine lv_icmp_ne (tgt := 196) hx hb dX3_look_189 (by decide) (fun c_18 => ?_) (fun c_18 => ?_)
            · have hsp := hsp.trans (if_neg c_18)
              refine lv_iconst (v := 0) hx hb dX3_look_196 (by decide) ?_
              refine vp_callSi (W.runS (As := [.int 0]) (rest := []) ⟨hx, hb, hml, hown, hts⟩ (cX_fitsIf l 0) (va_cwS 1 hts gX3_look_X3_fitsIf rfl rfl rfl (by decide +kernel) ⟨by simp [headSpec, rmL] <;> omega, by simp [headSpec, rmL] <;> omega⟩) ⟨T_blind, fun U hU hW => ⟨rfl, trivial⟩⟩ rfl rfl hl.1 rfl (lv_room (Nat.le_of_ble_eq_true rfl)) dX3_look_197 ⟨(Nat.le_of_ble_eq_true rfl), (Nat.le_of_ble_eq_true rfl)⟩) (fun r_19 hr_19 => ?_)
              subst hr_19
              exact W.iret (v := (sX_fitsIf 0)) hx hb hr (fun t ht hW => ⟨⟨(sX_fitsIf 0), u1, rfl, hsp.symm, PX_fin hP hK hZ hS ht hW⟩, hS.F ht⟩) hS.2.2 dX3_look_200
            · have hsp := hsp.trans (if_pos c_18)
              refine lv_iconst (v := 1) hx hb dX3_look_192 (by decide) ?_
              refine lv_goto (tgt := 197) hx hb dX3_look_193 (by decide) ?_
              refine vp_callSi (W.runS (As := [.int 1]) (rest := []) ⟨hx, hb, hml, hown, hts⟩ (cX_fitsIf l 1) (va_cwS 1 hts gX3_look_X3_fitsIf rfl rfl rfl (by decide +kernel) ⟨by simp [headSpec, rmL] <;> omega, by simp [headSpec, rmL] <;> omega⟩) ⟨T_blind, fun U hU hW => ⟨rfl, trivial⟩⟩ rfl rfl hl.1 rfl (lv_room (Nat.le_of_ble_eq_true rfl)) dX3_look_197 ⟨(Nat.le_of_ble_eq_true rfl), (Nat.le_of_ble_eq_true rfl)⟩) (fun r_20 hr_20 => ?_)
              subst hr_20
              exact W.iret (v := (sX_fitsIf 1)) hx hb hr (fun t ht hW => ⟨⟨(sX_fitsIf 1), u1, rfl, hsp.symm, PX_fin hP hK hZ hS ht hW⟩, hS.F ht⟩) hS.2.2 dX3_look_200
          · have hsp := hsp.trans (if_neg c_17)
            have hok := hok.2 c_17
            by_cases c_21 : (u1.2.1 14 p1.toNatClampNeg) = 3
            · have hsp := hsp.trans (if_pos c_21)
              have hok := hok.1 c_21
              refine lv_tableIn (off := 124) (tgt := 201) hx hb dX3_look_77 (by rw [c_21]; decide) (by rw [c_21]; decide) (by rw [c_21]; rfl) (by decide) ?_
              refine lv_aload_n hx hb dX3_look_201 rfl (lv_at hl 3 rfl) ?_
              refine lv_iload_n hx hb dX3_look_202 rfl (lv_at hl 5 rfl) ?_
              refine lv_iload_n hx hb dX3_look_203 rfl (lv_at hl 2 rfl) ?_
              refine lv_iload hx hb dX3_look_204 (lv_at hl 1 rfl) ?_
              have h_22 := hok.1
              have hok := hok.2
              refine va_calli (va_runV (As := [.int p2, .int y2, .int y3]) (rest := []) ⟨hx, hb, hml, hown, hts⟩ (cX_lookAtHalves l D q cI cL tp hq lk oklk d hlk u1 p2 y2 y3 h_22) (cwV 3 hts gX3_look_X3_lookAtHalves rfl rfl rfl (by decide +kernel) ⟨by simp [headSpec, rmL] <;> omega, by simp [headSpec, rmL] <;> omega⟩) ⟨PX_blind, va_recv hK hP (ci := 6) (q0 := 0) rfl rfl, fun U hU hW => ⟨rfl, PX_fin hP hK hZ hS hU hW⟩⟩ rfl rfl hl.1 rfl (lv_room (Nat.le_of_ble_eq_true rfl)) dX3_look_206 ⟨(Nat.le_of_ble_eq_true rfl), (Nat.le_of_ble_eq_true rfl)⟩) hS (fun q _ h => h) (fun q h => h) (fun r6 u6 t H1 locs ht hvm hu6 hB hz1 hk1 hS => ?_)
              have hP := hB.1
              rw [ht] at hP
              clear hB hk1 hz1 hvm ht
              generalize H1 = H at hP hS ⊢
              refine W.widen (k := 0) (n := 0) (Nat.le_refl 0) (Nat.le_refl 0) ?_
              exact W.iret (v := r6) hx hb hr (fun t ht hW => ⟨⟨r6, u6, rfl, (hu6.trans hsp.symm), PX_fin hP hK hZ hS ht hW⟩, hS.F ht⟩) hS.2.2 dX3_look_209
            · have hsp := hsp.trans (if_neg c_21)
              have hok := hok.2 c_21
              by_cases c_23 : (u1.2.1 14 p1.toNatClampNeg) = 4
              · have hsp := hsp.trans (if_pos c_23)
                have hok := hok.1 c_23
                refine lv_tableIn (off := 133) (tgt := 210) hx hb dX3_look_77 (by rw [c_23]; decide) (by rw [c_23]; decide) (by rw [c_23]; rfl) (by decide) ?_
                refine lv_aload_n hx hb dX3_look_210 rfl (lv_at hl 3 rfl) ?_
                refine lv_iload_n hx hb dX3_look_211 rfl (lv_at hl 5 rfl) ?_
                refine lv_iload_n hx hb dX3_look_212 rfl (lv_at hl 2 rfl) ?_
                refine lv_iload hx hb dX3_look_213 (lv_at hl 1 rfl) ?_
                have h_24 := hok.1
                have hok := hok.2
                refine va_calli (va_runV (As := [.int p2, .int y2, .int y3]) (rest := []) ⟨hx, hb, hml, hown, hts⟩ (cX_lookAtEach l D q cI cL tp hq lk oklk d hlk u1 p2 y2 y3 h_24) (cwV 3 hts gX3_look_X3_lookAtEach rfl rfl rfl (by decide +kernel) ⟨by simp [headSpec, rmL] <;> omega, by simp [headSpec, rmL] <;> omega⟩) ⟨PX_blind, va_recv hK hP (ci := 6) (q0 := 0) rfl rfl, fun U hU hW => ⟨rfl, PX_fin hP hK hZ hS hU hW⟩⟩ rfl rfl hl.1 rfl (lv_room (Nat.le_of_ble_eq_true rfl)) dX3_look_215 ⟨(Nat.le_of_ble_eq_true rfl), (Nat.le_of_ble_eq_true rfl)⟩) hS (fun q _ h => h) (fun q h => h) (fun r7 u7 t H1 locs ht hvm hu7 hB hz1 hk1 hS => ?_)
                have hP := hB.1
                rw [ht] at hP
                clear hB hk1 hz1 hvm ht
                generalize H1 = H at hP hS ⊢
                refine W.widen (k := 0) (n := 0) (Nat.le_refl 0) (Nat.le_refl 0) ?_
                exact W.iret (v := r7) hx hb hr (fun t ht hW => ⟨⟨r7, u7, rfl, (hu7.trans hsp.symm), PX_fin hP hK hZ hS ht hW⟩, hS.F ht⟩) hS.2.2 dX3_look_218
              · have hsp := hsp.trans (if_neg c_23)
                have hok := hok.2 c_23
                by_cases c_25 : (u1.2.1 14 p1.toNatClampNeg) = 5
                · have hsp := hsp.trans (if_pos c_25)
                  have hok := hok.1 c_25
                  refine lv_tableIn (off := 142) (tgt := 219) hx hb dX3_look_77 (by rw [c_25]; decide) (by rw [c_25]; decide) (by rw [c_25]; rfl) (by decide) ?_
                  refine lv_aload_n hx hb dX3_look_219 rfl (lv_at hl 3 rfl) ?_
                  refine lv_iload_n hx hb dX3_look_220 rfl (lv_at hl 5 rfl) ?_
                  refine lv_iload_n hx hb dX3_look_221 rfl (lv_at hl 2 rfl) ?_
                  refine lv_iload hx hb dX3_look_222 (lv_at hl 1 rfl) ?_
                  refine lv_iload hx hb dX3_look_224 (lv_at hl 0 rfl) ?_
                  have h_26 := hok.1
                  have hok := hok.2
                  refine va_calli (va_runV (As := [.int p2, .int y2, .int y3, .int y4]) (rest := []) ⟨hx, hb, hml, hown, hts⟩ (cX_lookAtPlace l D q cI cL tp hq lk oklk d hlk u1 p2 y2 y3 y4 h_26) (cwV 4 hts gX3_look_X3_lookAtPlace rfl rfl rfl (by decide +kernel) ⟨by simp [headSpec, rmL] <;> omega, by simp [headSpec, rmL] <;> omega⟩) ⟨PX_blind, va_recv hK hP (ci := 6) (q0 := 0) rfl rfl, fun U hU hW => ⟨rfl, PX_fin hP hK hZ hS hU hW⟩⟩ rfl rfl hl.1 rfl (lv_room (Nat.le_of_ble_eq_true rfl)) dX3_look_226 ⟨(Nat.le_of_ble_eq_true rfl), (Nat.le_of_ble_eq_true rfl)⟩) hS (fun q _ h => h) (fun q h => h) (fun r8 u8 t H1 locs ht hvm hu8 hB hz1 hk1 hS => ?_)
                  have hP := hB.1
                  rw [ht] at hP
                  clear hB hk1 hz1 hvm ht
                  generalize H1 = H at hP hS ⊢
                  refine W.widen (k := 0) (n := 0) (Nat.le_refl 0) (Nat.le_refl 0) ?_
                  exact W.iret (v := r8) hx hb hr (fun t ht hW => ⟨⟨r8, u8, rfl, (hu8.trans hsp.symm), PX_fin hP hK hZ hS ht hW⟩, hS.F ht⟩) hS.2.2 dX3_look_229
                · have hsp := hsp.trans (if_neg c_25)
                  have hok := hok.2 c_25
                  by_cases c_27 : (u1.2.1 14 p1.toNatClampNeg) = 6
                  · have hsp := hsp.trans (if_pos c_27)
                    have hok := hok.1 c_27
                    refine lv_tableIn (off := 153) (tgt := 230) hx hb dX3_look_77 (by rw [c_27]; decide) (by rw [c_27]; decide) (by rw [c_27]; rfl) (by decide) ?_
                    refine lv_aload_n hx hb dX3_look_230 rfl (lv_at hl 3 rfl) ?_
                    refine lv_iload_n hx hb dX3_look_231 rfl (lv_at hl 5 rfl) ?_
                    refine lv_iload_n hx hb dX3_look_232 rfl (lv_at hl 2 rfl) ?_
                    refine lv_iload hx hb dX3_look_233 (lv_at hl 1 rfl) ?_
                    refine lv_iload hx hb dX3_look_235 (lv_at hl 0 rfl) ?_
                    have h_28 := hok.1
                    have hok := hok.2
                    refine vp_callSi (W.runV (As := [.int p2, .int y2, .int y3, .int y4]) (rest := []) ⟨hx, hb, hml, hown, hts⟩ (cX_lookAtDigit l D q cI cL tp u1 p2 y2 y3 y4 h_28) (cwV 4 hts gX3_look_X3_lookAtDigit rfl rfl rfl (by decide +kernel) ⟨by simp [headSpec, rmL] <;> omega, by simp [headSpec, rmL] <;> omega⟩) ⟨PX_blind, va_recv hK hP (ci := 6) (q0 := 0) rfl rfl, fun U hU hW => ⟨rfl, PX_fin hP hK hZ hS hU hW⟩⟩ rfl rfl hl.1 rfl (lv_room (Nat.le_of_ble_eq_true rfl)) dX3_look_237 ⟨(Nat.le_of_ble_eq_true rfl), (Nat.le_of_ble_eq_true rfl)⟩) (fun r_29 hr_29 => ?_)
                    subst hr_29
                    exact W.iret (v := (sX_lookAtDigit u1 p2 y2 y3 y4)) hx hb hr (fun t ht hW => ⟨⟨(sX_lookAtDigit u1 p2 y2 y3 y4), u1, rfl, hsp.symm, PX_fin hP hK hZ hS ht hW⟩, hS.F ht⟩) hS.2.2 dX3_look_240
                  · have hsp := hsp.trans (if_neg c_27)
                    have hok := hok.2 c_27
                    by_cases c_30 : (u1.2.1 14 p1.toNatClampNeg) = 7
                    · have hsp := hsp.trans (if_pos c_30)
                      have hok := hok.1 c_30
                      refine lv_tableIn (off := 164) (tgt := 241) hx hb dX3_look_77 (by rw [c_30]; decide) (by rw [c_30]; decide) (by rw [c_30]; rfl) (by decide) ?_
                      refine lv_aload_n hx hb dX3_look_241 rfl (lv_at hl 3 rfl) ?_
                      refine lv_iload_n hx hb dX3_look_242 rfl (lv_at hl 5 rfl) ?_
                      refine lv_iload_n hx hb dX3_look_243 rfl (lv_at hl 2 rfl) ?_
                      refine lv_iload hx hb dX3_look_244 (lv_at hl 1 rfl) ?_
                      have h_31 := hok.1
                      have hok := hok.2
                      refine va_calli (va_runV (As := [.int p2, .int y2, .int y3]) (rest := []) ⟨hx, hb, hml, hown, hts⟩ (cX_lookWithBoth l D q cI cL tp hq lk oklk d hlk u1 p2 y2 y3 h_31) (cwV 3 hts gX3_look_X3_lookWithBoth rfl rfl rfl (by decide +kernel) ⟨by simp [headSpec, rmL] <;> omega, by simp [headSpec, rmL] <;> omega⟩) ⟨PX_blind, va_recv hK hP (ci := 6) (q0 := 0) rfl rfl, fun U hU hW => ⟨rfl, PX_fin hP hK hZ hS hU hW⟩⟩ rfl rfl hl.1 rfl (lv_room (Nat.le_of_ble_eq_true rfl)) dX3_look_246 ⟨(Nat.le_of_ble_eq_true rfl), (Nat.le_of_ble_eq_true rfl)⟩) hS (fun q _ h => h) (fun q h => h) (fun r9 u9 t H1 locs ht hvm hu9 hB hz1 hk1 hS => ?_)
                      have hP := hB.1
                      rw [ht] at hP
                      clear hB hk1 hz1 hvm ht
                      generalize H1 = H at hP hS ⊢
                      refine W.widen (k := 0) (n := 0) (Nat.le_refl 0) (Nat.le_refl 0) ?_
                      exact W.iret (v := r9) hx hb hr (fun t ht hW => ⟨⟨r9, u9, rfl, (hu9.trans hsp.symm), PX_fin hP hK hZ hS ht hW⟩, hS.F ht⟩) hS.2.2 dX3_look_249
                    · have hsp := hsp.trans (if_neg c_30)
                      have hok := hok.2 c_30
                      by_cases c_32 : (u1.2.1 14 p1.toNatClampNeg) = 8
                      · have hsp := hsp.trans (if_pos c_32)
                        have hok := hok.1 c_32
                        refine lv_tableIn (off := 173) (tgt := 250) hx hb dX3_look_77 (by rw [c_32]; decide) (by rw [c_32]; decide) (by rw [c_32]; rfl) (by decide) ?_
                        refine lv_aload_n hx hb dX3_look_250 rfl (lv_at hl 3 rfl) ?_
                        refine lv_iload_n hx hb dX3_look_251 rfl (lv_at hl 5 rfl) ?_
                        refine lv_iload_n hx hb dX3_look_252 rfl (lv_at hl 2 rfl) ?_
                        refine lv_iload hx hb dX3_look_253 (lv_at hl 1 rfl) ?_
                        have h_33 := hok.1
                        have hok := hok.2
                        refine va_calli (va_runV (As := [.int p2, .int y2, .int y3]) (rest := []) ⟨hx, hb, hml, hown, hts⟩ (cX_lookWithEither l D q cI cL tp hq lk oklk d hlk u1 p2 y2 y3 h_33) (cwV 3 hts gX3_look_X3_lookWithEither rfl rfl rfl (by decide +kernel) ⟨by simp [headSpec, rmL] <;> omega, by simp [headSpec, rmL] <;> omega⟩) ⟨PX_blind, va_recv hK hP (ci := 6) (q0 := 0) rfl rfl, fun U hU hW => ⟨rfl, PX_fin hP hK hZ hS hU hW⟩⟩ rfl rfl hl.1 rfl (lv_room (Nat.le_of_ble_eq_true rfl)) dX3_look_255 ⟨(Nat.le_of_ble_eq_true rfl), (Nat.le_of_ble_eq_true rfl)⟩) hS (fun q _ h => h) (fun q h => h) (fun r10 u10 t H1 locs ht hvm hu10 hB hz1 hk1 hS => ?_)
                        have hP := hB.1
                        rw [ht] at hP
                        clear hB hk1 hz1 hvm ht
                        generalize H1 = H at hP hS ⊢
                        refine W.widen (k := 0) (n := 0) (Nat.le_refl 0) (Nat.le_refl 0) ?_
                        exact W.iret (v := r10) hx hb hr (fun t ht hW => ⟨⟨r10, u10, rfl, (hu10.trans hsp.symm), PX_fin hP hK hZ hS ht hW⟩, hS.F ht⟩) hS.2.2 dX3_look_258
                      · have hsp := hsp.trans (if_neg c_32)
                        have hok := hok.2 c_32
                        by_cases c_34 : (u1.2.1 14 p1.toNatClampNeg) = 9
                        · have hsp := hsp.trans (if_pos c_34)
                          have hok := hok.1 c_34
                          refine lv_tableIn (off := 182) (tgt := 259) hx hb dX3_look_77 (by rw [c_34]; decide) (by rw [c_34]; decide) (by rw [c_34]; rfl) (by decide) ?_
                          refine lv_aload_n hx hb dX3_look_259 rfl (lv_at hl 3 rfl) ?_
                          refine lv_iload_n hx hb dX3_look_260 rfl (lv_at hl 2 rfl) ?_
                          refine lv_iload_n hx hb dX3_look_261 rfl (lv_at hl 5 rfl) ?_
                          have h_35 := hok.1
                          have hok := hok.2
                          refine va_calli (va_runV (As := [.int y2, .int p2]) (rest := []) ⟨hx, hb, hml, hown, hts⟩ (hlk u1 y2 p2 h_35) (cwV 2 hts gX3_look_X3_look rfl rfl rfl (by decide +kernel) ⟨by simp [headSpec, rmL] <;> omega, by simp [headSpec, rmL] <;> omega⟩) ⟨PX_blind, va_recv hK hP (ci := 6) (q0 := 0) rfl rfl, fun U hU hW => ⟨rfl, PX_fin hP hK hZ hS hU hW⟩⟩ rfl rfl hl.1 rfl (lv_room (Nat.le_of_ble_eq_true rfl)) dX3_look_262 ⟨(Nat.le_of_ble_eq_true rfl), (Nat.le_of_ble_eq_true rfl)⟩) hS (fun q _ h => h) (fun q h => h) (fun r11 u11 t H1 locs ht hvm hu11 hB hz1 hk1 hS => ?_)
                          have hP := hB.1
                          rw [ht] at hP
                          clear hB hk1 hz1 hvm ht
                          generalize H1 = H at hP hS ⊢
                          refine W.widen (k := 0) (n := 0) (Nat.le_refl 0) (Nat.le_refl 0) ?_
                          have hsp := hsp.trans (bnd2_eq hu11)
                          refine vp_callSi (W.runS (As := [.int r11]) (rest := []) ⟨hx, hb, hml, hown, hts⟩ (cX_turnedRound l r11) (va_cwS 1 hts gX3_look_X3_turnedRound rfl rfl rfl (by decide +kernel) ⟨by simp [headSpec, rmL] <;> omega, by simp [headSpec, rmL] <;> omega⟩) ⟨T_blind, fun U hU hW => ⟨rfl, trivial⟩⟩ rfl rfl hl.1 rfl (lv_room (Nat.le_of_ble_eq_true rfl)) dX3_look_265 ⟨(Nat.le_of_ble_eq_true rfl), (Nat.le_of_ble_eq_true rfl)⟩) (fun r_36 hr_36 => ?_)
                          subst hr_36
                          exact W.iret (v := (sX_turnedRound r11)) hx hb hr (fun t ht hW => ⟨⟨(sX_turnedRound r11), u11, rfl, hsp.symm, PX_fin hP hK hZ hS ht hW⟩, hS.F ht⟩) hS.2.2 dX3_look_268
                        · have hsp := hsp.trans (if_neg c_34)
                          have hok := hok.2 c_34
                          by_cases c_37 : (u1.2.1 14 p1.toNatClampNeg) = 10
                          · have hsp := hsp.trans (if_pos c_37)
                            have hok := hok.1 c_37
                            refine lv_tableIn (off := 192) (tgt := 269) hx hb dX3_look_77 (by rw [c_37]; decide) (by rw [c_37]; decide) (by rw [c_37]; rfl) (by decide) ?_
                            refine lv_aload_n hx hb dX3_look_269 rfl (lv_at hl 3 rfl) ?_
                            refine lv_iload_n hx hb dX3_look_270 rfl (lv_at hl 5 rfl) ?_
                            refine lv_iload_n hx hb dX3_look_271 rfl (lv_at hl 2 rfl) ?_
                            have h_38 := hok.1
                            have hok := hok.2
                            refine va_calli (va_runV (As := [.int p2, .int y2]) (rest := []) ⟨hx, hb, hml, hown, hts⟩ (cX_keep l D q cI cL tp hq u1 p2 y2 h_38) (cwV 2 hts gX3_look_X3_keep rfl rfl rfl (by decide +kernel) ⟨by simp [headSpec, rmL] <;> omega, by simp [headSpec, rmL] <;> omega⟩) ⟨PX_blind, va_recv hK hP (ci := 6) (q0 := 0) rfl rfl, fun U hU hW => ⟨rfl, PX_fin hP hK hZ hS hU hW⟩⟩ rfl rfl hl.1 rfl (lv_room (Nat.le_of_ble_eq_true rfl)) dX3_look_272 ⟨(Nat.le_of_ble_eq_true rfl), (Nat.le_of_ble_eq_true rfl)⟩) hS (fun q _ h => h) (fun q h => h) (fun r12 u12 t H1 locs ht hvm hu12 hB hz1 hk1 hS => ?_)
                            have hP := hB.1
                            rw [ht] at hP
                            clear hB hk1 hz1 hvm ht
                            generalize H1 = H at hP hS ⊢
                            refine W.widen (k := 0) (n := 0) (Nat.le_refl 0) (Nat.le_refl 0) ?_
                            exact W.iret (v := r12) hx hb hr (fun t ht hW => ⟨⟨r12, u12, rfl, (hu12.trans hsp.symm), PX_fin hP hK hZ hS ht hW⟩, hS.F ht⟩) hS.2.2 dX3_look_275
                          · have hsp := hsp.trans (if_neg c_37)
                            have hok := hok.2 c_37
                            by_cases c_39 : (u1.2.1 14 p1.toNatClampNeg) = 11
                            · have hsp := hsp.trans (if_pos c_39)
                              have hok := hok.1 c_39
                              refine lv_tableIn (off := 199) (tgt := 276) hx hb dX3_look_77 (by rw [c_39]; decide) (by rw [c_39]; decide) (by rw [c_39]; rfl) (by decide) ?_
                              refine lv_iload_n hx hb dX3_look_276 rfl (lv_at hl 2 rfl) ?_
                              refine vp_callSi (W.runS (As := [.int y2]) (rest := []) ⟨hx, hb, hml, hown, hts⟩ (cX_isSlot l y2) (va_cwS 1 hts gX3_look_X3_isSlot rfl rfl rfl (by decide +kernel) ⟨by simp [headSpec, rmL] <;> omega, by simp [headSpec, rmL] <;> omega⟩) ⟨T_blind, fun U hU hW => ⟨rfl, trivial⟩⟩ rfl rfl hl.1 rfl (lv_room (Nat.le_of_ble_eq_true rfl)) dX3_look_277 ⟨(Nat.le_of_ble_eq_true rfl), (Nat.le_of_ble_eq_true rfl)⟩) (fun r_40 hr_40 => ?_)
                              subst hr_40
                              refine lv_if_eq (tgt := 297) hx hb dX3_look_280 (by decide) (fun c_41 => ?_) (fun c_41 => ?_)
                              · have hsp := hsp.trans (if_pos c_41)
                                refine lv_iconst (v := 0) hx hb dX3_look_297 (by decide) ?_
                                refine vp_callSi (W.runS (As := [.int 0]) (rest := []) ⟨hx, hb, hml, hown, hts⟩ (cX_fitsIf l 0) (va_cwS 1 hts gX3_look_X3_fitsIf rfl rfl rfl (by decide +kernel) ⟨by simp [headSpec, rmL] <;> omega, by simp [headSpec, rmL] <;> omega⟩) ⟨T_blind, fun U hU hW => ⟨rfl, trivial⟩⟩ rfl rfl hl.1 rfl (lv_room (Nat.le_of_ble_eq_true rfl)) dX3_look_298 ⟨(Nat.le_of_ble_eq_true rfl), (Nat.le_of_ble_eq_true rfl)⟩) (fun r_42 hr_42 => ?_)
                                subst hr_42
                                exact W.iret (v := (sX_fitsIf 0)) hx hb hr (fun t ht hW => ⟨⟨(sX_fitsIf 0), u1, rfl, hsp.symm, PX_fin hP hK hZ hS ht hW⟩, hS.F ht⟩) hS.2.2 dX3_look_301
                              · have hsp := hsp.trans (if_neg c_41)
                                have hok := hok.2 c_41
                                refine lv_aload_n hx hb dX3_look_283 rfl (lv_at hl 3 rfl) ?_
                                refine va_get (D := D) (ci := 6) (v := .ref (q 4)) (C := RX3) (T := TX3) (N := 7) hx hb hts hiX3 hown hK hP 0 rfl rfl 3 (by decide) hf30 (fun _ h9 => h9) rfl dX3_look_284 ?_
                                refine lv_iload_n hx hb dX3_look_287 rfl (lv_at hl 2 rfl) ?_
                                have h_43 := hok.1
                                have hok := hok.2
                                refine va_iald hx hb hK hP 4 0 rfl rfl h_43 dX3_look_288 ?_
                                refine lv_iload_n hx hb dX3_look_289 rfl (lv_at hl 5 rfl) ?_
                                refine lv_icmp_ne (tgt := 297) hx hb dX3_look_290 (by decide) (fun c_44 => ?_) (fun c_44 => ?_)
                                · have hsp := hsp.trans (if_neg c_44)
                                  refine lv_iconst (v := 0) hx hb dX3_look_297 (by decide) ?_
                                  refine vp_callSi (W.runS (As := [.int 0]) (rest := []) ⟨hx, hb, hml, hown, hts⟩ (cX_fitsIf l 0) (va_cwS 1 hts gX3_look_X3_fitsIf rfl rfl rfl (by decide +kernel) ⟨by simp [headSpec, rmL] <;> omega, by simp [headSpec, rmL] <;> omega⟩) ⟨T_blind, fun U hU hW => ⟨rfl, trivial⟩⟩ rfl rfl hl.1 rfl (lv_room (Nat.le_of_ble_eq_true rfl)) dX3_look_298 ⟨(Nat.le_of_ble_eq_true rfl), (Nat.le_of_ble_eq_true rfl)⟩) (fun r_45 hr_45 => ?_)
                                  subst hr_45
                                  exact W.iret (v := (sX_fitsIf 0)) hx hb hr (fun t ht hW => ⟨⟨(sX_fitsIf 0), u1, rfl, hsp.symm, PX_fin hP hK hZ hS ht hW⟩, hS.F ht⟩) hS.2.2 dX3_look_301
                                · have hsp := hsp.trans (if_pos c_44)
                                  refine lv_iconst (v := 1) hx hb dX3_look_293 (by decide) ?_
                                  refine lv_goto (tgt := 298) hx hb dX3_look_294 (by decide) ?_
                                  refine vp_callSi (W.runS (As := [.int 1]) (rest := []) ⟨hx, hb, hml, hown, hts⟩ (cX_fitsIf l 1) (va_cwS 1 hts gX3_look_X3_fitsIf rfl rfl rfl (by decide +kernel) ⟨by simp [headSpec, rmL] <;> omega, by simp [headSpec, rmL] <;> omega⟩) ⟨T_blind, fun U hU hW => ⟨rfl, trivial⟩⟩ rfl rfl hl.1 rfl (lv_room (Nat.le_of_ble_eq_true rfl)) dX3_look_298 ⟨(Nat.le_of_ble_eq_true rfl), (Nat.le_of_ble_eq_true rfl)⟩) (fun r_46 hr_46 => ?_)
                                  subst hr_46
                                  exact W.iret (v := (sX_fitsIf 1)) hx hb hr (fun t ht hW => ⟨⟨(sX_fitsIf 1), u1, rfl, hsp.symm, PX_fin hP hK hZ hS ht hW⟩, hS.F ht⟩) hS.2.2 dX3_look_301
                            · have hsp := hsp.trans (if_neg c_39)
                              have hok := hok.2 c_39
                              by_cases c_47 : (u1.2.1 14 p1.toNatClampNeg) = 12
                              · have hsp := hsp.trans (if_pos c_47)
                                have hok := hok.1 c_47
                                refine lv_tableIn (off := 225) (tgt := 302) hx hb dX3_look_77 (by rw [c_47]; decide) (by rw [c_47]; decide) (by rw [c_47]; rfl) (by decide) ?_
                                refine lv_aload_n hx hb dX3_look_302 rfl (lv_at hl 3 rfl) ?_
                                refine lv_iload_n hx hb dX3_look_303 rfl (lv_at hl 5 rfl) ?_
                                refine lv_iload_n hx hb dX3_look_304 rfl (lv_at hl 2 rfl) ?_
                                have h_48 := hok.1
                                have hok := hok.2
                                refine vp_callSi (W.runV (As := [.int p2, .int y2]) (rest := []) ⟨hx, hb, hml, hown, hts⟩ (cX_lookAtTold l D q cI cL tp u1 p2 y2 h_48) (cwV 2 hts gX3_look_X3_lookAtTold rfl rfl rfl (by decide +kernel) ⟨by simp [headSpec, rmL] <;> omega, by simp [headSpec, rmL] <;> omega⟩) ⟨PX_blind, va_recv hK hP (ci := 6) (q0 := 0) rfl rfl, fun U hU hW => ⟨rfl, PX_fin hP hK hZ hS hU hW⟩⟩ rfl rfl hl.1 rfl (lv_room (Nat.le_of_ble_eq_true rfl)) dX3_look_305 ⟨(Nat.le_of_ble_eq_true rfl), (Nat.le_of_ble_eq_true rfl)⟩) (fun r_49 hr_49 => ?_)
                                subst hr_49
                                exact W.iret (v := (sX_lookAtTold u1 p2 y2)) hx hb hr (fun t ht hW => ⟨⟨(sX_lookAtTold u1 p2 y2), u1, rfl, hsp.symm, PX_fin hP hK hZ hS ht hW⟩, hS.F ht⟩) hS.2.2 dX3_look_308
                              · have hsp := hsp.trans (if_neg c_47)
                                have hok := hok.2 c_47
                                by_cases c_50 : (u1.2.1 14 p1.toNatClampNeg) = 13
                                · have hsp := hsp.trans (if_pos c_50)
                                  have hok := hok.1 c_50
                                  refine lv_tableIn (off := 232) (tgt := 309) hx hb dX3_look_77 (by rw [c_50]; decide) (by rw [c_50]; decide) (by rw [c_50]; rfl) (by decide) ?_
                                  refine lv_aload_n hx hb dX3_look_309 rfl (lv_at hl 3 rfl) ?_
                                  refine lv_iload_n hx hb dX3_look_310 rfl (lv_at hl 5 rfl) ?_
                                  refine lv_iload_n hx hb dX3_look_311 rfl (lv_at hl 2 rfl) ?_
                                  refine lv_iload hx hb dX3_look_312 (lv_at hl 1 rfl) ?_
                                  have h_51 := hok.1
                                  have hok := hok.2
                                  refine vp_callSi (W.runV (As := [.int p2, .int y2, .int y3]) (rest := []) ⟨hx, hb, hml, hown, hts⟩ (cX_lookAtLength l D q cI cL tp u1 p2 y2 y3 h_51) (cwV 3 hts gX3_look_X3_lookAtLength rfl rfl rfl (by decide +kernel) ⟨by simp [headSpec, rmL] <;> omega, by simp [headSpec, rmL] <;> omega⟩) ⟨PX_blind, va_recv hK hP (ci := 6) (q0 := 0) rfl rfl, fun U hU hW => ⟨rfl, PX_fin hP hK hZ hS hU hW⟩⟩ rfl rfl hl.1 rfl (lv_room (Nat.le_of_ble_eq_true rfl)) dX3_look_314 ⟨(Nat.le_of_ble_eq_true rfl), (Nat.le_of_ble_eq_true rfl)⟩) (fun r_52 hr_52 => ?_)
                                  subst hr_52
                                  exact W.iret (v := (sX_lookAtLength u1 p2 y2 y3)) hx hb hr (fun t ht hW => ⟨⟨(sX_lookAtLength u1 p2 y2 y3), u1, rfl, hsp.symm, PX_fin hP hK hZ hS ht hW⟩, hS.F ht⟩) hS.2.2 dX3_look_317
                                · have hsp := hsp.trans (if_neg c_50)
                                  have hok := hok.2 c_50
                                  refine lv_tableOut (tgt := 318) hx hb dX3_look_77 (by have e0 := lv_neT (a := 0) c_8 (by decide); have e1 := lv_neT (a := 1) c_12 (by decide); have e2 := lv_neT (a := 2) c_17 (by decide); have e3 := lv_neT (a := 3) c_21 (by decide); have e4 := lv_neT (a := 4) c_23 (by decide); have e5 := lv_neT (a := 5) c_25 (by decide); have e6 := lv_neT (a := 6) c_27 (by decide); have e7 := lv_neT (a := 7) c_30 (by decide); have e8 := lv_neT (a := 8) c_32 (by decide); have e9 := lv_neT (a := 9) c_34 (by decide); have e10 := lv_neT (a := 10) c_37 (by decide); have e11 := lv_neT (a := 11) c_39 (by decide); have e12 := lv_neT (a := 12) c_47 (by decide); have e13 := lv_neT (a := 13) c_50 (by decide); omega) (by decide) ?_
                                  refine lv_iconst (v := 0) hx hb dX3_look_318 (by decide) ?_
                                  exact W.iret (v := 0) hx hb hr (fun t ht hW => ⟨⟨0, u1, rfl, hsp.symm, PX_fin hP hK hZ hS ht hW⟩, hS.F ht⟩) hS.2.2 dX3_look_319
    · have hsp := hsp.trans (if_pos c_3)
      refine lv_iconst (v := 0) hx hb dX3_look_34 (by decide) ?_
      exact W.iret (v := 0) hx hb hr (fun t ht hW => ⟨⟨0, u1, rfl, hsp.symm, PX_fin hP hK hZ hS ht hW⟩, hS.F ht⟩) hS.2.2 dX3_look_35
  · have hsp := hsp.trans (if_neg c_1)
    refine lv_bipush (v := (-26)) hx hb dX3_look_10 (by decide) ?_
    exact W.iret (v := (-26)) hx hb hr (fun t ht hW => ⟨⟨(-26), u, rfl, hsp.symm, PX_fin hP hK hZ hS ht hW⟩, hS.F ht⟩) hS.2.2 dX3_look_12
theorem cX_look_all (l : Launch) (D : va_G) (q : Nat → Nat) (cI cL : ClassId) (tp : Nat) (hq : DQ 24 q) : ∀ (d : Nat) (u : St) (p it : Int32), oklookX d u p it → Met l yX3_look wsX3_look (rmL d) (va_Pc [.ref (q 0), .int p, .int it] (fun U => PX D q cI cL tp u U)) (va_Qi (fun (r : Int32) (u' : St) => (r, u') = lookX d u p it) (fun u' t => PX D q cI cL tp u' t) (AQ 24 q)) 0 0 (AQ 24 q) := by
  intro d
  induction d with
  | zero => intro u p it h; exact False.elim h
  | succ d ih => intro u p it h; exact cX_look l D q cI cL tp hq (lookX d) (oklookX d) d ih u p it h
set_option maxHeartbeats 4000000 in
set_option maxRecDepth 100000 in
theorem cX_matched (l : Launch) (D : va_G) (q : Nat → Nat) (cI cL : ClassId) (tp : Nat) (hq : DQ 24 q) (u : St) (p1 : Int32) (p2 : Int32) (hok : okX_matched u p1 p2) : Met l yX3_matched wsX3_matched { frames := 95, cells := 0, slots := 0, locals := 2885 } (va_Pc [.ref (q 0), .int p1, .int p2] (fun U => PX D q cI cL tp u U)) (va_Qi (fun (r : Int32) (u' : St) => (r, u') = sX_matched u p1 p2) (fun u' t => PX D q cI cL tp u' t) (AQ 24 q)) 0 0 (AQ 24 q) := by
  refine Met.ofW (cc := cX3_matched) (maxL := 5) (ret := (some .int)) (by decide) rfl ?_
  intro p e s m args below meth c s₁ B hml hv
  obtain ⟨rfl, hP, hK, hZ⟩ := hv
  have hx := B.exec
  have hb := B.bytes
  have hr := B.returns
  have hts := atoms_spec (ws := wsX3_matched) B.pre
  have hown : s.vm.findClass RX3 = some m.cls := findClass_of_methodNamed B.named
  have hlocks := B.notSynchronized
  have hiX3 : ∀ w ∈ u_ws RX3 TX3 7, w ∈ wsX3_matched := by decide +kernel
  have hf30 := hts (.fieldLink RX3 30 "ThingRules" "slots" "[I") (by decide +kernel)
  have hf34 := hts (.fieldLink RX3 34 "ThingRules" "slotsBefore" "[I") (by decide +kernel)
  have hf155 := hts (.fieldLink RX3 155 "ThingRules" "steps" "I") (by decide +kernel)
  have hS : va_S (AQ 24 q) s.heap s.heap [] := va_S.rf
  have hP : va_P D vwCl (wX q cI cL u) s.heap := hP
  have hl := lv_entry ([.ref (q 0), .int p1, .int p2]) (n := 5) (Nat.le_of_ble_eq_true rfl)
  rw [lg_entry_eq]
  generalize (lg_sl ([.ref (q 0), .int p1, .int p2]) ++ List.replicate (5 - (lg_sl ([.ref (q 0), .int p1, .int p2])).length) Slot.unset).toArray = ls at hl ⊢
  have hl : lv_has ls 5 [(0, .ref (q 0)), (1, .int p1), (2, .int p2)] := hl
  have loop_49 : ∀ (n : Nat) (u' : St) (x3 : Int32) (x4 : Int32) (H : Heap) (locs : List Loc) (ls : Array Slot), oklX_matched_49 n u' p1 p2 x3 x4 → sX_matched u p1 p2 = lX_matched_49 n u' p1 p2 x3 x4 → va_P D vwCl (wX q cI cL u') H → va_S (AQ 24 q) s.heap H locs → lv_has ls 5 [(0, .ref (q 0)), (1, .int p1), (2, .int p2), (3, .int x3), (4, .int x4)] → W p l e (headSpec wsX3_matched { frames := 95, cells := 0, slots := 0, locals := 2885 }).room s m ([.ref (q 0), .int p1, .int p2] : List Value).toArray below meth c H locs 0 0 (MQ below (va_Qi (fun (r : Int32) (u' : St) => (r, u') = sX_matched u p1 p2) (fun u' t => PX D q cI cL tp u' t) (AQ 24 q)) ([.ref (q 0), .int p1, .int p2] : List Value).toArray s 0 0 (AQ 24 q)) (F0 m 49 ls []) := by
    intro n
    induction n with
    | zero => intro u' x3 x4 H locs ls hok; exact False.elim hok
    | succ n ih =>
      intro u' x3 x4 H locs ls hok hsp hP hS hl
      replace hsp := hsp.trans (lX_matched_49_s n u' p1 p2 x3 x4)
      replace hok := (oklX_matched_49_s n u' p1 p2 x3 x4).mp hok
      refine lv_iload hx hb dX3_matched_49 (lv_at hl 4 rfl) ?_
      refine lv_iconst (v := 4) hx hb dX3_matched_51 (by decide) ?_
      refine lv_icmp_ge (tgt := 75) hx hb dX3_matched_52 (by decide) (fun c_1 => ?_) (fun c_1 => ?_)
      · have hsp := hsp.trans (if_pos c_1)
        refine lv_iload_n hx hb dX3_matched_75 rfl (lv_at hl 3 rfl) ?_
        exact W.iret (v := x3) hx hb hr (fun t ht hW => ⟨⟨x3, u', rfl, hsp.symm, PX_fin hP hK hZ hS ht hW⟩, hS.F ht⟩) hS.2.2 dX3_matched_76
      · have hsp := hsp.trans (if_neg c_1)
        have hok := hok.2 c_1
        refine lv_aload_n hx hb dX3_matched_55 rfl (lv_at hl 0 rfl) ?_
        refine va_get (D := D) (ci := 6) (v := .ref (q 4)) (C := RX3) (T := TX3) (N := 7) hx hb hts hiX3 hown hK hP 0 rfl rfl 3 (by decide) hf30 (fun _ h9 => h9) rfl dX3_matched_56 ?_
        refine lv_iload hx hb dX3_matched_59 (lv_at hl 4 rfl) ?_
        refine lv_aload_n hx hb dX3_matched_61 rfl (lv_at hl 0 rfl) ?_
        refine va_get (D := D) (ci := 6) (v := .ref (q 5)) (C := RX3) (T := TX3) (N := 7) hx hb hts hiX3 hown hK hP 0 rfl rfl 4 (by decide) hf34 (fun _ h9 => h9) rfl dX3_matched_62 ?_
        refine lv_iload hx hb dX3_matched_65 (lv_at hl 4 rfl) ?_
        have h_2 := hok.1
        have hok := hok.2
        refine va_iald hx hb hK hP 5 0 rfl rfl h_2 dX3_matched_67 ?_
        have h_3 := hok.1
        have hok := hok.2
        refine va_iast hx hb hK hP (dX hq) hS 4 0 rfl rfl h_3 dX3_matched_68 (fun H locs hP _ hS => ?_)
        obtain ⟨u4, hu4⟩ : ∃ z : St, z = (stA u' 4 x4.toNatClampNeg (u'.2.1 5 x4.toNatClampNeg)) := ⟨_, rfl⟩
        have hP : va_P D vwCl (wX q cI cL u4) H := by rw [hu4]; exact hP
        have hsp := hsp.trans (bnd_eq hu4)
        have hok := bnd_ok hu4 hok
        refine lv_iinc (v := (x4 + 1)) (lv' := [(4, .int (x4 + 1)), (0, .ref (q 0)), (1, .int p1), (2, .int p2), (3, .int x3)]) hx hb dX3_matched_69 hl (k := 4) rfl rfl (by decide) rfl (fun ls hl => ?_)
        refine lv_goto (tgt := 49) hx hb dX3_matched_72 (by decide) ?_
        exact ih u4 x3 (x4 + 1) _ _ _ hok hsp hP hS (lv_sub hl [1, 2, 3, 4, 0] rfl)
  have loop_7 : ∀ (n : Nat) (u' : St) (x3 : Int32) (H : Heap) (locs : List Loc) (ls : Array Slot), oklX_matched_7 n u' p1 p2 x3 → sX_matched u p1 p2 = lX_matched_7 n u' p1 p2 x3 → va_P D vwCl (wX q cI cL u') H → va_S (AQ 24 q) s.heap H locs → lv_has ls 5 [(0, .ref (q 0)), (1, .int p1), (2, .int p2), (3, .int x3)] → W p l e (headSpec wsX3_matched { frames := 95, cells := 0, slots := 0, locals := 2885 }).room s m ([.ref (q 0), .int p1, .int p2] : List Value).toArray below meth c H locs 0 0 (MQ below (va_Qi (fun (r : Int32) (u' : St) => (r, u') = sX_matched u p1 p2) (fun u' t => PX D q cI cL tp u' t) (AQ 24 q)) ([.ref (q 0), .int p1, .int p2] : List Value).toArray s 0 0 (AQ 24 q)) (F0 m 7 ls []) := by
    intro n
    induction n with
    | zero => intro u' x3 H locs ls hok; exact False.elim hok
    | succ n ih =>
      intro u' x3 H locs ls hok hsp hP hS hl
      replace hsp := hsp.trans (lX_matched_7_s n u' p1 p2 x3)
      replace hok := (oklX_matched_7_s n u' p1 p2 x3).mp hok
      refine lv_iload_n hx hb dX3_matched_7 rfl (lv_at hl 3 rfl) ?_
      refine lv_iconst (v := 4) hx hb dX3_matched_8 (by decide) ?_
      refine lv_icmp_ge (tgt := 30) hx hb dX3_matched_9 (by decide) (fun c_4 => ?_) (fun c_4 => ?_)
      · have hsp := hsp.trans (if_pos c_4)
        have hok := hok.1 c_4
        refine lv_aload_n hx hb dX3_matched_30 rfl (lv_at hl 0 rfl) ?_
        refine lv_aload_n hx hb dX3_matched_31 rfl (lv_at hl 0 rfl) ?_
        refine lv_iload_n hx hb dX3_matched_32 rfl (lv_at hl 1 rfl) ?_
        refine lv_iload_n hx hb dX3_matched_33 rfl (lv_at hl 2 rfl) ?_
        have h_5 := hok.1
        have hok := hok.2
        refine va_calli (va_runV (As := [.int p1, .int p2]) (rest := [.ref (q 0)]) ⟨hx, hb, hml, hown, hts⟩ (cX_look_all l D q cI cL tp hq 41 u' p1 p2 h_5) (cwV 2 hts gX3_matched_X3_look rfl rfl rfl (by decide +kernel) ⟨(Nat.le_of_ble_eq_true rfl), (Nat.le_of_ble_eq_true rfl)⟩) ⟨PX_blind, va_recv hK hP (ci := 6) (q0 := 0) rfl rfl, fun U hU hW => ⟨rfl, PX_fin hP hK hZ hS hU hW⟩⟩ rfl rfl hl.1 rfl (lv_room (Nat.le_of_ble_eq_true rfl)) dX3_matched_34 ⟨(Nat.le_of_ble_eq_true rfl), (Nat.le_of_ble_eq_true rfl)⟩) hS (fun q _ h => h) (fun q h => h) (fun r2 u2 t H1 locs ht hvm hu2 hB hz1 hk1 hS => ?_)
        have hP := hB.1
        rw [ht] at hP
        clear hB hk1 hz1 hvm ht
        generalize H1 = H at hP hS ⊢
        refine W.widen (k := 0) (n := 0) (Nat.le_refl 0) (Nat.le_refl 0) ?_
        have hsp := hsp.trans (bnd2_eq hu2)
        have hok := bnd2_ok hu2 hok
        have h_6 := hok.1
        have hok := hok.2
        refine va_calli (va_runV (As := [.int r2]) (rest := []) ⟨hx, hb, hml, hown, hts⟩ (cX_counted l D q cI cL tp hq u2 r2 h_6) (cwV 1 hts gX3_matched_X3_counted rfl rfl rfl (by decide +kernel) ⟨(Nat.le_of_ble_eq_true rfl), (Nat.le_of_ble_eq_true rfl)⟩) ⟨PX_blind, va_recv hK hP (ci := 6) (q0 := 0) rfl rfl, fun U hU hW => ⟨rfl, PX_fin hP hK hZ hS hU hW⟩⟩ rfl rfl hl.1 rfl (lv_room (Nat.le_of_ble_eq_true rfl)) dX3_matched_37 ⟨(Nat.le_of_ble_eq_true rfl), (Nat.le_of_ble_eq_true rfl)⟩) hS (fun q _ h => h) (fun q h => h) (fun r3 u3 t H1 locs ht hvm hu3 hB hz1 hk1 hS => ?_)
        have hP := hB.1
        rw [ht] at hP
        clear hB hk1 hz1 hvm ht
        generalize H1 = H at hP hS ⊢
        refine W.widen (k := 0) (n := 0) (Nat.le_refl 0) (Nat.le_refl 0) ?_
        have hsp := hsp.trans (bnd2_eq hu3)
        have hok := bnd2_ok hu3 hok
        refine lv_istore_n (lv' := [(3, .int r3), (0, .ref (q 0)), (1, .int p1), (2, .int p2)]) hx hb dX3_matched_40 rfl hl (by decide) rfl (fun ls hl => ?_)
        refine lv_iload_n hx hb dX3_matched_41 rfl (lv_at hl 0 rfl) ?_
        refine lv_iconst (v := 1) hx hb dX3_matched_42 (by decide) ?_
        refine lv_icmp_eq (tgt := 75) hx hb dX3_matched_43 (by decide) (fun c_7 => ?_) (fun c_7 => ?_)
        · have hsp := hsp.trans (if_pos c_7)
          refine lv_iload_n hx hb dX3_matched_75 rfl (lv_at hl 0 rfl) ?_
          exact W.iret (v := r3) hx hb hr (fun t ht hW => ⟨⟨r3, u3, rfl, hsp.symm, PX_fin hP hK hZ hS ht hW⟩, hS.F ht⟩) hS.2.2 dX3_matched_76
        · have hsp := hsp.trans (if_neg c_7)
          have hok := hok.2 c_7
          refine lv_iconst (v := 0) hx hb dX3_matched_46 (by decide) ?_
          refine lv_istore (lv' := [(4, .int 0), (3, .int r3), (0, .ref (q 0)), (1, .int p1), (2, .int p2)]) hx hb dX3_matched_47 hl (by decide) rfl (fun ls hl => ?_)
          exact loop_49 100 u3 r3 0 _ _ _ hok hsp hP hS (lv_sub hl [2, 3, 4, 1, 0] rfl)
      · have hsp := hsp.trans (if_neg c_4)
        have hok := hok.2 c_4
        refine lv_aload_n hx hb dX3_matched_12 rfl (lv_at hl 0 rfl) ?_
        refine va_get (D := D) (ci := 6) (v := .ref (q 5)) (C := RX3) (T := TX3) (N := 7) hx hb hts hiX3 hown hK hP 0 rfl rfl 4 (by decide) hf34 (fun _ h9 => h9) rfl dX3_matched_13 ?_
        refine lv_iload_n hx hb dX3_matched_16 rfl (lv_at hl 3 rfl) ?_
        refine lv_aload_n hx hb dX3_matched_17 rfl (lv_at hl 0 rfl) ?_
        refine va_get (D := D) (ci := 6) (v := .ref (q 4)) (C := RX3) (T := TX3) (N := 7) hx hb hts hiX3 hown hK hP 0 rfl rfl 3 (by decide) hf30 (fun _ h9 => h9) rfl dX3_matched_18 ?_
        refine lv_iload_n hx hb dX3_matched_21 rfl (lv_at hl 3 rfl) ?_
        have h_8 := hok.1
        have hok := hok.2
        refine va_iald hx hb hK hP 4 0 rfl rfl h_8 dX3_matched_22 ?_
        have h_9 := hok.1
        have hok := hok.2
        refine va_iast hx hb hK hP (dX hq) hS 5 0 rfl rfl h_9 dX3_matched_23 (fun H locs hP _ hS => ?_)
        obtain ⟨u5, hu5⟩ : ∃ z : St, z = (stA u' 5 x3.toNatClampNeg (u'.2.1 4 x3.toNatClampNeg)) := ⟨_, rfl⟩
        have hP : va_P D vwCl (wX q cI cL u5) H := by rw [hu5]; exact hP
        have hsp := hsp.trans (bnd_eq hu5)
        have hok := bnd_ok hu5 hok
        refine lv_iinc (v := (x3 + 1)) (lv' := [(3, .int (x3 + 1)), (0, .ref (q 0)), (1, .int p1), (2, .int p2)]) hx hb dX3_matched_24 hl (k := 3) rfl rfl (by decide) rfl (fun ls hl => ?_)
        refine lv_goto (tgt := 7) hx hb dX3_matched_27 (by decide) ?_
        exact ih u5 (x3 + 1) _ _ _ hok hsp hP hS (lv_sub hl [1, 2, 3, 0] rfl)
  have hsp : sX_matched u p1 p2 = _ := sX_matched.eq_1 u p1 p2
  unfold okX_matched at hok
  refine lv_aload_n hx hb dX3_matched_0 rfl (lv_at hl 0 rfl) ?_
  refine lv_iconst (v := 0) hx hb dX3_matched_1 (by decide) ?_
  refine va_put (D := D) (ci := 6) (v := .int 0) (ty := .int) (C := RX3) (T := TX3) (N := 7) hx hb hts hiX3 tyX3 tyX3_ok nmX3 hown hK hP (dX hq) hS 0 rfl rfl 6 (by decide) hf155 (fun _ h9 => h9) rfl (by decide +kernel) rfl rfl (Nat.le_of_ble_eq_true rfl) dX3_matched_2 (fun H locs hP _ hS => ?_)
  obtain ⟨u1, hu1⟩ : ∃ z : St, z = (stI u 0 0) := ⟨_, rfl⟩
  have hP : va_P D vwCl (wX q cI cL u1) H := by rw [hu1]; exact hP
  have hsp := hsp.trans (bnd_eq hu1)
  have hok := bnd_ok hu1 hok
  refine lv_iconst (v := 0) hx hb dX3_matched_5 (by decide) ?_
  refine lv_istore_n (lv' := [(3, .int 0), (0, .ref (q 0)), (1, .int p1), (2, .int p2)]) hx hb dX3_matched_6 rfl hl (by decide) rfl (fun ls hl => ?_)
  exact loop_7 100 u1 0 _ _ _ hok hsp hP hS (lv_sub hl [1, 2, 3, 0] rfl)
set_option maxHeartbeats 4000000 in
set_option maxRecDepth 100000 in
theorem cX_match (l : Launch) (D : va_G) (q : Nat → Nat) (cI cL : ClassId) (tp : Nat) (hq : DQ 24 q) (u : St) (p1 : Int32) (p2 : Int32) (hok : okX_match u p1 p2) : Met l yX3_match wsX3_match { frames := 96, cells := 0, slots := 0, locals := 2909 } (va_Pc [.ref (q 0), .int p1, .int p2] (fun U => PX D q cI cL tp u U)) (va_Qi (fun (r : Int32) (u' : St) => (r, u') = sX_match u p1 p2) (fun u' t => PX D q cI cL tp u' t) (AQ 24 q)) 0 0 (AQ 24 q) := by
  refine Met.ofW (cc := cX3_match) (maxL := 3) (ret := (some .int)) (by decide) rfl ?_
  intro p e s m args below meth c s₁ B hml hv
  obtain ⟨rfl, hP, hK, hZ⟩ := hv
  have hx := B.exec
  have hb := B.bytes
  have hr := B.returns
  have hts := atoms_spec (ws := wsX3_match) B.pre
  have hown : s.vm.findClass RX3 = some m.cls := findClass_of_methodNamed B.named
  have hlocks := B.notSynchronized
  have hiX3 : ∀ w ∈ u_ws RX3 TX3 7, w ∈ wsX3_match := by decide +kernel
  have hf19 := hts (.fieldLink RX3 19 "ThingRules" "patterns" "LThingRules$Patterns;") (by decide +kernel)
  have hf10 := hts (.fieldLink RX3 10 "ThingRules" "things" "LThingRules$Things;") (by decide +kernel)
  have hS : va_S (AQ 24 q) s.heap s.heap [] := va_S.rf
  have hP : va_P D vwCl (wX q cI cL u) s.heap := hP
  have hl := lv_entry ([.ref (q 0), .int p1, .int p2]) (n := 3) (Nat.le_of_ble_eq_true rfl)
  rw [lg_entry_eq]
  generalize (lg_sl ([.ref (q 0), .int p1, .int p2]) ++ List.replicate (3 - (lg_sl ([.ref (q 0), .int p1, .int p2])).length) Slot.unset).toArray = ls at hl ⊢
  have hl : lv_has ls 3 [(0, .ref (q 0)), (1, .int p1), (2, .int p2)] := hl
  have hsp : sX_match u p1 p2 = _ := sX_match.eq_1 u p1 p2
  unfold okX_match at hok
  refine lv_aload_n hx hb dX3_match_0 rfl (lv_at hl 0 rfl) ?_
  refine va_get (D := D) (ci := 6) (v := .ref (q 2)) (C := RX3) (T := TX3) (N := 7) hx hb hts hiX3 hown hK hP 0 rfl rfl 1 (by decide) hf19 (fun _ h9 => h9) rfl dX3_match_1 ?_
  refine lv_iload_n hx hb dX3_match_4 rfl (lv_at hl 1 rfl) ?_
  refine vp_callSi (W.runV (As := [.int p1]) (rest := []) ⟨hx, hb, hml, hown, hts⟩ (cXP_know l D q cI cL tp u p1) (cwV 1 hts gX3_match_X0_know rfl rfl rfl (by decide +kernel) ⟨(Nat.le_of_ble_eq_true rfl), (Nat.le_of_ble_eq_true rfl)⟩) ⟨PX_blind, va_recv hK hP (ci := 3) (q0 := 2) rfl rfl, fun U hU hW => ⟨rfl, PX_fin hP hK hZ hS hU hW⟩⟩ rfl rfl hl.1 rfl (lv_room (Nat.le_of_ble_eq_true rfl)) dX3_match_5 ⟨(Nat.le_of_ble_eq_true rfl), (Nat.le_of_ble_eq_true rfl)⟩) (fun r_1 hr_1 => ?_)
  subst hr_1
  refine lv_if_eq (tgt := 22) hx hb dX3_match_8 (by decide) (fun c_2 => ?_) (fun c_2 => ?_)
  · have hsp := hsp.trans (if_pos c_2)
    refine lv_iconst (v := (-1)) hx hb dX3_match_22 (by decide) ?_
    exact W.iret (v := (-1)) hx hb hr (fun t ht hW => ⟨⟨(-1), u, rfl, hsp.symm, PX_fin hP hK hZ hS ht hW⟩, hS.F ht⟩) hS.2.2 dX3_match_23
  · have hsp := hsp.trans (if_neg c_2)
    have hok := hok.2 c_2
    refine lv_aload_n hx hb dX3_match_11 rfl (lv_at hl 0 rfl) ?_
    refine va_get (D := D) (ci := 6) (v := .ref (q 1)) (C := RX3) (T := TX3) (N := 7) hx hb hts hiX3 hown hK hP 0 rfl rfl 0 (by decide) hf10 (fun _ h9 => h9) rfl dX3_match_12 ?_
    refine lv_iload_n hx hb dX3_match_15 rfl (lv_at hl 2 rfl) ?_
    refine vp_callSi (W.runV (As := [.int p2]) (rest := []) ⟨hx, hb, hml, hown, hts⟩ (cXT_knowOrNone l D q cI cL tp u p2) (cwV 1 hts gX3_match_X2_knowOrNone rfl rfl rfl (by decide +kernel) ⟨(Nat.le_of_ble_eq_true rfl), (Nat.le_of_ble_eq_true rfl)⟩) ⟨PX_blind, va_recv hK hP (ci := 5) (q0 := 1) rfl rfl, fun U hU hW => ⟨rfl, PX_fin hP hK hZ hS hU hW⟩⟩ rfl rfl hl.1 rfl (lv_room (Nat.le_of_ble_eq_true rfl)) dX3_match_16 ⟨(Nat.le_of_ble_eq_true rfl), (Nat.le_of_ble_eq_true rfl)⟩) (fun r_3 hr_3 => ?_)
    subst hr_3
    refine lv_if_ne (tgt := 24) hx hb dX3_match_19 (by decide) (fun c_4 => ?_) (fun c_4 => ?_)
    · have hsp := hsp.trans (if_neg c_4)
      have hok := hok.2 c_4
      refine lv_aload_n hx hb dX3_match_24 rfl (lv_at hl 0 rfl) ?_
      refine lv_iload_n hx hb dX3_match_25 rfl (lv_at hl 1 rfl) ?_
      refine lv_iload_n hx hb dX3_match_26 rfl (lv_at hl 2 rfl) ?_
      have h_5 := hok.1
      have hok := hok.2
      refine va_calli (va_runV (As := [.int p1, .int p2]) (rest := []) ⟨hx, hb, hml, hown, hts⟩ (cX_matched l D q cI cL tp hq u p1 p2 h_5) (cwV 2 hts gX3_match_X3_matched rfl rfl rfl (by decide +kernel) ⟨(Nat.le_of_ble_eq_true rfl), (Nat.le_of_ble_eq_true rfl)⟩) ⟨PX_blind, va_recv hK hP (ci := 6) (q0 := 0) rfl rfl, fun U hU hW => ⟨rfl, PX_fin hP hK hZ hS hU hW⟩⟩ rfl rfl hl.1 rfl (lv_room (Nat.le_of_ble_eq_true rfl)) dX3_match_27 ⟨(Nat.le_of_ble_eq_true rfl), (Nat.le_of_ble_eq_true rfl)⟩) hS (fun q _ h => h) (fun q h => h) (fun r1 u1 t H1 locs ht hvm hu1 hB hz1 hk1 hS => ?_)
      have hP := hB.1
      rw [ht] at hP
      clear hB hk1 hz1 hvm ht
      generalize H1 = H at hP hS ⊢
      refine W.widen (k := 0) (n := 0) (Nat.le_refl 0) (Nat.le_refl 0) ?_
      exact W.iret (v := r1) hx hb hr (fun t ht hW => ⟨⟨r1, u1, rfl, (hu1.trans hsp.symm), PX_fin hP hK hZ hS ht hW⟩, hS.F ht⟩) hS.2.2 dX3_match_30
    · have hsp := hsp.trans (if_pos c_4)
      refine lv_iconst (v := (-1)) hx hb dX3_match_22 (by decide) ?_
      exact W.iret (v := (-1)) hx hb hr (fun t ht hW => ⟨⟨(-1), u, rfl, hsp.symm, PX_fin hP hK hZ hS ht hW⟩, hS.F ht⟩) hS.2.2 dX3_match_23
