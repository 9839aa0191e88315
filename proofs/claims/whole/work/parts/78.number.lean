-- number() of the class: it answers, or throws one of two
def nmC : String := "java/lang/ClassCastException"
def nmA : String := "java/lang/ArrayIndexOutOfBoundsException"
abbrev chC : List String := ["java/lang/RuntimeException", "java/lang/Exception"]
abbrev chA : List String := ["java/lang/IndexOutOfBoundsException", "java/lang/RuntimeException", "java/lang/Exception"]
def atC : List Cond := vx_at0 RX3 91 nmC chC
def atA : List Cond := vx_at0 RX3 94 nmA chA
def wsN : List Cond := wsX3_number ++ (atC.filter goodWord ++ atA.filter goodWord)
abbrev bdN : List Cond := [.castable nmC nmC, .castable nmA nmA, .declares (Bundle.init0 "java/lang/RuntimeException"), .declares (Bundle.init0 "java/lang/Exception"), .declares (Bundle.init0 "java/lang/Throwable"), .declares (Bundle.init0 "java/lang/IndexOutOfBoundsException")]
def NT (U : State) : Prop := va_Nw (.castable nmC nmC) U ∧ va_Nw (.castable nmA nmA) U ∧ va_Nw (.declares (Bundle.init0 "java/lang/RuntimeException")) U ∧ va_Nw (.declares (Bundle.init0 "java/lang/Exception")) U ∧ va_Nw (.declares (Bundle.init0 "java/lang/Throwable")) U ∧ va_Nw (.declares (Bundle.init0 "java/lang/IndexOutOfBoundsException")) U
theorem NT.same {u U : State} (hv : u.vm = U.vm) (h : NT u) : NT U := ⟨va_Nw.same rfl hv h.1, va_Nw.same rfl hv h.2.1, va_Nw.same rfl hv h.2.2.1, va_Nw.same rfl hv h.2.2.2.1, va_Nw.same rfl hv h.2.2.2.2.1, va_Nw.same rfl hv h.2.2.2.2.2⟩
theorem NT.warm {s U : State} (hW : s.WarmedH U.vm) (h : NT s) : NT U := ⟨va_Nw.warmC hW h.1, va_Nw.warmC hW h.2.1, va_Nw.warmD hW h.2.2.1, va_Nw.warmD hW h.2.2.2.1, va_Nw.warmD hW h.2.2.2.2.1, va_Nw.warmD hW h.2.2.2.2.2⟩
theorem NT.words {s : State} {args : Array Value} (h : NT s) : ∀ w ∈ bdN, w.before args s = true := vx_c (va_Nw.use rfl h.1) (vx_c (va_Nw.use rfl h.2.1) (vx_c (va_Nw.use rfl h.2.2.1) (vx_c (va_Nw.use rfl h.2.2.2.1) (vx_c (va_Nw.use rfl h.2.2.2.2.1) (vx_c (va_Nw.use rfl h.2.2.2.2.2) vx_n)))))
def ZT (A : Nat → Prop) (U : State) (H : Heap) : Prop := vx_Zq Bundle.tN "UNASSIGNED_STACK" Bundle.steD A U H ∧ vx_Zq Bundle.tN "SUPPRESSED_SENTINEL" Bundle.listD A U H
theorem ZT.moved {A : Nat → Prop} {u U : State} {H : Heap} (hvm : u.vm.Alike U.vm) (h : ZT A u H) : ZT A U H := ⟨h.1.moved hvm, h.2.moved hvm⟩
theorem ZT.kept {A : Nat → Prop} {U : State} {H H1 : Heap} (h : ZT A U H) (hq : ∀ a : Nat, a < H.size → ¬ A a → H1[a]? = H[a]?) : ZT A U H1 := ⟨h.1.kept hq, h.2.kept hq⟩
theorem ZT.narrow {A B : Nat → Prop} {U : State} {H : Heap} (h : ZT A U H) (hAB : ∀ q, B q → A q) : ZT B U H := ⟨h.1.narrow hAB, h.2.narrow hAB⟩
theorem bad_C : ∀ w ∈ atC.filter (fun w => !goodWord w), w ∈ bdN := by decide +kernel
theorem bad_A : ∀ w ∈ atA.filter (fun w => !goodWord w), w ∈ bdN := by decide +kernel
theorem ot_C : ∀ w ∈ Cond.classLink RX3 89 nmC :: Cond.initialized nmC :: vx_at0 RX3 91 nmC chC, vx_ot w = true := by decide +kernel
theorem ot_A : ∀ w ∈ Cond.classLink RX3 92 nmA :: Cond.initialized nmA :: vx_at0 RX3 94 nmA chA, vx_ot w = true := by decide +kernel
def nX (u : St) (p1 p2 p3 : Int32) : Int32 × Int64 := if sXT_know u p1 = 0 then (0, 0) else if sX_isNumbersKind p2 = 0 then (0, 0) else if sXT_reach u p1 p2 p3 = -21 then (1, 0) else if sXT_reach u p1 p2 p3 = -23 then (2, 0) else (0, sXT_numberIn u p1 p3)
def okN (u : St) (p1 p2 p3 : Int32) : Prop := ¬ sXT_know u p1 = 0 → okXT_reach u p1 p2 p3 ∧ okXT_numberIn u p1 p3
def PN (D : va_G) (q : Nat → Nat) (cI cL : ClassId) (tp : Nat) (u : St) (U : State) : Prop := PX D q cI cL tp u U ∧ NT U ∧ ZT (AQ 24 q) U U.heap
def QN (u : St) (p1 p2 p3 : Int32) : Array Value → State → Outcome → State → Prop := va_Ql (fun (r : Int64) (_ : Unit) => nX u p1 p2 p3 = (0, r)) (fun _ _ => True) (fun _ => False)
def XN (u : St) (p1 p2 p3 : Int32) : String → State → State → Prop := vx_X (fun _ : Unit => True) (fun E _ _ => (E = nmC ∧ nX u p1 p2 p3 = (1, 0)) ∨ (E = nmA ∧ nX u p1 p2 p3 = (2, 0))) (fun _ => False)
set_option maxHeartbeats 4000000 in
set_option maxRecDepth 100000 in
theorem cX_number (l : Launch) (hst : l.stackTraces = false) (D : va_G) (q : Nat → Nat) (cI cL : ClassId) (tp : Nat) (u : St) (p1 p2 p3 : Int32) (hok : okN u p1 p2 p3) : vx_Met l yX3_number wsN { frames := 8, cells := 1, slots := 6, locals := 120 } (va_Pc [.ref (q 0), .int p1, .int p2, .int p3] (fun U => PN D q cI cL tp u U)) (QN u p1 p2 p3) (XN u p1 p2 p3) 1 6 (fun _ => False) := by
  refine vx_ofW (cc := cX3_number) (maxL := 5) (ret := (some .long)) (ws' := (wsX3_number ++ (atC.filter goodWord ++ atA.filter goodWord)).tail) (by decide) rfl ?_
  intro p e s m args below meth c s₁ B hml htab hv
  obtain ⟨rfl, ⟨hP, hK, hZ⟩, hNT, hZT⟩ := hv
  have hx := B.exec
  have hb := B.bytes
  have hr := B.returns
  have htsN := atoms_spec (ws := wsN) B.pre
  have hts : ∀ w ∈ wsX3_number, w.before #[Value.ref (q 0), .int p1, .int p2, .int p3] s = true := fun w h => htsN w (List.mem_append_left _ h)
  have hatC : ∀ w ∈ vx_at0 RX3 91 nmC chC, w.before #[Value.ref (q 0), .int p1, .int p2, .int p3] s = true := vx_hat (L := atC) (B := bdN) (fun w h => htsN w (List.mem_append_right _ (List.mem_append_left _ h))) bad_C hNT.words
  have hatA : ∀ w ∈ vx_at0 RX3 94 nmA chA, w.before #[Value.ref (q 0), .int p1, .int p2, .int p3] s = true := vx_hat (L := atA) (B := bdN) (fun w h => htsN w (List.mem_append_right _ (List.mem_append_right _ h))) bad_A hNT.words
  have hown : s.vm.findClass RX3 = some m.cls := findClass_of_methodNamed B.named
  have hlocks := B.notSynchronized
  have hiX3 : ∀ w ∈ u_ws RX3 TX3 7, w ∈ wsX3_number := by decide +kernel
  have hf10 := hts (.fieldLink RX3 10 "ThingRules" "things" "LThingRules$Things;") (by decide +kernel)
  have hS : va_S (AQ 24 q) s.heap s.heap [] := va_S.rf
  have hS0 : va_S (fun _ => False) s.heap s.heap [] := va_S.rf
  have hP : va_P D vwCl (wX q cI cL u) s.heap := hP
  have hl := lv_entry ([.ref (q 0), .int p1, .int p2, .int p3]) (n := 5) (Nat.le_of_ble_eq_true rfl)
  rw [lg_entry_eq]
  generalize (lg_sl ([.ref (q 0), .int p1, .int p2, .int p3]) ++ List.replicate (5 - (lg_sl ([.ref (q 0), .int p1, .int p2, .int p3])).length) Slot.unset).toArray = ls at hl ⊢
  have hl : lv_has ls 5 [(0, .ref (q 0)), (1, .int p1), (2, .int p2), (3, .int p3)] := hl
  refine lv_aload_n hx hb dX3_number_0 rfl (lv_at hl 0 rfl) ?_
  refine va_get (D := D) (ci := 6) (v := .ref (q 1)) (C := RX3) (T := TX3) (N := 7) hx hb hts hiX3 hown hK hP 0 rfl rfl 0 (by decide) hf10 (fun _ h9 => h9) rfl dX3_number_1 ?_
  refine lv_iload_n hx hb dX3_number_4 rfl (lv_at hl 1 rfl) ?_
  refine vp_callSi (W.runV (As := [.int p1]) (rest := []) ⟨hx, hb, hml, hown, hts⟩ (cXT_know l D q cI cL tp u p1) (cwV 1 hts gX3_number_X2_know rfl rfl rfl (by decide +kernel) ⟨(Nat.le_of_ble_eq_true rfl), (Nat.le_of_ble_eq_true rfl)⟩) ⟨PX_blind, va_recv hK hP (ci := 5) (q0 := 1) rfl rfl, fun U hU hW => ⟨rfl, PX_fin hP hK hZ hS hU hW⟩⟩ rfl rfl hl.1 rfl (lv_room (Nat.le_of_ble_eq_true rfl)) dX3_number_5 ⟨(Nat.le_of_ble_eq_true rfl), (Nat.le_of_ble_eq_true rfl)⟩) (fun r_1 hr_1 => ?_)
  subst hr_1
  refine lv_if_eq (tgt := 18) hx hb dX3_number_8 (by decide) (fun c_2 => ?_) (fun c_2 => ?_)
  · refine lv_lconst (v := 0) hx hb dX3_number_18 (by decide) ?_
    refine W.widen (k := 1) (n := 6) (Nat.le_of_ble_eq_true rfl) (Nat.le_of_ble_eq_true rfl) ?_
    exact vx_ret (W.lret (v := 0) hx hb hr (fun t ht hW => ⟨⟨0, (), rfl, by unfold nX; rw [if_pos c_2], trivial⟩, hS0.F ht⟩) hS0.2.2 dX3_number_19)
  · obtain ⟨okr, okn⟩ := hok c_2
    refine lv_iload_n hx hb dX3_number_11 rfl (lv_at hl 2 rfl) ?_
    refine vp_callSi (W.runS (As := [.int p2]) (rest := []) ⟨hx, hb, hml, hown, hts⟩ (cX_isNumbersKind l p2) (va_cwS 1 hts gX3_number_X3_isNumbersKind rfl rfl rfl (by decide +kernel) ⟨(Nat.le_of_ble_eq_true rfl), (Nat.le_of_ble_eq_true rfl)⟩) ⟨T_blind, fun U hU hW => ⟨rfl, trivial⟩⟩ rfl rfl hl.1 rfl (lv_room (Nat.le_of_ble_eq_true rfl)) dX3_number_12 ⟨(Nat.le_of_ble_eq_true rfl), (Nat.le_of_ble_eq_true rfl)⟩) (fun r_3 hr_3 => ?_)
    subst hr_3
    refine lv_if_ne (tgt := 20) hx hb dX3_number_15 (by decide) (fun c_4 => ?_) (fun c_4 => ?_)
    · refine lv_aload_n hx hb dX3_number_20 rfl (lv_at hl 0 rfl) ?_
      refine va_get (D := D) (ci := 6) (v := .ref (q 1)) (C := RX3) (T := TX3) (N := 7) hx hb hts hiX3 hown hK hP 0 rfl rfl 0 (by decide) hf10 (fun _ h9 => h9) rfl dX3_number_21 ?_
      refine lv_iload_n hx hb dX3_number_24 rfl (lv_at hl 1 rfl) ?_
      refine lv_iload_n hx hb dX3_number_25 rfl (lv_at hl 2 rfl) ?_
      refine lv_iload_n hx hb dX3_number_26 rfl (lv_at hl 3 rfl) ?_
      refine vp_callSi (W.runV (As := [.int p1, .int p2, .int p3]) (rest := []) ⟨hx, hb, hml, hown, hts⟩ (cXT_reach l D q cI cL tp u p1 p2 p3 okr) (cwV 3 hts gX3_number_X2_reach rfl rfl rfl (by decide +kernel) ⟨(Nat.le_of_ble_eq_true rfl), (Nat.le_of_ble_eq_true rfl)⟩) ⟨PX_blind, va_recv hK hP (ci := 5) (q0 := 1) rfl rfl, fun U hU hW => ⟨rfl, PX_fin hP hK hZ hS hU hW⟩⟩ rfl rfl hl.1 rfl (lv_room (Nat.le_of_ble_eq_true rfl)) dX3_number_27 ⟨(Nat.le_of_ble_eq_true rfl), (Nat.le_of_ble_eq_true rfl)⟩) (fun r_5 hr_5 => ?_)
      subst hr_5
      refine lv_istore (lv' := [(4, .int (sXT_reach u p1 p2 p3)), (0, .ref (q 0)), (1, .int p1), (2, .int p2), (3, .int p3)]) hx hb dX3_number_30 hl (by decide) rfl (fun ls hl => ?_)
      refine lv_iload hx hb dX3_number_32 (lv_at hl 0 rfl) ?_
      refine lv_bipush (v := (-21)) hx hb dX3_number_34 (by decide) ?_
      refine lv_icmp_ne (tgt := 47) hx hb dX3_number_36 (by decide) (fun c_6 => ?_) (fun c_6 => ?_)
      · refine lv_iload hx hb dX3_number_47 (lv_at hl 0 rfl) ?_
        refine lv_bipush (v := (-23)) hx hb dX3_number_49 (by decide) ?_
        refine lv_icmp_ne (tgt := 62) hx hb dX3_number_51 (by decide) (fun c_7 => ?_) (fun c_7 => ?_)
        · refine lv_aload_n hx hb dX3_number_62 rfl (lv_at hl 1 rfl) ?_
          refine va_get (D := D) (ci := 6) (v := .ref (q 1)) (C := RX3) (T := TX3) (N := 7) hx hb hts hiX3 hown hK hP 0 rfl rfl 0 (by decide) hf10 (fun _ h9 => h9) rfl dX3_number_63 ?_
          refine lv_iload_n hx hb dX3_number_66 rfl (lv_at hl 2 rfl) ?_
          refine lv_iload_n hx hb dX3_number_67 rfl (lv_at hl 4 rfl) ?_
          refine vp_callSl (W.runV (As := [.int p1, .int p3]) (rest := []) ⟨hx, hb, hml, hown, hts⟩ (cXT_numberIn l D q cI cL tp u p1 p3 okn) (cwV 2 hts gX3_number_X2_numberIn rfl rfl rfl (by decide +kernel) ⟨(Nat.le_of_ble_eq_true rfl), (Nat.le_of_ble_eq_true rfl)⟩) ⟨PX_blind, va_recv hK hP (ci := 5) (q0 := 1) rfl rfl, fun U hU hW => ⟨rfl, PX_fin hP hK hZ hS hU hW⟩⟩ rfl rfl hl.1 rfl (lv_room (Nat.le_of_ble_eq_true rfl)) dX3_number_68 ⟨(Nat.le_of_ble_eq_true rfl), (Nat.le_of_ble_eq_true rfl)⟩) (fun r_8 hr_8 => ?_)
          subst hr_8
          refine W.widen (k := 1) (n := 6) (Nat.le_of_ble_eq_true rfl) (Nat.le_of_ble_eq_true rfl) ?_
          exact vx_ret (W.lret (v := sXT_numberIn u p1 p3) hx hb hr (fun t ht hW => ⟨⟨sXT_numberIn u p1 p3, (), rfl, by unfold nX; rw [if_neg c_2, if_neg c_4, if_neg c_6, if_neg c_7], trivial⟩, hS0.F ht⟩) hS0.2.2 dX3_number_71)
        · refine vx_throw0 (pc := 54) (own := RX3) (cls := nmA) (names := chA) (ik := 92) (ic := 94) (A := AQ 24 q) (rest := []) hx hb hst hown (by decide +kernel) (by decide +kernel) (hts (.classLink RX3 92 RJx00060) (by decide +kernel)) (hts (.initialized RJx00060) (by decide +kernel)) hatA ot_A hZT.1 hZT.2 hS (hl.1.trans hml.symm) dX3_number_54 dX3_number_57 dX3_number_58 dX3_number_61 (fun x hx9 => (htab x hx9).elim) (Nat.le_of_ble_eq_true rfl) (Nat.le_of_ble_eq_true rfl) (Nat.le_of_ble_eq_true rfl) (Nat.le_of_ble_eq_true rfl) hlocks (fun t hal hsz hk => ⟨(), trivial, Or.inr ⟨rfl, by unfold nX; rw [if_neg c_2, if_neg c_4, if_neg c_6, if_pos c_7]⟩, hsz, fun a ha _ => hk a ha⟩) (fun _ h => nomatch h) (Nat.le_of_ble_eq_true rfl) (Nat.le_of_ble_eq_true rfl)
      · refine vx_throw0 (pc := 39) (own := RX3) (cls := nmC) (names := chC) (ik := 89) (ic := 91) (A := AQ 24 q) (rest := []) hx hb hst hown (by decide +kernel) (by decide +kernel) (hts (.classLink RX3 89 RJx3273f) (by decide +kernel)) (hts (.initialized RJx3273f) (by decide +kernel)) hatC ot_C hZT.1 hZT.2 hS (hl.1.trans hml.symm) dX3_number_39 dX3_number_42 dX3_number_43 dX3_number_46 (fun x hx9 => (htab x hx9).elim) (Nat.le_of_ble_eq_true rfl) (Nat.le_of_ble_eq_true rfl) (Nat.le_of_ble_eq_true rfl) (Nat.le_of_ble_eq_true rfl) hlocks (fun t hal hsz hk => ⟨(), trivial, Or.inl ⟨rfl, by unfold nX; rw [if_neg c_2, if_neg c_4, if_pos c_6]⟩, hsz, fun a ha _ => hk a ha⟩) (fun _ h => nomatch h) (Nat.le_of_ble_eq_true rfl) (Nat.le_of_ble_eq_true rfl)
    · refine lv_lconst (v := 0) hx hb dX3_number_18 (by decide) ?_
      refine W.widen (k := 1) (n := 6) (Nat.le_of_ble_eq_true rfl) (Nat.le_of_ble_eq_true rfl) ?_
      exact vx_ret (W.lret (v := 0) hx hb hr (fun t ht hW => ⟨⟨0, (), rfl, by unfold nX; rw [if_neg c_2, if_pos c_4], trivial⟩, hS0.F ht⟩) hS0.2.2 dX3_number_19)
