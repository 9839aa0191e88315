-- the law's number(): what the class throws is caught
def wsLN : List Cond := wsL_number ++ (atC.filter goodWord ++ atA.filter goodWord)
theorem gin_mono {a b ws : List Cond} (h : GoodIn a ws) (hab : ∀ w ∈ a, w ∈ b) : GoodIn b ws := fun w hw => ⟨hab w (h w hw).1, (h w hw).2⟩
theorem good_CA : (atC.filter goodWord ++ atA.filter goodWord).all goodWord = true := by decide +kernel
theorem gLN : GoodIn wsLN (wsV RL 7 RX3 yX3_number wsN) := by
  refine goodIn_app ?_ (goodIn_app (gin_mono ggL_number_X3_number (fun w h => List.mem_append_left _ h)) (goodIn_sub (fun w h => List.mem_append_right _ h) good_CA))
  exact gin_mono (a := wsL_number) (goodIn_of _ (by decide +kernel)) (fun w h => List.mem_append_left _ h)
theorem PN_blind {D : va_G} {q : Nat → Nat} {cI cL : ClassId} {tp : Nat} {u : St} {av : List Value} : FrameBlind (va_Pc av (fun U => PN D q cI cL tp u U)) := fun a U g mk h => ⟨h.1, (PX_blind (av := av) a U g mk ⟨h.1, h.2.1⟩).2, NT.same rfl h.2.2.1, ZT.moved (u := U) (U := U.calling g mk a) (Vm.Alike.refl U.vm) h.2.2.2⟩
def oneL (b : Nat) (cL : ClassId) (f : Nat → Int64) : va_W := [(b, .inl (cL, 1, .inr (.inl f)))]
def PL (D : va_G) (q : Nat → Nat) (cI cL : ClassId) (tp : Nat) (u : St) (b : Nat) (f : Nat → Int64) (U : State) : Prop := PN D q cI cL tp u U ∧ va_P D vwCl (oneL b cL f) U.heap ∧ va_Nc nmA nmC U
theorem PL_blind {D : va_G} {q : Nat → Nat} {cI cL : ClassId} {tp : Nat} {u : St} {b : Nat} {f : Nat → Int64} {av : List Value} : FrameBlind (va_Pc av (fun U => PL D q cI cL tp u b f U)) := fun a U g mk h => ⟨h.1, (PN_blind (av := av) a U g mk ⟨h.1, h.2.1⟩).2, h.2.2.1, va_Nc.moved (u := U) (U := U.calling g mk a) (Vm.Alike.refl U.vm) h.2.2.2⟩
abbrev x1N : ExceptionTableEntry := { startPc := 0, endPc := 11, handlerPc := 14, catchType := 13 }
abbrev x2N : ExceptionTableEntry := { startPc := 0, endPc := 11, handlerPc := 18, catchType := 15 }
theorem tabN : tableOf [(0, 11, 14, 13), (0, 11, 18, 15)] = [x1N, x2N] := rfl
set_option maxHeartbeats 4000000 in
set_option maxRecDepth 100000 in
theorem cLaw_number (l : Launch) (hst : l.stackTraces = false) (D : va_G) (q : Nat → Nat) (cI cL : ClassId) (tp : Nat) (u : St) (b : Nat) (f : Nat → Int64) (p1 p2 p3 : Int32) (hok : okN u p1 p2 p3) : vx_Met l yL_number wsLN { frames := 9, cells := 1, slots := 6, locals := 150 } (va_Pc [.ref (q 0), .int p1, .int p2, .int p3, .ref b] (fun U => PL D q cI cL tp u b f U)) (va_Qi (fun (r : Int32) (f' : Nat → Int64) => r = (nX u p1 p2 p3).1 ∧ (r = 0 → f' 0 = (nX u p1 p2 p3).2)) (fun f' t => va_P D vwCl (oneL b cL f') t.heap) (fun a => a = b)) (vx_X (fun _ : Unit => False) (fun _ _ _ => True) (fun _ => False)) 1 6 (fun a => a = b) := by
  refine vx_ofWH (cc := cL_number) (maxL := 6) (ret := (some .int)) (hh := [(0, 11, 14, 13), (0, 11, 18, 15)]) (ws' := wsLN.tail) (by decide) rfl ?_
  intro p e s m args below meth c s₁ B hml hv
  obtain ⟨rfl, ⟨⟨hP, hK, hZ⟩, hNT, hZT⟩, hPb, hNc⟩ := hv
  have hx := B.exec
  have hb := B.bytes
  have hr := B.returns
  have hts := atoms_spec (ws := wsLN) B.pre
  have hown : s.vm.findClass RL = some m.cls := findClass_of_methodNamed B.named
  have hlocks := B.notSynchronized
  have htab : c.exceptionTable.toList = [x1N, x2N] := (vx_table (x := yL_number) B (hts _ List.mem_cons_self)).trans tabN
  have hk13 : (Cond.classLink RL 13 nmC).before #[Value.ref (q 0), .int p1, .int p2, .int p3, .ref b] s = true := hts _ (List.mem_append_left _ (by decide +kernel))
  have hk15 : (Cond.classLink RL 15 nmA).before #[Value.ref (q 0), .int p1, .int p2, .int p3, .ref b] s = true := hts _ (List.mem_append_left _ (by decide +kernel))
  have hDb : va_D (fun a => a = b) (oneL b cL f) := by
    refine ⟨fun i j x y hi hj _ => ?_, fun k x hk => ?_⟩
    · have h1 := (List.getElem?_eq_some_iff.mp hi).1
      have h2 := (List.getElem?_eq_some_iff.mp hj).1
      simp [oneL] at h1 h2
      omega
    · have h1 := (List.getElem?_eq_some_iff.mp hk).1
      simp [oneL] at h1
      subst h1
      cases hk
      rfl
  have hS : va_S (fun a => a = b) s.heap s.heap [] := va_S.rf
  have hSq : va_S (AQ 24 q) s.heap s.heap [] := va_S.rf
  have hP : va_P D vwCl (wX q cI cL u) s.heap := hP
  have hl := lv_entry ([.ref (q 0), .int p1, .int p2, .int p3, .ref b]) (n := 6) (Nat.le_of_ble_eq_true rfl)
  rw [lg_entry_eq]
  generalize (lg_sl ([.ref (q 0), .int p1, .int p2, .int p3, .ref b]) ++ List.replicate (6 - (lg_sl ([.ref (q 0), .int p1, .int p2, .int p3, .ref b])).length) Slot.unset).toArray = ls at hl ⊢
  have hl : lv_has ls 6 [(0, .ref (q 0)), (1, .int p1), (2, .int p2), (3, .int p3), (4, .ref b)] := hl
  refine lv_aload hx hb dL_number_0 (lv_at hl 4 rfl) ?_
  refine lv_iconst (v := 0) hx hb dL_number_2 (by decide) ?_
  refine lv_aload_n hx hb dL_number_3 rfl (lv_at hl 0 rfl) ?_
  refine lv_iload_n hx hb dL_number_4 rfl (lv_at hl 1 rfl) ?_
  refine lv_iload_n hx hb dL_number_5 rfl (lv_at hl 2 rfl) ?_
  refine lv_iload_n hx hb dL_number_6 rfl (lv_at hl 3 rfl) ?_
  refine vx_calll (A1 := fun _ => False) (AX := fun _ => False) (vx_runV (As := [.int p1, .int p2, .int p3]) (rest := [.int 0, .ref b]) ⟨hx, hb, hml, hown, hts⟩ (cX_number l hst D q cI cL tp u p1 p2 p3 hok) (cwV 3 hts gLN rfl rfl rfl (by decide +kernel) ⟨(Nat.le_of_ble_eq_true rfl), (Nat.le_of_ble_eq_true rfl)⟩) ⟨PN_blind, va_recv hK hP (ci := 6) (q0 := 0) rfl rfl, fun U hU hW => ⟨rfl, PX_fin hP hK hZ hSq hU hW, hNT.warm hW, by rw [hU]; exact hZT.moved hW.alike⟩⟩ rfl rfl hl.1 rfl (lv_room (Nat.le_of_ble_eq_true rfl)) dL_number_7 ⟨(Nat.le_of_ble_eq_true rfl), (Nat.le_of_ble_eq_true rfl)⟩) hS (fun _ _ h => h.elim) (fun _ h => h.elim) (fun _ _ h => h.elim) (fun E ce q9 _ t H1 locs1 ht hvm _ hE hz1 hk1 hS1 hce hcv hcl => ?_) (fun r _ t H1 locs1 ht hvm hrr _ hz1 hk1 hS1 => ?_)
  · have hPb1 : va_P D vwCl (oneL b cL f) H1 := hPb.kept (fun k x hx9 => hk1 x.1 ((hPb k x hx9).lt) (fun h => h))
    rcases hE with ⟨rfl, hn⟩ | ⟨rfl, hn⟩
    · refine vn_first (own := RL) (n1 := nmC) (E := nmC) (x1 := x1N) hown htab (by decide) (by decide) hk13 (va_Nw.use rfl hNT.1) hce hcv hcl ?_
      refine lv_astore (lv' := [(5, .ref q9), (0, .ref (q 0)), (1, .int p1), (2, .int p2), (3, .int p3), (4, .ref b)]) hx hb dL_number_14 hl (by decide) rfl (fun ls hl => ?_)
      refine lv_iconst (v := 1) hx hb dL_number_16 (by decide) ?_
      refine W.widen (k := 1) (n := 6) (Nat.le_of_ble_eq_true rfl) (Nat.le_of_ble_eq_true rfl) ?_
      exact vx_ret (W.iret (v := 1) hx hb hr (fun t ht hW => ⟨⟨1, f, rfl, ⟨by rw [hn], fun h => absurd h (by decide)⟩, by show va_P D vwCl _ t.heap; rw [ht]; exact hPb1⟩, hS1.F ht⟩) hS1.2.2 dL_number_17)
    · refine vn_second (own := RL) (n1 := nmC) (n2 := nmA) (E := nmA) (x1 := x1N) (x2 := x2N) hown htab (by decide) (by decide) (by decide) (by decide) hk13 hk15 hNc (va_Nw.use rfl hNT.2.1) hce hcv hcl ?_
      refine lv_astore (lv' := [(5, .ref q9), (0, .ref (q 0)), (1, .int p1), (2, .int p2), (3, .int p3), (4, .ref b)]) hx hb dL_number_18 hl (by decide) rfl (fun ls hl => ?_)
      refine lv_iconst (v := 2) hx hb dL_number_20 (by decide) ?_
      refine W.widen (k := 1) (n := 6) (Nat.le_of_ble_eq_true rfl) (Nat.le_of_ble_eq_true rfl) ?_
      exact vx_ret (W.iret (v := 2) hx hb hr (fun t ht hW => ⟨⟨2, f, rfl, ⟨by rw [hn], fun h => absurd h (by decide)⟩, by show va_P D vwCl _ t.heap; rw [ht]; exact hPb1⟩, hS1.F ht⟩) hS1.2.2 dL_number_21)
  · have hPb1 : va_P D vwCl (oneL b cL f) H1 := hPb.kept (fun k x hx9 => hk1 x.1 ((hPb k x hx9).lt) (fun h => h))
    refine va_last hx hb hK hPb1 hDb hS1 0 1 rfl rfl (show vp_in 0 1 from vp_in_nI (n := 0) (by omega) (by decide)) dL_number_10 (fun H2 locs2 hP2 _ hS2 => ?_)
    have hP2 : va_P D vwCl (oneL b cL (vp_updL f (0 : Int32).toNatClampNeg r)) H2 := hP2
    refine lv_goto (tgt := 22) hx hb dL_number_11 (by decide) ?_
    refine lv_iconst (v := 0) hx hb dL_number_22 (by decide) ?_
    refine W.widen (k := 1) (n := 6) (Nat.le_of_ble_eq_true rfl) (Nat.le_of_ble_eq_true rfl) ?_
    exact vx_ret (W.iret (v := 0) hx hb hr (fun t ht hW => ⟨⟨0, vp_updL f (0 : Int32).toNatClampNeg r, rfl, ⟨by rw [hrr], fun _ => by rw [hrr]; exact updLS⟩, by show va_P D vwCl _ t.heap; rw [ht]; exact hP2⟩, hS2.F ht⟩) hS2.2.2 dL_number_23)
