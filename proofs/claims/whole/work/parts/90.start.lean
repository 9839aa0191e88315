-- the law's start: what stands at its entry, the two objects, the box
theorem eqv {args : Array Value} {s : State} {t : Term} {z : Int32} (h : (Cond.eq t (.int z)).before args s = true) : t.eval args s none [] s = some (.int z) := by
  obtain ⟨y, h1, h2⟩ := Cond.eq_one (show (Cond.eq t (.int z)).holds args s none s [] = true from h)
  rw [h1, ← h2]; rfl
theorem P_left {D : va_G} {w1 w2 : va_W} {H : Heap} (h : va_P D vwCl (w1 ++ w2) H) : va_P D vwCl w1 H := fun k x hx => h k x (by rw [List.getElem?_append_left (List.getElem?_eq_some_iff.mp hx).1]; exact hx)
theorem P_right {D : va_G} {w1 w2 : va_W} {H : Heap} (h : va_P D vwCl (w1 ++ w2) H) : va_P D vwCl w2 H := fun k x hx => h (w1.length + k) x (by rw [List.getElem?_append_right (Nat.le_add_right _ _), Nat.add_sub_cancel_left]; exact hx)
theorem D_ne {A : Nat → Prop} {w1 w2 : va_W} (h : va_D A (w1 ++ w2)) {i j : Nat} {x y : Nat × va_E} (hi : w1[i]? = some x) (hj : w2[j]? = some y) : x.1 ≠ y.1 := by
  intro e
  have h1 := (List.getElem?_eq_some_iff.mp hi).1
  have := h.1 i (w1.length + j) x y (by rw [List.getElem?_append_left h1]; exact hi) (by rw [List.getElem?_append_right (Nat.le_add_right _ _), Nat.add_sub_cancel_left]; exact hj) e
  omega
theorem D_right {A : Nat → Prop} {w1 w2 : va_W} (h : va_D A (w1 ++ w2)) : va_D A w2 := by
  have sh : ∀ (k : Nat) (x : Nat × va_E), w2[k]? = some x → (w1 ++ w2)[w1.length + k]? = some x := fun k x hx => by rw [List.getElem?_append_right (Nat.le_add_right _ _), Nat.add_sub_cancel_left]; exact hx
  refine ⟨fun i j x y hi hj e => ?_, fun k x hk => h.2 _ x (sh k x hk)⟩
  have := h.1 _ _ x y (sh i x hi) (sh j y hj) e
  omega
theorem D_left {A : Nat → Prop} {w1 w2 : va_W} (h : va_D A (w1 ++ w2)) : va_D A w1 := by
  have sh : ∀ (k : Nat) (x : Nat × va_E), w1[k]? = some x → (w1 ++ w2)[k]? = some x := fun k x hx => by rw [List.getElem?_append_left (List.getElem?_eq_some_iff.mp hx).1]; exact hx
  exact ⟨fun i j x y hi hj e => h.1 _ _ x y (sh i x hi) (sh j y hj) e, fun k x hk => h.2 _ x (sh k x hk)⟩
def m0 : St := (fun _ => 0, va_up (fun _ _ => 0) 16 sl4, fun _ => 0)
theorem m0_16 : m0.2.1 16 = sl4 := rfl
theorem sl4_at : ∀ i, i < 4 → sl4 i = -5 := by
  intro i hi
  rcases (show i = 0 ∨ i = 1 ∨ i = 2 ∨ i = 3 by omega) with rfl | rfl | rfl | rfl <;> decide
theorem ft0 : okX_forgetTraces u0X ∧ Rel 0 0 0 (sX_forgetTraces u0X) m0 := by
  obtain ⟨ho, w, hw, w1, w2, w3, w4, w5⟩ := frX2 4 0 100 u0X (by omega) (by omega)
  rw [nI_0] at ho hw
  unfold okX_forgetTraces sX_forgetTraces
  rw [hw]
  refine ⟨ho, Rel_0 ?_ ?_ ?_ ?_ rfl rfl rfl rfl ?_ ?_ w3 ?_⟩
  · rw [w1]; rfl
  · rw [w1]; rfl
  · rw [w1]; rfl
  · rw [w1]; rfl
  · intro i hi; rw [w4 i, if_pos (by omega)]
  · intro i hi; rw [m0_16]; exact sl4_at i hi
  · intro i hi; rfl
theorem N3.same {u U : State} (hv : u.vm = U.vm) (h : N3 u) : N3 U := ⟨va_Nw.same rfl hv h.1, va_Nw.same rfl hv h.2.1, va_Nw.same rfl hv h.2.2⟩
theorem N3.warm {s U : State} (hW : s.WarmedH U.vm) (h : N3 s) : N3 U := ⟨va_Nw.warmM hW h.1, va_Nw.warmM hW h.2.1, va_Nw.warmM hW h.2.2⟩
theorem ct_blind {D : va_G} {cI cL : ClassId} {av : List Value} {sz tp : Nat} {ws : va_W} {A : Nat → Prop} : FrameBlind (va_Pc av (fun U => U.heap.size = sz ∧ va_P D vwCl ws U.heap ∧ va_K D vwCl (Ty2 cI cL) U ∧ ZX tp A U U.heap ∧ N3 U)) := fun a U g mk h => ⟨h.1, h.2.1, h.2.2.1, va_K.moved (u := U) (U := U.calling g mk a) (Vm.Alike.refl U.vm) h.2.2.2.1, ZX.same (u := U) (U := U.calling g mk a) rfl h.2.2.2.2.1, N3.same (u := U) (U := U.calling g mk a) rfl h.2.2.2.2.2⟩
def tmP : Term := .static "ThingRules" "PARTS" "[I"
set_option maxHeartbeats 4000000 in
set_option maxRecDepth 100000 in
theorem st_fix {s : State} {b : Nat} (hts : ∀ w ∈ lw_tbl, w.before #[Value.ref b] s = true) (hgv : (Jvm.Cond.and given_1 narrow_1).before #[Value.ref b] s = true) : ∃ (D : va_G) (cI cL : ClassId) (tp : Nat), va_K D vwCl (Ty2 cI cL) s ∧ ZX tp (LA s) s s.heap ∧ N3 s ∧ NT s ∧ ZT (LA s) s s.heap ∧ va_Nc nmA nmC s := by
  have hs := flat_of_before _ hgv
  have hA : ∀ a : Nat, a < s.heap.size → ¬ LA s a := fun a h => Nat.not_le.mpr h
  obtain ⟨c0, i0, k0⟩ := u_known (n := 4) hts inJ0 (hts (.instantiable RJ0 4) (by decide +kernel))
  obtain ⟨c1, i1, k1⟩ := u_known (n := 6) hts inJx00060 (hts (.instantiable RJx00060 6) (by decide +kernel))
  obtain ⟨c2, i2, k2⟩ := u_known (n := 6) hts inJx3273f (hts (.instantiable RJx3273f 6) (by decide +kernel))
  obtain ⟨c3, i3, k3⟩ := u_known (n := 5) hts inX0 (hts (.instantiable RX0 5) (by decide +kernel))
  obtain ⟨c4, i4, k4⟩ := u_known (n := 7) hts inX1 (hts (.instantiable RX1 7) (by decide +kernel))
  obtain ⟨c5, i5, k5⟩ := u_known (n := 8) hts inX2 (hts (.instantiable RX2 8) (by decide +kernel))
  obtain ⟨c6, i6, k6⟩ := u_known (n := 7) hts inX3 (hts (.instantiable RX3 7) (by decide +kernel))
  obtain ⟨c7, i7, k7⟩ := u_known (n := 29) hts inX4 (hts (.instantiable RX4 29) (by decide +kernel))
  obtain ⟨cI, kI, pI, fI, gI, hI⟩ := Cond.arrayClass_spec (hts (.arrayClass .int) (by decide +kernel))
  obtain ⟨cL, kL, pL, fL, gL, hL⟩ := Cond.arrayClass_spec (hts (.arrayClass .long) (by decide +kernel))
  have e0 := eqv (t := .elem tmP (.int 0)) (z := 4) (hs _ (by decide +kernel))
  have e1 := eqv (t := .elem tmP (.int 1)) (z := 0) (hs _ (by decide +kernel))
  have e2 := eqv (t := .elem tmP (.int 2)) (z := 1) (hs _ (by decide +kernel))
  have e3 := eqv (t := .elem tmP (.int 3)) (z := 2) (hs _ (by decide +kernel))
  have e4 := eqv (t := .elem tmP (.int 4)) (z := 14) (hs _ (by decide +kernel))
  have e5 := eqv (t := .elem tmP (.int 5)) (z := 8) (hs _ (by decide +kernel))
  have e6 := eqv (t := .elem tmP (.int 6)) (z := 9) (hs _ (by decide +kernel))
  have el := eqv (t := .length tmP) (z := 7) (hs _ (by decide +kernel))
  have ea : (Cond.arrayOf tmP .int).before #[Value.ref b] s = true := hs _ (by decide +kernel)
  obtain ⟨tp, htp, hT⟩ := va_Tof (tm := tmP) (N := 7) (f := fun j => .int (partsF j)) (A := LA s) (by decide) ea el (fun j hj => by
    rcases (show j = 0 ∨ j = 1 ∨ j = 2 ∨ j = 3 ∨ j = 4 ∨ j = 5 ∨ j = 6 by omega) with rfl | rfl | rfl | rfl | rfl | rfl | rfl
    · exact e0
    · exact e1
    · exact e2
    · exact e3
    · exact e4
    · exact e5
    · exact e6) hA
  have hZ : va_Z "ThingRules" "PARTS" "[I" (.ref tp) (LA s) s s.heap := va_Zof (hts (.laysStatic "ThingRules" "PARTS" "[I") (by decide +kernel)) (hts (.initialized "ThingRules") (by decide +kernel)) htp hA
  refine ⟨(fun c => if c = 0 then c0 else if c = 1 then c1 else if c = 2 then c2 else if c = 3 then c3 else if c = 4 then c4 else if c = 5 then c5 else if c = 6 then c6 else c7, fun c => if c = 0 then i0 else if c = 1 then i1 else if c = 2 then i2 else if c = 3 then i3 else if c = 4 then i4 else if c = 5 then i5 else if c = 6 then i6 else i7), cI, cL, tp, ⟨?_, ?_⟩, ⟨hZ, hT, va_Nw.of rfl (hts (.methodLinkNest RX2 75 yX3_isHolderKind RX3) (by decide +kernel)), va_Nw.of rfl (hts (.fieldLinkNest RX2 78 "ThingRules" "PARTS" "[I" RX3) (by decide +kernel))⟩, ⟨va_Nw.of rfl (hts (.methodLinkNest RX3 9 yX2_init RX3) (by decide +kernel)), va_Nw.of rfl (hts (.methodLinkNest RX3 18 yX0_init RX3) (by decide +kernel)), va_Nw.of rfl (hts (.methodLinkNest RX3 25 yX1_init RX3) (by decide +kernel))⟩, ⟨va_Nw.of rfl (hts (.castable nmC nmC) (by decide +kernel)), va_Nw.of rfl (hts (.castable nmA nmA) (by decide +kernel)), va_Nw.of rfl (hts (.declares (Bundle.init0 "java/lang/RuntimeException")) (by decide +kernel)), va_Nw.of rfl (hts (.declares (Bundle.init0 "java/lang/Exception")) (by decide +kernel)), va_Nw.of rfl (hts (.declares (Bundle.init0 "java/lang/Throwable")) (by decide +kernel)), va_Nw.of rfl (hts (.declares (Bundle.init0 "java/lang/IndexOutOfBoundsException")) (by decide +kernel))⟩, ⟨vx_Zqof (hts (.laysStatic Bundle.tN "UNASSIGNED_STACK" Bundle.steD) (by decide +kernel)) (hts (.initialized Bundle.tN) (by decide +kernel)) (hs _ (by decide +kernel)) hA, vx_Zqof (hts (.laysStatic Bundle.tN "SUPPRESSED_SENTINEL" Bundle.listD) (by decide +kernel)) (hts (.initialized Bundle.tN) (by decide +kernel)) (hs _ (by decide +kernel)) hA⟩, va_Nc.of (hs (.not (.castable nmA nmC)) (by decide +kernel))⟩
  · intro c q hq
    have hc : c < 8 := (List.getElem?_eq_some_iff.mp hq).1
    rcases (show c = 0 ∨ c = 1 ∨ c = 2 ∨ c = 3 ∨ c = 4 ∨ c = 5 ∨ c = 6 ∨ c = 7 by omega) with rfl | rfl | rfl | rfl | rfl | rfl | rfl | rfl
    · cases hq; exact k0
    · cases hq; exact k1
    · cases hq; exact k2
    · cases hq; exact k3
    · cases hq; exact k4
    · cases hq; exact k5
    · cases hq; exact k6
    · cases hq; exact k7
  · intro k q hq
    have hk : k < 2 := (List.getElem?_eq_some_iff.mp hq).1
    rcases (show k = 0 ∨ k = 1 by omega) with rfl | rfl
    · cases hq; exact ⟨fun n z => ⟨fun k h => (by cases h), kI, gI, pI, hI⟩, fI⟩
    · cases hq; exact ⟨fun n z => ⟨fun k h => (by cases h), kL, gL, pL, hL⟩, fL⟩
set_option maxHeartbeats 4000000 in
set_option maxRecDepth 100000 in
theorem whole_start {p : Program} {e : Env} {s : State} {m : MethodId} {below : List Frame} {meth : Method} {c : Code} (l : Launch) (hst : l.stackTraces = false) {b L : Nat} {xs : Nat → Int32} (hL : L ≤ 3072) (C0 : lw_At p s m meth c b L xs) : W p l e room_1 s m #[Value.ref b] below meth c s.heap [] 0 0 (lw_Z below #[Value.ref b] s) (entryFrame m ([Value.ref b] : List Value).toArray 8) := by
  obtain ⟨hx, hb, hr, hml, hown, hts0, hX, hbl, hlocks, hgv⟩ := id C0
  obtain ⟨D, cI, cL, tp, hK, hZ, hN, hNT, hZT, hNc⟩ := st_fix hts0 hgv
  obtain ⟨hok, hR⟩ := ft0
  have hts : ∀ w ∈ wsL_law, w.before #[Value.ref b] s = true := fun w h => hts0 w (wsL_law_in w h)
  have hA : ∀ q : Nat, s.heap.size ≤ q → LA s q := fun q h => h
  have hS : va_S (LA s) s.heap s.heap [] := va_S.rf
  have hP : va_P D vwCl [] s.heap := fun k x hk => by cases hk
  have hD : va_D (LA s) [] := ⟨fun i j x y hi _ _ => (by cases hi), fun k x hk => (by cases hk)⟩
  have hl := lv_entry ([.ref b]) (n := 8) (Nat.le_of_ble_eq_true rfl)
  rw [lg_entry_eq]
  generalize (lg_sl ([.ref b]) ++ List.replicate (8 - (lg_sl ([.ref b])).length) Slot.unset).toArray = ls at hl ⊢
  have hl : lv_has ls 8 [(0, .ref b)] := hl
  refine va_new (ci := 6) (fs := [.null, .null, .null, .null, .null, .null, .int 0]) (C := RX3) (T := TX3) (N := 7) hx hb hts inlX3 tyX3 tyX3_ok hown (hts0 (.classLink RL 8 RX3) (by decide +kernel)) (hts0 (.instantiable RX3 7) (by decide +kernel)) (hts0 (.initialized RX3) (by decide +kernel)) hK hP hD hS hA rfl (fun j hj => by rcases (show j = 0 ∨ j = 1 ∨ j = 2 ∨ j = 3 ∨ j = 4 ∨ j = 5 ∨ j = 6 by omega) with rfl | rfl | rfl | rfl | rfl | rfl | rfl <;> rfl) (Nat.le_of_ble_eq_true rfl) (Nat.le_of_ble_eq_true rfl) dL_law_0 (fun qx H hP hD hS => ?_)
  have hP : va_P D vwCl (bX3 qx) H := hP
  have hD : va_D (LA s) (bX3 qx) := hD
  refine lv_dup hx hb dL_law_3 rfl ?_
  have hFc := va_free (wc := bX3 qx) hD hS hA [0] rfl
  have hZc : ZX tp (va_A (bX3 qx) H.size) s H := (hZ.kept hS.2.1).narrow hFc
  refine va_callv (va_runI (As := []) (rest := [.ref qx]) ⟨hx, hb, hml, hown, hts⟩ (ctX3 l D cI cL tp qx H.size hok) (cwI 0 hts gL_law_X3_init rfl rfl rfl (hts0 (.initialized RX3) (by decide +kernel)) (hts0 (.methodLink RL 17 yX3_init) (by decide +kernel)) (hts0 (.instanceMethod yX3_init) (by decide +kernel)) rfl (by decide +kernel) ⟨(Nat.le_of_ble_eq_true rfl), (Nat.le_of_ble_eq_true rfl)⟩) ⟨ct_blind, fun U hU hW => ⟨rfl, by rw [hU], by rw [hU]; exact hP, va_K.moved hW.alike hK, by rw [hU]; exact hZc.warm hW, hN.warm hW⟩⟩ rfl rfl hl.1 rfl (lv_room (Nat.le_of_ble_eq_true rfl)) dL_law_4 ⟨(Nat.le_of_ble_eq_true rfl), (Nat.le_of_ble_eq_true rfl)⟩) hS (fun q _ h => hFc q h) hFc (fun zu t H1 locs ht hvm hzu hB hz1 hk1 hS => ?_)
  obtain ⟨q, u⟩ := zu
  obtain ⟨hq0', hDQ', hAq', hu'⟩ := hzu
  have hq0 : q 0 = qx := hq0'
  have hDQ : DQ 24 q := hDQ'
  have hAq : ∀ k, k < 24 → LA s (q k) := fun k hk => hFc _ (hAq' k hk)
  have hu : u = sX_forgetTraces u0X := hu'
  have hPn : va_P D vwCl (wX q cI cL u) t.heap := hB.1
  rw [ht] at hPn
  rw [← hu] at hR
  clear hB hk1 hz1 hvm ht hZc hFc hD hP hq0' hDQ' hAq' hu'
  subst hq0
  have hP := hPn
  clear hPn
  generalize H1 = H at hP hS ⊢
  have hD : va_D (LA s) (wX q cI cL u) := ⟨(dX hDQ).1, fun k x hk => by rw [(wX_at hk).2]; exact hAq k (wX_at hk).1⟩
  refine W.widen (k := 24) (n := 1657) (Nat.le_of_ble_eq_true rfl) (Nat.le_of_ble_eq_true rfl) ?_
  refine lv_astore_n (lv' := [(1, .ref (q 0)), (0, .ref b)]) hx hb dL_law_7 rfl hl (by decide) rfl (fun ls hl => ?_)
  refine va_new (ci := 7) (fs := [.int 0, .int 0, .null, .null, .null, .null, .null, .int 0, .null, .null, .null, .null, .int 0, .null, .null, .null, .null, .null, .null, .null, .null, .null, .int 0, .null, .null, .null, .int 0, .int 0, .int 0]) (C := RX4) (T := TX4) (N := 29) hx hb hts inlX4 tyX4 tyX4_ok hown (hts0 (.classLink RL 18 RX4) (by decide +kernel)) (hts0 (.instantiable RX4 29) (by decide +kernel)) (hts0 (.initialized RX4) (by decide +kernel)) hK hP hD hS hA rfl (fun j hj => by rcases (show j = 0 ∨ j = 1 ∨ j = 2 ∨ j = 3 ∨ j = 4 ∨ j = 5 ∨ j = 6 ∨ j = 7 ∨ j = 8 ∨ j = 9 ∨ j = 10 ∨ j = 11 ∨ j = 12 ∨ j = 13 ∨ j = 14 ∨ j = 15 ∨ j = 16 ∨ j = 17 ∨ j = 18 ∨ j = 19 ∨ j = 20 ∨ j = 21 ∨ j = 22 ∨ j = 23 ∨ j = 24 ∨ j = 25 ∨ j = 26 ∨ j = 27 ∨ j = 28 by omega) with rfl | rfl | rfl | rfl | rfl | rfl | rfl | rfl | rfl | rfl | rfl | rfl | rfl | rfl | rfl | rfl | rfl | rfl | rfl | rfl | rfl | rfl | rfl | rfl | rfl | rfl | rfl | rfl | rfl <;> rfl) (Nat.le_of_ble_eq_true rfl) (Nat.le_of_ble_eq_true rfl) dL_law_8 (fun qm H hP hD hS => ?_)
  have hP : va_P D vwCl (wX q cI cL u ++ bX4 qm) H := hP
  have hD : va_D (LA s) (wX q cI cL u ++ bX4 qm) := hD
  refine lv_dup hx hb dL_law_11 rfl ?_
  have hPc : va_P D vwCl (bX4 qm) H := P_right hP
  have hFc := va_free (wc := bX4 qm) hD hS hA [24] rfl
  refine va_callv (va_runI (As := []) (rest := [.ref qm]) ⟨hx, hb, hml, hown, hts⟩ (ctX4 l D cI cL qm H.size) (cwI 0 hts gL_law_X4_init rfl rfl rfl (hts0 (.initialized RX4) (by decide +kernel)) (hts0 (.methodLink RL 20 yX4_init) (by decide +kernel)) (hts0 (.instanceMethod yX4_init) (by decide +kernel)) rfl (by decide +kernel) ⟨(Nat.le_of_ble_eq_true rfl), (Nat.le_of_ble_eq_true rfl)⟩) ⟨ini_blind, fun U hU hW => ⟨rfl, by rw [hU], by rw [hU]; exact hPc, va_K.moved hW.alike hK⟩⟩ rfl rfl hl.1 rfl (lv_room (Nat.le_of_ble_eq_true rfl)) dL_law_12 ⟨(Nat.le_of_ble_eq_true rfl), (Nat.le_of_ble_eq_true rfl)⟩) hS (fun q _ h => hFc q h) hFc (fun z0 t H1 locs ht hvm _ hB hz1 hk1 hS => ?_)
  obtain ⟨hP1, hK1, hD1⟩ := hB
  rw [ht] at hP1
  clear hK1
  obtain ⟨hPn, hDn⟩ := va_join (wr := wX q cI cL u) (w1 := wX4 qm z0 cI cL) hP hD [24] [0, 1, 2, 3, 4, 5, 6, 7, 8, 9, 10, 11, 12, 13, 14, 15, 16, 17, 18, 19, 20, 21, 22, 23] rfl rfl (by decide) (by decide) hk1 hFc hP1 hD1
  clear hP1 hD1 hPc hFc hk1 hz1 hvm ht hP hD
  generalize H1 = H at hPn hS ⊢
  obtain ⟨z, hz⟩ : ∃ z : Nat → Nat, z = zl [qm, z0 0, z0 1, z0 2, z0 3, z0 4, z0 5, z0 6, z0 7, z0 8, z0 9, z0 10, z0 11, z0 12, z0 13, z0 14, z0 15, z0 16, z0 17, z0 18, z0 19, z0 20] := ⟨_, rfl⟩
  have hw : wX4 qm z0 cI cL = wM z cI cL m0 := by rw [hz]; rfl
  have hz0 : qm = z 0 := by rw [hz]; rfl
  rw [hw] at hPn hDn
  clear hw hz
  subst hz0
  have hP := hPn
  have hD := hDn
  clear hPn hDn
  refine W.widen (k := 46) (n := 3349) (Nat.le_of_ble_eq_true rfl) (Nat.le_of_ble_eq_true rfl) ?_
  refine lv_astore_n (lv' := [(2, .ref (z 0)), (1, .ref (q 0)), (0, .ref b)]) hx hb dL_law_15 rfl hl (by decide) rfl (fun ls hl => ?_)
  refine lv_iconst (v := 1) hx hb dL_law_16 (by decide) ?_
  refine nwL (R := room_1) (n := 1) (rest := []) (cells := 46) (slots := 3349) (ls := ls) (ws := wX q cI cL u ++ wM z cI cL m0) hx hb (hts0 (.arrayClass .long) (by decide +kernel)) hK hP hD hS hA 1 (by decide) (by decide) (by decide) (Nat.le_of_ble_eq_true rfl) (Nat.le_of_ble_eq_true rfl) dL_law_17 (fun bo H hP hD hS => ?_)
  have hP : va_P D vwCl ((wX q cI cL u ++ wM z cI cL m0) ++ oneL bo cL (fun _ => 0)) H := hP
  have hD : va_D (LA s) ((wX q cI cL u ++ wM z cI cL m0) ++ oneL bo cL (fun _ => 0)) := hD
  refine lv_astore_n (lv' := [(3, .ref bo), (2, .ref (z 0)), (1, .ref (q 0)), (0, .ref b)]) hx hb dL_law_19 rfl hl (by decide) rfl (fun ls hl => ?_)
  refine lv_iconst (v := 0) hx hb dL_law_20 (by decide) ?_
  refine lv_istore (lv' := [(4, .int 0), (3, .ref bo), (2, .ref (z 0)), (1, .ref (q 0)), (0, .ref b)]) hx hb dL_law_21 hl (by decide) rfl (fun ls hl => ?_)
  have hPB := P_right hP
  have hPX := P_left (P_left hP)
  have hPM := P_right (P_left hP)
  obtain ⟨hDZ, hAz⟩ := DQ_of (n := 22) (q := z) (D_right (D_left hD)) rfl
  have gX : ∀ k, k < 24 → ∃ x, (wX q cI cL u)[k]? = some x ∧ x.1 = q k := by
    intro k hk
    have hlt : k < (wX q cI cL u).length := hk
    exact ⟨_, List.getElem?_eq_getElem hlt, (wX_at (List.getElem?_eq_getElem hlt)).2⟩
  have gM : ∀ k, k < 22 → ∃ x, (wM z cI cL m0)[k]? = some x ∧ x.1 = z k := by
    intro k hk
    have hlt : k < (wM z cI cL m0).length := hk
    exact ⟨_, List.getElem?_eq_getElem hlt, (wM_at (List.getElem?_eq_getElem hlt)).2⟩
  have gB : (oneL bo cL (fun _ => 0))[0]? = some (bo, .inl (cL, 1, .inr (.inl (fun _ => 0)))) := rfl
  have hAo : LA s bo := (D_right hD).2 0 _ gB
  have dqz : ∀ i j, i < 24 → j < 22 → q i ≠ z j := by
    intro i j hi hj
    obtain ⟨x, x1, x2⟩ := gX i hi
    obtain ⟨y, y1, y2⟩ := gM j hj
    rw [← x2, ← y2]
    exact D_ne (D_left hD) x1 y1
  have dqo : ∀ i, i < 24 → q i ≠ bo := by
    intro i hi
    obtain ⟨x, x1, x2⟩ := gX i hi
    rw [← x2]
    exact D_ne hD (i := i) (y := (bo, .inl (cL, 1, .inr (.inl (fun _ => 0))))) (by rw [List.getElem?_append_left (List.getElem?_eq_some_iff.mp x1).1]; exact x1) gB
  have dzo : ∀ j, j < 22 → z j ≠ bo := by
    intro j hj
    obtain ⟨y, y1, y2⟩ := gM j hj
    rw [← y2]
    exact D_ne hD (i := (wX q cI cL u).length + j) (y := (bo, .inl (cL, 1, .inr (.inl (fun _ => 0))))) (by rw [List.getElem?_append_right (Nat.le_add_right _ _), Nat.add_sub_cancel_left]; exact y1) gB
  have hC : LC l p s m meth c D q z cI cL tp b bo L xs := ⟨C0, hst, hK, hZ, hNT, hZT, hNc, hDQ, hDZ, hAq, hAz, hAo, dqz, dqo, dzo⟩
  refine W.widen (k := 100) (n := 20000) (Nat.le_of_ble_eq_true rfl) (Nat.le_of_ble_eq_true rfl) ?_
  have := law_loop (e := e) (below := below) hL hC 513 0 (by omega) (by omega) u m0 (fun _ => 0) H locs ls 0 (by decide) ⟨hPX, hPM, hPB, hS, ⟨0, 0, 0, hR⟩, lv_sub hl [4, 3, 2, 1, 0] rfl⟩
  exact this
