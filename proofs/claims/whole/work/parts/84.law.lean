def LA (s : State) : Nat → Prop := fun a => s.heap.size ≤ a
def LC (l : Launch) (p : Program) (s : State) (m : MethodId) (meth : Method) (c : Code) (D : va_G) (q z : Nat → Nat) (cI cL : ClassId) (tp b bo L : Nat) (xs : Nat → Int32) : Prop :=
  lw_At p s m meth c b L xs ∧ l.stackTraces = false ∧ va_K D vwCl (Ty2 cI cL) s ∧ ZX tp (LA s) s s.heap ∧ NT s ∧ ZT (LA s) s s.heap ∧ va_Nc nmA nmC s ∧ DQ 24 q ∧ DQ 22 z ∧ (∀ k, k < 24 → LA s (q k)) ∧ (∀ k, k < 22 → LA s (z k)) ∧ LA s bo ∧ (∀ i j, i < 24 → j < 22 → q i ≠ z j) ∧ (∀ i, i < 24 → q i ≠ bo) ∧ ∀ j, j < 22 → z j ≠ bo
def LI (s : State) (D : va_G) (q z : Nat → Nat) (cI cL : ClassId) (b bo : Nat) (u v : St) (f : Nat → Int64) (H : Heap) (locs : List Loc) (ls : Array Slot) (x : Int32) : Prop :=
  va_P D vwCl (wX q cI cL u) H ∧ va_P D vwCl (wM z cI cL v) H ∧ va_P D vwCl (oneL bo cL f) H ∧ va_S (LA s) s.heap H locs ∧ (∃ T P R, Rel T P R u v) ∧ lv_has ls 8 [(0, .ref b), (1, .ref (q 0)), (2, .ref (z 0)), (3, .ref bo), (4, .int x)]
theorem wX_at {q : Nat → Nat} {cI cL : ClassId} {u : St} {k : Nat} {x : Nat × va_E} (h : (wX q cI cL u)[k]? = some x) : k < 24 ∧ x.1 = q k := by
  have hm : ((wX q cI cL u).map (fun x => x.1))[k]? = some x.1 := by rw [List.getElem?_map, h]; rfl
  rw [show (wX q cI cL u).map (fun x => x.1) = (List.range 24).map q from rfl, List.getElem?_map] at hm
  by_cases hk : k < 24
  · rw [List.getElem?_range hk] at hm; exact ⟨hk, (Option.some.inj hm).symm⟩
  · rw [List.getElem?_eq_none (by simpa using hk)] at hm; cases hm
theorem wM_at {q : Nat → Nat} {cI cL : ClassId} {u : St} {k : Nat} {x : Nat × va_E} (h : (wM q cI cL u)[k]? = some x) : k < 22 ∧ x.1 = q k := by
  have hm : ((wM q cI cL u).map (fun x => x.1))[k]? = some x.1 := by rw [List.getElem?_map, h]; rfl
  rw [show (wM q cI cL u).map (fun x => x.1) = (List.range 22).map q from rfl, List.getElem?_map] at hm
  by_cases hk : k < 22
  · rw [List.getElem?_range hk] at hm; exact ⟨hk, (Option.some.inj hm).symm⟩
  · rw [List.getElem?_eq_none (by simpa using hk)] at hm; cases hm
theorem oneL_at {b : Nat} {cL : ClassId} {f : Nat → Int64} {k : Nat} {x : Nat × va_E} (h : (oneL b cL f)[k]? = some x) : x.1 = b := by
  have h1 := (List.getElem?_eq_some_iff.mp h).1
  simp [oneL] at h1
  subst h1
  cases h
  rfl
section LCs
variable {l : Launch} {p : Program} {s : State} {m : MethodId} {meth : Method} {c : Code} {D : va_G} {q z : Nat → Nat} {cI cL : ClassId} {tp b bo L : Nat} {xs : Nat → Int32} {u v : St} {f : Nat → Int64} {H H1 : Heap} {locs : List Loc}
theorem LC_q (hC : LC l p s m meth c D q z cI cL tp b bo L xs) : ∀ a, AQ 24 q a → LA s a := fun a ⟨k, hk, e⟩ => by rw [← e]; exact hC.2.2.2.2.2.2.2.2.2.1 k hk
theorem LC_z (hC : LC l p s m meth c D q z cI cL tp b bo L xs) : ∀ a, AQ 22 z a → LA s a := fun a ⟨k, hk, e⟩ => by rw [← e]; exact hC.2.2.2.2.2.2.2.2.2.2.1 k hk
theorem LC_ZX (hC : LC l p s m meth c D q z cI cL tp b bo L xs) (hS : va_S (LA s) s.heap H locs) : ZX tp (AQ 24 q) s H := (hC.2.2.2.1.kept hS.2.1).narrow (LC_q hC)
theorem LC_PX (hC : LC l p s m meth c D q z cI cL tp b bo L xs) (hP : va_P D vwCl (wX q cI cL u) H) (hS : va_S (LA s) s.heap H locs) {U : State} (hU : U.heap = H) (hW : s.WarmedH U.vm) : PX D q cI cL tp u U := ⟨by rw [hU]; exact hP, va_K.moved hW.alike hC.2.2.1, by rw [hU]; exact (LC_ZX hC hS).warm hW⟩
theorem LC_kM (hC : LC l p s m meth c D q z cI cL tp b bo L xs) (hP : va_P D vwCl (wM z cI cL v) H) (hk : ∀ a : Nat, a < H.size → ¬ AQ 24 q a → H1[a]? = H[a]?) : va_P D vwCl (wM z cI cL v) H1 := hP.kept (fun k x hx => hk x.1 ((hP k x hx).lt) (fun ⟨j, hj, e⟩ => hC.2.2.2.2.2.2.2.2.2.2.2.2.1 j k hj (wM_at hx).1 (e.trans (wM_at hx).2)))
theorem LC_kX (hC : LC l p s m meth c D q z cI cL tp b bo L xs) (hP : va_P D vwCl (wX q cI cL u) H) (hk : ∀ a : Nat, a < H.size → ¬ AQ 22 z a → H1[a]? = H[a]?) : va_P D vwCl (wX q cI cL u) H1 := hP.kept (fun k x hx => hk x.1 ((hP k x hx).lt) (fun ⟨j, hj, e⟩ => hC.2.2.2.2.2.2.2.2.2.2.2.2.1 k j (wX_at hx).1 hj ((wX_at hx).2.symm.trans e.symm)))
theorem LC_kB (hC : LC l p s m meth c D q z cI cL tp b bo L xs) (hP : va_P D vwCl (oneL bo cL f) H) (hk : ∀ a : Nat, a < H.size → ¬ AQ 24 q a → H1[a]? = H[a]?) : va_P D vwCl (oneL bo cL f) H1 := hP.kept (fun k x hx => hk x.1 ((hP k x hx).lt) (fun ⟨j, hj, e⟩ => hC.2.2.2.2.2.2.2.2.2.2.2.2.2.1 j hj (e.trans (oneL_at hx))))
theorem LC_kB2 (hC : LC l p s m meth c D q z cI cL tp b bo L xs) (hP : va_P D vwCl (oneL bo cL f) H) (hk : ∀ a : Nat, a < H.size → ¬ AQ 22 z a → H1[a]? = H[a]?) : va_P D vwCl (oneL bo cL f) H1 := hP.kept (fun k x hx => hk x.1 ((hP k x hx).lt) (fun ⟨j, hj, e⟩ => hC.2.2.2.2.2.2.2.2.2.2.2.2.2.2 j hj (e.trans (oneL_at hx))))
theorem LC_oX (hC : LC l p s m meth c D q z cI cL tp b bo L xs) (hP : va_P D vwCl (wX q cI cL u) H) (hk : ∀ a : Nat, a < H.size → ¬ a = bo → H1[a]? = H[a]?) : va_P D vwCl (wX q cI cL u) H1 := hP.kept (fun k x hx => hk x.1 ((hP k x hx).lt) (fun e => hC.2.2.2.2.2.2.2.2.2.2.2.2.2.1 k (wX_at hx).1 ((wX_at hx).2.symm.trans e)))
theorem LC_oM (hC : LC l p s m meth c D q z cI cL tp b bo L xs) (hP : va_P D vwCl (wM z cI cL v) H) (hk : ∀ a : Nat, a < H.size → ¬ a = bo → H1[a]? = H[a]?) : va_P D vwCl (wM z cI cL v) H1 := hP.kept (fun k x hx => hk x.1 ((hP k x hx).lt) (fun e => hC.2.2.2.2.2.2.2.2.2.2.2.2.2.2 k (wM_at hx).1 ((wM_at hx).2.symm.trans e)))
end LCs
section LCases
variable {l : Launch} {p : Program} {e : Env} {s : State} {m : MethodId} {below : List Frame} {meth : Method} {c : Code} {D : va_G} {q z : Nat → Nat} {cI cL : ClassId} {tp b bo L : Nat} {xs : Nat → Int32} {u v : St} {f : Nat → Int64} {H : Heap} {locs : List Loc} {ls : Array Slot} {x : Int32} {cc ss : Nat}
set_option maxHeartbeats 4000000 in
set_option maxRecDepth 100000 in
theorem law_0 (hC : LC l p s m meth c D q z cI cL tp b bo L xs) (hI : LI s D q z cI cL b bo u v f H locs ls x) (hcc : cc ≤ 3000) (hss : ss ≤ 100000) (h1 : vp_in (x + 1) L) (h2 : vp_in (x + 2) L) (h3 : vp_in (x + 3) L) (h4 : vp_in (x + 4) L) (h5 : vp_in (x + 5) L) (kk : ∀ (u v : St) (f : Nat → Int64) (H : Heap) (locs : List Loc) (ls : Array Slot), LI s D q z cI cL b bo u v f H locs ls x → W p l e room_1 s m #[Value.ref b] below meth c H locs (cc + 1) (ss + 6) (lw_Z below #[Value.ref b] s) (F0 m 846 ls [])) : W p l e room_1 s m #[Value.ref b] below meth c H locs cc ss (lw_Z below #[Value.ref b] s) (F0 m 120 ls []) := by
  obtain ⟨⟨hx, hb, hr, hml, hown, hts0, hX, hbl, hlocks, hgv⟩, hst, hK, hZA, hNT, hZT, hNc, hq, hz, hAq, hAz, hAo, dqz, dqo, dzo⟩ := id hC
  obtain ⟨hPX, hPM, hPB, hS, ⟨T0, P0, R0, hR⟩, hl⟩ := hI
  have hts : ∀ w ∈ wsL_law, w.before #[Value.ref b] s = true := fun w h => hts0 w (wsL_law_in w h)
  have hbA : ¬ LA s b := Nat.not_le.mpr hbl
  have fit : cc + 0 ≤ room_1.cells ∧ ss + 0 ≤ room_1.slots := ⟨by show cc + 0 ≤ 603072; omega, by show ss + 0 ≤ 7262314; omega⟩
  refine lv_aload_n hx hb dL_law_120 rfl (lv_at hl 1 rfl) ?_
  refine lv_aload_n hx hb dL_law_121 rfl (lv_at hl 0 rfl) ?_
  refine lv_iload hx hb dL_law_122 (lv_at hl 4 rfl) ?_
  refine lv_iconst (v := 1) hx hb dL_law_124 (by decide) ?_
  refine lv_iadd hx hb dL_law_125 ?_
  refine va_sld hx hb hX hbl hbA hS h1 dL_law_126 ?_
  refine lv_aload_n hx hb dL_law_127 rfl (lv_at hl 0 rfl) ?_
  refine lv_iload hx hb dL_law_128 (lv_at hl 4 rfl) ?_
  refine lv_iconst (v := 2) hx hb dL_law_130 (by decide) ?_
  refine lv_iadd hx hb dL_law_131 ?_
  refine va_sld hx hb hX hbl hbA hS h2 dL_law_132 ?_
  obtain ⟨okx, okm, hans, T1, P1, R1, hR1⟩ := a_thing hR (xs (x + 1).toNatClampNeg) (xs (x + 2).toNatClampNeg)
  refine va_calli (va_runV (As := [.int (xs (x + 1).toNatClampNeg), .int (xs (x + 2).toNatClampNeg)]) (rest := []) ⟨hx, hb, hml, hown, hts⟩ (cX_thing l D q cI cL tp hq u (xs (x + 1).toNatClampNeg) (xs (x + 2).toNatClampNeg) okx) (cwV 2 hts gL_law_X3_thing rfl rfl rfl (by decide +kernel) ⟨(Nat.le_of_ble_eq_true rfl), (Nat.le_of_ble_eq_true rfl)⟩) ⟨PX_blind, va_recv hK hPX (ci := 6) (q0 := 0) rfl rfl, fun U hU hW => ⟨rfl, LC_PX hC hPX hS hU hW⟩⟩ rfl rfl hl.1 rfl (lv_room (Nat.le_of_ble_eq_true rfl)) dL_law_133 fit) hS (fun a _ h => LC_q hC a h) (LC_q hC) (fun r1 u1 t H1 locs1 ht hvm hu1 hB hz1 hk1 hS1 => ?_)
  have hPX := hB.1
  rw [ht] at hPX
  have hPM := LC_kM hC hPM hk1
  have hPB := LC_kB hC hPB hk1
  clear hB hk1 hz1 hvm ht
  generalize H1 = H at hPX hPM hPB hS1 ⊢
  generalize locs1 = locs at hS1 ⊢
  clear hS
  have hS := hS1
  clear hS1
  refine W.widen (k := cc) (n := ss) (Nat.le_refl _) (Nat.le_refl _) ?_
  refine lv_aload_n hx hb dL_law_136 rfl (lv_at hl 2 rfl) ?_
  refine lv_aload_n hx hb dL_law_137 rfl (lv_at hl 0 rfl) ?_
  refine lv_iload hx hb dL_law_138 (lv_at hl 4 rfl) ?_
  refine lv_iconst (v := 1) hx hb dL_law_140 (by decide) ?_
  refine lv_iadd hx hb dL_law_141 ?_
  refine va_sld hx hb hX hbl hbA hS h1 dL_law_142 ?_
  refine lv_aload_n hx hb dL_law_143 rfl (lv_at hl 0 rfl) ?_
  refine lv_iload hx hb dL_law_144 (lv_at hl 4 rfl) ?_
  refine lv_iconst (v := 2) hx hb dL_law_146 (by decide) ?_
  refine lv_iadd hx hb dL_law_147 ?_
  refine va_sld hx hb hX hbl hbA hS h2 dL_law_148 ?_
  refine va_calli (va_runV (As := [.int (xs (x + 1).toNatClampNeg), .int (xs (x + 2).toNatClampNeg)]) (rest := [.int r1]) ⟨hx, hb, hml, hown, hts⟩ (cM_thing l D z cI cL hz v (xs (x + 1).toNatClampNeg) (xs (x + 2).toNatClampNeg) okm) (cwV 2 hts gL_law_X4_thing rfl rfl rfl (by decide +kernel) ⟨(Nat.le_of_ble_eq_true rfl), (Nat.le_of_ble_eq_true rfl)⟩) ⟨PM_blind, va_recv hK hPM (ci := 7) (q0 := 0) rfl rfl, fun U hU hW => ⟨rfl, PM_fin hPM hK hU hW⟩⟩ rfl rfl hl.1 rfl (lv_room (Nat.le_of_ble_eq_true rfl)) dL_law_149 fit) hS (fun a _ h => LC_z hC a h) (LC_z hC) (fun r2 v1 t H1 locs1 ht hvm hv1 hB hz1 hk1 hS1 => ?_)
  have hPM := hB.1
  rw [ht] at hPM
  have hPX := LC_kX hC hPX hk1
  have hPB := LC_kB2 hC hPB hk1
  rw [← hv1] at hans hR1
  rw [← hu1] at hans hR1
  refine lv_icmp_eq (tgt := 846) hx hb dL_law_152 (by decide) (fun c1 => ?_) (fun c1 => ?_)
  · exact W.widen (k := cc + 1) (n := ss + 6) (by omega) (by omega) (kk u1 v1 f H1 locs1 ls ⟨hPX, hPM, hPB, hS1, ⟨T1, P1, R1, hR1⟩, hl⟩)
  · exact absurd hans c1
end LCases
