theorem wn_in (x lo hi : Int32) : sX_within x lo hi = sM_in x lo hi := by unfold sX_within sM_in; exact Eq.refl _
theorem hk_in (k : Int32) : sX_isHolderKind k = sM_in k 7 13 := by unfold sX_isHolderKind; exact wn_in k 7 13
theorem nk_in (k : Int32) : sX_isNumbersKind k = sM_in k 4 6 := by unfold sX_isNumbersKind; exact wn_in k 4 6
theorem sd_in (k : Int32) : sX_isSide k = sM_in k 0 1 := by unfold sX_isSide; exact wn_in k 0 1
theorem sl_in (k : Int32) : sX_isSlot k = sM_in k 0 3 := by unfold sX_isSlot; exact wn_in k 0 3
theorem pe_n (x : Int32 × St) : (x.1, x.2) = x := by cases x; rfl
section Rows
variable {T P R : Nat} {u v : St}
/-- a kind 7 .. 13 is a row's: its form too -/
theorem of_row : ∀ f k, f < 14 → 7 ≤ k → k ≤ 13 → sM_isOf (nI f) (nI k) = 1 → 7 ≤ f ∧ f ≤ 13 := by
  intro f k hf h1 h2
  have key : ∀ f : Fin 14, ∀ k : Fin 14, 7 ≤ k.val → sM_isOf (nI f.val) (nI k.val) = 1 → 7 ≤ f.val ∧ f.val ≤ 13 := by decide +kernel
  exact key ⟨f, hf⟩ ⟨k, by omega⟩ h1
theorem takeX5 (k : Int32) : sXT_take u (-5) k = -22 := by unfold sXT_take; rw [if_pos rfl]
theorem takeX {t : Nat} (ht : t < 2 ^ 31) (k : Int32) : sXT_take u (nI t) k = if sXT_isOf u (nI t) k = 0 then -21 else 1 := by unfold sXT_take; rw [if_neg (nI_ne5 ht)]
theorem oktake {t : Int32} (hT : u.1 1 = nI T) (hb : T ≤ 80) (hv : vref T t) (k : Int32) : okXT_take u t k := ⟨fun _ => trivial, fun _ => ⟨okofX hT hb hv k, trivial⟩⟩
theorem okreach {t : Int32} (hT : u.1 1 = nI T) (hb : T ≤ 80) (hv : vref T t) (k i : Int32) : okXT_reach u t k i := by
  unfold okXT_reach
  rw [bnd_p]
  exact ⟨oktake hT hb hv k, fun _ => ⟨okhas hT hb hv i, trivial⟩, fun _ => trivial⟩
/-- what is reached at a place, for the kinds of rows -/
theorem reach_cs (h : Rel T P R u v) {t : Int32} (hv : vref T t) {k : Nat} (hk : 4 ≤ k) (hk' : k ≤ 13) (i : Int32) :
    (sXT_reach u t (nI k) i = 1 ∧ sM_passes v t (nI k) = 1 ∧ ∃ j m f n, j < T ∧ t = nI j ∧ m < 6 ∧ i = nI m ∧ f < 14 ∧ f ≠ 2 ∧ u.2.1 7 j = nI f ∧ v.2.1 1 j = nI f ∧ sM_isOf (nI f) (nI k) = 1 ∧ m < n ∧ n ≤ 6 ∧ u.2.1 9 j = nI n ∧ sM_in i 0 (v.2.1 3 j - 1) = 1) ∨
    (sXT_reach u t (nI k) i = -23 ∧ sM_passes v t (nI k) = 1 ∧ ∃ j, j < T ∧ t = nI j ∧ sM_in i 0 (v.2.1 3 j - 1) = 0) ∨
    (sXT_reach u t (nI k) i = -22 ∧ t = -5 ∧ sM_passes v t (nI k) = 1) ∨ (sXT_reach u t (nI k) i = -21 ∧ sM_passes v t (nI k) = 0 ∧ ∃ j, j < T ∧ t = nI j) := by
  have hh := h
  obtain ⟨⟨hT, hT', hb, -⟩, hRT, -⟩ := h
  unfold sXT_reach
  rw [bnd_d]
  rcases hv with rfl | ⟨j, hj, rfl⟩
  · rw [takeX5, if_neg (by decide)]
    exact Or.inr (Or.inr (Or.inl ⟨rfl, rfl, paM5 _⟩))
  · obtain ⟨f, n, hf, hn, e1, e2, e3, e4, e5, e6, e7⟩ := hRT j hj
    rw [takeX (by omega), ofX hT hb hj hf e1, paM (by omega) e2]
    rcases bM_isOf (nI f) (nI k) with ho | ho
    · rw [ho, if_pos rfl, if_neg (by decide)]
      exact Or.inr (Or.inr (Or.inr ⟨rfl, rfl, j, hj, rfl⟩))
    · have hf2 : f ≠ 2 := by
        intro q
        subst q
        rw [of_ne2 k hk hk'] at ho
        exact absurd ho (by decide)
      have htk : (if sM_isOf (nI f) (nI k) = 0 then (-21 : Int32) else 1) = 1 := by rw [ho]; rfl
      rw [htk, if_pos rfl, ho]
      rcases has_eq (f := f) hh hj hn (e6 hf2) e4 i with ⟨g1, g2, m, hm, rfl⟩ | ⟨g1, g2⟩
      · rw [g1, if_neg (by decide)]
        exact Or.inl ⟨rfl, rfl, j, m, f, n, hj, rfl, by omega, rfl, hf, hf2, e1, e2, ho, hm, hn, e6 hf2, g2⟩
      · rw [g1, if_pos rfl]
        exact Or.inr (Or.inl ⟨rfl, rfl, j, hj, rfl, g2⟩)
theorem Rel_held (h : Rel T P R u v) {j m : Nat} (hj : j < T) (hm : m < 6) {f : Nat} (hf : f ≠ 2) (hf' : f < 14) (ef : u.2.1 7 j = nI f) {o : Int32} (ho : vref T o) : Rel T P R (stA u 12 (6 * j + m) o) (stA v 5 (6 * j + m) o) := by
  obtain ⟨h1, h2, h3, h4, h5⟩ := h
  refine ⟨h1, fun t ht => ?_, h3, h4, h5⟩
  obtain ⟨f0, n0, a1, a2, a3, a4, a5, a6, a7, a8, a9⟩ := h2 t ht
  refine ⟨f0, n0, a1, a2, a3, a4, a5, a6, fun q => ?_, a8, fun i hi => ⟨fun q => ?_, (a9 i hi).2.1, ?_⟩⟩
  · obtain ⟨b1, b2, b3, b4⟩ := a7 q
    have hne : t ≠ j := by
      intro e
      subst e
      rw [a3] at ef
      exact hf (((nI_eq (by omega) (by omega)).mp ef).symm.trans q)
    refine ⟨b1, b2, ?_, ?_⟩
    · show u.2.1 10 t = upd (v.2.1 5) (6 * j + m) o (6 * t)
      rw [updN (by omega)]; exact b3
    · show u.2.1 11 t = upd (v.2.1 5) (6 * j + m) o (6 * t + 1)
      rw [updN (by omega)]; exact b4
  · show upd (u.2.1 12) (6 * j + m) o (6 * t + i) = upd (v.2.1 5) (6 * j + m) o (6 * t + i)
    by_cases e : 6 * t + i = 6 * j + m
    · rw [e, updS, updS]
    · rw [updN e, updN e]; exact (a9 i hi).1 q
  · show vref T (upd (v.2.1 5) (6 * j + m) o (6 * t + i))
    by_cases e : 6 * t + i = 6 * j + m
    · rw [e, updS]; exact ho
    · rw [updN e]; exact (a9 i hi).2.2
theorem Rel_num (h : Rel T P R u v) (k : Nat) (x : Int64) : Rel T P R (stL u k x) (stL v k x) := by
  obtain ⟨h1, h2, h3, h4, h5⟩ := h
  refine ⟨h1, fun t ht => ?_, h3, h4, h5⟩
  obtain ⟨f0, n0, a1, a2, a3, a4, a5, a6, a7, a8, a9⟩ := h2 t ht
  refine ⟨f0, n0, a1, a2, a3, a4, a5, a6, a7, a8, fun i hi => ⟨(a9 i hi).1, ?_, (a9 i hi).2.2⟩⟩
  show vp_updL u.2.2 k x (6 * t + i) = vp_updL v.2.2 k x (6 * t + i)
  by_cases e : 6 * t + i = k
  · rw [e, updLS, updLS]
  · rw [updLN e, updLN e]; exact (a9 i hi).2.1
theorem Rel_left (h : Rel T P R u v) {j : Nat} (hj : j < T) (ef : u.2.1 7 j = 2) {o : Int32} (ho : vref T o) : Rel T P R (stA u 10 j o) (stA v 5 (6 * j) o) := by
  obtain ⟨h1, h2, h3, h4, h5⟩ := h
  refine ⟨h1, fun t ht => ?_, h3, h4, h5⟩
  obtain ⟨f0, n0, a1, a2, a3, a4, a5, a6, a7, a8, a9⟩ := h2 t ht
  refine ⟨f0, n0, a1, a2, a3, a4, a5, a6, fun q => ?_, a8, fun i hi => ⟨fun q => ?_, (a9 i hi).2.1, ?_⟩⟩
  · obtain ⟨b1, b2, b3, b4⟩ := a7 q
    refine ⟨b1, b2, ?_, ?_⟩
    · show upd (u.2.1 10) j o t = upd (v.2.1 5) (6 * j) o (6 * t)
      by_cases e : t = j
      · subst e; rw [updS, updS]
      · rw [updN e, updN (by omega)]; exact b3
    · show u.2.1 11 t = upd (v.2.1 5) (6 * j) o (6 * t + 1)
      rw [updN (by omega)]; exact b4
  · show u.2.1 12 (6 * t + i) = upd (v.2.1 5) (6 * j) o (6 * t + i)
    have hne : t ≠ j := by
      intro e
      subst e
      rw [a3] at ef
      exact q ((nI_eq_l (by omega) 2 2 (by decide) (by decide)).mp ef)
    rw [updN (by omega)]; exact (a9 i hi).1 q
  · show vref T (upd (v.2.1 5) (6 * j) o (6 * t + i))
    by_cases e : 6 * t + i = 6 * j
    · rw [e, updS]; exact ho
    · rw [updN e]; exact (a9 i hi).2.2
theorem Rel_right (h : Rel T P R u v) {j : Nat} (hj : j < T) (ef : u.2.1 7 j = 2) {o : Int32} (ho : vref T o) : Rel T P R (stA u 11 j o) (stA v 5 (6 * j + 1) o) := by
  obtain ⟨h1, h2, h3, h4, h5⟩ := h
  refine ⟨h1, fun t ht => ?_, h3, h4, h5⟩
  obtain ⟨f0, n0, a1, a2, a3, a4, a5, a6, a7, a8, a9⟩ := h2 t ht
  refine ⟨f0, n0, a1, a2, a3, a4, a5, a6, fun q => ?_, a8, fun i hi => ⟨fun q => ?_, (a9 i hi).2.1, ?_⟩⟩
  · obtain ⟨b1, b2, b3, b4⟩ := a7 q
    refine ⟨b1, b2, ?_, ?_⟩
    · show u.2.1 10 t = upd (v.2.1 5) (6 * j + 1) o (6 * t)
      rw [updN (by omega)]; exact b3
    · show upd (u.2.1 11) j o t = upd (v.2.1 5) (6 * j + 1) o (6 * t + 1)
      by_cases e : t = j
      · subst e; rw [updS, updS]
      · rw [updN e, updN (by omega)]; exact b4
  · show u.2.1 12 (6 * t + i) = upd (v.2.1 5) (6 * j + 1) o (6 * t + i)
    have hne : t ≠ j := by
      intro e
      subst e
      rw [a3] at ef
      exact q ((nI_eq_l (by omega) 2 2 (by decide) (by decide)).mp ef)
    rw [updN (by omega)]; exact (a9 i hi).1 q
  · show vref T (upd (v.2.1 5) (6 * j + 1) o (6 * t + i))
    by_cases e : 6 * t + i = 6 * j + 1
    · rw [e, updS]; exact ho
    · rw [updN e]; exact (a9 i hi).2.2
theorem pe (x : Int32 × St) : (x.1, x.2) = x := rfl
/-- an act of laying or setting: both do it, or both find the same -/
def Act (T P R : Nat) (u v : St) (okx okm : Prop) (a b : Int32 × St) : Prop := okx ∧ okm ∧ ((∃ w z, a = (1, w) ∧ b = (1, z) ∧ Rel T P R w z) ∨ ∃ f r, f < 6 ∧ r = fnd f ∧ a = (r, u) ∧ b = sM_finds v r)
theorem le0 {j : Nat} (h : j < 2 ^ 31) : 0 ≤ nI j := nI_pos' h
theorem nle5 : ¬ (0 : Int32) ≤ (-5) := by decide
theorem a_layIn (h : Rel T P R u v) {t o : Int32} (ht : vref T t) (ho : vref T o) {k : Nat} (hk : 7 ≤ k) (hk' : k ≤ 13) (i : Int32) : Act T P R u v (okXT_layIn u t (nI k) i o) (okM_lays v t (nI k) i o) (sXT_layIn u t (nI k) i o) (sM_lays v t (nI k) i o) := by
  have hT := h.1.1
  have hb := h.1.2.2.1
  have f0 := (fndM (k := 0) (by decide) v).1
  have f1 := (fndM (k := 1) (by decide) v).1
  have f2 := (fndM (k := 2) (by decide) v).1
  have f3 := (fndM (k := 3) (by decide) v).1
  unfold Act okXT_layIn okM_lays sXT_layIn sM_lays
  simp only [bnd_d, bnd_p, bnd2_d, bnd2_p, pe_n]
  rw [mb_eq h ht, mb_eq h ho, part_eq k hk hk']
  rcases bM_passes v t (nI k) with e1 | e1
  · simp only [e1, t00, if_true, not_true_eq_false, false_imp_iff, implies_true, true_imp_iff, and_true, true_and]
    exact ⟨okmbX hT hb ht _, ⟨okpaM hb ht _, f0⟩, Or.inr ⟨0, -21, by decide, rfl, rfl, rfl⟩⟩
  · rcases bM_passes v o (sM_of (nI k)) with e2 | e2
    · simp only [e1, e2, n10, t00, if_true, if_false, not_true_eq_false, not_false_eq_true, false_imp_iff, implies_true, true_imp_iff, and_true, true_and]
      exact ⟨⟨okmbX hT hb ht _, okpart, okmbX hT hb ho _⟩, ⟨okpaM hb ht _, okpaM hb ho _, f0⟩, Or.inr ⟨0, -21, by decide, rfl, rfl, rfl⟩⟩
    · simp only [e1, e2, n10, if_false, not_false_eq_true, false_imp_iff, implies_true, true_imp_iff, and_true, true_and]
      rcases reach_cs h ht (k := k) (by omega) hk' i with ⟨g1, -, j, m, f, n, hj, rfl, hm, rfl, hf, hf2, q1, q2, q3, q4, q5, q6, q7⟩ | ⟨g1, -, j, hj, rfl, q7⟩ | ⟨g1, rfl, -⟩ | ⟨g1, g2, -⟩
      · obtain ⟨r1, r2⟩ := of_row f k hf hk hk' q3
        have c1 : (nI j).toNatClampNeg = j := pu_ci (by omega)
        rw [g1, c1, q1, q2, part_eq f r1 r2, mb_eq h ho]
        have hv80 : vp_in (nI j) 80 := vp_in_nI (by omega) (by decide)
        have l0 : (0 : Int32) ≤ nI j := le0 (by omega)
        have v1 : vp_in (nI j * 6 + nI m) 480 := by rw [pu_ix]; exact vp_in_nI (by omega) (by decide)
        have v2 : vp_in (6 * nI j + nI m) 480 := by rw [pu_ix']; exact vp_in_nI (by omega) (by decide)
        rcases bM_passes v o (sM_of (nI f)) with e3 | e3
        · simp only [q7, e3, l0, n10, t00, if_true, if_false, not_true_eq_false, not_false_eq_true, false_imp_iff, implies_true, true_imp_iff, and_true, true_and]
          exact ⟨⟨okmbX hT hb ht _, okpart, okmbX hT hb ho _, okreach hT hb ht _ _, hv80, okpart, okmbX hT hb ho _⟩, ⟨okpaM hb ht _, okpaM hb ho _, hv80, hv80, okpaM hb ho _, f3⟩, Or.inr ⟨3, -24, by decide, rfl, rfl, rfl⟩⟩
        · simp only [q7, e3, l0, n10, if_true, if_false, not_true_eq_false, not_false_eq_true, false_imp_iff, implies_true, true_imp_iff, and_true, true_and]
          refine ⟨⟨okmbX hT hb ht _, okpart, okmbX hT hb ho _, okreach hT hb ht _ _, hv80, okpart, okmbX hT hb ho _, v1⟩, ⟨okpaM hb ht _, okpaM hb ho _, hv80, hv80, okpaM hb ho _, v2⟩, Or.inl ⟨_, _, rfl, rfl, ?_⟩⟩
          rw [pu_ix, pu_ix', pu_ci (by omega)]
          exact Rel_held h hj hm hf2 hf q1 ho
      · have c1 : (nI j).toNatClampNeg = j := pu_ci (by omega)
        have l0 : (0 : Int32) ≤ nI j := le0 (by omega)
        have n1 : ¬ ((-23 : Int32) = 1) := by decide
        have hv80 : vp_in (nI j) 80 := vp_in_nI (by omega) (by decide)
        rw [g1, c1]
        simp only [q7, l0, n1, t00, if_true, if_false, not_true_eq_false, not_false_eq_true, false_imp_iff, implies_true, true_imp_iff, and_true, true_and]
        exact ⟨⟨okmbX hT hb ht _, okpart, okmbX hT hb ho _, okreach hT hb ht _ _⟩, ⟨okpaM hb ht _, okpaM hb ho _, hv80, f2⟩, Or.inr ⟨2, -23, by decide, rfl, rfl, rfl⟩⟩
      · have n1 : ¬ ((-22 : Int32) = 1) := by decide
        rw [g1]
        simp only [nle5, n1, if_true, if_false, not_true_eq_false, not_false_eq_true, false_imp_iff, implies_true, true_imp_iff, and_true, true_and]
        exact ⟨⟨okmbX hT hb ht _, okpart, okmbX hT hb ho _, okreach hT hb ht _ _⟩, ⟨okpaM hb ht _, okpaM hb ho _, f1⟩, Or.inr ⟨1, -22, by decide, rfl, rfl, rfl⟩⟩
      · rw [e1] at g2
        exact absurd g2 (by decide)
/-- an act, counted on the class's side -/
theorem Agr_act {okx okm : Prop} {a b : Int32 × St} (h : Rel T P R u v) (ha : Act T P R u v okx okm a b) : okx ∧ okm ∧ okX_counted a.2 a.1 ∧ (sX_counted a.2 a.1).1 = b.1 ∧ (∃ T P R, Rel T P R (sX_counted a.2 a.1).2 b.2) ∧ ((sX_counted a.2 a.1).1 = 1 ∨ (sX_counted a.2 a.1).1 < 0) ∧ Rel T P R (sX_counted a.2 a.1).2 b.2 := by
  obtain ⟨h1, h2, ⟨w, z, rfl, rfl, h3⟩ | ⟨f, r, hf, rfl, rfl, rfl⟩⟩ := ha
  · obtain ⟨o1, o2⟩ := cntX1 (r := 1) (Or.inl rfl) w
    refine ⟨h1, h2, o1, ?_, ?_, ?_, ?_⟩
    · show (sX_counted w 1).1 = 1; rw [o2]
    · refine ⟨T, P, R, ?_⟩
      show Rel T P R (sX_counted w 1).2 z
      rw [o2]; exact h3
    · refine Or.inl ?_
      show (sX_counted w 1).1 = 1
      rw [o2]
    · show Rel T P R (sX_counted w 1).2 z
      rw [o2]; exact h3
  · obtain ⟨o1, o2⟩ := cntX hf u
    obtain ⟨o3, o4⟩ := fndM hf v
    have hrel : Rel T P R (sX_counted u (fnd f)).2 (sM_finds v (fnd f)).2 := by rw [o2, o4]; exact Rel_fnd h hf
    refine ⟨h1, h2, o1, ?_, ⟨T, P, R, hrel⟩, ?_, hrel⟩
    · show (sX_counted u (fnd f)).1 = _
      rw [o2, o4]
    · refine Or.inr ?_
      show (sX_counted u (fnd f)).1 < 0
      rw [o2]; exact (fnd_ix f hf).2.2.2.1
theorem a_lay (h : Rel T P R u v) (t k i o : Int32) : Agr (okX_lay u t k i o) (okM_lay v t k i o) (sX_lay u t k i o).1 (sM_lay v t k i o).1 (sX_lay u t k i o).2 (sM_lay v t k i o).2 := by
  have h1 := Rel_thr h 0
  have hT := h.1.1
  have hT1 := h1.1.2.1
  have hb := h.1.2.2.1
  unfold Agr okX_lay okM_lay sX_lay sM_lay
  simp only [bnd_d, bnd_p, bnd2_d, bnd2_p, hk_in, pe_n]
  generalize stI v 0 0 = v1 at h1 hT1 ⊢
  rcases kn_cases t hb with ⟨j, hj, rfl⟩ | hn
  · rw [knX1 hT hb hj, knM1 hT1 hb hj]
    rcases kno_eq (t := o) hT hT1 hb with ⟨e1, e2, ho⟩ | ⟨e1, e2⟩
    · rcases in_cs k 7 13 7 13 (by decide) (by decide) (by decide) (by decide) with ⟨e, kk, hk, hk', rfl⟩ | ⟨e, -⟩
      · obtain ⟨c1, c2, c3, c4, c5, -⟩ := Agr_act h1 (a_layIn h1 (Or.inr ⟨j, hj, rfl⟩) ho hk hk' i)
        simp only [e, e1, e2, n10, if_false, not_false_eq_true, false_imp_iff, implies_true, true_imp_iff, and_true, true_and]
        exact ⟨⟨c1, c3⟩, c2, c4, c5⟩
      · simp only [e, e1, e2, n10, t00, if_true, if_false, not_true_eq_false, not_false_eq_true, false_imp_iff, implies_true, true_imp_iff, and_true, true_and]
        exact ⟨T, P, R, h1⟩
    · simp only [e1, e2, n10, t00, if_true, if_false, not_true_eq_false, not_false_eq_true, false_imp_iff, implies_true, true_imp_iff, and_true, true_and]
      exact ⟨T, P, R, h1⟩
  · rw [knX0 hT hn, knM0 hT1 hb hn]
    simp only [t00, if_true, not_true_eq_false, false_imp_iff, implies_true, and_true, true_and]
    exact ⟨T, P, R, h1⟩
end Rows
