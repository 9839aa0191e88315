section Reads
variable {T P R : Nat} {u v : St}
theorem knR {n : Nat} {x : Int32} (hn : n ≤ 80) (e : x = nI n) (t : Int32) : (sM_in t 0 (x - 1) = 1 ∧ ∃ j, j < n ∧ t = nI j) ∨ (sM_in t 0 (x - 1) = 0 ∧ (t < 0 ∨ nI n ≤ t)) := by
  subst e
  rcases kn_cases (T := n) t hn with ⟨j, hj, rfl⟩ | h
  · exact Or.inl ⟨in_1 (nI_pos (by omega)) (by rw [pu_lt, pu_pred (by omega), nI_toInt (by omega)]; omega), j, hj, rfl⟩
  · refine Or.inr ⟨in_0 (h.imp id fun h => ?_), h⟩
    rw [pu_le, nI_toInt (by omega)] at h
    rw [pu_lt, pu_pred (by omega)]; omega
theorem knXP {n : Nat} (hn : n ≤ 80) (e : u.1 2 = nI n) {t : Int32} : (∀ j, j < n → t = nI j → sXP_know u t = 1) ∧ ((t < 0 ∨ nI n ≤ t) → sXP_know u t = 0) := by
  unfold sXP_know
  constructor
  · rintro j hj rfl
    rw [if_neg (nI_pos (by omega)), e, if_neg (nI_ge hj (by omega))]
  · intro h
    by_cases h1 : t < 0
    · rw [if_pos h1]
    · rw [if_neg h1, e, if_pos (h.resolve_left h1)]
theorem knXR {n : Nat} (hn : n ≤ 80) (e : u.1 3 = nI n) {t : Int32} : (∀ j, j < n → t = nI j → sXR_know u t = 1) ∧ ((t < 0 ∨ nI n ≤ t) → sXR_know u t = 0) := by
  unfold sXR_know
  constructor
  · rintro j hj rfl
    rw [if_neg (nI_pos (by omega)), e, if_neg (nI_ge hj (by omega))]
  · intro h
    by_cases h1 : t < 0
    · rw [if_pos h1]
    · rw [if_neg h1, e, if_pos (h.resolve_left h1)]
theorem a_slot (h : Rel T P R u v) (s : Int32) : Agr (okX_slot u s) (okM_slot v s) (sX_slot u s) (sM_slot v s).1 u (sM_slot v s).2 := by
  have h1 := Rel_thr h 0
  unfold Agr okX_slot okM_slot sX_slot sM_slot
  simp only [bnd_d, bnd_p, sl_in]
  generalize stI v 0 0 = v1 at h1 ⊢
  rcases in_cs s 0 3 0 3 (by decide) (by decide) (by decide) (by decide) with ⟨e, j, -, hj, rfl⟩ | ⟨e, -⟩
  · have hi : vp_in (nI j) 4 := vp_in_nI (by omega) (by decide)
    simp only [e, n10, if_false, not_false_eq_true, false_imp_iff, implies_true, true_imp_iff, and_true, true_and]
    rw [pu_ci (by omega)]
    exact ⟨hi, hi, (h1.2.2.2.2.1 j (by omega)).1, T, P, R, h1⟩
  · simp only [e, t00, if_true, not_true_eq_false, false_imp_iff, implies_true, and_true, true_and]
    exact ⟨T, P, R, h1⟩
theorem a_told (h : Rel T P R u v) (r w : Int32) : Agr (okX_told u r w) (okM_told v r w) (sX_told u r w) (sM_told v r w).1 u (sM_told v r w).2 := by
  have h1 := Rel_thr h 0
  obtain ⟨-, -, -, -, -, -, hR, hR', hb⟩ := h1.1
  unfold Agr okX_told okM_told sX_told sM_told
  simp only [bnd_d, bnd_p]
  generalize stI v 0 0 = v1 at h1 hR' ⊢
  rcases knR (by omega) hR' r with ⟨e, j, hj, rfl⟩ | ⟨e, hn⟩
  · have hi : vp_in (nI j) 16 := vp_in_nI (by omega) (by decide)
    have k1 := (knXR (by omega) hR).1 j hj rfl
    obtain ⟨a1, a2, a3, a4, a5, a6, -⟩ := h1.2.2.2.1 j hj
    simp only [e, k1, n10, if_false, not_false_eq_true, false_imp_iff, implies_true, true_imp_iff, and_true, true_and]
    rw [pu_ci (by omega), a5, a6]
    refine ⟨⟨fun _ => hi, fun _ _ => hi⟩, ⟨fun _ => hi, fun _ _ => hi⟩, ?_, T, P, R, ?_⟩
    · by_cases w0 : w = 0
      · rw [if_pos w0, if_pos w0]
      · rw [if_neg w0, if_neg w0]
        by_cases w1 : w = 1
        · rw [if_pos w1, if_pos w1]
        · rw [if_neg w1, if_neg w1]
    · by_cases w0 : w = 0
      · rw [if_pos w0]; exact h1
      · rw [if_neg w0]
        by_cases w1 : w = 1
        · rw [if_pos w1]; exact h1
        · rw [if_neg w1]; exact h1
  · have k0 := (knXR (by omega) hR).2 hn
    simp only [e, k0, t00, if_true, not_true_eq_false, false_imp_iff, implies_true, and_true, true_and]
    exact ⟨T, P, R, h1⟩
theorem a_count (h : Rel T P R u v) (w : Int32) : Agr (okX_count u w) (okM_count v w) (sX_count u w) (sM_count v w).1 u (sM_count v w).2 := by
  have h1 := Rel_thr h 0
  obtain ⟨hT, hT', -, hP, hP', -, hR, hR', -⟩ := h1.1
  obtain ⟨-, -, -, -, hF, hst, -⟩ := h1.2
  unfold Agr okX_count okM_count sX_count sM_count
  simp only [bnd_d, bnd_p, wn_in]
  generalize stI v 0 0 = v1 at h1 hT' hP' hR' hF hst ⊢
  have ix : ∀ j, 4 ≤ j → j ≤ 9 → nI j - 4 = nI (j - 4) ∧ nI j - 3 = nI (j - 4 + 1) := by
    intro j q1 q2
    have key : ∀ j : Fin 10, 4 ≤ j.val → nI j.val - 4 = nI (j.val - 4) ∧ nI j.val - 3 = nI (j.val - 4 + 1) := by decide +kernel
    exact key ⟨j, by omega⟩ q1
  refine ⟨⟨fun _ => trivial, fun _ => ⟨fun _ => trivial, fun _ => ⟨fun _ => trivial, fun _ => ⟨fun _ => trivial, fun _ => ⟨fun _ => trivial, fun c => ⟨?_, trivial⟩⟩⟩⟩⟩⟩, ⟨fun _ => trivial, fun _ => ⟨fun _ => trivial, fun _ => ⟨fun _ => trivial, fun _ => ⟨fun _ => trivial, fun _ => ⟨fun _ => trivial, fun c => ⟨?_, trivial⟩⟩⟩⟩⟩⟩, ?_, T, P, R, ?_⟩
  · rcases in_cs w 4 9 4 9 (by decide) (by decide) (by decide) (by decide) with ⟨-, j, q1, q2, rfl⟩ | ⟨e, -⟩
    · rw [(ix j q1 q2).1]; exact vp_in_nI (by omega) (by decide)
    · exact absurd e c
  · rcases in_cs w 4 9 4 9 (by decide) (by decide) (by decide) (by decide) with ⟨-, j, q1, q2, rfl⟩ | ⟨e, -⟩
    · rw [(ix j q1 q2).2]; exact vp_in_nI (by omega) (by decide)
    · exact absurd e c
  · by_cases w0 : w = 0
    · rw [if_pos w0, if_pos w0, hT, hT']
    · rw [if_neg w0, if_neg w0]
      by_cases w1 : w = 1
      · rw [if_pos w1, if_pos w1, hP, hP']
      · rw [if_neg w1, if_neg w1]
        by_cases w2 : w = 2
        · rw [if_pos w2, if_pos w2, hR, hR']
        · rw [if_neg w2, if_neg w2]
          by_cases w3 : w = 3
          · rw [if_pos w3, if_pos w3]; exact hst
          · rw [if_neg w3, if_neg w3]
            rcases in_cs w 4 9 4 9 (by decide) (by decide) (by decide) (by decide) with ⟨e, j, q1, q2, rfl⟩ | ⟨e, -⟩
            · have ne : ¬ sM_in (nI j) 4 9 = 0 := by rw [e]; decide
              rw [if_neg ne, if_neg ne, (ix j q1 q2).1, (ix j q1 q2).2, pu_ci (by omega), pu_ci (by omega)]
              exact hF (j - 4) (by omega)
            · rw [if_pos e, if_pos e]
  · repeat' split
    all_goals exact h1
/-- at a place of a row of numbers: the number -/
theorem a_put (h : Rel T P R u v) (t k i : Int32) (x : Int64) : Agr (okX_put u t k i x) (okM_put v t k i x) (sX_put u t k i x).1 (sM_put v t k i x).1 (sX_put u t k i x).2 (sM_put v t k i x).2 := by
  have h1 := Rel_thr h 0
  have hT := h.1.1
  have hT1 := h1.1.2.1
  have hb := h.1.2.2.1
  unfold Agr okX_put okM_put sX_put sM_put okXT_putNumber sXT_putNumber
  simp only [bnd_d, bnd_p, bnd2_d, bnd2_p, nk_in, pe_n]
  generalize stI v 0 0 = v1 at h1 hT1 ⊢
  have f0 := fndM (k := 0) (by decide) v1
  have f2 := fndM (k := 2) (by decide) v1
  rcases kn_cases t hb with ⟨j, hj, rfl⟩ | hn
  · have hv : vref T (nI j) := Or.inr ⟨j, hj, rfl⟩
    rw [knX1 hT hb hj, knM1 hT1 hb hj]
    rcases in_cs k 4 6 4 6 (by decide) (by decide) (by decide) (by decide) with ⟨e, kk, hk, hk', rfl⟩ | ⟨e, -⟩
    · have hv80 : vp_in (nI j) 80 := vp_in_nI (by omega) (by decide)
      have c1 : (nI j).toNatClampNeg = j := pu_ci (by omega)
      rcases reach_cs h1 hv (k := kk) hk (by omega) i with ⟨g1, gp, j', m, f, n, hj', ej, hm, rfl, hf, hf2, q1, q2, q3, q4, q5, q6, q7⟩ | ⟨g1, gp, j', hj', ej, q7⟩ | ⟨g1, e5, -⟩ | ⟨g1, gp, -⟩
      · have ejj : j = j' := (nI_eq (by omega) (by omega)).mp ej
        subst ejj
        have ea : sM_isA v1 (nI j) (nI kk) = 1 := by rw [ofM (by omega) q2]; exact q3
        have vi1 : vp_in (nI j * 6 + nI m) 480 := by rw [pu_ix]; exact vp_in_nI (by omega) (by decide)
        have vi2 : vp_in (6 * nI j + nI m) 480 := by rw [pu_ix']; exact vp_in_nI (by omega) (by decide)
        have cc : ∀ w : St, okX_counted w 1 ∧ sX_counted w 1 = (1, w) := fun w => cntX1 (Or.inl rfl) w
        rw [g1, c1]
        simp only [e, ea, q7, n10, if_false, if_true, not_false_eq_true, not_true_eq_false, false_imp_iff, implies_true, true_imp_iff, and_true, true_and, (cc _).2]
        refine ⟨⟨⟨okreach hT hb hv _ _, vi1⟩, (cc _).1⟩, ⟨okofM hb hv _, hv80, fun _ => vi2, fun _ => ⟨fun _ => vi2, fun _ => vi2⟩⟩, ?_, T, P, R, ?_⟩
        · repeat' split
          all_goals rfl
        · rw [pu_ix, pu_ix', pu_ci (n := 6 * j + m) (by omega)]
          unfold sXT_cutTo
          by_cases k4 : nI kk = 4
          · rw [if_pos k4, if_pos k4]; exact Rel_num h1 _ _
          · rw [if_neg k4, if_neg k4]
            by_cases k5 : nI kk = 5
            · have k6 : ¬ nI kk = 6 := by rw [k5]; decide
              rw [if_pos k5, if_neg k6]; exact Rel_num h1 _ _
            · have k6 : nI kk = 6 := by
                rcases (show kk = 4 ∨ kk = 5 ∨ kk = 6 by omega) with rfl | rfl | rfl
                · exact absurd (by decide) k4
                · exact absurd (by decide) k5
                · decide
              rw [if_neg k5, if_pos k6, cut_eq]; exact Rel_num h1 _ _
      · have ejj : j = j' := (nI_eq (by omega) (by omega)).mp ej
        subst ejj
        obtain ⟨f, n, hf, hn, e1, e2, -⟩ := h1.2.1 j hj
        have ea : sM_isA v1 (nI j) (nI kk) = 1 := by rw [ofM (by omega) e2, ← paM (v := v1) (by omega) e2]; exact gp
        have n1 : ¬ ((-23 : Int32) = 1) := by decide
        rw [g1, c1]
        simp only [e, ea, q7, n1, n10, t00, if_false, if_true, not_false_eq_true, not_true_eq_false, false_imp_iff, implies_true, true_imp_iff, and_true, true_and]
        obtain ⟨a1, a2, a3, a4⟩ := Agr_fnd h1 (k := 2) (by decide)
        exact ⟨⟨okreach hT hb hv _ _, a1⟩, ⟨okofM hb hv _, hv80, a2⟩, a3, a4⟩
      · exact absurd e5 (nI_ne5 (by omega))
      · obtain ⟨f, n, hf, hn, e1, e2, -⟩ := h1.2.1 j hj
        have ea : sM_isA v1 (nI j) (nI kk) = 0 := by rw [ofM (by omega) e2, ← paM (v := v1) (by omega) e2]; exact gp
        have n1 : ¬ ((-21 : Int32) = 1) := by decide
        rw [g1]
        simp only [e, ea, n1, n10, t00, if_false, if_true, not_false_eq_true, not_true_eq_false, false_imp_iff, implies_true, true_imp_iff, and_true, true_and]
        obtain ⟨a1, a2, a3, a4⟩ := Agr_fnd h1 (k := 0) (by decide)
        exact ⟨⟨okreach hT hb hv _ _, a1⟩, ⟨okofM hb hv _, a2⟩, a3, a4⟩
    · simp only [e, n10, t00, if_true, if_false, not_true_eq_false, not_false_eq_true, false_imp_iff, implies_true, true_imp_iff, and_true, true_and]
      exact ⟨T, P, R, h1⟩
  · rw [knX0 hT hn, knM0 hT1 hb hn]
    simp only [t00, if_true, not_true_eq_false, false_imp_iff, implies_true, and_true, true_and]
    exact ⟨T, P, R, h1⟩
end Reads
