section Pat
variable {T P R : Nat} {u v : St}
theorem heldX (hT : u.1 1 = nI T) (hb : T ≤ 80) {j m n : Nat} (hj : j < T) (hp : u.2.1 9 j = nI n) (hm : m < n) (hn : n ≤ 6) : okXT_heldIn u (nI j) (nI m) ∧ sXT_heldIn u (nI j) (nI m) = u.2.1 12 (6 * j + m) ∧ okXT_numberIn u (nI j) (nI m) ∧ sXT_numberIn u (nI j) (nI m) = u.2.2 (6 * j + m) := by
  have hv : vref T (nI j) := Or.inr ⟨j, hj, rfl⟩
  have hp1 : sXT_hasPlace u (nI j) (nI m) = 1 := by
    unfold sXT_hasPlace
    rw [knX1 hT hb hj, if_neg (by decide), if_neg (nI_pos (by omega)), pu_ci (by omega), hp, if_neg (nI_ge hm (by omega))]
  have hne : ¬ sXT_hasPlace u (nI j) (nI m) = 0 := by rw [hp1]; decide
  have hi : vp_in (nI j * 6 + nI m) 480 := by rw [pu_ix]; exact vp_in_nI (by omega) (by decide)
  refine ⟨⟨okhas hT hb hv _, fun _ => trivial, fun _ => ⟨hi, trivial⟩⟩, ?_, ⟨okhas hT hb hv _, fun _ => trivial, fun _ => ⟨hi, trivial⟩⟩, ?_⟩
  · unfold sXT_heldIn
    rw [if_neg hne, pu_ix, pu_ci (by omega)]
  · unfold sXT_numberIn
    rw [if_neg hne, pu_ix, pu_ci (by omega)]
theorem a_at (h : Rel T P R u v) (t k i : Int32) : Agr (okX_at u t k i) (okM_at v t k i) (sX_at u t k i).1 (sM_at v t k i).1 (sX_at u t k i).2 (sM_at v t k i).2 := by
  have h1 := Rel_thr h 0
  have hT := h.1.1
  have hT1 := h1.1.2.1
  have hb := h.1.2.2.1
  unfold Agr okX_at okM_at sX_at sM_at okX_halfOf sX_halfOf
  simp only [bnd_d, bnd_p, bnd2_d, bnd2_p, hk_in, sd_in, pe_n]
  generalize stI v 0 0 = v1 at h1 hT1 ⊢
  rcases kn_cases t hb with ⟨j, hj, rfl⟩ | hn
  · have hv : vref T (nI j) := Or.inr ⟨j, hj, rfl⟩
    have hv80 : vp_in (nI j) 80 := vp_in_nI (by omega) (by decide)
    have c1 : (nI j).toNatClampNeg = j := pu_ci (by omega)
    obtain ⟨f, n, hf, hn, e1, e2, e3, e4, e5, e6, e7⟩ := h1.2.1 j hj
    rw [knX1 hT hb hj, knM1 hT1 hb hj, ofX hT hb hj hf e1, ofM (by omega) e2, c1]
    by_cases k2 : k = 2
    · subst k2
      rcases in_cs i 0 1 0 1 (by decide) (by decide) (by decide) (by decide) with ⟨e, m, -, hm, rfl⟩ | ⟨e, -⟩
      · have vi2 : vp_in (6 * nI j + nI m) 480 := by rw [pu_ix']; exact vp_in_nI (by omega) (by decide)
        rw [of2_f f hf, pu_ix', pu_ci (n := 6 * j + m) (by omega)]
        by_cases hf2 : f = 2
        · obtain ⟨n2, q1, q2, q3⟩ := e5 hf2
          have es : sM_in (nI m) 0 (v1.2.1 3 j - 1) = 1 := by
            rw [e4, n2]
            exact in_1 (nI_pos (by omega)) (by rw [pu_lt, pu_pred (by omega), nI_toInt (by omega)]; omega)
          have hk1 : sXT_know u (nI j) = 1 := knX1 hT hb hj
          have hne : ¬ sXT_know u (nI j) = 0 := by rw [hk1]; decide
          have okh : okXT_heldHalf u (nI j) (nI m) := ⟨fun _ => trivial, fun _ => ⟨fun _ => ⟨hv80, trivial⟩, fun _ => ⟨hv80, trivial⟩⟩⟩
          have eh : sXT_heldHalf u (nI j) (nI m) = v1.2.1 5 (6 * j + m) := by
            unfold sXT_heldHalf
            rw [if_neg hne, c1]
            rcases (show m = 0 ∨ m = 1 by omega) with rfl | rfl
            · rw [if_pos nI_0]; exact q2
            · rw [if_neg (by decide)]; exact q3
          rw [if_pos hf2]
          simp only [e, es, eh, n10, if_false, if_true, not_false_eq_true, not_true_eq_false, false_imp_iff, implies_true, true_imp_iff, and_true, true_and]
          exact ⟨⟨okofX hT hb hv _, okh⟩, ⟨okofM hb hv _, hv80, by rw [← pu_ix']; exact vi2⟩, T, P, R, h1⟩
        · obtain ⟨a1, a2, a3, a4⟩ := Agr_fnd h1 (k := 0) (by decide)
          rw [if_neg hf2]
          simp only [e, n10, t00, if_false, if_true, not_false_eq_true, not_true_eq_false, false_imp_iff, implies_true, true_imp_iff, and_true, true_and]
          exact ⟨⟨okofX hT hb hv _, a1⟩, ⟨okofM hb hv _, a2⟩, a3, a4⟩
      · simp only [e, n10, t00, if_true, if_false, not_true_eq_false, not_false_eq_true, false_imp_iff, implies_true, true_imp_iff, and_true, true_and]
        exact ⟨T, P, R, h1⟩
    · rcases in_cs k 7 13 7 13 (by decide) (by decide) (by decide) (by decide) with ⟨e, kk, hk, hk', rfl⟩ | ⟨e, -⟩
      · rcases reach_cs h1 hv (k := kk) (by omega) hk' i with ⟨g1, gp, j', m, f', n', hj', ej, hm, rfl, hf', hf2, q1, q2, q3, q4, q5, q6, q7⟩ | ⟨g1, gp, j', hj', ej, q7⟩ | ⟨g1, e5', -⟩ | ⟨g1, gp, -⟩
        · have ejj : j = j' := (nI_eq (by omega) (by omega)).mp ej
          subst ejj
          have eff : f = f' := by rw [q1] at e1; exact ((nI_eq (by omega) (by omega)).mp e1).symm
          subst eff
          obtain ⟨x1, x2⟩ := cntX1 (r := 1) (Or.inl rfl) u
          obtain ⟨y1, y2, -⟩ := heldX hT hb hj q6 q4 q5
          have vi2 : vp_in (6 * nI j + nI m) 480 := by rw [pu_ix']; exact vp_in_nI (by omega) (by decide)
          rw [g1]
          simp only [e, k2, q3, q7, x2, y2, n10, if_false, if_true, not_false_eq_true, not_true_eq_false, false_imp_iff, implies_true, true_imp_iff, and_true, true_and]
          refine ⟨⟨okreach hT hb hv _ _, x1, y1⟩, ⟨okofM hb hv _, hv80, vi2⟩, ?_, T, P, R, h1⟩
          rw [pu_ix', pu_ci (n := 6 * j + m) (by omega)]
          exact (e7 m (by omega)).1 hf2
        · have ejj : j = j' := (nI_eq (by omega) (by omega)).mp ej
          subst ejj
          have ea : sM_isOf (nI f) (nI kk) = 1 := by rw [← paM (v := v1) (by omega) e2]; exact gp
          obtain ⟨a1, a2, a3, a4⟩ := Agr_fnd h1 (k := 2) (by decide)
          have x2 := (cntX (k := 2) (by decide) u).2
          have n1 : ¬ ((sX_counted u (-23)).1 = 1) := by rw [show sX_counted u (-23) = _ from x2]; exact (fnd_ix 2 (by decide)).2.2.2.2.1
          rw [g1]
          simp only [e, k2, ea, q7, n1, pe_n, n10, t00, if_false, if_true, not_false_eq_true, not_true_eq_false, false_imp_iff, implies_true, true_imp_iff, and_true, true_and]
          exact ⟨⟨okreach hT hb hv _ _, a1⟩, ⟨okofM hb hv _, hv80, a2⟩, a3, a4⟩
        · exact absurd e5' (nI_ne5 (by omega))
        · have ea : sM_isOf (nI f) (nI kk) = 0 := by rw [← paM (v := v1) (by omega) e2]; exact gp
          obtain ⟨a1, a2, a3, a4⟩ := Agr_fnd h1 (k := 0) (by decide)
          have x2 := (cntX (k := 0) (by decide) u).2
          have n1 : ¬ ((sX_counted u (-21)).1 = 1) := by rw [show sX_counted u (-21) = _ from x2]; exact (fnd_ix 0 (by decide)).2.2.2.2.1
          rw [g1]
          simp only [e, k2, ea, n1, pe_n, n10, t00, if_false, if_true, not_false_eq_true, not_true_eq_false, false_imp_iff, implies_true, true_imp_iff, and_true, true_and]
          exact ⟨⟨okreach hT hb hv _ _, a1⟩, ⟨okofM hb hv _, a2⟩, a3, a4⟩
      · simp only [e, k2, n10, t00, if_true, if_false, not_true_eq_false, not_false_eq_true, false_imp_iff, implies_true, true_imp_iff, and_true, true_and]
        exact ⟨T, P, R, h1⟩
  · rw [knX0 hT hn, knM0 hT1 hb hn]
    simp only [t00, if_true, not_true_eq_false, false_imp_iff, implies_true, and_true, true_and]
    exact ⟨T, P, R, h1⟩
end Pat
