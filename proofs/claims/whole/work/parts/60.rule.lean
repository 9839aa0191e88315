section Rule
variable {T P R : Nat} {u v : St}
theorem pk_eq2 {n : Nat} (hn : n ≤ 80) (e : u.1 2 = nI n) (e' : v.1 2 = nI n) (t : Int32) : sXP_know u t = sM_isPattern v t := by
  unfold sM_isPattern
  rcases knR hn e' t with ⟨g, j, hj, rfl⟩ | ⟨g, h⟩
  · rw [g, (knXP hn e).1 j hj rfl]
  · rw [g, (knXP hn e).2 h]
/-- sort and first number: as told, on both sides -/
theorem told_eq (s a : Int32) : (sX_isAsTold s a = 0 ∧ (sM_in s 0 13 = 0 ∨ (sM_in s 0 13 = 1 ∧ sM_isWell s a = 0))) ∨ (sX_isAsTold s a = 1 ∧ sM_in s 0 13 = 1 ∧ sM_isWell s a = 1) := by
  rcases in_cs s 0 13 0 13 (by decide) (by decide) (by decide) (by decide) with ⟨e, j, -, hj, rfl⟩ | ⟨e, hne⟩
  · have key : sX_isAsTold (nI j) a = sM_isWell (nI j) a := by
      unfold sX_isAsTold sM_isWell
      simp only [wn_in, hk_in, nk_in, sl_in, e]
    rcases bM_isWell (nI j) a with w | w
    · exact Or.inl ⟨key.trans w, Or.inr ⟨e, w⟩⟩
    · exact Or.inr ⟨key.trans w, e, w⟩
  · have n := fun k (hk : k ≤ 13) => hne k (Nat.zero_le k) hk
    refine Or.inl ⟨?_, Or.inl e⟩
    unfold sX_isAsTold
    have n0 : ¬ s = 0 := n 0 (by decide)
    have n1 : ¬ s = 1 := n 1 (by decide)
    have n2 : ¬ s = 2 := n 2 (by decide)
    have n3 : ¬ s = 3 := n 3 (by decide)
    have n4 : ¬ s = 4 := n 4 (by decide)
    have n5 : ¬ s = 5 := n 5 (by decide)
    have n6 : ¬ s = 6 := n 6 (by decide)
    have n7 : ¬ s = 7 := n 7 (by decide)
    have n8 : ¬ s = 8 := n 8 (by decide)
    have n9 : ¬ s = 9 := n 9 (by decide)
    have n10 : ¬ s = 10 := n 10 (by decide)
    have n11 : ¬ s = 11 := n 11 (by decide)
    have n12 : ¬ s = 12 := n 12 (by decide)
    have n13 : ¬ s = 13 := n 13 (by decide)
    rw [if_neg n0, if_neg n1, if_neg n2, if_neg n3, if_neg n4, if_neg n5, if_neg n6, if_neg n7, if_neg n8, if_neg n9, if_neg n10, if_neg n11, if_neg n12, if_neg n13, wn_in]
    exact e
theorem names_eq {n : Nat} (hn : n ≤ 80) (e : u.1 2 = nI n) (e' : v.1 2 = nI n) (s a b c : Int32) : sX_namesKnownPatterns u s a b c = sM_areKnown v s a b c := by
  unfold sX_namesKnownPatterns sM_areKnown
  simp only [pk_eq2 hn e e']
theorem pat_in {n : Nat} (hn : n ≤ 80) (e' : v.1 2 = nI n) {t : Int32} (h : sM_isPattern v t = 1) : ∃ j, j < n ∧ t = nI j := by
  unfold sM_isPattern at h
  rcases knR hn e' t with ⟨g, j, hj, rfl⟩ | ⟨g, -⟩
  · exact ⟨j, hj, rfl⟩
  · rw [g] at h; exact absurd h (by decide)
theorem ak1 {a b c : Int32} : sM_areKnown v (nI 1) a b c = sM_isPattern v b := by unfold sM_areKnown; rw [if_pos (by decide)]
theorem ak3 {a b c : Int32} : sM_areKnown v (nI 3) a b c = (if sM_isPattern v a = 0 then (0 : Int32) else if sM_isPattern v b = 0 then 0 else 1) := by unfold sM_areKnown; rw [if_neg (by decide), if_neg (by decide), if_pos (by decide)]
theorem ak4 {a b c : Int32} : sM_areKnown v (nI 4) a b c = sM_isPattern v b := by unfold sM_areKnown; rw [if_neg (by decide), if_neg (by decide), if_neg (by decide), if_pos (by decide)]
theorem ak5 {a b c : Int32} : sM_areKnown v (nI 5) a b c = sM_isPattern v c := by unfold sM_areKnown; rw [if_neg (by decide), if_neg (by decide), if_neg (by decide), if_neg (by decide), if_pos (by decide)]
theorem ak7 {a b c : Int32} : sM_areKnown v (nI 7) a b c = (if sM_isPattern v a = 0 then (0 : Int32) else if sM_isPattern v b = 0 then 0 else 1) := by unfold sM_areKnown; rw [if_neg (by decide), if_neg (by decide), if_neg (by decide), if_neg (by decide), if_neg (by decide), if_neg (by decide), if_pos (by decide)]
theorem ak8 {a b c : Int32} : sM_areKnown v (nI 8) a b c = (if sM_isPattern v a = 0 then (0 : Int32) else if sM_isPattern v b = 0 then 0 else 1) := by unfold sM_areKnown; rw [if_neg (by decide), if_neg (by decide), if_neg (by decide), if_neg (by decide), if_neg (by decide), if_neg (by decide), if_neg (by decide), if_pos (by decide)]
theorem ak9 {a b c : Int32} : sM_areKnown v (nI 9) a b c = sM_isPattern v a := by unfold sM_areKnown; rw [if_neg (by decide), if_neg (by decide), if_neg (by decide), if_neg (by decide), if_neg (by decide), if_neg (by decide), if_neg (by decide), if_neg (by decide), if_pos (by decide)]
theorem iw4 {a : Int32} : sM_isWell (nI 4) a = sM_in a 7 13 := by unfold sM_isWell; rw [if_neg (by decide), if_neg (by decide), if_neg (by decide), if_neg (by decide), if_pos (by decide)]
theorem iw5 {a : Int32} : sM_isWell (nI 5) a = sM_in a 7 13 := by unfold sM_isWell; rw [if_neg (by decide), if_neg (by decide), if_neg (by decide), if_neg (by decide), if_neg (by decide), if_pos (by decide)]
theorem iw6 {a : Int32} : sM_isWell (nI 6) a = sM_in a 4 6 := by unfold sM_isWell; rw [if_neg (by decide), if_neg (by decide), if_neg (by decide), if_neg (by decide), if_neg (by decide), if_neg (by decide), if_pos (by decide)]
theorem iw10 {a : Int32} : sM_isWell (nI 10) a = sM_in a 0 3 := by unfold sM_isWell; rw [if_neg (by decide), if_neg (by decide), if_neg (by decide), if_neg (by decide), if_neg (by decide), if_neg (by decide), if_neg (by decide), if_neg (by decide), if_neg (by decide), if_neg (by decide), if_pos (by decide)]
theorem iw11 {a : Int32} : sM_isWell (nI 11) a = sM_in a 0 3 := by unfold sM_isWell; rw [if_neg (by decide), if_neg (by decide), if_neg (by decide), if_neg (by decide), if_neg (by decide), if_neg (by decide), if_neg (by decide), if_neg (by decide), if_neg (by decide), if_neg (by decide), if_neg (by decide), if_pos (by decide)]
theorem iw13 {a : Int32} : sM_isWell (nI 13) a = sM_in a 4 13 := by unfold sM_isWell; rw [if_neg (by decide), if_neg (by decide), if_neg (by decide), if_neg (by decide), if_neg (by decide), if_neg (by decide), if_neg (by decide), if_neg (by decide), if_neg (by decide), if_neg (by decide), if_neg (by decide), if_neg (by decide), if_neg (by decide), if_pos (by decide)]
/-- what a pattern that was told well names -/
theorem pat_named {n : Nat} (hn : n ≤ 80) (e' : v.1 2 = nI n) {s : Nat} (hs : s < 14) {a b c : Int32} (hw : sM_isWell (nI s) a = 1) (hk : sM_areKnown v (nI s) a b c = 1) :
    (s = 3 ∨ s = 7 ∨ s = 8 ∨ s = 9 → ∃ j, j < n ∧ a = nI j) ∧ (s = 1 ∨ s = 3 ∨ s = 4 ∨ s = 7 ∨ s = 8 → ∃ j, j < n ∧ b = nI j) ∧ (s = 5 → ∃ j, j < n ∧ c = nI j) ∧ (s = 10 ∨ s = 11 → ∃ j, j < 4 ∧ a = nI j) ∧ (s = 4 ∨ s = 5 ∨ s = 6 ∨ s = 13 → ∃ j, 4 ≤ j ∧ j ≤ 13 ∧ a = nI j) := by
  have both : ∀ {x y : Int32}, (if sM_isPattern v x = 0 then (0 : Int32) else if sM_isPattern v y = 0 then 0 else 1) = 1 → (∃ j, j < n ∧ x = nI j) ∧ ∃ j, j < n ∧ y = nI j := by
    intro x y q
    rcases bM_isPattern v x with g | g
    · rw [g, if_pos rfl] at q; exact absurd q (by decide)
    · rw [g, if_neg (by decide)] at q
      rcases bM_isPattern v y with g2 | g2
      · rw [g2, if_pos rfl] at q; exact absurd q (by decide)
      · exact ⟨pat_in hn e' g, pat_in hn e' g2⟩
  refine ⟨fun q => ?_, fun q => ?_, fun q => ?_, fun q => ?_, fun q => ?_⟩
  · rcases q with rfl | rfl | rfl | rfl
    · rw [ak3] at hk; exact (both hk).1
    · rw [ak7] at hk; exact (both hk).1
    · rw [ak8] at hk; exact (both hk).1
    · rw [ak9] at hk; exact pat_in hn e' hk
  · rcases q with rfl | rfl | rfl | rfl | rfl
    · rw [ak1] at hk; exact pat_in hn e' hk
    · rw [ak3] at hk; exact (both hk).2
    · rw [ak4] at hk; exact pat_in hn e' hk
    · rw [ak7] at hk; exact (both hk).2
    · rw [ak8] at hk; exact (both hk).2
  · subst q; rw [ak5] at hk; exact pat_in hn e' hk
  · have hw' : sM_in a 0 3 = 1 := by
      rcases q with rfl | rfl
      · rw [iw10] at hw; exact hw
      · rw [iw11] at hw; exact hw
    rcases in_cs a 0 3 0 3 (by decide) (by decide) (by decide) (by decide) with ⟨-, j, -, hj, rfl⟩ | ⟨g, -⟩
    · exact ⟨j, by omega, rfl⟩
    · rw [g] at hw'; exact absurd hw' (by decide)
  · rcases q with rfl | rfl | rfl | rfl
    · rcases in_cs a 7 13 7 13 (by decide) (by decide) (by decide) (by decide) with ⟨-, j, h1, hj, rfl⟩ | ⟨g, -⟩
      · exact ⟨j, by omega, by omega, rfl⟩
      · have hw' : sM_in a 7 13 = 1 := by rw [iw4] at hw; exact hw
        rw [g] at hw'; exact absurd hw' (by decide)
    · rcases in_cs a 7 13 7 13 (by decide) (by decide) (by decide) (by decide) with ⟨-, j, h1, hj, rfl⟩ | ⟨g, -⟩
      · exact ⟨j, by omega, by omega, rfl⟩
      · have hw' : sM_in a 7 13 = 1 := by rw [iw5] at hw; exact hw
        rw [g] at hw'; exact absurd hw' (by decide)
    · rcases in_cs a 4 6 4 6 (by decide) (by decide) (by decide) (by decide) with ⟨-, j, h1, hj, rfl⟩ | ⟨g, -⟩
      · exact ⟨j, by omega, by omega, rfl⟩
      · have hw' : sM_in a 4 6 = 1 := by rw [iw6] at hw; exact hw
        rw [g] at hw'; exact absurd hw' (by decide)
    · rcases in_cs a 4 13 4 13 (by decide) (by decide) (by decide) (by decide) with ⟨-, j, h1, hj, rfl⟩ | ⟨g, -⟩
      · exact ⟨j, by omega, by omega, rfl⟩
      · have hw' : sM_in a 4 13 = 1 := by rw [iw13] at hw; exact hw
        rw [g] at hw'; exact absurd hw' (by decide)
theorem a_pattern (h : Rel T P R u v) (s a b c : Int32) : Agr (okX_pattern u s a b c) (okM_pattern v s a b c) (sX_pattern u s a b c).1 (sM_pattern v s a b c).1 (sX_pattern u s a b c).2 (sM_pattern v s a b c).2 := by
  have h1 := Rel_thr h 0
  obtain ⟨hT, hT', hb, hP, hP', hPb, hR, hR', hRb⟩ := h1.1
  unfold Agr okX_pattern okM_pattern sX_pattern sM_pattern okXP_make sXP_make
  simp only [bnd_d, bnd_p, bnd2_d, bnd2_p, pe_n]
  generalize stI v 0 0 = v1 at h1 hT' hP' hR' ⊢
  rw [names_eq (by omega) hP hP']
  rcases told_eq s a with ⟨t1, t2⟩ | ⟨t1, t2, t3⟩
  · rcases t2 with t2 | ⟨t2, t3⟩
    · simp only [t1, t2, n10, t00, if_true, if_false, not_true_eq_false, not_false_eq_true, false_imp_iff, implies_true, true_imp_iff, and_true, true_and]
      exact ⟨T, P, R, h1⟩
    · simp only [t1, t2, t3, n10, t00, if_true, if_false, not_true_eq_false, not_false_eq_true, false_imp_iff, implies_true, true_imp_iff, and_true, true_and]
      exact ⟨T, P, R, h1⟩
  · rcases bM_areKnown v1 s a b c with k | k
    · simp only [t1, t2, t3, k, n10, t00, if_true, if_false, not_true_eq_false, not_false_eq_true, false_imp_iff, implies_true, true_imp_iff, and_true, true_and]
      exact ⟨T, P, R, h1⟩
    · obtain ⟨i, hi, rfl⟩ : ∃ i, i < 14 ∧ s = nI i := by
        rcases in_cs s 0 13 0 13 (by decide) (by decide) (by decide) (by decide) with ⟨-, j, -, hj, rfl⟩ | ⟨g, -⟩
        · exact ⟨j, by omega, rfl⟩
        · rw [g] at t2; exact absurd t2 (by decide)
      have c40 : (40 : Int32) = nI 40 := by decide
      rcases Nat.lt_or_ge P 40 with hlt | hge
      · have l1 : nI P < 40 := by rw [c40]; exact nI_lt hlt (by decide)
        have l2 : ¬ nI P = 40 := by rw [nI_eq_l (by omega) 40 40 (by decide) (by decide)]; omega
        have hi40 : vp_in (nI P) 40 := vp_in_nI hlt (by decide)
        have cP : (nI P).toNatClampNeg = P := pu_ci (by omega)
        have x1 : ∀ a b : Nat, ∀ x : Int32, (stA v1 a b x).1 2 = nI P := fun _ _ _ => hP'
        have x2 : ∀ a b a' b' : Nat, ∀ x x' : Int32, (stA (stA v1 a b x) a' b' x').1 2 = nI P := fun _ _ _ _ _ _ => hP'
        have x3 : ∀ a b a' b' a'' b'' : Nat, ∀ x x' x'' : Int32, (stA (stA (stA v1 a b x) a' b' x') a'' b'' x'').1 2 = nI P := fun _ _ _ _ _ _ _ _ _ => hP'
        have x4 : ∀ a b a' b' a'' b'' d e : Nat, ∀ x x' x'' y : Int32, (stA (stA (stA (stA v1 a b x) a' b' x') a'' b'' x'') d e y).1 2 = nI P := fun _ _ _ _ _ _ _ _ _ _ _ _ => hP'
        have y4 : ∀ a b a' b' a'' b'' d e : Nat, ∀ x x' x'' y : Int32, (stA (stA (stA (stA u a b x) a' b' x') a'' b'' x'') d e y).1 2 = nI P := fun _ _ _ _ _ _ _ _ _ _ _ _ => hP
        rw [hP, hP']
        simp only [t1, t2, t3, k, l1, l2, cP, x1, x2, x3, x4, y4, n10, if_true, if_false, not_true_eq_false, not_false_eq_true, false_imp_iff, implies_true, true_imp_iff, and_true, true_and]
        refine ⟨⟨hi40, hi40, hi40, hi40⟩, ⟨hi40, hi40, hi40, hi40⟩, ?_, T, P + 1, R, ?_⟩
        · show nI P = (nI P + 1) - 1
          rw [nI_1, nI_pred]
        · rw [nI_1]
          obtain ⟨q1, q2, q3, q4, q5⟩ := h1
          refine ⟨⟨hT, hT', hb, rfl, rfl, by omega, hR, hR', hRb⟩, q2, fun p hp => ?_, fun r hr => ?_, q5⟩
          · show ∃ s : Nat, s < 14 ∧ upd (u.2.1 14) P (nI i) p = nI s ∧ upd (v1.2.1 6) P (nI i) p = nI s ∧ upd (u.2.1 15) P a p = upd (v1.2.1 7) P a p ∧ upd (u.2.1 16) P b p = upd (v1.2.1 8) P b p ∧ upd (u.2.1 17) P c p = upd (v1.2.1 9) P c p ∧ (s = 3 ∨ s = 7 ∨ s = 8 ∨ s = 9 → ∃ j, j < p ∧ upd (u.2.1 15) P a p = nI j) ∧ (s = 1 ∨ s = 3 ∨ s = 4 ∨ s = 7 ∨ s = 8 → ∃ j, j < p ∧ upd (u.2.1 16) P b p = nI j) ∧ (s = 5 → ∃ j, j < p ∧ upd (u.2.1 17) P c p = nI j) ∧ (s = 10 ∨ s = 11 → ∃ j, j < 4 ∧ upd (u.2.1 15) P a p = nI j) ∧ (s = 4 ∨ s = 5 ∨ s = 6 ∨ s = 13 → ∃ j, 4 ≤ j ∧ j ≤ 13 ∧ upd (u.2.1 15) P a p = nI j)
            by_cases e : p = P
            · subst e
              simp only [updS]
              exact ⟨i, hi, rfl, rfl, trivial, trivial, trivial, pat_named (by omega) hP' hi t3 k⟩
            · simp only [updN e]
              exact q3 p (by omega)
          · obtain ⟨a1, a2, a3, a4, a5, a6, ⟨p, hp, a7⟩, a8⟩ := q4 r hr
            exact ⟨a1, a2, a3, a4, a5, a6, ⟨p, by omega, a7⟩, a8⟩
      · have hP40 : P = 40 := by omega
        subst hP40
        have l1 : ¬ (40 : Int32) < 40 := by decide
        have l2 : nI 40 = 40 := by decide
        rw [hP, hP']
        simp only [t1, t2, t3, k, l1, l2, n10, if_true, if_false, not_true_eq_false, not_false_eq_true, false_imp_iff, implies_true, true_imp_iff, and_true, true_and]
        exact ⟨T, 40, R, h1⟩
end Rule
