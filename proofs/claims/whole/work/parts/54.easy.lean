theorem in_cs (x lo hi : Int32) (a b : Nat) (ha : lo = nI a) (hb : hi = nI b) (ha' : a < 2 ^ 30) (hb' : b < 2 ^ 30) : (sM_in x lo hi = 1 ∧ ∃ j, a ≤ j ∧ j ≤ b ∧ x = nI j) ∨ (sM_in x lo hi = 0 ∧ ∀ j, a ≤ j → j ≤ b → x ≠ nI j) := by
  subst ha; subst hb; exact in_cases x a b ha' hb'
theorem n10 : ((1 : Int32) = 0) = False := eq_false (by decide)
theorem t00 : ((0 : Int32) = 0) = True := eq_true rfl
theorem nI_eq_l {j : Nat} (hj : j < 2 ^ 31) (x : Int32) (k : Nat) (hx : x = nI k) (hk : k < 2 ^ 31) : nI j = x ↔ j = k := by subst hx; exact nI_eq hj hk
theorem mkX_full {T : Nat} {u : St} (hT : u.1 1 = nI T) (h80 : T = 80) (a b c : Int32) : okXT_make u a b c ∧ sXT_make u a b c = (-4, u) := by
  subst h80
  have hf : ¬ sXT_areFull u = 0 := by
    unfold sXT_areFull
    rw [hT]; decide
  constructor
  · unfold okXT_make
    exact ⟨fun h => absurd h hf, fun _ => trivial⟩
  · unfold sXT_make
    rw [if_neg hf]
theorem arF {T : Nat} {u : St} (hT : u.1 1 = nI T) (hb : T ≤ 80) : (T < 80 ∧ sXT_areFull u = 0) ∨ (T = 80 ∧ sXT_areFull u = 1) := by
  unfold sXT_areFull
  rw [hT]
  rcases Nat.lt_or_ge T 80 with h | h
  · exact Or.inl ⟨h, if_pos (by have e : (80 : Int32) = nI 80 := by decide
                                rw [e]; exact nI_lt h (by decide))⟩
  · have : T = 80 := by omega
    subst this
    exact Or.inr ⟨rfl, by decide⟩
section Easy
variable {T P R : Nat} {u v : St}
theorem a_thing (h : Rel T P R u v) (f m : Int32) : Agr (okX_thing u f m) (okM_thing v f m) (sX_thing u f m).1 (sM_thing v f m).1 (sX_thing u f m).2 (sM_thing v f m).2 := by
  have h1 := Rel_thr h 0
  have hT := h.1.1
  have hT1 := h1.1.2.1
  have hb := h.1.2.2.1
  unfold Agr okX_thing okM_thing sX_thing sM_thing
  simp only [bnd_d, bnd_p, bnd2_d, bnd2_p, wi_in]
  generalize stI v 0 0 = v1 at h1 hT1 ⊢
  rcases in_cs f 0 3 0 3 (by decide) (by decide) (by decide) (by decide) with ⟨e, j, -, hj, rfl⟩ | ⟨e, -⟩
  · rcases bM_in m (-999) 999 with e2 | e2
    · simp only [e, e2, n10, t00, if_true, if_false, implies_true, not_true_eq_false, false_imp_iff, not_false_eq_true, true_imp_iff, and_true, true_and]
      exact ⟨T, P, R, h1⟩
    · rw [hT1]
      rcases arF hT hb with ⟨hlt, -⟩ | ⟨h80, -⟩
      · have n80 : ¬ nI T = 80 := by rw [nI_eq_l (by omega) 80 80 (by decide) (by decide)]; omega
        by_cases h2 : j = 2
        · subst h2
          obtain ⟨o1, o2, w, z, q1, q2, q3⟩ := mk_rel (f := 2) (n := 0) (n' := 2) h1 hlt m (by decide) (by decide) (by decide) (by decide)
          have e20 : (2 : Int32) = nI 2 := by decide
          have e00 : (0 : Int32) = nI 0 := by decide
          simp only [e, e2, n10, if_false, implies_true, false_imp_iff, not_false_eq_true, true_imp_iff, and_true, true_and, n80]
          rw [if_pos e20.symm]
          refine ⟨by rw [e00]; exact o1, ⟨fun _ => by rw [e20]; exact o2, fun c => absurd e20.symm c⟩, ?_, T + 1, P, R, ?_⟩
          · rw [show (sXT_make u (nI 2) m 0) = (nI T, w) from q1, show (sM_make v1 (nI 2) m 2) = (nI T, z) from q2]
          · rw [show (sXT_make u (nI 2) m 0) = (nI T, w) from q1, show (sM_make v1 (nI 2) m 2) = (nI T, z) from q2]; exact q3
        · obtain ⟨o1, o2, w, z, q1, q2, q3⟩ := mk_rel (f := j) (n := 0) (n' := 0) h1 hlt m (by omega) (by decide) (fun _ => rfl) (fun c => absurd c h2)
          have n2 : ¬ nI j = 2 := by rw [nI_eq_l (by omega) 2 2 (by decide) (by decide)]; exact h2
          have e00 : (0 : Int32) = nI 0 := by decide
          simp only [e, e2, n10, if_false, implies_true, false_imp_iff, not_false_eq_true, true_imp_iff, and_true, true_and, n80, n2]
          rw [e00]
          refine ⟨o1, o2, ?_, T + 1, P, R, ?_⟩
          · rw [q1, q2]
          · rw [q1, q2]; exact q3
      · obtain ⟨o1, q1⟩ := mkX_full hT h80 (nI j) m 0
        have e80 : nI T = 80 := by rw [h80]; decide
        simp only [e, e2, n10, if_false, if_true, implies_true, false_imp_iff, not_false_eq_true, not_true_eq_false, true_imp_iff, and_true, true_and, e80]
        refine ⟨o1, ?_, T, P, R, ?_⟩
        · rw [q1]
        · rw [q1]; exact h1
  · simp only [e, t00, if_true, implies_true, not_true_eq_false, false_imp_iff, and_true, true_and]
    exact ⟨T, P, R, h1⟩
theorem a_row (h : Rel T P R u v) (f n : Int32) : Agr (okX_row u f n) (okM_row v f n) (sX_row u f n).1 (sM_row v f n).1 (sX_row u f n).2 (sM_row v f n).2 := by
  have h1 := Rel_thr h 0
  have hT := h.1.1
  have hT1 := h1.1.2.1
  have hb := h.1.2.2.1
  unfold Agr okX_row okM_row sX_row sM_row
  simp only [bnd_d, bnd_p, bnd2_d, bnd2_p, wi_in]
  generalize stI v 0 0 = v1 at h1 hT1 ⊢
  rcases in_cs f 4 13 4 13 (by decide) (by decide) (by decide) (by decide) with ⟨e, j, hj4, hj, rfl⟩ | ⟨e, -⟩
  · rw [hT1]
    by_cases h6 : n ≤ 6
    · rcases arF hT hb with ⟨hlt, ef⟩ | ⟨h80, ef⟩
      · have n80 : ¬ nI T = 80 := by rw [nI_eq_l (by omega) 80 80 (by decide) (by decide)]; omega
        by_cases h0 : 0 ≤ n
        · obtain ⟨i, hi, rfl⟩ : ∃ i, i ≤ 6 ∧ n = nI i := by
            obtain ⟨i, hi, rfl⟩ := nI_of (x := n) (by rw [pu_lt, Int32.toInt_zero]; rw [pu_le, Int32.toInt_zero] at h0; omega)
            refine ⟨i, ?_, rfl⟩
            rw [pu_6, nI_leI hi (by decide)] at h6
            exact h6
          obtain ⟨o1, o2, w, z, q1, q2, q3⟩ := mk_rel (f := j) (n := i) (n' := i) h1 hlt 0 (by omega) hi (fun _ => rfl) (fun c => by omega)
          simp only [e, ef, h6, h0, n10, t00, if_false, if_true, implies_true, false_imp_iff, not_false_eq_true, not_true_eq_false, true_imp_iff, and_true, true_and, n80]
          refine ⟨o1, o2, ?_, T + 1, P, R, ?_⟩
          · rw [q1, q2]
          · rw [q1, q2]; exact q3
        · simp only [e, ef, h6, h0, n10, t00, if_false, if_true, implies_true, false_imp_iff, not_false_eq_true, not_true_eq_false, true_imp_iff, and_true, true_and, n80]
          exact Agr_fnd h1 (k := 4) (by decide)
      · have e80 : nI T = 80 := by rw [h80]; decide
        simp only [e, ef, h6, n10, if_false, if_true, implies_true, false_imp_iff, not_false_eq_true, not_true_eq_false, true_imp_iff, and_true, true_and, e80]
        exact ⟨T, P, R, h1⟩
    · simp only [e, h6, n10, if_false, implies_true, false_imp_iff, not_false_eq_true, true_imp_iff, and_true, true_and]
      exact ⟨T, P, R, h1⟩
  · simp only [e, t00, if_true, implies_true, not_true_eq_false, false_imp_iff, and_true, true_and]
    exact ⟨T, P, R, h1⟩
end Easy
