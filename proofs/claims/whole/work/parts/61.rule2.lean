section Rule2
variable {T P R : Nat} {u v : St}
theorem Rel_rule (h : Rel T P R u v) (hlt : R < 16) {p : Nat} (hp : p < P) {a : Nat} (ha : a ≤ 5) {k i : Int32} (hk : a = 1 → ∃ j, 7 ≤ j ∧ j ≤ 13 ∧ k = nI j) :
    Rel T P (R + 1) (stI (stA (stA (stA (stA (stA (stA u 18 R (nI p)) 19 R (nI a)) 20 R k) 21 R i) 22 R 0) 23 R 0) 3 (nI (R + 1))) (stI (stA (stA (stA (stA (stA (stA v 10 R (nI p)) 11 R (nI a)) 12 R k) 13 R i) 14 R 0) 15 R 0) 3 (nI (R + 1))) := by
  obtain ⟨⟨hT, hT', hb, hP, hP', hPb, hR, hR', hRb⟩, q2, q3, q4, q5⟩ := h
  refine ⟨⟨hT, hT', hb, hP, hP', hPb, rfl, rfl, by omega⟩, q2, q3, fun r hr => ?_, q5⟩
  show upd (u.2.1 18) R (nI p) r = upd (v.2.1 10) R (nI p) r ∧ upd (u.2.1 19) R (nI a) r = upd (v.2.1 11) R (nI a) r ∧ upd (u.2.1 20) R k r = upd (v.2.1 12) R k r ∧ upd (u.2.1 21) R i r = upd (v.2.1 13) R i r ∧ upd (u.2.1 22) R 0 r = upd (v.2.1 14) R 0 r ∧ upd (u.2.1 23) R 0 r = upd (v.2.1 15) R 0 r ∧ (∃ p', p' < P ∧ upd (u.2.1 18) R (nI p) r = nI p') ∧ (∃ a', a' ≤ 5 ∧ upd (u.2.1 19) R (nI a) r = nI a') ∧ (upd (u.2.1 19) R (nI a) r = 1 → ∃ k', 7 ≤ k' ∧ k' ≤ 13 ∧ upd (u.2.1 20) R k r = nI k')
  by_cases e : r = R
  · subst e
    rw [updS, updS, updS, updS, updS, updS, updS, updS, updS, updS, updS, updS]
    exact ⟨rfl, rfl, rfl, rfl, rfl, rfl, ⟨p, hp, rfl⟩, ⟨a, ha, rfl⟩, fun q => hk ((nI_eq_l (by omega) 1 1 (by decide) (by decide)).mp q)⟩
  · rw [updN e, updN e, updN e, updN e, updN e, updN e, updN e, updN e, updN e, updN e, updN e, updN e]
    exact q4 r (by omega)
theorem a_rule (h : Rel T P R u v) (p a k i : Int32) : Agr (okX_rule u p a k i) (okM_rule v p a k i) (sX_rule u p a k i).1 (sM_rule v p a k i).1 (sX_rule u p a k i).2 (sM_rule v p a k i).2 := by
  have h1 := Rel_thr h 0
  obtain ⟨hT, hT', hb, hP, hP', hPb, hR, hR', hRb⟩ := h1.1
  unfold Agr okX_rule okM_rule sX_rule sM_rule okXR_make sXR_make
  simp only [bnd_d, bnd_p, bnd2_d, bnd2_p, pe_n, wn_in, hk_in]
  generalize stI v 0 0 = v1 at h1 hT' hP' hR' ⊢
  rw [pk_eq2 (v := v1) (by omega) hP hP']
  rcases bM_isPattern v1 p with e0 | e0
  · simp only [e0, t00, if_true, not_true_eq_false, false_imp_iff, implies_true, and_true, true_and]
    exact ⟨T, P, R, h1⟩
  · obtain ⟨pp, hpp, rfl⟩ := pat_in (by omega) hP' e0
    rcases in_cs a 0 5 0 5 (by decide) (by decide) (by decide) (by decide) with ⟨e, aa, -, haa, rfl⟩ | ⟨e, -⟩
    · have c16 : (16 : Int32) = nI 16 := by decide
      have cR : (nI R).toNatClampNeg = R := pu_ci (by omega)
      have x1 : ∀ a b : Nat, ∀ x : Int32, (stA v1 a b x).1 3 = nI R := fun _ _ _ => hR'
      have x2 : ∀ a b a' b' : Nat, ∀ x x' : Int32, (stA (stA v1 a b x) a' b' x').1 3 = nI R := fun _ _ _ _ _ _ => hR'
      have x3 : ∀ a b a' b' a'' b'' : Nat, ∀ x x' x'' : Int32, (stA (stA (stA v1 a b x) a' b' x') a'' b'' x'').1 3 = nI R := fun _ _ _ _ _ _ _ _ _ => hR'
      have x4 : ∀ a b a' b' a'' b'' d e : Nat, ∀ x x' x'' y : Int32, (stA (stA (stA (stA v1 a b x) a' b' x') a'' b'' x'') d e y).1 3 = nI R := fun _ _ _ _ _ _ _ _ _ _ _ _ => hR'
      have x5 : ∀ a b a' b' a'' b'' d e d' e' : Nat, ∀ x x' x'' y y' : Int32, (stA (stA (stA (stA (stA v1 a b x) a' b' x') a'' b'' x'') d e y) d' e' y').1 3 = nI R := fun _ _ _ _ _ _ _ _ _ _ _ _ _ _ _ => hR'
      have x6 : ∀ a b a' b' a'' b'' d e d' e' f g : Nat, ∀ x x' x'' y y' z : Int32, (stA (stA (stA (stA (stA (stA v1 a b x) a' b' x') a'' b'' x'') d e y) d' e' y') f g z).1 3 = nI R := fun _ _ _ _ _ _ _ _ _ _ _ _ _ _ _ _ _ _ => hR'
      have y6 : ∀ a b a' b' a'' b'' d e d' e' f g : Nat, ∀ x x' x'' y y' z : Int32, (stA (stA (stA (stA (stA (stA u a b x) a' b' x') a'' b'' x'') d e y) d' e' y') f g z).1 3 = nI R := fun _ _ _ _ _ _ _ _ _ _ _ _ _ _ _ _ _ _ => hR
      rcases Nat.lt_or_ge R 16 with hlt | hge
      · have l1 : nI R < 16 := by rw [c16]; exact nI_lt hlt (by decide)
        have l2 : ¬ nI R = 16 := by rw [nI_eq_l (by omega) 16 16 (by decide) (by decide)]; omega
        have hi16 : vp_in (nI R) 16 := vp_in_nI hlt (by decide)
        rw [hR, hR']
        by_cases a1 : nI aa = 1
        · have a1' : aa = 1 := (nI_eq_l (by omega) 1 1 (by decide) (by decide)).mp a1
          subst a1'
          have t11 : (nI 1 = 1) = True := eq_true (by decide)
          rcases in_cs k 7 13 7 13 (by decide) (by decide) (by decide) (by decide) with ⟨ek, kk, hk, hk', rfl⟩ | ⟨ek, -⟩
          · simp only [e0, e, t11, ek, l1, l2, cR, x1, x2, x3, x4, x5, x6, y6, n10, if_true, if_false, not_true_eq_false, not_false_eq_true, false_imp_iff, implies_true, true_imp_iff, and_true, true_and]
            refine ⟨⟨hi16, hi16, hi16, hi16, hi16, hi16⟩, ⟨hi16, hi16, hi16, hi16, hi16, hi16⟩, ?_, T, P, R + 1, ?_⟩
            · show nI R = (nI R + 1) - 1
              rw [nI_1, nI_pred]
            · rw [nI_1]
              exact Rel_rule h1 hlt hpp (a := 1) (by omega) (fun _ => ⟨kk, hk, hk', rfl⟩)
          · simp only [e0, e, t11, ek, n10, t00, if_true, if_false, not_true_eq_false, not_false_eq_true, false_imp_iff, implies_true, true_imp_iff, and_true, true_and]
            exact ⟨T, P, R, h1⟩
        · simp only [e0, e, a1, l1, l2, cR, x1, x2, x3, x4, x5, x6, y6, n10, if_true, if_false, not_true_eq_false, not_false_eq_true, false_imp_iff, implies_true, true_imp_iff, and_true, true_and]
          refine ⟨⟨hi16, hi16, hi16, hi16, hi16, hi16⟩, ⟨hi16, hi16, hi16, hi16, hi16, hi16⟩, ?_, T, P, R + 1, ?_⟩
          · show nI R = (nI R + 1) - 1
            rw [nI_1, nI_pred]
          · rw [nI_1]
            exact Rel_rule h1 hlt hpp (a := aa) haa (fun q => absurd (by rw [q]; decide) a1)
      · have hR16 : R = 16 := by omega
        subst hR16
        have l1 : ¬ (16 : Int32) < 16 := by decide
        have l2 : nI 16 = 16 := by decide
        rw [hR, hR']
        by_cases a1 : nI aa = 1
        · have e' := e
          rw [a1] at e'
          rcases in_cs k 7 13 7 13 (by decide) (by decide) (by decide) (by decide) with ⟨ek, -⟩ | ⟨ek, -⟩
          · simp only [e0, e', a1, ek, l1, l2, n10, if_true, if_false, not_true_eq_false, not_false_eq_true, false_imp_iff, implies_true, true_imp_iff, and_true, true_and]
            exact ⟨T, P, 16, h1⟩
          · simp only [e0, e', a1, ek, n10, t00, if_true, if_false, not_true_eq_false, not_false_eq_true, false_imp_iff, implies_true, true_imp_iff, and_true, true_and]
            exact ⟨T, P, 16, h1⟩
        · simp only [e0, e, a1, l1, l2, n10, if_true, if_false, not_true_eq_false, not_false_eq_true, false_imp_iff, implies_true, true_imp_iff, and_true, true_and]
          exact ⟨T, P, 16, h1⟩
    · simp only [e0, e, n10, t00, if_true, if_false, not_true_eq_false, not_false_eq_true, false_imp_iff, implies_true, true_imp_iff, and_true, true_and]
      exact ⟨T, P, R, h1⟩
end Rule2
