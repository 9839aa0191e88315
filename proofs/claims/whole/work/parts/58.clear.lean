-- clear: the loops
theorem pu_c {n k : Nat} {c : Int32} (hc : c = nI k) (hk : k < 2 ^ 31) (h : n < k) : ¬ c ≤ nI n := by subst hc; exact nI_ge h hk
theorem frX1 : ∀ (n m F : Nat) (u : St), m + n = 6 → n < F → oklX_forgetTraces_23 F u (nI m) ∧ ∃ w : St, lX_forgetTraces_23 F u (nI m) = w ∧ w.1 = va_up u.1 0 0 ∧ (∀ k, k ≠ 6 → w.2.1 k = u.2.1 k) ∧ (∀ k, w.2.1 6 k = if m ≤ k ∧ k < 6 then 0 else u.2.1 6 k) ∧ w.2.2 = u.2.2 := by
  intro n
  induction n with
  | zero =>
    intro m F u hm hF
    obtain ⟨F, rfl⟩ : ∃ G, F = G + 1 := ⟨F - 1, by omega⟩
    have hm6 : m = 6 := by omega
    subst hm6
    have hc : (6 : Int32) ≤ nI 6 := by decide
    refine ⟨(oklX_forgetTraces_23_s ..).mpr ⟨fun _ => trivial, fun h => absurd hc h⟩, stI u 0 0, ?_, rfl, fun _ _ => rfl, fun k => ?_, rfl⟩
    · rw [lX_forgetTraces_23_s, if_pos hc, bnd_d]
    · rw [if_neg (by omega)]; rfl
  | succ n ih =>
    intro m F u hm hF
    obtain ⟨F, rfl⟩ : ∃ G, F = G + 1 := ⟨F - 1, by omega⟩
    have hc : ¬ (6 : Int32) ≤ nI m := pu_c (k := 6) (by decide) (by decide) (by omega)
    have hi : vp_in (nI m) 6 := vp_in_nI (by omega) (by decide)
    obtain ⟨ho, w, hw, h1, h2, h3, h4⟩ := ih (m + 1) F (stA u 6 m 0) (by omega) (by omega)
    refine ⟨(oklX_forgetTraces_23_s ..).mpr ⟨fun h => absurd h hc, fun _ => ⟨hi, ?_⟩⟩, w, ?_, h1, fun k hk => ?_, fun k => ?_, h4⟩
    · rw [bnd_p, nI_1, pu_ci (by omega)]; exact ho
    · rw [lX_forgetTraces_23_s, if_neg hc, bnd_d, nI_1, pu_ci (by omega)]; exact hw
    · rw [h2 k hk]
      show va_up u.2.1 6 _ k = _
      simp [va_up, hk]
    · rw [h3 k]
      show (if _ then _ else upd (u.2.1 6) m 0 k) = _
      by_cases e : k = m
      · subst e; rw [if_neg (by omega), updS, if_pos (by omega)]
      · rw [updN e]
        by_cases g : m + 1 ≤ k ∧ k < 6
        · rw [if_pos g, if_pos (by omega)]
        · rw [if_neg g, if_neg (by omega)]
theorem frX2 : ∀ (n m F : Nat) (u : St), m + n = 4 → n < F → oklX_forgetTraces_2 F u (nI m) ∧ ∃ w : St, lX_forgetTraces_2 F u (nI m) = w ∧ w.1 = va_up u.1 0 0 ∧ (∀ k, k ≠ 6 → k ≠ 4 → w.2.1 k = u.2.1 k) ∧ (∀ k, k < 6 → w.2.1 6 k = 0) ∧ (∀ k, w.2.1 4 k = if m ≤ k ∧ k < 4 then -5 else u.2.1 4 k) ∧ w.2.2 = u.2.2 := by
  intro n
  induction n with
  | zero =>
    intro m F u hm hF
    obtain ⟨F, rfl⟩ : ∃ G, F = G + 1 := ⟨F - 1, by omega⟩
    have hm6 : m = 4 := by omega
    subst hm6
    have hc : (4 : Int32) ≤ nI 4 := by decide
    obtain ⟨ho, w, hw, h1, h2, h3, h4⟩ := frX1 6 0 100 u (by omega) (by omega)
    rw [nI_0] at ho hw
    refine ⟨(oklX_forgetTraces_2_s ..).mpr ⟨fun _ => ho, fun h => absurd hc h⟩, w, ?_, h1, fun k a _ => h2 k a, fun k hk => ?_, fun k => ?_, h4⟩
    · rw [lX_forgetTraces_2_s, if_pos hc]; exact hw
    · rw [h3 k, if_pos (by omega)]
    · rw [if_neg (by omega), h2 4 (by decide)]
  | succ n ih =>
    intro m F u hm hF
    obtain ⟨F, rfl⟩ : ∃ G, F = G + 1 := ⟨F - 1, by omega⟩
    have hc : ¬ (4 : Int32) ≤ nI m := pu_c (k := 4) (by decide) (by decide) (by omega)
    have hi : vp_in (nI m) 4 := vp_in_nI (by omega) (by decide)
    obtain ⟨ho, w, hw, h1, h2, h3, h4, h5⟩ := ih (m + 1) F (stA u 4 m (-5)) (by omega) (by omega)
    refine ⟨(oklX_forgetTraces_2_s ..).mpr ⟨fun h => absurd h hc, fun _ => ⟨hi, ?_⟩⟩, w, ?_, h1, fun k a b => ?_, h3, fun k => ?_, h5⟩
    · rw [bnd_p, nI_1, pu_ci (by omega)]; exact ho
    · rw [lX_forgetTraces_2_s, if_neg hc, bnd_d, nI_1, pu_ci (by omega)]; exact hw
    · rw [h2 k a b]
      show va_up u.2.1 4 _ k = _
      simp [va_up, b]
    · rw [h4 k]
      show (if _ then _ else upd (u.2.1 4) m (-5) k) = _
      by_cases e : k = m
      · subst e; rw [if_neg (by omega), updS, if_pos (by omega)]
      · rw [updN e]
        by_cases g : m + 1 ≤ k ∧ k < 4
        · rw [if_pos g, if_pos (by omega)]
        · rw [if_neg g, if_neg (by omega)]
theorem clM1 : ∀ (n m F : Nat) (u : St) (x : Int32), m + n = 7 → n < F → oklM_clear_53 F u x (nI m) ∧ ∃ w : St, lM_clear_53 F u x (nI m) = (x, w) ∧ w.1 = u.1 ∧ (∀ k, k ≠ 18 → w.2.1 k = u.2.1 k) ∧ (∀ k, w.2.1 18 k = if m ≤ k ∧ k < 7 then 0 else u.2.1 18 k) ∧ w.2.2 = u.2.2 := by
  intro n
  induction n with
  | zero =>
    intro m F u x hm hF
    obtain ⟨F, rfl⟩ : ∃ G, F = G + 1 := ⟨F - 1, by omega⟩
    have hm6 : m = 7 := by omega
    subst hm6
    have hc : (7 : Int32) ≤ nI 7 := by decide
    refine ⟨(oklM_clear_53_s ..).mpr ⟨fun _ => trivial, fun h => absurd hc h⟩, u, ?_, rfl, fun _ _ => rfl, fun k => ?_, rfl⟩
    · rw [lM_clear_53_s, if_pos hc]
    · rw [if_neg (by omega)]
  | succ n ih =>
    intro m F u x hm hF
    obtain ⟨F, rfl⟩ : ∃ G, F = G + 1 := ⟨F - 1, by omega⟩
    have hc : ¬ (7 : Int32) ≤ nI m := pu_c (k := 7) (by decide) (by decide) (by omega)
    have hi : vp_in (nI m) 7 := vp_in_nI (by omega) (by decide)
    obtain ⟨ho, w, hw, h1, h2, h3, h4⟩ := ih (m + 1) F (stA u 18 m 0) x (by omega) (by omega)
    refine ⟨(oklM_clear_53_s ..).mpr ⟨fun h => absurd h hc, fun _ => ⟨hi, ?_⟩⟩, w, ?_, h1, fun k hk => ?_, fun k => ?_, h4⟩
    · rw [bnd_p, nI_1, pu_ci (by omega)]; exact ho
    · rw [lM_clear_53_s, if_neg hc, bnd_d, nI_1, pu_ci (by omega)]; exact hw
    · rw [h2 k hk]
      show va_up u.2.1 18 _ k = _
      simp [va_up, hk]
    · rw [h3 k]
      show (if _ then _ else upd (u.2.1 18) m 0 k) = _
      by_cases e : k = m
      · subst e; rw [if_neg (by omega), updS, if_pos (by omega)]
      · rw [updN e]
        by_cases g : m + 1 ≤ k ∧ k < 7
        · rw [if_pos g, if_pos (by omega)]
        · rw [if_neg g, if_neg (by omega)]
theorem clM2 : ∀ (n m F : Nat) (u : St) (x : Int32), m + n = 4 → n < F → oklM_clear_32 F u x (nI m) ∧ ∃ w : St, lM_clear_32 F u x (nI m) = (x, w) ∧ w.1 = u.1 ∧ (∀ k, k ≠ 18 → k ≠ 16 → w.2.1 k = u.2.1 k) ∧ (∀ k, k < 7 → w.2.1 18 k = 0) ∧ (∀ k, w.2.1 16 k = if m ≤ k ∧ k < 4 then -5 else u.2.1 16 k) ∧ w.2.2 = u.2.2 := by
  intro n
  induction n with
  | zero =>
    intro m F u x hm hF
    obtain ⟨F, rfl⟩ : ∃ G, F = G + 1 := ⟨F - 1, by omega⟩
    have hm6 : m = 4 := by omega
    subst hm6
    have hc : (4 : Int32) ≤ nI 4 := by decide
    obtain ⟨ho, w, hw, h1, h2, h3, h4⟩ := clM1 7 0 100 u x (by omega) (by omega)
    rw [nI_0] at ho hw
    refine ⟨(oklM_clear_32_s ..).mpr ⟨fun _ => ho, fun h => absurd hc h⟩, w, ?_, h1, fun k a _ => h2 k a, fun k hk => ?_, fun k => ?_, h4⟩
    · rw [lM_clear_32_s, if_pos hc]; exact hw
    · rw [h3 k, if_pos (by omega)]
    · rw [if_neg (by omega), h2 16 (by decide)]
  | succ n ih =>
    intro m F u x hm hF
    obtain ⟨F, rfl⟩ : ∃ G, F = G + 1 := ⟨F - 1, by omega⟩
    have hc : ¬ (4 : Int32) ≤ nI m := pu_c (k := 4) (by decide) (by decide) (by omega)
    have hi : vp_in (nI m) 4 := vp_in_nI (by omega) (by decide)
    obtain ⟨ho, w, hw, h1, h2, h3, h4, h5⟩ := ih (m + 1) F (stA u 16 m (-5)) x (by omega) (by omega)
    refine ⟨(oklM_clear_32_s ..).mpr ⟨fun h => absurd h hc, fun _ => ⟨hi, ?_⟩⟩, w, ?_, h1, fun k a b => ?_, h3, fun k => ?_, h5⟩
    · rw [bnd_p, nI_1, pu_ci (by omega)]; exact ho
    · rw [lM_clear_32_s, if_neg hc, bnd_d, nI_1, pu_ci (by omega)]; exact hw
    · rw [h2 k a b]
      show va_up u.2.1 16 _ k = _
      simp [va_up, b]
    · rw [h4 k]
      show (if _ then _ else upd (u.2.1 16) m (-5) k) = _
      by_cases e : k = m
      · subst e; rw [if_neg (by omega), updS, if_pos (by omega)]
      · rw [updN e]
        by_cases g : m + 1 ≤ k ∧ k < 4
        · rw [if_pos g, if_pos (by omega)]
        · rw [if_neg g, if_neg (by omega)]
/-- nothing is there -/
theorem Rel_0 {u v : St} (h1 : u.1 1 = 0) (h2 : u.1 2 = 0) (h3 : u.1 3 = 0) (h0 : u.1 0 = 0) (g1 : v.1 1 = 0) (g2 : v.1 2 = 0) (g3 : v.1 3 = 0) (g0 : v.1 4 = 0) (hs : ∀ i, i < 4 → u.2.1 4 i = -5) (gs : ∀ i, i < 4 → v.2.1 16 i = -5) (hf : ∀ i, i < 6 → u.2.1 6 i = 0) (gf : ∀ i, i < 7 → v.2.1 18 i = 0) : Rel 0 0 0 u v := by
  refine ⟨⟨by rw [h1]; rfl, by rw [g1]; rfl, by omega, by rw [h2]; rfl, by rw [g2]; rfl, by omega, by rw [h3]; rfl, by rw [g3]; rfl, by omega⟩, fun t ht => absurd ht (by omega), fun t ht => absurd ht (by omega), fun t ht => absurd ht (by omega), fun i hi => ⟨by rw [hs i hi, gs i hi], Or.inl (hs i hi)⟩, fun i hi => by rw [hf i hi, gf (i + 1) (by omega)], by rw [h0, g0], 0, by omega, by rw [h0]; rfl⟩
theorem a_clear {T P R : Nat} {u v : St} (h : Rel T P R u v) : Agr (okX_clear u) (okM_clear v) (sX_clear u).1 (sM_clear v).1 (sX_clear u).2 (sM_clear v).2 := by
  have h1 := Rel_thr h 0
  have hT := h1.1.1
  have hT' := h1.1.2.1
  unfold Agr okX_clear okM_clear sX_clear sM_clear okX_forgetTraces sX_forgetTraces
  simp only [bnd_d, bnd_p]
  obtain ⟨hoX, w, hw, w1, w2, w3, w4, w5⟩ := frX2 4 0 100 (stI (stI (stI u 1 0) 2 0) 3 0) (by omega) (by omega)
  obtain ⟨hoM, z, hz, z1, z2, z3, z4, z5⟩ := clM2 4 0 100 (stI (stI (stI (stI (stI v 0 0) 1 0) 2 0) 3 0) 4 0) ((stI v 0 0).1 1) (by omega) (by omega)
  rw [nI_0] at hoX hw hoM hz
  rw [hz, hw]
  refine ⟨⟨hoX, trivial⟩, hoM, hT.trans hT'.symm, 0, 0, 0, Rel_0 ?_ ?_ ?_ ?_ ?_ ?_ ?_ ?_ ?_ ?_ w3 z3⟩
  · rw [w1]; rfl
  · rw [w1]; rfl
  · rw [w1]; rfl
  · rw [w1]; rfl
  · rw [z1]; rfl
  · rw [z1]; rfl
  · rw [z1]; rfl
  · rw [z1]; rfl
  · intro i hi; rw [w4 i, if_pos (by omega)]
  · intro i hi; rw [z4 i, if_pos (by omega)]
