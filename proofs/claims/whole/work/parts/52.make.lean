-- make: what both sides' making of a thing does
theorem pu_ci {n : Nat} (h : n < 2 ^ 31) : (nI n).toNatClampNeg = n := nI_clamp h
theorem mkX_loop : ∀ (n m F : Nat) (u : St) (a b c : Int32) (t : Nat), m + n = 6 → t < 80 → n < F →
    oklXT_make_61 F u a b c (nI t) (nI m) ∧ ∃ w : St, lXT_make_61 F u a b c (nI t) (nI m) = (nI t, w) ∧ w.1 = va_up u.1 1 (u.1 1 + 1) ∧ (∀ k, k ≠ 12 → w.2.1 k = u.2.1 k) ∧ (∀ k, w.2.1 12 k = if 6 * t + m ≤ k ∧ k < 6 * t + 6 then -5 else u.2.1 12 k) ∧ (∀ k, w.2.2 k = if 6 * t + m ≤ k ∧ k < 6 * t + 6 then 0 else u.2.2 k) := by
  intro n
  induction n with
  | zero =>
    intro m F u a b c t hm ht hF
    obtain ⟨F, rfl⟩ : ∃ G, F = G + 1 := ⟨F - 1, by omega⟩
    have hm6 : m = 6 := by omega
    subst hm6
    have hc : (6 : Int32) ≤ nI 6 := by decide
    refine ⟨(oklXT_make_61_s ..).mpr ⟨fun _ => trivial, fun h => absurd hc h⟩, stI u 1 (u.1 1 + 1), ?_, rfl, fun _ _ => rfl, fun k => ?_, fun k => ?_⟩
    · rw [lXT_make_61_s, if_pos hc]; rfl
    · rw [if_neg (by omega)]; rfl
    · rw [if_neg (by omega)]; rfl
  | succ n ih =>
    intro m F u a b c t hm ht hF
    obtain ⟨F, rfl⟩ : ∃ G, F = G + 1 := ⟨F - 1, by omega⟩
    have hc : ¬ (6 : Int32) ≤ nI m := by rw [pu_6]; exact nI_ge (by omega) (by omega)
    have hi : vp_in (nI t * 6 + nI m) 480 := by rw [pu_ix]; exact vp_in_nI (by omega) (by decide)
    have e1 : nI m + 1 = nI (m + 1) := nI_1 m
    obtain ⟨ho, w, hw, h1, h2, h3, h4⟩ := ih (m + 1) F (stL (stA u 12 (6 * t + m) (-5)) (6 * t + m) 0) a b c t (by omega) ht (by omega)
    refine ⟨(oklXT_make_61_s ..).mpr ⟨fun h => absurd h hc, fun _ => ⟨hi, ?_⟩⟩, w, ?_, h1, fun k hk => ?_, fun k => ?_, fun k => ?_⟩
    · rw [e1, pu_ix, pu_ci (by omega)]
      exact ⟨by rw [← pu_ix]; exact hi, ho⟩
    · rw [lXT_make_61_s, if_neg hc, e1, pu_ix, pu_ci (by omega)]
      exact hw
    · rw [h2 k hk]
      show va_up u.2.1 12 _ k = _
      simp [va_up, hk]
    · rw [h3 k]
      show (if _ then _ else upd (u.2.1 12) (6 * t + m) (-5) k) = _
      simp only [upd]
      by_cases e : k = 6 * t + m
      · subst e; rw [if_neg (by omega), if_pos rfl, if_pos (by omega)]
      · rw [if_neg e]
        by_cases g : 6 * t + (m + 1) ≤ k ∧ k < 6 * t + 6
        · rw [if_pos g, if_pos (by omega)]
        · rw [if_neg g, if_neg (by omega)]
    · rw [h4 k]
      show (if _ then _ else vp_updL u.2.2 (6 * t + m) 0 k) = _
      simp only [vp_updL]
      by_cases e : k = 6 * t + m
      · subst e; rw [if_neg (by omega), if_pos rfl, if_pos (by omega)]
      · rw [if_neg e]
        by_cases g : 6 * t + (m + 1) ≤ k ∧ k < 6 * t + 6
        · rw [if_pos g, if_pos (by omega)]
        · rw [if_neg g, if_neg (by omega)]
theorem mkM_loop : ∀ (n m F : Nat) (v : St) (a b c : Int32) (t : Nat), v.1 1 = nI t → m + n = 6 → t < 80 → n < F →
    oklM_make_39 F v a b c (nI (6 * t + m)) ∧ ∃ w : St, lM_make_39 F v a b c (nI (6 * t + m)) = (nI t, w) ∧ w.1 = va_up v.1 1 (nI (t + 1)) ∧ (∀ k, k ≠ 5 → w.2.1 k = v.2.1 k) ∧ (∀ k, w.2.1 5 k = if 6 * t + m ≤ k ∧ k < 6 * t + 6 then -5 else v.2.1 5 k) ∧ (∀ k, w.2.2 k = if 6 * t + m ≤ k ∧ k < 6 * t + 6 then 0 else v.2.2 k) := by
  intro n
  induction n with
  | zero =>
    intro m F v a b c t hT hm ht hF
    obtain ⟨F, rfl⟩ : ∃ G, F = G + 1 := ⟨F - 1, by omega⟩
    have hm6 : m = 6 := by omega
    subst hm6
    have hc : (6 * (v.1 1)) + 6 ≤ nI (6 * t + 6) := by rw [hT, pu_ix0, pu_6, nI_add]; exact nI_le (Nat.le_refl _) (by omega)
    refine ⟨(oklM_make_39_s ..).mpr ⟨fun _ => trivial, fun h => absurd hc h⟩, stI v 1 (v.1 1 + 1), ?_, ?_, fun _ _ => rfl, fun k => ?_, fun k => ?_⟩
    · rw [lM_make_39_s, if_pos hc]
      show ((v.1 1 + 1) - 1, _) = _
      rw [hT, nI_1, nI_pred]
    · show va_up v.1 1 (v.1 1 + 1) = _
      rw [hT, nI_1]
    · rw [if_neg (by omega)]; rfl
    · rw [if_neg (by omega)]; rfl
  | succ n ih =>
    intro m F v a b c t hT hm ht hF
    obtain ⟨F, rfl⟩ : ∃ G, F = G + 1 := ⟨F - 1, by omega⟩
    have hc : ¬ (6 * (v.1 1)) + 6 ≤ nI (6 * t + m) := by rw [hT, pu_ix0, pu_6, nI_add]; exact nI_ge (by omega) (by omega)
    have hi : vp_in (nI (6 * t + m)) 480 := vp_in_nI (by omega) (by decide)
    have e1 : nI (6 * t + m) + 1 = nI (6 * t + (m + 1)) := nI_1 _
    obtain ⟨ho, w, hw, h1, h2, h3, h4⟩ := ih (m + 1) F (stA (stL v (6 * t + m) 0) 5 (6 * t + m) (-5)) a b c t hT (by omega) ht (by omega)
    refine ⟨(oklM_make_39_s ..).mpr ⟨fun h => absurd h hc, fun _ => ⟨hi, ?_⟩⟩, w, ?_, h1, fun k hk => ?_, fun k => ?_, fun k => ?_⟩
    · rw [e1, pu_ci (by omega)]
      exact ⟨hi, ho⟩
    · rw [lM_make_39_s, if_neg hc, e1, pu_ci (by omega)]
      exact hw
    · rw [h2 k hk]
      show va_up v.2.1 5 _ k = _
      simp [va_up, hk]
    · rw [h3 k]
      show (if _ then _ else upd (v.2.1 5) (6 * t + m) (-5) k) = _
      simp only [upd]
      by_cases e : k = 6 * t + m
      · subst e; rw [if_neg (by omega), if_pos rfl, if_pos (by omega)]
      · rw [if_neg e]
        by_cases g : 6 * t + (m + 1) ≤ k ∧ k < 6 * t + 6
        · rw [if_pos g, if_pos (by omega)]
        · rw [if_neg g, if_neg (by omega)]
    · rw [h4 k]
      show (if _ then _ else vp_updL v.2.2 (6 * t + m) 0 k) = _
      simp only [vp_updL]
      by_cases e : k = 6 * t + m
      · subst e; rw [if_neg (by omega), if_pos rfl, if_pos (by omega)]
      · rw [if_neg e]
        by_cases g : 6 * t + (m + 1) ≤ k ∧ k < 6 * t + 6
        · rw [if_pos g, if_pos (by omega)]
        · rw [if_neg g, if_neg (by omega)]
