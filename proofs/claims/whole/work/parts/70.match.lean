-- a whole match: the loops
def Cpd (a b m : Nat) (u w : St) : Prop := w.1 = u.1 ∧ (∀ k, k ≠ a → w.2.1 k = u.2.1 k) ∧ (∀ k, w.2.1 a k = if m ≤ k ∧ k < 4 then u.2.1 b k else u.2.1 a k) ∧ w.2.2 = u.2.2
theorem Cpd_0 {a b : Nat} {u : St} : Cpd a b 4 u u := ⟨rfl, fun _ _ => rfl, fun k => by rw [if_neg (by omega)], rfl⟩
theorem stA_ne {u : St} {a m k : Nat} {x : Int32} (h : k ≠ a) : (stA u a m x).2.1 k = u.2.1 k := by
  show va_up u.2.1 a _ k = _
  simp [va_up, h]
theorem stA_eq {u : St} {a m : Nat} {x : Int32} : (stA u a m x).2.1 a = upd (u.2.1 a) m x := by
  show va_up u.2.1 a _ a = _
  simp [va_up]
theorem Cpd_s {a b m : Nat} {u w : St} (hm : m < 4) (hab : b ≠ a) (h : Cpd a b (m + 1) (stA u a m (u.2.1 b m)) w) : Cpd a b m u w := by
  obtain ⟨h1, h2, h3, h4⟩ := h
  refine ⟨h1, fun k hk => ?_, fun k => ?_, h4⟩
  · rw [h2 k hk, stA_ne hk]
  · rw [h3 k, stA_ne hab, stA_eq]
    by_cases e : k = m
    · subst e; rw [if_neg (by omega), updS, if_pos (by omega)]
    · rw [updN e]
      by_cases g : m + 1 ≤ k ∧ k < 4
      · rw [if_pos g, if_pos (by omega)]
      · rw [if_neg g, if_neg (by omega)]
theorem c44 : (4 : Int32) ≤ nI 4 := by decide
theorem X49 (p1 p2 x3 : Int32) : ∀ (n m F : Nat) (u : St), m + n = 4 → n < F → oklX_matched_49 F u p1 p2 x3 (nI m) ∧ ∃ w : St, lX_matched_49 F u p1 p2 x3 (nI m) = (x3, w) ∧ Cpd 4 5 m u w := by
  intro n
  induction n with
  | zero =>
    intro m F u hm hF
    obtain ⟨F, rfl⟩ : ∃ G, F = G + 1 := ⟨F - 1, by omega⟩
    obtain rfl : m = 4 := by omega
    exact ⟨(oklX_matched_49_s ..).mpr ⟨fun _ => trivial, fun h => absurd c44 h⟩, u, by rw [lX_matched_49_s, if_pos c44], Cpd_0⟩
  | succ n ih =>
    intro m F u hm hF
    obtain ⟨F, rfl⟩ : ∃ G, F = G + 1 := ⟨F - 1, by omega⟩
    have hc : ¬ (4 : Int32) ≤ nI m := pu_c (k := 4) (by decide) (by decide) (by omega)
    have hi : vp_in (nI m) 4 := vp_in_nI (by omega) (by decide)
    obtain ⟨ho, w, hw, h1⟩ := ih (m + 1) F (stA u 4 m (u.2.1 5 m)) (by omega) (by omega)
    refine ⟨(oklX_matched_49_s ..).mpr ⟨fun h => absurd h hc, fun _ => ⟨hi, hi, ?_⟩⟩, w, ?_, Cpd_s (by omega) (by decide) h1⟩
    · rw [bnd_p, nI_1, pu_ci (by omega)]; exact ho
    · rw [lX_matched_49_s, if_neg hc, bnd_d, nI_1, pu_ci (by omega)]; exact hw
def finM (w : St) : Int32 × St := if w.1 6 = 0 then (if w.1 7 = 0 then (0, w) else (1, w)) else sM_finds w (w.1 6)
def okfinM (w : St) : Prop := (w.1 6 = 0 → True) ∧ (¬ w.1 6 = 0 → okM_finds w (w.1 6) ∧ True)
theorem M141 (p1 p2 : Int32) : ∀ (n m F : Nat) (u : St), m + n = 4 → n < F → ∃ w : St, (okfinM w → oklM_matches_141 F u p1 p2 (nI m)) ∧ lM_matches_141 F u p1 p2 (nI m) = finM w ∧ Cpd 16 17 m u w := by
  intro n
  induction n with
  | zero =>
    intro m F u hm hF
    obtain ⟨F, rfl⟩ : ∃ G, F = G + 1 := ⟨F - 1, by omega⟩
    obtain rfl : m = 4 := by omega
    exact ⟨u, fun q => (oklM_matches_141_s ..).mpr ⟨fun _ => q, fun h => absurd c44 h⟩, by rw [lM_matches_141_s, if_pos c44, bnd2_d, pe_n]; rfl, Cpd_0⟩
  | succ n ih =>
    intro m F u hm hF
    obtain ⟨F, rfl⟩ : ∃ G, F = G + 1 := ⟨F - 1, by omega⟩
    have hc : ¬ (4 : Int32) ≤ nI m := pu_c (k := 4) (by decide) (by decide) (by omega)
    have hi : vp_in (nI m) 4 := vp_in_nI (by omega) (by decide)
    obtain ⟨w, ho, hw, h1⟩ := ih (m + 1) F (stA u 16 m (u.2.1 17 m)) (by omega) (by omega)
    refine ⟨w, fun q => (oklM_matches_141_s ..).mpr ⟨fun h => absurd h hc, fun _ => ⟨hi, hi, ?_⟩⟩, ?_, Cpd_s (by omega) (by decide) h1⟩
    · rw [bnd_p, nI_1, pu_ci (by omega)]; exact ho q
    · rw [lM_matches_141_s, if_neg hc, bnd_d, nI_1, pu_ci (by omega)]; exact hw
def coX (u : St) (p1 p2 : Int32) : Int32 × St :=
  bnd2 (lookX 41 u p1 p2) (fun r2 u2 =>
      bnd2 (sX_counted u2 r2) (fun r3 u3 =>
      if r3 = 1 then
        (r3, u3)
      else
        lX_matched_49 100 u3 p1 p2 r3 0))
def okcoX (u : St) (p1 p2 : Int32) : Prop := (oklookX 41 u p1 p2) ∧ (bnd2 (lookX 41 u p1 p2) (fun r2 u2 => (okX_counted u2 r2) ∧ (bnd2 (sX_counted u2 r2) (fun r3 u3 => ((r3 = 1) → True) ∧ (¬ (r3 = 1) → oklX_matched_49 100 u3 p1 p2 r3 0)))))
theorem X7 (p1 p2 : Int32) : ∀ (n m F : Nat) (u : St), m + n = 4 → n < F → ∃ w : St, (okcoX w p1 p2 → oklX_matched_7 F u p1 p2 (nI m)) ∧ lX_matched_7 F u p1 p2 (nI m) = coX w p1 p2 ∧ Cpd 5 4 m u w := by
  intro n
  induction n with
  | zero =>
    intro m F u hm hF
    obtain ⟨F, rfl⟩ : ∃ G, F = G + 1 := ⟨F - 1, by omega⟩
    obtain rfl : m = 4 := by omega
    exact ⟨u, fun q => (oklX_matched_7_s ..).mpr ⟨fun _ => q, fun h => absurd c44 h⟩, by rw [lX_matched_7_s, if_pos c44, coX], Cpd_0⟩
  | succ n ih =>
    intro m F u hm hF
    obtain ⟨F, rfl⟩ : ∃ G, F = G + 1 := ⟨F - 1, by omega⟩
    have hc : ¬ (4 : Int32) ≤ nI m := pu_c (k := 4) (by decide) (by decide) (by omega)
    have hi : vp_in (nI m) 4 := vp_in_nI (by omega) (by decide)
    obtain ⟨w, ho, hw, h1⟩ := ih (m + 1) F (stA u 5 m (u.2.1 4 m)) (by omega) (by omega)
    refine ⟨w, fun q => (oklX_matched_7_s ..).mpr ⟨fun h => absurd h hc, fun _ => ⟨hi, hi, ?_⟩⟩, ?_, Cpd_s (by omega) (by decide) h1⟩
    · rw [bnd_p, nI_1, pu_ci (by omega)]; exact ho q
    · rw [lX_matched_7_s, if_neg hc, bnd_d, nI_1, pu_ci (by omega)]; exact hw
def iniM (u : St) : St := stI (stI (stI (stI u 4 0) 5 0) 6 0) 7 0
def coM (u : St) (p1 p2 : Int32) : Int32 × St := lM_matches_51 1000 (sM_look (iniM u) p1 p2) p1 p2 (nI 4)
def okcoM (u : St) (p1 p2 : Int32) : Prop := okM_look (iniM u) p1 p2 ∧ oklM_matches_51 1000 (sM_look (iniM u) p1 p2) p1 p2 (nI 4)
theorem M2 (p1 p2 : Int32) : ∀ (n m F : Nat) (u : St), m + n = 4 → n < F → ∃ w : St, (okcoM w p1 p2 → oklM_matches_2 F u p1 p2 (nI m)) ∧ lM_matches_2 F u p1 p2 (nI m) = coM w p1 p2 ∧ Cpd 17 16 m u w := by
  intro n
  induction n with
  | zero =>
    intro m F u hm hF
    obtain ⟨F, rfl⟩ : ∃ G, F = G + 1 := ⟨F - 1, by omega⟩
    obtain rfl : m = 4 := by omega
    refine ⟨u, fun q => (oklM_matches_2_s ..).mpr ⟨fun _ => ?_, fun h => absurd c44 h⟩, ?_, Cpd_0⟩
    · unfold okcoM iniM at q
      rw [bnd_p, bnd_p, bnd_p, bnd_p, bnd_p]
      exact q
    · rw [lM_matches_2_s, if_pos c44, bnd_d, bnd_d, bnd_d, bnd_d, bnd_d]
      unfold coM iniM
      rfl
  | succ n ih =>
    intro m F u hm hF
    obtain ⟨F, rfl⟩ : ∃ G, F = G + 1 := ⟨F - 1, by omega⟩
    have hc : ¬ (4 : Int32) ≤ nI m := pu_c (k := 4) (by decide) (by decide) (by omega)
    have hi : vp_in (nI m) 4 := vp_in_nI (by omega) (by decide)
    obtain ⟨w, ho, hw, h1⟩ := ih (m + 1) F (stA u 17 m (u.2.1 16 m)) (by omega) (by omega)
    refine ⟨w, fun q => (oklM_matches_2_s ..).mpr ⟨fun h => absurd h hc, fun _ => ⟨hi, hi, ?_⟩⟩, ?_, Cpd_s (by omega) (by decide) h1⟩
    · rw [bnd_p, nI_1, pu_ci (by omega)]; exact ho q
    · rw [lM_matches_2_s, if_neg hc, bnd_d, nI_1, pu_ci (by omega)]; exact hw
-- the machine as the loop
theorem go51 (p1 p2 : Int32) : ∀ (m F : Nat) (v w : St) (x3 : Int32), goM m v w → ∃ y : Int32, lM_matches_51 (m + F) v p1 p2 x3 = lM_matches_51 F w p1 p2 y ∧ (oklM_matches_51 F w p1 p2 y → oklM_matches_51 (m + F) v p1 p2 x3) := by
  intro m
  induction m with
  | zero => intro F v w x3 h; have e : v = w := h; subst e; rw [Nat.zero_add]; exact ⟨x3, rfl, id⟩
  | succ m ih =>
    intro F v w x3 h
    obtain ⟨q1, q2, q3, q4⟩ := (goM_s m v w).mp h
    obtain ⟨y, i1, i2⟩ := ih F (stepM v) w (v.1 5 - 1) q4
    rw [show m + 1 + F = (m + F) + 1 by omega]
    refine ⟨y, ?_, fun q => ?_⟩
    · rw [← i1, lM_matches_51_s, if_neg q1, if_pos q2, bnd_d]
      unfold stepM
      by_cases g : v.2.1 21 (v.1 5 - 1).toNatClampNeg = 0
      · rw [if_pos g, if_pos g, bnd_d]
      · rw [if_neg g, if_neg g, bnd_d]
    · have i3 := i2 q
      rw [oklM_matches_51_s]
      obtain ⟨o1, o2, o3⟩ := q3
      refine ⟨fun z => absurd z q1, fun _ => ⟨fun _ => ?_, fun z => absurd q2 z⟩⟩
      rw [bnd_p]
      unfold stepM at i3
      refine ⟨o1, fun g => ?_, fun g => ?_⟩
      · rw [if_pos g] at i3
        refine ⟨o1, o1, o2 g, ?_⟩
        rw [bnd_p]; exact i3
      · rw [if_neg g] at i3
        refine ⟨o1, o1, o1, o3 g, ?_⟩
        rw [bnd_p]; exact i3
-- what the machine leaves: the slots before
theorem k17_ends (v : St) (r : Int32) : (sM_ends v r).2.1 17 = v.2.1 17 := by unfold sM_ends; rw [bnd_d, bnd_d]; rfl
theorem k17_look (v : St) (p t : Int32) : (sM_look v p t).2.1 17 = v.2.1 17 := by
  unfold sM_look
  rw [bnd_d, bnd_d, bnd_d, bnd_d, bnd_d, bnd_d]
  by_cases h : v.1 6 = 0
  · rw [if_pos h]
    by_cases g : v.1 4 = 300
    · rw [if_pos g]; rfl
    · rw [if_neg g]; rfl
  · rw [if_neg h]
theorem k17_asks (v : St) (p t s : Int32) : (sM_asks v p t s).2.1 17 = v.2.1 17 := by unfold sM_asks; rw [bnd_d, k17_look]; rfl
theorem k17_ite {c : Prop} [Decidable c] {a b v : St} (ha : a.2.1 17 = v.2.1 17) (hb : b.2.1 17 = v.2.1 17) : (if c then a else b).2.1 17 = v.2.1 17 := by
  by_cases h : c
  · rw [if_pos h]; exact ha
  · rw [if_neg h]; exact hb
theorem k17_each (v : St) (p t s : Int32) : (sM_each v p t s).2.1 17 = v.2.1 17 := by
  unfold sM_each
  rw [bnd_d]
  exact k17_ite (k17_ends ..) (k17_asks ..)
theorem k17_plain (v : St) (p t a b : Int32) : (sM_plain v p t a b).2.1 17 = v.2.1 17 := by
  unfold sM_plain
  simp only [bnd_d]
  repeat' first
    | with_reducible exact (k17_ends ..)
    | with_reducible exact (k17_asks ..)
    | with_reducible exact (k17_each ..)
    | with_reducible apply k17_ite
    | (with_reducible refine (k17_ends ..).trans ?_); rfl
    | (with_reducible refine (k17_asks ..).trans ?_); rfl
    | rfl
theorem k17_begins (v : St) (p t : Int32) : (sM_begins v p t).2.1 17 = v.2.1 17 := by
  unfold sM_begins
  simp only [bnd_d]
  repeat' first
    | with_reducible exact (k17_ends ..)
    | with_reducible exact (k17_asks ..)
    | with_reducible exact (k17_each ..)
    | with_reducible exact (k17_plain ..)
    | with_reducible apply k17_ite
    | (with_reducible refine (k17_ends ..).trans ?_); rfl
    | (with_reducible refine (k17_asks ..).trans ?_); rfl
    | rfl
theorem k17_goesOn (v : St) (p t s : Int32) : (sM_goesOn v p t s).2.1 17 = v.2.1 17 := by
  unfold sM_goesOn
  simp only [bnd_d]
  repeat' first
    | with_reducible exact (k17_ends ..)
    | with_reducible exact (k17_asks ..)
    | with_reducible exact (k17_each ..)
    | with_reducible exact (k17_plain ..)
    | with_reducible apply k17_ite
    | (with_reducible refine (k17_ends ..).trans ?_); rfl
    | (with_reducible refine (k17_asks ..).trans ?_); rfl
    | rfl
theorem k17_step (v : St) : (stepM v).2.1 17 = v.2.1 17 := by
  unfold stepM
  exact k17_ite (k17_begins ..) (k17_goesOn ..)
theorem k17_go : ∀ (m : Nat) (v w : St), goM m v w → w.2.1 17 = v.2.1 17 := by
  intro m
  induction m with
  | zero => intro v w h; have e : v = w := h; subst e; rfl
  | succ m ih =>
    intro v w h
    obtain ⟨-, -, -, q4⟩ := (goM_s m v w).mp h
    rw [ih _ _ q4, k17_step]
