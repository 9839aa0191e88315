-- the pure part: which states of class and reference belong together
theorem pu_6 : (6 : Int32) = nI 6 := by decide
theorem pu_1 : (1 : Int32) = nI 1 := by decide
theorem pu_ix (t i : Nat) : nI t * 6 + nI i = nI (6 * t + i) := by rw [pu_6, pk_mul, nI_add, Nat.mul_comm]
theorem pu_ix' (t i : Nat) : 6 * nI t + nI i = nI (6 * t + i) := by rw [pu_6, pk_mul, nI_add]
theorem pu_ix0 (t : Nat) : 6 * nI t = nI (6 * t) := by rw [pu_6, pk_mul]
theorem pu_lt (x y : Int32) : x < y ↔ x.toInt < y.toInt := Int32.lt_iff_toInt_lt
theorem pu_le (x y : Int32) : x ≤ y ↔ x.toInt ≤ y.toInt := Int32.le_iff_toInt_le
theorem pu_pred {n : Nat} (h : n < 2 ^ 30) : (nI n - 1).toInt = (n : Int) - 1 := by
  have := pk_sub_toInt (a := n) (b := 1) h (by decide)
  rw [← pu_1] at this
  simpa using this
def vref (T : Nat) (x : Int32) : Prop := x = -5 ∨ ∃ j, j < T ∧ x = nI j
theorem vref_mono {T T' : Nat} (h : T ≤ T') {x : Int32} (hx : vref T x) : vref T' x := hx.imp id (fun ⟨j, h1, h2⟩ => ⟨j, by omega, h2⟩)
theorem in_1 {x lo hi : Int32} (h1 : ¬ x < lo) (h2 : ¬ hi < x) : sM_in x lo hi = 1 := by unfold sM_in; rw [if_neg h1, if_neg h2]
theorem in_0 {x lo hi : Int32} (h : x < lo ∨ hi < x) : sM_in x lo hi = 0 := by
  unfold sM_in
  by_cases h1 : x < lo
  · rw [if_pos h1]
  · rw [if_neg h1, if_pos (h.resolve_left h1)]
theorem wi_in (x lo hi : Int32) : sX_within x lo hi = sM_in x lo hi := rfl
/-- a number of the range, or none -/
theorem in_cases (x : Int32) (lo hi : Nat) (hlo : lo < 2 ^ 30) (hh : hi < 2 ^ 30) : (sM_in x (nI lo) (nI hi) = 1 ∧ ∃ j, lo ≤ j ∧ j ≤ hi ∧ x = nI j) ∨ (sM_in x (nI lo) (nI hi) = 0 ∧ ∀ j, lo ≤ j → j ≤ hi → x ≠ nI j) := by
  by_cases h : x < nI lo ∨ nI hi < x
  · refine Or.inr ⟨in_0 h, fun j h1 h2 e => ?_⟩
    subst e
    rcases h with h | h
    · exact nI_nlt h1 (by omega) h
    · exact nI_nlt h2 (by omega) h
  · have h1 : ¬ x < nI lo := fun z => h (Or.inl z)
    have h2 : ¬ nI hi < x := fun z => h (Or.inr z)
    by_cases hle : lo ≤ hi
    · have h0 : ¬ x < 0 := by
        rw [pu_lt] at h1 ⊢
        rw [nI_toInt (by omega)] at h1
        rw [Int32.toInt_zero]; omega
      obtain ⟨j, hj, rfl⟩ := nI_of h0
      rw [pu_lt, nI_toInt hj, nI_toInt (by omega)] at h1 h2
      exact Or.inl ⟨in_1 (by rw [pu_lt, nI_toInt hj, nI_toInt (by omega)]; omega) (by rw [pu_lt, nI_toInt hj, nI_toInt (by omega)]; omega), j, by omega, by omega, rfl⟩
    · exfalso
      rw [pu_lt] at h1 h2
      rw [nI_toInt (by omega)] at h1 h2
      omega
section Kn
variable {u v : St} {T : Nat}
theorem knX1 (hT : u.1 1 = nI T) (hb : T ≤ 80) {j : Nat} (hj : j < T) : sXT_know u (nI j) = 1 := by
  unfold sXT_know; rw [if_neg (nI_pos (by omega)), hT, if_neg (nI_ge hj (by omega))]
theorem knX0 (hT : u.1 1 = nI T) {t : Int32} (h : t < 0 ∨ nI T ≤ t) : sXT_know u t = 0 := by
  unfold sXT_know
  by_cases h1 : t < 0
  · rw [if_pos h1]
  · rw [if_neg h1, hT, if_pos (h.resolve_left h1)]
theorem knM1 (hT : v.1 1 = nI T) (hb : T ≤ 80) {j : Nat} (hj : j < T) : sM_isThing v (nI j) = 1 := by
  unfold sM_isThing
  refine in_1 (nI_pos (by omega)) ?_
  rw [hT, pu_lt, pu_pred (by omega), nI_toInt (by omega)]; omega
theorem knM0 (hT : v.1 1 = nI T) (hb : T ≤ 80) {t : Int32} (h : t < 0 ∨ nI T ≤ t) : sM_isThing v t = 0 := by
  unfold sM_isThing
  refine in_0 (h.imp id fun h => ?_)
  rw [pu_le, nI_toInt (by omega)] at h
  rw [hT, pu_lt, pu_pred (by omega)]; omega
theorem kn_cases (t : Int32) (hb : T ≤ 80) : (∃ j, j < T ∧ t = nI j) ∨ (t < 0 ∨ nI T ≤ t) := by
  rcases pk_ix t (n := T) (by omega) with h | h | h
  · exact Or.inr (Or.inl h)
  · exact Or.inr (Or.inr h)
  · exact Or.inl h
theorem m5_neg : ((-5) : Int32) < 0 := by decide
theorem nI_ne5 {j : Nat} (h : j < 2 ^ 31) : ¬ nI j = (-5) := fun e => nI_pos h (by rw [e]; decide)
theorem knoX {t : Int32} (hT : u.1 1 = nI T) (hb : T ≤ 80) : (sXT_knowOrNone u t = 1 ∧ vref T t) ∨ (sXT_knowOrNone u t = 0 ∧ ¬ vref T t) := by
  unfold sXT_knowOrNone
  by_cases h5 : t = -5
  · rw [if_pos h5]; exact Or.inl ⟨rfl, Or.inl h5⟩
  · rw [if_neg h5]
    rcases kn_cases t hb with ⟨j, hj, rfl⟩ | h
    · rw [knX1 hT hb hj]; exact Or.inl ⟨rfl, Or.inr ⟨j, hj, rfl⟩⟩
    · rw [knX0 hT h]
      refine Or.inr ⟨rfl, fun hv => ?_⟩
      rcases hv with hv | ⟨j, hj, rfl⟩
      · exact h5 hv
      · rcases h with h | h
        · exact nI_pos (by omega) h
        · exact nI_ge hj (by omega) h
theorem knoM {t : Int32} (hT : v.1 1 = nI T) (hb : T ≤ 80) : (sM_isThingOrNone v t = 1 ∧ vref T t) ∨ (sM_isThingOrNone v t = 0 ∧ ¬ vref T t) := by
  unfold sM_isThingOrNone
  by_cases h5 : t = -5
  · rw [if_pos h5]; exact Or.inl ⟨rfl, Or.inl h5⟩
  · rw [if_neg h5]
    rcases kn_cases t hb with ⟨j, hj, rfl⟩ | h
    · rw [knM1 hT hb hj]; exact Or.inl ⟨rfl, Or.inr ⟨j, hj, rfl⟩⟩
    · rw [knM0 hT hb h]
      refine Or.inr ⟨rfl, fun hv => ?_⟩
      rcases hv with hv | ⟨j, hj, rfl⟩
      · exact h5 hv
      · rcases h with h | h
        · exact nI_pos (by omega) h
        · exact nI_ge hj (by omega) h
theorem kno_eq {t : Int32} (hT : u.1 1 = nI T) (hT' : v.1 1 = nI T) (hb : T ≤ 80) : (sXT_knowOrNone u t = 1 ∧ sM_isThingOrNone v t = 1 ∧ vref T t) ∨ (sXT_knowOrNone u t = 0 ∧ sM_isThingOrNone v t = 0) := by
  rcases knoX (t := t) hT hb with ⟨a, b⟩ | ⟨a, b⟩ <;> rcases knoM (t := t) hT' hb with ⟨c, d⟩ | ⟨c, d⟩
  · exact Or.inl ⟨a, c, b⟩
  · exact absurd b d
  · exact absurd d b
  · exact Or.inr ⟨a, c⟩
end Kn
/-- the kinds of a form, alike on both sides -/
theorem fio_eq : ∀ f, f < 14 → ∀ k : Int32, sXT_formIsOf (nI f) k = sM_isOf (nI f) k := by
  intro f hf k
  have hk : (∃ j, j < 16 ∧ k = nI j) ∨ ∀ j, j < 16 → k ≠ nI j := by
    by_cases h : ∃ j, j < 16 ∧ k = nI j
    · exact Or.inl h
    · exact Or.inr fun j hj e => h ⟨j, hj, e⟩
  rcases hk with ⟨j, hj, rfl⟩ | hk
  · have key : ∀ f : Fin 14, ∀ j : Fin 16, sXT_formIsOf (nI f.val) (nI j.val) = sM_isOf (nI f.val) (nI j.val) := by decide +kernel
    exact key ⟨f, hf⟩ ⟨j, hj⟩
  · have n0 : ¬ k = 0 := hk 0 (by decide)
    have n1 : ¬ k = 1 := hk 1 (by decide)
    have n2 : ¬ k = 2 := hk 2 (by decide)
    have n3 : ¬ k = 3 := hk 3 (by decide)
    have n4 : ¬ k = 4 := hk 4 (by decide)
    have n5 : ¬ k = 5 := hk 5 (by decide)
    have n6 : ¬ k = 6 := hk 6 (by decide)
    have n7 : ¬ k = 7 := hk 7 (by decide)
    have n8 : ¬ k = 8 := hk 8 (by decide)
    have n9 : ¬ k = 9 := hk 9 (by decide)
    have n10 : ¬ k = 10 := hk 10 (by decide)
    have n11 : ¬ k = 11 := hk 11 (by decide)
    have n12 : ¬ k = 12 := hk 12 (by decide)
    have n13 : ¬ k = 13 := hk 13 (by decide)
    have n14 : ¬ k = 14 := hk 14 (by decide)
    have n15 : ¬ k = 15 := hk 15 (by decide)
    have nf : ¬ k = nI f := hk f (by omega)
    have nf' : ¬ nI f = k := fun e => nf e.symm
    simp only [sXT_formIsOf, sM_isOf, n0, n1, n2, n3, n4, n5, n6, n7, n8, n9, n10, n11, n12, n13, n14, n15, nf, nf', if_false]
    repeat' split
    all_goals rfl
