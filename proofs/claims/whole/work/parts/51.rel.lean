-- the relation of states
def RT (T : Nat) (u v : St) : Prop := ∀ t, t < T → ∃ f n : Nat, f < 14 ∧ n ≤ 6 ∧ u.2.1 7 t = nI f ∧ v.2.1 1 t = nI f ∧ u.2.1 8 t = v.2.1 2 t ∧ v.2.1 3 t = nI n ∧ (f = 2 → n = 2 ∧ u.2.1 9 t = 0 ∧ u.2.1 10 t = v.2.1 5 (6 * t) ∧ u.2.1 11 t = v.2.1 5 (6 * t + 1)) ∧ (f ≠ 2 → u.2.1 9 t = nI n) ∧ ∀ i, i < 6 → (f ≠ 2 → u.2.1 12 (6 * t + i) = v.2.1 5 (6 * t + i)) ∧ u.2.2 (6 * t + i) = v.2.2 (6 * t + i) ∧ vref T (v.2.1 5 (6 * t + i))
def RP (P : Nat) (u v : St) : Prop := ∀ p, p < P → ∃ s : Nat, s < 14 ∧ u.2.1 14 p = nI s ∧ v.2.1 6 p = nI s ∧ u.2.1 15 p = v.2.1 7 p ∧ u.2.1 16 p = v.2.1 8 p ∧ u.2.1 17 p = v.2.1 9 p ∧
  (s = 3 ∨ s = 7 ∨ s = 8 ∨ s = 9 → ∃ j, j < p ∧ u.2.1 15 p = nI j) ∧ (s = 1 ∨ s = 3 ∨ s = 4 ∨ s = 7 ∨ s = 8 → ∃ j, j < p ∧ u.2.1 16 p = nI j) ∧ (s = 5 → ∃ j, j < p ∧ u.2.1 17 p = nI j) ∧
  (s = 10 ∨ s = 11 → ∃ j, j < 4 ∧ u.2.1 15 p = nI j) ∧ (s = 4 ∨ s = 5 ∨ s = 6 ∨ s = 13 → ∃ j, 4 ≤ j ∧ j ≤ 13 ∧ u.2.1 15 p = nI j)
def RR (P R : Nat) (u v : St) : Prop := ∀ r, r < R → u.2.1 18 r = v.2.1 10 r ∧ u.2.1 19 r = v.2.1 11 r ∧ u.2.1 20 r = v.2.1 12 r ∧ u.2.1 21 r = v.2.1 13 r ∧ u.2.1 22 r = v.2.1 14 r ∧ u.2.1 23 r = v.2.1 15 r ∧ (∃ p, p < P ∧ u.2.1 18 r = nI p) ∧ (∃ a, a ≤ 5 ∧ u.2.1 19 r = nI a) ∧ (u.2.1 19 r = 1 → ∃ k, 7 ≤ k ∧ k ≤ 13 ∧ u.2.1 20 r = nI k)
def RS (T : Nat) (u v : St) : Prop := (∀ i, i < 4 → u.2.1 4 i = v.2.1 16 i ∧ vref T (u.2.1 4 i)) ∧ (∀ i, i < 6 → u.2.1 6 i = v.2.1 18 (i + 1)) ∧ u.1 0 = v.1 4 ∧ ∃ k, k ≤ 300 ∧ u.1 0 = nI k
def RN (T P R : Nat) (u v : St) : Prop := u.1 1 = nI T ∧ v.1 1 = nI T ∧ T ≤ 80 ∧ u.1 2 = nI P ∧ v.1 2 = nI P ∧ P ≤ 40 ∧ u.1 3 = nI R ∧ v.1 3 = nI R ∧ R ≤ 16
def Rel (T P R : Nat) (u v : St) : Prop := RN T P R u v ∧ RT T u v ∧ RP P u v ∧ RR P R u v ∧ RS T u v
theorem Rel_thr {T P R : Nat} {u v : St} (h : Rel T P R u v) (x : Int32) : Rel T P R u (stI v 0 x) := h
-- what is asked of a thing
section Ask
variable {T P R : Nat} {u v : St}
theorem ofX {t f : Nat} (hT : u.1 1 = nI T) (hb : T ≤ 80) (ht : t < T) (hf : f < 14) (e : u.2.1 7 t = nI f) (k : Int32) : sXT_isOf u (nI t) k = sM_isOf (nI f) k := by
  unfold sXT_isOf
  rw [knX1 hT hb ht, if_neg (by decide), nI_clamp (by omega), e, fio_eq f hf]
  rcases bM_isOf (nI f) k with h | h <;> rw [h] <;> rfl
theorem ofX5 (hT : u.1 1 = nI T) (k : Int32) : sXT_isOf u (-5) k = 0 := by
  unfold sXT_isOf
  rw [knX0 hT (Or.inl m5_neg), if_pos rfl]
theorem ofM {t f : Nat} (hb : t < 80) (e : v.2.1 1 t = nI f) (k : Int32) : sM_isA v (nI t) k = sM_isOf (nI f) k := by
  unfold sM_isA
  rw [if_neg (nI_pos (by omega)), nI_clamp (by omega), e]
  rcases bM_isOf (nI f) k with h | h <;> rw [h] <;> rfl
theorem ofM5 (k : Int32) : sM_isA v (-5) k = 0 := by unfold sM_isA; rw [if_pos m5_neg]
theorem paM {t f : Nat} (hb : t < 80) (e : v.2.1 1 t = nI f) (k : Int32) : sM_passes v (nI t) k = sM_isOf (nI f) k := by
  unfold sM_passes
  rw [if_neg (nI_pos (by omega)), nI_clamp (by omega), e]
  rcases bM_isOf (nI f) k with h | h <;> rw [h] <;> rfl
theorem paM5 (k : Int32) : sM_passes v (-5) k = 1 := by unfold sM_passes; rw [if_pos m5_neg]
theorem mbX5 (k : Int32) : sXT_mayBeTaken u (-5) k = 1 := by unfold sXT_mayBeTaken; rw [if_pos rfl]
theorem mbX {t f : Nat} (hT : u.1 1 = nI T) (hb : T ≤ 80) (ht : t < T) (hf : f < 14) (e : u.2.1 7 t = nI f) (k : Int32) : sXT_mayBeTaken u (nI t) k = sM_isOf (nI f) k := by
  unfold sXT_mayBeTaken
  rw [if_neg (nI_ne5 (by omega)), ofX hT hb ht hf e]
  rcases bM_isOf (nI f) k with h | h <;> rw [h] <;> rfl
theorem okofX {t : Int32} (hT : u.1 1 = nI T) (hb : T ≤ 80) (hv : vref T t) (k : Int32) : okXT_isOf u t k := by
  unfold okXT_isOf
  rcases hv with rfl | ⟨j, hj, rfl⟩
  · exact ⟨fun _ => trivial, fun h => absurd (knX0 hT (Or.inl m5_neg)) h⟩
  · exact ⟨fun _ => trivial, fun _ => ⟨vp_in_nI (by omega) (by decide), trivial⟩⟩
theorem okmbX {t : Int32} (hT : u.1 1 = nI T) (hb : T ≤ 80) (hv : vref T t) (k : Int32) : okXT_mayBeTaken u t k := ⟨fun _ => trivial, fun _ => ⟨okofX hT hb hv k, trivial⟩⟩
theorem okpaM {t : Int32} (hb : T ≤ 80) (hv : vref T t) (k : Int32) : okM_passes v t k := by
  rcases hv with rfl | ⟨j, hj, rfl⟩
  · exact ⟨fun _ => trivial, fun h => absurd m5_neg h⟩
  · exact ⟨fun _ => trivial, fun _ => ⟨vp_in_nI (by omega) (by decide), trivial⟩⟩
theorem okofM {t : Int32} (hb : T ≤ 80) (hv : vref T t) (k : Int32) : okM_isA v t k := okpaM (v := v) hb hv k
/-- both sides ask alike whether a thing, or nothing, is of a kind, may be taken for it -/
theorem of_eq (h : Rel T P R u v) {t : Int32} (hv : vref T t) (k : Int32) : sXT_isOf u t k = sM_isA v t k := by
  obtain ⟨⟨hT, hT', hb, -⟩, hRT, -⟩ := h
  rcases hv with rfl | ⟨j, hj, rfl⟩
  · rw [ofX5 hT, ofM5]
  · obtain ⟨f, n, hf, hn, e1, e2, -⟩ := hRT j hj
    rw [ofX hT hb hj hf e1, ofM (by omega) e2]
theorem mb_eq (h : Rel T P R u v) {t : Int32} (hv : vref T t) (k : Int32) : sXT_mayBeTaken u t k = sM_passes v t k := by
  obtain ⟨⟨hT, hT', hb, -⟩, hRT, -⟩ := h
  rcases hv with rfl | ⟨j, hj, rfl⟩
  · rw [mbX5, paM5]
  · obtain ⟨f, n, hf, hn, e1, e2, -⟩ := hRT j hj
    rw [mbX hT hb hj hf e1, paM (by omega) e2]
/-- a kind 4 .. 13 is no pair's -/
theorem of_ne2 : ∀ k, 4 ≤ k → k ≤ 13 → sM_isOf (nI 2) (nI k) = 0 := by
  intro k h1 h2
  have key : ∀ k : Fin 14, 4 ≤ k.val → sM_isOf (nI 2) (nI k.val) = 0 := by decide +kernel
  exact key ⟨k, by omega⟩ h1
theorem part_eq : ∀ k, 7 ≤ k → k ≤ 13 → sXT_partOf u (nI k) = sM_of (nI k) := by
  intro k h1 h2
  have key : ∀ k : Fin 14, 7 ≤ k.val → sXT_partOf (fun _ => 0, fun _ _ => 0, fun _ => 0) (nI k.val) = sM_of (nI k.val) := by decide +kernel
  exact key ⟨k, by omega⟩ h1
theorem okpart {k : Int32} : okXT_partOf u k := by
  unfold okXT_partOf
  refine ⟨fun _ => trivial, fun h => ⟨?_, trivial⟩⟩
  rcases in_cases k 7 13 (by decide) (by decide) with ⟨-, j, h1, h2, rfl⟩ | ⟨h0, -⟩
  · have key : ∀ j : Fin 14, 7 ≤ j.val → nI j.val - 7 = nI (j.val - 7) := by decide +kernel
    rw [key ⟨j, by omega⟩ h1]
    exact vp_in_nI (by omega) (by decide)
  · exact absurd h0 h
/-- places of a row: alike -/
theorem has_eq (h : Rel T P R u v) {t f n : Nat} (ht : t < T) (hn : n ≤ 6) (hp : u.2.1 9 t = nI n) (hs : v.2.1 3 t = nI n) (i : Int32) :
    (sXT_hasPlace u (nI t) i = 1 ∧ sM_in i 0 (v.2.1 3 t - 1) = 1 ∧ ∃ j, j < n ∧ i = nI j) ∨ (sXT_hasPlace u (nI t) i = 0 ∧ sM_in i 0 (v.2.1 3 t - 1) = 0) := by
  obtain ⟨⟨hT, hT', hb, -⟩, -⟩ := h
  unfold sXT_hasPlace
  rw [knX1 hT hb ht, if_neg (by decide), nI_clamp (by omega), hp, hs]
  by_cases h0 : i < 0
  · rw [if_pos h0]; exact Or.inr ⟨rfl, in_0 (Or.inl h0)⟩
  · rw [if_neg h0]
    obtain ⟨j, hj, rfl⟩ := nI_of h0
    by_cases hjn : j < n
    · rw [if_neg (nI_ge hjn (by omega))]
      exact Or.inl ⟨rfl, in_1 h0 (by rw [pu_lt, pu_pred (by omega), nI_toInt hj]; omega), j, hjn, rfl⟩
    · rw [if_pos (nI_le (by omega) hj)]
      exact Or.inr ⟨rfl, in_0 (Or.inr (by rw [pu_lt, pu_pred (by omega), nI_toInt hj]; omega))⟩
theorem okhas {t : Int32} (hT : u.1 1 = nI T) (hb : T ≤ 80) (hv : vref T t) (i : Int32) : okXT_hasPlace u t i := by
  unfold okXT_hasPlace
  rcases hv with rfl | ⟨j, hj, rfl⟩
  · exact ⟨fun _ => trivial, fun h => absurd (knX0 hT (Or.inl m5_neg)) h⟩
  · exact ⟨fun _ => trivial, fun _ => ⟨fun _ => trivial, fun _ => ⟨vp_in_nI (by omega) (by decide), trivial⟩⟩⟩
end Ask
