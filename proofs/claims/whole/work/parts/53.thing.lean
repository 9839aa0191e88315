theorem bnd_d {α : Type} {β : Type} {a : α} {f : α → β} : bnd a f = f a := bnd_eq (z := a) rfl
theorem bnd_p {α : Type} {a : α} {f : α → Prop} : bnd a f = f a := propext ⟨fun h => bnd_ok (z := a) rfl h, fun h => h⟩
theorem bnd2_d {α β γ : Type} {a : α × β} {f : α → β → γ} : bnd2 a f = f a.1 a.2 := bnd2_eq (x := a.1) (y := a.2) rfl
theorem bnd2_p {α β : Type} {a : α × β} {f : α → β → Prop} : bnd2 a f = f a.1 a.2 := propext ⟨fun h => bnd2_ok (x := a.1) (y := a.2) rfl h, fun h => h⟩
theorem updS {g : Nat → Int32} {k : Nat} {x : Int32} : upd g k x k = x := if_pos rfl
theorem updN {g : Nat → Int32} {k j : Nat} {x : Int32} (h : j ≠ k) : upd g k x j = g j := if_neg h
theorem updLS {g : Nat → Int64} {k : Nat} {x : Int64} : vp_updL g k x k = x := if_pos rfl
theorem updLN {g : Nat → Int64} {k j : Nat} {x : Int64} (h : j ≠ k) : vp_updL g k x j = g j := if_neg h
theorem mk_rel {T P R : Nat} {u v : St} (h : Rel T P R u v) (hlt : T < 80) {f n n' : Nat} (m : Int32) (hf : f < 14) (hn : n' ≤ 6) (h2 : f ≠ 2 → n = n') (h3 : f = 2 → n = 0 ∧ n' = 2) :
    okXT_make u (nI f) m (nI n) ∧ okM_make v (nI f) m (nI n') ∧ ∃ w z, sXT_make u (nI f) m (nI n) = (nI T, w) ∧ sM_make v (nI f) m (nI n') = (nI T, z) ∧ Rel (T + 1) P R w z := by
  obtain ⟨⟨hT, hT', hb, hN⟩, hRT, hRP, hRR, hS1, hS2, hS3⟩ := h
  have ci : (nI T).toNatClampNeg = T := pu_ci (by omega)
  have hv : vp_in (nI T) 80 := vp_in_nI hlt (by decide)
  have hfull : sXT_areFull u = 0 := by
    unfold sXT_areFull
    rw [hT, if_pos (by have : (80 : Int32) = nI 80 := by decide
                       rw [this]; exact nI_lt hlt (by decide))]
  obtain ⟨hoX, w, hw, w1, w2, w3, w4⟩ := mkX_loop 6 0 100 (stA (stA (stA (stA (stA u 7 T (nI f)) 8 T m) 9 T (nI n)) 10 T (-5)) 11 T (-5)) (nI f) m (nI n) T (by omega) hlt (by omega)
  obtain ⟨hoM, z, hz, z1, z2, z3, z4⟩ := mkM_loop 6 0 100 (stA (stA (stA v 1 T (nI f)) 2 T m) 3 T (nI n')) (nI f) m (nI n') T hT' (by omega) hlt (by omega)
  rw [nI_0] at hoX hw
  rw [Nat.add_zero] at hoM hz
  refine ⟨?_, ?_, w, z, ?_, ?_, ?_⟩
  · unfold okXT_make
    refine ⟨fun _ => ?_, fun _ => trivial⟩
    rw [hT]
    simp only [bnd_d, bnd_p, ci]
    exact ⟨hv, hv, hv, hv, hv, hoX⟩
  · unfold okM_make
    rw [hT']
    simp only [bnd_d, bnd_p, ci]
    have e1 : ∀ a b : Nat, ∀ x : Int32, (stA v a b x).1 1 = nI T := fun _ _ _ => hT'
    have e2 : ∀ a b a' b' : Nat, ∀ x x' : Int32, (stA (stA v a b x) a' b' x').1 1 = nI T := fun _ _ _ _ _ _ => hT'
    have e3 : ∀ a b a' b' a'' b'' : Nat, ∀ x x' x'' : Int32, (stA (stA (stA v a b x) a' b' x') a'' b'' x'').1 1 = nI T := fun _ _ _ _ _ _ _ _ _ => hT'
    simp only [e1, e2, e3, ci, pu_ix0]
    exact ⟨hv, hv, hv, hoM⟩
  · unfold sXT_make
    rw [if_pos hfull, hT]
    simp only [bnd_d, bnd_p, ci]
    exact hw
  · unfold sM_make
    rw [hT']
    simp only [bnd_d, bnd_p, ci]
    have e1 : ∀ a b : Nat, ∀ x : Int32, (stA v a b x).1 1 = nI T := fun _ _ _ => hT'
    have e2 : ∀ a b a' b' : Nat, ∀ x x' : Int32, (stA (stA v a b x) a' b' x').1 1 = nI T := fun _ _ _ _ _ _ => hT'
    have e3 : ∀ a b a' b' a'' b'' : Nat, ∀ x x' x'' : Int32, (stA (stA (stA v a b x) a' b' x') a'' b'' x'').1 1 = nI T := fun _ _ _ _ _ _ _ _ _ => hT'
    simp only [e1, e2, e3, ci, pu_ix0]
    exact hz
  · have x7 : w.2.1 7 = upd (u.2.1 7) T (nI f) := w2 7 (by decide)
    have x8 : w.2.1 8 = upd (u.2.1 8) T m := w2 8 (by decide)
    have x9 : w.2.1 9 = upd (u.2.1 9) T (nI n) := w2 9 (by decide)
    have x10 : w.2.1 10 = upd (u.2.1 10) T (-5) := w2 10 (by decide)
    have x11 : w.2.1 11 = upd (u.2.1 11) T (-5) := w2 11 (by decide)
    have y1 : z.2.1 1 = upd (v.2.1 1) T (nI f) := z2 1 (by decide)
    have y2 : z.2.1 2 = upd (v.2.1 2) T m := z2 2 (by decide)
    have y3 : z.2.1 3 = upd (v.2.1 3) T (nI n') := z2 3 (by decide)
    have w3' : ∀ k, w.2.1 12 k = if 6 * T + 0 ≤ k ∧ k < 6 * T + 6 then -5 else u.2.1 12 k := w3
    have w4' : ∀ k, w.2.2 k = if 6 * T + 0 ≤ k ∧ k < 6 * T + 6 then 0 else u.2.2 k := w4
    have z3' : ∀ k, z.2.1 5 k = if 6 * T + 0 ≤ k ∧ k < 6 * T + 6 then -5 else v.2.1 5 k := z3
    have z4' : ∀ k, z.2.2 k = if 6 * T + 0 ≤ k ∧ k < 6 * T + 6 then 0 else v.2.2 k := z4
    refine ⟨⟨?_, ?_, by omega, ?_⟩, ?_, ?_, ?_, ?_, ?_, ?_⟩
    · rw [w1]; show (u.1 1 + 1) = _; rw [hT, nI_1]
    · rw [z1]; rfl
    · rw [w1, z1]; exact hN
    · intro t ht
      by_cases e : t = T
      · subst e
        refine ⟨f, n', hf, hn, ?_, ?_, ?_, ?_, fun q => ⟨(h3 q).2, ?_, ?_, ?_⟩, fun q => ?_, fun i hi => ⟨fun q => ?_, ?_, ?_⟩⟩
        · rw [x7]; exact updS
        · rw [y1]; exact updS
        · rw [x8, y2]; exact updS.trans updS.symm
        · rw [y3]; exact updS
        · rw [x9, (h3 q).1]; exact updS
        · rw [x10, z3', if_pos (by omega)]; exact updS
        · rw [x11, z3', if_pos (by omega)]; exact updS
        · rw [x9, h2 q]; exact updS
        · rw [w3', z3', if_pos (by omega), if_pos (by omega)]
        · rw [w4', z4', if_pos (by omega), if_pos (by omega)]
        · rw [z3', if_pos (by omega)]; exact Or.inl rfl
      · obtain ⟨f0, n0, a1, a2, a3, a4, a5, a6, a7, a8, a9⟩ := hRT t (by omega)
        refine ⟨f0, n0, a1, a2, ?_, ?_, ?_, ?_, fun q => ⟨(a7 q).1, ?_, ?_, ?_⟩, fun q => ?_, fun i hi => ⟨fun q => ?_, ?_, ?_⟩⟩
        · rw [x7, updN e]; exact a3
        · rw [y1, updN e]; exact a4
        · rw [x8, y2, updN e, updN e]; exact a5
        · rw [y3, updN e]; exact a6
        · rw [x9, updN e]; exact (a7 q).2.1
        · rw [x10, updN e, z3', if_neg (by omega)]; exact (a7 q).2.2.1
        · rw [x11, updN e, z3', if_neg (by omega)]; exact (a7 q).2.2.2
        · rw [x9, updN e]; exact a8 q
        · rw [w3', z3', if_neg (by omega), if_neg (by omega)]; exact (a9 i hi).1 q
        · rw [w4', z4', if_neg (by omega), if_neg (by omega)]; exact (a9 i hi).2.1
        · rw [z3', if_neg (by omega)]; exact vref_mono (by omega) (a9 i hi).2.2
    · intro p hp
      rw [w2 14 (by decide), w2 15 (by decide), w2 16 (by decide), w2 17 (by decide), z2 6 (by decide), z2 7 (by decide), z2 8 (by decide), z2 9 (by decide)]
      exact hRP p hp
    · intro r hr
      rw [w2 18 (by decide), w2 19 (by decide), w2 20 (by decide), w2 21 (by decide), w2 22 (by decide), w2 23 (by decide), z2 10 (by decide), z2 11 (by decide), z2 12 (by decide), z2 13 (by decide), z2 14 (by decide), z2 15 (by decide)]
      exact hRR r hr
    · intro i hi
      rw [w2 4 (by decide), z2 16 (by decide)]
      exact ⟨(hS1 i hi).1, vref_mono (by omega) (hS1 i hi).2⟩
    · intro i hi
      rw [w2 6 (by decide), z2 18 (by decide)]
      exact hS2 i hi
    · rw [w1, z1]; exact hS3
/-- answers alike, states alike -/
def Agr (okx okm : Prop) (a b : Int32) (u v : St) : Prop := okx ∧ okm ∧ a = b ∧ ∃ T P R, Rel T P R u v
-- findings
def fnd (k : Nat) : Int32 := match k with
  | 0 => -21
  | 1 => -22
  | 2 => -23
  | 3 => -24
  | 4 => -25
  | _ => -26
theorem fnd_ix : ∀ k, k < 6 → (-20) - fnd k = nI (k + 1) ∧ sX_within ((-20) - fnd k) 1 6 = 1 ∧ ((-20) - fnd k) - 1 = nI k ∧ fnd k < 0 ∧ fnd k ≠ 1 ∧ fnd k ≠ 0 := by
  intro k hk
  have key : ∀ k : Fin 6, (-20) - fnd k.val = nI (k.val + 1) ∧ sX_within ((-20) - fnd k.val) 1 6 = 1 ∧ ((-20) - fnd k.val) - 1 = nI k.val ∧ fnd k.val < 0 ∧ fnd k.val ≠ 1 ∧ fnd k.val ≠ 0 := by decide +kernel
  exact key ⟨k, hk⟩
theorem Rel_fnd {T P R : Nat} {u v : St} (h : Rel T P R u v) {k : Nat} (hk : k < 6) : Rel T P R (stA u 6 k (u.2.1 6 k + 1)) (stA v 18 (k + 1) (v.2.1 18 (k + 1) + 1)) := by
  obtain ⟨h1, h2, h3, h4, h5, h6, h7⟩ := h
  refine ⟨h1, h2, h3, h4, h5, fun i hi => ?_, h7⟩
  show upd (u.2.1 6) k _ i = upd (v.2.1 18) (k + 1) _ (i + 1)
  by_cases e : i = k
  · subst e; rw [updS, updS, h6 i hi]
  · rw [updN e, updN (by omega)]; exact h6 i hi
theorem cntX {k : Nat} (hk : k < 6) (u : St) : okX_counted u (fnd k) ∧ sX_counted u (fnd k) = (fnd k, stA u 6 k (u.2.1 6 k + 1)) := by
  obtain ⟨e1, e2, e3, -⟩ := fnd_ix k hk
  have hn : ¬ sX_within ((-20) - fnd k) 1 6 = 0 := by rw [e2]; decide
  constructor
  · unfold okX_counted
    simp only [bnd_d, bnd_p]
    refine ⟨fun h => absurd h hn, fun _ => ?_⟩
    rw [e3]
    exact ⟨vp_in_nI (by omega) (by decide), vp_in_nI (by omega) (by decide), trivial⟩
  · unfold sX_counted
    simp only [bnd_d, bnd_p]
    rw [if_neg hn, e3, pu_ci (by omega)]
theorem cntX1 {r : Int32} (hr : r = 1 ∨ r = 0) (u : St) : okX_counted u r ∧ sX_counted u r = (r, u) := by
  have hn : sX_within ((-20) - r) 1 6 = 0 := by rcases hr with rfl | rfl <;> decide
  constructor
  · unfold okX_counted
    simp only [bnd_d, bnd_p]
    exact ⟨fun _ => trivial, fun h => absurd hn h⟩
  · unfold sX_counted
    simp only [bnd_d, bnd_p]
    rw [if_pos hn]
theorem fndM {k : Nat} (hk : k < 6) (v : St) : okM_finds v (fnd k) ∧ sM_finds v (fnd k) = (fnd k, stA v 18 (k + 1) (v.2.1 18 (k + 1) + 1)) := by
  obtain ⟨e1, -⟩ := fnd_ix k hk
  constructor
  · unfold okM_finds
    rw [e1]
    exact ⟨vp_in_nI (by omega) (by decide), vp_in_nI (by omega) (by decide), trivial⟩
  · unfold sM_finds
    simp only [bnd_d, bnd_p]
    rw [e1, pu_ci (by omega)]
theorem Agr_fnd {T P R : Nat} {u v : St} (h : Rel T P R u v) {k : Nat} (hk : k < 6) : Agr (okX_counted u (fnd k)) (okM_finds v (fnd k)) (sX_counted u (fnd k)).1 (sM_finds v (fnd k)).1 (sX_counted u (fnd k)).2 (sM_finds v (fnd k)).2 := by
  obtain ⟨a, b⟩ := cntX hk u
  obtain ⟨c, d⟩ := fndM hk v
  rw [b, d]
  exact ⟨a, c, rfl, T, P, R, Rel_fnd h hk⟩
