-- the reference's machine of looks, a step at a time
def stepM (v : St) : St := if (v.2.1 21 (v.1 5 - 1).toNatClampNeg) = 0 then sM_begins v (v.2.1 19 (v.1 5 - 1).toNatClampNeg) (v.2.1 20 (v.1 5 - 1).toNatClampNeg) else sM_goesOn v (v.2.1 19 (v.1 5 - 1).toNatClampNeg) (v.2.1 20 (v.1 5 - 1).toNatClampNeg) (v.2.1 21 (v.1 5 - 1).toNatClampNeg)
def okstM (v : St) : Prop := vp_in (v.1 5 - 1) 64 ∧ (v.2.1 21 (v.1 5 - 1).toNatClampNeg = 0 → okM_begins v (v.2.1 19 (v.1 5 - 1).toNatClampNeg) (v.2.1 20 (v.1 5 - 1).toNatClampNeg)) ∧ (¬ v.2.1 21 (v.1 5 - 1).toNatClampNeg = 0 → okM_goesOn v (v.2.1 19 (v.1 5 - 1).toNatClampNeg) (v.2.1 20 (v.1 5 - 1).toNatClampNeg) (v.2.1 21 (v.1 5 - 1).toNatClampNeg))
def goM : Nat → St → St → Prop
  | 0, v, w => v = w
  | n + 1, v, w => ¬ v.1 5 ≤ 0 ∧ v.1 6 = 0 ∧ okstM v ∧ goM n (stepM v) w
theorem goM_s (n : Nat) (v w : St) : goM (n + 1) v w ↔ (¬ v.1 5 ≤ 0 ∧ v.1 6 = 0 ∧ okstM v ∧ goM n (stepM v) w) := Iff.rfl
theorem goM_trans : ∀ {a b : Nat} {v w z : St}, goM a v w → goM b w z → goM (a + b) v z := by
  intro a
  induction a with
  | zero => intro b v w z h1 h2; rw [Nat.zero_add]; have e : v = w := h1; subst e; exact h2
  | succ a ih =>
    intro b v w z h1 h2
    obtain ⟨q1, q2, q3, q4⟩ := (goM_s a v w).mp h1
    rw [Nat.succ_add]
    exact (goM_s (a + b) v z).mpr ⟨q1, q2, q3, ih q4 h2⟩
def Low (k : Nat) (v w : St) : Prop := ∀ i, i < k → w.2.1 19 i = v.2.1 19 i ∧ w.2.1 20 i = v.2.1 20 i ∧ w.2.1 21 i = v.2.1 21 i
theorem Low.rf {k : Nat} {v : St} : Low k v v := fun _ _ => ⟨rfl, rfl, rfl⟩
theorem Low.tr {k : Nat} {a b c : St} (h1 : Low k a b) (h2 : Low k b c) : Low k a c := fun i hi => ⟨(h2 i hi).1.trans (h1 i hi).1, (h2 i hi).2.1.trans (h1 i hi).2.1, (h2 i hi).2.2.trans (h1 i hi).2.2⟩
theorem Low.mono {k k' : Nat} (hk : k ≤ k') {a b : St} (h : Low k' a b) : Low k a b := fun i hi => h i (by omega)
/-- the machine comes from v to a state that has the answer -/
def Res (T P R k b : Nat) (val : Int32 × St) (v : St) : Prop := ∃ (m : Nat) (w : St) (s : Nat), goM m v w ∧ Rel T P R val.2 w ∧ Low k v w ∧ val.2.1 0 = nI s ∧ s ≤ 300 ∧ ((isB val.1 ∧ w.1 5 = nI k ∧ w.1 6 = 0 ∧ w.1 7 = val.1 ∧ m + b ≤ 2 * s + 1) ∨ (∃ f, f < 6 ∧ val.1 = fnd f ∧ w.1 6 = val.1 ∧ m + b ≤ 2 * s + 2))
section Sim
variable {T P R : Nat}
theorem R_step {k s : Nat} {val : Int32 × St} {v : St} (h1 : ¬ v.1 5 ≤ 0) (h2 : v.1 6 = 0) (h3 : okstM v) (hl : Low k v (stepM v)) (h : Res T P R k (2 * s + 1) val (stepM v)) : Res T P R k (2 * s) val v := by
  obtain ⟨m, w, s', g, q1, q2, q3, q4, q5⟩ := h
  refine ⟨m + 1, w, s', (goM_s m v w).mpr ⟨h1, h2, h3, g⟩, q1, hl.tr q2, q3, q4, ?_⟩
  rcases q5 with ⟨a, b, c, d, e⟩ | ⟨f, a, b, c, e⟩
  · exact Or.inl ⟨a, b, c, d, by omega⟩
  · exact Or.inr ⟨f, a, b, c, by omega⟩
theorem R_ends {k s : Nat} {r : Int32} {u v : St} (h : Rel T P R u v) (hs : u.1 0 = nI s) (hs' : s ≤ 300) (hr : isB r) (h5 : v.1 5 = nI k) (h6 : v.1 6 = 0) (h7 : v.1 7 = r) : Res T P R k (2 * s + 1) (r, u) v :=
  ⟨0, v, s, rfl, h, Low.rf, hs, hs', Or.inl ⟨hr, h5, h6, h7, by omega⟩⟩
theorem R_find {k s f : Nat} {r : Int32} {u v : St} (h : Rel T P R u v) (hs : u.1 0 = nI s) (hs' : s ≤ 300) (hf : f < 6) (hr : r = fnd f) (h6 : v.1 6 = r) : Res T P R k (2 * s + 1) (r, u) v :=
  ⟨0, v, s, rfl, h, Low.rf, hs, hs', Or.inr ⟨f, hf, hr, h6, by omega⟩⟩
theorem R_ask {k s : Nat} {val val1 : Int32 × St} {v : St} (hc : Res T P R (k + 1) (2 * s + 2) val1 v) (hn : ∀ (w : St) (s1 : Nat), Rel T P R val1.2 w → Low (k + 1) v w → isB val1.1 → w.1 5 = nI (k + 1) → w.1 6 = 0 → w.1 7 = val1.1 → val1.2.1 0 = nI s1 → s1 ≤ 300 → Res T P R k (2 * s1) val w) (hf : ∀ f, f < 6 → val1.1 = fnd f → val = val1) : Res T P R k (2 * s + 1) val v := by
  obtain ⟨m, w, s1, g, q1, q2, q3, q4, q5⟩ := hc
  rcases q5 with ⟨a, b, c, d, e⟩ | ⟨f, a, b, c, e⟩
  · obtain ⟨m2, z, s2, g2, p1, p2, p3, p4, p5⟩ := hn w s1 q1 q2 a b c d q3 q4
    refine ⟨m + m2, z, s2, goM_trans g g2, p1, (q2.mono (by omega)).tr p2, p3, p4, ?_⟩
    rcases p5 with ⟨a', b', c', d', e'⟩ | ⟨f', a', b', c', e'⟩
    · exact Or.inl ⟨a', b', c', d', by omega⟩
    · exact Or.inr ⟨f', a', b', c', by omega⟩
  · have hv := hf f a b
    subst hv
    exact ⟨m, w, s1, g, q1, q2.mono (by omega), q3, q4, Or.inr ⟨f, a, b, c, by omega⟩⟩
/-- what looking leaves as it is, on the class's side -/
def KeepX (u w : St) : Prop := (∀ k, k ≠ 4 → w.2.1 k = u.2.1 k) ∧ w.2.2 = u.2.2 ∧ ∀ k, k ≠ 0 → w.1 k = u.1 k
theorem KeepX.rf {u : St} : KeepX u u := ⟨fun _ _ => rfl, rfl, fun _ _ => rfl⟩
theorem KeepX.tr {a b c : St} (h1 : KeepX a b) (h2 : KeepX b c) : KeepX a c := ⟨fun k hk => (h2.1 k hk).trans (h1.1 k hk), h2.2.1.trans h1.2.1, fun k hk => (h2.2.2 k hk).trans (h1.2.2 k hk)⟩
/-- the claim for looks with patterns below n -/
def LookOK (T P R n : Nat) : Prop := ∀ (u v : St) (p k s : Nat) (it : Int32), Rel T P R u v → vref T it → p < n → p < P → u.1 0 = nI s → s ≤ 300 → v.1 6 = 0 → v.1 5 = nI k → k + p < 63 → KeepX u (lookX n u (nI p) it).2 ∧ oklookX n u (nI p) it ∧ okM_look v (nI p) it ∧ Low k v (sM_look v (nI p) it) ∧ Res T P R k (2 * s + 2) (lookX n u (nI p) it) (sM_look v (nI p) it)
/-- asking: the top frame's state is set, then the look -/
theorem asks_ok {n k s p : Nat} (hL : LookOK T P R n) {u v : St} {it st : Int32} (h : Rel T P R u v) (hv : vref T it) (hp : p < n) (hpP : p < P) (hs : u.1 0 = nI s) (hs' : s ≤ 300) (h6 : v.1 6 = 0) (h5 : v.1 5 = nI (k + 1)) (hk : k + 1 + p < 63) : KeepX u (lookX n u (nI p) it).2 ∧ oklookX n u (nI p) it ∧ okM_asks v (nI p) it st ∧ Res T P R (k + 1) (2 * s + 2) (lookX n u (nI p) it) (sM_asks v (nI p) it st) ∧ Low (k + 1) (stA v 21 k st) (sM_asks v (nI p) it st) := by
  have e : v.1 5 - 1 = nI k := by rw [h5, nI_pred]
  have hc : (nI k).toNatClampNeg = k := pu_ci (by omega)
  obtain ⟨a0, a, b, c0, c⟩ := hL u (stA v 21 k st) p (k + 1) s it h hv hp hpP hs hs' h6 h5 hk
  have ea : sM_asks v (nI p) it st = sM_look (stA v 21 k st) (nI p) it := by
    unfold sM_asks
    rw [bnd_d, e, hc]
  refine ⟨a0, a, ?_, by rw [ea]; exact c, by rw [ea]; exact c0⟩
  unfold okM_asks
  rw [bnd_p, e, hc]
  exact ⟨vp_in_nI (by omega) (by decide), b, trivial⟩
theorem ends_ok {k s : Nat} {u v : St} {r : Int32} (h : Rel T P R u v) (hs : u.1 0 = nI s) (hs' : s ≤ 300) (h6 : v.1 6 = 0) (h5 : v.1 5 = nI (k + 1)) (hr : isB r) : okM_ends v r ∧ Res T P R k (2 * s + 1) (r, u) (sM_ends v r) ∧ Low k v (sM_ends v r) := by
  have e : sM_ends v r = stI (stI v 7 r) 5 (v.1 5 - 1) := by
    unfold sM_ends
    simp only [bnd_d]
    rfl
  refine ⟨⟨hr, trivial⟩, ?_, ?_⟩
  · rw [e]
    refine R_ends h hs hs' hr ?_ h6 rfl
    show v.1 5 - 1 = nI k
    rw [h5, nI_pred]
  · rw [e]; exact Low.rf
/-- the top frame -/
def Top (k : Nat) (p it st : Int32) (v : St) : Prop := v.1 5 = nI (k + 1) ∧ v.1 6 = 0 ∧ v.2.1 19 k = p ∧ v.2.1 20 k = it ∧ v.2.1 21 k = st
theorem Top_st {k : Nat} {p it st : Int32} {v : St} (hk : k < 63) (h : Top k p it st v) : ¬ v.1 5 ≤ 0 ∧ (okstM v ↔ ((st = 0 → okM_begins v p it) ∧ (¬ st = 0 → okM_goesOn v p it st))) ∧ stepM v = if st = 0 then sM_begins v p it else sM_goesOn v p it st := by
  obtain ⟨h5, h6, h19, h20, h21⟩ := h
  have e : v.1 5 - 1 = nI k := by rw [h5, nI_pred]
  have hc : (nI k).toNatClampNeg = k := pu_ci (by omega)
  refine ⟨by rw [h5]; exact nI_nle (by omega) (by omega), ?_, ?_⟩
  · unfold okstM
    rw [e, hc, h19, h20, h21]
    exact ⟨fun q => q.2, fun q => ⟨vp_in_nI (by omega) (by decide), q⟩⟩
  · unfold stepM
    rw [e, hc, h19, h20, h21]
theorem R_begins {k s : Nat} {p it : Int32} {val : Int32 × St} {v : St} (hk : k < 63) (h : Top k p it 0 v) (ho : okM_begins v p it) (hl : Low k v (sM_begins v p it)) (hr : Res T P R k (2 * s + 1) val (sM_begins v p it)) : Res T P R k (2 * s) val v := by
  obtain ⟨a, b, c⟩ := Top_st hk h
  rw [if_pos rfl] at c
  exact R_step a h.2.1 (b.mpr ⟨fun _ => ho, fun q => absurd rfl q⟩) (by rw [c]; exact hl) (by rw [c]; exact hr)
theorem R_goes {k s : Nat} {p it st : Int32} {val : Int32 × St} {v : St} (hk : k < 63) (hst : ¬ st = 0) (h : Top k p it st v) (ho : okM_goesOn v p it st) (hl : Low k v (sM_goesOn v p it st)) (hr : Res T P R k (2 * s + 1) val (sM_goesOn v p it st)) : Res T P R k (2 * s) val v := by
  obtain ⟨a, b, c⟩ := Top_st hk h
  rw [if_neg hst] at c
  exact R_step a h.2.1 (b.mpr ⟨fun q => absurd q hst, fun _ => ho⟩) (by rw [c]; exact hl) (by rw [c]; exact hr)
end Sim
