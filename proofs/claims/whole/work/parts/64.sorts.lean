section Sorts
variable {T P R : Nat}
theorem endsV {k s : Nat} {v : St} {val : Int32 × St} (h : Rel T P R val.2 v) (hs : val.2.1 0 = nI s) (hs' : s ≤ 300) (h6 : v.1 6 = 0) (h5 : v.1 5 = nI (k + 1)) (hr : isB val.1) : okM_ends v val.1 ∧ Res T P R k (2 * s + 1) val (sM_ends v val.1) ∧ Low k v (sM_ends v val.1) := by
  obtain ⟨r, u⟩ := val
  exact ends_ok h hs hs' h6 h5 hr
theorem Low_21 {k : Nat} {v : St} {x : Int32} : Low k v (stA v 21 k x) := fun i hi => ⟨rfl, rfl, updN (by omega)⟩
/-- behind a child: the frame stands -/
theorem Top_back {k : Nat} {p it st0 st : Int32} {v c w : St} (hT : Top k p it st0 v) (hl : Low (k + 1) (stA v 21 k st) c) (hw : Low (k + 1) c w) (h5 : w.1 5 = nI (k + 1)) (h6 : w.1 6 = 0) : Top k p it st w ∧ Low k v c ∧ Low k v w := by
  obtain ⟨a1, a2, a3, a4, a5⟩ := hT
  have hl2 : Low (k + 1) (stA v 21 k st) w := hl.tr hw
  obtain ⟨b1, b2, b3⟩ := hl2 k (by omega)
  refine ⟨⟨h5, h6, b1.trans a3, b2.trans a4, b3.trans updS⟩, Low_21.tr (hl.mono (by omega)), Low_21.tr (hl2.mono (by omega))⟩
/-- an asked child whose answer is handed on -/
theorem ask9 {k s : Nat} {p it st0 : Int32} {v c : St} {val : Int32 × St} (hk : k < 63) (hT : Top k p it st0 v) (hl : Low (k + 1) (stA v 21 k 9) c) (hc : Res T P R (k + 1) (2 * s + 2) val c) : Res T P R k (2 * s + 1) val c := by
  refine R_ask hc (fun w s1 r1 r2 r3 r4 r5 r6 r7 r8 => ?_) (fun _ _ _ => rfl)
  obtain ⟨hT', -, -⟩ := Top_back hT hl r2 r4 r5
  obtain ⟨e1, e2, e3⟩ := endsV (k := k) r1 r7 r8 r5 r4 r3
  have eg : sM_goesOn w p it 9 = sM_ends w val.1 := by
    unfold sM_goesOn
    rw [if_pos rfl, bnd_d, r6]
  refine R_goes hk (by decide) hT' ⟨fun _ => ⟨by rw [r6]; exact e1, trivial⟩, fun q => absurd rfl q⟩ (by rw [eg]; exact e3) (by rw [eg]; exact e2)
theorem fitsIf_id {b : Int32} (h : isB b) : sX_fitsIf b = b := by rcases h with rfl | rfl <;> rfl
theorem Rel_slot {u v : St} (h : Rel T P R u v) {j : Nat} (hj : j < 4) {x : Int32} (hx : vref T x) : Rel T P R (stA u 4 j x) (stA v 16 j x) := by
  obtain ⟨h1, h2, h3, h4, h5, h6, h7⟩ := h
  refine ⟨h1, h2, h3, h4, fun i hi => ?_, h6, h7⟩
  show upd (u.2.1 4) j x i = upd (v.2.1 16) j x i ∧ vref T (upd (u.2.1 4) j x i)
  by_cases e : i = j
  · subst e; rw [updS, updS]; exact ⟨rfl, hx⟩
  · rw [updN e, updN e]; exact h5 i hi
/-- what stands at a look, on both sides -/
def Ctx (T P R n k s p : Nat) (it a b c : Int32) (σ : Nat) (u v : St) : Prop := LookOK T P R n ∧ Rel T P R u v ∧ Top k (nI p) it 0 v ∧ vref T it ∧ u.1 0 = nI s ∧ s ≤ 300 ∧ p < n + 1 ∧ p < P ∧ k + p < 63 ∧ a = v.2.1 7 (nI p).toNatClampNeg ∧ b = v.2.1 8 (nI p).toNatClampNeg ∧ c = v.2.1 9 (nI p).toNatClampNeg ∧ v.2.1 6 (nI p).toNatClampNeg = nI σ ∧
  (σ = 3 ∨ σ = 7 ∨ σ = 8 ∨ σ = 9 → ∃ j, j < p ∧ a = nI j) ∧ (σ = 1 ∨ σ = 3 ∨ σ = 4 ∨ σ = 7 ∨ σ = 8 → ∃ j, j < p ∧ b = nI j) ∧ (σ = 5 → ∃ j, j < p ∧ c = nI j) ∧ (σ = 10 ∨ σ = 11 → ∃ j, j < 4 ∧ a = nI j) ∧ (σ = 4 ∨ σ = 5 ∨ σ = 6 ∨ σ = 13 → ∃ j, 4 ≤ j ∧ j ≤ 13 ∧ a = nI j) ∧ vp_in (nI p) 40
def Bod (T P R k s : Nat) (p it : Int32) (okx : Prop) (val : Int32 × St) (u v : St) : Prop := KeepX u val.2 ∧ okx ∧ okM_begins v p it ∧ Low k v (sM_begins v p it) ∧ Res T P R k (2 * s + 1) val (sM_begins v p it)
variable {n k s p : Nat} {it a b c : Int32} {u v : St}
theorem so_0 (C : Ctx T P R n k s p it a b c 0 u v) : Bod T P R k s (nI p) it (okXT_isOf u it a ∧ True) (sX_fitsIf (sXT_isOf u it a), u) u v := by
  obtain ⟨hL, h, ht, hv, hs, hs', hp, hpP, hk, ha, hb, hc, e, -, -, -, -, -, hp40⟩ := C
  have hT := h.1.1
  have hbd := h.1.2.2.1
  obtain ⟨q1, q2, q3⟩ := ends_ok (k := k) (r := sM_isA v it a) h hs hs' ht.2.1 ht.1 (bM_isA v it a)
  have ev := bgM_0 v (nI p) it a b c ha hb hc e
  rw [bnd_d] at ev
  refine ⟨KeepX.rf, ⟨okofX hT hbd hv _, trivial⟩, okbM_0 v (nI p) it a b c ha hb hc e hp40 ⟨okofM hbd hv _, q1, trivial⟩, by rw [ev]; exact q3, ?_⟩
  rw [ev, of_eq h hv, fitsIf_id (bM_isA v it a)]
  exact q2
theorem so_2 (C : Ctx T P R n k s p it a b c 2 u v) : Bod T P R k s (nI p) it True (if it = -5 then (sX_fitsIf 1, u) else (sX_fitsIf 0, u)) u v := by
  obtain ⟨hL, h, ht, hv, hs, hs', hp, hpP, hk, ha, hb, hc, e, -, -, -, -, -, hp40⟩ := C
  obtain ⟨q1, q2, q3⟩ := ends_ok (k := k) (r := 0) h hs hs' ht.2.1 ht.1 (Or.inl rfl)
  obtain ⟨p1, p2, p3⟩ := ends_ok (k := k) (r := 1) h hs hs' ht.2.1 ht.1 (Or.inr rfl)
  have ev := bgM_2 v (nI p) it a b c ha hb hc e
  rw [bnd_d, bnd_d] at ev
  rcases hv with rfl | ⟨j, hj, rfl⟩
  · rw [if_neg nle5] at ev
    rw [if_pos rfl]
    exact ⟨KeepX.rf, trivial, okbM_2 v (nI p) _ a b c ha hb hc e hp40 ⟨fun q => absurd q nle5, fun _ => ⟨p1, trivial⟩⟩, by rw [ev]; exact p3, by rw [ev]; exact p2⟩
  · have hb80 := h.1.2.2.1
    have l0 : (0 : Int32) ≤ nI j := le0 (by omega)
    rw [if_pos l0] at ev
    rw [if_neg (nI_ne5 (by omega))]
    exact ⟨KeepX.rf, trivial, okbM_2 v (nI p) _ a b c ha hb hc e hp40 ⟨fun _ => ⟨q1, trivial⟩, fun q => absurd l0 q⟩, by rw [ev]; exact q3, by rw [ev]; exact q2⟩
theorem so_1 (C : Ctx T P R n k s p it a b c 1 u v) : Bod T P R k s (nI p) it (okXT_mayBeTaken u it a ∧ ((sXT_mayBeTaken u it a = 0 → True) ∧ (¬ sXT_mayBeTaken u it a = 0 → oklookX n u b it ∧ True))) (if sXT_mayBeTaken u it a = 0 then (-21, u) else lookX n u b it) u v := by
  obtain ⟨hL, h, ht, hv, hs, hs', hp, hpP, hk, ha, hb, hc, e, -, hnb, -, -, -, hp40⟩ := C
  have hT := h.1.1
  have hbd := h.1.2.2.1
  obtain ⟨j, hj, ej⟩ := hnb (Or.inl rfl)
  have ev := bgM_1 v (nI p) it a b c ha hb hc e
  rw [bnd_d, bnd_d] at ev
  rw [mb_eq h hv]
  rcases bM_passes v it a with g | g
  · rw [if_pos g] at ev
    rw [if_pos g]
    exact ⟨KeepX.rf, ⟨okmbX hT hbd hv _, fun _ => trivial, fun q => absurd g q⟩, okbM_1 v (nI p) it a b c ha hb hc e hp40 ⟨okpaM hbd hv _, fun _ => trivial, fun q => absurd g q⟩, by rw [ev]; exact Low.rf, by rw [ev]; exact R_find (f := 0) h hs hs' (by decide) rfl rfl⟩
  · have g' : ¬ sM_passes v it a = 0 := by rw [g]; decide
    rw [if_neg g'] at ev
    rw [if_neg g']
    subst ej
    obtain ⟨r1, r2, r3, r4, r5⟩ := asks_ok (k := k) (st := 9) hL h hv (p := j) (by omega) (by omega) hs hs' ht.2.1 ht.1 (by omega)
    refine ⟨r1, ⟨okmbX hT hbd hv _, fun q => absurd q g', fun _ => ⟨r2, trivial⟩⟩, okbM_1 v (nI p) it a _ c ha hb hc e hp40 ⟨okpaM hbd hv _, fun q => absurd q g', fun _ => ⟨r3, trivial⟩⟩, ?_, ?_⟩
    · rw [ev]; exact Low_21.tr (r5.mono (by omega))
    · rw [ev]; exact ask9 (by omega) ht r5 r4
theorem so_9 (C : Ctx T P R n k s p it a b c 9 u v) : Bod T P R k s (nI p) it (oklookX n u a it ∧ True) (sX_turnedRound (lookX n u a it).1, (lookX n u a it).2) u v := by
  obtain ⟨hL, h, ht, hv, hs, hs', hp, hpP, hk, ha, hb, hc, e, hna, -, -, -, -, hp40⟩ := C
  obtain ⟨j, hj, rfl⟩ := hna (Or.inr (Or.inr (Or.inr rfl)))
  have ev := bgM_9 v (nI p) it (nI j) b c ha hb hc e
  rw [bnd_d] at ev
  obtain ⟨r1, r2, r3, r4, r5⟩ := asks_ok (k := k) (st := 8) hL h hv (p := j) (by omega) (by omega) hs hs' ht.2.1 ht.1 (by omega)
  refine ⟨r1, ⟨r2, trivial⟩, okbM_9 v (nI p) it (nI j) b c ha hb hc e hp40 ⟨r3, trivial⟩, ?_, ?_⟩
  · rw [ev]; exact Low_21.tr (r5.mono (by omega))
  · rw [ev]
    generalize lookX n u (nI j) it = val at r4 ⊢
    refine R_ask r4 (fun w s1 q1 q2 q3 q4 q5 q6 q7 q8 => ?_) (fun f hf hq => ?_)
    · obtain ⟨hT', -, -⟩ := Top_back ht r5 q2 q4 q5
      rcases q3 with g | g
      · obtain ⟨e1, e2, e3⟩ := endsV (k := k) (val := (sX_turnedRound val.1, val.2)) q1 q7 q8 q5 q4 (by rw [g]; exact Or.inr rfl)
        have et : sX_turnedRound val.1 = 1 := by rw [g]; rfl
        have eg : sM_goesOn w (nI p) it 8 = sM_ends w (sX_turnedRound val.1) := by
          unfold sM_goesOn
          rw [if_neg (by decide), if_pos rfl, if_pos (q6.trans g), bnd_d, et]
        refine R_goes (by omega) (by decide) hT' ⟨fun q => absurd q (by decide), fun _ => ⟨fun _ => ⟨fun _ => ⟨⟨Or.inr rfl, trivial⟩, trivial⟩, fun _ => ⟨⟨Or.inl rfl, trivial⟩, trivial⟩⟩, fun q => absurd rfl q⟩⟩ (by rw [eg]; exact e3) (by rw [eg]; exact e2)
      · obtain ⟨e1, e2, e3⟩ := endsV (k := k) (val := (sX_turnedRound val.1, val.2)) q1 q7 q8 q5 q4 (by rw [g]; exact Or.inl rfl)
        have et : sX_turnedRound val.1 = 0 := by rw [g]; rfl
        have nz : ¬ w.1 7 = 0 := by rw [q6, g]; decide
        have eg : sM_goesOn w (nI p) it 8 = sM_ends w (sX_turnedRound val.1) := by
          unfold sM_goesOn
          rw [if_neg (by decide), if_pos rfl, if_neg nz, bnd_d, et]
        refine R_goes (by omega) (by decide) hT' ⟨fun q => absurd q (by decide), fun _ => ⟨fun _ => ⟨fun _ => ⟨⟨Or.inr rfl, trivial⟩, trivial⟩, fun _ => ⟨⟨Or.inl rfl, trivial⟩, trivial⟩⟩, fun q => absurd rfl q⟩⟩ (by rw [eg]; exact e3) (by rw [eg]; exact e2)
    · obtain ⟨-, -, -, -, n1, n0⟩ := fnd_ix f hf
      obtain ⟨r, u2⟩ := val
      have hq' : r = fnd f := hq
      subst hq'
      show (sX_turnedRound (fnd f), u2) = (fnd f, u2)
      unfold sX_turnedRound
      rw [if_neg n0, if_neg n1]
end Sorts
