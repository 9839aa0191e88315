section Match2
variable {T P R : Nat} {u v : St}
theorem Rel_rest {w z : St} (h : Rel T P R u v) (a1 : w.1 = u.1) (a2 : w.2.2 = u.2.2) (a3 : ∀ k, k ≠ 4 → k ≠ 5 → w.2.1 k = u.2.1 k) (b1 : z.1 = v.1) (b2 : z.2.2 = v.2.2) (b3 : ∀ k, k ≠ 16 → k ≠ 17 → z.2.1 k = v.2.1 k) (hs : ∀ i, i < 4 → w.2.1 4 i = z.2.1 16 i ∧ vref T (w.2.1 4 i)) : Rel T P R w z := by
  obtain ⟨h1, h2, h3, h4, h5, h6, h7⟩ := h
  refine ⟨?_, ?_, ?_, ?_, hs, ?_, ?_⟩
  · unfold RN; rw [a1, b1]; exact h1
  · unfold RT
    rw [a3 7 (by decide) (by decide), a3 8 (by decide) (by decide), a3 9 (by decide) (by decide), a3 10 (by decide) (by decide), a3 11 (by decide) (by decide), a3 12 (by decide) (by decide), a2, b3 1 (by decide) (by decide), b3 2 (by decide) (by decide), b3 3 (by decide) (by decide), b3 5 (by decide) (by decide), b2]
    exact h2
  · unfold RP
    rw [a3 14 (by decide) (by decide), a3 15 (by decide) (by decide), a3 16 (by decide) (by decide), a3 17 (by decide) (by decide), b3 6 (by decide) (by decide), b3 7 (by decide) (by decide), b3 8 (by decide) (by decide), b3 9 (by decide) (by decide)]
    exact h3
  · unfold RR
    rw [a3 18 (by decide) (by decide), a3 19 (by decide) (by decide), a3 20 (by decide) (by decide), a3 21 (by decide) (by decide), a3 22 (by decide) (by decide), a3 23 (by decide) (by decide), b3 10 (by decide) (by decide), b3 11 (by decide) (by decide), b3 12 (by decide) (by decide), b3 13 (by decide) (by decide), b3 14 (by decide) (by decide), b3 15 (by decide) (by decide)]
    exact h4
  · rw [a3 6 (by decide) (by decide), b3 18 (by decide) (by decide)]; exact h6
  · rw [a1, b1]; exact h7
theorem Rel_ini (h : Rel T P R u v) : Rel T P R (stI u 0 0) (iniM v) := by
  obtain ⟨h1, h2, h3, h4, h5, h6, h7⟩ := h
  exact ⟨h1, h2, h3, h4, h5, h6, rfl, 0, by omega, rfl⟩
theorem a_matched (h : Rel T P R u v) {p : Nat} (hp : p < P) {it : Int32} (hv : vref T it) : okX_matched u (nI p) it ∧ okM_matches v (nI p) it ∧ ∃ r u' v', sX_matched u (nI p) it = (r, u') ∧ sM_matches v (nI p) it = (r, v') ∧ Rel T P R u' v' ∧ (r = 1 ∨ r = 0 ∨ ∃ f, f < 6 ∧ r = fnd f) := by
  have hPb := h.1.2.2.2.2.2.1
  have hsl := h.2.2.2.2.1
  obtain ⟨w1, x1, x2, x3⟩ := X7 (nI p) it 4 0 100 (stI u 0 0) (by omega) (by omega)
  obtain ⟨w2, y1, y2, y3⟩ := M2 (nI p) it 4 0 100 v (by omega) (by omega)
  rw [nI_0] at x1 x2 y1 y2
  have eX : sX_matched u (nI p) it = coX w1 (nI p) it := by unfold sX_matched; rw [bnd_d]; exact x2
  have eM : sM_matches v (nI p) it = coM w2 (nI p) it := by unfold sM_matches; exact y2
  have oX : okcoX w1 (nI p) it → okX_matched u (nI p) it := by intro q; unfold okX_matched; rw [bnd_p]; exact x1 q
  have oM : okcoM w2 (nI p) it → okM_matches v (nI p) it := by intro q; unfold okM_matches; exact y1 q
  clear x1 x2 y1 y2
  obtain ⟨x1, x2, x3, x4⟩ := x3
  obtain ⟨y1, y2, y3, y4⟩ := y3
  have hb1 : ∀ i, i < 4 → w1.2.1 5 i = u.2.1 4 i := fun i hi => by rw [x3 i, if_pos (by omega)]; rfl
  have hb2 : ∀ i, i < 4 → w2.2.1 17 i = v.2.1 16 i := fun i hi => by rw [y3 i, if_pos (by omega)]
  have h0 : Rel T P R w1 (iniM w2) := by
    refine Rel_rest (Rel_ini h) x1 x4 (fun k _ q => x2 k q) ?_ y4 (fun k _ q => y2 k q) (fun i hi => ?_)
    · unfold iniM stI; rw [y1]
    · rw [x2 4 (by decide)]
      show u.2.1 4 i = w2.2.1 16 i ∧ _
      rw [y2 16 (by decide)]
      exact hsl i hi
  have hs0 : w1.1 0 = nI 0 := by rw [x1]; rfl
  obtain ⟨k1, k2, k3, -, k5⟩ := look_all T P R 41 w1 (iniM w2) p 0 0 it h0 hv (by omega) hp hs0 (by omega) rfl rfl (by omega)
  have h17 : (sM_look (iniM w2) (nI p) it).2.1 17 = w2.2.1 17 := (k17_look ..).trans rfl
  unfold okcoX at oX
  unfold coX at eX
  unfold coM at eM
  unfold okcoM at oM
  rw [bnd2_d, bnd2_d] at eX
  rw [bnd2_p, bnd2_p] at oX
  generalize lookX 41 w1 (nI p) it = val at eX oX k1 k5
  generalize sM_look (iniM w2) (nI p) it = v0 at eM oM k5 h17
  obtain ⟨m, z, s1, g, hz, -, hs1, hs1', hc⟩ := k5
  have hm : m ≤ 600 := by rcases hc with ⟨-, -, -, -, q⟩ | ⟨-, -, -, -, q⟩ <;> omega
  obtain ⟨y, g1, g2⟩ := go51 (nI p) it m (1000 - m) v0 z (nI 4) g
  have e17 : z.2.1 17 = w2.2.1 17 := (k17_go m v0 z g).trans h17
  rw [show m + (1000 - m) = 1000 by omega] at g1 g2
  obtain ⟨G, hG⟩ : ∃ G, 1000 - m = G + 1 := ⟨999 - m, by omega⟩
  rw [hG] at g1 g2
  rw [g1] at eM
  clear g1
  rw [lM_matches_51_s, bnd2_d] at eM
  rw [oklM_matches_51_s] at g2
  have hbX : ∀ i, i < 4 → val.2.2.1 5 i = u.2.1 4 i := fun i hi => by rw [k1.1 5 (by decide)]; exact hb1 i hi
  have hbM : ∀ i, i < 4 → z.2.1 17 i = v.2.1 16 i := fun i hi => by rw [e17]; exact hb2 i hi
  rcases hc with ⟨hb, c5, c6, c7, -⟩ | ⟨f, hf, cf, c6, -⟩
  · have c5' : z.1 5 ≤ 0 := by rw [c5]; decide
    rw [if_pos c5', if_pos c6] at eM
    obtain ⟨n1, n2⟩ := cntX1 (r := val.1) (hb.symm) val.2
    rw [n2] at eX oX
    rcases hb with hb | hb
    · obtain ⟨o49, w', e49, cw⟩ := X49 (nI p) it val.1 4 0 100 val.2 (by omega) (by omega)
      obtain ⟨z', o141, e141, cz⟩ := M141 (nI p) it 4 0 100 z (by omega) (by omega)
      rw [nI_0] at o49 e49 o141 e141
      have hn1 : ¬ val.1 = 1 := by rw [hb]; decide
      have z7 : z.1 7 = 0 := c7.trans hb
      have z6' : z'.1 6 = 0 := by rw [cz.1]; exact c6
      have z7' : z'.1 7 = 0 := by rw [cz.1]; exact z7
      have efin : finM z' = (0, z') := by unfold finM; rw [if_pos z6', if_pos z7']
      rw [if_pos z7, e141, efin] at eM
      rw [if_neg hn1, e49] at eX
      refine ⟨oX ⟨k2, n1, fun q => absurd q hn1, fun _ => o49⟩, oM ⟨k3, g2 ⟨fun _ => ⟨fun _ => ⟨fun _ => o141 ⟨fun _ => trivial, fun q => absurd z6' q⟩, fun q => absurd z7 q⟩, fun q => absurd c6 q⟩, fun q => absurd c5' q⟩⟩, 0, w', z', by rw [eX, hb], eM, ?_, Or.inr (Or.inl rfl)⟩
      refine Rel_rest hz cw.1 cw.2.2.2 (fun k q _ => cw.2.1 k q) cz.1 cz.2.2.2 (fun k q _ => cz.2.1 k q) (fun i hi => ?_)
      rw [cw.2.2.1 i, cz.2.2.1 i, if_pos (by omega), if_pos (by omega), hbX i hi, hbM i hi]
      exact hsl i hi
    · have z7 : ¬ z.1 7 = 0 := by rw [c7, hb]; decide
      rw [if_neg z7, if_pos c6, if_neg z7] at eM
      rw [if_pos hb] at eX
      exact ⟨oX ⟨k2, n1, fun _ => trivial, fun q => absurd hb q⟩, oM ⟨k3, g2 ⟨fun _ => ⟨fun _ => ⟨fun q => absurd q z7, fun _ => ⟨fun _ => trivial, fun q => absurd c6 q⟩⟩, fun q => absurd c6 q⟩, fun q => absurd c5' q⟩⟩, 1, val.2, z, by rw [eX, hb], eM, hz, Or.inl rfl⟩
  · obtain ⟨-, -, -, -, hn1, hn0⟩ := fnd_ix f hf
    have c6n : ¬ z.1 6 = 0 := by rw [c6, cf]; exact hn0
    obtain ⟨n1, n2⟩ := cntX hf val.2
    rw [← cf] at n1 n2
    rw [n2] at eX oX
    obtain ⟨o49, w', e49, cw⟩ := X49 (nI p) it val.1 4 0 100 (stA val.2 6 f (val.2.2.1 6 f + 1)) (by omega) (by omega)
    obtain ⟨z', o141, e141, cz⟩ := M141 (nI p) it 4 0 100 z (by omega) (by omega)
    rw [nI_0] at o49 e49 o141 e141
    have hv1 : ¬ val.1 = 1 := by rw [cf]; exact hn1
    rw [if_neg hv1, e49] at eX
    have z6 : z'.1 6 = fnd f := by rw [cz.1, c6, cf]
    have z6n : ¬ z'.1 6 = 0 := by rw [z6]; exact hn0
    obtain ⟨m1, m2⟩ := fndM hf z'
    have efin : finM z' = (fnd f, stA z' 18 (f + 1) (z'.2.1 18 (f + 1) + 1)) := by unfold finM; rw [if_neg z6n, z6, m2]
    have ok141 := o141 ⟨fun q => absurd q z6n, fun _ => ⟨by rw [z6]; exact m1, trivial⟩⟩
    have eM' : sM_matches v (nI p) it = (fnd f, stA z' 18 (f + 1) (z'.2.1 18 (f + 1) + 1)) := by
      rw [eM]
      by_cases c5 : z.1 5 ≤ 0
      · rw [if_pos c5, if_neg c6n, e141, efin]
      · rw [if_neg c5, if_neg c6n, if_neg c6n, e141, efin]
    refine ⟨oX ⟨k2, n1, fun q => absurd q hv1, fun _ => o49⟩, oM ⟨k3, g2 ⟨fun _ => ⟨fun q => absurd q c6n, fun _ => ok141⟩, fun _ => ⟨fun q => absurd q c6n, fun _ => ⟨fun q => absurd q c6n, fun _ => ok141⟩⟩⟩⟩, fnd f, w', _, by rw [eX, cf], eM', ?_, Or.inr (Or.inr ⟨f, hf, rfl⟩)⟩
    refine Rel_rest (Rel_fnd hz hf) cw.1 cw.2.2.2 (fun k q _ => cw.2.1 k q) cz.1 cz.2.2.2 (fun k q q' => ?_) (fun i hi => ?_)
    · by_cases e18 : k = 18
      · subst e18
        rw [stA_eq, stA_eq, cz.2.1 18 (by decide)]
      · rw [stA_ne e18, stA_ne e18]; exact cz.2.1 k q
    · rw [cw.2.2.1 i, if_pos (by omega), stA_ne (by decide), stA_ne (by decide), cz.2.2.1 i, if_pos (by omega), hbX i hi, hbM i hi]
      exact hsl i hi
theorem a_match (h : Rel T P R u v) (p t : Int32) : Agr (okX_match u p t) (okM_match v p t) (sX_match u p t).1 (sM_match v p t).1 (sX_match u p t).2 (sM_match v p t).2 := by
  have h1 := Rel_thr h 0
  obtain ⟨hT, hT', hb, hP, hP', hPb, hR, hR', hRb⟩ := h1.1
  unfold Agr okX_match okM_match sX_match sM_match
  simp only [bnd_d, bnd_p]
  generalize stI v 0 0 = v1 at h1 hT' hP' hR' ⊢
  rw [pk_eq2 (v := v1) (by omega) hP hP']
  rcases bM_isPattern v1 p with e0 | e0
  · simp only [e0, t00, if_true, not_true_eq_false, false_imp_iff, implies_true, and_true, true_and]
    exact ⟨T, P, R, h1⟩
  · obtain ⟨pp, hpp, rfl⟩ := pat_in (by omega) hP' e0
    rcases kno_eq (t := t) hT hT' hb with ⟨q1, q2, hv⟩ | ⟨q1, q2⟩
    · obtain ⟨o1, o2, r, u', v', e1, e2, hr, -⟩ := a_matched h1 hpp hv
      simp only [e0, q1, q2, e1, e2, n10, t00, if_true, if_false, not_true_eq_false, not_false_eq_true, false_imp_iff, implies_true, true_imp_iff, and_true, true_and]
      exact ⟨o1, o2, T, P, R, hr⟩
    · simp only [e0, q1, q2, n10, t00, if_true, if_false, not_true_eq_false, not_false_eq_true, false_imp_iff, implies_true, true_imp_iff, and_true, true_and]
      exact ⟨T, P, R, h1⟩
end Match2
