section Sorts2
variable {T P R : Nat} {n k s p : Nat} {it a b c : Int32} {u v : St}
theorem taken_cs (h : Rel T P R u v) (hv : vref T it) {j : Nat} (h4 : 4 ≤ j) (h13 : j ≤ 13) (i : Int32) : okM_taken v it (nI j) i ∧ ((sXT_reach u it (nI j) i = 1 ∧ sM_taken v it (nI j) i = 0 ∧ ∃ t m f n, t < T ∧ it = nI t ∧ m < 6 ∧ i = nI m ∧ f ≠ 2 ∧ u.2.1 7 t = nI f ∧ f < 14 ∧ m < n ∧ n ≤ 6 ∧ u.2.1 9 t = nI n) ∨ ∃ f, f < 6 ∧ sXT_reach u it (nI j) i = fnd f ∧ sM_taken v it (nI j) i = fnd f) := by
  have hbd := h.1.2.2.1
  have okt : okM_taken v it (nI j) i := by
    refine ⟨okpaM hbd hv _, fun _ => trivial, fun _ => ⟨fun q => ⟨?_, trivial⟩, fun _ => trivial⟩⟩
    rcases hv with rfl | ⟨t, ht, rfl⟩
    · exact absurd q nle5
    · exact vp_in_nI (by omega) (by decide)
  refine ⟨okt, ?_⟩
  unfold sM_taken
  rcases reach_cs h hv h4 h13 i with ⟨g1, g2, t, m, f, n, ht, rfl, hm, rfl, hf, hf2, q1, q2, q3, q4, q5, q6, q7⟩ | ⟨g1, g2, t, ht, rfl, q7⟩ | ⟨g1, rfl, g2⟩ | ⟨g1, g2, -⟩
  · refine Or.inl ⟨g1, ?_, t, m, f, n, ht, rfl, hm, rfl, hf2, q1, hf, q4, q5, q6⟩
    rw [g2, if_neg (by decide), if_pos (le0 (by omega)), pu_ci (by omega), q7, if_neg (by decide)]
  · refine Or.inr ⟨2, by decide, g1, ?_⟩
    rw [g2, if_neg (by decide), if_pos (le0 (by omega)), pu_ci (by omega), q7, if_pos rfl]
    rfl
  · refine Or.inr ⟨1, by decide, g1, ?_⟩
    rw [g2, if_neg (by decide), if_neg nle5]
    rfl
  · refine Or.inr ⟨0, by decide, g1, ?_⟩
    rw [g2, if_pos rfl]
    rfl
theorem so_5 (C : Ctx T P R n k s p it a b c 5 u v) : Bod T P R k s (nI p) it (okX_lookAtPlace (lookX n) (oklookX n) u it a b c ∧ True) (sX_lookAtPlace (lookX n) u it a b c) u v := by
  obtain ⟨hL, h, ht, hv, hs, hs', hp, hpP, hk, ha, hb, hc, e, -, -, hnc, -, hka, hp40⟩ := C
  have hT := h.1.1
  have hbd := h.1.2.2.1
  obtain ⟨j, hj, ejc⟩ := hnc rfl
  obtain ⟨kk, k4, k13, eka⟩ := hka (Or.inr (Or.inl rfl))
  have ev := bgM_5 v (nI p) it a b c ha hb hc e
  rw [bnd_d, bnd_d] at ev
  have ex : sX_lookAtPlace (lookX n) u it a b c = if sXT_reach u it a b = 1 then lookX n u c (sXT_heldIn u it b) else (sXT_reach u it a b, u) := by
    unfold sX_lookAtPlace
    rw [bnd_d, bnd2_d, pe_n]
  rw [ex]
  unfold okX_lookAtPlace
  rw [bnd_p]
  subst ejc
  rw [eka] at ev ⊢
  have ob := okbM_5 v (nI p) it a b (nI j) ha hb hc e hp40
  rw [bnd_p, eka] at ob
  obtain ⟨okt, hcs⟩ := taken_cs h hv k4 k13 b
  rcases hcs with ⟨g1, g2, t, m, f, nn, htT, rfl, hm, rfl, hf2, q1, hf, q4, q5, q6⟩ | ⟨f, hf, g1, g2⟩
  · obtain ⟨y1, y2, -⟩ := heldX hT hbd htT q6 q4 q5
    obtain ⟨f0, n0, a1, a2, a3, a4, a5, a6, a7, a8, a9⟩ := h.2.1 t htT
    have eff : f0 = f := by rw [a3] at q1; exact (nI_eq (by omega) (by omega)).mp q1
    have eh : sXT_heldIn u (nI t) (nI m) = v.2.1 5 (6 * t + m) := by rw [y2]; exact (a9 m hm).1 (by omega)
    have z6 : (stI v 6 (sM_taken v (nI t) (nI kk) (nI m))).1 6 = 0 := g2
    rw [if_pos z6] at ev
    rw [g1, if_pos rfl, eh]
    have hvv : vref T (v.2.1 5 (6 * t + m)) := (a9 m hm).2.2
    have eix : (stI v 6 (sM_taken v (nI t) (nI kk) (nI m))).2.1 5 ((6 * nI t) + nI m).toNatClampNeg = v.2.1 5 (6 * t + m) := by
      rw [pu_ix', pu_ci (by omega)]; rfl
    rw [eix] at ev ob
    have hT2 : Top k (nI p) (nI t) 0 (stI v 6 (sM_taken v (nI t) (nI kk) (nI m))) := ⟨ht.1, z6, ht.2.2.1, ht.2.2.2.1, ht.2.2.2.2⟩
    have h2 : Rel T P R u (stI v 6 (sM_taken v (nI t) (nI kk) (nI m))) := h
    have l2 : Low k v (stI v 6 (sM_taken v (nI t) (nI kk) (nI m))) := Low.rf
    generalize stI v 6 (sM_taken v (nI t) (nI kk) (nI m)) = v2 at ev ob hT2 h2 l2 z6
    obtain ⟨r1, r2, r3, r4, r5⟩ := asks_ok (k := k) (st := 9) hL h2 hvv (p := j) (by omega) (by omega) hs hs' hT2.2.1 hT2.1 (by omega)
    refine ⟨r1, ⟨⟨okreach hT hbd (Or.inr ⟨t, htT, rfl⟩) _ _, fun _ => ⟨y1, r2, trivial⟩, fun q => absurd rfl q⟩, trivial⟩, ob ⟨okt, fun _ => ⟨by rw [pu_ix']; exact vp_in_nI (by omega) (by decide), r3, trivial⟩, fun q => absurd z6 q⟩, ?_, ?_⟩
    · rw [ev]; exact l2.tr (Low_21.tr (r5.mono (by omega)))
    · rw [ev]; exact ask9 (by omega) hT2 r5 r4
  · obtain ⟨-, -, -, -, n1, n0⟩ := fnd_ix f hf
    have z6 : ¬ (stI v 6 (sM_taken v it (nI kk) b)).1 6 = 0 := by
      show ¬ sM_taken v it (nI kk) b = 0
      rw [g2]; exact n0
    rw [if_neg z6] at ev
    rw [g1, if_neg n1]
    refine ⟨KeepX.rf, ⟨⟨okreach hT hbd hv _ _, fun q => absurd q n1, fun _ => trivial⟩, trivial⟩, ob ⟨okt, fun q => absurd q z6, fun _ => trivial⟩, by rw [ev]; exact Low.rf, ?_⟩
    rw [ev]
    exact R_find (f := f) h hs hs' hf rfl g2
theorem so_6 (C : Ctx T P R n k s p it a b c 6 u v) : Bod T P R k s (nI p) it (okX_lookAtDigit u it a b c ∧ True) (sX_lookAtDigit u it a b c, u) u v := by
  obtain ⟨hL, h, ht, hv, hs, hs', hp, hpP, hk, ha, hb, hc, e, -, -, -, -, hka, hp40⟩ := C
  have hT := h.1.1
  have hbd := h.1.2.2.1
  obtain ⟨kk, k4, k13, eka⟩ := hka (Or.inr (Or.inr (Or.inl rfl)))
  have ev := bgM_6 v (nI p) it a b c ha hb hc e
  rw [bnd_d, bnd_d, bnd_d] at ev
  unfold sX_lookAtDigit okX_lookAtDigit
  rw [bnd_d, bnd_d]
  rw [eka] at ev ⊢
  have ob := okbM_6 v (nI p) it a b c ha hb hc e hp40
  rw [bnd_p, eka] at ob
  obtain ⟨okt, hcs⟩ := taken_cs h hv k4 k13 b
  rcases hcs with ⟨g1, g2, t, m, f, nn, htT, rfl, hm, rfl, hf2, q1, hf, q4, q5, q6⟩ | ⟨f, hf, g1, g2⟩
  · obtain ⟨-, -, y1, y2⟩ := heldX hT hbd htT q6 q4 q5
    obtain ⟨f0, n0, a1, a2, a3, a4, a5, a6, a7, a8, a9⟩ := h.2.1 t htT
    have eh : sXT_numberIn u (nI t) (nI m) = v.2.2 (6 * t + m) := by rw [y2]; exact (a9 m hm).2.1
    have z6 : (stI v 6 (sM_taken v (nI t) (nI kk) (nI m))).1 6 = 0 := g2
    rw [if_pos z6] at ev
    rw [g1, if_pos rfl, eh]
    have eix : (stI v 6 (sM_taken v (nI t) (nI kk) (nI m))).2.2 ((6 * nI t) + nI m).toNatClampNeg = v.2.2 (6 * t + m) := by
      rw [pu_ix', pu_ci (by omega)]; rfl
    rw [eix] at ev ob
    have h5 : (stI v 6 (sM_taken v (nI t) (nI kk) (nI m))).1 5 = nI (k + 1) := ht.1
    have h2 : Rel T P R u (stI v 6 (sM_taken v (nI t) (nI kk) (nI m))) := h
    have l2 : Low k v (stI v 6 (sM_taken v (nI t) (nI kk) (nI m))) := Low.rf
    generalize stI v 6 (sM_taken v (nI t) (nI kk) (nI m)) = v2 at ev ob h5 h2 l2 z6
    have vi : vp_in ((6 * nI t) + nI m) 480 := by rw [pu_ix']; exact vp_in_nI (by omega) (by decide)
    have ok6 := ob ⟨okt, fun _ => ⟨vi, fun _ => ⟨⟨Or.inr rfl, trivial⟩, trivial⟩, fun _ => ⟨⟨Or.inl rfl, trivial⟩, trivial⟩⟩, fun q => absurd z6 q⟩
    have okx : (okXT_reach u (nI t) (nI kk) (nI m) ∧ (((1 : Int32) = 1 → okXT_numberIn u (nI t) (nI m) ∧ True) ∧ (¬ (1 : Int32) = 1 → True))) ∧ True := ⟨⟨okreach hT hbd (Or.inr ⟨t, htT, rfl⟩) _ _, fun _ => ⟨y1, trivial⟩, fun _ => trivial⟩, trivial⟩
    by_cases hd : lg_cmp (v.2.2 (6 * t + m)) (c : Int32).toInt64 = 0
    · obtain ⟨p1, p2, p3⟩ := ends_ok (k := k) (r := 1) h2 hs hs' z6 h5 (Or.inr rfl)
      rw [if_pos hd] at ev
      rw [if_pos hd]
      exact ⟨KeepX.rf, okx, ok6, by rw [ev]; exact l2.tr p3, by rw [ev]; exact p2⟩
    · obtain ⟨p1, p2, p3⟩ := ends_ok (k := k) (r := 0) h2 hs hs' z6 h5 (Or.inl rfl)
      rw [if_neg hd] at ev
      rw [if_neg hd]
      exact ⟨KeepX.rf, okx, ok6, by rw [ev]; exact l2.tr p3, by rw [ev]; exact p2⟩
  · obtain ⟨-, -, -, -, n1, n0⟩ := fnd_ix f hf
    have z6 : ¬ (stI v 6 (sM_taken v it (nI kk) b)).1 6 = 0 := by
      show ¬ sM_taken v it (nI kk) b = 0
      rw [g2]; exact n0
    rw [if_neg z6] at ev
    rw [g1, if_neg n1]
    refine ⟨KeepX.rf, ⟨⟨okreach hT hbd hv _ _, fun q => absurd q n1, fun _ => trivial⟩, trivial⟩, ob ⟨okt, fun q => absurd q z6, fun _ => trivial⟩, by rw [ev]; exact Low.rf, ?_⟩
    rw [ev]
    exact R_find (f := f) h hs hs' hf rfl g2
theorem so_10 (C : Ctx T P R n k s p it a b c 10 u v) : Bod T P R k s (nI p) it (okX_keep u it a ∧ True) (sX_keep u it a) u v := by
  obtain ⟨hL, h, ht, hv, hs, hs', hp, hpP, hk, ha, hb, hc, e, -, -, -, hsl, -, hp40⟩ := C
  obtain ⟨j, hj, rfl⟩ := hsl (Or.inl rfl)
  have ev := bgM_10 v (nI p) it (nI j) b c ha hb hc e
  have hi : vp_in (nI j) 4 := vp_in_nI (by omega) (by decide)
  have cj : (nI j).toNatClampNeg = j := pu_ci (by omega)
  have epl : sM_plain v (nI p) it (nI j) b = sM_ends (stA v 16 j it) 1 := by
    unfold sM_plain
    rw [e, if_pos (by decide), bnd_d, bnd_d, cj]
  have hsl1 : sX_isSlot (nI j) = 1 := by
    rw [sl_in]
    exact in_1 (nI_pos (by omega)) (by have : (3 : Int32) = nI 3 := by decide
                                       rw [this]; exact nI_nlt (by omega) (by decide))
  have hne : ¬ sX_isSlot (nI j) = 0 := by rw [hsl1]; decide
  obtain ⟨p1, p2, p3⟩ := ends_ok (k := k) (r := 1) (v := stA v 16 j it) (Rel_slot h hj hv) hs hs' ht.2.1 ht.1 (Or.inr rfl)
  have l2 : Low k v (stA v 16 j it) := Low.rf
  have ek : sX_keep u it (nI j) = (1, stA u 4 j it) := by
    unfold sX_keep
    rw [if_neg hne, bnd_d, cj]
  rw [ek]
  refine ⟨⟨fun q hq => ?_, rfl, fun _ _ => rfl⟩, ⟨⟨fun q => absurd q hne, fun _ => ⟨hi, trivial⟩⟩, trivial⟩, okbM_10 v (nI p) it (nI j) b c ha hb hc e hp40 ?_, by rw [ev, epl]; exact l2.tr p3, by rw [ev, epl]; exact p2⟩
  · show va_up u.2.1 4 _ q = _
    simp [va_up, hq]
  · refine ⟨⟨hp40, ?_⟩, trivial⟩
    rw [e]
    refine ⟨fun _ => ⟨hi, ?_⟩, fun q => absurd (by decide) q⟩
    rw [bnd_p]
    exact ⟨⟨Or.inr rfl, trivial⟩, trivial⟩
theorem so_11 (C : Ctx T P R n k s p it a b c 11 u v) : Bod T P R k s (nI p) it ((sX_isSlot a = 0 → True) ∧ (¬ sX_isSlot a = 0 → vp_in a 4 ∧ True)) (if sX_isSlot a = 0 then (sX_fitsIf 0, u) else if u.2.1 4 a.toNatClampNeg = it then (sX_fitsIf 1, u) else (sX_fitsIf 0, u)) u v := by
  obtain ⟨hL, h, ht, hv, hs, hs', hp, hpP, hk, ha, hb, hc, e, -, -, -, hsl, -, hp40⟩ := C
  obtain ⟨j, hj, rfl⟩ := hsl (Or.inr rfl)
  have ev := bgM_11 v (nI p) it (nI j) b c ha hb hc e
  have hi : vp_in (nI j) 4 := vp_in_nI (by omega) (by decide)
  have cj : (nI j).toNatClampNeg = j := pu_ci (by omega)
  have hsl1 : sX_isSlot (nI j) = 1 := by
    rw [sl_in]
    exact in_1 (nI_pos (by omega)) (by have : (3 : Int32) = nI 3 := by decide
                                       rw [this]; exact nI_nlt (by omega) (by decide))
  have hne : ¬ sX_isSlot (nI j) = 0 := by rw [hsl1]; decide
  have es : u.2.1 4 j = v.2.1 16 j := (h.2.2.2.2.1 j hj).1
  have okp : okM_plain v (nI p) it (nI j) b ∧ True := by
    refine ⟨⟨hp40, ?_⟩, trivial⟩
    rw [e]
    exact ⟨fun q => absurd q (by decide), fun _ => ⟨fun _ => ⟨hi, fun _ => ⟨⟨Or.inr rfl, trivial⟩, trivial⟩, fun _ => ⟨⟨Or.inl rfl, trivial⟩, trivial⟩⟩, fun q => absurd (by decide) q⟩⟩
  rw [if_neg hne, cj, es]
  by_cases hd : v.2.1 16 j = it
  · have epl : sM_plain v (nI p) it (nI j) b = sM_ends v 1 := by
      unfold sM_plain
      rw [e, if_neg (by decide), if_pos (by decide), cj, if_pos hd, bnd_d]
    obtain ⟨p1, p2, p3⟩ := ends_ok (k := k) (r := 1) h hs hs' ht.2.1 ht.1 (Or.inr rfl)
    rw [if_pos hd]
    exact ⟨KeepX.rf, ⟨fun q => absurd q hne, fun _ => ⟨hi, trivial⟩⟩, okbM_11 v (nI p) it (nI j) b c ha hb hc e hp40 okp, by rw [ev, epl]; exact p3, by rw [ev, epl]; exact p2⟩
  · have epl : sM_plain v (nI p) it (nI j) b = sM_ends v 0 := by
      unfold sM_plain
      rw [e, if_neg (by decide), if_pos (by decide), cj, if_neg hd, bnd_d]
    obtain ⟨p1, p2, p3⟩ := ends_ok (k := k) (r := 0) h hs hs' ht.2.1 ht.1 (Or.inl rfl)
    rw [if_neg hd]
    exact ⟨KeepX.rf, ⟨fun q => absurd q hne, fun _ => ⟨hi, trivial⟩⟩, okbM_11 v (nI p) it (nI j) b c ha hb hc e hp40 okp, by rw [ev, epl]; exact p3, by rw [ev, epl]; exact p2⟩
end Sorts2
