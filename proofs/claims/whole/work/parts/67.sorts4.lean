section Sorts4
variable {T P R : Nat} {n k s p : Nat} {it a b c : Int32} {u v : St}
theorem ask2 {st0 : Int32} {cc : St} {val val1 : Int32 × St} (hk : k < 63) (hT : Top k (nI p) it st0 v) (hl : Low (k + 1) (stA v 21 k 1) cc) (hc : Res T P R (k + 1) (2 * s + 2) val1 cc)
    (hcont : ∀ (w : St) (s1 : Nat), Rel T P R val1.2 w → Top k (nI p) it 1 w → isB val1.1 → w.1 7 = val1.1 → val1.2.1 0 = nI s1 → s1 ≤ 300 → okM_goesOn w (nI p) it 1 ∧ Low k w (sM_goesOn w (nI p) it 1) ∧ Res T P R k (2 * s1 + 1) val (sM_goesOn w (nI p) it 1))
    (hf : ∀ f, f < 6 → val1.1 = fnd f → val = val1) : Res T P R k (2 * s + 1) val cc := by
  refine R_ask hc (fun w s1 r1 r2 r3 r4 r5 r6 r7 r8 => ?_) hf
  obtain ⟨hT', -, -⟩ := Top_back hT hl r2 r4 r5
  obtain ⟨q1, q2, q3⟩ := hcont w s1 r1 hT' r3 r6 r7 r8
  exact R_goes hk (by decide) hT' q1 q2 q3
/-- patterns stay while looking -/
theorem keep_pat {u1 w : St} (h : Rel T P R u v) (h1 : Rel T P R u1 w) (hk : KeepX u u1) (hp : p < P) : w.2.1 6 p = v.2.1 6 p ∧ w.2.1 8 p = v.2.1 8 p := by
  obtain ⟨s1, -, a1, a2, a3, a4, -⟩ := h.2.2.1 p hp
  obtain ⟨s2, -, b1, b2, b3, b4, -⟩ := h1.2.2.1 p hp
  rw [hk.1 14 (by decide)] at b1
  rw [hk.1 16 (by decide)] at b4
  exact ⟨by rw [b2, a2, ← b1, ← a1], by rw [← b4, ← a4]⟩
theorem resX {b0 : Nat} {val : Int32 × St} (h : Res T P R k b0 val v) : ∃ (w : St) (s : Nat), Rel T P R val.2 w ∧ val.2.1 0 = nI s ∧ s ≤ 300 := by
  obtain ⟨m0, w0, s0, -, q1, -, q3, q4, -⟩ := h
  exact ⟨w0, s0, q1, q3, q4⟩
theorem lookXok (hL : LookOK T P R n) {u1 w : St} (h : Rel T P R u1 w) (hv : vref T it) {j : Nat} (hj : j < n) (hjP : j < P) (hs : u1.1 0 = nI s) (hs' : s ≤ 300) : KeepX u1 (lookX n u1 (nI j) it).2 ∧ oklookX n u1 (nI j) it := by
  have hPb := h.1.2.2.2.2.2.1
  obtain ⟨x1, x2, -⟩ := hL u1 (stI (stI w 6 0) 5 (nI 0)) j 0 s it h hv hj hjP hs hs' rfl rfl (by omega)
  exact ⟨x1, x2⟩
theorem so_7 (C : Ctx T P R n k s p it a b c 7 u v) : Bod T P R k s (nI p) it (okX_lookWithBoth (lookX n) (oklookX n) u it a b ∧ True) (sX_lookWithBoth (lookX n) u it a b) u v := by
  obtain ⟨hL, h, ht, hv, hs, hs', hp, hpP, hk, ha, hb, hc, e, hna, hnb, -, -, -, hp40⟩ := C
  obtain ⟨ja, hja, rfl⟩ := hna (Or.inr (Or.inl rfl))
  obtain ⟨jb, hjb, rfl⟩ := hnb (Or.inr (Or.inr (Or.inr (Or.inl rfl))))
  have hPb := h.1.2.2.2.2.2.1
  have cp : (nI p).toNatClampNeg = p := pu_ci (by omega)
  have ev := bgM_7 v (nI p) it (nI ja) (nI jb) c ha hb hc e
  rw [bnd_d] at ev
  obtain ⟨r1, r2, r3, r4, r5⟩ := asks_ok (k := k) (st := 1) hL h hv (p := ja) (by omega) (by omega) hs hs' ht.2.1 ht.1 (by omega)
  have ob := okbM_7 v (nI p) it (nI ja) (nI jb) c ha hb hc e hp40 ⟨r3, trivial⟩
  rw [cp] at e hb
  have ex : sX_lookWithBoth (lookX n) u it (nI ja) (nI jb) = if (lookX n u (nI ja) it).1 = 1 then lookX n (lookX n u (nI ja) it).2 (nI jb) it else lookX n u (nI ja) it := by
    unfold sX_lookWithBoth
    simp only [bnd2_d, pe_n]
  rw [ex]
  unfold okX_lookWithBoth
  rw [bnd2_d]
  generalize lookX n u (nI ja) it = val1 at r1 r2 r4 ⊢
  obtain ⟨w0, s0, q1, q3, q4⟩ := resX r4
  obtain ⟨x1, x2⟩ := lookXok hL q1 hv (j := jb) (by omega) (by omega) q3 q4
  refine ⟨?_, ⟨⟨r2, fun _ => ⟨x2, trivial⟩, fun _ => trivial⟩, trivial⟩, ob, by rw [ev]; exact Low_21.tr (r5.mono (by omega)), ?_⟩
  · by_cases g : val1.1 = 1
    · rw [if_pos g]; exact r1.tr x1
    · rw [if_neg g]; exact r1
  · rw [ev]
    refine ask2 (by omega) ht r5 r4 (fun w s1 h1 hT1 hi1 h71 hs1 hs1' => ?_) (fun f hf hq => ?_)
    · obtain ⟨k6, k8⟩ := keep_pat h h1 r1 hpP
      rw [e] at k6
      rw [← hb] at k8
      obtain ⟨y1, y2, y3, y4, y5⟩ := asks_ok (k := k) (st := 9) hL h1 hv (p := jb) (by omega) (by omega) hs1 hs1' hT1.2.1 hT1.1 (by omega)
      obtain ⟨z1, z2, z3⟩ := endsV (k := k) h1 hs1 hs1' hT1.2.1 hT1.1 hi1
      have eg : sM_goesOn w (nI p) it 1 = if w.1 7 = 0 then sM_ends w (w.1 7) else sM_asks w (nI jb) it 9 := by
        unfold sM_goesOn
        rw [cp, k6, k8, if_neg (by decide), if_neg (by decide), if_pos (by decide), if_neg (by decide), if_neg (show ¬ nI 7 = 3 by decide), bnd_d]
      have okg : okM_goesOn w (nI p) it 1 := by
        unfold okM_goesOn
        rw [cp, k6, k8]
        exact ⟨fun q => absurd q (by decide), fun _ => ⟨fun q => absurd q (by decide), fun _ => ⟨fun _ => ⟨hp40, fun q => absurd q (by decide), fun _ => ⟨fun _ => ⟨by rw [h71]; exact z1, trivial⟩, fun _ => ⟨hp40, hp40, fun q => absurd q (by decide), fun _ => ⟨y3, trivial⟩⟩⟩⟩, fun q => absurd (by decide) q⟩⟩⟩
      refine ⟨okg, ?_⟩
      rw [eg, h71]
      rcases hi1 with g | g
      · have gn : ¬ val1.1 = 1 := by rw [g]; decide
        rw [if_pos g, if_neg gn]
        exact ⟨z3, z2⟩
      · have gn : ¬ val1.1 = 0 := by rw [g]; decide
        rw [if_neg gn, if_pos g]
        exact ⟨Low_21.tr (y5.mono (by omega)), ask9 (by omega) hT1 y5 y4⟩
    · obtain ⟨-, -, -, -, n1, n0⟩ := fnd_ix f hf
      rw [if_neg (by rw [hq]; exact n1)]
theorem so_8 (C : Ctx T P R n k s p it a b c 8 u v) : Bod T P R k s (nI p) it (okX_lookWithEither (lookX n) (oklookX n) u it a b ∧ True) (sX_lookWithEither (lookX n) u it a b) u v := by
  obtain ⟨hL, h, ht, hv, hs, hs', hp, hpP, hk, ha, hb, hc, e, hna, hnb, -, -, -, hp40⟩ := C
  obtain ⟨ja, hja, rfl⟩ := hna (Or.inr (Or.inr (Or.inl rfl)))
  obtain ⟨jb, hjb, rfl⟩ := hnb (Or.inr (Or.inr (Or.inr (Or.inr rfl))))
  have hPb := h.1.2.2.2.2.2.1
  have cp : (nI p).toNatClampNeg = p := pu_ci (by omega)
  have ev := bgM_8 v (nI p) it (nI ja) (nI jb) c ha hb hc e
  rw [bnd_d] at ev
  obtain ⟨r1, r2, r3, r4, r5⟩ := asks_ok (k := k) (st := 1) hL h hv (p := ja) (by omega) (by omega) hs hs' ht.2.1 ht.1 (by omega)
  have ob := okbM_8 v (nI p) it (nI ja) (nI jb) c ha hb hc e hp40 ⟨r3, trivial⟩
  rw [cp] at e hb
  have ex : sX_lookWithEither (lookX n) u it (nI ja) (nI jb) = if (lookX n u (nI ja) it).1 = 0 then lookX n (lookX n u (nI ja) it).2 (nI jb) it else lookX n u (nI ja) it := by
    unfold sX_lookWithEither
    simp only [bnd2_d, pe_n]
  rw [ex]
  unfold okX_lookWithEither
  rw [bnd2_d]
  generalize lookX n u (nI ja) it = val1 at r1 r2 r4 ⊢
  obtain ⟨w0, s0, q1, q3, q4⟩ := resX r4
  obtain ⟨x1, x2⟩ := lookXok hL q1 hv (j := jb) (by omega) (by omega) q3 q4
  refine ⟨?_, ⟨⟨r2, fun _ => ⟨x2, trivial⟩, fun _ => trivial⟩, trivial⟩, ob, by rw [ev]; exact Low_21.tr (r5.mono (by omega)), ?_⟩
  · by_cases g : val1.1 = 0
    · rw [if_pos g]; exact r1.tr x1
    · rw [if_neg g]; exact r1
  · rw [ev]
    refine ask2 (by omega) ht r5 r4 (fun w s1 h1 hT1 hi1 h71 hs1 hs1' => ?_) (fun f hf hq => ?_)
    · obtain ⟨k6, k8⟩ := keep_pat h h1 r1 hpP
      rw [e] at k6
      rw [← hb] at k8
      obtain ⟨y1, y2, y3, y4, y5⟩ := asks_ok (k := k) (st := 9) hL h1 hv (p := jb) (by omega) (by omega) hs1 hs1' hT1.2.1 hT1.1 (by omega)
      obtain ⟨z1, z2, z3⟩ := endsV (k := k) h1 hs1 hs1' hT1.2.1 hT1.1 hi1
      have eg : sM_goesOn w (nI p) it 1 = if w.1 7 = 1 then sM_ends w (w.1 7) else sM_asks w (nI jb) it 9 := by
        unfold sM_goesOn
        rw [cp, k6, k8, if_neg (by decide), if_neg (by decide), if_pos (by decide), if_pos (by decide), if_neg (show ¬ nI 8 = 3 by decide), bnd_d]
      have okg : okM_goesOn w (nI p) it 1 := by
        unfold okM_goesOn
        rw [cp, k6, k8]
        exact ⟨fun q => absurd q (by decide), fun _ => ⟨fun q => absurd q (by decide), fun _ => ⟨fun _ => ⟨hp40, fun _ => ⟨fun _ => ⟨by rw [h71]; exact z1, trivial⟩, fun _ => ⟨hp40, hp40, fun q => absurd q (by decide), fun _ => ⟨y3, trivial⟩⟩⟩, fun q => absurd (by decide) q⟩, fun q => absurd (by decide) q⟩⟩⟩
      refine ⟨okg, ?_⟩
      rw [eg, h71]
      rcases hi1 with g | g
      rotate_left
      · have gn : ¬ val1.1 = 0 := by rw [g]; decide
        rw [if_pos g, if_neg gn]
        exact ⟨z3, z2⟩
      · have gn : ¬ val1.1 = 1 := by rw [g]; decide
        rw [if_neg gn, if_pos g]
        exact ⟨Low_21.tr (y5.mono (by omega)), ask9 (by omega) hT1 y5 y4⟩
    · obtain ⟨-, -, -, -, n1, n0⟩ := fnd_ix f hf
      rw [if_neg (by rw [hq]; exact n0)]
theorem halfX (hT : u.1 1 = nI T) (hbd : T ≤ 80) {t : Nat} (ht : t < T) : okXT_heldHalf u (nI t) 0 ∧ okXT_heldHalf u (nI t) 1 ∧ sXT_heldHalf u (nI t) 0 = u.2.1 10 t ∧ sXT_heldHalf u (nI t) 1 = u.2.1 11 t := by
  have hv80 : vp_in (nI t) 80 := vp_in_nI (by omega) (by decide)
  have hne : ¬ sXT_know u (nI t) = 0 := by rw [knX1 hT hbd ht]; decide
  have ct : (nI t).toNatClampNeg = t := pu_ci (by omega)
  refine ⟨⟨fun _ => trivial, fun _ => ⟨fun _ => ⟨hv80, trivial⟩, fun _ => ⟨hv80, trivial⟩⟩⟩, ⟨fun _ => trivial, fun _ => ⟨fun _ => ⟨hv80, trivial⟩, fun _ => ⟨hv80, trivial⟩⟩⟩, ?_, ?_⟩
  · unfold sXT_heldHalf; rw [if_neg hne, if_pos rfl, ct]
  · unfold sXT_heldHalf; rw [if_neg hne, if_neg (by decide), ct]
theorem so_3 (C : Ctx T P R n k s p it a b c 3 u v) : Bod T P R k s (nI p) it (okX_lookAtHalves (lookX n) (oklookX n) u it a b ∧ True) (sX_lookAtHalves (lookX n) u it a b) u v := by
  obtain ⟨hL, h, ht, hv, hs, hs', hp, hpP, hk, ha, hb, hc, e, hna, hnb, -, -, -, hp40⟩ := C
  obtain ⟨ja, hja, rfl⟩ := hna (Or.inl rfl)
  obtain ⟨jb, hjb, rfl⟩ := hnb (Or.inr (Or.inl rfl))
  have hT := h.1.1
  have hbd := h.1.2.2.1
  have hPb := h.1.2.2.2.2.2.1
  have cp : (nI p).toNatClampNeg = p := pu_ci (by omega)
  have ev := bgM_3 v (nI p) it (nI ja) (nI jb) c ha hb hc e
  rw [bnd_d, bnd_d] at ev
  have ob := okbM_3 v (nI p) it (nI ja) (nI jb) c ha hb hc e hp40
  rw [cp] at e hb
  unfold sX_lookAtHalves okX_lookAtHalves
  simp only [bnd2_d, pe_n]
  rw [of_eq h hv]
  rcases bM_isA v it 2 with g0 | g0
  · obtain ⟨z1, z2, z3⟩ := ends_ok (k := k) (r := 0) h hs hs' ht.2.1 ht.1 (Or.inl rfl)
    rw [if_pos g0] at ev
    rw [if_pos g0]
    exact ⟨KeepX.rf, ⟨⟨okofX hT hbd hv _, fun _ => trivial, fun q => absurd g0 q⟩, trivial⟩, ob ⟨okofM hbd hv _, fun _ => ⟨z1, trivial⟩, fun q => absurd g0 q⟩, by rw [ev]; exact z3, by rw [ev]; exact z2⟩
  · have g0' : ¬ sM_isA v it 2 = 0 := by rw [g0]; decide
    rw [if_neg g0'] at ev
    rw [if_neg g0']
    rcases hv with rfl | ⟨t, htT, rfl⟩
    · rw [ofM5] at g0; exact absurd g0 (by decide)
    · have hv : vref T (nI t) := Or.inr ⟨t, htT, rfl⟩
      obtain ⟨f, nn, hf, hn, e1, e2, e3, e4, e5, e6, e7⟩ := h.2.1 t htT
      have hf2 : f = 2 := by
        rw [ofM (by omega) e2, of2_f f hf] at g0
        by_cases q : f = 2
        · exact q
        · rw [if_neg q] at g0; exact absurd g0 (by decide)
      obtain ⟨m1, m2, m3, m4⟩ := e5 hf2
      obtain ⟨o1, o2, x0, -⟩ := halfX hT hbd htT
      rw [x0, m3]
      have eix : v.2.1 5 (6 * nI t).toNatClampNeg = v.2.1 5 (6 * t) := by rw [pu_ix0, pu_ci (by omega)]
      rw [eix] at ev ob
      have hvl : vref T (v.2.1 5 (6 * t)) := (e7 0 (by omega)).2.2
      obtain ⟨r1, r2, r3, r4, r5⟩ := asks_ok (k := k) (st := 1) hL h hvl (p := ja) (by omega) (by omega) hs hs' ht.2.1 ht.1 (by omega)
      have ob' := ob ⟨okofM hbd hv _, fun q => absurd q g0', fun _ => ⟨by rw [pu_ix0]; exact vp_in_nI (by omega) (by decide), r3, trivial⟩⟩
      generalize lookX n u (nI ja) (v.2.1 5 (6 * t)) = val1 at r1 r2 r4 ⊢
      obtain ⟨w0, s0, q1, q3, q4⟩ := resX r4
      have rhs : ∀ w : St, Rel T P R val1.2 w → sXT_heldHalf val1.2 (nI t) 1 = w.2.1 5 (6 * t + 1) ∧ vref T (w.2.1 5 (6 * t + 1)) := by
        intro w hw
        obtain ⟨f', nn', hf', hn', e1', e2', e3', e4', e5', e6', e7'⟩ := hw.2.1 t htT
        have ef : f' = 2 := by
          rw [r1.1 7 (by decide), e1] at e1'
          have := (nI_eq (by omega) (by omega)).mp e1'
          omega
        obtain ⟨-, -, -, x1⟩ := halfX hw.1.1 hbd htT
        exact ⟨x1.trans (e5' ef).2.2.2, (e7' 1 (by omega)).2.2⟩
      obtain ⟨ew0, vw0⟩ := rhs w0 q1
      have ok1 : okXT_heldHalf val1.2 (nI t) 1 := (halfX q1.1.1 hbd htT).2.1
      obtain ⟨x1, x2⟩ := lookXok hL q1 (it := sXT_heldHalf val1.2 (nI t) 1) (by rw [ew0]; exact vw0) (j := jb) (by omega) (by omega) q3 q4
      refine ⟨?_, ⟨⟨okofX hT hbd hv _, fun q => absurd q g0', fun _ => ⟨o1, r2, fun _ => ⟨ok1, x2, trivial⟩, fun _ => trivial⟩⟩, trivial⟩, ob', by rw [ev]; exact Low_21.tr (r5.mono (by omega)), ?_⟩
      · by_cases g : val1.1 = 1
        · rw [if_pos g]; exact r1.tr x1
        · rw [if_neg g]; exact r1
      · rw [ev]
        refine ask2 (by omega) ht r5 r4 (fun w s1 h1 hT1 hi1 h71 hs1 hs1' => ?_) (fun f hf hq => ?_)
        · obtain ⟨k6, k8⟩ := keep_pat h h1 r1 hpP
          rw [e] at k6
          rw [← hb] at k8
          obtain ⟨ew, vw⟩ := rhs w h1
          rw [ew]
          obtain ⟨y1, y2, y3, y4, y5⟩ := asks_ok (k := k) (st := 9) hL h1 vw (p := jb) (by omega) (by omega) hs1 hs1' hT1.2.1 hT1.1 (by omega)
          obtain ⟨z1, z2, z3⟩ := endsV (k := k) h1 hs1 hs1' hT1.2.1 hT1.1 hi1
          have eix1 : w.2.1 5 ((6 * nI t) + 1).toNatClampNeg = w.2.1 5 (6 * t + 1) := by rw [pu_1, pu_ix', pu_ci (by omega)]
          have eg : sM_goesOn w (nI p) (nI t) 1 = if w.1 7 = 0 then sM_ends w (w.1 7) else sM_asks w (nI jb) (w.2.1 5 (6 * t + 1)) 9 := by
            unfold sM_goesOn
            rw [cp, k6, k8, eix1, if_neg (by decide), if_neg (by decide), if_pos (by decide), if_neg (by decide), if_pos (show nI 3 = 3 by decide), bnd_d]
          have okg : okM_goesOn w (nI p) (nI t) 1 := by
            unfold okM_goesOn
            rw [cp, k6, k8, eix1]
            exact ⟨fun q => absurd q (by decide), fun _ => ⟨fun q => absurd q (by decide), fun _ => ⟨fun _ => ⟨hp40, fun q => absurd q (by decide), fun _ => ⟨fun _ => ⟨by rw [h71]; exact z1, trivial⟩, fun _ => ⟨hp40, hp40, fun _ => ⟨by rw [pu_1, pu_ix']; exact vp_in_nI (by omega) (by decide), y3, trivial⟩, fun q => absurd (by decide) q⟩⟩⟩, fun q => absurd (by decide) q⟩⟩⟩
          refine ⟨okg, ?_⟩
          rw [eg, h71]
          rcases hi1 with g | g
          · have gn : ¬ val1.1 = 1 := by rw [g]; decide
            rw [if_pos g, if_neg gn]
            exact ⟨z3, z2⟩
          · have gn : ¬ val1.1 = 0 := by rw [g]; decide
            rw [if_neg gn, if_pos g]
            exact ⟨Low_21.tr (y5.mono (by omega)), ask9 (by omega) hT1 y5 y4⟩
        · obtain ⟨-, -, -, -, n1, n0⟩ := fnd_ix f hf
          rw [if_neg (by rw [hq]; exact n1)]
end Sorts4
