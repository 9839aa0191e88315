section Each
variable {T P R : Nat} {n k s p : Nat} {it a b c : Int32} {u v : St}
theorem l30_stop (lk : St → Int32 → Int32 → Int32 × St) (F : Nat) (u : St) (p1 p2 p3 x4 x5 x6 : Int32) (h : ¬ x4 = 1) : lX_lookAtEach_30 lk (F + 1) u p1 p2 p3 x4 x5 x6 = (x4, u) := by
  rw [lX_lookAtEach_30_s]
  by_cases g : x5 ≤ x6
  · rw [if_pos g]
  · rw [if_neg g, if_neg h]
theorem okl30_stop (lk : St → Int32 → Int32 → Int32 × St) (oklk : St → Int32 → Int32 → Prop) (F : Nat) (u : St) (p1 p2 p3 x4 x5 x6 : Int32) (h : ¬ x4 = 1) : oklX_lookAtEach_30 lk oklk (F + 1) u p1 p2 p3 x4 x5 x6 := by
  rw [oklX_lookAtEach_30_s]
  exact ⟨fun _ => trivial, fun _ => ⟨fun q => absurd q h, fun _ => trivial⟩⟩
theorem rowE (h : Rel T P R u v) {t f nn : Nat} (ht : t < T) (hf : f < 14) (hf2 : f ≠ 2) (e7 : u.2.1 7 t = nI f) (e9 : u.2.1 9 t = nI nn) (hn : nn ≤ 6) : v.2.1 3 t = nI nn ∧ ∀ i, i < 6 → u.2.1 12 (6 * t + i) = v.2.1 5 (6 * t + i) ∧ vref T (v.2.1 5 (6 * t + i)) := by
  obtain ⟨f0, n0, a1, a2, a3, a4, a5, a6, a7, a8, a9⟩ := h.2.1 t ht
  have ef : f0 = f := by rw [a3] at e7; exact (nI_eq (by omega) (by omega)).mp e7
  have hf0 : f0 ≠ 2 := by omega
  have en : n0 = nn := by
    have := a8 hf0
    rw [e9] at this
    exact ((nI_eq (by omega) (by omega)).mp this).symm
  subst en
  exact ⟨a6, fun i hi => ⟨(a9 i hi).1 hf0, (a9 i hi).2.2⟩⟩
theorem eachX (hL : LookOK T P R n) {t f nn j : Nat} (ht : t < T) (hf : f < 14) (hf2 : f ≠ 2) (hn : nn ≤ 6) (hj : j < n) (hjP : j < P) (a : Int32) : ∀ (d i F : Nat) (u w : St) (s : Nat), nn = i + d → d < F → Rel T P R u w → u.2.1 7 t = nI f → u.2.1 9 t = nI nn → u.1 0 = nI s → s ≤ 300 → KeepX u (lX_lookAtEach_30 (lookX n) F u (nI t) a (nI j) 1 (nI nn) (nI i)).2 ∧ oklX_lookAtEach_30 (lookX n) (oklookX n) F u (nI t) a (nI j) 1 (nI nn) (nI i) := by
  intro d
  induction d with
  | zero =>
    intro i F u w s e hF h e7 e9 hs hs'
    obtain ⟨F, rfl⟩ : ∃ F', F = F' + 1 := ⟨F - 1, by omega⟩
    have hle : nI nn ≤ nI i := nI_le (by omega) (by omega)
    rw [lX_lookAtEach_30_s, oklX_lookAtEach_30_s, if_pos hle]
    exact ⟨KeepX.rf, fun _ => trivial, fun q => absurd hle q⟩
  | succ d ih =>
    intro i F u w s e hF h e7 e9 hs hs'
    obtain ⟨F, rfl⟩ : ∃ F', F = F' + 1 + 1 := ⟨F - 2, by omega⟩
    have hbd := h.1.2.2.1
    have hgt : ¬ nI nn ≤ nI i := nI_ge (by omega) (by omega)
    obtain ⟨r3, rr⟩ := rowE h ht hf hf2 e7 e9 hn
    obtain ⟨y1, y2, -⟩ := heldX h.1.1 hbd ht e9 (m := i) (by omega) hn
    have hv : vref T (sXT_heldIn u (nI t) (nI i)) := by rw [y2, (rr i (by omega)).1]; exact (rr i (by omega)).2
    have hPb := h.1.2.2.2.2.2.1
    have hLL := hL u (stI (stI w 6 0) 5 (nI 0)) j 0 s _ h hv hj hjP hs hs' rfl rfl (by omega)
    obtain ⟨k1, k2, -, -, k5⟩ := hLL
    obtain ⟨w1, s1, q1, q3, q4⟩ := resX k5
    rw [lX_lookAtEach_30_s, oklX_lookAtEach_30_s, if_neg hgt, if_pos rfl, bnd2_d, bnd2_p, nI_1]
    generalize lookX n u (nI j) (sXT_heldIn u (nI t) (nI i)) = val at k1 q1 q3 ⊢
    by_cases g : val.1 = 1
    · rw [g]
      obtain ⟨z1, z2⟩ := ih (i + 1) (F + 1) val.2 w1 s1 (by omega) (by omega) q1 (by rw [k1.1 7 (by decide)]; exact e7) (by rw [k1.1 9 (by decide)]; exact e9) q3 q4
      exact ⟨k1.tr z1, fun q => absurd q hgt, fun _ => ⟨fun _ => ⟨y1, k2, z2⟩, fun q => absurd rfl q⟩⟩
    · rw [l30_stop _ _ _ _ _ _ _ _ _ g]
      exact ⟨k1, fun q => absurd q hgt, fun _ => ⟨fun _ => ⟨y1, k2, okl30_stop _ _ _ _ _ _ _ _ _ _ g⟩, fun q => absurd rfl q⟩⟩
theorem nI_10 : ∀ i, i < 6 → (¬ (10 + nI i : Int32) = 9) ∧ (¬ (10 + nI i : Int32) = 8) ∧ (¬ (10 + nI i : Int32) < 10) ∧ (10 + nI i : Int32) - 9 = nI (i + 1) ∧ (¬ (10 + nI i : Int32) = 0) := by
  intro i hi
  have key : ∀ i : Fin 6, (¬ (10 + nI i.val : Int32) = 9) ∧ (¬ (10 + nI i.val : Int32) = 8) ∧ (¬ (10 + nI i.val : Int32) < 10) ∧ (10 + nI i.val : Int32) - 9 = nI (i.val + 1) ∧ (¬ (10 + nI i.val : Int32) = 0) := by decide +kernel
  exact key ⟨i, hi⟩
theorem eachM (hL : LookOK T P R n) {t f nn j : Nat} (ht : t < T) (hf : f < 14) (hf2 : f ≠ 2) (hn : nn ≤ 6) (hj : j < n) (hjp : j < p) (hpP : p < P) (hk : k + p < 63) (hp40 : vp_in (nI p) 40) (a : Int32) : ∀ (d i F : Nat) (u w : St) (s : Nat) (st0 : Int32), nn = i + d → d < F → Rel T P R u w → u.2.1 7 t = nI f → u.2.1 9 t = nI nn → u.1 0 = nI s → s ≤ 300 → Top k (nI p) (nI t) st0 w → w.2.1 8 p = nI j → okM_each w (nI p) (nI t) (nI i) ∧ Low k w (sM_each w (nI p) (nI t) (nI i)) ∧ Res T P R k (2 * s + 1) (lX_lookAtEach_30 (lookX n) F u (nI t) a (nI j) 1 (nI nn) (nI i)) (sM_each w (nI p) (nI t) (nI i)) := by
  intro d
  induction d with
  | zero =>
    intro i F u w s st0 e hF h e7 e9 hs hs' hT e8
    obtain ⟨F, rfl⟩ : ∃ F', F = F' + 1 := ⟨F - 1, by omega⟩
    have hbd := h.1.2.2.1
    have ct : (nI t).toNatClampNeg = t := pu_ci (by omega)
    have hle : nI nn ≤ nI i := nI_le (by omega) (by omega)
    obtain ⟨r3, -⟩ := rowE h ht hf hf2 e7 e9 hn
    have ei : nI i = w.2.1 3 t := by rw [r3]; congr 1; omega
    obtain ⟨z1, z2, z3⟩ := ends_ok (k := k) (r := 1) h hs hs' hT.2.1 hT.1 (Or.inr rfl)
    have em : sM_each w (nI p) (nI t) (nI i) = sM_ends w 1 := by
      unfold sM_each
      rw [ct, if_pos ei, bnd_d]
    rw [lX_lookAtEach_30_s, if_pos hle, em]
    refine ⟨⟨vp_in_nI (by omega) (by decide), ?_⟩, z3, z2⟩
    rw [ct]
    exact ⟨fun _ => ⟨z1, trivial⟩, fun q => absurd ei q⟩
  | succ d ih =>
    intro i F u w s st0 e hF h e7 e9 hs hs' hT e8
    obtain ⟨F, rfl⟩ : ∃ F', F = F' + 1 + 1 := ⟨F - 2, by omega⟩
    have hbd := h.1.2.2.1
    have hPb := h.1.2.2.2.2.2.1
    have ct : (nI t).toNatClampNeg = t := pu_ci (by omega)
    have cp : (nI p).toNatClampNeg = p := pu_ci (by omega)
    have hgt : ¬ nI nn ≤ nI i := nI_ge (by omega) (by omega)
    obtain ⟨r3, rr⟩ := rowE h ht hf hf2 e7 e9 hn
    obtain ⟨y1, y2, -⟩ := heldX h.1.1 hbd ht e9 (m := i) (by omega) hn
    obtain ⟨t1, t2, t3, t4, t5⟩ := nI_10 i (by omega)
    have hv : vref T (w.2.1 5 (6 * t + i)) := (rr i (by omega)).2
    have eh : sXT_heldIn u (nI t) (nI i) = w.2.1 5 (6 * t + i) := by rw [y2]; exact (rr i (by omega)).1
    have ni : ¬ nI i = w.2.1 3 t := by rw [r3]; exact fun q => absurd ((nI_eq (by omega) (by omega)).mp q) (by omega)
    have eix : (6 * nI t + nI i).toNatClampNeg = 6 * t + i := by rw [pu_ix', pu_ci (by omega)]
    obtain ⟨b1, b2, b3, b4, b5⟩ := asks_ok (k := k) (st := 10 + nI i) hL h hv (p := j) hj (by omega) hs hs' hT.2.1 hT.1 (by omega)
    have em : sM_each w (nI p) (nI t) (nI i) = sM_asks w (nI j) (w.2.1 5 (6 * t + i)) (10 + nI i) := by
      unfold sM_each
      rw [ct, if_neg ni, cp, e8, eix]
    rw [lX_lookAtEach_30_s, if_neg hgt, if_pos rfl, bnd2_d, nI_1, eh, em]
    refine ⟨⟨vp_in_nI (by omega) (by decide), ?_⟩, Low_21.tr (b5.mono (by omega)), ?_⟩
    · rw [ct]
      refine ⟨fun q => absurd q ni, fun _ => ⟨hp40, by rw [pu_ix']; exact vp_in_nI (by omega) (by decide), ?_, trivial⟩⟩
      rw [cp, e8, eix]; exact b3
    · generalize lookX n u (nI j) (w.2.1 5 (6 * t + i)) = val1 at b1 b2 b4 ⊢
      refine R_ask b4 (fun w1 s1 r1 r2 r3' r4 r5 r6 r7 r8 => ?_) (fun g hg hq => ?_)
      · obtain ⟨hT', -, -⟩ := Top_back hT b5 r2 r4 r5
        obtain ⟨k6, k8⟩ := keep_pat h r1 b1 hpP
        rw [e8] at k8
        rcases r3' with g | g
        · have gn : ¬ val1.1 = 1 := by rw [g]; decide
          obtain ⟨z1, z2, z3⟩ := ends_ok (k := k) (r := 0) r1 r7 r8 r5 r4 (Or.inl rfl)
          have eg : sM_goesOn w1 (nI p) (nI t) (10 + nI i) = sM_ends w1 0 := by
            unfold sM_goesOn
            rw [if_neg t1, if_neg t2, if_neg t3, if_pos (r6.trans g), bnd_d]
          rw [l30_stop _ _ _ _ _ _ _ _ _ gn]
          have okg : okM_goesOn w1 (nI p) (nI t) (10 + nI i) := ⟨fun q => absurd q t1, fun _ => ⟨fun q => absurd q t2, fun _ => ⟨fun q => absurd q t3, fun _ => ⟨fun _ => ⟨z1, trivial⟩, fun q => absurd (r6.trans g) q⟩⟩⟩⟩
          refine R_goes (by omega) t5 hT' okg (by rw [eg]; exact z3) ?_
          rw [eg, g]; exact z2
        · have gn : ¬ w1.1 7 = 0 := by rw [r6, g]; decide
          obtain ⟨z1, z2, z3⟩ := ih (i + 1) (F + 1) val1.2 w1 s1 (10 + nI i) (by omega) (by omega) r1 (by rw [b1.1 7 (by decide)]; exact e7) (by rw [b1.1 9 (by decide)]; exact e9) r7 r8 hT' k8
          have eg : sM_goesOn w1 (nI p) (nI t) (10 + nI i) = sM_each w1 (nI p) (nI t) (nI (i + 1)) := by
            unfold sM_goesOn
            rw [if_neg t1, if_neg t2, if_neg t3, if_neg gn, bnd_d, t4]
          have okg : okM_goesOn w1 (nI p) (nI t) (10 + nI i) := ⟨fun q => absurd q t1, fun _ => ⟨fun q => absurd q t2, fun _ => ⟨fun q => absurd q t3, fun _ => ⟨fun q => absurd q gn, fun _ => ⟨by rw [t4]; exact z1, trivial⟩⟩⟩⟩⟩
          refine R_goes (by omega) t5 hT' okg (by rw [eg]; exact z2) ?_
          rw [eg, g]; exact z3
      · obtain ⟨-, -, -, -, n1, n0⟩ := fnd_ix g hg
        rw [l30_stop _ _ _ _ _ _ _ _ _ (by rw [hq]; exact n1), pe_n]
theorem so_4 (C : Ctx T P R n k s p it a b c 4 u v) : Bod T P R k s (nI p) it (okX_lookAtEach (lookX n) (oklookX n) u it a b ∧ True) (sX_lookAtEach (lookX n) u it a b) u v := by
  obtain ⟨hL, h, ht, hv, hs, hs', hp, hpP, hk, ha, hb, hc, e, -, hnb, -, -, hka, hp40⟩ := C
  have hT := h.1.1
  have hbd := h.1.2.2.1
  have hPb := h.1.2.2.2.2.2.1
  obtain ⟨j, hj, ejb⟩ := hnb (Or.inr (Or.inr (Or.inl rfl)))
  obtain ⟨kk, k4, k13, eka⟩ := hka (Or.inl rfl)
  have cp : (nI p).toNatClampNeg = p := pu_ci (by omega)
  have ev := bgM_4 v (nI p) it a b c ha hb hc e
  rw [bnd_d, bnd_d] at ev
  have ob := okbM_4 v (nI p) it a b c ha hb hc e hp40
  rw [cp] at hb
  unfold sX_lookAtEach okX_lookAtEach
  rw [bnd_d, bnd_d, of_eq h hv]
  rcases bM_isA v it a with g0 | g0
  · obtain ⟨z1, z2, z3⟩ := ends_ok (k := k) (r := 0) h hs hs' ht.2.1 ht.1 (Or.inl rfl)
    rw [if_pos g0] at ev
    rw [if_pos g0]
    exact ⟨KeepX.rf, ⟨⟨okofX hT hbd hv _, fun _ => trivial, fun q => absurd g0 q⟩, trivial⟩, ob ⟨okofM hbd hv _, fun _ => ⟨z1, trivial⟩, fun q => absurd g0 q⟩, by rw [ev]; exact z3, by rw [ev]; exact z2⟩
  · have g0' : ¬ sM_isA v it a = 0 := by rw [g0]; decide
    rw [if_neg g0'] at ev
    rw [if_neg g0']
    rcases hv with rfl | ⟨t, htT, rfl⟩
    · rw [ofM5] at g0; exact absurd g0 (by decide)
    · have hv : vref T (nI t) := Or.inr ⟨t, htT, rfl⟩
      have hv80 : vp_in (nI t) 80 := vp_in_nI (by omega) (by decide)
      have ct : (nI t).toNatClampNeg = t := pu_ci (by omega)
      obtain ⟨f, nn, hf, hn, e1, e2, e3, e4, e5, e6, e7⟩ := h.2.1 t htT
      have hf2 : f ≠ 2 := by
        intro q
        rw [ofM (by omega) e2, q, eka, of_ne2 kk k4 k13] at g0
        exact absurd g0 (by decide)
      have e9 := e6 hf2
      have epl : sXT_placesOf u (nI t) = nI nn := by
        unfold sXT_placesOf
        rw [knX1 hT hbd htT, if_neg (by decide), ct, e9]
      have okpl : okXT_placesOf u (nI t) := ⟨fun _ => trivial, fun _ => ⟨hv80, trivial⟩⟩
      rw [epl]
      obtain ⟨x1, x2⟩ := eachX hL htT hf hf2 hn (j := j) (by omega) (by omega) a nn 0 100 u v s (by omega) (by omega) h e1 e9 hs hs'
      obtain ⟨m1, m2, m3⟩ := eachM hL htT hf hf2 hn (j := j) (by omega) hj hpP hk hp40 a nn 0 100 u v s 0 (by omega) (by omega) h e1 e9 hs hs' ht (by rw [← hb, ejb])
      rw [nI_0] at x1 x2 m1 m2 m3
      rw [← ejb] at x1 x2 m3
      exact ⟨x1, ⟨⟨okofX hT hbd hv _, fun q => absurd q g0', fun _ => ⟨okpl, x2⟩⟩, trivial⟩, ob ⟨okofM hbd hv _, fun q => absurd q g0', fun _ => ⟨m1, trivial⟩⟩, by rw [ev]; exact m2, by rw [ev]; exact m3⟩
end Each
