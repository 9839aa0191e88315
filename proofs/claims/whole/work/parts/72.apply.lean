theorem bnd2_c {α β γ : Type} {x : α} {y : β} {f : α → β → γ} : bnd2 (x, y) f = f x y := bnd2_eq (x := x) (y := y) rfl
section Apply
variable {T P R : Nat} {u v : St}
theorem oknum (h : Rel T P R u v) {t : Int32} (hv : vref T t) (i : Int32) : okXT_numberIn u t i := by
  have hT := h.1.1
  have hb := h.1.2.2.1
  refine ⟨okhas hT hb hv i, fun _ => trivial, fun q => ⟨?_, trivial⟩⟩
  rcases hv with rfl | ⟨j, hj, rfl⟩
  · exfalso; apply q
    unfold sXT_hasPlace
    rw [knX0 hT (Or.inl m5_neg), if_pos rfl]
  · obtain ⟨f, n, hf, hn, e1, e2, e3, e4, e5, e6, e7⟩ := h.2.1 j hj
    obtain ⟨n', hn', e9⟩ : ∃ n', n' ≤ 6 ∧ u.2.1 9 j = nI n' := by
      by_cases hf2 : f = 2
      · exact ⟨0, by omega, (e5 hf2).2.1⟩
      · exact ⟨n, hn, e6 hf2⟩
    unfold sXT_hasPlace at q
    rw [knX1 hT hb hj, if_neg (by decide), pu_ci (by omega), e9] at q
    by_cases i0 : i < 0
    · rw [if_pos i0] at q; exact absurd rfl q
    · rw [if_neg i0] at q
      obtain ⟨m, hm, rfl⟩ := nI_of i0
      by_cases i1 : nI n' ≤ nI m
      · rw [if_pos i1] at q; exact absurd rfl q
      · have : m < n' := by
          rcases Nat.lt_or_ge m n' with g | g
          · exact g
          · exact absurd (nI_le g hm) i1
        rw [pu_ix]; exact vp_in_nI (by omega) (by decide)
theorem a_grow (h : Rel T P R u v) {t : Int32} (hv : vref T t) (i : Int32) : Act T P R u v (okXT_putNumber u t 4 i (sXT_numberIn u t i + 1)) (okM_grows v t i) (sXT_putNumber u t 4 i (sXT_numberIn u t i + 1)) (sM_grows v t i) := by
  have hT := h.1.1
  have hb := h.1.2.2.1
  have e4 : (4 : Int32) = nI 4 := by decide
  obtain ⟨okt, hcs⟩ := taken_cs h hv (j := 4) (by omega) (by omega) i
  rw [← e4] at okt hcs
  unfold Act okXT_putNumber okM_grows sXT_putNumber sM_grows
  simp only [bnd_d]
  rcases hcs with ⟨g1, g2, tt, m, f, n, ht, rfl, hm, rfl, hf2, q1, hf, q4, q5, q6⟩ | ⟨f, hf, g1, g2⟩
  · obtain ⟨-, -, y1, y2⟩ := heldX hT hb ht q6 q4 q5
    obtain ⟨f0, n0, a1, a2, a3, a4, a5, a6, a7, a8, a9⟩ := h.2.1 tt ht
    have vi1 : vp_in (nI tt * 6 + nI m) 480 := by rw [pu_ix]; exact vp_in_nI (by omega) (by decide)
    have vi2 : vp_in (6 * nI tt + nI m) 480 := by rw [pu_ix']; exact vp_in_nI (by omega) (by decide)
    have ec : sXT_cutTo 4 (u.2.2 (6 * tt + m) + 1) = ((u.2.2 (6 * tt + m) + 1).toInt32 : Int32).toInt64 := by unfold sXT_cutTo; rw [if_pos rfl]
    rw [g1, g2, if_pos rfl, if_pos rfl, y2, ec, pu_ix, pu_ix', pu_ci (n := 6 * tt + m) (by omega), (a9 m hm).2.1]
    rw [pu_ix] at vi1
    rw [pu_ix'] at vi2
    exact ⟨⟨okreach hT hb hv _ _, fun _ => ⟨vi1, trivial⟩, fun _ => trivial⟩, ⟨okt, fun _ => ⟨vi2, vi2, trivial⟩, fun q => absurd rfl q⟩, Or.inl ⟨_, _, rfl, rfl, Rel_num h _ _⟩⟩
  · obtain ⟨-, -, -, -, n1, n0⟩ := fnd_ix f hf
    have m1 := (fndM hf v).1
    rw [g1, g2, if_neg n1, if_neg n0]
    exact ⟨⟨okreach hT hb hv _ _, fun q => absurd q n1, fun _ => trivial⟩, ⟨okt, fun q => absurd q n0, fun _ => ⟨m1, trivial⟩⟩, Or.inr ⟨f, fnd f, hf, rfl, rfl, rfl⟩⟩
theorem z00 : ((0 : Int32).toNatClampNeg) = 0 := by decide
theorem z11 : ((1 : Int32).toNatClampNeg) = 1 := by decide
theorem a_acts (h : Rel T P R u v) {r : Nat} (hr : r < R) : Act T P R u v (okX_doAct u (u.2.1 19 r) (u.2.1 20 r) (u.2.1 21 r)) (okM_acts v (nI r)) (sX_doAct u (u.2.1 19 r) (u.2.1 20 r) (u.2.1 21 r)) (sM_acts v (nI r)) := by
  have hRb := h.1.2.2.2.2.2.2.2.2
  obtain ⟨a1, a2, a3, a4, a5, a6, a7, ⟨a, ha, ea⟩, hk⟩ := h.2.2.2.1 r hr
  have cr : (nI r).toNatClampNeg = r := pu_ci (by omega)
  have v16 : vp_in (nI r) 16 := vp_in_nI (by omega) (by decide)
  have v0 : vp_in 0 4 := vp_in_nI (n := 0) (by omega) (by decide)
  have v1 : vp_in 1 4 := vp_in_nI (n := 1) (by omega) (by decide)
  obtain ⟨s0, t0⟩ := h.2.2.2.2.1 0 (by omega)
  obtain ⟨s1, t1⟩ := h.2.2.2.2.1 1 (by omega)
  unfold Act okX_doAct okM_acts sX_doAct sM_acts
  rw [bnd_p, bnd_d, cr, z00, z11, ← a2, ← a3, ← a4, ← s0, ← s1, ea]
  rcases (show a = 0 ∨ a = 1 ∨ a = 2 ∨ a = 3 ∨ a = 4 ∨ a = 5 by omega) with rfl | rfl | rfl | rfl | rfl | rfl
  · have e1 : (nI 0 = 1) = False := eq_false (by decide)
    have e2 : (nI 0 = 2) = False := eq_false (by decide)
    have e3 : (nI 0 = 3) = False := eq_false (by decide)
    have e4 : (nI 0 = 4) = False := eq_false (by decide)
    have e5 : (nI 0 = 5) = False := eq_false (by decide)
    simp only [e1, e2, e3, e4, e5, if_false, not_false_eq_true, false_imp_iff, implies_true, true_imp_iff, and_true, true_and]
    exact ⟨⟨v0, v16⟩, Or.inl ⟨u, v, rfl, rfl, h⟩⟩
  · have e1 : (nI 1 = 1) = True := eq_true (by decide)
    obtain ⟨k, k1, k2, ek⟩ := hk (ea.trans (by decide))
    rw [ek]
    obtain ⟨x1, x2, x3⟩ := a_layIn h t0 t1 k1 k2 (u.2.1 21 r)
    simp only [e1, if_true, not_true_eq_false, false_imp_iff, implies_true, true_imp_iff, and_true, true_and]
    exact ⟨⟨v0, v1, x1⟩, ⟨v0, v16, v16, v16, v1, x2⟩, x3⟩
  · have e1 : (nI 2 = 1) = False := eq_false (by decide)
    have e2 : (nI 2 = 2) = True := eq_true (by decide)
    obtain ⟨x1, x2, x3⟩ := a_setHalf h t0 t1 (s := 0) (by omega)
    rw [nI_0] at x1 x2 x3
    simp only [e1, e2, if_true, if_false, not_true_eq_false, not_false_eq_true, false_imp_iff, implies_true, true_imp_iff, and_true, true_and]
    exact ⟨⟨v0, v1, x1⟩, ⟨v0, v16, v1, x2⟩, x3⟩
  · have e1 : (nI 3 = 1) = False := eq_false (by decide)
    have e2 : (nI 3 = 2) = False := eq_false (by decide)
    have e3 : (nI 3 = 3) = True := eq_true (by decide)
    obtain ⟨x1, x2, x3⟩ := a_setHalf h t0 t1 (s := 1) (by omega)
    rw [← pu_1] at x1 x2 x3
    simp only [e1, e2, e3, if_true, if_false, not_true_eq_false, not_false_eq_true, false_imp_iff, implies_true, true_imp_iff, and_true, true_and]
    exact ⟨⟨v0, v1, x1⟩, ⟨v0, v16, v1, x2⟩, x3⟩
  · have e1 : (nI 4 = 1) = False := eq_false (by decide)
    have e2 : (nI 4 = 2) = False := eq_false (by decide)
    have e3 : (nI 4 = 3) = False := eq_false (by decide)
    have e4 : (nI 4 = 4) = True := eq_true (by decide)
    unfold okX_turnSlots sX_turnSlots
    simp only [e1, e2, e3, e4, bnd_d, bnd_p, z00, z11, if_true, if_false, not_true_eq_false, not_false_eq_true, false_imp_iff, implies_true, true_imp_iff, and_true, true_and]
    exact ⟨⟨v0, v1, v0, v1⟩, ⟨v0, v16, v1, v0, v1⟩, Or.inl ⟨_, _, rfl, rfl, Rel_slot (Rel_slot h (by omega) t1) (by omega) t0⟩⟩
  · have e1 : (nI 5 = 1) = False := eq_false (by decide)
    have e2 : (nI 5 = 2) = False := eq_false (by decide)
    have e3 : (nI 5 = 3) = False := eq_false (by decide)
    have e4 : (nI 5 = 4) = False := eq_false (by decide)
    have e5 : (nI 5 = 5) = True := eq_true (by decide)
    obtain ⟨x1, x2, x3⟩ := a_grow h t0 (u.2.1 21 r)
    simp only [e1, e2, e3, e4, e5, if_true, if_false, not_true_eq_false, not_false_eq_true, false_imp_iff, implies_true, true_imp_iff, and_true, true_and]
    exact ⟨⟨v0, v0, oknum h t0 _, x1⟩, ⟨v0, v16, v16, x2⟩, x3⟩
theorem Rel_used (h : Rel T P R u v) (r : Nat) (x : Int32) : Rel T P R (stA u 22 r x) (stA v 14 r x) := by
  obtain ⟨h1, h2, h3, h4, h5⟩ := h
  refine ⟨h1, h2, h3, fun q hq => ?_, h5⟩
  obtain ⟨a1, a2, a3, a4, a5, a6, a7⟩ := h4 q hq
  refine ⟨a1, a2, a3, a4, ?_, a6, a7⟩
  show upd (u.2.1 22) r x q = upd (v.2.1 14) r x q
  by_cases e : q = r
  · subst e; rw [updS, updS]
  · rw [updN e, updN e]; exact a5
theorem Rel_fell (h : Rel T P R u v) (r : Nat) (x : Int32) : Rel T P R (stA u 23 r x) (stA v 15 r x) := by
  obtain ⟨h1, h2, h3, h4, h5⟩ := h
  refine ⟨h1, h2, h3, fun q hq => ?_, h5⟩
  obtain ⟨a1, a2, a3, a4, a5, a6, a7⟩ := h4 q hq
  refine ⟨a1, a2, a3, a4, a5, ?_, a7⟩
  show upd (u.2.1 23) r x q = upd (v.2.1 15) r x q
  by_cases e : q = r
  · subst e; rw [updS, updS]
  · rw [updN e, updN e]; exact a6
theorem Rel_fell0 (h : Rel T P R u v) (r : Nat) : Rel T P R u (stA v 15 r (v.2.1 15 r + 0)) := by
  obtain ⟨h1, h2, h3, h4, h5⟩ := h
  refine ⟨h1, h2, h3, fun q hq => ?_, h5⟩
  obtain ⟨a1, a2, a3, a4, a5, a6, a7⟩ := h4 q hq
  refine ⟨a1, a2, a3, a4, a5, ?_, a7⟩
  show u.2.1 23 q = upd (v.2.1 15) r _ q
  by_cases e : q = r
  · subst e; rw [updS, a6]; simp
  · rw [updN e]; exact a6
theorem ap_fin {d5 d6 : Int32 × St} {x : Int32} (b4 : d5.1 = d6.1) (b6 : d5.1 = 1 ∨ d5.1 < 0) (b7 : Rel T P R d5.2 d6.2) : (if d5.1 = 1 then (x, d5.2) else (d5.1, d5.2)).1 = (if 0 ≤ d6.1 then (x, d6.2) else (d6.1, d6.2)).1 ∧ Rel T P R (if d5.1 = 1 then (x, d5.2) else (d5.1, d5.2)).2 (if 0 ≤ d6.1 then (x, d6.2) else (d6.1, d6.2)).2 := by
  rcases b6 with g | g
  · have l1 : (0 : Int32) ≤ d6.1 := by rw [← b4, g]; decide
    rw [if_pos g, if_pos l1]
    exact ⟨rfl, b7⟩
  · have l1 : ¬ (0 : Int32) ≤ d6.1 := by
      rw [← b4]
      rw [pu_lt] at g
      rw [pu_le]
      rw [Int32.toInt_zero] at g ⊢
      omega
    have g1 : ¬ d5.1 = 1 := by
      intro q; rw [q] at g; exact absurd g (by decide)
    rw [if_neg g1, if_neg l1]
    exact ⟨b4, b7⟩
theorem ap_loop {t : Int32} (hv : vref T t) : ∀ (d i F : Nat) (u v : St), i + d = R → d < F → Rel T P R u v → oklX_apply_15 F u t (nI i) ∧ oklM_apply_17 F v t (nI i) ∧ (lX_apply_15 F u t (nI i)).1 = (lM_apply_17 F v t (nI i)).1 ∧ Rel T P R (lX_apply_15 F u t (nI i)).2 (lM_apply_17 F v t (nI i)).2 := by
  intro d
  induction d with
  | zero =>
    intro i F u v e hF h
    obtain ⟨F, rfl⟩ : ∃ G, F = G + 1 := ⟨F - 1, by omega⟩
    obtain ⟨-, -, -, -, -, -, hR, hR', hRb⟩ := h.1
    have c1 : u.1 3 ≤ nI i := by rw [hR]; exact nI_le (by omega) (by omega)
    have c2 : v.1 3 ≤ nI i := by rw [hR']; exact nI_le (by omega) (by omega)
    rw [oklX_apply_15_s, oklM_apply_17_s, lX_apply_15_s, lM_apply_17_s, if_pos c1, if_pos c2]
    exact ⟨⟨fun _ => trivial, fun q => absurd c1 q⟩, ⟨fun _ => trivial, fun q => absurd c2 q⟩, rfl, h⟩
  | succ d ih =>
    intro i F u v e hF h
    obtain ⟨F, rfl⟩ : ∃ G, F = G + 1 := ⟨F - 1, by omega⟩
    obtain ⟨-, -, -, -, -, -, hR, hR', hRb⟩ := h.1
    have hi : i < R := by omega
    have c1 : ¬ u.1 3 ≤ nI i := by rw [hR]; exact nI_ge (by omega) (by omega)
    have c2 : ¬ v.1 3 ≤ nI i := by rw [hR']; exact nI_ge (by omega) (by omega)
    have ci : (nI i).toNatClampNeg = i := pu_ci (by omega)
    have v16 : vp_in (nI i) 16 := vp_in_nI (by omega) (by decide)
    obtain ⟨a1, -, -, -, -, -, ⟨p, hp, ep⟩, -⟩ := h.2.2.2.1 i hi
    obtain ⟨o1, o2, r, u1, v1, e1, e2, h1, hr⟩ := a_matched h hp hv
    have oX := oklX_apply_15_s F u t (nI i)
    have oM := oklM_apply_17_s F v t (nI i)
    have eX := lX_apply_15_s F u t (nI i)
    have eM := lM_apply_17_s F v t (nI i)
    rw [ci, ep, e1, bnd2_c, nI_1] at oX
    rw [ci, ← a1, ep, e2, bnd2_c, nI_1] at oM
    rw [if_neg c1, ci, ep, e1, bnd2_c, nI_1] at eX
    rw [if_neg c2, ci, ← a1, ep, e2, bnd2_c, nI_1] at eM
    obtain ⟨-, -, -, -, f5, f6, -⟩ := h1.2.2.2.1 i hi
    rcases hr with rfl | rfl | ⟨f, hf, rfl⟩
    · have l0 : (0 : Int32) ≤ 1 := by decide
      have h3 := Rel_used (Rel_fell0 h1 i) i (u1.2.1 22 i + 1)
      have ev : (stA v1 15 i (v1.2.1 15 i + 0)).2.1 14 i = u1.2.1 22 i := by rw [stA_ne (by decide)]; exact f5.symm
      rw [if_pos rfl, bnd_d, bnd2_d, bnd2_d] at eX
      rw [if_pos l0, bnd_d, if_pos rfl, ev, bnd_d, bnd2_d] at eM
      rw [eX, eM, oX, oM]
      clear eX eM oX oM
      obtain ⟨b1, b2, b3, b4, -, b6, b7⟩ := Agr_act h3 (a_acts h3 hi)
      refine ⟨⟨fun q => absurd q c1, fun _ => ⟨v16, o1, fun _ => ⟨v16, v16, ?_⟩, fun q => absurd rfl q⟩⟩, ⟨fun q => absurd q c2, fun _ => ⟨v16, o2, v16, fun _ => ⟨v16, ?_⟩, fun q => absurd l0 q⟩⟩, ?_⟩
      · rw [bnd_p]
        refine ⟨v16, v16, v16, b1, ?_⟩
        rw [bnd2_p]
        exact ⟨b3, trivial⟩
      · rw [bnd_p]
        refine ⟨fun _ => ⟨v16, v16, ?_⟩, fun q => absurd rfl q⟩
        rw [bnd_p, ev]
        exact ⟨b2, trivial⟩
      · exact ap_fin b4 b6 b7
    · have l0 : (0 : Int32) ≤ 0 := by decide
      have n1 : ¬ (0 : Int32) = 1 := by decide
      rw [if_neg n1, if_pos rfl] at eX
      rw [if_pos l0, bnd_d, if_neg n1] at eM
      rw [eX, eM, oX, oM]
      clear eX eM oX oM
      obtain ⟨i1, i2, i3, i4⟩ := ih (i + 1) F u1 (stA v1 15 i (v1.2.1 15 i + 0)) (by omega) (by omega) (Rel_fell0 h1 i)
      refine ⟨⟨fun q => absurd q c1, fun _ => ⟨v16, o1, fun q => absurd q n1, fun _ => ⟨fun _ => i1, fun q => absurd rfl q⟩⟩⟩, ⟨fun q => absurd q c2, fun _ => ⟨v16, o2, v16, fun _ => ⟨v16, ?_⟩, fun q => absurd l0 q⟩⟩, i3, i4⟩
      rw [bnd_p]
      exact ⟨fun q => absurd q n1, fun _ => i2⟩
    · obtain ⟨-, -, -, fl, n1, n0⟩ := fnd_ix f hf
      have l0 : ¬ (0 : Int32) ≤ fnd f := by
        rw [pu_lt] at fl
        rw [pu_le]
        rw [Int32.toInt_zero] at fl ⊢
        omega
      have h3 := Rel_fell h1 i (v1.2.1 15 i + 1)
      obtain ⟨i1, i2, i3, i4⟩ := ih (i + 1) F _ _ (by omega) (by omega) h3
      rw [if_neg n1, if_neg n0, bnd_d, f6] at eX
      rw [if_neg l0, bnd_d, if_neg n1] at eM
      rw [eX, eM, oX, oM]
      clear eX eM oX oM
      refine ⟨⟨fun q => absurd q c1, fun _ => ⟨v16, o1, fun q => absurd q n1, fun _ => ⟨fun q => absurd q n0, fun _ => ⟨v16, v16, ?_⟩⟩⟩⟩, ⟨fun q => absurd q c2, fun _ => ⟨v16, o2, v16, fun q => absurd q l0, fun _ => ⟨v16, ?_⟩⟩⟩, i3, i4⟩
      · rw [bnd_p, f6]; exact i1
      · rw [bnd_p]
        exact ⟨fun q => absurd q n1, fun _ => i2⟩
theorem a_apply (h : Rel T P R u v) (t : Int32) : Agr (okX_apply u t) (okM_apply v t) (sX_apply u t).1 (sM_apply v t).1 (sX_apply u t).2 (sM_apply v t).2 := by
  have h1 := Rel_thr h 0
  obtain ⟨hT, hT', hb, hP, hP', hPb, hR, hR', hRb⟩ := h1.1
  unfold Agr okX_apply okM_apply sX_apply sM_apply
  rw [bnd_d, bnd_d]
  generalize stI v 0 0 = v1 at h1 hT' hP' hR' ⊢
  rcases kn_cases t hb with ⟨j, hj, rfl⟩ | hn
  · have hv : vref T (nI j) := Or.inr ⟨j, hj, rfl⟩
    have n1 : ¬ sXT_know u (nI j) = 0 := by rw [knX1 hT hb hj]; decide
    have n2 : ¬ sM_isThing v1 (nI j) = 0 := by rw [knM1 hT' hb hj]; decide
    obtain ⟨i1, i2, i3, i4⟩ := ap_loop hv R 0 100 u v1 (by omega) (by omega) h1
    rw [nI_0] at i1 i2 i3 i4
    rw [if_neg n1, if_neg n2]
    exact ⟨⟨fun q => absurd q n1, fun _ => i1⟩, ⟨fun q => absurd q n2, fun _ => i2⟩, i3, T, P, R, i4⟩
  · rw [knX0 hT hn, knM0 hT' hb hn, if_pos rfl, if_pos rfl]
    exact ⟨⟨fun _ => trivial, fun q => absurd rfl q⟩, ⟨fun _ => trivial, fun q => absurd rfl q⟩, rfl, T, P, R, h1⟩
end Apply
