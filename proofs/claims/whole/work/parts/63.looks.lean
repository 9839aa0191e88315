theorem lkX_0 (lk : St → Int32 → Int32 → Int32 × St) (u u1 : St) (p1 p2 y2 y3 y4 : Int32) (h300 : (u.1 0) < 300) (hu : u1 = (stI u 0 ((u.1 0) + 1))) (hk : ¬ sXP_know u1 p1 = 0) (hy2 : y2 = (u1.2.1 15 p1.toNatClampNeg)) (hy3 : y3 = (u1.2.1 16 p1.toNatClampNeg)) (hy4 : y4 = (u1.2.1 17 p1.toNatClampNeg)) (e : (u1.2.1 14 p1.toNatClampNeg) = nI 0) : sX_look lk u p1 p2 = (((sX_fitsIf (sXT_isOf u1 p2 y2)), u1)) := by
  unfold sX_look
  rw [if_pos h300, bnd_d, ← hu, if_neg hk, bnd_d, bnd_d, bnd_d, ← hy2, ← hy3, ← hy4, e, if_pos (by decide)]
theorem okX_0 (lk : St → Int32 → Int32 → Int32 × St) (oklk : St → Int32 → Int32 → Prop) (u u1 : St) (p1 p2 y2 y3 y4 : Int32) (h300 : (u.1 0) < 300) (hu : u1 = (stI u 0 ((u.1 0) + 1))) (hk : ¬ sXP_know u1 p1 = 0) (hy2 : y2 = (u1.2.1 15 p1.toNatClampNeg)) (hy3 : y3 = (u1.2.1 16 p1.toNatClampNeg)) (hy4 : y4 = (u1.2.1 17 p1.toNatClampNeg)) (e : (u1.2.1 14 p1.toNatClampNeg) = nI 0) (hp : vp_in p1 40) (hl : (okXT_isOf u1 p2 y2) ∧ (True)) : okX_look lk oklk u p1 p2 := by
  unfold okX_look
  refine ⟨fun _ => ?_, fun c => absurd h300 c⟩
  rw [bnd_p, ← hu]
  refine ⟨fun c => absurd c hk, fun _ => ⟨hp, ?_⟩⟩
  rw [bnd_p]
  refine ⟨hp, ?_⟩
  rw [bnd_p]
  refine ⟨hp, ?_⟩
  rw [bnd_p]
  refine ⟨hp, ?_⟩
  rw [← hy2, ← hy3, ← hy4, e]
  exact ⟨fun _ => hl, fun c => absurd (by decide) c⟩
theorem lkX_1 (lk : St → Int32 → Int32 → Int32 × St) (u u1 : St) (p1 p2 y2 y3 y4 : Int32) (h300 : (u.1 0) < 300) (hu : u1 = (stI u 0 ((u.1 0) + 1))) (hk : ¬ sXP_know u1 p1 = 0) (hy2 : y2 = (u1.2.1 15 p1.toNatClampNeg)) (hy3 : y3 = (u1.2.1 16 p1.toNatClampNeg)) (hy4 : y4 = (u1.2.1 17 p1.toNatClampNeg)) (e : (u1.2.1 14 p1.toNatClampNeg) = nI 1) : sX_look lk u p1 p2 = (if (sXT_mayBeTaken u1 p2 y2) = 0 then
      ((-21), u1)
    else
      bnd2 (lk u1 y3 p2) (fun r5 u5 =>
      (r5, u5))) := by
  unfold sX_look
  rw [if_pos h300, bnd_d, ← hu, if_neg hk, bnd_d, bnd_d, bnd_d, ← hy2, ← hy3, ← hy4, e, if_neg (by decide), if_pos (by decide)]
theorem okX_1 (lk : St → Int32 → Int32 → Int32 × St) (oklk : St → Int32 → Int32 → Prop) (u u1 : St) (p1 p2 y2 y3 y4 : Int32) (h300 : (u.1 0) < 300) (hu : u1 = (stI u 0 ((u.1 0) + 1))) (hk : ¬ sXP_know u1 p1 = 0) (hy2 : y2 = (u1.2.1 15 p1.toNatClampNeg)) (hy3 : y3 = (u1.2.1 16 p1.toNatClampNeg)) (hy4 : y4 = (u1.2.1 17 p1.toNatClampNeg)) (e : (u1.2.1 14 p1.toNatClampNeg) = nI 1) (hp : vp_in p1 40) (hl : (okXT_mayBeTaken u1 p2 y2) ∧ ((((sXT_mayBeTaken u1 p2 y2) = 0) → True) ∧ (¬ ((sXT_mayBeTaken u1 p2 y2) = 0) → (oklk u1 y3 p2) ∧ (True)))) : okX_look lk oklk u p1 p2 := by
  unfold okX_look
  refine ⟨fun _ => ?_, fun c => absurd h300 c⟩
  rw [bnd_p, ← hu]
  refine ⟨fun c => absurd c hk, fun _ => ⟨hp, ?_⟩⟩
  rw [bnd_p]
  refine ⟨hp, ?_⟩
  rw [bnd_p]
  refine ⟨hp, ?_⟩
  rw [bnd_p]
  refine ⟨hp, ?_⟩
  rw [← hy2, ← hy3, ← hy4, e]
  refine ⟨fun c => absurd c (by decide), fun _ => ?_⟩
  exact ⟨fun _ => hl, fun c => absurd (by decide) c⟩
theorem lkX_2 (lk : St → Int32 → Int32 → Int32 × St) (u u1 : St) (p1 p2 y2 y3 y4 : Int32) (h300 : (u.1 0) < 300) (hu : u1 = (stI u 0 ((u.1 0) + 1))) (hk : ¬ sXP_know u1 p1 = 0) (hy2 : y2 = (u1.2.1 15 p1.toNatClampNeg)) (hy3 : y3 = (u1.2.1 16 p1.toNatClampNeg)) (hy4 : y4 = (u1.2.1 17 p1.toNatClampNeg)) (e : (u1.2.1 14 p1.toNatClampNeg) = nI 2) : sX_look lk u p1 p2 = (if p2 = (-5) then
      ((sX_fitsIf 1), u1)
    else
      ((sX_fitsIf 0), u1)) := by
  unfold sX_look
  rw [if_pos h300, bnd_d, ← hu, if_neg hk, bnd_d, bnd_d, bnd_d, ← hy2, ← hy3, ← hy4, e, if_neg (by decide), if_neg (by decide), if_pos (by decide)]
theorem okX_2 (lk : St → Int32 → Int32 → Int32 × St) (oklk : St → Int32 → Int32 → Prop) (u u1 : St) (p1 p2 y2 y3 y4 : Int32) (h300 : (u.1 0) < 300) (hu : u1 = (stI u 0 ((u.1 0) + 1))) (hk : ¬ sXP_know u1 p1 = 0) (hy2 : y2 = (u1.2.1 15 p1.toNatClampNeg)) (hy3 : y3 = (u1.2.1 16 p1.toNatClampNeg)) (hy4 : y4 = (u1.2.1 17 p1.toNatClampNeg)) (e : (u1.2.1 14 p1.toNatClampNeg) = nI 2) (hp : vp_in p1 40) (hl : True) : okX_look lk oklk u p1 p2 := by
  unfold okX_look
  refine ⟨fun _ => ?_, fun c => absurd h300 c⟩
  rw [bnd_p, ← hu]
  refine ⟨fun c => absurd c hk, fun _ => ⟨hp, ?_⟩⟩
  rw [bnd_p]
  refine ⟨hp, ?_⟩
  rw [bnd_p]
  refine ⟨hp, ?_⟩
  rw [bnd_p]
  refine ⟨hp, ?_⟩
  rw [← hy2, ← hy3, ← hy4, e]
  refine ⟨fun c => absurd c (by decide), fun _ => ?_⟩
  refine ⟨fun c => absurd c (by decide), fun _ => ?_⟩
  exact ⟨fun _ => hl, fun c => absurd (by decide) c⟩
theorem lkX_3 (lk : St → Int32 → Int32 → Int32 × St) (u u1 : St) (p1 p2 y2 y3 y4 : Int32) (h300 : (u.1 0) < 300) (hu : u1 = (stI u 0 ((u.1 0) + 1))) (hk : ¬ sXP_know u1 p1 = 0) (hy2 : y2 = (u1.2.1 15 p1.toNatClampNeg)) (hy3 : y3 = (u1.2.1 16 p1.toNatClampNeg)) (hy4 : y4 = (u1.2.1 17 p1.toNatClampNeg)) (e : (u1.2.1 14 p1.toNatClampNeg) = nI 3) : sX_look lk u p1 p2 = ((sX_lookAtHalves lk u1 p2 y2 y3)) := by
  unfold sX_look
  rw [if_pos h300, bnd_d, ← hu, if_neg hk, bnd_d, bnd_d, bnd_d, ← hy2, ← hy3, ← hy4, e, if_neg (by decide), if_neg (by decide), if_neg (by decide), if_pos (by decide)]
theorem okX_3 (lk : St → Int32 → Int32 → Int32 × St) (oklk : St → Int32 → Int32 → Prop) (u u1 : St) (p1 p2 y2 y3 y4 : Int32) (h300 : (u.1 0) < 300) (hu : u1 = (stI u 0 ((u.1 0) + 1))) (hk : ¬ sXP_know u1 p1 = 0) (hy2 : y2 = (u1.2.1 15 p1.toNatClampNeg)) (hy3 : y3 = (u1.2.1 16 p1.toNatClampNeg)) (hy4 : y4 = (u1.2.1 17 p1.toNatClampNeg)) (e : (u1.2.1 14 p1.toNatClampNeg) = nI 3) (hp : vp_in p1 40) (hl : (okX_lookAtHalves lk oklk u1 p2 y2 y3) ∧ (True)) : okX_look lk oklk u p1 p2 := by
  unfold okX_look
  refine ⟨fun _ => ?_, fun c => absurd h300 c⟩
  rw [bnd_p, ← hu]
  refine ⟨fun c => absurd c hk, fun _ => ⟨hp, ?_⟩⟩
  rw [bnd_p]
  refine ⟨hp, ?_⟩
  rw [bnd_p]
  refine ⟨hp, ?_⟩
  rw [bnd_p]
  refine ⟨hp, ?_⟩
  rw [← hy2, ← hy3, ← hy4, e]
  refine ⟨fun c => absurd c (by decide), fun _ => ?_⟩
  refine ⟨fun c => absurd c (by decide), fun _ => ?_⟩
  refine ⟨fun c => absurd c (by decide), fun _ => ?_⟩
  exact ⟨fun _ => hl, fun c => absurd (by decide) c⟩
theorem lkX_4 (lk : St → Int32 → Int32 → Int32 × St) (u u1 : St) (p1 p2 y2 y3 y4 : Int32) (h300 : (u.1 0) < 300) (hu : u1 = (stI u 0 ((u.1 0) + 1))) (hk : ¬ sXP_know u1 p1 = 0) (hy2 : y2 = (u1.2.1 15 p1.toNatClampNeg)) (hy3 : y3 = (u1.2.1 16 p1.toNatClampNeg)) (hy4 : y4 = (u1.2.1 17 p1.toNatClampNeg)) (e : (u1.2.1 14 p1.toNatClampNeg) = nI 4) : sX_look lk u p1 p2 = ((sX_lookAtEach lk u1 p2 y2 y3)) := by
  unfold sX_look
  rw [if_pos h300, bnd_d, ← hu, if_neg hk, bnd_d, bnd_d, bnd_d, ← hy2, ← hy3, ← hy4, e, if_neg (by decide), if_neg (by decide), if_neg (by decide), if_neg (by decide), if_pos (by decide)]
theorem okX_4 (lk : St → Int32 → Int32 → Int32 × St) (oklk : St → Int32 → Int32 → Prop) (u u1 : St) (p1 p2 y2 y3 y4 : Int32) (h300 : (u.1 0) < 300) (hu : u1 = (stI u 0 ((u.1 0) + 1))) (hk : ¬ sXP_know u1 p1 = 0) (hy2 : y2 = (u1.2.1 15 p1.toNatClampNeg)) (hy3 : y3 = (u1.2.1 16 p1.toNatClampNeg)) (hy4 : y4 = (u1.2.1 17 p1.toNatClampNeg)) (e : (u1.2.1 14 p1.toNatClampNeg) = nI 4) (hp : vp_in p1 40) (hl : (okX_lookAtEach lk oklk u1 p2 y2 y3) ∧ (True)) : okX_look lk oklk u p1 p2 := by
  unfold okX_look
  refine ⟨fun _ => ?_, fun c => absurd h300 c⟩
  rw [bnd_p, ← hu]
  refine ⟨fun c => absurd c hk, fun _ => ⟨hp, ?_⟩⟩
  rw [bnd_p]
  refine ⟨hp, ?_⟩
  rw [bnd_p]
  refine ⟨hp, ?_⟩
  rw [bnd_p]
  refine ⟨hp, ?_⟩
  rw [← hy2, ← hy3, ← hy4, e]
  refine ⟨fun c => absurd c (by decide), fun _ => ?_⟩
  refine ⟨fun c => absurd c (by decide), fun _ => ?_⟩
  refine ⟨fun c => absurd c (by decide), fun _ => ?_⟩
  refine ⟨fun c => absurd c (by decide), fun _ => ?_⟩
  exact ⟨fun _ => hl, fun c => absurd (by decide) c⟩
theorem lkX_5 (lk : St → Int32 → Int32 → Int32 × St) (u u1 : St) (p1 p2 y2 y3 y4 : Int32) (h300 : (u.1 0) < 300) (hu : u1 = (stI u 0 ((u.1 0) + 1))) (hk : ¬ sXP_know u1 p1 = 0) (hy2 : y2 = (u1.2.1 15 p1.toNatClampNeg)) (hy3 : y3 = (u1.2.1 16 p1.toNatClampNeg)) (hy4 : y4 = (u1.2.1 17 p1.toNatClampNeg)) (e : (u1.2.1 14 p1.toNatClampNeg) = nI 5) : sX_look lk u p1 p2 = ((sX_lookAtPlace lk u1 p2 y2 y3 y4)) := by
  unfold sX_look
  rw [if_pos h300, bnd_d, ← hu, if_neg hk, bnd_d, bnd_d, bnd_d, ← hy2, ← hy3, ← hy4, e, if_neg (by decide), if_neg (by decide), if_neg (by decide), if_neg (by decide), if_neg (by decide), if_pos (by decide)]
theorem okX_5 (lk : St → Int32 → Int32 → Int32 × St) (oklk : St → Int32 → Int32 → Prop) (u u1 : St) (p1 p2 y2 y3 y4 : Int32) (h300 : (u.1 0) < 300) (hu : u1 = (stI u 0 ((u.1 0) + 1))) (hk : ¬ sXP_know u1 p1 = 0) (hy2 : y2 = (u1.2.1 15 p1.toNatClampNeg)) (hy3 : y3 = (u1.2.1 16 p1.toNatClampNeg)) (hy4 : y4 = (u1.2.1 17 p1.toNatClampNeg)) (e : (u1.2.1 14 p1.toNatClampNeg) = nI 5) (hp : vp_in p1 40) (hl : (okX_lookAtPlace lk oklk u1 p2 y2 y3 y4) ∧ (True)) : okX_look lk oklk u p1 p2 := by
  unfold okX_look
  refine ⟨fun _ => ?_, fun c => absurd h300 c⟩
  rw [bnd_p, ← hu]
  refine ⟨fun c => absurd c hk, fun _ => ⟨hp, ?_⟩⟩
  rw [bnd_p]
  refine ⟨hp, ?_⟩
  rw [bnd_p]
  refine ⟨hp, ?_⟩
  rw [bnd_p]
  refine ⟨hp, ?_⟩
  rw [← hy2, ← hy3, ← hy4, e]
  refine ⟨fun c => absurd c (by decide), fun _ => ?_⟩
  refine ⟨fun c => absurd c (by decide), fun _ => ?_⟩
  refine ⟨fun c => absurd c (by decide), fun _ => ?_⟩
  refine ⟨fun c => absurd c (by decide), fun _ => ?_⟩
  refine ⟨fun c => absurd c (by decide), fun _ => ?_⟩
  exact ⟨fun _ => hl, fun c => absurd (by decide) c⟩
theorem lkX_6 (lk : St → Int32 → Int32 → Int32 × St) (u u1 : St) (p1 p2 y2 y3 y4 : Int32) (h300 : (u.1 0) < 300) (hu : u1 = (stI u 0 ((u.1 0) + 1))) (hk : ¬ sXP_know u1 p1 = 0) (hy2 : y2 = (u1.2.1 15 p1.toNatClampNeg)) (hy3 : y3 = (u1.2.1 16 p1.toNatClampNeg)) (hy4 : y4 = (u1.2.1 17 p1.toNatClampNeg)) (e : (u1.2.1 14 p1.toNatClampNeg) = nI 6) : sX_look lk u p1 p2 = (((sX_lookAtDigit u1 p2 y2 y3 y4), u1)) := by
  unfold sX_look
  rw [if_pos h300, bnd_d, ← hu, if_neg hk, bnd_d, bnd_d, bnd_d, ← hy2, ← hy3, ← hy4, e, if_neg (by decide), if_neg (by decide), if_neg (by decide), if_neg (by decide), if_neg (by decide), if_neg (by decide), if_pos (by decide)]
theorem okX_6 (lk : St → Int32 → Int32 → Int32 × St) (oklk : St → Int32 → Int32 → Prop) (u u1 : St) (p1 p2 y2 y3 y4 : Int32) (h300 : (u.1 0) < 300) (hu : u1 = (stI u 0 ((u.1 0) + 1))) (hk : ¬ sXP_know u1 p1 = 0) (hy2 : y2 = (u1.2.1 15 p1.toNatClampNeg)) (hy3 : y3 = (u1.2.1 16 p1.toNatClampNeg)) (hy4 : y4 = (u1.2.1 17 p1.toNatClampNeg)) (e : (u1.2.1 14 p1.toNatClampNeg) = nI 6) (hp : vp_in p1 40) (hl : (okX_lookAtDigit u1 p2 y2 y3 y4) ∧ (True)) : okX_look lk oklk u p1 p2 := by
  unfold okX_look
  refine ⟨fun _ => ?_, fun c => absurd h300 c⟩
  rw [bnd_p, ← hu]
  refine ⟨fun c => absurd c hk, fun _ => ⟨hp, ?_⟩⟩
  rw [bnd_p]
  refine ⟨hp, ?_⟩
  rw [bnd_p]
  refine ⟨hp, ?_⟩
  rw [bnd_p]
  refine ⟨hp, ?_⟩
  rw [← hy2, ← hy3, ← hy4, e]
  refine ⟨fun c => absurd c (by decide), fun _ => ?_⟩
  refine ⟨fun c => absurd c (by decide), fun _ => ?_⟩
  refine ⟨fun c => absurd c (by decide), fun _ => ?_⟩
  refine ⟨fun c => absurd c (by decide), fun _ => ?_⟩
  refine ⟨fun c => absurd c (by decide), fun _ => ?_⟩
  refine ⟨fun c => absurd c (by decide), fun _ => ?_⟩
  exact ⟨fun _ => hl, fun c => absurd (by decide) c⟩
theorem lkX_7 (lk : St → Int32 → Int32 → Int32 × St) (u u1 : St) (p1 p2 y2 y3 y4 : Int32) (h300 : (u.1 0) < 300) (hu : u1 = (stI u 0 ((u.1 0) + 1))) (hk : ¬ sXP_know u1 p1 = 0) (hy2 : y2 = (u1.2.1 15 p1.toNatClampNeg)) (hy3 : y3 = (u1.2.1 16 p1.toNatClampNeg)) (hy4 : y4 = (u1.2.1 17 p1.toNatClampNeg)) (e : (u1.2.1 14 p1.toNatClampNeg) = nI 7) : sX_look lk u p1 p2 = ((sX_lookWithBoth lk u1 p2 y2 y3)) := by
  unfold sX_look
  rw [if_pos h300, bnd_d, ← hu, if_neg hk, bnd_d, bnd_d, bnd_d, ← hy2, ← hy3, ← hy4, e, if_neg (by decide), if_neg (by decide), if_neg (by decide), if_neg (by decide), if_neg (by decide), if_neg (by decide), if_neg (by decide), if_pos (by decide)]
theorem okX_7 (lk : St → Int32 → Int32 → Int32 × St) (oklk : St → Int32 → Int32 → Prop) (u u1 : St) (p1 p2 y2 y3 y4 : Int32) (h300 : (u.1 0) < 300) (hu : u1 = (stI u 0 ((u.1 0) + 1))) (hk : ¬ sXP_know u1 p1 = 0) (hy2 : y2 = (u1.2.1 15 p1.toNatClampNeg)) (hy3 : y3 = (u1.2.1 16 p1.toNatClampNeg)) (hy4 : y4 = (u1.2.1 17 p1.toNatClampNeg)) (e : (u1.2.1 14 p1.toNatClampNeg) = nI 7) (hp : vp_in p1 40) (hl : (okX_lookWithBoth lk oklk u1 p2 y2 y3) ∧ (True)) : okX_look lk oklk u p1 p2 := by
  unfold okX_look
  refine ⟨fun _ => ?_, fun c => absurd h300 c⟩
  rw [bnd_p, ← hu]
  refine ⟨fun c => absurd c hk, fun _ => ⟨hp, ?_⟩⟩
  rw [bnd_p]
  refine ⟨hp, ?_⟩
  rw [bnd_p]
  refine ⟨hp, ?_⟩
  rw [bnd_p]
  refine ⟨hp, ?_⟩
  rw [← hy2, ← hy3, ← hy4, e]
  refine ⟨fun c => absurd c (by decide), fun _ => ?_⟩
  refine ⟨fun c => absurd c (by decide), fun _ => ?_⟩
  refine ⟨fun c => absurd c (by decide), fun _ => ?_⟩
  refine ⟨fun c => absurd c (by decide), fun _ => ?_⟩
  refine ⟨fun c => absurd c (by decide), fun _ => ?_⟩
  refine ⟨fun c => absurd c (by decide), fun _ => ?_⟩
  refine ⟨fun c => absurd c (by decide), fun _ => ?_⟩
  exact ⟨fun _ => hl, fun c => absurd (by decide) c⟩
theorem lkX_8 (lk : St → Int32 → Int32 → Int32 × St) (u u1 : St) (p1 p2 y2 y3 y4 : Int32) (h300 : (u.1 0) < 300) (hu : u1 = (stI u 0 ((u.1 0) + 1))) (hk : ¬ sXP_know u1 p1 = 0) (hy2 : y2 = (u1.2.1 15 p1.toNatClampNeg)) (hy3 : y3 = (u1.2.1 16 p1.toNatClampNeg)) (hy4 : y4 = (u1.2.1 17 p1.toNatClampNeg)) (e : (u1.2.1 14 p1.toNatClampNeg) = nI 8) : sX_look lk u p1 p2 = ((sX_lookWithEither lk u1 p2 y2 y3)) := by
  unfold sX_look
  rw [if_pos h300, bnd_d, ← hu, if_neg hk, bnd_d, bnd_d, bnd_d, ← hy2, ← hy3, ← hy4, e, if_neg (by decide), if_neg (by decide), if_neg (by decide), if_neg (by decide), if_neg (by decide), if_neg (by decide), if_neg (by decide), if_neg (by decide), if_pos (by decide)]
theorem okX_8 (lk : St → Int32 → Int32 → Int32 × St) (oklk : St → Int32 → Int32 → Prop) (u u1 : St) (p1 p2 y2 y3 y4 : Int32) (h300 : (u.1 0) < 300) (hu : u1 = (stI u 0 ((u.1 0) + 1))) (hk : ¬ sXP_know u1 p1 = 0) (hy2 : y2 = (u1.2.1 15 p1.toNatClampNeg)) (hy3 : y3 = (u1.2.1 16 p1.toNatClampNeg)) (hy4 : y4 = (u1.2.1 17 p1.toNatClampNeg)) (e : (u1.2.1 14 p1.toNatClampNeg) = nI 8) (hp : vp_in p1 40) (hl : (okX_lookWithEither lk oklk u1 p2 y2 y3) ∧ (True)) : okX_look lk oklk u p1 p2 := by
  unfold okX_look
  refine ⟨fun _ => ?_, fun c => absurd h300 c⟩
  rw [bnd_p, ← hu]
  refine ⟨fun c => absurd c hk, fun _ => ⟨hp, ?_⟩⟩
  rw [bnd_p]
  refine ⟨hp, ?_⟩
  rw [bnd_p]
  refine ⟨hp, ?_⟩
  rw [bnd_p]
  refine ⟨hp, ?_⟩
  rw [← hy2, ← hy3, ← hy4, e]
  refine ⟨fun c => absurd c (by decide), fun _ => ?_⟩
  refine ⟨fun c => absurd c (by decide), fun _ => ?_⟩
  refine ⟨fun c => absurd c (by decide), fun _ => ?_⟩
  refine ⟨fun c => absurd c (by decide), fun _ => ?_⟩
  refine ⟨fun c => absurd c (by decide), fun _ => ?_⟩
  refine ⟨fun c => absurd c (by decide), fun _ => ?_⟩
  refine ⟨fun c => absurd c (by decide), fun _ => ?_⟩
  refine ⟨fun c => absurd c (by decide), fun _ => ?_⟩
  exact ⟨fun _ => hl, fun c => absurd (by decide) c⟩
theorem lkX_9 (lk : St → Int32 → Int32 → Int32 × St) (u u1 : St) (p1 p2 y2 y3 y4 : Int32) (h300 : (u.1 0) < 300) (hu : u1 = (stI u 0 ((u.1 0) + 1))) (hk : ¬ sXP_know u1 p1 = 0) (hy2 : y2 = (u1.2.1 15 p1.toNatClampNeg)) (hy3 : y3 = (u1.2.1 16 p1.toNatClampNeg)) (hy4 : y4 = (u1.2.1 17 p1.toNatClampNeg)) (e : (u1.2.1 14 p1.toNatClampNeg) = nI 9) : sX_look lk u p1 p2 = (bnd2 (lk u1 y2 p2) (fun r11 u11 =>
    ((sX_turnedRound r11), u11))) := by
  unfold sX_look
  rw [if_pos h300, bnd_d, ← hu, if_neg hk, bnd_d, bnd_d, bnd_d, ← hy2, ← hy3, ← hy4, e, if_neg (by decide), if_neg (by decide), if_neg (by decide), if_neg (by decide), if_neg (by decide), if_neg (by decide), if_neg (by decide), if_neg (by decide), if_neg (by decide), if_pos (by decide)]
theorem okX_9 (lk : St → Int32 → Int32 → Int32 × St) (oklk : St → Int32 → Int32 → Prop) (u u1 : St) (p1 p2 y2 y3 y4 : Int32) (h300 : (u.1 0) < 300) (hu : u1 = (stI u 0 ((u.1 0) + 1))) (hk : ¬ sXP_know u1 p1 = 0) (hy2 : y2 = (u1.2.1 15 p1.toNatClampNeg)) (hy3 : y3 = (u1.2.1 16 p1.toNatClampNeg)) (hy4 : y4 = (u1.2.1 17 p1.toNatClampNeg)) (e : (u1.2.1 14 p1.toNatClampNeg) = nI 9) (hp : vp_in p1 40) (hl : (oklk u1 y2 p2) ∧ (True)) : okX_look lk oklk u p1 p2 := by
  unfold okX_look
  refine ⟨fun _ => ?_, fun c => absurd h300 c⟩
  rw [bnd_p, ← hu]
  refine ⟨fun c => absurd c hk, fun _ => ⟨hp, ?_⟩⟩
  rw [bnd_p]
  refine ⟨hp, ?_⟩
  rw [bnd_p]
  refine ⟨hp, ?_⟩
  rw [bnd_p]
  refine ⟨hp, ?_⟩
  rw [← hy2, ← hy3, ← hy4, e]
  refine ⟨fun c => absurd c (by decide), fun _ => ?_⟩
  refine ⟨fun c => absurd c (by decide), fun _ => ?_⟩
  refine ⟨fun c => absurd c (by decide), fun _ => ?_⟩
  refine ⟨fun c => absurd c (by decide), fun _ => ?_⟩
  refine ⟨fun c => absurd c (by decide), fun _ => ?_⟩
  refine ⟨fun c => absurd c (by decide), fun _ => ?_⟩
  refine ⟨fun c => absurd c (by decide), fun _ => ?_⟩
  refine ⟨fun c => absurd c (by decide), fun _ => ?_⟩
  refine ⟨fun c => absurd c (by decide), fun _ => ?_⟩
  exact ⟨fun _ => hl, fun c => absurd (by decide) c⟩
theorem lkX_10 (lk : St → Int32 → Int32 → Int32 × St) (u u1 : St) (p1 p2 y2 y3 y4 : Int32) (h300 : (u.1 0) < 300) (hu : u1 = (stI u 0 ((u.1 0) + 1))) (hk : ¬ sXP_know u1 p1 = 0) (hy2 : y2 = (u1.2.1 15 p1.toNatClampNeg)) (hy3 : y3 = (u1.2.1 16 p1.toNatClampNeg)) (hy4 : y4 = (u1.2.1 17 p1.toNatClampNeg)) (e : (u1.2.1 14 p1.toNatClampNeg) = nI 10) : sX_look lk u p1 p2 = ((sX_keep u1 p2 y2)) := by
  unfold sX_look
  rw [if_pos h300, bnd_d, ← hu, if_neg hk, bnd_d, bnd_d, bnd_d, ← hy2, ← hy3, ← hy4, e, if_neg (by decide), if_neg (by decide), if_neg (by decide), if_neg (by decide), if_neg (by decide), if_neg (by decide), if_neg (by decide), if_neg (by decide), if_neg (by decide), if_neg (by decide), if_pos (by decide)]
theorem okX_10 (lk : St → Int32 → Int32 → Int32 × St) (oklk : St → Int32 → Int32 → Prop) (u u1 : St) (p1 p2 y2 y3 y4 : Int32) (h300 : (u.1 0) < 300) (hu : u1 = (stI u 0 ((u.1 0) + 1))) (hk : ¬ sXP_know u1 p1 = 0) (hy2 : y2 = (u1.2.1 15 p1.toNatClampNeg)) (hy3 : y3 = (u1.2.1 16 p1.toNatClampNeg)) (hy4 : y4 = (u1.2.1 17 p1.toNatClampNeg)) (e : (u1.2.1 14 p1.toNatClampNeg) = nI 10) (hp : vp_in p1 40) (hl : (okX_keep u1 p2 y2) ∧ (True)) : okX_look lk oklk u p1 p2 := by
  unfold okX_look
  refine ⟨fun _ => ?_, fun c => absurd h300 c⟩
  rw [bnd_p, ← hu]
  refine ⟨fun c => absurd c hk, fun _ => ⟨hp, ?_⟩⟩
  rw [bnd_p]
  refine ⟨hp, ?_⟩
  rw [bnd_p]
  refine ⟨hp, ?_⟩
  rw [bnd_p]
  refine ⟨hp, ?_⟩
  rw [← hy2, ← hy3, ← hy4, e]
  refine ⟨fun c => absurd c (by decide), fun _ => ?_⟩
  refine ⟨fun c => absurd c (by decide), fun _ => ?_⟩
  refine ⟨fun c => absurd c (by decide), fun _ => ?_⟩
  refine ⟨fun c => absurd c (by decide), fun _ => ?_⟩
  refine ⟨fun c => absurd c (by decide), fun _ => ?_⟩
  refine ⟨fun c => absurd c (by decide), fun _ => ?_⟩
  refine ⟨fun c => absurd c (by decide), fun _ => ?_⟩
  refine ⟨fun c => absurd c (by decide), fun _ => ?_⟩
  refine ⟨fun c => absurd c (by decide), fun _ => ?_⟩
  refine ⟨fun c => absurd c (by decide), fun _ => ?_⟩
  exact ⟨fun _ => hl, fun c => absurd (by decide) c⟩
theorem lkX_11 (lk : St → Int32 → Int32 → Int32 × St) (u u1 : St) (p1 p2 y2 y3 y4 : Int32) (h300 : (u.1 0) < 300) (hu : u1 = (stI u 0 ((u.1 0) + 1))) (hk : ¬ sXP_know u1 p1 = 0) (hy2 : y2 = (u1.2.1 15 p1.toNatClampNeg)) (hy3 : y3 = (u1.2.1 16 p1.toNatClampNeg)) (hy4 : y4 = (u1.2.1 17 p1.toNatClampNeg)) (e : (u1.2.1 14 p1.toNatClampNeg) = nI 11) : sX_look lk u p1 p2 = (if (sX_isSlot y2) = 0 then
      ((sX_fitsIf 0), u1)
    else
      if (u1.2.1 4 y2.toNatClampNeg) = p2 then
        ((sX_fitsIf 1), u1)
      else
        ((sX_fitsIf 0), u1)) := by
  unfold sX_look
  rw [if_pos h300, bnd_d, ← hu, if_neg hk, bnd_d, bnd_d, bnd_d, ← hy2, ← hy3, ← hy4, e, if_neg (by decide), if_neg (by decide), if_neg (by decide), if_neg (by decide), if_neg (by decide), if_neg (by decide), if_neg (by decide), if_neg (by decide), if_neg (by decide), if_neg (by decide), if_neg (by decide), if_pos (by decide)]
theorem okX_11 (lk : St → Int32 → Int32 → Int32 × St) (oklk : St → Int32 → Int32 → Prop) (u u1 : St) (p1 p2 y2 y3 y4 : Int32) (h300 : (u.1 0) < 300) (hu : u1 = (stI u 0 ((u.1 0) + 1))) (hk : ¬ sXP_know u1 p1 = 0) (hy2 : y2 = (u1.2.1 15 p1.toNatClampNeg)) (hy3 : y3 = (u1.2.1 16 p1.toNatClampNeg)) (hy4 : y4 = (u1.2.1 17 p1.toNatClampNeg)) (e : (u1.2.1 14 p1.toNatClampNeg) = nI 11) (hp : vp_in p1 40) (hl : (((sX_isSlot y2) = 0) → True) ∧ (¬ ((sX_isSlot y2) = 0) → (vp_in y2 4) ∧ (True))) : okX_look lk oklk u p1 p2 := by
  unfold okX_look
  refine ⟨fun _ => ?_, fun c => absurd h300 c⟩
  rw [bnd_p, ← hu]
  refine ⟨fun c => absurd c hk, fun _ => ⟨hp, ?_⟩⟩
  rw [bnd_p]
  refine ⟨hp, ?_⟩
  rw [bnd_p]
  refine ⟨hp, ?_⟩
  rw [bnd_p]
  refine ⟨hp, ?_⟩
  rw [← hy2, ← hy3, ← hy4, e]
  refine ⟨fun c => absurd c (by decide), fun _ => ?_⟩
  refine ⟨fun c => absurd c (by decide), fun _ => ?_⟩
  refine ⟨fun c => absurd c (by decide), fun _ => ?_⟩
  refine ⟨fun c => absurd c (by decide), fun _ => ?_⟩
  refine ⟨fun c => absurd c (by decide), fun _ => ?_⟩
  refine ⟨fun c => absurd c (by decide), fun _ => ?_⟩
  refine ⟨fun c => absurd c (by decide), fun _ => ?_⟩
  refine ⟨fun c => absurd c (by decide), fun _ => ?_⟩
  refine ⟨fun c => absurd c (by decide), fun _ => ?_⟩
  refine ⟨fun c => absurd c (by decide), fun _ => ?_⟩
  refine ⟨fun c => absurd c (by decide), fun _ => ?_⟩
  exact ⟨fun _ => hl, fun c => absurd (by decide) c⟩
theorem lkX_12 (lk : St → Int32 → Int32 → Int32 × St) (u u1 : St) (p1 p2 y2 y3 y4 : Int32) (h300 : (u.1 0) < 300) (hu : u1 = (stI u 0 ((u.1 0) + 1))) (hk : ¬ sXP_know u1 p1 = 0) (hy2 : y2 = (u1.2.1 15 p1.toNatClampNeg)) (hy3 : y3 = (u1.2.1 16 p1.toNatClampNeg)) (hy4 : y4 = (u1.2.1 17 p1.toNatClampNeg)) (e : (u1.2.1 14 p1.toNatClampNeg) = nI 12) : sX_look lk u p1 p2 = (((sX_lookAtTold u1 p2 y2), u1)) := by
  unfold sX_look
  rw [if_pos h300, bnd_d, ← hu, if_neg hk, bnd_d, bnd_d, bnd_d, ← hy2, ← hy3, ← hy4, e, if_neg (by decide), if_neg (by decide), if_neg (by decide), if_neg (by decide), if_neg (by decide), if_neg (by decide), if_neg (by decide), if_neg (by decide), if_neg (by decide), if_neg (by decide), if_neg (by decide), if_neg (by decide), if_pos (by decide)]
theorem okX_12 (lk : St → Int32 → Int32 → Int32 × St) (oklk : St → Int32 → Int32 → Prop) (u u1 : St) (p1 p2 y2 y3 y4 : Int32) (h300 : (u.1 0) < 300) (hu : u1 = (stI u 0 ((u.1 0) + 1))) (hk : ¬ sXP_know u1 p1 = 0) (hy2 : y2 = (u1.2.1 15 p1.toNatClampNeg)) (hy3 : y3 = (u1.2.1 16 p1.toNatClampNeg)) (hy4 : y4 = (u1.2.1 17 p1.toNatClampNeg)) (e : (u1.2.1 14 p1.toNatClampNeg) = nI 12) (hp : vp_in p1 40) (hl : (okX_lookAtTold u1 p2 y2) ∧ (True)) : okX_look lk oklk u p1 p2 := by
  unfold okX_look
  refine ⟨fun _ => ?_, fun c => absurd h300 c⟩
  rw [bnd_p, ← hu]
  refine ⟨fun c => absurd c hk, fun _ => ⟨hp, ?_⟩⟩
  rw [bnd_p]
  refine ⟨hp, ?_⟩
  rw [bnd_p]
  refine ⟨hp, ?_⟩
  rw [bnd_p]
  refine ⟨hp, ?_⟩
  rw [← hy2, ← hy3, ← hy4, e]
  refine ⟨fun c => absurd c (by decide), fun _ => ?_⟩
  refine ⟨fun c => absurd c (by decide), fun _ => ?_⟩
  refine ⟨fun c => absurd c (by decide), fun _ => ?_⟩
  refine ⟨fun c => absurd c (by decide), fun _ => ?_⟩
  refine ⟨fun c => absurd c (by decide), fun _ => ?_⟩
  refine ⟨fun c => absurd c (by decide), fun _ => ?_⟩
  refine ⟨fun c => absurd c (by decide), fun _ => ?_⟩
  refine ⟨fun c => absurd c (by decide), fun _ => ?_⟩
  refine ⟨fun c => absurd c (by decide), fun _ => ?_⟩
  refine ⟨fun c => absurd c (by decide), fun _ => ?_⟩
  refine ⟨fun c => absurd c (by decide), fun _ => ?_⟩
  refine ⟨fun c => absurd c (by decide), fun _ => ?_⟩
  exact ⟨fun _ => hl, fun c => absurd (by decide) c⟩
theorem lkX_13 (lk : St → Int32 → Int32 → Int32 × St) (u u1 : St) (p1 p2 y2 y3 y4 : Int32) (h300 : (u.1 0) < 300) (hu : u1 = (stI u 0 ((u.1 0) + 1))) (hk : ¬ sXP_know u1 p1 = 0) (hy2 : y2 = (u1.2.1 15 p1.toNatClampNeg)) (hy3 : y3 = (u1.2.1 16 p1.toNatClampNeg)) (hy4 : y4 = (u1.2.1 17 p1.toNatClampNeg)) (e : (u1.2.1 14 p1.toNatClampNeg) = nI 13) : sX_look lk u p1 p2 = (((sX_lookAtLength u1 p2 y2 y3), u1)) := by
  unfold sX_look
  rw [if_pos h300, bnd_d, ← hu, if_neg hk, bnd_d, bnd_d, bnd_d, ← hy2, ← hy3, ← hy4, e, if_neg (by decide), if_neg (by decide), if_neg (by decide), if_neg (by decide), if_neg (by decide), if_neg (by decide), if_neg (by decide), if_neg (by decide), if_neg (by decide), if_neg (by decide), if_neg (by decide), if_neg (by decide), if_neg (by decide), if_pos (by decide)]
theorem okX_13 (lk : St → Int32 → Int32 → Int32 × St) (oklk : St → Int32 → Int32 → Prop) (u u1 : St) (p1 p2 y2 y3 y4 : Int32) (h300 : (u.1 0) < 300) (hu : u1 = (stI u 0 ((u.1 0) + 1))) (hk : ¬ sXP_know u1 p1 = 0) (hy2 : y2 = (u1.2.1 15 p1.toNatClampNeg)) (hy3 : y3 = (u1.2.1 16 p1.toNatClampNeg)) (hy4 : y4 = (u1.2.1 17 p1.toNatClampNeg)) (e : (u1.2.1 14 p1.toNatClampNeg) = nI 13) (hp : vp_in p1 40) (hl : (okX_lookAtLength u1 p2 y2 y3) ∧ (True)) : okX_look lk oklk u p1 p2 := by
  unfold okX_look
  refine ⟨fun _ => ?_, fun c => absurd h300 c⟩
  rw [bnd_p, ← hu]
  refine ⟨fun c => absurd c hk, fun _ => ⟨hp, ?_⟩⟩
  rw [bnd_p]
  refine ⟨hp, ?_⟩
  rw [bnd_p]
  refine ⟨hp, ?_⟩
  rw [bnd_p]
  refine ⟨hp, ?_⟩
  rw [← hy2, ← hy3, ← hy4, e]
  refine ⟨fun c => absurd c (by decide), fun _ => ?_⟩
  refine ⟨fun c => absurd c (by decide), fun _ => ?_⟩
  refine ⟨fun c => absurd c (by decide), fun _ => ?_⟩
  refine ⟨fun c => absurd c (by decide), fun _ => ?_⟩
  refine ⟨fun c => absurd c (by decide), fun _ => ?_⟩
  refine ⟨fun c => absurd c (by decide), fun _ => ?_⟩
  refine ⟨fun c => absurd c (by decide), fun _ => ?_⟩
  refine ⟨fun c => absurd c (by decide), fun _ => ?_⟩
  refine ⟨fun c => absurd c (by decide), fun _ => ?_⟩
  refine ⟨fun c => absurd c (by decide), fun _ => ?_⟩
  refine ⟨fun c => absurd c (by decide), fun _ => ?_⟩
  refine ⟨fun c => absurd c (by decide), fun _ => ?_⟩
  refine ⟨fun c => absurd c (by decide), fun _ => ?_⟩
  exact ⟨fun _ => hl, fun c => absurd (by decide) c⟩
theorem bgM_0 (u : St) (p1 p2 y1 y2 y3 : Int32) (hy1 : y1 = (u.2.1 7 p1.toNatClampNeg)) (hy2 : y2 = (u.2.1 8 p1.toNatClampNeg)) (hy3 : y3 = (u.2.1 9 p1.toNatClampNeg)) (e : (u.2.1 6 p1.toNatClampNeg) = nI 0) : sM_begins u p1 p2 = (bnd (sM_ends u (sM_isA u p2 y1)) (fun u4 =>
    u4)) := by
  unfold sM_begins
  rw [bnd_d, bnd_d, bnd_d, ← hy1, ← hy2, ← hy3, e, if_pos (by decide)]
theorem okbM_0 (u : St) (p1 p2 y1 y2 y3 : Int32) (hy1 : y1 = (u.2.1 7 p1.toNatClampNeg)) (hy2 : y2 = (u.2.1 8 p1.toNatClampNeg)) (hy3 : y3 = (u.2.1 9 p1.toNatClampNeg)) (e : (u.2.1 6 p1.toNatClampNeg) = nI 0) (hp : vp_in p1 40) (hl : (okM_isA u p2 y1) ∧ ((okM_ends u (sM_isA u p2 y1)) ∧ (True))) : okM_begins u p1 p2 := by
  unfold okM_begins
  refine ⟨hp, ?_⟩
  rw [bnd_p]
  refine ⟨hp, ?_⟩
  rw [bnd_p]
  refine ⟨hp, ?_⟩
  rw [bnd_p]
  refine ⟨hp, ?_⟩
  rw [← hy1, ← hy2, ← hy3, e]
  exact ⟨fun _ => hl, fun c => absurd (by decide) c⟩
theorem bgM_1 (u : St) (p1 p2 y1 y2 y3 : Int32) (hy1 : y1 = (u.2.1 7 p1.toNatClampNeg)) (hy2 : y2 = (u.2.1 8 p1.toNatClampNeg)) (hy3 : y3 = (u.2.1 9 p1.toNatClampNeg)) (e : (u.2.1 6 p1.toNatClampNeg) = nI 1) : sM_begins u p1 p2 = (if (sM_passes u p2 y1) = 0 then
      bnd (stI u 6 (-21)) (fun u6 =>
      u6)
    else
      bnd (sM_asks u y2 p2 9) (fun u5 =>
      u5)) := by
  unfold sM_begins
  rw [bnd_d, bnd_d, bnd_d, ← hy1, ← hy2, ← hy3, e, if_neg (by decide), if_pos (by decide)]
theorem okbM_1 (u : St) (p1 p2 y1 y2 y3 : Int32) (hy1 : y1 = (u.2.1 7 p1.toNatClampNeg)) (hy2 : y2 = (u.2.1 8 p1.toNatClampNeg)) (hy3 : y3 = (u.2.1 9 p1.toNatClampNeg)) (e : (u.2.1 6 p1.toNatClampNeg) = nI 1) (hp : vp_in p1 40) (hl : (okM_passes u p2 y1) ∧ ((((sM_passes u p2 y1) = 0) → True) ∧ (¬ ((sM_passes u p2 y1) = 0) → (okM_asks u y2 p2 9) ∧ (True)))) : okM_begins u p1 p2 := by
  unfold okM_begins
  refine ⟨hp, ?_⟩
  rw [bnd_p]
  refine ⟨hp, ?_⟩
  rw [bnd_p]
  refine ⟨hp, ?_⟩
  rw [bnd_p]
  refine ⟨hp, ?_⟩
  rw [← hy1, ← hy2, ← hy3, e]
  refine ⟨fun c => absurd c (by decide), fun _ => ?_⟩
  exact ⟨fun _ => hl, fun c => absurd (by decide) c⟩
theorem bgM_2 (u : St) (p1 p2 y1 y2 y3 : Int32) (hy1 : y1 = (u.2.1 7 p1.toNatClampNeg)) (hy2 : y2 = (u.2.1 8 p1.toNatClampNeg)) (hy3 : y3 = (u.2.1 9 p1.toNatClampNeg)) (e : (u.2.1 6 p1.toNatClampNeg) = nI 2) : sM_begins u p1 p2 = (if 0 ≤ p2 then
      bnd (sM_ends u 0) (fun u7 =>
      u7)
    else
      bnd (sM_ends u 1) (fun u8 =>
      u8)) := by
  unfold sM_begins
  rw [bnd_d, bnd_d, bnd_d, ← hy1, ← hy2, ← hy3, e, if_neg (by decide), if_neg (by decide), if_pos (by decide)]
theorem okbM_2 (u : St) (p1 p2 y1 y2 y3 : Int32) (hy1 : y1 = (u.2.1 7 p1.toNatClampNeg)) (hy2 : y2 = (u.2.1 8 p1.toNatClampNeg)) (hy3 : y3 = (u.2.1 9 p1.toNatClampNeg)) (e : (u.2.1 6 p1.toNatClampNeg) = nI 2) (hp : vp_in p1 40) (hl : ((0 ≤ p2) → (okM_ends u 0) ∧ (True)) ∧ (¬ (0 ≤ p2) → (okM_ends u 1) ∧ (True))) : okM_begins u p1 p2 := by
  unfold okM_begins
  refine ⟨hp, ?_⟩
  rw [bnd_p]
  refine ⟨hp, ?_⟩
  rw [bnd_p]
  refine ⟨hp, ?_⟩
  rw [bnd_p]
  refine ⟨hp, ?_⟩
  rw [← hy1, ← hy2, ← hy3, e]
  refine ⟨fun c => absurd c (by decide), fun _ => ?_⟩
  refine ⟨fun c => absurd c (by decide), fun _ => ?_⟩
  exact ⟨fun _ => hl, fun c => absurd (by decide) c⟩
theorem bgM_3 (u : St) (p1 p2 y1 y2 y3 : Int32) (hy1 : y1 = (u.2.1 7 p1.toNatClampNeg)) (hy2 : y2 = (u.2.1 8 p1.toNatClampNeg)) (hy3 : y3 = (u.2.1 9 p1.toNatClampNeg)) (e : (u.2.1 6 p1.toNatClampNeg) = nI 3) : sM_begins u p1 p2 = (if (sM_isA u p2 2) = 0 then
      bnd (sM_ends u 0) (fun u9 =>
      u9)
    else
      bnd (sM_asks u y1 (u.2.1 5 (6 * p2).toNatClampNeg) 1) (fun u10 =>
      u10)) := by
  unfold sM_begins
  rw [bnd_d, bnd_d, bnd_d, ← hy1, ← hy2, ← hy3, e, if_neg (by decide), if_neg (by decide), if_neg (by decide), if_pos (by decide)]
theorem okbM_3 (u : St) (p1 p2 y1 y2 y3 : Int32) (hy1 : y1 = (u.2.1 7 p1.toNatClampNeg)) (hy2 : y2 = (u.2.1 8 p1.toNatClampNeg)) (hy3 : y3 = (u.2.1 9 p1.toNatClampNeg)) (e : (u.2.1 6 p1.toNatClampNeg) = nI 3) (hp : vp_in p1 40) (hl : (okM_isA u p2 2) ∧ ((((sM_isA u p2 2) = 0) → (okM_ends u 0) ∧ (True)) ∧ (¬ ((sM_isA u p2 2) = 0) → (vp_in (6 * p2) 480) ∧ ((okM_asks u y1 (u.2.1 5 (6 * p2).toNatClampNeg) 1) ∧ (True))))) : okM_begins u p1 p2 := by
  unfold okM_begins
  refine ⟨hp, ?_⟩
  rw [bnd_p]
  refine ⟨hp, ?_⟩
  rw [bnd_p]
  refine ⟨hp, ?_⟩
  rw [bnd_p]
  refine ⟨hp, ?_⟩
  rw [← hy1, ← hy2, ← hy3, e]
  refine ⟨fun c => absurd c (by decide), fun _ => ?_⟩
  refine ⟨fun c => absurd c (by decide), fun _ => ?_⟩
  refine ⟨fun c => absurd c (by decide), fun _ => ?_⟩
  exact ⟨fun _ => hl, fun c => absurd (by decide) c⟩
theorem bgM_4 (u : St) (p1 p2 y1 y2 y3 : Int32) (hy1 : y1 = (u.2.1 7 p1.toNatClampNeg)) (hy2 : y2 = (u.2.1 8 p1.toNatClampNeg)) (hy3 : y3 = (u.2.1 9 p1.toNatClampNeg)) (e : (u.2.1 6 p1.toNatClampNeg) = nI 4) : sM_begins u p1 p2 = (if (sM_isA u p2 y1) = 0 then
      bnd (sM_ends u 0) (fun u11 =>
      u11)
    else
      bnd (sM_each u p1 p2 0) (fun u12 =>
      u12)) := by
  unfold sM_begins
  rw [bnd_d, bnd_d, bnd_d, ← hy1, ← hy2, ← hy3, e, if_neg (by decide), if_neg (by decide), if_neg (by decide), if_neg (by decide), if_pos (by decide)]
theorem okbM_4 (u : St) (p1 p2 y1 y2 y3 : Int32) (hy1 : y1 = (u.2.1 7 p1.toNatClampNeg)) (hy2 : y2 = (u.2.1 8 p1.toNatClampNeg)) (hy3 : y3 = (u.2.1 9 p1.toNatClampNeg)) (e : (u.2.1 6 p1.toNatClampNeg) = nI 4) (hp : vp_in p1 40) (hl : (okM_isA u p2 y1) ∧ ((((sM_isA u p2 y1) = 0) → (okM_ends u 0) ∧ (True)) ∧ (¬ ((sM_isA u p2 y1) = 0) → (okM_each u p1 p2 0) ∧ (True)))) : okM_begins u p1 p2 := by
  unfold okM_begins
  refine ⟨hp, ?_⟩
  rw [bnd_p]
  refine ⟨hp, ?_⟩
  rw [bnd_p]
  refine ⟨hp, ?_⟩
  rw [bnd_p]
  refine ⟨hp, ?_⟩
  rw [← hy1, ← hy2, ← hy3, e]
  refine ⟨fun c => absurd c (by decide), fun _ => ?_⟩
  refine ⟨fun c => absurd c (by decide), fun _ => ?_⟩
  refine ⟨fun c => absurd c (by decide), fun _ => ?_⟩
  refine ⟨fun c => absurd c (by decide), fun _ => ?_⟩
  exact ⟨fun _ => hl, fun c => absurd (by decide) c⟩
theorem bgM_5 (u : St) (p1 p2 y1 y2 y3 : Int32) (hy1 : y1 = (u.2.1 7 p1.toNatClampNeg)) (hy2 : y2 = (u.2.1 8 p1.toNatClampNeg)) (hy3 : y3 = (u.2.1 9 p1.toNatClampNeg)) (e : (u.2.1 6 p1.toNatClampNeg) = nI 5) : sM_begins u p1 p2 = (bnd (stI u 6 (sM_taken u p2 y1 y2)) (fun u13 =>
    if (u13.1 6) = 0 then
      bnd (sM_asks u13 y3 (u13.2.1 5 ((6 * p2) + y2).toNatClampNeg) 9) (fun u14 =>
      u14)
    else
      u13)) := by
  unfold sM_begins
  rw [bnd_d, bnd_d, bnd_d, ← hy1, ← hy2, ← hy3, e, if_neg (by decide), if_neg (by decide), if_neg (by decide), if_neg (by decide), if_neg (by decide), if_pos (by decide)]
theorem okbM_5 (u : St) (p1 p2 y1 y2 y3 : Int32) (hy1 : y1 = (u.2.1 7 p1.toNatClampNeg)) (hy2 : y2 = (u.2.1 8 p1.toNatClampNeg)) (hy3 : y3 = (u.2.1 9 p1.toNatClampNeg)) (e : (u.2.1 6 p1.toNatClampNeg) = nI 5) (hp : vp_in p1 40) (hl : (okM_taken u p2 y1 y2) ∧ (bnd (stI u 6 (sM_taken u p2 y1 y2)) (fun u13 => (((u13.1 6) = 0) → (vp_in ((6 * p2) + y2) 480) ∧ ((okM_asks u13 y3 (u13.2.1 5 ((6 * p2) + y2).toNatClampNeg) 9) ∧ (True))) ∧ (¬ ((u13.1 6) = 0) → True)))) : okM_begins u p1 p2 := by
  unfold okM_begins
  refine ⟨hp, ?_⟩
  rw [bnd_p]
  refine ⟨hp, ?_⟩
  rw [bnd_p]
  refine ⟨hp, ?_⟩
  rw [bnd_p]
  refine ⟨hp, ?_⟩
  rw [← hy1, ← hy2, ← hy3, e]
  refine ⟨fun c => absurd c (by decide), fun _ => ?_⟩
  refine ⟨fun c => absurd c (by decide), fun _ => ?_⟩
  refine ⟨fun c => absurd c (by decide), fun _ => ?_⟩
  refine ⟨fun c => absurd c (by decide), fun _ => ?_⟩
  refine ⟨fun c => absurd c (by decide), fun _ => ?_⟩
  exact ⟨fun _ => hl, fun c => absurd (by decide) c⟩
theorem bgM_6 (u : St) (p1 p2 y1 y2 y3 : Int32) (hy1 : y1 = (u.2.1 7 p1.toNatClampNeg)) (hy2 : y2 = (u.2.1 8 p1.toNatClampNeg)) (hy3 : y3 = (u.2.1 9 p1.toNatClampNeg)) (e : (u.2.1 6 p1.toNatClampNeg) = nI 6) : sM_begins u p1 p2 = (bnd (stI u 6 (sM_taken u p2 y1 y2)) (fun u15 =>
    if (u15.1 6) = 0 then
      if (lg_cmp (u15.2.2 ((6 * p2) + y2).toNatClampNeg) ((y3 : Int32).toInt64)) = 0 then
        bnd (sM_ends u15 1) (fun u17 =>
        u17)
      else
        bnd (sM_ends u15 0) (fun u16 =>
        u16)
    else
      u15)) := by
  unfold sM_begins
  rw [bnd_d, bnd_d, bnd_d, ← hy1, ← hy2, ← hy3, e, if_neg (by decide), if_neg (by decide), if_neg (by decide), if_neg (by decide), if_neg (by decide), if_neg (by decide), if_pos (by decide)]
theorem okbM_6 (u : St) (p1 p2 y1 y2 y3 : Int32) (hy1 : y1 = (u.2.1 7 p1.toNatClampNeg)) (hy2 : y2 = (u.2.1 8 p1.toNatClampNeg)) (hy3 : y3 = (u.2.1 9 p1.toNatClampNeg)) (e : (u.2.1 6 p1.toNatClampNeg) = nI 6) (hp : vp_in p1 40) (hl : (okM_taken u p2 y1 y2) ∧ (bnd (stI u 6 (sM_taken u p2 y1 y2)) (fun u15 => (((u15.1 6) = 0) → (vp_in ((6 * p2) + y2) 480) ∧ ((((lg_cmp (u15.2.2 ((6 * p2) + y2).toNatClampNeg) ((y3 : Int32).toInt64)) = 0) → (okM_ends u15 1) ∧ (True)) ∧ (¬ ((lg_cmp (u15.2.2 ((6 * p2) + y2).toNatClampNeg) ((y3 : Int32).toInt64)) = 0) → (okM_ends u15 0) ∧ (True)))) ∧ (¬ ((u15.1 6) = 0) → True)))) : okM_begins u p1 p2 := by
  unfold okM_begins
  refine ⟨hp, ?_⟩
  rw [bnd_p]
  refine ⟨hp, ?_⟩
  rw [bnd_p]
  refine ⟨hp, ?_⟩
  rw [bnd_p]
  refine ⟨hp, ?_⟩
  rw [← hy1, ← hy2, ← hy3, e]
  refine ⟨fun c => absurd c (by decide), fun _ => ?_⟩
  refine ⟨fun c => absurd c (by decide), fun _ => ?_⟩
  refine ⟨fun c => absurd c (by decide), fun _ => ?_⟩
  refine ⟨fun c => absurd c (by decide), fun _ => ?_⟩
  refine ⟨fun c => absurd c (by decide), fun _ => ?_⟩
  refine ⟨fun c => absurd c (by decide), fun _ => ?_⟩
  exact ⟨fun _ => hl, fun c => absurd (by decide) c⟩
theorem bgM_7 (u : St) (p1 p2 y1 y2 y3 : Int32) (hy1 : y1 = (u.2.1 7 p1.toNatClampNeg)) (hy2 : y2 = (u.2.1 8 p1.toNatClampNeg)) (hy3 : y3 = (u.2.1 9 p1.toNatClampNeg)) (e : (u.2.1 6 p1.toNatClampNeg) = nI 7) : sM_begins u p1 p2 = (bnd (sM_asks u y1 p2 1) (fun u18 =>
    u18)) := by
  unfold sM_begins
  rw [bnd_d, bnd_d, bnd_d, ← hy1, ← hy2, ← hy3, e, if_neg (by decide), if_neg (by decide), if_neg (by decide), if_neg (by decide), if_neg (by decide), if_neg (by decide), if_neg (by decide), if_pos (by decide)]
theorem okbM_7 (u : St) (p1 p2 y1 y2 y3 : Int32) (hy1 : y1 = (u.2.1 7 p1.toNatClampNeg)) (hy2 : y2 = (u.2.1 8 p1.toNatClampNeg)) (hy3 : y3 = (u.2.1 9 p1.toNatClampNeg)) (e : (u.2.1 6 p1.toNatClampNeg) = nI 7) (hp : vp_in p1 40) (hl : (okM_asks u y1 p2 1) ∧ (True)) : okM_begins u p1 p2 := by
  unfold okM_begins
  refine ⟨hp, ?_⟩
  rw [bnd_p]
  refine ⟨hp, ?_⟩
  rw [bnd_p]
  refine ⟨hp, ?_⟩
  rw [bnd_p]
  refine ⟨hp, ?_⟩
  rw [← hy1, ← hy2, ← hy3, e]
  refine ⟨fun c => absurd c (by decide), fun _ => ?_⟩
  refine ⟨fun c => absurd c (by decide), fun _ => ?_⟩
  refine ⟨fun c => absurd c (by decide), fun _ => ?_⟩
  refine ⟨fun c => absurd c (by decide), fun _ => ?_⟩
  refine ⟨fun c => absurd c (by decide), fun _ => ?_⟩
  refine ⟨fun c => absurd c (by decide), fun _ => ?_⟩
  refine ⟨fun c => absurd c (by decide), fun _ => ?_⟩
  exact ⟨fun _ => hl, fun c => absurd (by decide) c⟩
theorem bgM_8 (u : St) (p1 p2 y1 y2 y3 : Int32) (hy1 : y1 = (u.2.1 7 p1.toNatClampNeg)) (hy2 : y2 = (u.2.1 8 p1.toNatClampNeg)) (hy3 : y3 = (u.2.1 9 p1.toNatClampNeg)) (e : (u.2.1 6 p1.toNatClampNeg) = nI 8) : sM_begins u p1 p2 = (bnd (sM_asks u y1 p2 1) (fun u19 =>
    u19)) := by
  unfold sM_begins
  rw [bnd_d, bnd_d, bnd_d, ← hy1, ← hy2, ← hy3, e, if_neg (by decide), if_neg (by decide), if_neg (by decide), if_neg (by decide), if_neg (by decide), if_neg (by decide), if_neg (by decide), if_neg (by decide), if_pos (by decide)]
theorem okbM_8 (u : St) (p1 p2 y1 y2 y3 : Int32) (hy1 : y1 = (u.2.1 7 p1.toNatClampNeg)) (hy2 : y2 = (u.2.1 8 p1.toNatClampNeg)) (hy3 : y3 = (u.2.1 9 p1.toNatClampNeg)) (e : (u.2.1 6 p1.toNatClampNeg) = nI 8) (hp : vp_in p1 40) (hl : (okM_asks u y1 p2 1) ∧ (True)) : okM_begins u p1 p2 := by
  unfold okM_begins
  refine ⟨hp, ?_⟩
  rw [bnd_p]
  refine ⟨hp, ?_⟩
  rw [bnd_p]
  refine ⟨hp, ?_⟩
  rw [bnd_p]
  refine ⟨hp, ?_⟩
  rw [← hy1, ← hy2, ← hy3, e]
  refine ⟨fun c => absurd c (by decide), fun _ => ?_⟩
  refine ⟨fun c => absurd c (by decide), fun _ => ?_⟩
  refine ⟨fun c => absurd c (by decide), fun _ => ?_⟩
  refine ⟨fun c => absurd c (by decide), fun _ => ?_⟩
  refine ⟨fun c => absurd c (by decide), fun _ => ?_⟩
  refine ⟨fun c => absurd c (by decide), fun _ => ?_⟩
  refine ⟨fun c => absurd c (by decide), fun _ => ?_⟩
  refine ⟨fun c => absurd c (by decide), fun _ => ?_⟩
  exact ⟨fun _ => hl, fun c => absurd (by decide) c⟩
theorem bgM_9 (u : St) (p1 p2 y1 y2 y3 : Int32) (hy1 : y1 = (u.2.1 7 p1.toNatClampNeg)) (hy2 : y2 = (u.2.1 8 p1.toNatClampNeg)) (hy3 : y3 = (u.2.1 9 p1.toNatClampNeg)) (e : (u.2.1 6 p1.toNatClampNeg) = nI 9) : sM_begins u p1 p2 = (bnd (sM_asks u y1 p2 8) (fun u20 =>
    u20)) := by
  unfold sM_begins
  rw [bnd_d, bnd_d, bnd_d, ← hy1, ← hy2, ← hy3, e, if_neg (by decide), if_neg (by decide), if_neg (by decide), if_neg (by decide), if_neg (by decide), if_neg (by decide), if_neg (by decide), if_neg (by decide), if_neg (by decide), if_pos (by decide)]
theorem okbM_9 (u : St) (p1 p2 y1 y2 y3 : Int32) (hy1 : y1 = (u.2.1 7 p1.toNatClampNeg)) (hy2 : y2 = (u.2.1 8 p1.toNatClampNeg)) (hy3 : y3 = (u.2.1 9 p1.toNatClampNeg)) (e : (u.2.1 6 p1.toNatClampNeg) = nI 9) (hp : vp_in p1 40) (hl : (okM_asks u y1 p2 8) ∧ (True)) : okM_begins u p1 p2 := by
  unfold okM_begins
  refine ⟨hp, ?_⟩
  rw [bnd_p]
  refine ⟨hp, ?_⟩
  rw [bnd_p]
  refine ⟨hp, ?_⟩
  rw [bnd_p]
  refine ⟨hp, ?_⟩
  rw [← hy1, ← hy2, ← hy3, e]
  refine ⟨fun c => absurd c (by decide), fun _ => ?_⟩
  refine ⟨fun c => absurd c (by decide), fun _ => ?_⟩
  refine ⟨fun c => absurd c (by decide), fun _ => ?_⟩
  refine ⟨fun c => absurd c (by decide), fun _ => ?_⟩
  refine ⟨fun c => absurd c (by decide), fun _ => ?_⟩
  refine ⟨fun c => absurd c (by decide), fun _ => ?_⟩
  refine ⟨fun c => absurd c (by decide), fun _ => ?_⟩
  refine ⟨fun c => absurd c (by decide), fun _ => ?_⟩
  refine ⟨fun c => absurd c (by decide), fun _ => ?_⟩
  exact ⟨fun _ => hl, fun c => absurd (by decide) c⟩
theorem bgM_10 (u : St) (p1 p2 y1 y2 y3 : Int32) (hy1 : y1 = (u.2.1 7 p1.toNatClampNeg)) (hy2 : y2 = (u.2.1 8 p1.toNatClampNeg)) (hy3 : y3 = (u.2.1 9 p1.toNatClampNeg)) (e : (u.2.1 6 p1.toNatClampNeg) = nI 10) : sM_begins u p1 p2 = ((sM_plain u p1 p2 y1 y2)) := by
  unfold sM_begins
  rw [bnd_d, bnd_d, bnd_d, ← hy1, ← hy2, ← hy3, e, if_neg (by decide), if_neg (by decide), if_neg (by decide), if_neg (by decide), if_neg (by decide), if_neg (by decide), if_neg (by decide), if_neg (by decide), if_neg (by decide), if_neg (by decide)]
theorem okbM_10 (u : St) (p1 p2 y1 y2 y3 : Int32) (hy1 : y1 = (u.2.1 7 p1.toNatClampNeg)) (hy2 : y2 = (u.2.1 8 p1.toNatClampNeg)) (hy3 : y3 = (u.2.1 9 p1.toNatClampNeg)) (e : (u.2.1 6 p1.toNatClampNeg) = nI 10) (hp : vp_in p1 40) (hl : (okM_plain u p1 p2 y1 y2) ∧ (True)) : okM_begins u p1 p2 := by
  unfold okM_begins
  refine ⟨hp, ?_⟩
  rw [bnd_p]
  refine ⟨hp, ?_⟩
  rw [bnd_p]
  refine ⟨hp, ?_⟩
  rw [bnd_p]
  refine ⟨hp, ?_⟩
  rw [← hy1, ← hy2, ← hy3, e]
  refine ⟨fun c => absurd c (by decide), fun _ => ?_⟩
  refine ⟨fun c => absurd c (by decide), fun _ => ?_⟩
  refine ⟨fun c => absurd c (by decide), fun _ => ?_⟩
  refine ⟨fun c => absurd c (by decide), fun _ => ?_⟩
  refine ⟨fun c => absurd c (by decide), fun _ => ?_⟩
  refine ⟨fun c => absurd c (by decide), fun _ => ?_⟩
  refine ⟨fun c => absurd c (by decide), fun _ => ?_⟩
  refine ⟨fun c => absurd c (by decide), fun _ => ?_⟩
  refine ⟨fun c => absurd c (by decide), fun _ => ?_⟩
  refine ⟨fun c => absurd c (by decide), fun _ => ?_⟩
  exact hl
theorem bgM_11 (u : St) (p1 p2 y1 y2 y3 : Int32) (hy1 : y1 = (u.2.1 7 p1.toNatClampNeg)) (hy2 : y2 = (u.2.1 8 p1.toNatClampNeg)) (hy3 : y3 = (u.2.1 9 p1.toNatClampNeg)) (e : (u.2.1 6 p1.toNatClampNeg) = nI 11) : sM_begins u p1 p2 = ((sM_plain u p1 p2 y1 y2)) := by
  unfold sM_begins
  rw [bnd_d, bnd_d, bnd_d, ← hy1, ← hy2, ← hy3, e, if_neg (by decide), if_neg (by decide), if_neg (by decide), if_neg (by decide), if_neg (by decide), if_neg (by decide), if_neg (by decide), if_neg (by decide), if_neg (by decide), if_neg (by decide)]
theorem okbM_11 (u : St) (p1 p2 y1 y2 y3 : Int32) (hy1 : y1 = (u.2.1 7 p1.toNatClampNeg)) (hy2 : y2 = (u.2.1 8 p1.toNatClampNeg)) (hy3 : y3 = (u.2.1 9 p1.toNatClampNeg)) (e : (u.2.1 6 p1.toNatClampNeg) = nI 11) (hp : vp_in p1 40) (hl : (okM_plain u p1 p2 y1 y2) ∧ (True)) : okM_begins u p1 p2 := by
  unfold okM_begins
  refine ⟨hp, ?_⟩
  rw [bnd_p]
  refine ⟨hp, ?_⟩
  rw [bnd_p]
  refine ⟨hp, ?_⟩
  rw [bnd_p]
  refine ⟨hp, ?_⟩
  rw [← hy1, ← hy2, ← hy3, e]
  refine ⟨fun c => absurd c (by decide), fun _ => ?_⟩
  refine ⟨fun c => absurd c (by decide), fun _ => ?_⟩
  refine ⟨fun c => absurd c (by decide), fun _ => ?_⟩
  refine ⟨fun c => absurd c (by decide), fun _ => ?_⟩
  refine ⟨fun c => absurd c (by decide), fun _ => ?_⟩
  refine ⟨fun c => absurd c (by decide), fun _ => ?_⟩
  refine ⟨fun c => absurd c (by decide), fun _ => ?_⟩
  refine ⟨fun c => absurd c (by decide), fun _ => ?_⟩
  refine ⟨fun c => absurd c (by decide), fun _ => ?_⟩
  refine ⟨fun c => absurd c (by decide), fun _ => ?_⟩
  exact hl
theorem bgM_12 (u : St) (p1 p2 y1 y2 y3 : Int32) (hy1 : y1 = (u.2.1 7 p1.toNatClampNeg)) (hy2 : y2 = (u.2.1 8 p1.toNatClampNeg)) (hy3 : y3 = (u.2.1 9 p1.toNatClampNeg)) (e : (u.2.1 6 p1.toNatClampNeg) = nI 12) : sM_begins u p1 p2 = ((sM_plain u p1 p2 y1 y2)) := by
  unfold sM_begins
  rw [bnd_d, bnd_d, bnd_d, ← hy1, ← hy2, ← hy3, e, if_neg (by decide), if_neg (by decide), if_neg (by decide), if_neg (by decide), if_neg (by decide), if_neg (by decide), if_neg (by decide), if_neg (by decide), if_neg (by decide), if_neg (by decide)]
theorem okbM_12 (u : St) (p1 p2 y1 y2 y3 : Int32) (hy1 : y1 = (u.2.1 7 p1.toNatClampNeg)) (hy2 : y2 = (u.2.1 8 p1.toNatClampNeg)) (hy3 : y3 = (u.2.1 9 p1.toNatClampNeg)) (e : (u.2.1 6 p1.toNatClampNeg) = nI 12) (hp : vp_in p1 40) (hl : (okM_plain u p1 p2 y1 y2) ∧ (True)) : okM_begins u p1 p2 := by
  unfold okM_begins
  refine ⟨hp, ?_⟩
  rw [bnd_p]
  refine ⟨hp, ?_⟩
  rw [bnd_p]
  refine ⟨hp, ?_⟩
  rw [bnd_p]
  refine ⟨hp, ?_⟩
  rw [← hy1, ← hy2, ← hy3, e]
  refine ⟨fun c => absurd c (by decide), fun _ => ?_⟩
  refine ⟨fun c => absurd c (by decide), fun _ => ?_⟩
  refine ⟨fun c => absurd c (by decide), fun _ => ?_⟩
  refine ⟨fun c => absurd c (by decide), fun _ => ?_⟩
  refine ⟨fun c => absurd c (by decide), fun _ => ?_⟩
  refine ⟨fun c => absurd c (by decide), fun _ => ?_⟩
  refine ⟨fun c => absurd c (by decide), fun _ => ?_⟩
  refine ⟨fun c => absurd c (by decide), fun _ => ?_⟩
  refine ⟨fun c => absurd c (by decide), fun _ => ?_⟩
  refine ⟨fun c => absurd c (by decide), fun _ => ?_⟩
  exact hl
theorem bgM_13 (u : St) (p1 p2 y1 y2 y3 : Int32) (hy1 : y1 = (u.2.1 7 p1.toNatClampNeg)) (hy2 : y2 = (u.2.1 8 p1.toNatClampNeg)) (hy3 : y3 = (u.2.1 9 p1.toNatClampNeg)) (e : (u.2.1 6 p1.toNatClampNeg) = nI 13) : sM_begins u p1 p2 = ((sM_plain u p1 p2 y1 y2)) := by
  unfold sM_begins
  rw [bnd_d, bnd_d, bnd_d, ← hy1, ← hy2, ← hy3, e, if_neg (by decide), if_neg (by decide), if_neg (by decide), if_neg (by decide), if_neg (by decide), if_neg (by decide), if_neg (by decide), if_neg (by decide), if_neg (by decide), if_neg (by decide)]
theorem okbM_13 (u : St) (p1 p2 y1 y2 y3 : Int32) (hy1 : y1 = (u.2.1 7 p1.toNatClampNeg)) (hy2 : y2 = (u.2.1 8 p1.toNatClampNeg)) (hy3 : y3 = (u.2.1 9 p1.toNatClampNeg)) (e : (u.2.1 6 p1.toNatClampNeg) = nI 13) (hp : vp_in p1 40) (hl : (okM_plain u p1 p2 y1 y2) ∧ (True)) : okM_begins u p1 p2 := by
  unfold okM_begins
  refine ⟨hp, ?_⟩
  rw [bnd_p]
  refine ⟨hp, ?_⟩
  rw [bnd_p]
  refine ⟨hp, ?_⟩
  rw [bnd_p]
  refine ⟨hp, ?_⟩
  rw [← hy1, ← hy2, ← hy3, e]
  refine ⟨fun c => absurd c (by decide), fun _ => ?_⟩
  refine ⟨fun c => absurd c (by decide), fun _ => ?_⟩
  refine ⟨fun c => absurd c (by decide), fun _ => ?_⟩
  refine ⟨fun c => absurd c (by decide), fun _ => ?_⟩
  refine ⟨fun c => absurd c (by decide), fun _ => ?_⟩
  refine ⟨fun c => absurd c (by decide), fun _ => ?_⟩
  refine ⟨fun c => absurd c (by decide), fun _ => ?_⟩
  refine ⟨fun c => absurd c (by decide), fun _ => ?_⟩
  refine ⟨fun c => absurd c (by decide), fun _ => ?_⟩
  refine ⟨fun c => absurd c (by decide), fun _ => ?_⟩
  exact hl
