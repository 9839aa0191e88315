section More
variable {T P R : Nat} {u v : St}
theorem of2_f : ∀ f, f < 14 → sM_isOf (nI f) 2 = if f = 2 then 1 else 0 := by
  intro f hf
  have key : ∀ f : Fin 14, sM_isOf (nI f.val) 2 = if f.val = 2 then 1 else 0 := by decide +kernel
  exact key ⟨f, hf⟩
theorem e20 : (2 : Int32) = nI 2 := by decide
/-- setting a half -/
theorem a_setHalf (h : Rel T P R u v) {t o : Int32} (ht : vref T t) (ho : vref T o) {s : Nat} (hs : s < 2) : Act T P R u v (okXT_setHalf u t (nI s) o) (okM_halves v t (nI s) o) (sXT_setHalf u t (nI s) o) (sM_halves v t (nI s) o) := by
  have hT := h.1.1
  have hb := h.1.2.2.1
  have f0 := (fndM (k := 0) (by decide) v).1
  have f1 := (fndM (k := 1) (by decide) v).1
  unfold Act okXT_setHalf okM_halves sXT_setHalf sM_halves
  simp only [bnd_d, bnd_p, bnd2_d, bnd2_p, pe_n]
  rcases ht with rfl | ⟨j, hj, rfl⟩
  · have hv : vref T (-5) := Or.inl rfl
    have n1 : ¬ ((-22 : Int32) = 1) := by decide
    rw [takeX5, paM5]
    simp only [nle5, n1, n10, if_false, not_false_eq_true, false_imp_iff, implies_true, true_imp_iff, and_true, true_and]
    exact ⟨oktake hT hb hv _, ⟨okpaM hb hv _, f1⟩, Or.inr ⟨1, -22, by decide, rfl, rfl, rfl⟩⟩
  · have hv : vref T (nI j) := Or.inr ⟨j, hj, rfl⟩
    obtain ⟨f, n, hf, hn, e1, e2, e3, e4, e5, e6, e7⟩ := h.2.1 j hj
    rw [takeX (by omega), ofX hT hb hj hf e1, paM (by omega) e2, of2_f f hf]
    have l0 : (0 : Int32) ≤ nI j := le0 (by omega)
    have hv80 : vp_in (nI j) 80 := vp_in_nI (by omega) (by decide)
    have v2 : vp_in (6 * nI j + nI s) 480 := by rw [pu_ix']; exact vp_in_nI (by omega) (by decide)
    have c1 : (nI j).toNatClampNeg = j := pu_ci (by omega)
    by_cases hf2 : f = 2
    · have ef : u.2.1 7 j = 2 := by rw [e1, hf2]; decide
      have hk : (if (if f = 2 then (1 : Int32) else 0) = 0 then (-21 : Int32) else 1) = 1 := by rw [if_pos hf2]; decide
      rw [hk, if_pos hf2]
      rw [pu_ix', pu_ci (n := 6 * j + s) (by omega), c1]
      rcases (show s = 0 ∨ s = 1 by omega) with rfl | rfl
      · have z0 : nI 0 = 0 := nI_0
        rw [if_pos (rfl : (1 : Int32) = 1), if_pos z0]
        simp only [z0, l0, n10, if_false, if_true, not_false_eq_true, not_true_eq_false, false_imp_iff, implies_true, true_imp_iff, and_true, true_and]
        refine ⟨⟨oktake hT hb hv _, hv80⟩, ⟨okpaM hb hv _, by rw [← pu_ix']; exact v2⟩, Or.inl ⟨_, _, rfl, rfl, ?_⟩⟩
        exact Rel_left h hj ef ho
      · have z1 : ¬ nI 1 = 0 := by decide
        rw [if_pos (rfl : (1 : Int32) = 1), if_neg z1]
        simp only [z1, l0, n10, if_false, if_true, not_false_eq_true, not_true_eq_false, false_imp_iff, implies_true, true_imp_iff, and_true, true_and]
        refine ⟨⟨oktake hT hb hv _, hv80⟩, ⟨okpaM hb hv _, by rw [← pu_ix']; exact v2⟩, Or.inl ⟨_, _, rfl, rfl, ?_⟩⟩
        exact Rel_right h hj ef ho
    · have hk : (if (if f = 2 then (1 : Int32) else 0) = 0 then (-21 : Int32) else 1) = -21 := by rw [if_neg hf2]; decide
      have n1 : ¬ ((-21 : Int32) = 1) := by decide
      rw [hk, if_neg hf2]
      simp only [n1, t00, if_false, if_true, not_false_eq_true, not_true_eq_false, false_imp_iff, implies_true, true_imp_iff, and_true, true_and]
      exact ⟨oktake hT hb hv _, ⟨okpaM hb hv _, f0⟩, Or.inr ⟨0, -21, by decide, rfl, rfl, rfl⟩⟩
theorem a_half (h : Rel T P R u v) (t s o : Int32) : Agr (okX_half u t s o) (okM_half v t s o) (sX_half u t s o).1 (sM_half v t s o).1 (sX_half u t s o).2 (sM_half v t s o).2 := by
  have h1 := Rel_thr h 0
  have hT := h.1.1
  have hT1 := h1.1.2.1
  have hb := h.1.2.2.1
  unfold Agr okX_half okM_half sX_half sM_half
  simp only [bnd_d, bnd_p, bnd2_d, bnd2_p, sd_in, pe_n]
  generalize stI v 0 0 = v1 at h1 hT1 ⊢
  rcases kn_cases t hb with ⟨j, hj, rfl⟩ | hn
  · rw [knX1 hT hb hj, knM1 hT1 hb hj]
    rcases kno_eq (t := o) hT hT1 hb with ⟨e1, e2, ho⟩ | ⟨e1, e2⟩
    · rcases in_cs s 0 1 0 1 (by decide) (by decide) (by decide) (by decide) with ⟨e, kk, hk, hk', rfl⟩ | ⟨e, -⟩
      · obtain ⟨c1, c2, c3, c4, c5, -⟩ := Agr_act h1 (a_setHalf h1 (Or.inr ⟨j, hj, rfl⟩) ho (s := kk) (by omega))
        simp only [e, e1, e2, n10, if_false, not_false_eq_true, false_imp_iff, implies_true, true_imp_iff, and_true, true_and]
        exact ⟨⟨c1, c3⟩, c2, c4, c5⟩
      · simp only [e, e1, e2, n10, t00, if_true, if_false, not_true_eq_false, not_false_eq_true, false_imp_iff, implies_true, true_imp_iff, and_true, true_and]
        exact ⟨T, P, R, h1⟩
    · simp only [e1, e2, n10, t00, if_true, if_false, not_true_eq_false, not_false_eq_true, false_imp_iff, implies_true, true_imp_iff, and_true, true_and]
      exact ⟨T, P, R, h1⟩
  · rw [knX0 hT hn, knM0 hT1 hb hn]
    simp only [t00, if_true, not_true_eq_false, false_imp_iff, implies_true, and_true, true_and]
    exact ⟨T, P, R, h1⟩
theorem a_is (h : Rel T P R u v) (t k : Int32) : Agr (okX_is u t k) (okM_is v t k) (sX_is u t k) (sM_is v t k).1 u (sM_is v t k).2 := by
  have h1 := Rel_thr h 0
  have hT := h.1.1
  have hT1 := h1.1.2.1
  have hb := h.1.2.2.1
  unfold Agr okX_is okM_is sX_is sM_is
  simp only [bnd_d, bnd_p, bnd2_d, bnd2_p, wn_in, pe_n]
  generalize stI v 0 0 = v1 at h1 hT1 ⊢
  rcases kn_cases t hb with ⟨j, hj, rfl⟩ | hn
  · have hv : vref T (nI j) := Or.inr ⟨j, hj, rfl⟩
    rw [knX1 hT hb hj, knM1 hT1 hb hj, of_eq h1 hv]
    rcases bM_in k 0 15 with e | e
    · simp only [e, n10, t00, if_true, if_false, not_true_eq_false, not_false_eq_true, false_imp_iff, implies_true, true_imp_iff, and_true, true_and]
      exact ⟨T, P, R, h1⟩
    · rcases bM_isA v1 (nI j) k with e2 | e2
      · simp only [e, e2, n10, t00, if_true, if_false, not_true_eq_false, not_false_eq_true, false_imp_iff, implies_true, true_imp_iff, and_true, true_and]
        exact ⟨okofX hT hb hv _, okofM hb hv _, T, P, R, h1⟩
      · simp only [e, e2, n10, if_false, not_false_eq_true, false_imp_iff, implies_true, true_imp_iff, and_true, true_and]
        exact ⟨okofX hT hb hv _, okofM hb hv _, T, P, R, h1⟩
  · rw [knX0 hT hn, knM0 hT1 hb hn]
    simp only [t00, if_true, not_true_eq_false, false_imp_iff, implies_true, and_true, true_and]
    exact ⟨T, P, R, h1⟩
/-- the numbers kept: lowest 32, 64, 16 bits -/
theorem cut_eq (x : Int64) : ((((x.toInt32 : Int32).toUInt32 % 65536).toInt32 : Int32).toInt64) = x &&& 65535 := by
  rw [pk_char, nI_l (by omega)]
  have e : x.toInt32.toBitVec.toNat % 65536 = x.toBitVec.toNat % 65536 := by
    have : x.toInt32.toBitVec = x.toBitVec.signExtend 32 := rfl
    rw [this]
    simp [BitVec.signExtend_eq_setWidth_of_le]
  rw [e]
  apply Int64.toBitVec_inj.mp
  apply BitVec.eq_of_toNat_eq
  show (BitVec.ofNat 64 (x.toBitVec.toNat % 65536)).toNat = (x.toBitVec &&& (65535 : Int64).toBitVec).toNat
  rw [BitVec.toNat_and, show (65535 : Int64).toBitVec.toNat = 2 ^ 16 - 1 from rfl, Nat.and_two_pow_sub_one_eq_mod]
  simp
  omega
end More
