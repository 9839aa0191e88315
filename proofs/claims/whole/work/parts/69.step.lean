section Step
variable {T P R : Nat} {n k s p : Nat} {it : Int32} {u v : St}
def psh (v : St) (k : Nat) (p it x : Int32) : St := stI (stA (stA (stA (stI v 4 x) 19 k p) 20 k it) 21 k 0) 5 (nI (k + 1))
theorem look_psh (h6 : v.1 6 = 0) (h5 : v.1 5 = nI k) (hk : k < 63) (h4 : v.1 4 = nI s) (hs : s < 300) (p it : Int32) : sM_look v p it = psh v k p it (nI (s + 1)) ∧ okM_look v p it := by
  have ck : (nI k).toNatClampNeg = k := pu_ci (by omega)
  have n3 : ¬ nI s = 300 := by
    have : (300 : Int32) = nI 300 := by decide
    rw [this]; exact fun q => absurd ((nI_eq (by omega) (by omega)).mp q) (by omega)
  have vi : vp_in (nI k) 64 := vp_in_nI (by omega) (by decide)
  have f1 : (stI v 4 (nI (s + 1))).1 5 = nI k := h5
  have f2 : (stA (stI v 4 (nI (s + 1))) 19 k p).1 5 = nI k := h5
  have f3 : (stA (stA (stI v 4 (nI (s + 1))) 19 k p) 20 k it).1 5 = nI k := h5
  have f4 : (stA (stA (stA (stI v 4 (nI (s + 1))) 19 k p) 20 k it) 21 k 0).1 5 = nI k := h5
  constructor
  · unfold sM_look psh
    rw [if_pos h6, h4, if_neg n3, bnd_d, bnd_d, bnd_d, bnd_d, bnd_d, nI_1, f1, ck, f2, ck, f3, ck, f4, nI_1]
  · unfold okM_look
    rw [h4, nI_1]
    refine ⟨fun _ => ⟨fun q => absurd q n3, fun _ => ?_⟩, fun q => absurd h6 q⟩
    rw [bnd_p, f1, ck]
    refine ⟨vi, ?_⟩
    rw [bnd_p, f2, ck]
    refine ⟨vi, ?_⟩
    rw [bnd_p, f3]
    exact ⟨vi, trivial⟩
theorem Rel_psh (h : Rel T P R u v) (hs : s < 300) (p it : Int32) : Rel T P R (stI u 0 (nI (s + 1))) (psh v k p it (nI (s + 1))) := by
  obtain ⟨h1, h2, h3, h4, h5, h6, h7, h8⟩ := h
  exact ⟨h1, h2, h3, h4, h5, h6, rfl, s + 1, by omega, rfl⟩
theorem Top_psh (h6 : v.1 6 = 0) (p it x : Int32) : Top k p it 0 (psh v k p it x) ∧ Low k v (psh v k p it x) := by
  refine ⟨⟨rfl, h6, updS, updS, updS⟩, fun i hi => ⟨updN (by omega), updN (by omega), updN (by omega)⟩⟩
theorem step_fin {okx : Prop} {val : Int32 × St} (hs : s < 300) (hk : k < 63) (h6 : v.1 6 = 0) (hB : Bod T P R k (s + 1) (nI p) it okx val (stI u 0 (nI (s + 1))) (psh v k (nI p) it (nI (s + 1)))) (ex : sX_look (lookX n) u (nI p) it = val) (ok : okx → okX_look (lookX n) (oklookX n) u (nI p) it) (em : sM_look v (nI p) it = psh v k (nI p) it (nI (s + 1))) (om : okM_look v (nI p) it) : KeepX u (lookX (n + 1) u (nI p) it).2 ∧ oklookX (n + 1) u (nI p) it ∧ okM_look v (nI p) it ∧ Low k v (sM_look v (nI p) it) ∧ Res T P R k (2 * s + 2) (lookX (n + 1) u (nI p) it) (sM_look v (nI p) it) := by
  obtain ⟨b1, b2, b3, b4, b5⟩ := hB
  obtain ⟨t1, t2⟩ := Top_psh (k := k) h6 (nI p) it (nI (s + 1))
  rw [lookX_s, oklookX_s, ex, em]
  refine ⟨?_, ok b2, om, t2, R_begins (s := s + 1) hk t1 b3 b4 b5⟩
  refine KeepX.tr (b := stI u 0 (nI (s + 1))) ⟨fun _ _ => rfl, rfl, fun q hq => ?_⟩ b1
  exact if_neg hq
theorem look_step (hL : LookOK T P R n) : LookOK T P R (n + 1) := by
  intro u v p k s it h hv hp hpP hs hs' h6 h5 hk
  have hS := h.2.2.2.2.2.2.1
  have h4 : v.1 4 = nI s := by rw [← hS, hs]
  have hPb := h.1.2.2.2.2.2.1
  by_cases h300 : s = 300
  · subst h300
    have e300 : (300 : Int32) = nI 300 := by decide
    have nl : ¬ u.1 0 < 300 := by rw [hs, e300]; exact nI_nlt (by omega) (by decide)
    have ex : lookX (n + 1) u (nI p) it = (-26, u) := by
      rw [lookX_s]
      unfold sX_look
      rw [if_neg nl]
    have ok : oklookX (n + 1) u (nI p) it := by
      rw [oklookX_s]
      exact ⟨fun q => absurd q nl, fun _ => trivial⟩
    have em : sM_look v (nI p) it = stI v 6 (-26) := by
      unfold sM_look
      rw [if_pos h6, h4, if_pos e300.symm, bnd_d]
    have om : okM_look v (nI p) it := by
      unfold okM_look
      rw [h4]
      exact ⟨fun _ => ⟨fun _ => trivial, fun q => absurd e300.symm q⟩, fun _ => trivial⟩
    rw [ex, em]
    exact ⟨KeepX.rf, ok, om, Low.rf, 0, stI v 6 (-26), 300, rfl, h, Low.rf, hs, by omega, Or.inr ⟨5, by decide, rfl, rfl, by omega⟩⟩
  · have hlt : s < 300 := by omega
    obtain ⟨em, om⟩ := look_psh h6 h5 (by omega) h4 hlt (nI p) it
    have h1 := Rel_psh (k := k) h hlt (nI p) it
    obtain ⟨ht, -⟩ := Top_psh (k := k) h6 (nI p) it (nI (s + 1))
    have hl300 : u.1 0 < 300 := by
      have e300 : (300 : Int32) = nI 300 := by decide
      rw [hs, e300]; exact nI_lt hlt (by decide)
    have hu : stI u 0 (nI (s + 1)) = stI u 0 (u.1 0 + 1) := by rw [hs, nI_1]
    have fin := fun (okx : Prop) (val : Int32 × St) => @step_fin T P R n k s p it u v okx val hlt (by omega) h6
    have hs1 : (stI u 0 (nI (s + 1))).1 0 = nI (s + 1) := rfl
    have hp40 : vp_in (nI p) 40 := vp_in_nI (by omega) (by decide)
    have cp : (nI p).toNatClampNeg = p := pu_ci (by omega)
    have hkn : ¬ sXP_know (stI u 0 (nI (s + 1))) (nI p) = 0 := by
      rw [(knXP (by omega) h1.1.2.2.2.1).1 p hpP rfl]; decide
    generalize stI u 0 (nI (s + 1)) = u1 at h1 hu fin hs1 hkn
    generalize psh v k (nI p) it (nI (s + 1)) = v1 at em h1 ht fin
    obtain ⟨σ, hσ, a1, a2, a3, a4, a5, a6, a7, a8, a9, a10⟩ := h1.2.2.1 p hpP
    rw [a3] at a6 a9 a10
    rw [a4] at a7
    rw [a5] at a8
    have hy2 : v1.2.1 7 (nI p).toNatClampNeg = u1.2.1 15 (nI p).toNatClampNeg := by rw [cp]; exact a3.symm
    have hy3 : v1.2.1 8 (nI p).toNatClampNeg = u1.2.1 16 (nI p).toNatClampNeg := by rw [cp]; exact a4.symm
    have hy4 : v1.2.1 9 (nI p).toNatClampNeg = u1.2.1 17 (nI p).toNatClampNeg := by rw [cp]; exact a5.symm
    have C : Ctx T P R n k (s + 1) p it (v1.2.1 7 (nI p).toNatClampNeg) (v1.2.1 8 (nI p).toNatClampNeg) (v1.2.1 9 (nI p).toNatClampNeg) σ u1 v1 := by
      refine ⟨hL, h1, ht, hv, hs1, by omega, by omega, hpP, hk, rfl, rfl, rfl, by rw [cp]; exact a2, ?_, ?_, ?_, ?_, ?_, hp40⟩
      · rw [cp]; exact a6
      · rw [cp]; exact a7
      · rw [cp]; exact a8
      · rw [cp]; exact a9
      · rw [cp]; exact a10
    have a1 : u1.2.1 14 (nI p).toNatClampNeg = nI σ := by rw [cp]; exact a1
    rcases (show σ = 0 ∨ σ = 1 ∨ σ = 2 ∨ σ = 3 ∨ σ = 4 ∨ σ = 5 ∨ σ = 6 ∨ σ = 7 ∨ σ = 8 ∨ σ = 9 ∨ σ = 10 ∨ σ = 11 ∨ σ = 12 ∨ σ = 13 by omega) with rfl | rfl | rfl | rfl | rfl | rfl | rfl | rfl | rfl | rfl | rfl | rfl | rfl | rfl
    · exact fin _ _ (so_0 C) (lkX_0 _ u u1 (nI p) it _ _ _ hl300 hu hkn hy2 hy3 hy4 a1) (okX_0 _ _ u u1 (nI p) it _ _ _ hl300 hu hkn hy2 hy3 hy4 a1 hp40) em om
    · have ex := lkX_1 (lookX n) u u1 (nI p) it _ _ _ hl300 hu hkn hy2 hy3 hy4 a1
      rw [bnd2_d, pe_n] at ex
      exact fin _ _ (so_1 C) ex (okX_1 _ _ u u1 (nI p) it _ _ _ hl300 hu hkn hy2 hy3 hy4 a1 hp40) em om
    · exact fin _ _ (so_2 C) (lkX_2 _ u u1 (nI p) it _ _ _ hl300 hu hkn hy2 hy3 hy4 a1) (okX_2 _ _ u u1 (nI p) it _ _ _ hl300 hu hkn hy2 hy3 hy4 a1 hp40) em om
    · exact fin _ _ (so_3 C) (lkX_3 _ u u1 (nI p) it _ _ _ hl300 hu hkn hy2 hy3 hy4 a1) (okX_3 _ _ u u1 (nI p) it _ _ _ hl300 hu hkn hy2 hy3 hy4 a1 hp40) em om
    · exact fin _ _ (so_4 C) (lkX_4 _ u u1 (nI p) it _ _ _ hl300 hu hkn hy2 hy3 hy4 a1) (okX_4 _ _ u u1 (nI p) it _ _ _ hl300 hu hkn hy2 hy3 hy4 a1 hp40) em om
    · exact fin _ _ (so_5 C) (lkX_5 _ u u1 (nI p) it _ _ _ hl300 hu hkn hy2 hy3 hy4 a1) (okX_5 _ _ u u1 (nI p) it _ _ _ hl300 hu hkn hy2 hy3 hy4 a1 hp40) em om
    · exact fin _ _ (so_6 C) (lkX_6 _ u u1 (nI p) it _ _ _ hl300 hu hkn hy2 hy3 hy4 a1) (okX_6 _ _ u u1 (nI p) it _ _ _ hl300 hu hkn hy2 hy3 hy4 a1 hp40) em om
    · exact fin _ _ (so_7 C) (lkX_7 _ u u1 (nI p) it _ _ _ hl300 hu hkn hy2 hy3 hy4 a1) (okX_7 _ _ u u1 (nI p) it _ _ _ hl300 hu hkn hy2 hy3 hy4 a1 hp40) em om
    · exact fin _ _ (so_8 C) (lkX_8 _ u u1 (nI p) it _ _ _ hl300 hu hkn hy2 hy3 hy4 a1) (okX_8 _ _ u u1 (nI p) it _ _ _ hl300 hu hkn hy2 hy3 hy4 a1 hp40) em om
    · have ex := lkX_9 (lookX n) u u1 (nI p) it _ _ _ hl300 hu hkn hy2 hy3 hy4 a1
      rw [bnd2_d] at ex
      exact fin _ _ (so_9 C) ex (okX_9 _ _ u u1 (nI p) it _ _ _ hl300 hu hkn hy2 hy3 hy4 a1 hp40) em om
    · exact fin _ _ (so_10 C) (lkX_10 _ u u1 (nI p) it _ _ _ hl300 hu hkn hy2 hy3 hy4 a1) (okX_10 _ _ u u1 (nI p) it _ _ _ hl300 hu hkn hy2 hy3 hy4 a1 hp40) em om
    · exact fin _ _ (so_11 C) (lkX_11 _ u u1 (nI p) it _ _ _ hl300 hu hkn hy2 hy3 hy4 a1) (okX_11 _ _ u u1 (nI p) it _ _ _ hl300 hu hkn hy2 hy3 hy4 a1 hp40) em om
    · exact fin _ _ (so_12 C) (lkX_12 _ u u1 (nI p) it _ _ _ hl300 hu hkn hy2 hy3 hy4 a1) (okX_12 _ _ u u1 (nI p) it _ _ _ hl300 hu hkn hy2 hy3 hy4 a1 hp40) em om
    · exact fin _ _ (so_13 C) (lkX_13 _ u u1 (nI p) it _ _ _ hl300 hu hkn hy2 hy3 hy4 a1) (okX_13 _ _ u u1 (nI p) it _ _ _ hl300 hu hkn hy2 hy3 hy4 a1 hp40) em om
theorem look_all (T P R : Nat) : ∀ n, LookOK T P R n := by
  intro n
  induction n with
  | zero => intro u v p k s it h hv hp; exact absurd hp (by omega)
  | succ n ih => exact look_step ih
end Step
