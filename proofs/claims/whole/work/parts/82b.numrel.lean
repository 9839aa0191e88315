section NumRel
variable {T P R : Nat} {u v : St}
theorem a_number (h : Rel T P R u v) (t k i : Int32) : okN u t k i ∧ okM_number v t k i ∧ ∃ (kx : Int32) (w y : Int64) (v' : St), nX u t k i = (kx, w) ∧ sM_number v t k i = (y, v') ∧ v'.1 0 = kx ∧ (kx = 0 → y = w) ∧ Rel T P R u v' := by
  have h1 := Rel_thr h 0
  have z0 : (stI v 0 0).1 0 = 0 := rfl
  have hT := h.1.1
  have hT1 := h1.1.2.1
  have hb := h.1.2.2.1
  unfold okN okM_number nX sM_number
  simp only [bnd_d, nk_in]
  generalize stI v 0 0 = v1 at h1 hT1 z0 ⊢
  rcases kn_cases t hb with ⟨j, hj, rfl⟩ | hn
  · have hv : vref T (nI j) := Or.inr ⟨j, hj, rfl⟩
    have hv80 : vp_in (nI j) 80 := vp_in_nI (by omega) (by decide)
    have c1 : (nI j).toNatClampNeg = j := pu_ci (by omega)
    have okx : ¬ sXT_know u (nI j) = 0 → okXT_reach u (nI j) k i ∧ okXT_numberIn u (nI j) i := fun _ => ⟨okreach hT hb hv _ _, oknum h hv _⟩
    have kn1 : ¬ sXT_know u (nI j) = 0 := by rw [knX1 hT hb hj]; decide
    have km1 : ¬ sM_isThing v1 (nI j) = 0 := by rw [knM1 hT1 hb hj]; decide
    refine ⟨okx, ?_⟩
    rw [if_neg kn1, if_neg km1]
    rcases in_cs k 4 6 4 6 (by decide) (by decide) (by decide) (by decide) with ⟨e, kk, hk, hk', rfl⟩ | ⟨e, -⟩
    · have ne : ¬ sM_in (nI kk) 4 6 = 0 := by rw [e]; decide
      rw [if_neg ne, if_neg ne]
      have n1 : ¬ (stI v1 0 1).1 0 = 0 := by show ¬ (1 : Int32) = 0; decide
      have n2 : ¬ (stI v1 0 2).1 0 = 0 := by show ¬ (2 : Int32) = 0; decide
      have n3 : (stI v1 0 0).1 0 = 0 := rfl
      rw [if_neg n1, if_neg n2, if_pos n3]
      rcases reach_cs h1 hv (k := kk) hk (by omega) i with ⟨g1, gp, j', m, f, n, hj', ej, hm, rfl, hf, hf2, q1, q2, q3, q4, q5, q6, q7⟩ | ⟨g1, gp, j', hj', ej, q7⟩ | ⟨g1, e5, -⟩ | ⟨g1, gp, -⟩
      · have ejj : j = j' := (nI_eq (by omega) (by omega)).mp ej
        subst ejj
        obtain ⟨-, -, y1, y2⟩ := heldX hT hb hj q6 q4 q5
        obtain ⟨f0, n0, a1, a2, a3, a4, a5, a6, a7, a8, a9⟩ := h1.2.1 j hj
        have ea : ¬ sM_isA v1 (nI j) (nI kk) = 0 := by rw [ofM (by omega) q2, q3]; decide
        have vi2 : vp_in (6 * nI j + nI m) 480 := by rw [pu_ix']; exact vp_in_nI (by omega) (by decide)
        have n7 : ¬ sM_in (nI m) 0 (v1.2.1 3 j - 1) = 0 := by rw [q7]; decide
        rw [g1, if_neg (by decide), if_neg (by decide), if_neg ea, c1, if_neg n7, y2]
        refine ⟨⟨fun q => absurd q km1, fun _ => ⟨fun q => absurd q ne, fun _ => ⟨okofM hb hv _, fun q => absurd q ea, fun _ => ⟨hv80, fun q => absurd q n7, fun _ => ⟨fun _ => ⟨vi2, trivial⟩, fun _ => trivial⟩⟩⟩⟩⟩, 0, _, _, _, rfl, rfl, rfl, fun _ => ?_, h1⟩
        rw [pu_ix', pu_ci (n := 6 * j + m) (by omega)]
        exact ((a9 m hm).2.1).symm
      · have ejj : j = j' := (nI_eq (by omega) (by omega)).mp ej
        subst ejj
        obtain ⟨f, n, hf, hn, e1, e2, -⟩ := h1.2.1 j hj
        have ea : ¬ sM_isA v1 (nI j) (nI kk) = 0 := by rw [ofM (by omega) e2, ← paM (v := v1) (by omega) e2, gp]; decide
        rw [g1, if_neg (by decide), if_pos rfl, if_neg ea, c1, if_pos q7]
        exact ⟨⟨fun q => absurd q km1, fun _ => ⟨fun q => absurd q ne, fun _ => ⟨okofM hb hv _, fun q => absurd q ea, fun _ => ⟨hv80, fun _ => ⟨fun q => absurd q n2, fun _ => trivial⟩, fun q => absurd q7 q⟩⟩⟩⟩, 2, _, _, _, rfl, rfl, rfl, fun q => absurd q (by decide), h1⟩
      · exact absurd e5 (nI_ne5 (by omega))
      · obtain ⟨f, n, hf, hn, e1, e2, -⟩ := h1.2.1 j hj
        have ea : sM_isA v1 (nI j) (nI kk) = 0 := by rw [ofM (by omega) e2, ← paM (v := v1) (by omega) e2]; exact gp
        rw [g1, if_pos rfl, if_pos ea]
        exact ⟨⟨fun q => absurd q km1, fun _ => ⟨fun q => absurd q ne, fun _ => ⟨okofM hb hv _, fun _ => ⟨fun q => absurd q n1, fun _ => trivial⟩, fun q => absurd ea q⟩⟩⟩, 1, _, _, _, rfl, rfl, rfl, fun q => absurd q (by decide), h1⟩
    · rw [if_pos e, if_pos e]
      exact ⟨⟨fun q => absurd q km1, fun _ => ⟨fun _ => trivial, fun q => absurd e q⟩⟩, 0, _, _, _, rfl, rfl, z0, fun _ => rfl, h1⟩
  · have kn0 := knX0 hT hn
    have km0 := knM0 hT1 hb hn
    rw [if_pos kn0, if_pos km0]
    exact ⟨fun q => absurd kn0 q, ⟨fun _ => trivial, fun q => absurd km0 q⟩, 0, _, _, _, rfl, rfl, z0, fun _ => rfl, h1⟩
end NumRel
