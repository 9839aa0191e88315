section Sorts3
variable {T P R : Nat} {n k s p : Nat} {it a b c : Int32} {u v : St}
theorem d21 {v : St} : ¬ (stI v 6 (-21)).1 6 = 0 := by show ¬ (-21 : Int32) = 0; decide
theorem d22 {v : St} : ¬ (stI v 6 (-22)).1 6 = 0 := by show ¬ (-22 : Int32) = 0; decide
theorem z60 {v : St} : (stI v 6 0).1 6 = 0 := rfl
theorem so_12 (C : Ctx T P R n k s p it a b c 12 u v) : Bod T P R k s (nI p) it (okX_lookAtTold u it a ∧ True) (sX_lookAtTold u it a, u) u v := by
  obtain ⟨hL, h, ht, hv, hs, hs', hp, hpP, hk, ha, hb, hc, e, -, -, -, -, -, hp40⟩ := C
  have hT := h.1.1
  have hbd := h.1.2.2.1
  have ev := bgM_12 v (nI p) it a b c ha hb hc e
  have ob := okbM_12 v (nI p) it a b c ha hb hc e hp40
  unfold sX_lookAtTold okX_lookAtTold
  rw [bnd_d, bnd_d]
  unfold okM_plain at ob
  rw [e, bnd_d, bnd_d, bnd_d] at ob
  have epl : sM_plain v (nI p) it a b = if sM_passes v it 14 = 0 then stI v 6 (-21) else if 0 ≤ it then (if sM_tells (v.2.1 1 it.toNatClampNeg) (v.2.1 2 it.toNatClampNeg) = a then sM_ends (stI v 6 0) 1 else sM_ends (stI v 6 0) 0) else stI v 6 (-22) := by
    unfold sM_plain
    rw [e, if_neg (by decide), if_neg (by decide), if_pos (by decide), bnd_d, if_neg d21, bnd_d, if_pos z60, bnd_d, bnd_d, bnd_d, if_neg d22]
    rfl
  rw [epl] at ev
  have okb : ∀ (hh : okM_passes v it 14), (0 ≤ it → vp_in it 80) → okM_begins v (nI p) it := by
    intro hh h80
    refine ob ⟨⟨hp40, fun q => absurd q (by decide), fun _ => ⟨fun q => absurd q (by decide), fun _ => ⟨fun _ => ⟨hh, fun _ => ⟨fun q => absurd q d21, fun _ => trivial⟩, fun _ => ⟨fun l0 => ⟨fun _ => ⟨h80 l0, h80 l0, fun _ => ⟨⟨Or.inr rfl, trivial⟩, trivial⟩, fun _ => ⟨⟨Or.inl rfl, trivial⟩, trivial⟩⟩, fun _ => trivial⟩, fun _ => ⟨fun q => absurd q d22, fun _ => trivial⟩⟩⟩, fun q => absurd (by decide) q⟩⟩⟩, trivial⟩
  rcases hv with rfl | ⟨t, htT, rfl⟩
  · have hv : vref T (-5) := Or.inl rfl
    rw [paM5, if_neg (by decide), if_neg nle5] at ev
    rw [takeX5, if_neg (by decide)]
    exact ⟨KeepX.rf, ⟨⟨oktake hT hbd hv _, fun q => absurd q (by decide), fun _ => trivial⟩, trivial⟩, okb (okpaM hbd hv _) (fun q => absurd q nle5), by rw [ev]; exact Low.rf, by rw [ev]; exact R_find (f := 1) h hs hs' (by decide) rfl rfl⟩
  · have hv : vref T (nI t) := Or.inr ⟨t, htT, rfl⟩
    have hv80 : vp_in (nI t) 80 := vp_in_nI (by omega) (by decide)
    obtain ⟨f, nn, hf, hn, e1, e2, e3, e4, e5, e6, e7⟩ := h.2.1 t htT
    have ct : (nI t).toNatClampNeg = t := pu_ci (by omega)
    have l0 : (0 : Int32) ≤ nI t := le0 (by omega)
    rw [paM (by omega) e2, ct] at ev
    rw [takeX (by omega), ofX hT hbd htT hf e1]
    rcases bM_isOf (nI f) 14 with g | g
    · rw [g, if_pos rfl] at ev
      rw [g, if_pos rfl, if_neg (by decide)]
      exact ⟨KeepX.rf, ⟨⟨oktake hT hbd hv _, fun q => absurd q (by decide), fun _ => trivial⟩, trivial⟩, okb (okpaM hbd hv _) (fun _ => hv80), by rw [ev]; exact Low.rf, by rw [ev]; exact R_find (f := 0) h hs hs' (by decide) rfl rfl⟩
    · have htk : (if sM_isOf (nI f) 14 = 0 then (-21 : Int32) else 1) = 1 := by rw [g]; rfl
      rw [g, if_neg (by decide), if_pos l0] at ev
      rw [htk, if_pos rfl]
      have etl : sXT_tellingOf u (nI t) = sM_tells (v.2.1 1 t) (v.2.1 2 t) := by
        unfold sXT_tellingOf sM_tells
        rw [knX1 hT hbd htT, if_neg (by decide), ct, e1, e2, e3]
      have oktl : okXT_tellingOf u (nI t) := ⟨fun _ => trivial, fun _ => ⟨hv80, fun _ => ⟨hv80, trivial⟩, fun _ => ⟨hv80, trivial⟩⟩⟩
      have okx : (okXT_take u (nI t) 14 ∧ (((1 : Int32) = 1 → okXT_tellingOf u (nI t) ∧ True) ∧ (¬ (1 : Int32) = 1 → True))) ∧ True := ⟨⟨oktake hT hbd hv _, fun _ => ⟨oktl, trivial⟩, fun _ => trivial⟩, trivial⟩
      have h2 : Rel T P R u (stI v 6 0) := h
      rw [etl]
      by_cases hd : sM_tells (v.2.1 1 t) (v.2.1 2 t) = a
      · obtain ⟨p1, p2, p3⟩ := ends_ok (k := k) (r := 1) h2 hs hs' rfl ht.1 (Or.inr rfl)
        rw [if_pos hd] at ev
        rw [if_pos hd]
        exact ⟨KeepX.rf, okx, okb (okpaM hbd hv _) (fun _ => hv80), by rw [ev]; exact p3, by rw [ev]; exact p2⟩
      · obtain ⟨p1, p2, p3⟩ := ends_ok (k := k) (r := 0) h2 hs hs' rfl ht.1 (Or.inl rfl)
        rw [if_neg hd] at ev
        rw [if_neg hd]
        exact ⟨KeepX.rf, okx, okb (okpaM hbd hv _) (fun _ => hv80), by rw [ev]; exact p3, by rw [ev]; exact p2⟩
theorem so_13 (C : Ctx T P R n k s p it a b c 13 u v) : Bod T P R k s (nI p) it (okX_lookAtLength u it a b ∧ True) (sX_lookAtLength u it a b, u) u v := by
  obtain ⟨hL, h, ht, hv, hs, hs', hp, hpP, hk, ha, hb, hc, e, -, -, -, -, hka, hp40⟩ := C
  have hT := h.1.1
  have hbd := h.1.2.2.1
  obtain ⟨kk, k4, k13, eka⟩ := hka (Or.inr (Or.inr (Or.inr rfl)))
  have ev := bgM_13 v (nI p) it a b c ha hb hc e
  have ob := okbM_13 v (nI p) it a b c ha hb hc e hp40
  unfold sX_lookAtLength okX_lookAtLength
  rw [bnd_d, bnd_d]
  unfold okM_plain at ob
  rw [e] at ob
  have epl : sM_plain v (nI p) it a b = if sM_passes v it a = 0 then stI v 6 (-21) else if 0 ≤ it then (if v.2.1 3 it.toNatClampNeg = b then sM_ends (stI v 6 0) 1 else sM_ends (stI v 6 0) 0) else stI v 6 (-22) := by
    unfold sM_plain
    rw [e, if_neg (by decide), if_neg (by decide), if_neg (by decide), bnd_d, if_neg d21, bnd_d, if_pos z60, bnd_d, if_neg d22]
    rfl
  rw [epl] at ev
  have okb : ∀ (hh : okM_passes v it a), (0 ≤ it → vp_in it 80) → okM_begins v (nI p) it := by
    intro hh h80
    refine ob ⟨⟨hp40, fun q => absurd q (by decide), fun _ => ⟨fun q => absurd q (by decide), fun _ => ⟨fun q => absurd q (by decide), fun _ => ⟨hh, fun _ => ?_, fun _ => ⟨fun l0 => ?_, fun _ => ?_⟩⟩⟩⟩⟩, trivial⟩
    · rw [bnd_d]; exact ⟨fun q => absurd q d21, fun _ => trivial⟩
    · rw [bnd_d]; exact ⟨fun _ => ⟨h80 l0, fun _ => ⟨⟨Or.inr rfl, trivial⟩, trivial⟩, fun _ => ⟨⟨Or.inl rfl, trivial⟩, trivial⟩⟩, fun _ => trivial⟩
    · rw [bnd_d]; exact ⟨fun q => absurd q d22, fun _ => trivial⟩
  rcases hv with rfl | ⟨t, htT, rfl⟩
  · have hv : vref T (-5) := Or.inl rfl
    rw [paM5, if_neg (by decide), if_neg nle5] at ev
    rw [takeX5, if_neg (by decide)]
    exact ⟨KeepX.rf, ⟨⟨oktake hT hbd hv _, fun q => absurd q (by decide), fun _ => trivial⟩, trivial⟩, okb (okpaM hbd hv _) (fun q => absurd q nle5), by rw [ev]; exact Low.rf, by rw [ev]; exact R_find (f := 1) h hs hs' (by decide) rfl rfl⟩
  · have hv : vref T (nI t) := Or.inr ⟨t, htT, rfl⟩
    have hv80 : vp_in (nI t) 80 := vp_in_nI (by omega) (by decide)
    obtain ⟨f, nn, hf, hn, e1, e2, e3, e4, e5, e6, e7⟩ := h.2.1 t htT
    have ct : (nI t).toNatClampNeg = t := pu_ci (by omega)
    have l0 : (0 : Int32) ≤ nI t := le0 (by omega)
    rw [paM (by omega) e2, ct] at ev
    rw [takeX (by omega), ofX hT hbd htT hf e1]
    rcases bM_isOf (nI f) a with g | g
    · rw [g, if_pos rfl] at ev
      rw [g, if_pos rfl, if_neg (by decide)]
      exact ⟨KeepX.rf, ⟨⟨oktake hT hbd hv _, fun q => absurd q (by decide), fun _ => trivial⟩, trivial⟩, okb (okpaM hbd hv _) (fun _ => hv80), by rw [ev]; exact Low.rf, by rw [ev]; exact R_find (f := 0) h hs hs' (by decide) rfl rfl⟩
    · have hf2 : f ≠ 2 := by
        intro q
        rw [q, eka, of_ne2 kk k4 k13] at g
        exact absurd g (by decide)
      have htk : (if sM_isOf (nI f) a = 0 then (-21 : Int32) else 1) = 1 := by rw [g]; rfl
      rw [g, if_neg (by decide), if_pos l0] at ev
      rw [htk, if_pos rfl]
      have etl : sXT_placesOf u (nI t) = v.2.1 3 t := by
        unfold sXT_placesOf
        rw [knX1 hT hbd htT, if_neg (by decide), ct, e6 hf2, e4]
      have oktl : okXT_placesOf u (nI t) := ⟨fun _ => trivial, fun _ => ⟨hv80, trivial⟩⟩
      have okx : (okXT_take u (nI t) a ∧ (((1 : Int32) = 1 → okXT_placesOf u (nI t) ∧ True) ∧ (¬ (1 : Int32) = 1 → True))) ∧ True := ⟨⟨oktake hT hbd hv _, fun _ => ⟨oktl, trivial⟩, fun _ => trivial⟩, trivial⟩
      have h2 : Rel T P R u (stI v 6 0) := h
      rw [etl]
      by_cases hd : v.2.1 3 t = b
      · obtain ⟨p1, p2, p3⟩ := ends_ok (k := k) (r := 1) h2 hs hs' rfl ht.1 (Or.inr rfl)
        rw [if_pos hd] at ev
        rw [if_pos hd]
        exact ⟨KeepX.rf, okx, okb (okpaM hbd hv _) (fun _ => hv80), by rw [ev]; exact p3, by rw [ev]; exact p2⟩
      · obtain ⟨p1, p2, p3⟩ := ends_ok (k := k) (r := 0) h2 hs hs' rfl ht.1 (Or.inl rfl)
        rw [if_neg hd] at ev
        rw [if_neg hd]
        exact ⟨KeepX.rf, okx, okb (okpaM hbd hv _) (fun _ => hv80), by rw [ev]; exact p3, by rw [ev]; exact p2⟩
end Sorts3
