section LCases
variable {l : Launch} {p : Program} {e : Env} {s : State} {m : MethodId} {below : List Frame} {meth : Method} {c : Code} {D : va_G} {q z : Nat → Nat} {cI cL : ClassId} {tp b bo L : Nat} {xs : Nat → Int32} {u v : St} {f : Nat → Int64} {H : Heap} {locs : List Loc} {ls : Array Slot} {x : Int32} {cc ss : Nat}
set_option maxHeartbeats 4000000 in
set_option maxRecDepth 100000 in
theorem law_12 (hC : LC l p s m meth c D q z cI cL tp b bo L xs) (hI : LI s D q z cI cL b bo u v f H locs ls x) (hcc : cc ≤ 3000) (hss : ss ≤ 100000) (h1 : vp_in (x + 1) L) (h2 : vp_in (x + 2) L) (h3 : vp_in (x + 3) L) (h4 : vp_in (x + 4) L) (h5 : vp_in (x + 5) L) (kk : ∀ (u v : St) (f : Nat → Int64) (H : Heap) (locs : List Loc) (ls : Array Slot), LI s D q z cI cL b bo u v f H locs ls x → W p l e room_1 s m #[Value.ref b] below meth c H locs (cc + 1) (ss + 6) (lw_Z below #[Value.ref b] s) (F0 m 846 ls [])) : W p l e room_1 s m #[Value.ref b] below meth c H locs cc ss (lw_Z below #[Value.ref b] s) (F0 m 746 ls []) := by
  obtain ⟨⟨hx, hb, hr, hml, hown, hts0, hX, hbl, hlocks, hgv⟩, hst, hK, hZA, hNT, hZT, hNc, hq, hz, hAq, hAz, hAo, dqz, dqo, dzo⟩ := id hC
  obtain ⟨hPX, hPM, hPB, hS, ⟨T0, P0, R0, hR⟩, hl⟩ := hI
  have hts : ∀ w ∈ wsL_law, w.before #[Value.ref b] s = true := fun w h => hts0 w (wsL_law_in w h)
  have hbA : ¬ LA s b := Nat.not_le.mpr hbl
  have fit : cc + 0 ≤ room_1.cells ∧ ss + 0 ≤ room_1.slots := ⟨by show cc + 0 ≤ 603072; omega, by show ss + 0 ≤ 7262314; omega⟩
  refine lv_aload_n hx hb dL_law_746 rfl (lv_at hl 1 rfl) ?_
  refine lv_aload_n hx hb dL_law_747 rfl (lv_at hl 0 rfl) ?_
  refine lv_iload hx hb dL_law_748 (lv_at hl 4 rfl) ?_
  refine lv_iconst (v := 1) hx hb dL_law_750 (by decide) ?_
  refine lv_iadd hx hb dL_law_751 ?_
  refine va_sld hx hb hX hbl hbA hS h1 dL_law_752 ?_
  obtain ⟨okx, okm, hans, T1, P1, R1, hR1⟩ := a_apply hR (xs (x + 1).toNatClampNeg)
  refine va_calli (va_runV (As := [.int (xs (x + 1).toNatClampNeg)]) (rest := []) ⟨hx, hb, hml, hown, hts⟩ (cX_apply l D q cI cL tp hq u (xs (x + 1).toNatClampNeg) okx) (cwV 1 hts gL_law_X3_apply rfl rfl rfl (by decide +kernel) ⟨(Nat.le_of_ble_eq_true rfl), (Nat.le_of_ble_eq_true rfl)⟩) ⟨PX_blind, va_recv hK hPX (ci := 6) (q0 := 0) rfl rfl, fun U hU hW => ⟨rfl, LC_PX hC hPX hS hU hW⟩⟩ rfl rfl hl.1 rfl (lv_room (Nat.le_of_ble_eq_true rfl)) dL_law_753 fit) hS (fun a _ h => LC_q hC a h) (LC_q hC) (fun r1 u1 t H1 locs1 ht hvm hu1 hB hz1 hk1 hS1 => ?_)
  have hPX := hB.1
  rw [ht] at hPX
  have hPM := LC_kM hC hPM hk1
  have hPB := LC_kB hC hPB hk1
  clear hB hk1 hz1 hvm ht
  generalize H1 = H at hPX hPM hPB hS1 ⊢
  generalize locs1 = locs at hS1 ⊢
  clear hS
  have hS := hS1
  clear hS1
  refine W.widen (k := cc) (n := ss) (Nat.le_refl _) (Nat.le_refl _) ?_
  refine lv_aload_n hx hb dL_law_756 rfl (lv_at hl 2 rfl) ?_
  refine lv_aload_n hx hb dL_law_757 rfl (lv_at hl 0 rfl) ?_
  refine lv_iload hx hb dL_law_758 (lv_at hl 4 rfl) ?_
  refine lv_iconst (v := 1) hx hb dL_law_760 (by decide) ?_
  refine lv_iadd hx hb dL_law_761 ?_
  refine va_sld hx hb hX hbl hbA hS h1 dL_law_762 ?_
  refine va_calli (va_runV (As := [.int (xs (x + 1).toNatClampNeg)]) (rest := [.int r1]) ⟨hx, hb, hml, hown, hts⟩ (cM_apply l D z cI cL hz v (xs (x + 1).toNatClampNeg) okm) (cwV 1 hts gL_law_X4_apply rfl rfl rfl (by decide +kernel) ⟨(Nat.le_of_ble_eq_true rfl), (Nat.le_of_ble_eq_true rfl)⟩) ⟨PM_blind, va_recv hK hPM (ci := 7) (q0 := 0) rfl rfl, fun U hU hW => ⟨rfl, PM_fin hPM hK hU hW⟩⟩ rfl rfl hl.1 rfl (lv_room (Nat.le_of_ble_eq_true rfl)) dL_law_763 fit) hS (fun a _ h => LC_z hC a h) (LC_z hC) (fun r2 v1 t H1 locs1 ht hvm hv1 hB hz1 hk1 hS1 => ?_)
  have hPM := hB.1
  rw [ht] at hPM
  have hPX := LC_kX hC hPX hk1
  have hPB := LC_kB2 hC hPB hk1
  rw [← hv1] at hans hR1
  rw [← hu1] at hans hR1
  refine lv_icmp_eq (tgt := 846) hx hb dL_law_766 (by decide) (fun c1 => ?_) (fun c1 => ?_)
  · exact W.widen (k := cc + 1) (n := ss + 6) (by omega) (by omega) (kk u1 v1 f H1 locs1 ls ⟨hPX, hPM, hPB, hS1, ⟨T1, P1, R1, hR1⟩, hl⟩)
  · exact absurd hans c1
set_option maxHeartbeats 4000000 in
set_option maxRecDepth 100000 in
theorem law_13 (hC : LC l p s m meth c D q z cI cL tp b bo L xs) (hI : LI s D q z cI cL b bo u v f H locs ls x) (hcc : cc ≤ 3000) (hss : ss ≤ 100000) (h1 : vp_in (x + 1) L) (h2 : vp_in (x + 2) L) (h3 : vp_in (x + 3) L) (h4 : vp_in (x + 4) L) (h5 : vp_in (x + 5) L) (kk : ∀ (u v : St) (f : Nat → Int64) (H : Heap) (locs : List Loc) (ls : Array Slot), LI s D q z cI cL b bo u v f H locs ls x → W p l e room_1 s m #[Value.ref b] below meth c H locs (cc + 1) (ss + 6) (lw_Z below #[Value.ref b] s) (F0 m 846 ls [])) : W p l e room_1 s m #[Value.ref b] below meth c H locs cc ss (lw_Z below #[Value.ref b] s) (F0 m 771 ls []) := by
  obtain ⟨⟨hx, hb, hr, hml, hown, hts0, hX, hbl, hlocks, hgv⟩, hst, hK, hZA, hNT, hZT, hNc, hq, hz, hAq, hAz, hAo, dqz, dqo, dzo⟩ := id hC
  obtain ⟨hPX, hPM, hPB, hS, ⟨T0, P0, R0, hR⟩, hl⟩ := hI
  have hts : ∀ w ∈ wsL_law, w.before #[Value.ref b] s = true := fun w h => hts0 w (wsL_law_in w h)
  have hbA : ¬ LA s b := Nat.not_le.mpr hbl
  have fit : cc + 0 ≤ room_1.cells ∧ ss + 0 ≤ room_1.slots := ⟨by show cc + 0 ≤ 603072; omega, by show ss + 0 ≤ 7262314; omega⟩
  refine lv_aload_n hx hb dL_law_771 rfl (lv_at hl 1 rfl) ?_
  refine lv_aload_n hx hb dL_law_772 rfl (lv_at hl 0 rfl) ?_
  refine lv_iload hx hb dL_law_773 (lv_at hl 4 rfl) ?_
  refine lv_iconst (v := 1) hx hb dL_law_775 (by decide) ?_
  refine lv_iadd hx hb dL_law_776 ?_
  refine va_sld hx hb hX hbl hbA hS h1 dL_law_777 ?_
  refine lv_aload_n hx hb dL_law_778 rfl (lv_at hl 0 rfl) ?_
  refine lv_iload hx hb dL_law_779 (lv_at hl 4 rfl) ?_
  refine lv_iconst (v := 2) hx hb dL_law_781 (by decide) ?_
  refine lv_iadd hx hb dL_law_782 ?_
  refine va_sld hx hb hX hbl hbA hS h2 dL_law_783 ?_
  obtain ⟨okx, okm, hans, T1, P1, R1, hR1⟩ := a_told hR (xs (x + 1).toNatClampNeg) (xs (x + 2).toNatClampNeg)
  refine vp_callSi (W.runV (As := [.int (xs (x + 1).toNatClampNeg), .int (xs (x + 2).toNatClampNeg)]) (rest := []) ⟨hx, hb, hml, hown, hts⟩ (cX_told l D q cI cL tp u (xs (x + 1).toNatClampNeg) (xs (x + 2).toNatClampNeg) okx) (cwV 2 hts gL_law_X3_told rfl rfl rfl (by decide +kernel) ⟨(Nat.le_of_ble_eq_true rfl), (Nat.le_of_ble_eq_true rfl)⟩) ⟨PX_blind, va_recv hK hPX (ci := 6) (q0 := 0) rfl rfl, fun U hU hW => ⟨rfl, LC_PX hC hPX hS hU hW⟩⟩ rfl rfl hl.1 rfl (lv_room (Nat.le_of_ble_eq_true rfl)) dL_law_784 fit) (fun r1 hr1 => ?_)
  refine W.widen (k := cc) (n := ss) (Nat.le_refl _) (Nat.le_refl _) ?_
  refine lv_aload_n hx hb dL_law_787 rfl (lv_at hl 2 rfl) ?_
  refine lv_aload_n hx hb dL_law_788 rfl (lv_at hl 0 rfl) ?_
  refine lv_iload hx hb dL_law_789 (lv_at hl 4 rfl) ?_
  refine lv_iconst (v := 1) hx hb dL_law_791 (by decide) ?_
  refine lv_iadd hx hb dL_law_792 ?_
  refine va_sld hx hb hX hbl hbA hS h1 dL_law_793 ?_
  refine lv_aload_n hx hb dL_law_794 rfl (lv_at hl 0 rfl) ?_
  refine lv_iload hx hb dL_law_795 (lv_at hl 4 rfl) ?_
  refine lv_iconst (v := 2) hx hb dL_law_797 (by decide) ?_
  refine lv_iadd hx hb dL_law_798 ?_
  refine va_sld hx hb hX hbl hbA hS h2 dL_law_799 ?_
  refine va_calli (va_runV (As := [.int (xs (x + 1).toNatClampNeg), .int (xs (x + 2).toNatClampNeg)]) (rest := [.int r1]) ⟨hx, hb, hml, hown, hts⟩ (cM_told l D z cI cL hz v (xs (x + 1).toNatClampNeg) (xs (x + 2).toNatClampNeg) okm) (cwV 2 hts gL_law_X4_told rfl rfl rfl (by decide +kernel) ⟨(Nat.le_of_ble_eq_true rfl), (Nat.le_of_ble_eq_true rfl)⟩) ⟨PM_blind, va_recv hK hPM (ci := 7) (q0 := 0) rfl rfl, fun U hU hW => ⟨rfl, PM_fin hPM hK hU hW⟩⟩ rfl rfl hl.1 rfl (lv_room (Nat.le_of_ble_eq_true rfl)) dL_law_800 fit) hS (fun a _ h => LC_z hC a h) (LC_z hC) (fun r2 v1 t H1 locs1 ht hvm hv1 hB hz1 hk1 hS1 => ?_)
  have hPM := hB.1
  rw [ht] at hPM
  have hPX := LC_kX hC hPX hk1
  have hPB := LC_kB2 hC hPB hk1
  rw [← hv1] at hans hR1
  rw [← hr1] at hans
  refine lv_icmp_eq (tgt := 846) hx hb dL_law_803 (by decide) (fun c1 => ?_) (fun c1 => ?_)
  · exact W.widen (k := cc + 1) (n := ss + 6) (by omega) (by omega) (kk u v1 f H1 locs1 ls ⟨hPX, hPM, hPB, hS1, ⟨T1, P1, R1, hR1⟩, hl⟩)
  · exact absurd hans c1
set_option maxHeartbeats 4000000 in
set_option maxRecDepth 100000 in
theorem law_14 (hC : LC l p s m meth c D q z cI cL tp b bo L xs) (hI : LI s D q z cI cL b bo u v f H locs ls x) (hcc : cc ≤ 3000) (hss : ss ≤ 100000) (h1 : vp_in (x + 1) L) (h2 : vp_in (x + 2) L) (h3 : vp_in (x + 3) L) (h4 : vp_in (x + 4) L) (h5 : vp_in (x + 5) L) (kk : ∀ (u v : St) (f : Nat → Int64) (H : Heap) (locs : List Loc) (ls : Array Slot), LI s D q z cI cL b bo u v f H locs ls x → W p l e room_1 s m #[Value.ref b] below meth c H locs (cc + 1) (ss + 6) (lw_Z below #[Value.ref b] s) (F0 m 846 ls [])) : W p l e room_1 s m #[Value.ref b] below meth c H locs cc ss (lw_Z below #[Value.ref b] s) (F0 m 808 ls []) := by
  obtain ⟨⟨hx, hb, hr, hml, hown, hts0, hX, hbl, hlocks, hgv⟩, hst, hK, hZA, hNT, hZT, hNc, hq, hz, hAq, hAz, hAo, dqz, dqo, dzo⟩ := id hC
  obtain ⟨hPX, hPM, hPB, hS, ⟨T0, P0, R0, hR⟩, hl⟩ := hI
  have hts : ∀ w ∈ wsL_law, w.before #[Value.ref b] s = true := fun w h => hts0 w (wsL_law_in w h)
  have hbA : ¬ LA s b := Nat.not_le.mpr hbl
  have fit : cc + 0 ≤ room_1.cells ∧ ss + 0 ≤ room_1.slots := ⟨by show cc + 0 ≤ 603072; omega, by show ss + 0 ≤ 7262314; omega⟩
  refine lv_aload_n hx hb dL_law_808 rfl (lv_at hl 1 rfl) ?_
  refine lv_aload_n hx hb dL_law_809 rfl (lv_at hl 0 rfl) ?_
  refine lv_iload hx hb dL_law_810 (lv_at hl 4 rfl) ?_
  refine lv_iconst (v := 1) hx hb dL_law_812 (by decide) ?_
  refine lv_iadd hx hb dL_law_813 ?_
  refine va_sld hx hb hX hbl hbA hS h1 dL_law_814 ?_
  obtain ⟨okx, okm, hans, T1, P1, R1, hR1⟩ := a_count hR (xs (x + 1).toNatClampNeg)
  refine vp_callSi (W.runV (As := [.int (xs (x + 1).toNatClampNeg)]) (rest := []) ⟨hx, hb, hml, hown, hts⟩ (cX_count l D q cI cL tp u (xs (x + 1).toNatClampNeg) okx) (cwV 1 hts gL_law_X3_count rfl rfl rfl (by decide +kernel) ⟨(Nat.le_of_ble_eq_true rfl), (Nat.le_of_ble_eq_true rfl)⟩) ⟨PX_blind, va_recv hK hPX (ci := 6) (q0 := 0) rfl rfl, fun U hU hW => ⟨rfl, LC_PX hC hPX hS hU hW⟩⟩ rfl rfl hl.1 rfl (lv_room (Nat.le_of_ble_eq_true rfl)) dL_law_815 fit) (fun r1 hr1 => ?_)
  refine W.widen (k := cc) (n := ss) (Nat.le_refl _) (Nat.le_refl _) ?_
  refine lv_aload_n hx hb dL_law_818 rfl (lv_at hl 2 rfl) ?_
  refine lv_aload_n hx hb dL_law_819 rfl (lv_at hl 0 rfl) ?_
  refine lv_iload hx hb dL_law_820 (lv_at hl 4 rfl) ?_
  refine lv_iconst (v := 1) hx hb dL_law_822 (by decide) ?_
  refine lv_iadd hx hb dL_law_823 ?_
  refine va_sld hx hb hX hbl hbA hS h1 dL_law_824 ?_
  refine va_calli (va_runV (As := [.int (xs (x + 1).toNatClampNeg)]) (rest := [.int r1]) ⟨hx, hb, hml, hown, hts⟩ (cM_count l D z cI cL hz v (xs (x + 1).toNatClampNeg) okm) (cwV 1 hts gL_law_X4_count rfl rfl rfl (by decide +kernel) ⟨(Nat.le_of_ble_eq_true rfl), (Nat.le_of_ble_eq_true rfl)⟩) ⟨PM_blind, va_recv hK hPM (ci := 7) (q0 := 0) rfl rfl, fun U hU hW => ⟨rfl, PM_fin hPM hK hU hW⟩⟩ rfl rfl hl.1 rfl (lv_room (Nat.le_of_ble_eq_true rfl)) dL_law_825 fit) hS (fun a _ h => LC_z hC a h) (LC_z hC) (fun r2 v1 t H1 locs1 ht hvm hv1 hB hz1 hk1 hS1 => ?_)
  have hPM := hB.1
  rw [ht] at hPM
  have hPX := LC_kX hC hPX hk1
  have hPB := LC_kB2 hC hPB hk1
  rw [← hv1] at hans hR1
  rw [← hr1] at hans
  refine lv_icmp_eq (tgt := 846) hx hb dL_law_828 (by decide) (fun c1 => ?_) (fun c1 => ?_)
  · exact W.widen (k := cc + 1) (n := ss + 6) (by omega) (by omega) (kk u v1 f H1 locs1 ls ⟨hPX, hPM, hPB, hS1, ⟨T1, P1, R1, hR1⟩, hl⟩)
  · exact absurd hans c1
set_option maxHeartbeats 4000000 in
set_option maxRecDepth 100000 in
theorem law_15 (hC : LC l p s m meth c D q z cI cL tp b bo L xs) (hI : LI s D q z cI cL b bo u v f H locs ls x) (hcc : cc ≤ 3000) (hss : ss ≤ 100000) (h1 : vp_in (x + 1) L) (h2 : vp_in (x + 2) L) (h3 : vp_in (x + 3) L) (h4 : vp_in (x + 4) L) (h5 : vp_in (x + 5) L) (kk : ∀ (u v : St) (f : Nat → Int64) (H : Heap) (locs : List Loc) (ls : Array Slot), LI s D q z cI cL b bo u v f H locs ls x → W p l e room_1 s m #[Value.ref b] below meth c H locs (cc + 1) (ss + 6) (lw_Z below #[Value.ref b] s) (F0 m 846 ls [])) : W p l e room_1 s m #[Value.ref b] below meth c H locs cc ss (lw_Z below #[Value.ref b] s) (F0 m 833 ls []) := by
  obtain ⟨⟨hx, hb, hr, hml, hown, hts0, hX, hbl, hlocks, hgv⟩, hst, hK, hZA, hNT, hZT, hNc, hq, hz, hAq, hAz, hAo, dqz, dqo, dzo⟩ := id hC
  obtain ⟨hPX, hPM, hPB, hS, ⟨T0, P0, R0, hR⟩, hl⟩ := hI
  have hts : ∀ w ∈ wsL_law, w.before #[Value.ref b] s = true := fun w h => hts0 w (wsL_law_in w h)
  have hbA : ¬ LA s b := Nat.not_le.mpr hbl
  have fit : cc + 0 ≤ room_1.cells ∧ ss + 0 ≤ room_1.slots := ⟨by show cc + 0 ≤ 603072; omega, by show ss + 0 ≤ 7262314; omega⟩
  refine lv_aload_n hx hb dL_law_833 rfl (lv_at hl 1 rfl) ?_
  obtain ⟨okx, okm, hans, T1, P1, R1, hR1⟩ := a_clear hR 
  refine va_calli (va_runV (As := []) (rest := []) ⟨hx, hb, hml, hown, hts⟩ (cX_clear l D q cI cL tp hq u  okx) (cwV 0 hts gL_law_X3_clear rfl rfl rfl (by decide +kernel) ⟨(Nat.le_of_ble_eq_true rfl), (Nat.le_of_ble_eq_true rfl)⟩) ⟨PX_blind, va_recv hK hPX (ci := 6) (q0 := 0) rfl rfl, fun U hU hW => ⟨rfl, LC_PX hC hPX hS hU hW⟩⟩ rfl rfl hl.1 rfl (lv_room (Nat.le_of_ble_eq_true rfl)) dL_law_834 fit) hS (fun a _ h => LC_q hC a h) (LC_q hC) (fun r1 u1 t H1 locs1 ht hvm hu1 hB hz1 hk1 hS1 => ?_)
  have hPX := hB.1
  rw [ht] at hPX
  have hPM := LC_kM hC hPM hk1
  have hPB := LC_kB hC hPB hk1
  clear hB hk1 hz1 hvm ht
  generalize H1 = H at hPX hPM hPB hS1 ⊢
  generalize locs1 = locs at hS1 ⊢
  clear hS
  have hS := hS1
  clear hS1
  refine W.widen (k := cc) (n := ss) (Nat.le_refl _) (Nat.le_refl _) ?_
  refine lv_aload_n hx hb dL_law_837 rfl (lv_at hl 2 rfl) ?_
  refine va_calli (va_runV (As := []) (rest := [.int r1]) ⟨hx, hb, hml, hown, hts⟩ (cM_clear l D z cI cL hz v  okm) (cwV 0 hts gL_law_X4_clear rfl rfl rfl (by decide +kernel) ⟨(Nat.le_of_ble_eq_true rfl), (Nat.le_of_ble_eq_true rfl)⟩) ⟨PM_blind, va_recv hK hPM (ci := 7) (q0 := 0) rfl rfl, fun U hU hW => ⟨rfl, PM_fin hPM hK hU hW⟩⟩ rfl rfl hl.1 rfl (lv_room (Nat.le_of_ble_eq_true rfl)) dL_law_838 fit) hS (fun a _ h => LC_z hC a h) (LC_z hC) (fun r2 v1 t H1 locs1 ht hvm hv1 hB hz1 hk1 hS1 => ?_)
  have hPM := hB.1
  rw [ht] at hPM
  have hPX := LC_kX hC hPX hk1
  have hPB := LC_kB2 hC hPB hk1
  rw [← hv1] at hans hR1
  rw [← hu1] at hans hR1
  refine lv_icmp_eq (tgt := 846) hx hb dL_law_841 (by decide) (fun c1 => ?_) (fun c1 => ?_)
  · exact W.widen (k := cc + 1) (n := ss + 6) (by omega) (by omega) (kk u1 v1 f H1 locs1 ls ⟨hPX, hPM, hPB, hS1, ⟨T1, P1, R1, hR1⟩, hl⟩)
  · exact absurd hans c1
end LCases
