section LCases
variable {l : Launch} {p : Program} {e : Env} {s : State} {m : MethodId} {below : List Frame} {meth : Method} {c : Code} {D : va_G} {q z : Nat → Nat} {cI cL : ClassId} {tp b bo L : Nat} {xs : Nat → Int32} {u v : St} {f : Nat → Int64} {H : Heap} {locs : List Loc} {ls : Array Slot} {x : Int32} {cc ss : Nat}
set_option maxHeartbeats 4000000 in
set_option maxRecDepth 100000 in
theorem law_7 (hC : LC l p s m meth c D q z cI cL tp b bo L xs) (hI : LI s D q z cI cL b bo u v f H locs ls x) (hcc : cc ≤ 3000) (hss : ss ≤ 100000) (h1 : vp_in (x + 1) L) (h2 : vp_in (x + 2) L) (h3 : vp_in (x + 3) L) (h4 : vp_in (x + 4) L) (h5 : vp_in (x + 5) L) (kk : ∀ (u v : St) (f : Nat → Int64) (H : Heap) (locs : List Loc) (ls : Array Slot), LI s D q z cI cL b bo u v f H locs ls x → W p l e room_1 s m #[Value.ref b] below meth c H locs (cc + 1) (ss + 6) (lw_Z below #[Value.ref b] s) (F0 m 846 ls [])) : W p l e room_1 s m #[Value.ref b] below meth c H locs cc ss (lw_Z below #[Value.ref b] s) (F0 m 525 ls []) := by
  obtain ⟨⟨hx, hb, hr, hml, hown, hts0, hX, hbl, hlocks, hgv⟩, hst, hK, hZA, hNT, hZT, hNc, hq, hz, hAq, hAz, hAo, dqz, dqo, dzo⟩ := id hC
  obtain ⟨hPX, hPM, hPB, hS, ⟨T0, P0, R0, hR⟩, hl⟩ := hI
  have hts : ∀ w ∈ wsL_law, w.before #[Value.ref b] s = true := fun w h => hts0 w (wsL_law_in w h)
  have hbA : ¬ LA s b := Nat.not_le.mpr hbl
  have fit : cc + 0 ≤ room_1.cells ∧ ss + 0 ≤ room_1.slots := ⟨by show cc + 0 ≤ 603072; omega, by show ss + 0 ≤ 7262314; omega⟩
  refine lv_aload_n hx hb dL_law_525 rfl (lv_at hl 1 rfl) ?_
  refine lv_aload_n hx hb dL_law_526 rfl (lv_at hl 0 rfl) ?_
  refine lv_iload hx hb dL_law_527 (lv_at hl 4 rfl) ?_
  refine lv_iconst (v := 1) hx hb dL_law_529 (by decide) ?_
  refine lv_iadd hx hb dL_law_530 ?_
  refine va_sld hx hb hX hbl hbA hS h1 dL_law_531 ?_
  refine lv_aload_n hx hb dL_law_532 rfl (lv_at hl 0 rfl) ?_
  refine lv_iload hx hb dL_law_533 (lv_at hl 4 rfl) ?_
  refine lv_iconst (v := 2) hx hb dL_law_535 (by decide) ?_
  refine lv_iadd hx hb dL_law_536 ?_
  refine va_sld hx hb hX hbl hbA hS h2 dL_law_537 ?_
  obtain ⟨okx, okm, hans, T1, P1, R1, hR1⟩ := a_is hR (xs (x + 1).toNatClampNeg) (xs (x + 2).toNatClampNeg)
  refine vp_callSi (W.runV (As := [.int (xs (x + 1).toNatClampNeg), .int (xs (x + 2).toNatClampNeg)]) (rest := []) ⟨hx, hb, hml, hown, hts⟩ (cX_is l D q cI cL tp u (xs (x + 1).toNatClampNeg) (xs (x + 2).toNatClampNeg) okx) (cwV 2 hts gL_law_X3_is rfl rfl rfl (by decide +kernel) ⟨(Nat.le_of_ble_eq_true rfl), (Nat.le_of_ble_eq_true rfl)⟩) ⟨PX_blind, va_recv hK hPX (ci := 6) (q0 := 0) rfl rfl, fun U hU hW => ⟨rfl, LC_PX hC hPX hS hU hW⟩⟩ rfl rfl hl.1 rfl (lv_room (Nat.le_of_ble_eq_true rfl)) dL_law_538 fit) (fun r1 hr1 => ?_)
  refine W.widen (k := cc) (n := ss) (Nat.le_refl _) (Nat.le_refl _) ?_
  refine lv_aload_n hx hb dL_law_541 rfl (lv_at hl 2 rfl) ?_
  refine lv_aload_n hx hb dL_law_542 rfl (lv_at hl 0 rfl) ?_
  refine lv_iload hx hb dL_law_543 (lv_at hl 4 rfl) ?_
  refine lv_iconst (v := 1) hx hb dL_law_545 (by decide) ?_
  refine lv_iadd hx hb dL_law_546 ?_
  refine va_sld hx hb hX hbl hbA hS h1 dL_law_547 ?_
  refine lv_aload_n hx hb dL_law_548 rfl (lv_at hl 0 rfl) ?_
  refine lv_iload hx hb dL_law_549 (lv_at hl 4 rfl) ?_
  refine lv_iconst (v := 2) hx hb dL_law_551 (by decide) ?_
  refine lv_iadd hx hb dL_law_552 ?_
  refine va_sld hx hb hX hbl hbA hS h2 dL_law_553 ?_
  refine va_calli (va_runV (As := [.int (xs (x + 1).toNatClampNeg), .int (xs (x + 2).toNatClampNeg)]) (rest := [.int r1]) ⟨hx, hb, hml, hown, hts⟩ (cM_is l D z cI cL hz v (xs (x + 1).toNatClampNeg) (xs (x + 2).toNatClampNeg) okm) (cwV 2 hts gL_law_X4_is rfl rfl rfl (by decide +kernel) ⟨(Nat.le_of_ble_eq_true rfl), (Nat.le_of_ble_eq_true rfl)⟩) ⟨PM_blind, va_recv hK hPM (ci := 7) (q0 := 0) rfl rfl, fun U hU hW => ⟨rfl, PM_fin hPM hK hU hW⟩⟩ rfl rfl hl.1 rfl (lv_room (Nat.le_of_ble_eq_true rfl)) dL_law_554 fit) hS (fun a _ h => LC_z hC a h) (LC_z hC) (fun r2 v1 t H1 locs1 ht hvm hv1 hB hz1 hk1 hS1 => ?_)
  have hPM := hB.1
  rw [ht] at hPM
  have hPX := LC_kX hC hPX hk1
  have hPB := LC_kB2 hC hPB hk1
  rw [← hv1] at hans hR1
  rw [← hr1] at hans
  refine lv_icmp_eq (tgt := 846) hx hb dL_law_557 (by decide) (fun c1 => ?_) (fun c1 => ?_)
  · exact W.widen (k := cc + 1) (n := ss + 6) (by omega) (by omega) (kk u v1 f H1 locs1 ls ⟨hPX, hPM, hPB, hS1, ⟨T1, P1, R1, hR1⟩, hl⟩)
  · exact absurd hans c1
set_option maxHeartbeats 4000000 in
set_option maxRecDepth 100000 in
theorem law_8 (hC : LC l p s m meth c D q z cI cL tp b bo L xs) (hI : LI s D q z cI cL b bo u v f H locs ls x) (hcc : cc ≤ 3000) (hss : ss ≤ 100000) (h1 : vp_in (x + 1) L) (h2 : vp_in (x + 2) L) (h3 : vp_in (x + 3) L) (h4 : vp_in (x + 4) L) (h5 : vp_in (x + 5) L) (kk : ∀ (u v : St) (f : Nat → Int64) (H : Heap) (locs : List Loc) (ls : Array Slot), LI s D q z cI cL b bo u v f H locs ls x → W p l e room_1 s m #[Value.ref b] below meth c H locs (cc + 1) (ss + 6) (lw_Z below #[Value.ref b] s) (F0 m 846 ls [])) : W p l e room_1 s m #[Value.ref b] below meth c H locs cc ss (lw_Z below #[Value.ref b] s) (F0 m 562 ls []) := by
  obtain ⟨⟨hx, hb, hr, hml, hown, hts0, hX, hbl, hlocks, hgv⟩, hst, hK, hZA, hNT, hZT, hNc, hq, hz, hAq, hAz, hAo, dqz, dqo, dzo⟩ := id hC
  obtain ⟨hPX, hPM, hPB, hS, ⟨T0, P0, R0, hR⟩, hl⟩ := hI
  have hts : ∀ w ∈ wsL_law, w.before #[Value.ref b] s = true := fun w h => hts0 w (wsL_law_in w h)
  have hbA : ¬ LA s b := Nat.not_le.mpr hbl
  have fit : cc + 0 ≤ room_1.cells ∧ ss + 0 ≤ room_1.slots := ⟨by show cc + 0 ≤ 603072; omega, by show ss + 0 ≤ 7262314; omega⟩
  refine lv_aload_n hx hb dL_law_562 rfl (lv_at hl 1 rfl) ?_
  refine lv_aload_n hx hb dL_law_563 rfl (lv_at hl 0 rfl) ?_
  refine lv_iload hx hb dL_law_564 (lv_at hl 4 rfl) ?_
  refine lv_iconst (v := 1) hx hb dL_law_566 (by decide) ?_
  refine lv_iadd hx hb dL_law_567 ?_
  refine va_sld hx hb hX hbl hbA hS h1 dL_law_568 ?_
  refine lv_aload_n hx hb dL_law_569 rfl (lv_at hl 0 rfl) ?_
  refine lv_iload hx hb dL_law_570 (lv_at hl 4 rfl) ?_
  refine lv_iconst (v := 2) hx hb dL_law_572 (by decide) ?_
  refine lv_iadd hx hb dL_law_573 ?_
  refine va_sld hx hb hX hbl hbA hS h2 dL_law_574 ?_
  refine lv_aload_n hx hb dL_law_575 rfl (lv_at hl 0 rfl) ?_
  refine lv_iload hx hb dL_law_576 (lv_at hl 4 rfl) ?_
  refine lv_iconst (v := 3) hx hb dL_law_578 (by decide) ?_
  refine lv_iadd hx hb dL_law_579 ?_
  refine va_sld hx hb hX hbl hbA hS h3 dL_law_580 ?_
  refine lv_aload_n hx hb dL_law_581 rfl (lv_at hl 0 rfl) ?_
  refine lv_iload hx hb dL_law_582 (lv_at hl 4 rfl) ?_
  refine lv_iconst (v := 4) hx hb dL_law_584 (by decide) ?_
  refine lv_iadd hx hb dL_law_585 ?_
  refine va_sld hx hb hX hbl hbA hS h4 dL_law_586 ?_
  obtain ⟨okx, okm, hans, T1, P1, R1, hR1⟩ := a_pattern hR (xs (x + 1).toNatClampNeg) (xs (x + 2).toNatClampNeg) (xs (x + 3).toNatClampNeg) (xs (x + 4).toNatClampNeg)
  refine va_calli (va_runV (As := [.int (xs (x + 1).toNatClampNeg), .int (xs (x + 2).toNatClampNeg), .int (xs (x + 3).toNatClampNeg), .int (xs (x + 4).toNatClampNeg)]) (rest := []) ⟨hx, hb, hml, hown, hts⟩ (cX_pattern l D q cI cL tp hq u (xs (x + 1).toNatClampNeg) (xs (x + 2).toNatClampNeg) (xs (x + 3).toNatClampNeg) (xs (x + 4).toNatClampNeg) okx) (cwV 4 hts gL_law_X3_pattern rfl rfl rfl (by decide +kernel) ⟨(Nat.le_of_ble_eq_true rfl), (Nat.le_of_ble_eq_true rfl)⟩) ⟨PX_blind, va_recv hK hPX (ci := 6) (q0 := 0) rfl rfl, fun U hU hW => ⟨rfl, LC_PX hC hPX hS hU hW⟩⟩ rfl rfl hl.1 rfl (lv_room (Nat.le_of_ble_eq_true rfl)) dL_law_587 fit) hS (fun a _ h => LC_q hC a h) (LC_q hC) (fun r1 u1 t H1 locs1 ht hvm hu1 hB hz1 hk1 hS1 => ?_)
  have hPX := hB.1
  rw [ht] at hPX
  have hPM := LC_kM hC hPM hk1
  have hPB := LC_kB hC hPB hk1
  clear hB hk1 hz1 hvm ht
  generalize H1 = H at hPX hPM hPB hS1 ⊢
  generalize locs1 = locs at hS1 ⊢
  clear hS
  have hS := hS1
  clear hS1
  refine W.widen (k := cc) (n := ss) (Nat.le_refl _) (Nat.le_refl _) ?_
  refine lv_aload_n hx hb dL_law_590 rfl (lv_at hl 2 rfl) ?_
  refine lv_aload_n hx hb dL_law_591 rfl (lv_at hl 0 rfl) ?_
  refine lv_iload hx hb dL_law_592 (lv_at hl 4 rfl) ?_
  refine lv_iconst (v := 1) hx hb dL_law_594 (by decide) ?_
  refine lv_iadd hx hb dL_law_595 ?_
  refine va_sld hx hb hX hbl hbA hS h1 dL_law_596 ?_
  refine lv_aload_n hx hb dL_law_597 rfl (lv_at hl 0 rfl) ?_
  refine lv_iload hx hb dL_law_598 (lv_at hl 4 rfl) ?_
  refine lv_iconst (v := 2) hx hb dL_law_600 (by decide) ?_
  refine lv_iadd hx hb dL_law_601 ?_
  refine va_sld hx hb hX hbl hbA hS h2 dL_law_602 ?_
  refine lv_aload_n hx hb dL_law_603 rfl (lv_at hl 0 rfl) ?_
  refine lv_iload hx hb dL_law_604 (lv_at hl 4 rfl) ?_
  refine lv_iconst (v := 3) hx hb dL_law_606 (by decide) ?_
  refine lv_iadd hx hb dL_law_607 ?_
  refine va_sld hx hb hX hbl hbA hS h3 dL_law_608 ?_
  refine lv_aload_n hx hb dL_law_609 rfl (lv_at hl 0 rfl) ?_
  refine lv_iload hx hb dL_law_610 (lv_at hl 4 rfl) ?_
  refine lv_iconst (v := 4) hx hb dL_law_612 (by decide) ?_
  refine lv_iadd hx hb dL_law_613 ?_
  refine va_sld hx hb hX hbl hbA hS h4 dL_law_614 ?_
  refine va_calli (va_runV (As := [.int (xs (x + 1).toNatClampNeg), .int (xs (x + 2).toNatClampNeg), .int (xs (x + 3).toNatClampNeg), .int (xs (x + 4).toNatClampNeg)]) (rest := [.int r1]) ⟨hx, hb, hml, hown, hts⟩ (cM_pattern l D z cI cL hz v (xs (x + 1).toNatClampNeg) (xs (x + 2).toNatClampNeg) (xs (x + 3).toNatClampNeg) (xs (x + 4).toNatClampNeg) okm) (cwV 4 hts gL_law_X4_pattern rfl rfl rfl (by decide +kernel) ⟨(Nat.le_of_ble_eq_true rfl), (Nat.le_of_ble_eq_true rfl)⟩) ⟨PM_blind, va_recv hK hPM (ci := 7) (q0 := 0) rfl rfl, fun U hU hW => ⟨rfl, PM_fin hPM hK hU hW⟩⟩ rfl rfl hl.1 rfl (lv_room (Nat.le_of_ble_eq_true rfl)) dL_law_615 fit) hS (fun a _ h => LC_z hC a h) (LC_z hC) (fun r2 v1 t H1 locs1 ht hvm hv1 hB hz1 hk1 hS1 => ?_)
  have hPM := hB.1
  rw [ht] at hPM
  have hPX := LC_kX hC hPX hk1
  have hPB := LC_kB2 hC hPB hk1
  rw [← hv1] at hans hR1
  rw [← hu1] at hans hR1
  refine lv_icmp_eq (tgt := 846) hx hb dL_law_618 (by decide) (fun c1 => ?_) (fun c1 => ?_)
  · exact W.widen (k := cc + 1) (n := ss + 6) (by omega) (by omega) (kk u1 v1 f H1 locs1 ls ⟨hPX, hPM, hPB, hS1, ⟨T1, P1, R1, hR1⟩, hl⟩)
  · exact absurd hans c1
set_option maxHeartbeats 4000000 in
set_option maxRecDepth 100000 in
theorem law_9 (hC : LC l p s m meth c D q z cI cL tp b bo L xs) (hI : LI s D q z cI cL b bo u v f H locs ls x) (hcc : cc ≤ 3000) (hss : ss ≤ 100000) (h1 : vp_in (x + 1) L) (h2 : vp_in (x + 2) L) (h3 : vp_in (x + 3) L) (h4 : vp_in (x + 4) L) (h5 : vp_in (x + 5) L) (kk : ∀ (u v : St) (f : Nat → Int64) (H : Heap) (locs : List Loc) (ls : Array Slot), LI s D q z cI cL b bo u v f H locs ls x → W p l e room_1 s m #[Value.ref b] below meth c H locs (cc + 1) (ss + 6) (lw_Z below #[Value.ref b] s) (F0 m 846 ls [])) : W p l e room_1 s m #[Value.ref b] below meth c H locs cc ss (lw_Z below #[Value.ref b] s) (F0 m 623 ls []) := by
  obtain ⟨⟨hx, hb, hr, hml, hown, hts0, hX, hbl, hlocks, hgv⟩, hst, hK, hZA, hNT, hZT, hNc, hq, hz, hAq, hAz, hAo, dqz, dqo, dzo⟩ := id hC
  obtain ⟨hPX, hPM, hPB, hS, ⟨T0, P0, R0, hR⟩, hl⟩ := hI
  have hts : ∀ w ∈ wsL_law, w.before #[Value.ref b] s = true := fun w h => hts0 w (wsL_law_in w h)
  have hbA : ¬ LA s b := Nat.not_le.mpr hbl
  have fit : cc + 0 ≤ room_1.cells ∧ ss + 0 ≤ room_1.slots := ⟨by show cc + 0 ≤ 603072; omega, by show ss + 0 ≤ 7262314; omega⟩
  refine lv_aload_n hx hb dL_law_623 rfl (lv_at hl 1 rfl) ?_
  refine lv_aload_n hx hb dL_law_624 rfl (lv_at hl 0 rfl) ?_
  refine lv_iload hx hb dL_law_625 (lv_at hl 4 rfl) ?_
  refine lv_iconst (v := 1) hx hb dL_law_627 (by decide) ?_
  refine lv_iadd hx hb dL_law_628 ?_
  refine va_sld hx hb hX hbl hbA hS h1 dL_law_629 ?_
  refine lv_aload_n hx hb dL_law_630 rfl (lv_at hl 0 rfl) ?_
  refine lv_iload hx hb dL_law_631 (lv_at hl 4 rfl) ?_
  refine lv_iconst (v := 2) hx hb dL_law_633 (by decide) ?_
  refine lv_iadd hx hb dL_law_634 ?_
  refine va_sld hx hb hX hbl hbA hS h2 dL_law_635 ?_
  obtain ⟨okx, okm, hans, T1, P1, R1, hR1⟩ := a_match hR (xs (x + 1).toNatClampNeg) (xs (x + 2).toNatClampNeg)
  refine va_calli (va_runV (As := [.int (xs (x + 1).toNatClampNeg), .int (xs (x + 2).toNatClampNeg)]) (rest := []) ⟨hx, hb, hml, hown, hts⟩ (cX_match l D q cI cL tp hq u (xs (x + 1).toNatClampNeg) (xs (x + 2).toNatClampNeg) okx) (cwV 2 hts gL_law_X3_match rfl rfl rfl (by decide +kernel) ⟨(Nat.le_of_ble_eq_true rfl), (Nat.le_of_ble_eq_true rfl)⟩) ⟨PX_blind, va_recv hK hPX (ci := 6) (q0 := 0) rfl rfl, fun U hU hW => ⟨rfl, LC_PX hC hPX hS hU hW⟩⟩ rfl rfl hl.1 rfl (lv_room (Nat.le_of_ble_eq_true rfl)) dL_law_636 fit) hS (fun a _ h => LC_q hC a h) (LC_q hC) (fun r1 u1 t H1 locs1 ht hvm hu1 hB hz1 hk1 hS1 => ?_)
  have hPX := hB.1
  rw [ht] at hPX
  have hPM := LC_kM hC hPM hk1
  have hPB := LC_kB hC hPB hk1
  clear hB hk1 hz1 hvm ht
  generalize H1 = H at hPX hPM hPB hS1 ⊢
  generalize locs1 = locs at hS1 ⊢
  clear hS
  have hS := hS1
  clear hS1
  refine W.widen (k := cc) (n := ss) (Nat.le_refl _) (Nat.le_refl _) ?_
  refine lv_aload_n hx hb dL_law_639 rfl (lv_at hl 2 rfl) ?_
  refine lv_aload_n hx hb dL_law_640 rfl (lv_at hl 0 rfl) ?_
  refine lv_iload hx hb dL_law_641 (lv_at hl 4 rfl) ?_
  refine lv_iconst (v := 1) hx hb dL_law_643 (by decide) ?_
  refine lv_iadd hx hb dL_law_644 ?_
  refine va_sld hx hb hX hbl hbA hS h1 dL_law_645 ?_
  refine lv_aload_n hx hb dL_law_646 rfl (lv_at hl 0 rfl) ?_
  refine lv_iload hx hb dL_law_647 (lv_at hl 4 rfl) ?_
  refine lv_iconst (v := 2) hx hb dL_law_649 (by decide) ?_
  refine lv_iadd hx hb dL_law_650 ?_
  refine va_sld hx hb hX hbl hbA hS h2 dL_law_651 ?_
  refine va_calli (va_runV (As := [.int (xs (x + 1).toNatClampNeg), .int (xs (x + 2).toNatClampNeg)]) (rest := [.int r1]) ⟨hx, hb, hml, hown, hts⟩ (cM_match l D z cI cL hz v (xs (x + 1).toNatClampNeg) (xs (x + 2).toNatClampNeg) okm) (cwV 2 hts gL_law_X4_match rfl rfl rfl (by decide +kernel) ⟨(Nat.le_of_ble_eq_true rfl), (Nat.le_of_ble_eq_true rfl)⟩) ⟨PM_blind, va_recv hK hPM (ci := 7) (q0 := 0) rfl rfl, fun U hU hW => ⟨rfl, PM_fin hPM hK hU hW⟩⟩ rfl rfl hl.1 rfl (lv_room (Nat.le_of_ble_eq_true rfl)) dL_law_652 fit) hS (fun a _ h => LC_z hC a h) (LC_z hC) (fun r2 v1 t H1 locs1 ht hvm hv1 hB hz1 hk1 hS1 => ?_)
  have hPM := hB.1
  rw [ht] at hPM
  have hPX := LC_kX hC hPX hk1
  have hPB := LC_kB2 hC hPB hk1
  rw [← hv1] at hans hR1
  rw [← hu1] at hans hR1
  refine lv_icmp_eq (tgt := 846) hx hb dL_law_655 (by decide) (fun c1 => ?_) (fun c1 => ?_)
  · exact W.widen (k := cc + 1) (n := ss + 6) (by omega) (by omega) (kk u1 v1 f H1 locs1 ls ⟨hPX, hPM, hPB, hS1, ⟨T1, P1, R1, hR1⟩, hl⟩)
  · exact absurd hans c1
set_option maxHeartbeats 4000000 in
set_option maxRecDepth 100000 in
theorem law_10 (hC : LC l p s m meth c D q z cI cL tp b bo L xs) (hI : LI s D q z cI cL b bo u v f H locs ls x) (hcc : cc ≤ 3000) (hss : ss ≤ 100000) (h1 : vp_in (x + 1) L) (h2 : vp_in (x + 2) L) (h3 : vp_in (x + 3) L) (h4 : vp_in (x + 4) L) (h5 : vp_in (x + 5) L) (kk : ∀ (u v : St) (f : Nat → Int64) (H : Heap) (locs : List Loc) (ls : Array Slot), LI s D q z cI cL b bo u v f H locs ls x → W p l e room_1 s m #[Value.ref b] below meth c H locs (cc + 1) (ss + 6) (lw_Z below #[Value.ref b] s) (F0 m 846 ls [])) : W p l e room_1 s m #[Value.ref b] below meth c H locs cc ss (lw_Z below #[Value.ref b] s) (F0 m 660 ls []) := by
  obtain ⟨⟨hx, hb, hr, hml, hown, hts0, hX, hbl, hlocks, hgv⟩, hst, hK, hZA, hNT, hZT, hNc, hq, hz, hAq, hAz, hAo, dqz, dqo, dzo⟩ := id hC
  obtain ⟨hPX, hPM, hPB, hS, ⟨T0, P0, R0, hR⟩, hl⟩ := hI
  have hts : ∀ w ∈ wsL_law, w.before #[Value.ref b] s = true := fun w h => hts0 w (wsL_law_in w h)
  have hbA : ¬ LA s b := Nat.not_le.mpr hbl
  have fit : cc + 0 ≤ room_1.cells ∧ ss + 0 ≤ room_1.slots := ⟨by show cc + 0 ≤ 603072; omega, by show ss + 0 ≤ 7262314; omega⟩
  refine lv_aload_n hx hb dL_law_660 rfl (lv_at hl 1 rfl) ?_
  refine lv_aload_n hx hb dL_law_661 rfl (lv_at hl 0 rfl) ?_
  refine lv_iload hx hb dL_law_662 (lv_at hl 4 rfl) ?_
  refine lv_iconst (v := 1) hx hb dL_law_664 (by decide) ?_
  refine lv_iadd hx hb dL_law_665 ?_
  refine va_sld hx hb hX hbl hbA hS h1 dL_law_666 ?_
  obtain ⟨okx, okm, hans, T1, P1, R1, hR1⟩ := a_slot hR (xs (x + 1).toNatClampNeg)
  refine vp_callSi (W.runV (As := [.int (xs (x + 1).toNatClampNeg)]) (rest := []) ⟨hx, hb, hml, hown, hts⟩ (cX_slot l D q cI cL tp u (xs (x + 1).toNatClampNeg) okx) (cwV 1 hts gL_law_X3_slot rfl rfl rfl (by decide +kernel) ⟨(Nat.le_of_ble_eq_true rfl), (Nat.le_of_ble_eq_true rfl)⟩) ⟨PX_blind, va_recv hK hPX (ci := 6) (q0 := 0) rfl rfl, fun U hU hW => ⟨rfl, LC_PX hC hPX hS hU hW⟩⟩ rfl rfl hl.1 rfl (lv_room (Nat.le_of_ble_eq_true rfl)) dL_law_667 fit) (fun r1 hr1 => ?_)
  refine W.widen (k := cc) (n := ss) (Nat.le_refl _) (Nat.le_refl _) ?_
  refine lv_aload_n hx hb dL_law_670 rfl (lv_at hl 2 rfl) ?_
  refine lv_aload_n hx hb dL_law_671 rfl (lv_at hl 0 rfl) ?_
  refine lv_iload hx hb dL_law_672 (lv_at hl 4 rfl) ?_
  refine lv_iconst (v := 1) hx hb dL_law_674 (by decide) ?_
  refine lv_iadd hx hb dL_law_675 ?_
  refine va_sld hx hb hX hbl hbA hS h1 dL_law_676 ?_
  refine va_calli (va_runV (As := [.int (xs (x + 1).toNatClampNeg)]) (rest := [.int r1]) ⟨hx, hb, hml, hown, hts⟩ (cM_slot l D z cI cL hz v (xs (x + 1).toNatClampNeg) okm) (cwV 1 hts gL_law_X4_slot rfl rfl rfl (by decide +kernel) ⟨(Nat.le_of_ble_eq_true rfl), (Nat.le_of_ble_eq_true rfl)⟩) ⟨PM_blind, va_recv hK hPM (ci := 7) (q0 := 0) rfl rfl, fun U hU hW => ⟨rfl, PM_fin hPM hK hU hW⟩⟩ rfl rfl hl.1 rfl (lv_room (Nat.le_of_ble_eq_true rfl)) dL_law_677 fit) hS (fun a _ h => LC_z hC a h) (LC_z hC) (fun r2 v1 t H1 locs1 ht hvm hv1 hB hz1 hk1 hS1 => ?_)
  have hPM := hB.1
  rw [ht] at hPM
  have hPX := LC_kX hC hPX hk1
  have hPB := LC_kB2 hC hPB hk1
  rw [← hv1] at hans hR1
  rw [← hr1] at hans
  refine lv_icmp_eq (tgt := 846) hx hb dL_law_680 (by decide) (fun c1 => ?_) (fun c1 => ?_)
  · exact W.widen (k := cc + 1) (n := ss + 6) (by omega) (by omega) (kk u v1 f H1 locs1 ls ⟨hPX, hPM, hPB, hS1, ⟨T1, P1, R1, hR1⟩, hl⟩)
  · exact absurd hans c1
set_option maxHeartbeats 4000000 in
set_option maxRecDepth 100000 in
theorem law_11 (hC : LC l p s m meth c D q z cI cL tp b bo L xs) (hI : LI s D q z cI cL b bo u v f H locs ls x) (hcc : cc ≤ 3000) (hss : ss ≤ 100000) (h1 : vp_in (x + 1) L) (h2 : vp_in (x + 2) L) (h3 : vp_in (x + 3) L) (h4 : vp_in (x + 4) L) (h5 : vp_in (x + 5) L) (kk : ∀ (u v : St) (f : Nat → Int64) (H : Heap) (locs : List Loc) (ls : Array Slot), LI s D q z cI cL b bo u v f H locs ls x → W p l e room_1 s m #[Value.ref b] below meth c H locs (cc + 1) (ss + 6) (lw_Z below #[Value.ref b] s) (F0 m 846 ls [])) : W p l e room_1 s m #[Value.ref b] below meth c H locs cc ss (lw_Z below #[Value.ref b] s) (F0 m 685 ls []) := by
  obtain ⟨⟨hx, hb, hr, hml, hown, hts0, hX, hbl, hlocks, hgv⟩, hst, hK, hZA, hNT, hZT, hNc, hq, hz, hAq, hAz, hAo, dqz, dqo, dzo⟩ := id hC
  obtain ⟨hPX, hPM, hPB, hS, ⟨T0, P0, R0, hR⟩, hl⟩ := hI
  have hts : ∀ w ∈ wsL_law, w.before #[Value.ref b] s = true := fun w h => hts0 w (wsL_law_in w h)
  have hbA : ¬ LA s b := Nat.not_le.mpr hbl
  have fit : cc + 0 ≤ room_1.cells ∧ ss + 0 ≤ room_1.slots := ⟨by show cc + 0 ≤ 603072; omega, by show ss + 0 ≤ 7262314; omega⟩
  refine lv_aload_n hx hb dL_law_685 rfl (lv_at hl 1 rfl) ?_
  refine lv_aload_n hx hb dL_law_686 rfl (lv_at hl 0 rfl) ?_
  refine lv_iload hx hb dL_law_687 (lv_at hl 4 rfl) ?_
  refine lv_iconst (v := 1) hx hb dL_law_689 (by decide) ?_
  refine lv_iadd hx hb dL_law_690 ?_
  refine va_sld hx hb hX hbl hbA hS h1 dL_law_691 ?_
  refine lv_aload_n hx hb dL_law_692 rfl (lv_at hl 0 rfl) ?_
  refine lv_iload hx hb dL_law_693 (lv_at hl 4 rfl) ?_
  refine lv_iconst (v := 2) hx hb dL_law_695 (by decide) ?_
  refine lv_iadd hx hb dL_law_696 ?_
  refine va_sld hx hb hX hbl hbA hS h2 dL_law_697 ?_
  refine lv_aload_n hx hb dL_law_698 rfl (lv_at hl 0 rfl) ?_
  refine lv_iload hx hb dL_law_699 (lv_at hl 4 rfl) ?_
  refine lv_iconst (v := 3) hx hb dL_law_701 (by decide) ?_
  refine lv_iadd hx hb dL_law_702 ?_
  refine va_sld hx hb hX hbl hbA hS h3 dL_law_703 ?_
  refine lv_aload_n hx hb dL_law_704 rfl (lv_at hl 0 rfl) ?_
  refine lv_iload hx hb dL_law_705 (lv_at hl 4 rfl) ?_
  refine lv_iconst (v := 4) hx hb dL_law_707 (by decide) ?_
  refine lv_iadd hx hb dL_law_708 ?_
  refine va_sld hx hb hX hbl hbA hS h4 dL_law_709 ?_
  obtain ⟨okx, okm, hans, T1, P1, R1, hR1⟩ := a_rule hR (xs (x + 1).toNatClampNeg) (xs (x + 2).toNatClampNeg) (xs (x + 3).toNatClampNeg) (xs (x + 4).toNatClampNeg)
  refine va_calli (va_runV (As := [.int (xs (x + 1).toNatClampNeg), .int (xs (x + 2).toNatClampNeg), .int (xs (x + 3).toNatClampNeg), .int (xs (x + 4).toNatClampNeg)]) (rest := []) ⟨hx, hb, hml, hown, hts⟩ (cX_rule l D q cI cL tp hq u (xs (x + 1).toNatClampNeg) (xs (x + 2).toNatClampNeg) (xs (x + 3).toNatClampNeg) (xs (x + 4).toNatClampNeg) okx) (cwV 4 hts gL_law_X3_rule rfl rfl rfl (by decide +kernel) ⟨(Nat.le_of_ble_eq_true rfl), (Nat.le_of_ble_eq_true rfl)⟩) ⟨PX_blind, va_recv hK hPX (ci := 6) (q0 := 0) rfl rfl, fun U hU hW => ⟨rfl, LC_PX hC hPX hS hU hW⟩⟩ rfl rfl hl.1 rfl (lv_room (Nat.le_of_ble_eq_true rfl)) dL_law_710 fit) hS (fun a _ h => LC_q hC a h) (LC_q hC) (fun r1 u1 t H1 locs1 ht hvm hu1 hB hz1 hk1 hS1 => ?_)
  have hPX := hB.1
  rw [ht] at hPX
  have hPM := LC_kM hC hPM hk1
  have hPB := LC_kB hC hPB hk1
  clear hB hk1 hz1 hvm ht
  generalize H1 = H at hPX hPM hPB hS1 ⊢
  generalize locs1 = locs at hS1 ⊢
  clear hS
  have hS := hS1
  clear hS1
  refine W.widen (k := cc) (n := ss) (Nat.le_refl _) (Nat.le_refl _) ?_
  refine lv_aload_n hx hb dL_law_713 rfl (lv_at hl 2 rfl) ?_
  refine lv_aload_n hx hb dL_law_714 rfl (lv_at hl 0 rfl) ?_
  refine lv_iload hx hb dL_law_715 (lv_at hl 4 rfl) ?_
  refine lv_iconst (v := 1) hx hb dL_law_717 (by decide) ?_
  refine lv_iadd hx hb dL_law_718 ?_
  refine va_sld hx hb hX hbl hbA hS h1 dL_law_719 ?_
  refine lv_aload_n hx hb dL_law_720 rfl (lv_at hl 0 rfl) ?_
  refine lv_iload hx hb dL_law_721 (lv_at hl 4 rfl) ?_
  refine lv_iconst (v := 2) hx hb dL_law_723 (by decide) ?_
  refine lv_iadd hx hb dL_law_724 ?_
  refine va_sld hx hb hX hbl hbA hS h2 dL_law_725 ?_
  refine lv_aload_n hx hb dL_law_726 rfl (lv_at hl 0 rfl) ?_
  refine lv_iload hx hb dL_law_727 (lv_at hl 4 rfl) ?_
  refine lv_iconst (v := 3) hx hb dL_law_729 (by decide) ?_
  refine lv_iadd hx hb dL_law_730 ?_
  refine va_sld hx hb hX hbl hbA hS h3 dL_law_731 ?_
  refine lv_aload_n hx hb dL_law_732 rfl (lv_at hl 0 rfl) ?_
  refine lv_iload hx hb dL_law_733 (lv_at hl 4 rfl) ?_
  refine lv_iconst (v := 4) hx hb dL_law_735 (by decide) ?_
  refine lv_iadd hx hb dL_law_736 ?_
  refine va_sld hx hb hX hbl hbA hS h4 dL_law_737 ?_
  refine va_calli (va_runV (As := [.int (xs (x + 1).toNatClampNeg), .int (xs (x + 2).toNatClampNeg), .int (xs (x + 3).toNatClampNeg), .int (xs (x + 4).toNatClampNeg)]) (rest := [.int r1]) ⟨hx, hb, hml, hown, hts⟩ (cM_rule l D z cI cL hz v (xs (x + 1).toNatClampNeg) (xs (x + 2).toNatClampNeg) (xs (x + 3).toNatClampNeg) (xs (x + 4).toNatClampNeg) okm) (cwV 4 hts gL_law_X4_rule rfl rfl rfl (by decide +kernel) ⟨(Nat.le_of_ble_eq_true rfl), (Nat.le_of_ble_eq_true rfl)⟩) ⟨PM_blind, va_recv hK hPM (ci := 7) (q0 := 0) rfl rfl, fun U hU hW => ⟨rfl, PM_fin hPM hK hU hW⟩⟩ rfl rfl hl.1 rfl (lv_room (Nat.le_of_ble_eq_true rfl)) dL_law_738 fit) hS (fun a _ h => LC_z hC a h) (LC_z hC) (fun r2 v1 t H1 locs1 ht hvm hv1 hB hz1 hk1 hS1 => ?_)
  have hPM := hB.1
  rw [ht] at hPM
  have hPX := LC_kX hC hPX hk1
  have hPB := LC_kB2 hC hPB hk1
  rw [← hv1] at hans hR1
  rw [← hu1] at hans hR1
  refine lv_icmp_eq (tgt := 846) hx hb dL_law_741 (by decide) (fun c1 => ?_) (fun c1 => ?_)
  · exact W.widen (k := cc + 1) (n := ss + 6) (by omega) (by omega) (kk u1 v1 f H1 locs1 ls ⟨hPX, hPM, hPB, hS1, ⟨T1, P1, R1, hR1⟩, hl⟩)
  · exact absurd hans c1
end LCases
