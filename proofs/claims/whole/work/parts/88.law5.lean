def wsLaw2 : List Cond := wsL_law ++ (atC.filter goodWord ++ atA.filter goodWord)
theorem inCA : ∀ w ∈ atC.filter goodWord ++ atA.filter goodWord, w ∈ lw_tbl := by decide +kernel
theorem gLN5 : GoodIn wsLaw2 (va_wsS RL 47 yL_number wsLN) := by
  refine goodIn_app ?_ (goodIn_app (gin_mono ggL_law_L_number (fun w h => List.mem_append_left _ h)) (goodIn_sub (fun w h => List.mem_append_right _ h) good_CA))
  exact gin_mono (a := wsL_law) (goodIn_of _ (by decide +kernel)) (fun w h => List.mem_append_left _ h)
section LCases
variable {l : Launch} {p : Program} {e : Env} {s : State} {m : MethodId} {below : List Frame} {meth : Method} {c : Code} {D : va_G} {q z : Nat → Nat} {cI cL : ClassId} {tp b bo L : Nat} {xs : Nat → Int32} {u v : St} {f : Nat → Int64} {H : Heap} {locs : List Loc} {ls : Array Slot} {x : Int32} {cc ss : Nat}
set_option maxHeartbeats 4000000 in
set_option maxRecDepth 100000 in
theorem law_5 (hC : LC l p s m meth c D q z cI cL tp b bo L xs) (hI : LI s D q z cI cL b bo u v f H locs ls x) (hcc : cc ≤ 3000) (hss : ss ≤ 100000) (h1 : vp_in (x + 1) L) (h2 : vp_in (x + 2) L) (h3 : vp_in (x + 3) L) (h4 : vp_in (x + 4) L) (h5 : vp_in (x + 5) L) (kk : ∀ (u v : St) (f : Nat → Int64) (H : Heap) (locs : List Loc) (ls : Array Slot), LI s D q z cI cL b bo u v f H locs ls x → W p l e room_1 s m #[Value.ref b] below meth c H locs (cc + 1) (ss + 6) (lw_Z below #[Value.ref b] s) (F0 m 846 ls [])) : W p l e room_1 s m #[Value.ref b] below meth c H locs cc ss (lw_Z below #[Value.ref b] s) (F0 m 397 ls []) := by
  obtain ⟨⟨hx, hb, hr, hml, hown, hts0, hX, hbl, hlocks, hgv⟩, hst, hK, hZA, hNT, hZT, hNc, hq, hz, hAq, hAz, hAo, dqz, dqo, dzo⟩ := id hC
  obtain ⟨hPX, hPM, hPB, hS, ⟨T0, P0, R0, hR⟩, hl⟩ := hI
  have hts : ∀ w ∈ wsL_law, w.before #[Value.ref b] s = true := fun w h => hts0 w (wsL_law_in w h)
  have hbA : ¬ LA s b := Nat.not_le.mpr hbl
  have fit : cc + 0 ≤ room_1.cells ∧ ss + 0 ≤ room_1.slots := ⟨by show cc + 0 ≤ 603072; omega, by show ss + 0 ≤ 7262314; omega⟩
  have hts2 : ∀ w ∈ wsLaw2, w.before #[Value.ref b] s = true := fun w h => (List.mem_append.mp h).elim (fun h => hts w h) (fun h => hts0 w (inCA w h))
  have fit1 : cc + 1 ≤ room_1.cells ∧ ss + 6 ≤ room_1.slots := ⟨by show cc + 1 ≤ 603072; omega, by show ss + 6 ≤ 7262314; omega⟩
  have fit2 : (cc + 1) + 0 ≤ room_1.cells ∧ (ss + 6) + 0 ≤ room_1.slots := ⟨by show (cc + 1) + 0 ≤ 603072; omega, by show (ss + 6) + 0 ≤ 7262314; omega⟩
  obtain ⟨okx, okm, kx, w, y, v9, hn, hm, hk9, hy9, hR9⟩ := a_number hR (xs (x + 1).toNatClampNeg) (xs (x + 2).toNatClampNeg) (xs (x + 3).toNatClampNeg)
  refine lv_aload_n hx hb dL_law_397 rfl (lv_at hl 1 rfl) ?_
  refine lv_aload_n hx hb dL_law_398 rfl (lv_at hl 0 rfl) ?_
  refine lv_iload hx hb dL_law_399 (lv_at hl 4 rfl) ?_
  refine lv_iconst (v := 1) hx hb dL_law_401 (by decide) ?_
  refine lv_iadd hx hb dL_law_402 ?_
  refine va_sld hx hb hX hbl hbA hS h1 dL_law_403 ?_
  refine lv_aload_n hx hb dL_law_404 rfl (lv_at hl 0 rfl) ?_
  refine lv_iload hx hb dL_law_405 (lv_at hl 4 rfl) ?_
  refine lv_iconst (v := 2) hx hb dL_law_407 (by decide) ?_
  refine lv_iadd hx hb dL_law_408 ?_
  refine va_sld hx hb hX hbl hbA hS h2 dL_law_409 ?_
  refine lv_aload_n hx hb dL_law_410 rfl (lv_at hl 0 rfl) ?_
  refine lv_iload hx hb dL_law_411 (lv_at hl 4 rfl) ?_
  refine lv_iconst (v := 3) hx hb dL_law_413 (by decide) ?_
  refine lv_iadd hx hb dL_law_414 ?_
  refine va_sld hx hb hX hbl hbA hS h3 dL_law_415 ?_
  refine lv_aload_n hx hb dL_law_416 rfl (lv_at hl 3 rfl) ?_
  refine vx_calli (A1 := fun a => a = bo) (AX := fun _ => False) (vx_runSX (As := [.ref (q 0), .int (xs (x + 1).toNatClampNeg), .int (xs (x + 2).toNatClampNeg), .int (xs (x + 3).toNatClampNeg), .ref bo]) (rest := []) ⟨hx, hb, hml, hown, hts2⟩ (cLaw_number l hst D q cI cL tp u bo f (xs (x + 1).toNatClampNeg) (xs (x + 2).toNatClampNeg) (xs (x + 3).toNatClampNeg) okx) (vx_cwSW 5 hts2 gLN5 rfl rfl rfl (by decide +kernel) ⟨(Nat.le_of_ble_eq_true rfl), (Nat.le_of_ble_eq_true rfl)⟩) ⟨PL_blind, fun U hU hW => ⟨rfl, ⟨LC_PX hC hPX hS hU hW, hNT.warm hW, by rw [hU]; exact ((hZT.kept hS.2.1).narrow (LC_q hC)).moved hW.alike⟩, by rw [hU]; exact hPB, hNc.moved hW.alike⟩⟩ rfl rfl hl.1 rfl (lv_room (Nat.le_of_ble_eq_true rfl)) dL_law_417 fit1) hS (fun a _ h => by rw [h]; exact hAo) (fun a h => by rw [h]; exact hAo) (fun _ _ h => h.elim) (fun E ce q9 u9 t H1 locs1 ht hvm hpx hBX hz1 hk1 hS1 hce hcv hcl => False.elim hpx) (fun r f1 t H1 locs1 ht hvm hrr hB hz1 hk1 hS1 => ?_)
  have hPB := hB
  rw [ht] at hPB
  have hPX := LC_oX hC hPX hk1
  have hPM := LC_oM hC hPM hk1
  clear hB hk1 hz1 hvm ht
  generalize H1 = H at hPX hPM hPB hS1 ⊢
  generalize locs1 = locs at hS1 ⊢
  clear hS
  have hS := hS1
  clear hS1
  rw [hn] at hrr
  obtain ⟨hr1, hr0⟩ := hrr
  have hr1 : r = kx := hr1
  have hr0 : r = 0 → f1 0 = w := hr0
  refine lv_istore (lv' := [(5, .int r), (0, .ref b), (1, .ref (q 0)), (2, .ref (z 0)), (3, .ref bo), (4, .int x)]) hx hb dL_law_420 hl (by decide) rfl (fun ls hl => ?_)
  refine lv_aload_n hx hb dL_law_422 rfl (lv_at hl 3 rfl) ?_
  refine lv_aload_n hx hb dL_law_423 rfl (lv_at hl 1 rfl) ?_
  refine lv_iload hx hb dL_law_424 (lv_at hl 5 rfl) ?_
  refine lv_iconst (v := 1) hx hb dL_law_426 (by decide) ?_
  refine lv_iadd hx hb dL_law_427 ?_
  refine va_sld hx hb hX hbl hbA hS h1 dL_law_428 ?_
  refine lv_aload_n hx hb dL_law_429 rfl (lv_at hl 1 rfl) ?_
  refine lv_iload hx hb dL_law_430 (lv_at hl 5 rfl) ?_
  refine lv_iconst (v := 2) hx hb dL_law_432 (by decide) ?_
  refine lv_iadd hx hb dL_law_433 ?_
  refine va_sld hx hb hX hbl hbA hS h2 dL_law_434 ?_
  refine lv_aload_n hx hb dL_law_435 rfl (lv_at hl 1 rfl) ?_
  refine lv_iload hx hb dL_law_436 (lv_at hl 5 rfl) ?_
  refine lv_iconst (v := 3) hx hb dL_law_438 (by decide) ?_
  refine lv_iadd hx hb dL_law_439 ?_
  refine va_sld hx hb hX hbl hbA hS h3 dL_law_440 ?_
  refine va_calll (va_runV (As := [.int (xs (x + 1).toNatClampNeg), .int (xs (x + 2).toNatClampNeg), .int (xs (x + 3).toNatClampNeg)]) (rest := []) ⟨hx, hb, hml, hown, hts⟩ (cM_number l D z cI cL hz v (xs (x + 1).toNatClampNeg) (xs (x + 2).toNatClampNeg) (xs (x + 3).toNatClampNeg) okm) (cwV 3 hts gL_law_X4_number rfl rfl rfl (by decide +kernel) ⟨(Nat.le_of_ble_eq_true rfl), (Nat.le_of_ble_eq_true rfl)⟩) ⟨PM_blind, va_recv hK hPM (ci := 7) (q0 := 0) rfl rfl, fun U hU hW => ⟨rfl, PM_fin hPM hK hU hW⟩⟩ rfl rfl hl.1 rfl (lv_room (Nat.le_of_ble_eq_true rfl)) dL_law_441 fit2) hS (fun a _ h => LC_z hC a h) (LC_z hC) (fun r2 v1 t H1 locs1 ht hvm hv1 hB hz1 hk1 hS1 => ?_)
  have hPM := hB.1
  rw [ht] at hPM
  have hPX := LC_kX hC hPX hk1
  have hPB := LC_kB2 hC hPB hk1
  rw [hm] at hv1
  obtain ⟨rfl, rfl⟩ := Prod.mk.inj hv1
  clear hv1
  refine W.widen (k := cc + 1) (n := ss + 6) (Nat.le_refl _) (Nat.le_refl _) ?_
  refine lv_lstore (lv' := [(6, .long r2), (5, .int r), (0, .ref b), (1, .ref (q 0)), (2, .ref (z 0)), (3, .ref bo), (4, .int x)]) hx hb dL_law_444 hl (by decide) rfl (fun ls hl => ?_)
  refine lv_aload_n hx hb dL_law_446 rfl (lv_at hl 4 rfl) ?_
  refine vp_callSi (W.runV (As := []) (rest := []) ⟨hx, hb, hml, hown, hts⟩ (cM_thrown l D z cI cL v1) (cwV 0 hts gL_law_X4_thrown rfl rfl rfl (by decide +kernel) ⟨(Nat.le_of_ble_eq_true rfl), (Nat.le_of_ble_eq_true rfl)⟩) ⟨PM_blind, va_recv hK hPM (ci := 7) (q0 := 0) rfl rfl, fun U hU hW => ⟨rfl, PM_fin hPM hK hU hW⟩⟩ rfl rfl hl.1 rfl (lv_room (Nat.le_of_ble_eq_true rfl)) dL_law_447 fit2) (fun r3 hr3 => ?_)
  refine W.widen (k := cc + 1) (n := ss + 6) (Nat.le_refl _) (Nat.le_refl _) ?_
  have e3 : r3 = r := by rw [hr3, hr1, ← hk9]; rfl
  have hfin : W p l e room_1 s m #[Value.ref b] below meth c H1 locs1 (cc + 1) (ss + 6) (lw_Z below #[Value.ref b] s) (F0 m 473 ls []) := by
    refine lv_goto (tgt := 846) hx hb dL_law_473 (by decide) ?_
    exact kk u v1 f1 H1 locs1 ls ⟨hPX, hPM, hPB, hS1, ⟨T0, P0, R0, hR9⟩, lv_sub hl [2, 3, 4, 5, 6] rfl⟩
  refine lv_iload hx hb dL_law_450 (lv_at hl 1 rfl) ?_
  refine lv_icmp_eq (tgt := 457) hx hb dL_law_452 (by decide) (fun c1 => ?_) (fun c1 => ?_)
  · refine lv_iload hx hb dL_law_457 (lv_at hl 1 rfl) ?_
    refine lv_if_ne (tgt := 473) hx hb dL_law_459 (by decide) (fun c2 => ?_) (fun c2 => ?_)
    · exact hfin
    · refine lv_aload_n hx hb dL_law_462 rfl (lv_at hl 5 rfl) ?_
      refine lv_iconst (v := 0) hx hb dL_law_463 (by decide) ?_
      refine va_lald hx hb hK hPB 0 1 rfl rfl (show vp_in 0 1 from vp_in_nI (n := 0) (by omega) (by decide)) dL_law_464 ?_
      refine lv_lload hx hb dL_law_465 (lv_at hl 0 rfl) ?_
      refine W.lcmp hx hb dL_law_467 ?_
      refine lv_if_eq (tgt := 473) hx hb dL_law_468 (by decide) (fun c3 => ?_) (fun c3 => ?_)
      · exact hfin
      · exact absurd ((lg_cmp_eq _ _).mpr ((hr0 c2).trans (hy9 (hr1.symm.trans c2)).symm)) c3
  · exact absurd e3 c1
end LCases
