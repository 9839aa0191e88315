theorem vp_x {x : Int32} {j L k : Nat} (hx : x = nI (6 * j)) (hj : 6 * j + 6 ≤ L) (hL : L ≤ 3072) (hk : k < 6) (c : Int32) (hc : c = nI k) : vp_in (x + c) L := by
  rw [hx, hc, nI_add]
  exact vp_in_nI (by omega) (by omega)
section LCases
variable {l : Launch} {p : Program} {e : Env} {s : State} {m : MethodId} {below : List Frame} {meth : Method} {c : Code} {D : va_G} {q z : Nat → Nat} {cI cL : ClassId} {tp b bo L : Nat} {xs : Nat → Int32} {u v : St} {f : Nat → Int64} {H : Heap} {locs : List Loc} {ls : Array Slot} {x : Int32} {cc ss : Nat}
set_option maxHeartbeats 4000000 in
set_option maxRecDepth 100000 in
theorem law_loop (hL : L ≤ 3072) (hC : LC l p s m meth c D q z cI cL tp b bo L xs) : ∀ (n j : Nat), j ≤ 512 → 513 ≤ n + j → ∀ (u v : St) (f : Nat → Int64) (H : Heap) (locs : List Loc) (ls : Array Slot) (x : Int32), x = nI (6 * j) → LI s D q z cI cL b bo u v f H locs ls x → W p l e room_1 s m #[Value.ref b] below meth c H locs (100 + j) (20000 + 6 * j) (lw_Z below #[Value.ref b] s) (F0 m 23 ls []) := by
  obtain ⟨hx, hb, hr, hml, hown, hts0, hX, hbl, hlocks, hgv⟩ := id hC.1
  have hbA : ¬ LA s b := Nat.not_le.mpr hbl
  intro n
  induction n with
  | zero => intro j h1 h2; exact absurd h2 (by omega)
  | succ n ih =>
    intro j hj hnj u v f H locs ls x ex hI
    obtain ⟨hPX, hPM, hPB, hS, hR, hl⟩ := id hI
    refine lv_iload hx hb dL_law_23 (lv_at hl 4 rfl) ?_
    refine lv_aload_n hx hb dL_law_25 rfl (lv_at hl 0 rfl) ?_
    refine va_slen hx hb hX hbl hbA hS dL_law_26 ?_
    refine lv_bipush (v := 6) hx hb dL_law_27 (by decide) ?_
    refine lv_isub hx hb dL_law_29 ?_
    have eL : (Int32.ofNat L - 6).toInt = (L : Int) - 6 := by
      have h6 : (6 : Int32) = nI 6 := by decide
      have := pk_sub_toInt (a := L) (b := 6) (by omega) (by decide)
      rw [h6]
      exact this
    refine lv_icmp_gt (tgt := 852) hx hb dL_law_30 (by decide) (fun c1 => ?_) (fun c1 => ?_)
    · refine lv_iconst (v := 1) hx hb dL_law_852 (by decide) ?_
      refine va_forget (fun a ha => hS.2.2 a ha) ?_
      refine W.widen (k := 603072) (n := 7262314) (by omega) (by omega) ?_
      exact lw_ret hx hb hr hlocks dL_law_853
    · have h6 : 6 * j + 6 ≤ L := by
        rw [pu_lt, eL, ex, nI_toInt (by omega)] at c1
        omega
      have e0 : vp_in x L := by rw [ex]; exact vp_in_nI (by omega) (by omega)
      have v1 := vp_x ex h6 hL (k := 1) (by omega) 1 (by decide)
      have v2 := vp_x ex h6 hL (k := 2) (by omega) 2 (by decide)
      have v3 := vp_x ex h6 hL (k := 3) (by omega) 3 (by decide)
      have v4 := vp_x ex h6 hL (k := 4) (by omega) 4 (by decide)
      have v5 := vp_x ex h6 hL (k := 5) (by omega) 5 (by decide)
      have kk : ∀ (u v : St) (f : Nat → Int64) (H : Heap) (locs : List Loc) (ls : Array Slot), LI s D q z cI cL b bo u v f H locs ls x → W p l e room_1 s m #[Value.ref b] below meth c H locs (100 + j + 1) (20000 + 6 * j + 6) (lw_Z below #[Value.ref b] s) (F0 m 846 ls []) := by
        intro u v f H locs ls hI
        obtain ⟨aX, aM, aB, aS, aR, al⟩ := hI
        have ex6 : x + Int32.ofInt 6 = nI (6 * (j + 1)) := by
          rw [ex, show (Int32.ofInt 6) = nI 6 by decide, nI_add]; congr 1
        refine lv_iinc (v := nI (6 * (j + 1))) (lv' := [(4, .int (nI (6 * (j + 1)))), (0, .ref b), (1, .ref (q 0)), (2, .ref (z 0)), (3, .ref bo)]) hx hb dL_law_846 al (k := 4) rfl ex6 (by decide) rfl (fun ls hl => ?_)
        refine lv_goto (tgt := 23) hx hb dL_law_849 (by decide) ?_
        have := ih (j + 1) (by omega) (by omega) u v f H locs ls _ rfl ⟨aX, aM, aB, aS, aR, lv_sub hl [1, 2, 3, 4, 0] rfl⟩
        exact this
      have hcc : 100 + j ≤ 3000 := by omega
      have hss : 20000 + 6 * j ≤ 100000 := by omega
      refine lv_aload_n hx hb dL_law_33 rfl (lv_at hl 0 rfl) ?_
      refine lv_iload hx hb dL_law_34 (lv_at hl 4 rfl) ?_
      refine va_sld hx hb hX hbl hbA hS e0 dL_law_36 ?_
      refine lv_bipush (v := 15) hx hb dL_law_37 (by decide) ?_
      refine lv_iand hx hb dL_law_39 ?_
      refine lv_topi (fun y hy => ?_)
      clear hy
      by_cases hlo : y.toInt < 0 ∨ 15 < y.toInt
      · refine lv_tableOut (tgt := 846) hx hb dL_law_40 hlo (by decide) ?_
        exact W.widen (k := 100 + j + 1) (n := 20000 + 6 * j + 6) (by omega) (by omega) (kk u v f H locs ls hI)
      · obtain ⟨k, hk, rfl⟩ : ∃ k, k < 16 ∧ y = nI k := by
          have h0 : ¬ y < 0 := by rw [pu_lt, Int32.toInt_zero]; exact fun q => hlo (Or.inl q)
          obtain ⟨k, hk, rfl⟩ := nI_of h0
          refine ⟨k, ?_, rfl⟩
          rw [nI_toInt hk] at hlo
          omega
        rcases (show k = 0 ∨ k = 1 ∨ k = 2 ∨ k = 3 ∨ k = 4 ∨ k = 5 ∨ k = 6 ∨ k = 7 ∨ k = 8 ∨ k = 9 ∨ k = 10 ∨ k = 11 ∨ k = 12 ∨ k = 13 ∨ k = 14 ∨ k = 15 by omega) with rfl | rfl | rfl | rfl | rfl | rfl | rfl | rfl | rfl | rfl | rfl | rfl | rfl | rfl | rfl | rfl
        · exact lv_tableIn (off := 80) (tgt := 120) hx hb dL_law_40 (by decide) (by decide) (by rfl) (by decide) (law_0 hC hI hcc hss v1 v2 v3 v4 v5 kk)
        · exact lv_tableIn (off := 117) (tgt := 157) hx hb dL_law_40 (by decide) (by decide) (by rfl) (by decide) (law_1 hC hI hcc hss v1 v2 v3 v4 v5 kk)
        · exact lv_tableIn (off := 154) (tgt := 194) hx hb dL_law_40 (by decide) (by decide) (by rfl) (by decide) (law_2 hC hI hcc hss v1 v2 v3 v4 v5 kk)
        · exact lv_tableIn (off := 215) (tgt := 255) hx hb dL_law_40 (by decide) (by decide) (by rfl) (by decide) (law_3 hC hI hcc hss v1 v2 v3 v4 v5 kk)
        · exact lv_tableIn (off := 264) (tgt := 304) hx hb dL_law_40 (by decide) (by decide) (by rfl) (by decide) (law_4 hC hI hcc hss v1 v2 v3 v4 v5 kk)
        · exact lv_tableIn (off := 357) (tgt := 397) hx hb dL_law_40 (by decide) (by decide) (by rfl) (by decide) (law_5 hC hI hcc hss v1 v2 v3 v4 v5 kk)
        · exact lv_tableIn (off := 436) (tgt := 476) hx hb dL_law_40 (by decide) (by decide) (by rfl) (by decide) (law_6 hC hI hcc hss v1 v2 v3 v4 v5 kk)
        · exact lv_tableIn (off := 485) (tgt := 525) hx hb dL_law_40 (by decide) (by decide) (by rfl) (by decide) (law_7 hC hI hcc hss v1 v2 v3 v4 v5 kk)
        · exact lv_tableIn (off := 522) (tgt := 562) hx hb dL_law_40 (by decide) (by decide) (by rfl) (by decide) (law_8 hC hI hcc hss v1 v2 v3 v4 v5 kk)
        · exact lv_tableIn (off := 583) (tgt := 623) hx hb dL_law_40 (by decide) (by decide) (by rfl) (by decide) (law_9 hC hI hcc hss v1 v2 v3 v4 v5 kk)
        · exact lv_tableIn (off := 620) (tgt := 660) hx hb dL_law_40 (by decide) (by decide) (by rfl) (by decide) (law_10 hC hI hcc hss v1 v2 v3 v4 v5 kk)
        · exact lv_tableIn (off := 645) (tgt := 685) hx hb dL_law_40 (by decide) (by decide) (by rfl) (by decide) (law_11 hC hI hcc hss v1 v2 v3 v4 v5 kk)
        · exact lv_tableIn (off := 706) (tgt := 746) hx hb dL_law_40 (by decide) (by decide) (by rfl) (by decide) (law_12 hC hI hcc hss v1 v2 v3 v4 v5 kk)
        · exact lv_tableIn (off := 731) (tgt := 771) hx hb dL_law_40 (by decide) (by decide) (by rfl) (by decide) (law_13 hC hI hcc hss v1 v2 v3 v4 v5 kk)
        · exact lv_tableIn (off := 768) (tgt := 808) hx hb dL_law_40 (by decide) (by decide) (by rfl) (by decide) (law_14 hC hI hcc hss v1 v2 v3 v4 v5 kk)
        · exact lv_tableIn (off := 793) (tgt := 833) hx hb dL_law_40 (by decide) (by decide) (by rfl) (by decide) (law_15 hC hI hcc hss v1 v2 v3 v4 v5 kk)
end LCases
