section LCases
variable {l : Launch} {p : Program} {e : Env} {s : State} {m : MethodId} {below : List Frame} {meth : Method} {c : Code} {D : va_G} {q z : Nat → Nat} {cI cL : ClassId} {tp b bo L : Nat} {xs : Nat → Int32} {u v : St} {f : Nat → Int64} {H : Heap} {locs : List Loc} {ls : Array Slot} {x : Int32} {cc ss : Nat}
set_option maxHeartbeats 4000000 in
set_option maxRecDepth 100000 in
theorem law_1 (hC : LC l p s m meth c D q z cI cL tp b bo L xs) (hI : LI s D q z cI cL b bo u v f H locs ls x) (hcc : cc ≤ 3000) (hss : ss ≤ 100000) (h1 : vp_in (x + 1) L) (h2 : vp_in (x + 2) L) (h3 : vp_in (x + 3) L) (h4 : vp_in (x + 4) L) (h5 : vp_in (x + 5) L) (kk : ∀ (u v : St) (f : Nat → Int64) (H : Heap) (locs : List Loc) (ls : Array Slot), LI s D q z cI cL b bo u v f H locs ls x → W p l e room_1 s m #[Value.ref b] below meth c H locs (cc + 1) (ss + 6) (lw_Z below #[Value.ref b] s) (F0 m 846 ls [])) : W p l e room_1 s m #[Value.ref b] below meth c H locs cc ss (lw_Z below #[Value.ref b] s) (F0 m 157 ls []) := by
  obtain ⟨⟨hx, hb, hr, hml, hown, hts0, hX, hbl, hlocks, hgv⟩, hst, hK, hZA, hNT, hZT, hNc, hq, hz, hAq, hAz, hAo, dqz, dqo, dzo⟩ := id hC
  obtain ⟨hPX, hPM, hPB, hS, ⟨T0, P0, R0, hR⟩, hl⟩ := hI
  have hts : ∀ w ∈ wsL_law, w.before #[Value.ref b] s = true := fun w h => hts0 w (wsL_law_in w h)
  have hbA : ¬ LA s b := Nat.not_le.mpr hbl
  have fit : cc + 0 ≤ room_1.cells ∧ ss + 0 ≤ room_1.slots := ⟨by show cc + 0 ≤ 603072; omega, by show ss + 0 ≤ 7262314; omega⟩
  refine lv_aload_n hx hb dL_law_157 rfl (lv_at hl 1 rfl) ?_
  refine lv_aload_n hx hb dL_law_158 rfl (lv_at hl 0 rfl) ?_
  refine lv_iload hx hb dL_law_159 (lv_at hl 4 rfl) ?_
  refine lv_iconst (v := 1) hx hb dL_law_161 (by decide) ?_
  refine lv_iadd hx hb dL_law_162 ?_
  refine va_sld hx hb hX hbl hbA hS h1 dL_law_163 ?_
  refine lv_aload_n hx hb dL_law_164 rfl (lv_at hl 0 rfl) ?_
  refine lv_iload hx hb dL_law_165 (lv_at hl 4 rfl) ?_
  refine lv_iconst (v := 2) hx hb dL_law_167 (by decide) ?_
  refine lv_iadd hx hb dL_law_168 ?_
  refine va_sld hx hb hX hbl hbA hS h2 dL_law_169 ?_
  obtain ⟨okx, okm, hans, T1, P1, R1, hR1⟩ := a_row hR (xs (x + 1).toNatClampNeg) (xs (x + 2).toNatClampNeg)
  refine va_calli (va_runV (As := [.int (xs (x + 1).toNatClampNeg), .int (xs (x + 2).toNatClampNeg)]) (rest := []) ⟨hx, hb, hml, hown, hts⟩ (cX_row l D q cI cL tp hq u (xs (x + 1).toNatClampNeg) (xs (x + 2).toNatClampNeg) okx) (cwV 2 hts gL_law_X3_row rfl rfl rfl (by decide +kernel) ⟨(Nat.le_of_ble_eq_true rfl), (Nat.le_of_ble_eq_true rfl)⟩) ⟨PX_blind, va_recv hK hPX (ci := 6) (q0 := 0) rfl rfl, fun U hU hW => ⟨rfl, LC_PX hC hPX hS hU hW⟩⟩ rfl rfl hl.1 rfl (lv_room (Nat.le_of_ble_eq_true rfl)) dL_law_170 fit) hS (fun a _ h => LC_q hC a h) (LC_q hC) (fun r1 u1 t H1 locs1 ht hvm hu1 hB hz1 hk1 hS1 => ?_)
  have hPX := hB.1
  rw [ht] at hPX
  have hPM := LC_kM hC hPM hk1
  have hPB := LC_kB hC hPB hk1
  clear hB hk1 hz1 hvm ht
  generalize H1 = H at hPX hPM hPB hS1 ⊢
  generalize locs1 = locs at hS1 ⊢
  clear hS
  have hS := hS1
  clear hS1
  refine W.widen (k := cc) (n := ss) (Nat.le_refl _) (Nat.le_refl _) ?_
  refine lv_aload_n hx hb dL_law_173 rfl (lv_at hl 2 rfl) ?_
  refine lv_aload_n hx hb dL_law_174 rfl (lv_at hl 0 rfl) ?_
  refine lv_iload hx hb dL_law_175 (lv_at hl 4 rfl) ?_
  refine lv_iconst (v := 1) hx hb dL_law_177 (by decide) ?_
  refine lv_iadd hx hb dL_law_178 ?_
  refine va_sld hx hb hX hbl hbA hS h1 dL_law_179 ?_
  refine lv_aload_n hx hb dL_law_180 rfl (lv_at hl 0 rfl) ?_
  refine lv_iload hx hb dL_law_181 (lv_at hl 4 rfl) ?_
  refine lv_iconst (v := 2) hx hb dL_law_183 (by decide) ?_
  refine lv_iadd hx hb dL_law_184 ?_
  refine va_sld hx hb hX hbl hbA hS h2 dL_law_185 ?_
  refine va_calli (va_runV (As := [.int (xs (x + 1).toNatClampNeg), .int (xs (x + 2).toNatClampNeg)]) (rest := [.int r1]) ⟨hx, hb, hml, hown, hts⟩ (cM_row l D z cI cL hz v (xs (x + 1).toNatClampNeg) (xs (x + 2).toNatClampNeg) okm) (cwV 2 hts gL_law_X4_row rfl rfl rfl (by decide +kernel) ⟨(Nat.le_of_ble_eq_true rfl), (Nat.le_of_ble_eq_true rfl)⟩) ⟨PM_blind, va_recv hK hPM (ci := 7) (q0 := 0) rfl rfl, fun U hU hW => ⟨rfl, PM_fin hPM hK hU hW⟩⟩ rfl rfl hl.1 rfl (lv_room (Nat.le_of_ble_eq_true rfl)) dL_law_186 fit) hS (fun a _ h => LC_z hC a h) (LC_z hC) (fun r2 v1 t H1 locs1 ht hvm hv1 hB hz1 hk1 hS1 => ?_)
  have hPM := hB.1
  rw [ht] at hPM
  have hPX := LC_kX hC hPX hk1
  have hPB := LC_kB2 hC hPB hk1
  rw [← hv1] at hans hR1
  rw [← hu1] at hans hR1
  refine lv_icmp_eq (tgt := 846) hx hb dL_law_189 (by decide) (fun c1 => ?_) (fun c1 => ?_)
  · exact W.widen (k := cc + 1) (n := ss + 6) (by omega) (by omega) (kk u1 v1 f H1 locs1 ls ⟨hPX, hPM, hPB, hS1, ⟨T1, P1, R1, hR1⟩, hl⟩)
  · exact absurd hans c1
set_option maxHeartbeats 4000000 in
set_option maxRecDepth 100000 in
theorem law_2 (hC : LC l p s m meth c D q z cI cL tp b bo L xs) (hI : LI s D q z cI cL b bo u v f H locs ls x) (hcc : cc ≤ 3000) (hss : ss ≤ 100000) (h1 : vp_in (x + 1) L) (h2 : vp_in (x + 2) L) (h3 : vp_in (x + 3) L) (h4 : vp_in (x + 4) L) (h5 : vp_in (x + 5) L) (kk : ∀ (u v : St) (f : Nat → Int64) (H : Heap) (locs : List Loc) (ls : Array Slot), LI s D q z cI cL b bo u v f H locs ls x → W p l e room_1 s m #[Value.ref b] below meth c H locs (cc + 1) (ss + 6) (lw_Z below #[Value.ref b] s) (F0 m 846 ls [])) : W p l e room_1 s m #[Value.ref b] below meth c H locs cc ss (lw_Z below #[Value.ref b] s) (F0 m 194 ls []) := by
  obtain ⟨⟨hx, hb, hr, hml, hown, hts0, hX, hbl, hlocks, hgv⟩, hst, hK, hZA, hNT, hZT, hNc, hq, hz, hAq, hAz, hAo, dqz, dqo, dzo⟩ := id hC
  obtain ⟨hPX, hPM, hPB, hS, ⟨T0, P0, R0, hR⟩, hl⟩ := hI
  have hts : ∀ w ∈ wsL_law, w.before #[Value.ref b] s = true := fun w h => hts0 w (wsL_law_in w h)
  have hbA : ¬ LA s b := Nat.not_le.mpr hbl
  have fit : cc + 0 ≤ room_1.cells ∧ ss + 0 ≤ room_1.slots := ⟨by show cc + 0 ≤ 603072; omega, by show ss + 0 ≤ 7262314; omega⟩
  refine lv_aload_n hx hb dL_law_194 rfl (lv_at hl 1 rfl) ?_
  refine lv_aload_n hx hb dL_law_195 rfl (lv_at hl 0 rfl) ?_
  refine lv_iload hx hb dL_law_196 (lv_at hl 4 rfl) ?_
  refine lv_iconst (v := 1) hx hb dL_law_198 (by decide) ?_
  refine lv_iadd hx hb dL_law_199 ?_
  refine va_sld hx hb hX hbl hbA hS h1 dL_law_200 ?_
  refine lv_aload_n hx hb dL_law_201 rfl (lv_at hl 0 rfl) ?_
  refine lv_iload hx hb dL_law_202 (lv_at hl 4 rfl) ?_
  refine lv_iconst (v := 2) hx hb dL_law_204 (by decide) ?_
  refine lv_iadd hx hb dL_law_205 ?_
  refine va_sld hx hb hX hbl hbA hS h2 dL_law_206 ?_
  refine lv_aload_n hx hb dL_law_207 rfl (lv_at hl 0 rfl) ?_
  refine lv_iload hx hb dL_law_208 (lv_at hl 4 rfl) ?_
  refine lv_iconst (v := 3) hx hb dL_law_210 (by decide) ?_
  refine lv_iadd hx hb dL_law_211 ?_
  refine va_sld hx hb hX hbl hbA hS h3 dL_law_212 ?_
  refine lv_aload_n hx hb dL_law_213 rfl (lv_at hl 0 rfl) ?_
  refine lv_iload hx hb dL_law_214 (lv_at hl 4 rfl) ?_
  refine lv_iconst (v := 4) hx hb dL_law_216 (by decide) ?_
  refine lv_iadd hx hb dL_law_217 ?_
  refine va_sld hx hb hX hbl hbA hS h4 dL_law_218 ?_
  obtain ⟨okx, okm, hans, T1, P1, R1, hR1⟩ := a_lay hR (xs (x + 1).toNatClampNeg) (xs (x + 2).toNatClampNeg) (xs (x + 3).toNatClampNeg) (xs (x + 4).toNatClampNeg)
  refine va_calli (va_runV (As := [.int (xs (x + 1).toNatClampNeg), .int (xs (x + 2).toNatClampNeg), .int (xs (x + 3).toNatClampNeg), .int (xs (x + 4).toNatClampNeg)]) (rest := []) ⟨hx, hb, hml, hown, hts⟩ (cX_lay l D q cI cL tp hq u (xs (x + 1).toNatClampNeg) (xs (x + 2).toNatClampNeg) (xs (x + 3).toNatClampNeg) (xs (x + 4).toNatClampNeg) okx) (cwV 4 hts gL_law_X3_lay rfl rfl rfl (by decide +kernel) ⟨(Nat.le_of_ble_eq_true rfl), (Nat.le_of_ble_eq_true rfl)⟩) ⟨PX_blind, va_recv hK hPX (ci := 6) (q0 := 0) rfl rfl, fun U hU hW => ⟨rfl, LC_PX hC hPX hS hU hW⟩⟩ rfl rfl hl.1 rfl (lv_room (Nat.le_of_ble_eq_true rfl)) dL_law_219 fit) hS (fun a _ h => LC_q hC a h) (LC_q hC) (fun r1 u1 t H1 locs1 ht hvm hu1 hB hz1 hk1 hS1 => ?_)
  have hPX := hB.1
  rw [ht] at hPX
  have hPM := LC_kM hC hPM hk1
  have hPB := LC_kB hC hPB hk1
  clear hB hk1 hz1 hvm ht
  generalize H1 = H at hPX hPM hPB hS1 ⊢
  generalize locs1 = locs at hS1 ⊢
  clear hS
  have hS := hS1
  clear hS1
  refine W.widen (k := cc) (n := ss) (Nat.le_refl _) (Nat.le_refl _) ?_
  refine lv_aload_n hx hb dL_law_222 rfl (lv_at hl 2 rfl) ?_
  refine lv_aload_n hx hb dL_law_223 rfl (lv_at hl 0 rfl) ?_
  refine lv_iload hx hb dL_law_224 (lv_at hl 4 rfl) ?_
  refine lv_iconst (v := 1) hx hb dL_law_226 (by decide) ?_
  refine lv_iadd hx hb dL_law_227 ?_
  refine va_sld hx hb hX hbl hbA hS h1 dL_law_228 ?_
  refine lv_aload_n hx hb dL_law_229 rfl (lv_at hl 0 rfl) ?_
  refine lv_iload hx hb dL_law_230 (lv_at hl 4 rfl) ?_
  refine lv_iconst (v := 2) hx hb dL_law_232 (by decide) ?_
  refine lv_iadd hx hb dL_law_233 ?_
  refine va_sld hx hb hX hbl hbA hS h2 dL_law_234 ?_
  refine lv_aload_n hx hb dL_law_235 rfl (lv_at hl 0 rfl) ?_
  refine lv_iload hx hb dL_law_236 (lv_at hl 4 rfl) ?_
  refine lv_iconst (v := 3) hx hb dL_law_238 (by decide) ?_
  refine lv_iadd hx hb dL_law_239 ?_
  refine va_sld hx hb hX hbl hbA hS h3 dL_law_240 ?_
  refine lv_aload_n hx hb dL_law_241 rfl (lv_at hl 0 rfl) ?_
  refine lv_iload hx hb dL_law_242 (lv_at hl 4 rfl) ?_
  refine lv_iconst (v := 4) hx hb dL_law_244 (by decide) ?_
  refine lv_iadd hx hb dL_law_245 ?_
  refine va_sld hx hb hX hbl hbA hS h4 dL_law_246 ?_
  refine va_calli (va_runV (As := [.int (xs (x + 1).toNatClampNeg), .int (xs (x + 2).toNatClampNeg), .int (xs (x + 3).toNatClampNeg), .int (xs (x + 4).toNatClampNeg)]) (rest := [.int r1]) ⟨hx, hb, hml, hown, hts⟩ (cM_lay l D z cI cL hz v (xs (x + 1).toNatClampNeg) (xs (x + 2).toNatClampNeg) (xs (x + 3).toNatClampNeg) (xs (x + 4).toNatClampNeg) okm) (cwV 4 hts gL_law_X4_lay rfl rfl rfl (by decide +kernel) ⟨(Nat.le_of_ble_eq_true rfl), (Nat.le_of_ble_eq_true rfl)⟩) ⟨PM_blind, va_recv hK hPM (ci := 7) (q0 := 0) rfl rfl, fun U hU hW => ⟨rfl, PM_fin hPM hK hU hW⟩⟩ rfl rfl hl.1 rfl (lv_room (Nat.le_of_ble_eq_true rfl)) dL_law_247 fit) hS (fun a _ h => LC_z hC a h) (LC_z hC) (fun r2 v1 t H1 locs1 ht hvm hv1 hB hz1 hk1 hS1 => ?_)
  have hPM := hB.1
  rw [ht] at hPM
  have hPX := LC_kX hC hPX hk1
  have hPB := LC_kB2 hC hPB hk1
  rw [← hv1] at hans hR1
  rw [← hu1] at hans hR1
  refine lv_icmp_eq (tgt := 846) hx hb dL_law_250 (by decide) (fun c1 => ?_) (fun c1 => ?_)
  · exact W.widen (k := cc + 1) (n := ss + 6) (by omega) (by omega) (kk u1 v1 f H1 locs1 ls ⟨hPX, hPM, hPB, hS1, ⟨T1, P1, R1, hR1⟩, hl⟩)
  · exact absurd hans c1
set_option maxHeartbeats 4000000 in
set_option maxRecDepth 100000 in
theorem law_3 (hC : LC l p s m meth c D q z cI cL tp b bo L xs) (hI : LI s D q z cI cL b bo u v f H locs ls x) (hcc : cc ≤ 3000) (hss : ss ≤ 100000) (h1 : vp_in (x + 1) L) (h2 : vp_in (x + 2) L) (h3 : vp_in (x + 3) L) (h4 : vp_in (x + 4) L) (h5 : vp_in (x + 5) L) (kk : ∀ (u v : St) (f : Nat → Int64) (H : Heap) (locs : List Loc) (ls : Array Slot), LI s D q z cI cL b bo u v f H locs ls x → W p l e room_1 s m #[Value.ref b] below meth c H locs (cc + 1) (ss + 6) (lw_Z below #[Value.ref b] s) (F0 m 846 ls [])) : W p l e room_1 s m #[Value.ref b] below meth c H locs cc ss (lw_Z below #[Value.ref b] s) (F0 m 255 ls []) := by
  obtain ⟨⟨hx, hb, hr, hml, hown, hts0, hX, hbl, hlocks, hgv⟩, hst, hK, hZA, hNT, hZT, hNc, hq, hz, hAq, hAz, hAo, dqz, dqo, dzo⟩ := id hC
  obtain ⟨hPX, hPM, hPB, hS, ⟨T0, P0, R0, hR⟩, hl⟩ := hI
  have hts : ∀ w ∈ wsL_law, w.before #[Value.ref b] s = true := fun w h => hts0 w (wsL_law_in w h)
  have hbA : ¬ LA s b := Nat.not_le.mpr hbl
  have fit : cc + 0 ≤ room_1.cells ∧ ss + 0 ≤ room_1.slots := ⟨by show cc + 0 ≤ 603072; omega, by show ss + 0 ≤ 7262314; omega⟩
  refine lv_aload_n hx hb dL_law_255 rfl (lv_at hl 1 rfl) ?_
  refine lv_aload_n hx hb dL_law_256 rfl (lv_at hl 0 rfl) ?_
  refine lv_iload hx hb dL_law_257 (lv_at hl 4 rfl) ?_
  refine lv_iconst (v := 1) hx hb dL_law_259 (by decide) ?_
  refine lv_iadd hx hb dL_law_260 ?_
  refine va_sld hx hb hX hbl hbA hS h1 dL_law_261 ?_
  refine lv_aload_n hx hb dL_law_262 rfl (lv_at hl 0 rfl) ?_
  refine lv_iload hx hb dL_law_263 (lv_at hl 4 rfl) ?_
  refine lv_iconst (v := 2) hx hb dL_law_265 (by decide) ?_
  refine lv_iadd hx hb dL_law_266 ?_
  refine va_sld hx hb hX hbl hbA hS h2 dL_law_267 ?_
  refine lv_aload_n hx hb dL_law_268 rfl (lv_at hl 0 rfl) ?_
  refine lv_iload hx hb dL_law_269 (lv_at hl 4 rfl) ?_
  refine lv_iconst (v := 3) hx hb dL_law_271 (by decide) ?_
  refine lv_iadd hx hb dL_law_272 ?_
  refine va_sld hx hb hX hbl hbA hS h3 dL_law_273 ?_
  obtain ⟨okx, okm, hans, T1, P1, R1, hR1⟩ := a_half hR (xs (x + 1).toNatClampNeg) (xs (x + 2).toNatClampNeg) (xs (x + 3).toNatClampNeg)
  refine va_calli (va_runV (As := [.int (xs (x + 1).toNatClampNeg), .int (xs (x + 2).toNatClampNeg), .int (xs (x + 3).toNatClampNeg)]) (rest := []) ⟨hx, hb, hml, hown, hts⟩ (cX_half l D q cI cL tp hq u (xs (x + 1).toNatClampNeg) (xs (x + 2).toNatClampNeg) (xs (x + 3).toNatClampNeg) okx) (cwV 3 hts gL_law_X3_half rfl rfl rfl (by decide +kernel) ⟨(Nat.le_of_ble_eq_true rfl), (Nat.le_of_ble_eq_true rfl)⟩) ⟨PX_blind, va_recv hK hPX (ci := 6) (q0 := 0) rfl rfl, fun U hU hW => ⟨rfl, LC_PX hC hPX hS hU hW⟩⟩ rfl rfl hl.1 rfl (lv_room (Nat.le_of_ble_eq_true rfl)) dL_law_274 fit) hS (fun a _ h => LC_q hC a h) (LC_q hC) (fun r1 u1 t H1 locs1 ht hvm hu1 hB hz1 hk1 hS1 => ?_)
  have hPX := hB.1
  rw [ht] at hPX
  have hPM := LC_kM hC hPM hk1
  have hPB := LC_kB hC hPB hk1
  clear hB hk1 hz1 hvm ht
  generalize H1 = H at hPX hPM hPB hS1 ⊢
  generalize locs1 = locs at hS1 ⊢
  clear hS
  have hS := hS1
  clear hS1
  refine W.widen (k := cc) (n := ss) (Nat.le_refl _) (Nat.le_refl _) ?_
  refine lv_aload_n hx hb dL_law_277 rfl (lv_at hl 2 rfl) ?_
  refine lv_aload_n hx hb dL_law_278 rfl (lv_at hl 0 rfl) ?_
  refine lv_iload hx hb dL_law_279 (lv_at hl 4 rfl) ?_
  refine lv_iconst (v := 1) hx hb dL_law_281 (by decide) ?_
  refine lv_iadd hx hb dL_law_282 ?_
  refine va_sld hx hb hX hbl hbA hS h1 dL_law_283 ?_
  refine lv_aload_n hx hb dL_law_284 rfl (lv_at hl 0 rfl) ?_
  refine lv_iload hx hb dL_law_285 (lv_at hl 4 rfl) ?_
  refine lv_iconst (v := 2) hx hb dL_law_287 (by decide) ?_
  refine lv_iadd hx hb dL_law_288 ?_
  refine va_sld hx hb hX hbl hbA hS h2 dL_law_289 ?_
  refine lv_aload_n hx hb dL_law_290 rfl (lv_at hl 0 rfl) ?_
  refine lv_iload hx hb dL_law_291 (lv_at hl 4 rfl) ?_
  refine lv_iconst (v := 3) hx hb dL_law_293 (by decide) ?_
  refine lv_iadd hx hb dL_law_294 ?_
  refine va_sld hx hb hX hbl hbA hS h3 dL_law_295 ?_
  refine va_calli (va_runV (As := [.int (xs (x + 1).toNatClampNeg), .int (xs (x + 2).toNatClampNeg), .int (xs (x + 3).toNatClampNeg)]) (rest := [.int r1]) ⟨hx, hb, hml, hown, hts⟩ (cM_half l D z cI cL hz v (xs (x + 1).toNatClampNeg) (xs (x + 2).toNatClampNeg) (xs (x + 3).toNatClampNeg) okm) (cwV 3 hts gL_law_X4_half rfl rfl rfl (by decide +kernel) ⟨(Nat.le_of_ble_eq_true rfl), (Nat.le_of_ble_eq_true rfl)⟩) ⟨PM_blind, va_recv hK hPM (ci := 7) (q0 := 0) rfl rfl, fun U hU hW => ⟨rfl, PM_fin hPM hK hU hW⟩⟩ rfl rfl hl.1 rfl (lv_room (Nat.le_of_ble_eq_true rfl)) dL_law_296 fit) hS (fun a _ h => LC_z hC a h) (LC_z hC) (fun r2 v1 t H1 locs1 ht hvm hv1 hB hz1 hk1 hS1 => ?_)
  have hPM := hB.1
  rw [ht] at hPM
  have hPX := LC_kX hC hPX hk1
  have hPB := LC_kB2 hC hPB hk1
  rw [← hv1] at hans hR1
  rw [← hu1] at hans hR1
  refine lv_icmp_eq (tgt := 846) hx hb dL_law_299 (by decide) (fun c1 => ?_) (fun c1 => ?_)
  · exact W.widen (k := cc + 1) (n := ss + 6) (by omega) (by omega) (kk u1 v1 f H1 locs1 ls ⟨hPX, hPM, hPB, hS1, ⟨T1, P1, R1, hR1⟩, hl⟩)
  · exact absurd hans c1
set_option maxHeartbeats 4000000 in
set_option maxRecDepth 100000 in
theorem law_4 (hC : LC l p s m meth c D q z cI cL tp b bo L xs) (hI : LI s D q z cI cL b bo u v f H locs ls x) (hcc : cc ≤ 3000) (hss : ss ≤ 100000) (h1 : vp_in (x + 1) L) (h2 : vp_in (x + 2) L) (h3 : vp_in (x + 3) L) (h4 : vp_in (x + 4) L) (h5 : vp_in (x + 5) L) (kk : ∀ (u v : St) (f : Nat → Int64) (H : Heap) (locs : List Loc) (ls : Array Slot), LI s D q z cI cL b bo u v f H locs ls x → W p l e room_1 s m #[Value.ref b] below meth c H locs (cc + 1) (ss + 6) (lw_Z below #[Value.ref b] s) (F0 m 846 ls [])) : W p l e room_1 s m #[Value.ref b] below meth c H locs cc ss (lw_Z below #[Value.ref b] s) (F0 m 304 ls []) := by
  obtain ⟨⟨hx, hb, hr, hml, hown, hts0, hX, hbl, hlocks, hgv⟩, hst, hK, hZA, hNT, hZT, hNc, hq, hz, hAq, hAz, hAo, dqz, dqo, dzo⟩ := id hC
  obtain ⟨hPX, hPM, hPB, hS, ⟨T0, P0, R0, hR⟩, hl⟩ := hI
  have hts : ∀ w ∈ wsL_law, w.before #[Value.ref b] s = true := fun w h => hts0 w (wsL_law_in w h)
  have hbA : ¬ LA s b := Nat.not_le.mpr hbl
  have fit : cc + 0 ≤ room_1.cells ∧ ss + 0 ≤ room_1.slots := ⟨by show cc + 0 ≤ 603072; omega, by show ss + 0 ≤ 7262314; omega⟩
  refine lv_aload_n hx hb dL_law_304 rfl (lv_at hl 1 rfl) ?_
  refine lv_aload_n hx hb dL_law_305 rfl (lv_at hl 0 rfl) ?_
  refine lv_iload hx hb dL_law_306 (lv_at hl 4 rfl) ?_
  refine lv_iconst (v := 1) hx hb dL_law_308 (by decide) ?_
  refine lv_iadd hx hb dL_law_309 ?_
  refine va_sld hx hb hX hbl hbA hS h1 dL_law_310 ?_
  refine lv_aload_n hx hb dL_law_311 rfl (lv_at hl 0 rfl) ?_
  refine lv_iload hx hb dL_law_312 (lv_at hl 4 rfl) ?_
  refine lv_iconst (v := 2) hx hb dL_law_314 (by decide) ?_
  refine lv_iadd hx hb dL_law_315 ?_
  refine va_sld hx hb hX hbl hbA hS h2 dL_law_316 ?_
  refine lv_aload_n hx hb dL_law_317 rfl (lv_at hl 0 rfl) ?_
  refine lv_iload hx hb dL_law_318 (lv_at hl 4 rfl) ?_
  refine lv_iconst (v := 3) hx hb dL_law_320 (by decide) ?_
  refine lv_iadd hx hb dL_law_321 ?_
  refine va_sld hx hb hX hbl hbA hS h3 dL_law_322 ?_
  refine lv_aload_n hx hb dL_law_323 rfl (lv_at hl 0 rfl) ?_
  refine lv_iload hx hb dL_law_324 (lv_at hl 4 rfl) ?_
  refine lv_iconst (v := 4) hx hb dL_law_326 (by decide) ?_
  refine lv_iadd hx hb dL_law_327 ?_
  refine va_sld hx hb hX hbl hbA hS h4 dL_law_328 ?_
  refine lv_i2l (v := ((xs (x + 4).toNatClampNeg) : Int32).toInt64) hx hb dL_law_329 rfl ?_
  refine lv_bipush (v := 32) hx hb dL_law_330 (by decide) ?_
  refine lv_lshl hx hb dL_law_332 rfl ?_
  refine lv_aload_n hx hb dL_law_333 rfl (lv_at hl 0 rfl) ?_
  refine lv_iload hx hb dL_law_334 (lv_at hl 4 rfl) ?_
  refine lv_iconst (v := 5) hx hb dL_law_336 (by decide) ?_
  refine lv_iadd hx hb dL_law_337 ?_
  refine va_sld hx hb hX hbl hbA hS h5 dL_law_338 ?_
  refine lv_i2l (v := ((xs (x + 5).toNatClampNeg) : Int32).toInt64) hx hb dL_law_339 rfl ?_
  refine lv_ldc2 (v := 4294967295) hx hb hown (hts (.constantLong RL 40 4294967295) (by decide +kernel)) dL_law_340 ?_
  refine lv_land hx hb dL_law_343 ?_
  refine lv_lor hx hb dL_law_344 ?_
  refine lv_topl (fun w1 hw1 => ?_)
  obtain ⟨okx, okm, hans, T1, P1, R1, hR1⟩ := a_put hR (xs (x + 1).toNatClampNeg) (xs (x + 2).toNatClampNeg) (xs (x + 3).toNatClampNeg) w1
  refine va_calli (va_runV (As := [.int (xs (x + 1).toNatClampNeg), .int (xs (x + 2).toNatClampNeg), .int (xs (x + 3).toNatClampNeg), .long w1]) (rest := []) ⟨hx, hb, hml, hown, hts⟩ (cX_put l D q cI cL tp hq u (xs (x + 1).toNatClampNeg) (xs (x + 2).toNatClampNeg) (xs (x + 3).toNatClampNeg) w1 okx) (cwV 4 hts gL_law_X3_put rfl rfl rfl (by decide +kernel) ⟨(Nat.le_of_ble_eq_true rfl), (Nat.le_of_ble_eq_true rfl)⟩) ⟨PX_blind, va_recv hK hPX (ci := 6) (q0 := 0) rfl rfl, fun U hU hW => ⟨rfl, LC_PX hC hPX hS hU hW⟩⟩ rfl rfl hl.1 rfl (lv_room (Nat.le_of_ble_eq_true rfl)) dL_law_345 fit) hS (fun a _ h => LC_q hC a h) (LC_q hC) (fun r1 u1 t H1 locs1 ht hvm hu1 hB hz1 hk1 hS1 => ?_)
  have hPX := hB.1
  rw [ht] at hPX
  have hPM := LC_kM hC hPM hk1
  have hPB := LC_kB hC hPB hk1
  clear hB hk1 hz1 hvm ht
  generalize H1 = H at hPX hPM hPB hS1 ⊢
  generalize locs1 = locs at hS1 ⊢
  clear hS
  have hS := hS1
  clear hS1
  refine W.widen (k := cc) (n := ss) (Nat.le_refl _) (Nat.le_refl _) ?_
  refine lv_aload_n hx hb dL_law_348 rfl (lv_at hl 2 rfl) ?_
  refine lv_aload_n hx hb dL_law_349 rfl (lv_at hl 0 rfl) ?_
  refine lv_iload hx hb dL_law_350 (lv_at hl 4 rfl) ?_
  refine lv_iconst (v := 1) hx hb dL_law_352 (by decide) ?_
  refine lv_iadd hx hb dL_law_353 ?_
  refine va_sld hx hb hX hbl hbA hS h1 dL_law_354 ?_
  refine lv_aload_n hx hb dL_law_355 rfl (lv_at hl 0 rfl) ?_
  refine lv_iload hx hb dL_law_356 (lv_at hl 4 rfl) ?_
  refine lv_iconst (v := 2) hx hb dL_law_358 (by decide) ?_
  refine lv_iadd hx hb dL_law_359 ?_
  refine va_sld hx hb hX hbl hbA hS h2 dL_law_360 ?_
  refine lv_aload_n hx hb dL_law_361 rfl (lv_at hl 0 rfl) ?_
  refine lv_iload hx hb dL_law_362 (lv_at hl 4 rfl) ?_
  refine lv_iconst (v := 3) hx hb dL_law_364 (by decide) ?_
  refine lv_iadd hx hb dL_law_365 ?_
  refine va_sld hx hb hX hbl hbA hS h3 dL_law_366 ?_
  refine lv_aload_n hx hb dL_law_367 rfl (lv_at hl 0 rfl) ?_
  refine lv_iload hx hb dL_law_368 (lv_at hl 4 rfl) ?_
  refine lv_iconst (v := 4) hx hb dL_law_370 (by decide) ?_
  refine lv_iadd hx hb dL_law_371 ?_
  refine va_sld hx hb hX hbl hbA hS h4 dL_law_372 ?_
  refine lv_i2l (v := ((xs (x + 4).toNatClampNeg) : Int32).toInt64) hx hb dL_law_373 rfl ?_
  refine lv_bipush (v := 32) hx hb dL_law_374 (by decide) ?_
  refine lv_lshl hx hb dL_law_376 rfl ?_
  refine lv_aload_n hx hb dL_law_377 rfl (lv_at hl 0 rfl) ?_
  refine lv_iload hx hb dL_law_378 (lv_at hl 4 rfl) ?_
  refine lv_iconst (v := 5) hx hb dL_law_380 (by decide) ?_
  refine lv_iadd hx hb dL_law_381 ?_
  refine va_sld hx hb hX hbl hbA hS h5 dL_law_382 ?_
  refine lv_i2l (v := ((xs (x + 5).toNatClampNeg) : Int32).toInt64) hx hb dL_law_383 rfl ?_
  refine lv_ldc2 (v := 4294967295) hx hb hown (hts (.constantLong RL 40 4294967295) (by decide +kernel)) dL_law_384 ?_
  refine lv_land hx hb dL_law_387 ?_
  refine lv_lor hx hb dL_law_388 ?_
  refine lv_topl (fun w2 hw2 => ?_)
  have hww : w2 = w1 := hw2.trans hw1.symm
  clear hw2
  subst hww
  refine va_calli (va_runV (As := [.int (xs (x + 1).toNatClampNeg), .int (xs (x + 2).toNatClampNeg), .int (xs (x + 3).toNatClampNeg), .long w2]) (rest := [.int r1]) ⟨hx, hb, hml, hown, hts⟩ (cM_put l D z cI cL hz v (xs (x + 1).toNatClampNeg) (xs (x + 2).toNatClampNeg) (xs (x + 3).toNatClampNeg) w2 okm) (cwV 4 hts gL_law_X4_put rfl rfl rfl (by decide +kernel) ⟨(Nat.le_of_ble_eq_true rfl), (Nat.le_of_ble_eq_true rfl)⟩) ⟨PM_blind, va_recv hK hPM (ci := 7) (q0 := 0) rfl rfl, fun U hU hW => ⟨rfl, PM_fin hPM hK hU hW⟩⟩ rfl rfl hl.1 rfl (lv_room (Nat.le_of_ble_eq_true rfl)) dL_law_389 fit) hS (fun a _ h => LC_z hC a h) (LC_z hC) (fun r2 v1 t H1 locs1 ht hvm hv1 hB hz1 hk1 hS1 => ?_)
  have hPM := hB.1
  rw [ht] at hPM
  have hPX := LC_kX hC hPX hk1
  have hPB := LC_kB2 hC hPB hk1
  rw [← hv1] at hans hR1
  rw [← hu1] at hans hR1
  refine lv_icmp_eq (tgt := 846) hx hb dL_law_392 (by decide) (fun c1 => ?_) (fun c1 => ?_)
  · exact W.widen (k := cc + 1) (n := ss + 6) (by omega) (by omega) (kk u1 v1 f H1 locs1 ls ⟨hPX, hPM, hPB, hS1, ⟨T1, P1, R1, hR1⟩, hl⟩)
  · exact absurd hans c1
set_option maxHeartbeats 4000000 in
set_option maxRecDepth 100000 in
theorem law_6 (hC : LC l p s m meth c D q z cI cL tp b bo L xs) (hI : LI s D q z cI cL b bo u v f H locs ls x) (hcc : cc ≤ 3000) (hss : ss ≤ 100000) (h1 : vp_in (x + 1) L) (h2 : vp_in (x + 2) L) (h3 : vp_in (x + 3) L) (h4 : vp_in (x + 4) L) (h5 : vp_in (x + 5) L) (kk : ∀ (u v : St) (f : Nat → Int64) (H : Heap) (locs : List Loc) (ls : Array Slot), LI s D q z cI cL b bo u v f H locs ls x → W p l e room_1 s m #[Value.ref b] below meth c H locs (cc + 1) (ss + 6) (lw_Z below #[Value.ref b] s) (F0 m 846 ls [])) : W p l e room_1 s m #[Value.ref b] below meth c H locs cc ss (lw_Z below #[Value.ref b] s) (F0 m 476 ls []) := by
  obtain ⟨⟨hx, hb, hr, hml, hown, hts0, hX, hbl, hlocks, hgv⟩, hst, hK, hZA, hNT, hZT, hNc, hq, hz, hAq, hAz, hAo, dqz, dqo, dzo⟩ := id hC
  obtain ⟨hPX, hPM, hPB, hS, ⟨T0, P0, R0, hR⟩, hl⟩ := hI
  have hts : ∀ w ∈ wsL_law, w.before #[Value.ref b] s = true := fun w h => hts0 w (wsL_law_in w h)
  have hbA : ¬ LA s b := Nat.not_le.mpr hbl
  have fit : cc + 0 ≤ room_1.cells ∧ ss + 0 ≤ room_1.slots := ⟨by show cc + 0 ≤ 603072; omega, by show ss + 0 ≤ 7262314; omega⟩
  refine lv_aload_n hx hb dL_law_476 rfl (lv_at hl 1 rfl) ?_
  refine lv_aload_n hx hb dL_law_477 rfl (lv_at hl 0 rfl) ?_
  refine lv_iload hx hb dL_law_478 (lv_at hl 4 rfl) ?_
  refine lv_iconst (v := 1) hx hb dL_law_480 (by decide) ?_
  refine lv_iadd hx hb dL_law_481 ?_
  refine va_sld hx hb hX hbl hbA hS h1 dL_law_482 ?_
  refine lv_aload_n hx hb dL_law_483 rfl (lv_at hl 0 rfl) ?_
  refine lv_iload hx hb dL_law_484 (lv_at hl 4 rfl) ?_
  refine lv_iconst (v := 2) hx hb dL_law_486 (by decide) ?_
  refine lv_iadd hx hb dL_law_487 ?_
  refine va_sld hx hb hX hbl hbA hS h2 dL_law_488 ?_
  refine lv_aload_n hx hb dL_law_489 rfl (lv_at hl 0 rfl) ?_
  refine lv_iload hx hb dL_law_490 (lv_at hl 4 rfl) ?_
  refine lv_iconst (v := 3) hx hb dL_law_492 (by decide) ?_
  refine lv_iadd hx hb dL_law_493 ?_
  refine va_sld hx hb hX hbl hbA hS h3 dL_law_494 ?_
  obtain ⟨okx, okm, hans, T1, P1, R1, hR1⟩ := a_at hR (xs (x + 1).toNatClampNeg) (xs (x + 2).toNatClampNeg) (xs (x + 3).toNatClampNeg)
  refine va_calli (va_runV (As := [.int (xs (x + 1).toNatClampNeg), .int (xs (x + 2).toNatClampNeg), .int (xs (x + 3).toNatClampNeg)]) (rest := []) ⟨hx, hb, hml, hown, hts⟩ (cX_at l D q cI cL tp hq u (xs (x + 1).toNatClampNeg) (xs (x + 2).toNatClampNeg) (xs (x + 3).toNatClampNeg) okx) (cwV 3 hts gL_law_X3_at rfl rfl rfl (by decide +kernel) ⟨(Nat.le_of_ble_eq_true rfl), (Nat.le_of_ble_eq_true rfl)⟩) ⟨PX_blind, va_recv hK hPX (ci := 6) (q0 := 0) rfl rfl, fun U hU hW => ⟨rfl, LC_PX hC hPX hS hU hW⟩⟩ rfl rfl hl.1 rfl (lv_room (Nat.le_of_ble_eq_true rfl)) dL_law_495 fit) hS (fun a _ h => LC_q hC a h) (LC_q hC) (fun r1 u1 t H1 locs1 ht hvm hu1 hB hz1 hk1 hS1 => ?_)
  have hPX := hB.1
  rw [ht] at hPX
  have hPM := LC_kM hC hPM hk1
  have hPB := LC_kB hC hPB hk1
  clear hB hk1 hz1 hvm ht
  generalize H1 = H at hPX hPM hPB hS1 ⊢
  generalize locs1 = locs at hS1 ⊢
  clear hS
  have hS := hS1
  clear hS1
  refine W.widen (k := cc) (n := ss) (Nat.le_refl _) (Nat.le_refl _) ?_
  refine lv_aload_n hx hb dL_law_498 rfl (lv_at hl 2 rfl) ?_
  refine lv_aload_n hx hb dL_law_499 rfl (lv_at hl 0 rfl) ?_
  refine lv_iload hx hb dL_law_500 (lv_at hl 4 rfl) ?_
  refine lv_iconst (v := 1) hx hb dL_law_502 (by decide) ?_
  refine lv_iadd hx hb dL_law_503 ?_
  refine va_sld hx hb hX hbl hbA hS h1 dL_law_504 ?_
  refine lv_aload_n hx hb dL_law_505 rfl (lv_at hl 0 rfl) ?_
  refine lv_iload hx hb dL_law_506 (lv_at hl 4 rfl) ?_
  refine lv_iconst (v := 2) hx hb dL_law_508 (by decide) ?_
  refine lv_iadd hx hb dL_law_509 ?_
  refine va_sld hx hb hX hbl hbA hS h2 dL_law_510 ?_
  refine lv_aload_n hx hb dL_law_511 rfl (lv_at hl 0 rfl) ?_
  refine lv_iload hx hb dL_law_512 (lv_at hl 4 rfl) ?_
  refine lv_iconst (v := 3) hx hb dL_law_514 (by decide) ?_
  refine lv_iadd hx hb dL_law_515 ?_
  refine va_sld hx hb hX hbl hbA hS h3 dL_law_516 ?_
  refine va_calli (va_runV (As := [.int (xs (x + 1).toNatClampNeg), .int (xs (x + 2).toNatClampNeg), .int (xs (x + 3).toNatClampNeg)]) (rest := [.int r1]) ⟨hx, hb, hml, hown, hts⟩ (cM_at l D z cI cL hz v (xs (x + 1).toNatClampNeg) (xs (x + 2).toNatClampNeg) (xs (x + 3).toNatClampNeg) okm) (cwV 3 hts gL_law_X4_at rfl rfl rfl (by decide +kernel) ⟨(Nat.le_of_ble_eq_true rfl), (Nat.le_of_ble_eq_true rfl)⟩) ⟨PM_blind, va_recv hK hPM (ci := 7) (q0 := 0) rfl rfl, fun U hU hW => ⟨rfl, PM_fin hPM hK hU hW⟩⟩ rfl rfl hl.1 rfl (lv_room (Nat.le_of_ble_eq_true rfl)) dL_law_517 fit) hS (fun a _ h => LC_z hC a h) (LC_z hC) (fun r2 v1 t H1 locs1 ht hvm hv1 hB hz1 hk1 hS1 => ?_)
  have hPM := hB.1
  rw [ht] at hPM
  have hPX := LC_kX hC hPX hk1
  have hPB := LC_kB2 hC hPB hk1
  rw [← hv1] at hans hR1
  rw [← hu1] at hans hR1
  refine lv_icmp_eq (tgt := 846) hx hb dL_law_520 (by decide) (fun c1 => ?_) (fun c1 => ?_)
  · exact W.widen (k := cc + 1) (n := ss + 6) (by omega) (by omega) (kk u1 v1 f H1 locs1 ls ⟨hPX, hPM, hPB, hS1, ⟨T1, P1, R1, hR1⟩, hl⟩)
  · exact absurd hans c1
end LCases
