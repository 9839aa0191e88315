set_option maxHeartbeats 4000000 in
set_option maxRecDepth 100000 in
theorem cM_goesOn (l : Launch) (D : va_G) (q : Nat → Nat) (cI cL : ClassId) (hq : DQ 22 q) (u : St) (p1 : Int32) (p2 : Int32) (p3 : Int32) (hok : okM_goesOn u p1 p2 p3) : Met l yX4_goesOn wsX4_goesOn { frames := 3, cells := 0, slots := 0, locals := 68 } (va_Pc [.ref (q 0), .int p1, .int p2, .int p3] (fun U => PM D q cI cL u U)) (va_Qv (fun u' : St => u' = sM_goesOn u p1 p2 p3) (fun u' t => PM D q cI cL u' t) (AQ 22 q)) 0 0 (AQ 22 q) := by
  refine Met.ofW (cc := cX4_goesOn) (maxL := 4) (ret := none) (by decide) rfl ?_
  intro p e s m args below meth c s₁ B hml hv
  obtain ⟨rfl, hP, hK⟩ := hv
  have hx := B.exec
  have hb := B.bytes
  have hr := B.returns
  have hts := atoms_spec (ws := wsX4_goesOn) B.pre
  have hown : s.vm.findClass RX4 = some m.cls := findClass_of_methodNamed B.named
  have hlocks := B.notSynchronized
  have hiX4 : ∀ w ∈ u_ws RX4 TX4 29, w ∈ wsX4_goesOn := by decide +kernel
  have hf144 := hts (.fieldLink RX4 144 "ThingRulesModel" "fits" "Z") (by decide +kernel)
  have hf26 := hts (.fieldLink RX4 26 "ThingRulesModel" "sort" "[I") (by decide +kernel)
  have hf32 := hts (.fieldLink RX4 32 "ThingRulesModel" "numB" "[I") (by decide +kernel)
  have hf23 := hts (.fieldLink RX4 23 "ThingRulesModel" "piece" "[I") (by decide +kernel)
  have hS : va_S (AQ 22 q) s.heap s.heap [] := va_S.rf
  have hP : va_P D vwCl (wM q cI cL u) s.heap := hP
  have hl := lv_entry ([.ref (q 0), .int p1, .int p2, .int p3]) (n := 4) (Nat.le_of_ble_eq_true rfl)
  rw [lg_entry_eq]
  generalize (lg_sl ([.ref (q 0), .int p1, .int p2, .int p3]) ++ List.replicate (4 - (lg_sl ([.ref (q 0), .int p1, .int p2, .int p3])).length) Slot.unset).toArray = ls at hl ⊢
  have hl : lv_has ls 4 [(0, .ref (q 0)), (1, .int p1), (2, .int p2), (3, .int p3)] := hl
  have hsp : sM_goesOn u p1 p2 p3 = _ := sM_goesOn.eq_1 u p1 p2 p3
  unfold okM_goesOn at hok
  refine lv_iload_n hx hb dX4_goesOn_0 rfl (lv_at hl 3 rfl) ?_
  refine lv_bipush (v := 9) hx hb dX4_goesOn_1 (by decide) ?_
  refine lv_icmp_ne (tgt := 17) hx hb dX4_goesOn_3 (by decide) (fun c_1 => ?_) (fun c_1 => ?_)
  · have hsp := hsp.trans (if_neg c_1)
    have hok := hok.2 c_1
    refine lv_iload_n hx hb dX4_goesOn_17 rfl (lv_at hl 3 rfl) ?_
    refine lv_bipush (v := 8) hx hb dX4_goesOn_18 (by decide) ?_
    refine lv_icmp_ne (tgt := 42) hx hb dX4_goesOn_20 (by decide) (fun c_2 => ?_) (fun c_2 => ?_)
    · have hsp := hsp.trans (if_neg c_2)
      have hok := hok.2 c_2
      refine lv_iload_n hx hb dX4_goesOn_42 rfl (lv_at hl 3 rfl) ?_
      refine lv_bipush (v := 10) hx hb dX4_goesOn_43 (by decide) ?_
      refine lv_icmp_lt (tgt := 76) hx hb dX4_goesOn_45 (by decide) (fun c_3 => ?_) (fun c_3 => ?_)
      · have hsp := hsp.trans (if_pos c_3)
        have hok := hok.1 c_3
        refine lv_aload_n hx hb dX4_goesOn_76 rfl (lv_at hl 0 rfl) ?_
        refine va_get (D := D) (ci := 7) (v := .int (u.1 7)) (C := RX4) (T := TX4) (N := 29) hx hb hts hiX4 hown hK hP 0 rfl rfl 28 (by decide) hf144 (fun _ h9 => h9) rfl dX4_goesOn_77 ?_
        refine lv_aload_n hx hb dX4_goesOn_80 rfl (lv_at hl 0 rfl) ?_
        refine va_get (D := D) (ci := 7) (v := .ref (q 6)) (C := RX4) (T := TX4) (N := 29) hx hb hts hiX4 hown hK hP 0 rfl rfl 8 (by decide) hf26 (fun _ h9 => h9) rfl dX4_goesOn_81 ?_
        refine lv_iload_n hx hb dX4_goesOn_84 rfl (lv_at hl 1 rfl) ?_
        have h_4 := hok.1
        have hok := hok.2
        refine va_iald hx hb hK hP 6 0 rfl rfl h_4 dX4_goesOn_85 ?_
        refine lv_bipush (v := 8) hx hb dX4_goesOn_86 (by decide) ?_
        refine lv_icmp_ne (tgt := 95) hx hb dX4_goesOn_88 (by decide) (fun c_5 => ?_) (fun c_5 => ?_)
        · have hsp := hsp.trans (if_neg c_5)
          have hok := hok.2 c_5
          refine lv_iconst (v := 0) hx hb dX4_goesOn_95 (by decide) ?_
          refine lv_icmp_ne (tgt := 110) hx hb dX4_goesOn_96 (by decide) (fun c_6 => ?_) (fun c_6 => ?_)
          · have hsp := hsp.trans (if_neg c_6)
            have hok := hok.2 c_6
            refine lv_aload_n hx hb dX4_goesOn_110 rfl (lv_at hl 0 rfl) ?_
            refine lv_aload_n hx hb dX4_goesOn_111 rfl (lv_at hl 0 rfl) ?_
            refine va_get (D := D) (ci := 7) (v := .ref (q 8)) (C := RX4) (T := TX4) (N := 29) hx hb hts hiX4 hown hK hP 0 rfl rfl 10 (by decide) hf32 (fun _ h9 => h9) rfl dX4_goesOn_112 ?_
            refine lv_iload_n hx hb dX4_goesOn_115 rfl (lv_at hl 1 rfl) ?_
            have h_7 := hok.1
            have hok := hok.2
            refine va_iald hx hb hK hP 8 0 rfl rfl h_7 dX4_goesOn_116 ?_
            refine lv_aload_n hx hb dX4_goesOn_117 rfl (lv_at hl 0 rfl) ?_
            refine va_get (D := D) (ci := 7) (v := .ref (q 6)) (C := RX4) (T := TX4) (N := 29) hx hb hts hiX4 hown hK hP 0 rfl rfl 8 (by decide) hf26 (fun _ h9 => h9) rfl dX4_goesOn_118 ?_
            refine lv_iload_n hx hb dX4_goesOn_121 rfl (lv_at hl 1 rfl) ?_
            have h_8 := hok.1
            have hok := hok.2
            refine va_iald hx hb hK hP 6 0 rfl rfl h_8 dX4_goesOn_122 ?_
            refine lv_iconst (v := 3) hx hb dX4_goesOn_123 (by decide) ?_
            refine lv_icmp_ne (tgt := 141) hx hb dX4_goesOn_124 (by decide) (fun c_9 => ?_) (fun c_9 => ?_)
            · have hsp := hsp.trans (if_neg c_9)
              have hok := hok.2 c_9
              refine lv_iload_n hx hb dX4_goesOn_141 rfl (lv_at hl 2 rfl) ?_
              refine lv_bipush (v := 9) hx hb dX4_goesOn_142 (by decide) ?_
              have h_10 := hok.1
              have hok := hok.2
              refine va_callv (va_runV (As := [.int (u.2.1 8 p1.toNatClampNeg), .int p2, .int 9]) (rest := []) ⟨hx, hb, hml, hown, hts⟩ (cM_asks l D q cI cL hq u (u.2.1 8 p1.toNatClampNeg) p2 9 h_10) (cwV 3 hts gX4_goesOn_X4_asks rfl rfl rfl (by decide +kernel) ⟨(Nat.le_of_ble_eq_true rfl), (Nat.le_of_ble_eq_true rfl)⟩) ⟨PM_blind, va_recv hK hP (ci := 7) (q0 := 0) rfl rfl, fun U hU hW => ⟨rfl, PM_fin hP hK hU hW⟩⟩ rfl rfl hl.1 rfl (lv_room (Nat.le_of_ble_eq_true rfl)) dX4_goesOn_144 ⟨(Nat.le_of_ble_eq_true rfl), (Nat.le_of_ble_eq_true rfl)⟩) hS (fun q _ h => h) (fun q h => h) (fun u1 t H1 locs ht hvm hu1 hB hz1 hk1 hS => ?_)
              have hP := hB.1
              rw [ht] at hP
              clear hB hk1 hz1 hvm ht
              generalize H1 = H at hP hS ⊢
              refine W.widen (k := 0) (n := 0) (Nat.le_refl 0) (Nat.le_refl 0) ?_
              exact W.vret hx hb hr (fun t ht hW => ⟨⟨u1, rfl, (hu1.trans hsp.symm), PM_fin hP hK ht hW⟩, hS.F ht⟩) hS.2.2 dX4_goesOn_147
            · have hsp := hsp.trans (if_pos c_9)
              have hok := hok.1 c_9
              refine lv_aload_n hx hb dX4_goesOn_127 rfl (lv_at hl 0 rfl) ?_
              refine va_get (D := D) (ci := 7) (v := .ref (q 5)) (C := RX4) (T := TX4) (N := 29) hx hb hts hiX4 hown hK hP 0 rfl rfl 6 (by decide) hf23 (fun _ h9 => h9) rfl dX4_goesOn_128 ?_
              refine lv_bipush (v := 6) hx hb dX4_goesOn_131 (by decide) ?_
              refine lv_iload_n hx hb dX4_goesOn_133 rfl (lv_at hl 2 rfl) ?_
              refine lv_imul hx hb dX4_goesOn_134 ?_
              refine lv_iconst (v := 1) hx hb dX4_goesOn_135 (by decide) ?_
              refine lv_iadd hx hb dX4_goesOn_136 ?_
              have h_11 := hok.1
              have hok := hok.2
              refine va_iald hx hb hK hP 5 0 rfl rfl h_11 dX4_goesOn_137 ?_
              refine lv_goto (tgt := 142) hx hb dX4_goesOn_138 (by decide) ?_
              refine lv_bipush (v := 9) hx hb dX4_goesOn_142 (by decide) ?_
              have h_12 := hok.1
              have hok := hok.2
              refine va_callv (va_runV (As := [.int (u.2.1 8 p1.toNatClampNeg), .int (u.2.1 5 ((6 * p2) + 1).toNatClampNeg), .int 9]) (rest := []) ⟨hx, hb, hml, hown, hts⟩ (cM_asks l D q cI cL hq u (u.2.1 8 p1.toNatClampNeg) (u.2.1 5 ((6 * p2) + 1).toNatClampNeg) 9 h_12) (cwV 3 hts gX4_goesOn_X4_asks rfl rfl rfl (by decide +kernel) ⟨(Nat.le_of_ble_eq_true rfl), (Nat.le_of_ble_eq_true rfl)⟩) ⟨PM_blind, va_recv hK hP (ci := 7) (q0 := 0) rfl rfl, fun U hU hW => ⟨rfl, PM_fin hP hK hU hW⟩⟩ rfl rfl hl.1 rfl (lv_room (Nat.le_of_ble_eq_true rfl)) dX4_goesOn_144 ⟨(Nat.le_of_ble_eq_true rfl), (Nat.le_of_ble_eq_true rfl)⟩) hS (fun q _ h => h) (fun q h => h) (fun u2 t H1 locs ht hvm hu2 hB hz1 hk1 hS => ?_)
              have hP := hB.1
              rw [ht] at hP
              clear hB hk1 hz1 hvm ht
              generalize H1 = H at hP hS ⊢
              refine W.widen (k := 0) (n := 0) (Nat.le_refl 0) (Nat.le_refl 0) ?_
              exact W.vret hx hb hr (fun t ht hW => ⟨⟨u2, rfl, (hu2.trans hsp.symm), PM_fin hP hK ht hW⟩, hS.F ht⟩) hS.2.2 dX4_goesOn_147
          · have hsp := hsp.trans (if_pos c_6)
            have hok := hok.1 c_6
            refine lv_aload_n hx hb dX4_goesOn_99 rfl (lv_at hl 0 rfl) ?_
            refine lv_aload_n hx hb dX4_goesOn_100 rfl (lv_at hl 0 rfl) ?_
            refine va_get (D := D) (ci := 7) (v := .int (u.1 7)) (C := RX4) (T := TX4) (N := 29) hx hb hts hiX4 hown hK hP 0 rfl rfl 28 (by decide) hf144 (fun _ h9 => h9) rfl dX4_goesOn_101 ?_
            have h_13 := hok.1
            have hok := hok.2
            refine va_callv (va_runV (As := [.int (u.1 7)]) (rest := []) ⟨hx, hb, hml, hown, hts⟩ (cM_ends l D q cI cL hq u (u.1 7) h_13) (cwV 1 hts gX4_goesOn_X4_ends rfl rfl rfl (by decide +kernel) ⟨(Nat.le_of_ble_eq_true rfl), (Nat.le_of_ble_eq_true rfl)⟩) ⟨PM_blind, va_recv hK hP (ci := 7) (q0 := 0) rfl rfl, fun U hU hW => ⟨rfl, PM_fin hP hK hU hW⟩⟩ rfl rfl hl.1 rfl (lv_room (Nat.le_of_ble_eq_true rfl)) dX4_goesOn_104 ⟨(Nat.le_of_ble_eq_true rfl), (Nat.le_of_ble_eq_true rfl)⟩) hS (fun q _ h => h) (fun q h => h) (fun u3 t H1 locs ht hvm hu3 hB hz1 hk1 hS => ?_)
            have hP := hB.1
            rw [ht] at hP
            clear hB hk1 hz1 hvm ht
            generalize H1 = H at hP hS ⊢
            refine W.widen (k := 0) (n := 0) (Nat.le_refl 0) (Nat.le_refl 0) ?_
            have hsp := hsp.trans (bnd_eq hu3)
            refine lv_goto (tgt := 147) hx hb dX4_goesOn_107 (by decide) ?_
            exact W.vret hx hb hr (fun t ht hW => ⟨⟨u3, rfl, hsp.symm, PM_fin hP hK ht hW⟩, hS.F ht⟩) hS.2.2 dX4_goesOn_147
        · have hsp := hsp.trans (if_pos c_5)
          have hok := hok.1 c_5
          refine lv_iconst (v := 1) hx hb dX4_goesOn_91 (by decide) ?_
          refine lv_goto (tgt := 96) hx hb dX4_goesOn_92 (by decide) ?_
          refine lv_icmp_ne (tgt := 110) hx hb dX4_goesOn_96 (by decide) (fun c_14 => ?_) (fun c_14 => ?_)
          · have hsp := hsp.trans (if_neg c_14)
            have hok := hok.2 c_14
            refine lv_aload_n hx hb dX4_goesOn_110 rfl (lv_at hl 0 rfl) ?_
            refine lv_aload_n hx hb dX4_goesOn_111 rfl (lv_at hl 0 rfl) ?_
            refine va_get (D := D) (ci := 7) (v := .ref (q 8)) (C := RX4) (T := TX4) (N := 29) hx hb hts hiX4 hown hK hP 0 rfl rfl 10 (by decide) hf32 (fun _ h9 => h9) rfl dX4_goesOn_112 ?_
            refine lv_iload_n hx hb dX4_goesOn_115 rfl (lv_at hl 1 rfl) ?_
            have h_15 := hok.1
            have hok := hok.2
            refine va_iald hx hb hK hP 8 0 rfl rfl h_15 dX4_goesOn_116 ?_
            refine lv_aload_n hx hb dX4_goesOn_117 rfl (lv_at hl 0 rfl) ?_
            refine va_get (D := D) (ci := 7) (v := .ref (q 6)) (C := RX4) (T := TX4) (N := 29) hx hb hts hiX4 hown hK hP 0 rfl rfl 8 (by decide) hf26 (fun _ h9 => h9) rfl dX4_goesOn_118 ?_
            refine lv_iload_n hx hb dX4_goesOn_121 rfl (lv_at hl 1 rfl) ?_
            have h_16 := hok.1
            have hok := hok.2
            refine va_iald hx hb hK hP 6 0 rfl rfl h_16 dX4_goesOn_122 ?_
            refine lv_iconst (v := 3) hx hb dX4_goesOn_123 (by decide) ?_
            refine lv_icmp_ne (tgt := 141) hx hb dX4_goesOn_124 (by decide) (fun c_17 => ?_) (fun c_17 => ?_)
            · have hsp := hsp.trans (if_neg c_17)
              have hok := hok.2 c_17
              refine lv_iload_n hx hb dX4_goesOn_141 rfl (lv_at hl 2 rfl) ?_
              refine lv_bipush (v := 9) hx hb dX4_goesOn_142 (by decide) ?_
              have h_18 := hok.1
              have hok := hok.2
              refine va_callv (va_runV (As := [.int (u.2.1 8 p1.toNatClampNeg), .int p2, .int 9]) (rest := []) ⟨hx, hb, hml, hown, hts⟩ (cM_asks l D q cI cL hq u (u.2.1 8 p1.toNatClampNeg) p2 9 h_18) (cwV 3 hts gX4_goesOn_X4_asks rfl rfl rfl (by decide +kernel) ⟨(Nat.le_of_ble_eq_true rfl), (Nat.le_of_ble_eq_true rfl)⟩) ⟨PM_blind, va_recv hK hP (ci := 7) (q0 := 0) rfl rfl, fun U hU hW => ⟨rfl, PM_fin hP hK hU hW⟩⟩ rfl rfl hl.1 rfl (lv_room (Nat.le_of_ble_eq_true rfl)) dX4_goesOn_144 ⟨(Nat.le_of_ble_eq_true rfl), (Nat.le_of_ble_eq_true rfl)⟩) hS (fun q _ h => h) (fun q h => h) (fun u4 t H1 locs ht hvm hu4 hB hz1 hk1 hS => ?_)
              have hP := hB.1
              rw [ht] at hP
              clear hB hk1 hz1 hvm ht
              generalize H1 = H at hP hS ⊢
              refine W.widen (k := 0) (n := 0) (Nat.le_refl 0) (Nat.le_refl 0) ?_
              exact W.vret hx hb hr (fun t ht hW => ⟨⟨u4, rfl, (hu4.trans hsp.symm), PM_fin hP hK ht hW⟩, hS.F ht⟩) hS.2.2 dX4_goesOn_147
            · have hsp := hsp.trans (if_pos c_17)
              have hok := hok.1 c_17
              refine lv_aload_n hx hb dX4_goesOn_127 rfl (lv_at hl 0 rfl) ?_
              refine va_get (D := D) (ci := 7) (v := .ref (q 5)) (C := RX4) (T := TX4) (N := 29) hx hb hts hiX4 hown hK hP 0 rfl rfl 6 (by decide) hf23 (fun _ h9 => h9) rfl dX4_goesOn_128 ?_
              refine lv_bipush (v := 6) hx hb dX4_goesOn_131 (by decide) ?_
              refine lv_iload_n hx hb dX4_goesOn_133 rfl (lv_at hl 2 rfl) ?_
              refine lv_imul hx hb dX4_goesOn_134 ?_
              refine lv_iconst (v := 1) hx hb dX4_goesOn_135 (by decide) ?_
              refine lv_iadd hx hb dX4_goesOn_136 ?_
              have h_19 := hok.1
              have hok := hok.2
              refine va_iald hx hb hK hP 5 0 rfl rfl h_19 dX4_goesOn_137 ?_
              refine lv_goto (tgt := 142) hx hb dX4_goesOn_138 (by decide) ?_
              refine lv_bipush (v := 9) hx hb dX4_goesOn_142 (by decide) ?_
              have h_20 := hok.1
              have hok := hok.2
              refine va_callv (va_runV (As := [.int (u.2.1 8 p1.toNatClampNeg), .int (u.2.1 5 ((6 * p2) + 1).toNatClampNeg), .int 9]) (rest := []) ⟨hx, hb, hml, hown, hts⟩ (cM_asks l D q cI cL hq u (u.2.1 8 p1.toNatClampNeg) (u.2.1 5 ((6 * p2) + 1).toNatClampNeg) 9 h_20) (cwV 3 hts gX4_goesOn_X4_asks rfl rfl rfl (by decide +kernel) ⟨(Nat.le_of_ble_eq_true rfl), (Nat.le_of_ble_eq_true rfl)⟩) ⟨PM_blind, va_recv hK hP (ci := 7) (q0 := 0) rfl rfl, fun U hU hW => ⟨rfl, PM_fin hP hK hU hW⟩⟩ rfl rfl hl.1 rfl (lv_room (Nat.le_of_ble_eq_true rfl)) dX4_goesOn_144 ⟨(Nat.le_of_ble_eq_true rfl), (Nat.le_of_ble_eq_true rfl)⟩) hS (fun q _ h => h) (fun q h => h) (fun u5 t H1 locs ht hvm hu5 hB hz1 hk1 hS => ?_)
              have hP := hB.1
              rw [ht] at hP
              clear hB hk1 hz1 hvm ht
              generalize H1 = H at hP hS ⊢
              refine W.widen (k := 0) (n := 0) (Nat.le_refl 0) (Nat.le_refl 0) ?_
              exact W.vret hx hb hr (fun t ht hW => ⟨⟨u5, rfl, (hu5.trans hsp.symm), PM_fin hP hK ht hW⟩, hS.F ht⟩) hS.2.2 dX4_goesOn_147
          · have hsp := hsp.trans (if_pos c_14)
            have hok := hok.1 c_14
            refine lv_aload_n hx hb dX4_goesOn_99 rfl (lv_at hl 0 rfl) ?_
            refine lv_aload_n hx hb dX4_goesOn_100 rfl (lv_at hl 0 rfl) ?_
            refine va_get (D := D) (ci := 7) (v := .int (u.1 7)) (C := RX4) (T := TX4) (N := 29) hx hb hts hiX4 hown hK hP 0 rfl rfl 28 (by decide) hf144 (fun _ h9 => h9) rfl dX4_goesOn_101 ?_
            have h_21 := hok.1
            have hok := hok.2
            refine va_callv (va_runV (As := [.int (u.1 7)]) (rest := []) ⟨hx, hb, hml, hown, hts⟩ (cM_ends l D q cI cL hq u (u.1 7) h_21) (cwV 1 hts gX4_goesOn_X4_ends rfl rfl rfl (by decide +kernel) ⟨(Nat.le_of_ble_eq_true rfl), (Nat.le_of_ble_eq_true rfl)⟩) ⟨PM_blind, va_recv hK hP (ci := 7) (q0 := 0) rfl rfl, fun U hU hW => ⟨rfl, PM_fin hP hK hU hW⟩⟩ rfl rfl hl.1 rfl (lv_room (Nat.le_of_ble_eq_true rfl)) dX4_goesOn_104 ⟨(Nat.le_of_ble_eq_true rfl), (Nat.le_of_ble_eq_true rfl)⟩) hS (fun q _ h => h) (fun q h => h) (fun u6 t H1 locs ht hvm hu6 hB hz1 hk1 hS => ?_)
            have hP := hB.1
            rw [ht] at hP
            clear hB hk1 hz1 hvm ht
            generalize H1 = H at hP hS ⊢
            refine W.widen (k := 0) (n := 0) (Nat.le_refl 0) (Nat.le_refl 0) ?_
            have hsp := hsp.trans (bnd_eq hu6)
            refine lv_goto (tgt := 147) hx hb dX4_goesOn_107 (by decide) ?_
            exact W.vret hx hb hr (fun t ht hW => ⟨⟨u6, rfl, hsp.symm, PM_fin hP hK ht hW⟩, hS.F ht⟩) hS.2.2 dX4_goesOn_147
      · have hsp := hsp.trans (if_neg c_3)
        have hok := hok.2 c_3
        refine lv_aload_n hx hb dX4_goesOn_48 rfl (lv_at hl 0 rfl) ?_
        refine va_get (D := D) (ci := 7) (v := .int (u.1 7)) (C := RX4) (T := TX4) (N := 29) hx hb hts hiX4 hown hK hP 0 rfl rfl 28 (by decide) hf144 (fun _ h9 => h9) rfl dX4_goesOn_49 ?_
        refine lv_if_eq (tgt := 68) hx hb dX4_goesOn_52 (by decide) (fun c_22 => ?_) (fun c_22 => ?_)
        · have hsp := hsp.trans (if_pos c_22)
          have hok := hok.1 c_22
          refine lv_aload_n hx hb dX4_goesOn_68 rfl (lv_at hl 0 rfl) ?_
          refine lv_iconst (v := 0) hx hb dX4_goesOn_69 (by decide) ?_
          have h_23 := hok.1
          have hok := hok.2
          refine va_callv (va_runV (As := [.int 0]) (rest := []) ⟨hx, hb, hml, hown, hts⟩ (cM_ends l D q cI cL hq u 0 h_23) (cwV 1 hts gX4_goesOn_X4_ends rfl rfl rfl (by decide +kernel) ⟨(Nat.le_of_ble_eq_true rfl), (Nat.le_of_ble_eq_true rfl)⟩) ⟨PM_blind, va_recv hK hP (ci := 7) (q0 := 0) rfl rfl, fun U hU hW => ⟨rfl, PM_fin hP hK hU hW⟩⟩ rfl rfl hl.1 rfl (lv_room (Nat.le_of_ble_eq_true rfl)) dX4_goesOn_70 ⟨(Nat.le_of_ble_eq_true rfl), (Nat.le_of_ble_eq_true rfl)⟩) hS (fun q _ h => h) (fun q h => h) (fun u7 t H1 locs ht hvm hu7 hB hz1 hk1 hS => ?_)
          have hP := hB.1
          rw [ht] at hP
          clear hB hk1 hz1 hvm ht
          generalize H1 = H at hP hS ⊢
          refine W.widen (k := 0) (n := 0) (Nat.le_refl 0) (Nat.le_refl 0) ?_
          have hsp := hsp.trans (bnd_eq hu7)
          refine lv_goto (tgt := 147) hx hb dX4_goesOn_73 (by decide) ?_
          exact W.vret hx hb hr (fun t ht hW => ⟨⟨u7, rfl, hsp.symm, PM_fin hP hK ht hW⟩, hS.F ht⟩) hS.2.2 dX4_goesOn_147
        · have hsp := hsp.trans (if_neg c_22)
          have hok := hok.2 c_22
          refine lv_aload_n hx hb dX4_goesOn_55 rfl (lv_at hl 0 rfl) ?_
          refine lv_iload_n hx hb dX4_goesOn_56 rfl (lv_at hl 1 rfl) ?_
          refine lv_iload_n hx hb dX4_goesOn_57 rfl (lv_at hl 2 rfl) ?_
          refine lv_iload_n hx hb dX4_goesOn_58 rfl (lv_at hl 3 rfl) ?_
          refine lv_bipush (v := 9) hx hb dX4_goesOn_59 (by decide) ?_
          refine lv_isub hx hb dX4_goesOn_61 ?_
          have h_24 := hok.1
          have hok := hok.2
          refine va_callv (va_runV (As := [.int p1, .int p2, .int (p3 - 9)]) (rest := []) ⟨hx, hb, hml, hown, hts⟩ (cM_each l D q cI cL hq u p1 p2 (p3 - 9) h_24) (cwV 3 hts gX4_goesOn_X4_each rfl rfl rfl (by decide +kernel) ⟨(Nat.le_of_ble_eq_true rfl), (Nat.le_of_ble_eq_true rfl)⟩) ⟨PM_blind, va_recv hK hP (ci := 7) (q0 := 0) rfl rfl, fun U hU hW => ⟨rfl, PM_fin hP hK hU hW⟩⟩ rfl rfl hl.1 rfl (lv_room (Nat.le_of_ble_eq_true rfl)) dX4_goesOn_62 ⟨(Nat.le_of_ble_eq_true rfl), (Nat.le_of_ble_eq_true rfl)⟩) hS (fun q _ h => h) (fun q h => h) (fun u8 t H1 locs ht hvm hu8 hB hz1 hk1 hS => ?_)
          have hP := hB.1
          rw [ht] at hP
          clear hB hk1 hz1 hvm ht
          generalize H1 = H at hP hS ⊢
          refine W.widen (k := 0) (n := 0) (Nat.le_refl 0) (Nat.le_refl 0) ?_
          have hsp := hsp.trans (bnd_eq hu8)
          refine lv_goto (tgt := 147) hx hb dX4_goesOn_65 (by decide) ?_
          exact W.vret hx hb hr (fun t ht hW => ⟨⟨u8, rfl, hsp.symm, PM_fin hP hK ht hW⟩, hS.F ht⟩) hS.2.2 dX4_goesOn_147
    · have hsp := hsp.trans (if_pos c_2)
      have hok := hok.1 c_2
      refine lv_aload_n hx hb dX4_goesOn_23 rfl (lv_at hl 0 rfl) ?_
      refine lv_aload_n hx hb dX4_goesOn_24 rfl (lv_at hl 0 rfl) ?_
      refine va_get (D := D) (ci := 7) (v := .int (u.1 7)) (C := RX4) (T := TX4) (N := 29) hx hb hts hiX4 hown hK hP 0 rfl rfl 28 (by decide) hf144 (fun _ h9 => h9) rfl dX4_goesOn_25 ?_
      refine lv_if_ne (tgt := 35) hx hb dX4_goesOn_28 (by decide) (fun c_25 => ?_) (fun c_25 => ?_)
      · have hsp := hsp.trans (if_neg c_25)
        have hok := hok.2 c_25
        refine lv_iconst (v := 0) hx hb dX4_goesOn_35 (by decide) ?_
        have h_26 := hok.1
        have hok := hok.2
        refine va_callv (va_runV (As := [.int 0]) (rest := []) ⟨hx, hb, hml, hown, hts⟩ (cM_ends l D q cI cL hq u 0 h_26) (cwV 1 hts gX4_goesOn_X4_ends rfl rfl rfl (by decide +kernel) ⟨(Nat.le_of_ble_eq_true rfl), (Nat.le_of_ble_eq_true rfl)⟩) ⟨PM_blind, va_recv hK hP (ci := 7) (q0 := 0) rfl rfl, fun U hU hW => ⟨rfl, PM_fin hP hK hU hW⟩⟩ rfl rfl hl.1 rfl (lv_room (Nat.le_of_ble_eq_true rfl)) dX4_goesOn_36 ⟨(Nat.le_of_ble_eq_true rfl), (Nat.le_of_ble_eq_true rfl)⟩) hS (fun q _ h => h) (fun q h => h) (fun u9 t H1 locs ht hvm hu9 hB hz1 hk1 hS => ?_)
        have hP := hB.1
        rw [ht] at hP
        clear hB hk1 hz1 hvm ht
        generalize H1 = H at hP hS ⊢
        refine W.widen (k := 0) (n := 0) (Nat.le_refl 0) (Nat.le_refl 0) ?_
        have hsp := hsp.trans (bnd_eq hu9)
        refine lv_goto (tgt := 147) hx hb dX4_goesOn_39 (by decide) ?_
        exact W.vret hx hb hr (fun t ht hW => ⟨⟨u9, rfl, hsp.symm, PM_fin hP hK ht hW⟩, hS.F ht⟩) hS.2.2 dX4_goesOn_147
      · have hsp := hsp.trans (if_pos c_25)
        have hok := hok.1 c_25
        refine lv_iconst (v := 1) hx hb dX4_goesOn_31 (by decide) ?_
        refine lv_goto (tgt := 36) hx hb dX4_goesOn_32 (by decide) ?_
        have h_27 := hok.1
        have hok := hok.2
        refine va_callv (va_runV (As := [.int 1]) (rest := []) ⟨hx, hb, hml, hown, hts⟩ (cM_ends l D q cI cL hq u 1 h_27) (cwV 1 hts gX4_goesOn_X4_ends rfl rfl rfl (by decide +kernel) ⟨(Nat.le_of_ble_eq_true rfl), (Nat.le_of_ble_eq_true rfl)⟩) ⟨PM_blind, va_recv hK hP (ci := 7) (q0 := 0) rfl rfl, fun U hU hW => ⟨rfl, PM_fin hP hK hU hW⟩⟩ rfl rfl hl.1 rfl (lv_room (Nat.le_of_ble_eq_true rfl)) dX4_goesOn_36 ⟨(Nat.le_of_ble_eq_true rfl), (Nat.le_of_ble_eq_true rfl)⟩) hS (fun q _ h => h) (fun q h => h) (fun u10 t H1 locs ht hvm hu10 hB hz1 hk1 hS => ?_)
        have hP := hB.1
        rw [ht] at hP
        clear hB hk1 hz1 hvm ht
        generalize H1 = H at hP hS ⊢
        refine W.widen (k := 0) (n := 0) (Nat.le_refl 0) (Nat.le_refl 0) ?_
        have hsp := hsp.trans (bnd_eq hu10)
        refine lv_goto (tgt := 147) hx hb dX4_goesOn_39 (by decide) ?_
        exact W.vret hx hb hr (fun t ht hW => ⟨⟨u10, rfl, hsp.symm, PM_fin hP hK ht hW⟩, hS.F ht⟩) hS.2.2 dX4_goesOn_147
  · have hsp := hsp.trans (if_pos c_1)
    have hok := hok.1 c_1
    refine lv_aload_n hx hb dX4_goesOn_6 rfl (lv_at hl 0 rfl) ?_
    refine lv_aload_n hx hb dX4_goesOn_7 rfl (lv_at hl 0 rfl) ?_
    refine va_get (D := D) (ci := 7) (v := .int (u.1 7)) (C := RX4) (T := TX4) (N := 29) hx hb hts hiX4 hown hK hP 0 rfl rfl 28 (by decide) hf144 (fun _ h9 => h9) rfl dX4_goesOn_8 ?_
    have h_28 := hok.1
    have hok := hok.2
    refine va_callv (va_runV (As := [.int (u.1 7)]) (rest := []) ⟨hx, hb, hml, hown, hts⟩ (cM_ends l D q cI cL hq u (u.1 7) h_28) (cwV 1 hts gX4_goesOn_X4_ends rfl rfl rfl (by decide +kernel) ⟨(Nat.le_of_ble_eq_true rfl), (Nat.le_of_ble_eq_true rfl)⟩) ⟨PM_blind, va_recv hK hP (ci := 7) (q0 := 0) rfl rfl, fun U hU hW => ⟨rfl, PM_fin hP hK hU hW⟩⟩ rfl rfl hl.1 rfl (lv_room (Nat.le_of_ble_eq_true rfl)) dX4_goesOn_11 ⟨(Nat.le_of_ble_eq_true rfl), (Nat.le_of_ble_eq_true rfl)⟩) hS (fun q _ h => h) (fun q h => h) (fun u11 t H1 locs ht hvm hu11 hB hz1 hk1 hS => ?_)
    have hP := hB.1
    rw [ht] at hP
    clear hB hk1 hz1 hvm ht
    generalize H1 = H at hP hS ⊢
    refine W.widen (k := 0) (n := 0) (Nat.le_refl 0) (Nat.le_refl 0) ?_
    have hsp := hsp.trans (bnd_eq hu11)
    refine lv_goto (tgt := 147) hx hb dX4_goesOn_14 (by decide) ?_
    exact W.vret hx hb hr (fun t ht hW => ⟨⟨u11, rfl, hsp.symm, PM_fin hP hK ht hW⟩, hS.F ht⟩) hS.2.2 dX4_goesOn_147
set_option maxHeartbeats 4000000 in
set_option maxRecDepth 100000 in
theorem cM_matches (l : Launch) (D : va_G) (q : Nat → Nat) (cI cL : ClassId) (hq : DQ 22 q) (u : St) (p1 : Int32) (p2 : Int32) (hok : okM_matches u p1 p2) : Met l yX4_matches wsX4_matches { frames := 4, cells := 0, slots := 0, locals := 93 } (va_Pc [.ref (q 0), .int p1, .int p2] (fun U => PM D q cI cL u U)) (va_Qi (fun (r : Int32) (u' : St) => (r, u') = sM_matches u p1 p2) (fun u' t => PM D q cI cL u' t) (AQ 22 q)) 0 0 (AQ 22 q) := by
  refine Met.ofW (cc := cX4_matches) (maxL := 4) (ret := (some .int)) (by decide) rfl ?_
  intro p e s m args below meth c s₁ B hml hv
  obtain ⟨rfl, hP, hK⟩ := hv
  have hx := B.exec
  have hb := B.bytes
  have hr := B.returns
  have hts := atoms_spec (ws := wsX4_matches) B.pre
  have hown : s.vm.findClass RX4 = some m.cls := findClass_of_methodNamed B.named
  have hlocks := B.notSynchronized
  have hiX4 : ∀ w ∈ u_ws RX4 TX4 29, w ∈ wsX4_matches := by decide +kernel
  have hf135 := hts (.fieldLink RX4 135 "ThingRulesModel" "finding" "I") (by decide +kernel)
  have hf144 := hts (.fieldLink RX4 144 "ThingRulesModel" "fits" "Z") (by decide +kernel)
  have hf56 := hts (.fieldLink RX4 56 "ThingRulesModel" "slots" "[I") (by decide +kernel)
  have hf59 := hts (.fieldLink RX4 59 "ThingRulesModel" "before" "[I") (by decide +kernel)
  have hf141 := hts (.fieldLink RX4 141 "ThingRulesModel" "looking" "I") (by decide +kernel)
  have hf71 := hts (.fieldLink RX4 71 "ThingRulesModel" "lookS" "[I") (by decide +kernel)
  have hf65 := hts (.fieldLink RX4 65 "ThingRulesModel" "lookP" "[I") (by decide +kernel)
  have hf68 := hts (.fieldLink RX4 68 "ThingRulesModel" "lookT" "[I") (by decide +kernel)
  have hf138 := hts (.fieldLink RX4 138 "ThingRulesModel" "steps" "I") (by decide +kernel)
  have hS : va_S (AQ 22 q) s.heap s.heap [] := va_S.rf
  have hP : va_P D vwCl (wM q cI cL u) s.heap := hP
  have hl := lv_entry ([.ref (q 0), .int p1, .int p2]) (n := 4) (Nat.le_of_ble_eq_true rfl)
  rw [lg_entry_eq]
  generalize (lg_sl ([.ref (q 0), .int p1, .int p2]) ++ List.replicate (4 - (lg_sl ([.ref (q 0), .int p1, .int p2])).length) Slot.unset).toArray = ls at hl ⊢
  have hl : lv_has ls 4 [(0, .ref (q 0)), (1, .int p1), (2, .int p2)] := hl
  have loop_141 : ∀ (n : Nat) (u' : St) (x3 : Int32) (H : Heap) (locs : List Loc) (ls : Array Slot), oklM_matches_141 n u' p1 p2 x3 → sM_matches u p1 p2 = lM_matches_141 n u' p1 p2 x3 → va_P D vwCl (wM q cI cL u') H → va_S (AQ 22 q) s.heap H locs → lv_has ls 4 [(0, .ref (q 0)), (1, .int p1), (2, .int p2), (3, .int x3)] → W p l e (headSpec wsX4_matches { frames := 4, cells := 0, slots := 0, locals := 93 }).room s m ([.ref (q 0), .int p1, .int p2] : List Value).toArray below meth c H locs 0 0 (MQ below (va_Qi (fun (r : Int32) (u' : St) => (r, u') = sM_matches u p1 p2) (fun u' t => PM D q cI cL u' t) (AQ 22 q)) ([.ref (q 0), .int p1, .int p2] : List Value).toArray s 0 0 (AQ 22 q)) (F0 m 141 ls []) := by
    intro n
    induction n with
    | zero => intro u' x3 H locs ls hok; exact False.elim hok
    | succ n ih =>
      intro u' x3 H locs ls hok hsp hP hS hl
      replace hsp := hsp.trans (lM_matches_141_s n u' p1 p2 x3)
      replace hok := (oklM_matches_141_s n u' p1 p2 x3).mp hok
      refine lv_iload_n hx hb dX4_matches_141 rfl (lv_at hl 3 rfl) ?_
      refine lv_iconst (v := 4) hx hb dX4_matches_142 (by decide) ?_
      refine lv_icmp_ge (tgt := 164) hx hb dX4_matches_143 (by decide) (fun c_1 => ?_) (fun c_1 => ?_)
      · have hsp := hsp.trans (if_pos c_1)
        have hok := hok.1 c_1
        refine lv_aload_n hx hb dX4_matches_164 rfl (lv_at hl 0 rfl) ?_
        refine va_get (D := D) (ci := 7) (v := .int (u'.1 6)) (C := RX4) (T := TX4) (N := 29) hx hb hts hiX4 hown hK hP 0 rfl rfl 27 (by decide) hf135 (fun _ h9 => h9) rfl dX4_matches_165 ?_
        refine lv_if_eq (tgt := 182) hx hb dX4_matches_168 (by decide) (fun c_2 => ?_) (fun c_2 => ?_)
        · have hsp := hsp.trans (if_pos c_2)
          refine lv_aload_n hx hb dX4_matches_182 rfl (lv_at hl 0 rfl) ?_
          refine va_get (D := D) (ci := 7) (v := .int (u'.1 7)) (C := RX4) (T := TX4) (N := 29) hx hb hts hiX4 hown hK hP 0 rfl rfl 28 (by decide) hf144 (fun _ h9 => h9) rfl dX4_matches_183 ?_
          refine lv_if_eq (tgt := 193) hx hb dX4_matches_186 (by decide) (fun c_3 => ?_) (fun c_3 => ?_)
          · have hsp := hsp.trans (if_pos c_3)
            refine lv_iconst (v := 0) hx hb dX4_matches_193 (by decide) ?_
            exact W.iret (v := 0) hx hb hr (fun t ht hW => ⟨⟨0, u', rfl, hsp.symm, PM_fin hP hK ht hW⟩, hS.F ht⟩) hS.2.2 dX4_matches_194
          · have hsp := hsp.trans (if_neg c_3)
            refine lv_iconst (v := 1) hx hb dX4_matches_189 (by decide) ?_
            refine lv_goto (tgt := 194) hx hb dX4_matches_190 (by decide) ?_
            exact W.iret (v := 1) hx hb hr (fun t ht hW => ⟨⟨1, u', rfl, hsp.symm, PM_fin hP hK ht hW⟩, hS.F ht⟩) hS.2.2 dX4_matches_194
        · have hsp := hsp.trans (if_neg c_2)
          have hok := hok.2 c_2
          refine lv_aload_n hx hb dX4_matches_171 rfl (lv_at hl 0 rfl) ?_
          refine lv_aload_n hx hb dX4_matches_172 rfl (lv_at hl 0 rfl) ?_
          refine va_get (D := D) (ci := 7) (v := .int (u'.1 6)) (C := RX4) (T := TX4) (N := 29) hx hb hts hiX4 hown hK hP 0 rfl rfl 27 (by decide) hf135 (fun _ h9 => h9) rfl dX4_matches_173 ?_
          have h_4 := hok.1
          have hok := hok.2
          refine va_calli (va_runV (As := [.int (u'.1 6)]) (rest := []) ⟨hx, hb, hml, hown, hts⟩ (cM_finds l D q cI cL hq u' (u'.1 6) h_4) (cwV 1 hts gX4_matches_X4_finds rfl rfl rfl (by decide +kernel) ⟨(Nat.le_of_ble_eq_true rfl), (Nat.le_of_ble_eq_true rfl)⟩) ⟨PM_blind, va_recv hK hP (ci := 7) (q0 := 0) rfl rfl, fun U hU hW => ⟨rfl, PM_fin hP hK hU hW⟩⟩ rfl rfl hl.1 rfl (lv_room (Nat.le_of_ble_eq_true rfl)) dX4_matches_176 ⟨(Nat.le_of_ble_eq_true rfl), (Nat.le_of_ble_eq_true rfl)⟩) hS (fun q _ h => h) (fun q h => h) (fun r6 u6 t H1 locs ht hvm hu6 hB hz1 hk1 hS => ?_)
          have hP := hB.1
          rw [ht] at hP
          clear hB hk1 hz1 hvm ht
          generalize H1 = H at hP hS ⊢
          refine W.widen (k := 0) (n := 0) (Nat.le_refl 0) (Nat.le_refl 0) ?_
          have hsp := hsp.trans (bnd2_eq hu6)
          refine lv_goto (tgt := 194) hx hb dX4_matches_179 (by decide) ?_
          exact W.iret (v := r6) hx hb hr (fun t ht hW => ⟨⟨r6, u6, rfl, hsp.symm, PM_fin hP hK ht hW⟩, hS.F ht⟩) hS.2.2 dX4_matches_194
      · have hsp := hsp.trans (if_neg c_1)
        have hok := hok.2 c_1
        refine lv_aload_n hx hb dX4_matches_146 rfl (lv_at hl 0 rfl) ?_
        refine va_get (D := D) (ci := 7) (v := .ref (q 16)) (C := RX4) (T := TX4) (N := 29) hx hb hts hiX4 hown hK hP 0 rfl rfl 19 (by decide) hf56 (fun _ h9 => h9) rfl dX4_matches_147 ?_
        refine lv_iload_n hx hb dX4_matches_150 rfl (lv_at hl 3 rfl) ?_
        refine lv_aload_n hx hb dX4_matches_151 rfl (lv_at hl 0 rfl) ?_
        refine va_get (D := D) (ci := 7) (v := .ref (q 17)) (C := RX4) (T := TX4) (N := 29) hx hb hts hiX4 hown hK hP 0 rfl rfl 20 (by decide) hf59 (fun _ h9 => h9) rfl dX4_matches_152 ?_
        refine lv_iload_n hx hb dX4_matches_155 rfl (lv_at hl 3 rfl) ?_
        have h_5 := hok.1
        have hok := hok.2
        refine va_iald hx hb hK hP 17 0 rfl rfl h_5 dX4_matches_156 ?_
        have h_6 := hok.1
        have hok := hok.2
        refine va_iast hx hb hK hP (dM hq) hS 16 0 rfl rfl h_6 dX4_matches_157 (fun H locs hP _ hS => ?_)
        obtain ⟨u7, hu7⟩ : ∃ z : St, z = (stA u' 16 x3.toNatClampNeg (u'.2.1 17 x3.toNatClampNeg)) := ⟨_, rfl⟩
        have hP : va_P D vwCl (wM q cI cL u7) H := by rw [hu7]; exact hP
        have hsp := hsp.trans (bnd_eq hu7)
        have hok := bnd_ok hu7 hok
        refine lv_iinc (v := (x3 + 1)) (lv' := [(3, .int (x3 + 1)), (0, .ref (q 0)), (1, .int p1), (2, .int p2)]) hx hb dX4_matches_158 hl (k := 3) rfl rfl (by decide) rfl (fun ls hl => ?_)
        refine lv_goto (tgt := 141) hx hb dX4_matches_161 (by decide) ?_
        exact ih u7 (x3 + 1) _ _ _ hok hsp hP hS (lv_sub hl [1, 2, 3, 0] rfl)
  have loop_51 : ∀ (n : Nat) (u' : St) (x3 : Int32) (H : Heap) (locs : List Loc) (ls : Array Slot), oklM_matches_51 n u' p1 p2 x3 → sM_matches u p1 p2 = lM_matches_51 n u' p1 p2 x3 → va_P D vwCl (wM q cI cL u') H → va_S (AQ 22 q) s.heap H locs → lv_has ls 4 [(0, .ref (q 0)), (1, .int p1), (2, .int p2), (3, .int x3)] → W p l e (headSpec wsX4_matches { frames := 4, cells := 0, slots := 0, locals := 93 }).room s m ([.ref (q 0), .int p1, .int p2] : List Value).toArray below meth c H locs 0 0 (MQ below (va_Qi (fun (r : Int32) (u' : St) => (r, u') = sM_matches u p1 p2) (fun u' t => PM D q cI cL u' t) (AQ 22 q)) ([.ref (q 0), .int p1, .int p2] : List Value).toArray s 0 0 (AQ 22 q)) (F0 m 51 ls []) := by
    intro n
    induction n with
    | zero => intro u' x3 H locs ls hok; exact False.elim hok
    | succ n ih =>
      intro u' x3 H locs ls hok hsp hP hS hl
      replace hsp := hsp.trans (lM_matches_51_s n u' p1 p2 x3)
      replace hok := (oklM_matches_51_s n u' p1 p2 x3).mp hok
      refine lv_aload_n hx hb dX4_matches_51 rfl (lv_at hl 0 rfl) ?_
      refine va_get (D := D) (ci := 7) (v := .int (u'.1 5)) (C := RX4) (T := TX4) (N := 29) hx hb hts hiX4 hown hK hP 0 rfl rfl 26 (by decide) hf141 (fun _ h9 => h9) rfl dX4_matches_52 ?_
      refine lv_if_le (tgt := 125) hx hb dX4_matches_55 (by decide) (fun c_7 => ?_) (fun c_7 => ?_)
      · have hsp := hsp.trans (if_pos c_7)
        have hok := hok.1 c_7
        refine lv_aload_n hx hb dX4_matches_125 rfl (lv_at hl 0 rfl) ?_
        refine va_get (D := D) (ci := 7) (v := .int (u'.1 6)) (C := RX4) (T := TX4) (N := 29) hx hb hts hiX4 hown hK hP 0 rfl rfl 27 (by decide) hf135 (fun _ h9 => h9) rfl dX4_matches_126 ?_
        refine lv_if_ne (tgt := 139) hx hb dX4_matches_129 (by decide) (fun c_8 => ?_) (fun c_8 => ?_)
        · have hsp := hsp.trans (if_neg c_8)
          have hok := hok.2 c_8
          refine lv_iconst (v := 0) hx hb dX4_matches_139 (by decide) ?_
          refine lv_istore_n (lv' := [(3, .int 0), (0, .ref (q 0)), (1, .int p1), (2, .int p2)]) hx hb dX4_matches_140 rfl hl (by decide) rfl (fun ls hl => ?_)
          exact loop_141 100 u' 0 _ _ _ hok hsp hP hS (lv_sub hl [1, 2, 3, 0] rfl)
        · have hsp := hsp.trans (if_pos c_8)
          have hok := hok.1 c_8
          refine lv_aload_n hx hb dX4_matches_132 rfl (lv_at hl 0 rfl) ?_
          refine va_get (D := D) (ci := 7) (v := .int (u'.1 7)) (C := RX4) (T := TX4) (N := 29) hx hb hts hiX4 hown hK hP 0 rfl rfl 28 (by decide) hf144 (fun _ h9 => h9) rfl dX4_matches_133 ?_
          refine lv_if_ne (tgt := 164) hx hb dX4_matches_136 (by decide) (fun c_9 => ?_) (fun c_9 => ?_)
          · have hsp := hsp.trans (if_neg c_9)
            have hok := hok.2 c_9
            refine lv_aload_n hx hb dX4_matches_164 rfl (lv_at hl 0 rfl) ?_
            refine va_get (D := D) (ci := 7) (v := .int (u'.1 6)) (C := RX4) (T := TX4) (N := 29) hx hb hts hiX4 hown hK hP 0 rfl rfl 27 (by decide) hf135 (fun _ h9 => h9) rfl dX4_matches_165 ?_
            refine lv_if_eq (tgt := 182) hx hb dX4_matches_168 (by decide) (fun c_10 => ?_) (fun c_10 => ?_)
            · have hsp := hsp.trans (if_pos c_10)
              refine lv_aload_n hx hb dX4_matches_182 rfl (lv_at hl 0 rfl) ?_
              refine va_get (D := D) (ci := 7) (v := .int (u'.1 7)) (C := RX4) (T := TX4) (N := 29) hx hb hts hiX4 hown hK hP 0 rfl rfl 28 (by decide) hf144 (fun _ h9 => h9) rfl dX4_matches_183 ?_
              refine lv_if_eq (tgt := 193) hx hb dX4_matches_186 (by decide) (fun c_11 => ?_) (fun c_11 => ?_)
              · have hsp := hsp.trans (if_pos c_11)
                refine lv_iconst (v := 0) hx hb dX4_matches_193 (by decide) ?_
                exact W.iret (v := 0) hx hb hr (fun t ht hW => ⟨⟨0, u', rfl, hsp.symm, PM_fin hP hK ht hW⟩, hS.F ht⟩) hS.2.2 dX4_matches_194
              · have hsp := hsp.trans (if_neg c_11)
                refine lv_iconst (v := 1) hx hb dX4_matches_189 (by decide) ?_
                refine lv_goto (tgt := 194) hx hb dX4_matches_190 (by decide) ?_
                exact W.iret (v := 1) hx hb hr (fun t ht hW => ⟨⟨1, u', rfl, hsp.symm, PM_fin hP hK ht hW⟩, hS.F ht⟩) hS.2.2 dX4_matches_194
            · have hsp := hsp.trans (if_neg c_10)
              have hok := hok.2 c_10
              refine lv_aload_n hx hb dX4_matches_171 rfl (lv_at hl 0 rfl) ?_
              refine lv_aload_n hx hb dX4_matches_172 rfl (lv_at hl 0 rfl) ?_
              refine va_get (D := D) (ci := 7) (v := .int (u'.1 6)) (C := RX4) (T := TX4) (N := 29) hx hb hts hiX4 hown hK hP 0 rfl rfl 27 (by decide) hf135 (fun _ h9 => h9) rfl dX4_matches_173 ?_
              have h_12 := hok.1
              have hok := hok.2
              refine va_calli (va_runV (As := [.int (u'.1 6)]) (rest := []) ⟨hx, hb, hml, hown, hts⟩ (cM_finds l D q cI cL hq u' (u'.1 6) h_12) (cwV 1 hts gX4_matches_X4_finds rfl rfl rfl (by decide +kernel) ⟨(Nat.le_of_ble_eq_true rfl), (Nat.le_of_ble_eq_true rfl)⟩) ⟨PM_blind, va_recv hK hP (ci := 7) (q0 := 0) rfl rfl, fun U hU hW => ⟨rfl, PM_fin hP hK hU hW⟩⟩ rfl rfl hl.1 rfl (lv_room (Nat.le_of_ble_eq_true rfl)) dX4_matches_176 ⟨(Nat.le_of_ble_eq_true rfl), (Nat.le_of_ble_eq_true rfl)⟩) hS (fun q _ h => h) (fun q h => h) (fun r8 u8 t H1 locs ht hvm hu8 hB hz1 hk1 hS => ?_)
              have hP := hB.1
              rw [ht] at hP
              clear hB hk1 hz1 hvm ht
              generalize H1 = H at hP hS ⊢
              refine W.widen (k := 0) (n := 0) (Nat.le_refl 0) (Nat.le_refl 0) ?_
              have hsp := hsp.trans (bnd2_eq hu8)
              refine lv_goto (tgt := 194) hx hb dX4_matches_179 (by decide) ?_
              exact W.iret (v := r8) hx hb hr (fun t ht hW => ⟨⟨r8, u8, rfl, hsp.symm, PM_fin hP hK ht hW⟩, hS.F ht⟩) hS.2.2 dX4_matches_194
          · have hsp := hsp.trans (if_pos c_9)
            have hok := hok.1 c_9
            refine lv_iconst (v := 0) hx hb dX4_matches_139 (by decide) ?_
            refine lv_istore_n (lv' := [(3, .int 0), (0, .ref (q 0)), (1, .int p1), (2, .int p2)]) hx hb dX4_matches_140 rfl hl (by decide) rfl (fun ls hl => ?_)
            exact loop_141 100 u' 0 _ _ _ hok hsp hP hS (lv_sub hl [1, 2, 3, 0] rfl)
      · have hsp := hsp.trans (if_neg c_7)
        have hok := hok.2 c_7
        refine lv_aload_n hx hb dX4_matches_58 rfl (lv_at hl 0 rfl) ?_
        refine va_get (D := D) (ci := 7) (v := .int (u'.1 6)) (C := RX4) (T := TX4) (N := 29) hx hb hts hiX4 hown hK hP 0 rfl rfl 27 (by decide) hf135 (fun _ h9 => h9) rfl dX4_matches_59 ?_
        refine lv_if_ne (tgt := 125) hx hb dX4_matches_62 (by decide) (fun c_13 => ?_) (fun c_13 => ?_)
        · have hsp := hsp.trans (if_neg c_13)
          have hok := hok.2 c_13
          refine lv_aload_n hx hb dX4_matches_125 rfl (lv_at hl 0 rfl) ?_
          refine va_get (D := D) (ci := 7) (v := .int (u'.1 6)) (C := RX4) (T := TX4) (N := 29) hx hb hts hiX4 hown hK hP 0 rfl rfl 27 (by decide) hf135 (fun _ h9 => h9) rfl dX4_matches_126 ?_
          refine lv_if_ne (tgt := 139) hx hb dX4_matches_129 (by decide) (fun c_14 => ?_) (fun c_14 => ?_)
          · have hsp := hsp.trans (if_neg c_14)
            have hok := hok.2 c_14
            refine lv_iconst (v := 0) hx hb dX4_matches_139 (by decide) ?_
            refine lv_istore_n (lv' := [(3, .int 0), (0, .ref (q 0)), (1, .int p1), (2, .int p2)]) hx hb dX4_matches_140 rfl hl (by decide) rfl (fun ls hl => ?_)
            exact loop_141 100 u' 0 _ _ _ hok hsp hP hS (lv_sub hl [1, 2, 3, 0] rfl)
          · have hsp := hsp.trans (if_pos c_14)
            have hok := hok.1 c_14
            refine lv_aload_n hx hb dX4_matches_132 rfl (lv_at hl 0 rfl) ?_
            refine va_get (D := D) (ci := 7) (v := .int (u'.1 7)) (C := RX4) (T := TX4) (N := 29) hx hb hts hiX4 hown hK hP 0 rfl rfl 28 (by decide) hf144 (fun _ h9 => h9) rfl dX4_matches_133 ?_
            refine lv_if_ne (tgt := 164) hx hb dX4_matches_136 (by decide) (fun c_15 => ?_) (fun c_15 => ?_)
            · have hsp := hsp.trans (if_neg c_15)
              have hok := hok.2 c_15
              refine lv_aload_n hx hb dX4_matches_164 rfl (lv_at hl 0 rfl) ?_
              refine va_get (D := D) (ci := 7) (v := .int (u'.1 6)) (C := RX4) (T := TX4) (N := 29) hx hb hts hiX4 hown hK hP 0 rfl rfl 27 (by decide) hf135 (fun _ h9 => h9) rfl dX4_matches_165 ?_
              refine lv_if_eq (tgt := 182) hx hb dX4_matches_168 (by decide) (fun c_16 => ?_) (fun c_16 => ?_)
              · have hsp := hsp.trans (if_pos c_16)
                refine lv_aload_n hx hb dX4_matches_182 rfl (lv_at hl 0 rfl) ?_
                refine va_get (D := D) (ci := 7) (v := .int (u'.1 7)) (C := RX4) (T := TX4) (N := 29) hx hb hts hiX4 hown hK hP 0 rfl rfl 28 (by decide) hf144 (fun _ h9 => h9) rfl dX4_matches_183 ?_
                refine lv_if_eq (tgt := 193) hx hb dX4_matches_186 (by decide) (fun c_17 => ?_) (fun c_17 => ?_)
                · have hsp := hsp.trans (if_pos c_17)
                  refine lv_iconst (v := 0) hx hb dX4_matches_193 (by decide) ?_
                  exact W.iret (v := 0) hx hb hr (fun t ht hW => ⟨⟨0, u', rfl, hsp.symm, PM_fin hP hK ht hW⟩, hS.F ht⟩) hS.2.2 dX4_matches_194
                · have hsp := hsp.trans (if_neg c_17)
                  refine lv_iconst (v := 1) hx hb dX4_matches_189 (by decide) ?_
                  refine lv_goto (tgt := 194) hx hb dX4_matches_190 (by decide) ?_
                  exact W.iret (v := 1) hx hb hr (fun t ht hW => ⟨⟨1, u', rfl, hsp.symm, PM_fin hP hK ht hW⟩, hS.F ht⟩) hS.2.2 dX4_matches_194
              · have hsp := hsp.trans (if_neg c_16)
                have hok := hok.2 c_16
                refine lv_aload_n hx hb dX4_matches_171 rfl (lv_at hl 0 rfl) ?_
                refine lv_aload_n hx hb dX4_matches_172 rfl (lv_at hl 0 rfl) ?_
                refine va_get (D := D) (ci := 7) (v := .int (u'.1 6)) (C := RX4) (T := TX4) (N := 29) hx hb hts hiX4 hown hK hP 0 rfl rfl 27 (by decide) hf135 (fun _ h9 => h9) rfl dX4_matches_173 ?_
                have h_18 := hok.1
                have hok := hok.2
                refine va_calli (va_runV (As := [.int (u'.1 6)]) (rest := []) ⟨hx, hb, hml, hown, hts⟩ (cM_finds l D q cI cL hq u' (u'.1 6) h_18) (cwV 1 hts gX4_matches_X4_finds rfl rfl rfl (by decide +kernel) ⟨(Nat.le_of_ble_eq_true rfl), (Nat.le_of_ble_eq_true rfl)⟩) ⟨PM_blind, va_recv hK hP (ci := 7) (q0 := 0) rfl rfl, fun U hU hW => ⟨rfl, PM_fin hP hK hU hW⟩⟩ rfl rfl hl.1 rfl (lv_room (Nat.le_of_ble_eq_true rfl)) dX4_matches_176 ⟨(Nat.le_of_ble_eq_true rfl), (Nat.le_of_ble_eq_true rfl)⟩) hS (fun q _ h => h) (fun q h => h) (fun r9 u9 t H1 locs ht hvm hu9 hB hz1 hk1 hS => ?_)
                have hP := hB.1
                rw [ht] at hP
                clear hB hk1 hz1 hvm ht
                generalize H1 = H at hP hS ⊢
                refine W.widen (k := 0) (n := 0) (Nat.le_refl 0) (Nat.le_refl 0) ?_
                have hsp := hsp.trans (bnd2_eq hu9)
                refine lv_goto (tgt := 194) hx hb dX4_matches_179 (by decide) ?_
                exact W.iret (v := r9) hx hb hr (fun t ht hW => ⟨⟨r9, u9, rfl, hsp.symm, PM_fin hP hK ht hW⟩, hS.F ht⟩) hS.2.2 dX4_matches_194
            · have hsp := hsp.trans (if_pos c_15)
              have hok := hok.1 c_15
              refine lv_iconst (v := 0) hx hb dX4_matches_139 (by decide) ?_
              refine lv_istore_n (lv' := [(3, .int 0), (0, .ref (q 0)), (1, .int p1), (2, .int p2)]) hx hb dX4_matches_140 rfl hl (by decide) rfl (fun ls hl => ?_)
              exact loop_141 100 u' 0 _ _ _ hok hsp hP hS (lv_sub hl [1, 2, 3, 0] rfl)
        · have hsp := hsp.trans (if_pos c_13)
          have hok := hok.1 c_13
          refine lv_aload_n hx hb dX4_matches_65 rfl (lv_at hl 0 rfl) ?_
          refine va_get (D := D) (ci := 7) (v := .int (u'.1 5)) (C := RX4) (T := TX4) (N := 29) hx hb hts hiX4 hown hK hP 0 rfl rfl 26 (by decide) hf141 (fun _ h9 => h9) rfl dX4_matches_66 ?_
          refine lv_iconst (v := 1) hx hb dX4_matches_69 (by decide) ?_
          refine lv_isub hx hb dX4_matches_70 ?_
          refine lv_topi (fun y10 hy10 => ?_)
          have hsp := hsp.trans (bnd_eq hy10)
          have hok := bnd_ok hy10 hok
          refine lv_istore_n (lv' := [(3, .int y10), (0, .ref (q 0)), (1, .int p1), (2, .int p2)]) hx hb dX4_matches_71 rfl hl (by decide) rfl (fun ls hl => ?_)
          refine lv_aload_n hx hb dX4_matches_72 rfl (lv_at hl 1 rfl) ?_
          refine va_get (D := D) (ci := 7) (v := .ref (q 21)) (C := RX4) (T := TX4) (N := 29) hx hb hts hiX4 hown hK hP 0 rfl rfl 25 (by decide) hf71 (fun _ h9 => h9) rfl dX4_matches_73 ?_
          refine lv_iload_n hx hb dX4_matches_76 rfl (lv_at hl 0 rfl) ?_
          have h_19 := hok.1
          have hok := hok.2
          refine va_iald hx hb hK hP 21 0 rfl rfl h_19 dX4_matches_77 ?_
          refine lv_if_ne (tgt := 100) hx hb dX4_matches_78 (by decide) (fun c_20 => ?_) (fun c_20 => ?_)
          · have hsp := hsp.trans (if_neg c_20)
            have hok := hok.2 c_20
            refine lv_aload_n hx hb dX4_matches_100 rfl (lv_at hl 1 rfl) ?_
            refine lv_aload_n hx hb dX4_matches_101 rfl (lv_at hl 1 rfl) ?_
            refine va_get (D := D) (ci := 7) (v := .ref (q 19)) (C := RX4) (T := TX4) (N := 29) hx hb hts hiX4 hown hK hP 0 rfl rfl 23 (by decide) hf65 (fun _ h9 => h9) rfl dX4_matches_102 ?_
            refine lv_iload_n hx hb dX4_matches_105 rfl (lv_at hl 0 rfl) ?_
            have h_21 := hok.1
            have hok := hok.2
            refine va_iald hx hb hK hP 19 0 rfl rfl h_21 dX4_matches_106 ?_
            refine lv_aload_n hx hb dX4_matches_107 rfl (lv_at hl 1 rfl) ?_
            refine va_get (D := D) (ci := 7) (v := .ref (q 20)) (C := RX4) (T := TX4) (N := 29) hx hb hts hiX4 hown hK hP 0 rfl rfl 24 (by decide) hf68 (fun _ h9 => h9) rfl dX4_matches_108 ?_
            refine lv_iload_n hx hb dX4_matches_111 rfl (lv_at hl 0 rfl) ?_
            have h_22 := hok.1
            have hok := hok.2
            refine va_iald hx hb hK hP 20 0 rfl rfl h_22 dX4_matches_112 ?_
            refine lv_aload_n hx hb dX4_matches_113 rfl (lv_at hl 1 rfl) ?_
            refine va_get (D := D) (ci := 7) (v := .ref (q 21)) (C := RX4) (T := TX4) (N := 29) hx hb hts hiX4 hown hK hP 0 rfl rfl 25 (by decide) hf71 (fun _ h9 => h9) rfl dX4_matches_114 ?_
            refine lv_iload_n hx hb dX4_matches_117 rfl (lv_at hl 0 rfl) ?_
            have h_23 := hok.1
            have hok := hok.2
            refine va_iald hx hb hK hP 21 0 rfl rfl h_23 dX4_matches_118 ?_
            have h_24 := hok.1
            have hok := hok.2
            refine va_callv (va_runV (As := [.int (u'.2.1 19 y10.toNatClampNeg), .int (u'.2.1 20 y10.toNatClampNeg), .int (u'.2.1 21 y10.toNatClampNeg)]) (rest := []) ⟨hx, hb, hml, hown, hts⟩ (cM_goesOn l D q cI cL hq u' (u'.2.1 19 y10.toNatClampNeg) (u'.2.1 20 y10.toNatClampNeg) (u'.2.1 21 y10.toNatClampNeg) h_24) (cwV 3 hts gX4_matches_X4_goesOn rfl rfl rfl (by decide +kernel) ⟨(Nat.le_of_ble_eq_true rfl), (Nat.le_of_ble_eq_true rfl)⟩) ⟨PM_blind, va_recv hK hP (ci := 7) (q0 := 0) rfl rfl, fun U hU hW => ⟨rfl, PM_fin hP hK hU hW⟩⟩ rfl rfl hl.1 rfl (lv_room (Nat.le_of_ble_eq_true rfl)) dX4_matches_119 ⟨(Nat.le_of_ble_eq_true rfl), (Nat.le_of_ble_eq_true rfl)⟩) hS (fun q _ h => h) (fun q h => h) (fun u11 t H1 locs ht hvm hu11 hB hz1 hk1 hS => ?_)
            have hP := hB.1
            rw [ht] at hP
            clear hB hk1 hz1 hvm ht
            generalize H1 = H at hP hS ⊢
            refine W.widen (k := 0) (n := 0) (Nat.le_refl 0) (Nat.le_refl 0) ?_
            have hsp := hsp.trans (bnd_eq hu11)
            have hok := bnd_ok hu11 hok
            refine lv_goto (tgt := 51) hx hb dX4_matches_122 (by decide) ?_
            exact ih u11 y10 _ _ _ hok hsp hP hS (lv_sub hl [1, 2, 3, 0] rfl)
          · have hsp := hsp.trans (if_pos c_20)
            have hok := hok.1 c_20
            refine lv_aload_n hx hb dX4_matches_81 rfl (lv_at hl 1 rfl) ?_
            refine lv_aload_n hx hb dX4_matches_82 rfl (lv_at hl 1 rfl) ?_
            refine va_get (D := D) (ci := 7) (v := .ref (q 19)) (C := RX4) (T := TX4) (N := 29) hx hb hts hiX4 hown hK hP 0 rfl rfl 23 (by decide) hf65 (fun _ h9 => h9) rfl dX4_matches_83 ?_
            refine lv_iload_n hx hb dX4_matches_86 rfl (lv_at hl 0 rfl) ?_
            have h_25 := hok.1
            have hok := hok.2
            refine va_iald hx hb hK hP 19 0 rfl rfl h_25 dX4_matches_87 ?_
            refine lv_aload_n hx hb dX4_matches_88 rfl (lv_at hl 1 rfl) ?_
            refine va_get (D := D) (ci := 7) (v := .ref (q 20)) (C := RX4) (T := TX4) (N := 29) hx hb hts hiX4 hown hK hP 0 rfl rfl 24 (by decide) hf68 (fun _ h9 => h9) rfl dX4_matches_89 ?_
            refine lv_iload_n hx hb dX4_matches_92 rfl (lv_at hl 0 rfl) ?_
            have h_26 := hok.1
            have hok := hok.2
            refine va_iald hx hb hK hP 20 0 rfl rfl h_26 dX4_matches_93 ?_
            have h_27 := hok.1
            have hok := hok.2
            refine va_callv (va_runV (As := [.int (u'.2.1 19 y10.toNatClampNeg), .int (u'.2.1 20 y10.toNatClampNeg)]) (rest := []) ⟨hx, hb, hml, hown, hts⟩ (cM_begins l D q cI cL hq u' (u'.2.1 19 y10.toNatClampNeg) (u'.2.1 20 y10.toNatClampNeg) h_27) (cwV 2 hts gX4_matches_X4_begins rfl rfl rfl (by decide +kernel) ⟨(Nat.le_of_ble_eq_true rfl), (Nat.le_of_ble_eq_true rfl)⟩) ⟨PM_blind, va_recv hK hP (ci := 7) (q0 := 0) rfl rfl, fun U hU hW => ⟨rfl, PM_fin hP hK hU hW⟩⟩ rfl rfl hl.1 rfl (lv_room (Nat.le_of_ble_eq_true rfl)) dX4_matches_94 ⟨(Nat.le_of_ble_eq_true rfl), (Nat.le_of_ble_eq_true rfl)⟩) hS (fun q _ h => h) (fun q h => h) (fun u12 t H1 locs ht hvm hu12 hB hz1 hk1 hS => ?_)
            have hP := hB.1
            rw [ht] at hP
            clear hB hk1 hz1 hvm ht
            generalize H1 = H at hP hS ⊢
            refine W.widen (k := 0) (n := 0) (Nat.le_refl 0) (Nat.le_refl 0) ?_
            have hsp := hsp.trans (bnd_eq hu12)
            have hok := bnd_ok hu12 hok
            refine lv_goto (tgt := 122) hx hb dX4_matches_97 (by decide) ?_
            refine lv_goto (tgt := 51) hx hb dX4_matches_122 (by decide) ?_
            exact ih u12 y10 _ _ _ hok hsp hP hS (lv_sub hl [1, 2, 3, 0] rfl)
  have loop_2 : ∀ (n : Nat) (u' : St) (x3 : Int32) (H : Heap) (locs : List Loc) (ls : Array Slot), oklM_matches_2 n u' p1 p2 x3 → sM_matches u p1 p2 = lM_matches_2 n u' p1 p2 x3 → va_P D vwCl (wM q cI cL u') H → va_S (AQ 22 q) s.heap H locs → lv_has ls 4 [(0, .ref (q 0)), (1, .int p1), (2, .int p2), (3, .int x3)] → W p l e (headSpec wsX4_matches { frames := 4, cells := 0, slots := 0, locals := 93 }).room s m ([.ref (q 0), .int p1, .int p2] : List Value).toArray below meth c H locs 0 0 (MQ below (va_Qi (fun (r : Int32) (u' : St) => (r, u') = sM_matches u p1 p2) (fun u' t => PM D q cI cL u' t) (AQ 22 q)) ([.ref (q 0), .int p1, .int p2] : List Value).toArray s 0 0 (AQ 22 q)) (F0 m 2 ls []) := by
    intro n
    induction n with
    | zero => intro u' x3 H locs ls hok; exact False.elim hok
    | succ n ih =>
      intro u' x3 H locs ls hok hsp hP hS hl
      replace hsp := hsp.trans (lM_matches_2_s n u' p1 p2 x3)
      replace hok := (oklM_matches_2_s n u' p1 p2 x3).mp hok
      refine lv_iload_n hx hb dX4_matches_2 rfl (lv_at hl 3 rfl) ?_
      refine lv_iconst (v := 4) hx hb dX4_matches_3 (by decide) ?_
      refine lv_icmp_ge (tgt := 25) hx hb dX4_matches_4 (by decide) (fun c_28 => ?_) (fun c_28 => ?_)
      · have hsp := hsp.trans (if_pos c_28)
        have hok := hok.1 c_28
        refine lv_aload_n hx hb dX4_matches_25 rfl (lv_at hl 0 rfl) ?_
        refine lv_iconst (v := 0) hx hb dX4_matches_26 (by decide) ?_
        refine va_put (D := D) (ci := 7) (v := .int 0) (ty := .int) (C := RX4) (T := TX4) (N := 29) hx hb hts hiX4 tyX4 tyX4_ok nmX4 hown hK hP (dM hq) hS 0 rfl rfl 22 (by decide) hf138 (fun _ h9 => h9) rfl (by decide +kernel) rfl rfl (Nat.le_of_ble_eq_true rfl) dX4_matches_27 (fun H locs hP _ hS => ?_)
        obtain ⟨u1, hu1⟩ : ∃ z : St, z = (stI u' 4 0) := ⟨_, rfl⟩
        have hP : va_P D vwCl (wM q cI cL u1) H := by rw [hu1]; exact hP
        have hsp := hsp.trans (bnd_eq hu1)
        have hok := bnd_ok hu1 hok
        refine lv_aload_n hx hb dX4_matches_30 rfl (lv_at hl 0 rfl) ?_
        refine lv_iconst (v := 0) hx hb dX4_matches_31 (by decide) ?_
        refine va_put (D := D) (ci := 7) (v := .int 0) (ty := .int) (C := RX4) (T := TX4) (N := 29) hx hb hts hiX4 tyX4 tyX4_ok nmX4 hown hK hP (dM hq) hS 0 rfl rfl 26 (by decide) hf141 (fun _ h9 => h9) rfl (by decide +kernel) rfl rfl (Nat.le_of_ble_eq_true rfl) dX4_matches_32 (fun H locs hP _ hS => ?_)
        obtain ⟨u2, hu2⟩ : ∃ z : St, z = (stI u1 5 0) := ⟨_, rfl⟩
        have hP : va_P D vwCl (wM q cI cL u2) H := by rw [hu2]; exact hP
        have hsp := hsp.trans (bnd_eq hu2)
        have hok := bnd_ok hu2 hok
        refine lv_aload_n hx hb dX4_matches_35 rfl (lv_at hl 0 rfl) ?_
        refine lv_iconst (v := 0) hx hb dX4_matches_36 (by decide) ?_
        refine va_put (D := D) (ci := 7) (v := .int 0) (ty := .int) (C := RX4) (T := TX4) (N := 29) hx hb hts hiX4 tyX4 tyX4_ok nmX4 hown hK hP (dM hq) hS 0 rfl rfl 27 (by decide) hf135 (fun _ h9 => h9) rfl (by decide +kernel) rfl rfl (Nat.le_of_ble_eq_true rfl) dX4_matches_37 (fun H locs hP _ hS => ?_)
        obtain ⟨u3, hu3⟩ : ∃ z : St, z = (stI u2 6 0) := ⟨_, rfl⟩
        have hP : va_P D vwCl (wM q cI cL u3) H := by rw [hu3]; exact hP
        have hsp := hsp.trans (bnd_eq hu3)
        have hok := bnd_ok hu3 hok
        refine lv_aload_n hx hb dX4_matches_40 rfl (lv_at hl 0 rfl) ?_
        refine lv_iconst (v := 0) hx hb dX4_matches_41 (by decide) ?_
        refine va_put (D := D) (ci := 7) (v := .int 0) (ty := .boolean) (C := RX4) (T := TX4) (N := 29) hx hb hts hiX4 tyX4 tyX4_ok nmX4 hown hK hP (dM hq) hS 0 rfl rfl 28 (by decide) hf144 (fun _ h9 => h9) rfl (by decide +kernel) rfl rfl (Nat.le_of_ble_eq_true rfl) dX4_matches_42 (fun H locs hP _ hS => ?_)
        obtain ⟨u4, hu4⟩ : ∃ z : St, z = (stI u3 7 0) := ⟨_, rfl⟩
        have hP : va_P D vwCl (wM q cI cL u4) H := by rw [hu4]; exact hP
        have hsp := hsp.trans (bnd_eq hu4)
        have hok := bnd_ok hu4 hok
        refine lv_aload_n hx hb dX4_matches_45 rfl (lv_at hl 0 rfl) ?_
        refine lv_iload_n hx hb dX4_matches_46 rfl (lv_at hl 1 rfl) ?_
        refine lv_iload_n hx hb dX4_matches_47 rfl (lv_at hl 2 rfl) ?_
        have h_29 := hok.1
        have hok := hok.2
        refine va_callv (va_runV (As := [.int p1, .int p2]) (rest := []) ⟨hx, hb, hml, hown, hts⟩ (cM_look l D q cI cL hq u4 p1 p2 h_29) (cwV 2 hts gX4_matches_X4_look rfl rfl rfl (by decide +kernel) ⟨(Nat.le_of_ble_eq_true rfl), (Nat.le_of_ble_eq_true rfl)⟩) ⟨PM_blind, va_recv hK hP (ci := 7) (q0 := 0) rfl rfl, fun U hU hW => ⟨rfl, PM_fin hP hK hU hW⟩⟩ rfl rfl hl.1 rfl (lv_room (Nat.le_of_ble_eq_true rfl)) dX4_matches_48 ⟨(Nat.le_of_ble_eq_true rfl), (Nat.le_of_ble_eq_true rfl)⟩) hS (fun q _ h => h) (fun q h => h) (fun u5 t H1 locs ht hvm hu5 hB hz1 hk1 hS => ?_)
        have hP := hB.1
        rw [ht] at hP
        clear hB hk1 hz1 hvm ht
        generalize H1 = H at hP hS ⊢
        refine W.widen (k := 0) (n := 0) (Nat.le_refl 0) (Nat.le_refl 0) ?_
        have hsp := hsp.trans (bnd_eq hu5)
        have hok := bnd_ok hu5 hok
        exact loop_51 1000 u5 x3 _ _ _ hok hsp hP hS (lv_sub hl [0, 1, 2, 3] rfl)
      · have hsp := hsp.trans (if_neg c_28)
        have hok := hok.2 c_28
        refine lv_aload_n hx hb dX4_matches_7 rfl (lv_at hl 0 rfl) ?_
        refine va_get (D := D) (ci := 7) (v := .ref (q 17)) (C := RX4) (T := TX4) (N := 29) hx hb hts hiX4 hown hK hP 0 rfl rfl 20 (by decide) hf59 (fun _ h9 => h9) rfl dX4_matches_8 ?_
        refine lv_iload_n hx hb dX4_matches_11 rfl (lv_at hl 3 rfl) ?_
        refine lv_aload_n hx hb dX4_matches_12 rfl (lv_at hl 0 rfl) ?_
        refine va_get (D := D) (ci := 7) (v := .ref (q 16)) (C := RX4) (T := TX4) (N := 29) hx hb hts hiX4 hown hK hP 0 rfl rfl 19 (by decide) hf56 (fun _ h9 => h9) rfl dX4_matches_13 ?_
        refine lv_iload_n hx hb dX4_matches_16 rfl (lv_at hl 3 rfl) ?_
        have h_30 := hok.1
        have hok := hok.2
        refine va_iald hx hb hK hP 16 0 rfl rfl h_30 dX4_matches_17 ?_
        have h_31 := hok.1
        have hok := hok.2
        refine va_iast hx hb hK hP (dM hq) hS 17 0 rfl rfl h_31 dX4_matches_18 (fun H locs hP _ hS => ?_)
        obtain ⟨u13, hu13⟩ : ∃ z : St, z = (stA u' 17 x3.toNatClampNeg (u'.2.1 16 x3.toNatClampNeg)) := ⟨_, rfl⟩
        have hP : va_P D vwCl (wM q cI cL u13) H := by rw [hu13]; exact hP
        have hsp := hsp.trans (bnd_eq hu13)
        have hok := bnd_ok hu13 hok
        refine lv_iinc (v := (x3 + 1)) (lv' := [(3, .int (x3 + 1)), (0, .ref (q 0)), (1, .int p1), (2, .int p2)]) hx hb dX4_matches_19 hl (k := 3) rfl rfl (by decide) rfl (fun ls hl => ?_)
        refine lv_goto (tgt := 2) hx hb dX4_matches_22 (by decide) ?_
        exact ih u13 (x3 + 1) _ _ _ hok hsp hP hS (lv_sub hl [1, 2, 3, 0] rfl)
  have hsp : sM_matches u p1 p2 = _ := sM_matches.eq_1 u p1 p2
  unfold okM_matches at hok
  refine lv_iconst (v := 0) hx hb dX4_matches_0 (by decide) ?_
  refine lv_istore_n (lv' := [(3, .int 0), (0, .ref (q 0)), (1, .int p1), (2, .int p2)]) hx hb dX4_matches_1 rfl hl (by decide) rfl (fun ls hl => ?_)
  exact loop_2 100 u 0 _ _ _ hok hsp hP hS (lv_sub hl [1, 2, 3, 0] rfl)
