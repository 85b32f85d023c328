abbrev rm_W_refusalOf : Room := { frames := 3, cells := 0, slots := 0, locals := 64 }
set_option maxHeartbeats 4000000 in
set_option maxRecDepth 100000 in
theorem c_W_refusalOf (l : Launch) (D : va_G) (cA : ClassId) (a : Nat → Nat) (σ : St) (f a1 n : Int32)  : Ci l y_W_refusalOf w_W_refusalOf rm_W_refusalOf D vwCl [(cA, .int)] [.ref (a 0), .int f, .int a1, .int n] (wW cA a σ) 0 0 (fun r0 w0 => r0 = wRef σ f a1 n ∧ w0 = wW cA a σ) := by
  refine Ci.of (Ts := lw_g) (own := "WireSlave") (cc := b_W_refusalOf) (maxL := 7) (ret := (some .int)) (lv := [(0, .ref (a 0)), (1, .int f), (2, .int a1), (3, .int n)]) (by decide) rfl rfl (fun w h => List.mem_cons_of_mem _ h) (Nat.le_of_ble_eq_true rfl) rfl ?_
  intro pp ee ss mm args below meth cx AA S hr hlk G ls hl
  have hx := S.1
  have hb := S.2.1
  refine lv_aload_n hx hb d_W_refusalOf_0 rfl (lv_at hl 0 rfl) ?_
  refine lv_iload_n hx hb d_W_refusalOf_1 rfl (lv_at hl 1 rfl) ?_
  refine g_cVq (rest := []) S G (c_W_tableOfFunction l D cA a σ f) (cwV 1 S.2.2.2.2 ml_W_141 rfl rfl rfl (by decide +kernel) ⟨Nat.le_of_ble_eq_true rfl, Nat.le_of_ble_eq_true rfl⟩) [0, 1, 2, 3, 4, 5, 6, 7, 8, 9, 10, 11, 12, 13] [] rfl rfl rfl rfl (by decide) 0 rfl rfl rfl hl.1 rfl (Nat.le_of_ble_eq_true rfl) d_W_refusalOf_2 ⟨Nat.le_of_ble_eq_true rfl, Nat.le_of_ble_eq_true rfl⟩ (fun rp_1 wp_1 H locs hp_1 G => ?_)
  obtain ⟨rfl, rfl⟩ := hp_1
  have G : Gw D vwCl [(cA, .int)] AA ss ss.heap H locs (wW cA a σ) := G
  rcases fTab_cases f with hk | hk | hk | hk | hk
  · rw [hk]
    refine W.eq (g2 := F0 mm 5 ls [.null]) rfl ?_
    refine lv_astoreN (lv' := [(4, .null), (0, .ref (a 0)), (1, .int f), (2, .int a1), (3, .int n)]) hx hb d_W_refusalOf_5 hl (by decide) rfl (fun ls hl => ?_)
    refine lv_aloadN hx hb d_W_refusalOf_7 (lv_at hl 0 rfl) ?_
    refine lv_ifnonnullN hx hb d_W_refusalOf_9 ?_
    refine lv_iconst (v := 1) hx hb d_W_refusalOf_12 (by decide) ?_
    exact g_reti S hr hlk G ⟨by unfold wRef; rw [hk]; first | rfl | (simp only [wRefK, wRefD, refP, lastP, ↓reduceIte]; done) | (simp only [wRefK, wRefD, refP, lastP, ↓reduceIte]; rfl), rfl⟩ (Nat.le_refl _) (Nat.le_refl _) d_W_refusalOf_13
  · rw [hk]
    refine W.eq (g2 := F0 mm 5 ls [.ref (a 1)]) rfl ?_
    refine lv_astore (lv' := [(4, .ref (a 1)), (0, .ref (a 0)), (1, .int f), (2, .int a1), (3, .int n)]) hx hb d_W_refusalOf_5 hl (by decide) rfl (fun ls hl => ?_)
    refine lv_aload hx hb d_W_refusalOf_7 (lv_at hl 0 rfl) ?_
    refine lv_ifnonnull (tgt := 14) hx hb d_W_refusalOf_9 (by decide) ?_
    refine lv_aload_n hx hb d_W_refusalOf_14 rfl (lv_at hl 1 rfl) ?_
    refine lv_iload_n hx hb d_W_refusalOf_15 rfl (lv_at hl 2 rfl) ?_
    refine g_cVi (rest := []) S G (c_W_isDueSize l D cA a σ f) (cwV 1 S.2.2.2.2 ml_W_144 rfl rfl rfl (by decide +kernel) ⟨Nat.le_of_ble_eq_true rfl, Nat.le_of_ble_eq_true rfl⟩) [0, 1, 2, 3, 4, 5, 6, 7, 8, 9, 10, 11, 12, 13] [] rfl rfl rfl rfl (by decide) 0 rfl rfl rfl hl.1 rfl (Nat.le_of_ble_eq_true rfl) d_W_refusalOf_16 ⟨Nat.le_of_ble_eq_true rfl, Nat.le_of_ble_eq_true rfl⟩ (fun rp_2 wp_2 H locs hp_2 G => ?_)
    obtain ⟨rfl, rfl⟩ := hp_2
    have G : Gw D vwCl [(cA, .int)] AA ss ss.heap H locs (wW cA a σ) := G
    refine lv_if_eq (tgt := 31) hx hb d_W_refusalOf_19 (by decide) (fun c_3 => ?_) (fun c_3 => ?_)
    · refine lv_iconst (v := 3) hx hb d_W_refusalOf_31 (by decide) ?_
      exact g_reti S hr hlk G ⟨by unfold wRef; rw [hk]; first | rfl | (simp only [wRefK, wRefD, refP, lastP, eq_true c_3, ↓reduceIte]; done) | (simp only [wRefK, wRefD, refP, lastP, eq_true c_3, ↓reduceIte]; rfl), rfl⟩ (Nat.le_refl _) (Nat.le_refl _) d_W_refusalOf_32
    · refine lv_aload_n hx hb d_W_refusalOf_22 rfl (lv_at hl 1 rfl) ?_
      refine lv_iload_n hx hb d_W_refusalOf_23 rfl (lv_at hl 2 rfl) ?_
      refine lv_iload_n hx hb d_W_refusalOf_24 rfl (lv_at hl 4 rfl) ?_
      refine g_cVi (rest := []) S G (c_W_isDueAmount l D cA a σ f n) (cwV 2 S.2.2.2.2 ml_W_148 rfl rfl rfl (by decide +kernel) ⟨Nat.le_of_ble_eq_true rfl, Nat.le_of_ble_eq_true rfl⟩) [0, 1, 2, 3, 4, 5, 6, 7, 8, 9, 10, 11, 12, 13] [] rfl rfl rfl rfl (by decide) 0 rfl rfl rfl hl.1 rfl (Nat.le_of_ble_eq_true rfl) d_W_refusalOf_25 ⟨Nat.le_of_ble_eq_true rfl, Nat.le_of_ble_eq_true rfl⟩ (fun rp_4 wp_4 H locs hp_4 G => ?_)
      obtain ⟨rfl, rfl⟩ := hp_4
      have G : Gw D vwCl [(cA, .int)] AA ss ss.heap H locs (wW cA a σ) := G
      refine lv_if_ne (tgt := 33) hx hb d_W_refusalOf_28 (by decide) (fun c_5 => ?_) (fun c_5 => ?_)
      · refine lv_iload_n hx hb d_W_refusalOf_33 rfl (lv_at hl 2 rfl) ?_
        refine lv_iconst (v := 5) hx hb d_W_refusalOf_34 (by decide) ?_
        refine lv_icmp_eq (tgt := 44) hx hb d_W_refusalOf_35 (by decide) (fun c_6 => ?_) (fun c_6 => ?_)
        · refine lv_iconst (v := 1) hx hb d_W_refusalOf_44 (by decide) ?_
          refine lv_goto (tgt := 49) hx hb d_W_refusalOf_45 (by decide) ?_
          refine lv_istore (lv' := [(5, .int 1), (4, .ref (a 1)), (0, .ref (a 0)), (1, .int f), (2, .int a1), (3, .int n)]) hx hb d_W_refusalOf_49 hl (by decide) rfl (fun ls hl => ?_)
          refine lv_iload hx hb d_W_refusalOf_51 (lv_at hl 0 rfl) ?_
          have k_7 : ¬ ((1 : Int32) = 0) := by decide
          refine lv_if_eq (tgt := 60) hx hb d_W_refusalOf_53 (by decide) (fun h9 => absurd h9 k_7) (fun _ => ?_)
          refine lv_iload_n hx hb d_W_refusalOf_56 rfl (lv_at hl 4 rfl) ?_
          refine lv_goto (tgt := 65) hx hb d_W_refusalOf_57 (by decide) ?_
          refine lv_istore (lv' := [(6, .int a1), (5, .int 1), (4, .ref (a 1)), (0, .ref (a 0)), (1, .int f), (2, .int a1), (3, .int n)]) hx hb d_W_refusalOf_65 hl (by decide) rfl (fun ls hl => ?_)
          refine lv_aload hx hb d_W_refusalOf_67 (lv_at hl 2 rfl) ?_
          refine lv_iload_n hx hb d_W_refusalOf_69 rfl (lv_at hl 5 rfl) ?_
          refine g_cVi (rest := []) S G (c_T_has l D cA (a 1) (a 2) 256 (σ 1) 1 a1) (cwV 1 S.2.2.2.2 ml_W_152 rfl rfl rfl (by decide +kernel) ⟨Nat.le_of_ble_eq_true rfl, Nat.le_of_ble_eq_true rfl⟩) [1, 2] [0, 3, 4, 5, 6, 7, 8, 9, 10, 11, 12, 13] rfl rfl rfl rfl (by decide) 1 rfl rfl rfl hl.1 rfl (Nat.le_of_ble_eq_true rfl) d_W_refusalOf_70 ⟨Nat.le_of_ble_eq_true rfl, Nat.le_of_ble_eq_true rfl⟩ (fun rp_8 wp_8 H locs hp_8 G => ?_)
          obtain ⟨rfl, rfl⟩ := hp_8
          have G := G.sub (ws' := wW cA a σ) [0, 12, 13, 1, 2, 3, 4, 5, 6, 7, 8, 9, 10, 11] rfl (ww_T1 cA a _)
          refine lv_if_eq (tgt := 90) hx hb d_W_refusalOf_73 (by decide) (fun c_9 => ?_) (fun c_9 => ?_)
          · refine lv_iconst (v := 2) hx hb d_W_refusalOf_90 (by decide) ?_
            exact g_reti S hr hlk G ⟨by unfold wRef; rw [hk]; first | rfl | (simp only [wRefK, wRefD, refP, lastP, eq_false c_3, eq_false c_5, eq_true c_6, eq_false k_7, eq_true c_9, ↓reduceIte]; done) | (simp only [wRefK, wRefD, refP, lastP, eq_false c_3, eq_false c_5, eq_true c_6, eq_false k_7, eq_true c_9, ↓reduceIte]; rfl), rfl⟩ (Nat.le_refl _) (Nat.le_refl _) d_W_refusalOf_91
          · refine lv_aload hx hb d_W_refusalOf_76 (lv_at hl 2 rfl) ?_
            refine lv_iload hx hb d_W_refusalOf_78 (lv_at hl 0 rfl) ?_
            refine g_cVi (rest := []) S G (c_T_has l D cA (a 1) (a 2) 256 (σ 1) 1 a1) (cwV 1 S.2.2.2.2 ml_W_152 rfl rfl rfl (by decide +kernel) ⟨Nat.le_of_ble_eq_true rfl, Nat.le_of_ble_eq_true rfl⟩) [1, 2] [0, 3, 4, 5, 6, 7, 8, 9, 10, 11, 12, 13] rfl rfl rfl rfl (by decide) 1 rfl rfl rfl hl.1 rfl (Nat.le_of_ble_eq_true rfl) d_W_refusalOf_80 ⟨Nat.le_of_ble_eq_true rfl, Nat.le_of_ble_eq_true rfl⟩ (fun rp_10 wp_10 H locs hp_10 G => ?_)
            obtain ⟨rfl, rfl⟩ := hp_10
            have G := G.sub (ws' := wW cA a σ) [0, 12, 13, 1, 2, 3, 4, 5, 6, 7, 8, 9, 10, 11] rfl (ww_T1 cA a _)
            refine lv_if_eq (tgt := 90) hx hb d_W_refusalOf_83 (by decide) (fun h9 => absurd h9 c_9) (fun _ => ?_)
            refine lv_iconst (v := 0) hx hb d_W_refusalOf_86 (by decide) ?_
            refine lv_goto (tgt := 91) hx hb d_W_refusalOf_87 (by decide) ?_
            exact g_reti S hr hlk G ⟨by unfold wRef; rw [hk]; first | rfl | (simp only [wRefK, wRefD, refP, lastP, eq_false c_3, eq_false c_5, eq_true c_6, eq_false k_7, eq_false c_9, ↓reduceIte]; done) | (simp only [wRefK, wRefD, refP, lastP, eq_false c_3, eq_false c_5, eq_true c_6, eq_false k_7, eq_false c_9, ↓reduceIte]; rfl), rfl⟩ (Nat.le_refl _) (Nat.le_refl _) d_W_refusalOf_91
        · refine lv_iload_n hx hb d_W_refusalOf_38 rfl (lv_at hl 2 rfl) ?_
          refine lv_bipush (v := 6) hx hb d_W_refusalOf_39 (by decide) ?_
          refine lv_icmp_ne (tgt := 48) hx hb d_W_refusalOf_41 (by decide) (fun c_11 => ?_) (fun c_11 => ?_)
          · refine lv_iconst (v := 0) hx hb d_W_refusalOf_48 (by decide) ?_
            refine lv_istore (lv' := [(5, .int 0), (4, .ref (a 1)), (0, .ref (a 0)), (1, .int f), (2, .int a1), (3, .int n)]) hx hb d_W_refusalOf_49 hl (by decide) rfl (fun ls hl => ?_)
            refine lv_iload hx hb d_W_refusalOf_51 (lv_at hl 0 rfl) ?_
            have k_12 : (0 : Int32) = 0 := by decide
            refine lv_if_eq (tgt := 60) hx hb d_W_refusalOf_53 (by decide) (fun _ => ?_) (fun h9 => absurd k_12 h9)
            refine lv_iload_n hx hb d_W_refusalOf_60 rfl (lv_at hl 4 rfl) ?_
            refine lv_iload_n hx hb d_W_refusalOf_61 rfl (lv_at hl 5 rfl) ?_
            refine lv_iadd hx hb d_W_refusalOf_62 ?_
            refine lv_iconst (v := 1) hx hb d_W_refusalOf_63 (by decide) ?_
            refine lv_isub hx hb d_W_refusalOf_64 ?_
            refine lv_istore (lv' := [(6, .int ((a1 + n) - 1)), (5, .int 0), (4, .ref (a 1)), (0, .ref (a 0)), (1, .int f), (2, .int a1), (3, .int n)]) hx hb d_W_refusalOf_65 hl (by decide) rfl (fun ls hl => ?_)
            refine lv_aload hx hb d_W_refusalOf_67 (lv_at hl 2 rfl) ?_
            refine lv_iload_n hx hb d_W_refusalOf_69 rfl (lv_at hl 5 rfl) ?_
            refine g_cVi (rest := []) S G (c_T_has l D cA (a 1) (a 2) 256 (σ 1) 1 a1) (cwV 1 S.2.2.2.2 ml_W_152 rfl rfl rfl (by decide +kernel) ⟨Nat.le_of_ble_eq_true rfl, Nat.le_of_ble_eq_true rfl⟩) [1, 2] [0, 3, 4, 5, 6, 7, 8, 9, 10, 11, 12, 13] rfl rfl rfl rfl (by decide) 1 rfl rfl rfl hl.1 rfl (Nat.le_of_ble_eq_true rfl) d_W_refusalOf_70 ⟨Nat.le_of_ble_eq_true rfl, Nat.le_of_ble_eq_true rfl⟩ (fun rp_13 wp_13 H locs hp_13 G => ?_)
            obtain ⟨rfl, rfl⟩ := hp_13
            have G := G.sub (ws' := wW cA a σ) [0, 12, 13, 1, 2, 3, 4, 5, 6, 7, 8, 9, 10, 11] rfl (ww_T1 cA a _)
            refine lv_if_eq (tgt := 90) hx hb d_W_refusalOf_73 (by decide) (fun c_14 => ?_) (fun c_14 => ?_)
            · refine lv_iconst (v := 2) hx hb d_W_refusalOf_90 (by decide) ?_
              exact g_reti S hr hlk G ⟨by unfold wRef; rw [hk]; first | rfl | (simp only [wRefK, wRefD, refP, lastP, eq_false c_3, eq_false c_5, eq_false c_6, eq_false c_11, eq_true k_12, eq_true c_14, ↓reduceIte]; done) | (simp only [wRefK, wRefD, refP, lastP, eq_false c_3, eq_false c_5, eq_false c_6, eq_false c_11, eq_true k_12, eq_true c_14, ↓reduceIte]; rfl), rfl⟩ (Nat.le_refl _) (Nat.le_refl _) d_W_refusalOf_91
            · refine lv_aload hx hb d_W_refusalOf_76 (lv_at hl 2 rfl) ?_
              refine lv_iload hx hb d_W_refusalOf_78 (lv_at hl 0 rfl) ?_
              refine g_cVi (rest := []) S G (c_T_has l D cA (a 1) (a 2) 256 (σ 1) 1 ((a1 + n) - 1)) (cwV 1 S.2.2.2.2 ml_W_152 rfl rfl rfl (by decide +kernel) ⟨Nat.le_of_ble_eq_true rfl, Nat.le_of_ble_eq_true rfl⟩) [1, 2] [0, 3, 4, 5, 6, 7, 8, 9, 10, 11, 12, 13] rfl rfl rfl rfl (by decide) 1 rfl rfl rfl hl.1 rfl (Nat.le_of_ble_eq_true rfl) d_W_refusalOf_80 ⟨Nat.le_of_ble_eq_true rfl, Nat.le_of_ble_eq_true rfl⟩ (fun rp_15 wp_15 H locs hp_15 G => ?_)
              obtain ⟨rfl, rfl⟩ := hp_15
              have G := G.sub (ws' := wW cA a σ) [0, 12, 13, 1, 2, 3, 4, 5, 6, 7, 8, 9, 10, 11] rfl (ww_T1 cA a _)
              refine lv_if_eq (tgt := 90) hx hb d_W_refusalOf_83 (by decide) (fun c_16 => ?_) (fun c_16 => ?_)
              · refine lv_iconst (v := 2) hx hb d_W_refusalOf_90 (by decide) ?_
                exact g_reti S hr hlk G ⟨by unfold wRef; rw [hk]; first | rfl | (simp only [wRefK, wRefD, refP, lastP, eq_false c_3, eq_false c_5, eq_false c_6, eq_false c_11, eq_true k_12, eq_false c_14, eq_true c_16, ↓reduceIte]; done) | (simp only [wRefK, wRefD, refP, lastP, eq_false c_3, eq_false c_5, eq_false c_6, eq_false c_11, eq_true k_12, eq_false c_14, eq_true c_16, ↓reduceIte]; rfl), rfl⟩ (Nat.le_refl _) (Nat.le_refl _) d_W_refusalOf_91
              · refine lv_iconst (v := 0) hx hb d_W_refusalOf_86 (by decide) ?_
                refine lv_goto (tgt := 91) hx hb d_W_refusalOf_87 (by decide) ?_
                exact g_reti S hr hlk G ⟨by unfold wRef; rw [hk]; first | rfl | (simp only [wRefK, wRefD, refP, lastP, eq_false c_3, eq_false c_5, eq_false c_6, eq_false c_11, eq_true k_12, eq_false c_14, eq_false c_16, ↓reduceIte]; done) | (simp only [wRefK, wRefD, refP, lastP, eq_false c_3, eq_false c_5, eq_false c_6, eq_false c_11, eq_true k_12, eq_false c_14, eq_false c_16, ↓reduceIte]; rfl), rfl⟩ (Nat.le_refl _) (Nat.le_refl _) d_W_refusalOf_91
          · refine lv_iconst (v := 1) hx hb d_W_refusalOf_44 (by decide) ?_
            refine lv_goto (tgt := 49) hx hb d_W_refusalOf_45 (by decide) ?_
            refine lv_istore (lv' := [(5, .int 1), (4, .ref (a 1)), (0, .ref (a 0)), (1, .int f), (2, .int a1), (3, .int n)]) hx hb d_W_refusalOf_49 hl (by decide) rfl (fun ls hl => ?_)
            refine lv_iload hx hb d_W_refusalOf_51 (lv_at hl 0 rfl) ?_
            have k_17 : ¬ ((1 : Int32) = 0) := by decide
            refine lv_if_eq (tgt := 60) hx hb d_W_refusalOf_53 (by decide) (fun h9 => absurd h9 k_17) (fun _ => ?_)
            refine lv_iload_n hx hb d_W_refusalOf_56 rfl (lv_at hl 4 rfl) ?_
            refine lv_goto (tgt := 65) hx hb d_W_refusalOf_57 (by decide) ?_
            refine lv_istore (lv' := [(6, .int a1), (5, .int 1), (4, .ref (a 1)), (0, .ref (a 0)), (1, .int f), (2, .int a1), (3, .int n)]) hx hb d_W_refusalOf_65 hl (by decide) rfl (fun ls hl => ?_)
            refine lv_aload hx hb d_W_refusalOf_67 (lv_at hl 2 rfl) ?_
            refine lv_iload_n hx hb d_W_refusalOf_69 rfl (lv_at hl 5 rfl) ?_
            refine g_cVi (rest := []) S G (c_T_has l D cA (a 1) (a 2) 256 (σ 1) 1 a1) (cwV 1 S.2.2.2.2 ml_W_152 rfl rfl rfl (by decide +kernel) ⟨Nat.le_of_ble_eq_true rfl, Nat.le_of_ble_eq_true rfl⟩) [1, 2] [0, 3, 4, 5, 6, 7, 8, 9, 10, 11, 12, 13] rfl rfl rfl rfl (by decide) 1 rfl rfl rfl hl.1 rfl (Nat.le_of_ble_eq_true rfl) d_W_refusalOf_70 ⟨Nat.le_of_ble_eq_true rfl, Nat.le_of_ble_eq_true rfl⟩ (fun rp_18 wp_18 H locs hp_18 G => ?_)
            obtain ⟨rfl, rfl⟩ := hp_18
            have G := G.sub (ws' := wW cA a σ) [0, 12, 13, 1, 2, 3, 4, 5, 6, 7, 8, 9, 10, 11] rfl (ww_T1 cA a _)
            refine lv_if_eq (tgt := 90) hx hb d_W_refusalOf_73 (by decide) (fun c_19 => ?_) (fun c_19 => ?_)
            · refine lv_iconst (v := 2) hx hb d_W_refusalOf_90 (by decide) ?_
              exact g_reti S hr hlk G ⟨by unfold wRef; rw [hk]; first | rfl | (simp only [wRefK, wRefD, refP, lastP, eq_false c_3, eq_false c_5, eq_false c_6, eq_true c_11, eq_false k_17, eq_true c_19, ↓reduceIte]; done) | (simp only [wRefK, wRefD, refP, lastP, eq_false c_3, eq_false c_5, eq_false c_6, eq_true c_11, eq_false k_17, eq_true c_19, ↓reduceIte]; rfl), rfl⟩ (Nat.le_refl _) (Nat.le_refl _) d_W_refusalOf_91
            · refine lv_aload hx hb d_W_refusalOf_76 (lv_at hl 2 rfl) ?_
              refine lv_iload hx hb d_W_refusalOf_78 (lv_at hl 0 rfl) ?_
              refine g_cVi (rest := []) S G (c_T_has l D cA (a 1) (a 2) 256 (σ 1) 1 a1) (cwV 1 S.2.2.2.2 ml_W_152 rfl rfl rfl (by decide +kernel) ⟨Nat.le_of_ble_eq_true rfl, Nat.le_of_ble_eq_true rfl⟩) [1, 2] [0, 3, 4, 5, 6, 7, 8, 9, 10, 11, 12, 13] rfl rfl rfl rfl (by decide) 1 rfl rfl rfl hl.1 rfl (Nat.le_of_ble_eq_true rfl) d_W_refusalOf_80 ⟨Nat.le_of_ble_eq_true rfl, Nat.le_of_ble_eq_true rfl⟩ (fun rp_20 wp_20 H locs hp_20 G => ?_)
              obtain ⟨rfl, rfl⟩ := hp_20
              have G := G.sub (ws' := wW cA a σ) [0, 12, 13, 1, 2, 3, 4, 5, 6, 7, 8, 9, 10, 11] rfl (ww_T1 cA a _)
              refine lv_if_eq (tgt := 90) hx hb d_W_refusalOf_83 (by decide) (fun h9 => absurd h9 c_19) (fun _ => ?_)
              refine lv_iconst (v := 0) hx hb d_W_refusalOf_86 (by decide) ?_
              refine lv_goto (tgt := 91) hx hb d_W_refusalOf_87 (by decide) ?_
              exact g_reti S hr hlk G ⟨by unfold wRef; rw [hk]; first | rfl | (simp only [wRefK, wRefD, refP, lastP, eq_false c_3, eq_false c_5, eq_false c_6, eq_true c_11, eq_false k_17, eq_false c_19, ↓reduceIte]; done) | (simp only [wRefK, wRefD, refP, lastP, eq_false c_3, eq_false c_5, eq_false c_6, eq_true c_11, eq_false k_17, eq_false c_19, ↓reduceIte]; rfl), rfl⟩ (Nat.le_refl _) (Nat.le_refl _) d_W_refusalOf_91
      · refine lv_iconst (v := 3) hx hb d_W_refusalOf_31 (by decide) ?_
        exact g_reti S hr hlk G ⟨by unfold wRef; rw [hk]; first | rfl | (simp only [wRefK, wRefD, refP, lastP, eq_false c_3, eq_true c_5, ↓reduceIte]; done) | (simp only [wRefK, wRefD, refP, lastP, eq_false c_3, eq_true c_5, ↓reduceIte]; rfl), rfl⟩ (Nat.le_refl _) (Nat.le_refl _) d_W_refusalOf_32
  · rw [hk]
    refine W.eq (g2 := F0 mm 5 ls [.ref (a 3)]) rfl ?_
    refine lv_astore (lv' := [(4, .ref (a 3)), (0, .ref (a 0)), (1, .int f), (2, .int a1), (3, .int n)]) hx hb d_W_refusalOf_5 hl (by decide) rfl (fun ls hl => ?_)
    refine lv_aload hx hb d_W_refusalOf_7 (lv_at hl 0 rfl) ?_
    refine lv_ifnonnull (tgt := 14) hx hb d_W_refusalOf_9 (by decide) ?_
    refine lv_aload_n hx hb d_W_refusalOf_14 rfl (lv_at hl 1 rfl) ?_
    refine lv_iload_n hx hb d_W_refusalOf_15 rfl (lv_at hl 2 rfl) ?_
    refine g_cVi (rest := []) S G (c_W_isDueSize l D cA a σ f) (cwV 1 S.2.2.2.2 ml_W_144 rfl rfl rfl (by decide +kernel) ⟨Nat.le_of_ble_eq_true rfl, Nat.le_of_ble_eq_true rfl⟩) [0, 1, 2, 3, 4, 5, 6, 7, 8, 9, 10, 11, 12, 13] [] rfl rfl rfl rfl (by decide) 0 rfl rfl rfl hl.1 rfl (Nat.le_of_ble_eq_true rfl) d_W_refusalOf_16 ⟨Nat.le_of_ble_eq_true rfl, Nat.le_of_ble_eq_true rfl⟩ (fun rp_21 wp_21 H locs hp_21 G => ?_)
    obtain ⟨rfl, rfl⟩ := hp_21
    have G : Gw D vwCl [(cA, .int)] AA ss ss.heap H locs (wW cA a σ) := G
    refine lv_if_eq (tgt := 31) hx hb d_W_refusalOf_19 (by decide) (fun c_22 => ?_) (fun c_22 => ?_)
    · refine lv_iconst (v := 3) hx hb d_W_refusalOf_31 (by decide) ?_
      exact g_reti S hr hlk G ⟨by unfold wRef; rw [hk]; first | rfl | (simp only [wRefK, wRefD, refP, lastP, eq_true c_22, ↓reduceIte]; done) | (simp only [wRefK, wRefD, refP, lastP, eq_true c_22, ↓reduceIte]; rfl), rfl⟩ (Nat.le_refl _) (Nat.le_refl _) d_W_refusalOf_32
    · refine lv_aload_n hx hb d_W_refusalOf_22 rfl (lv_at hl 1 rfl) ?_
      refine lv_iload_n hx hb d_W_refusalOf_23 rfl (lv_at hl 2 rfl) ?_
      refine lv_iload_n hx hb d_W_refusalOf_24 rfl (lv_at hl 4 rfl) ?_
      refine g_cVi (rest := []) S G (c_W_isDueAmount l D cA a σ f n) (cwV 2 S.2.2.2.2 ml_W_148 rfl rfl rfl (by decide +kernel) ⟨Nat.le_of_ble_eq_true rfl, Nat.le_of_ble_eq_true rfl⟩) [0, 1, 2, 3, 4, 5, 6, 7, 8, 9, 10, 11, 12, 13] [] rfl rfl rfl rfl (by decide) 0 rfl rfl rfl hl.1 rfl (Nat.le_of_ble_eq_true rfl) d_W_refusalOf_25 ⟨Nat.le_of_ble_eq_true rfl, Nat.le_of_ble_eq_true rfl⟩ (fun rp_23 wp_23 H locs hp_23 G => ?_)
      obtain ⟨rfl, rfl⟩ := hp_23
      have G : Gw D vwCl [(cA, .int)] AA ss ss.heap H locs (wW cA a σ) := G
      refine lv_if_ne (tgt := 33) hx hb d_W_refusalOf_28 (by decide) (fun c_24 => ?_) (fun c_24 => ?_)
      · refine lv_iload_n hx hb d_W_refusalOf_33 rfl (lv_at hl 2 rfl) ?_
        refine lv_iconst (v := 5) hx hb d_W_refusalOf_34 (by decide) ?_
        refine lv_icmp_eq (tgt := 44) hx hb d_W_refusalOf_35 (by decide) (fun c_25 => ?_) (fun c_25 => ?_)
        · refine lv_iconst (v := 1) hx hb d_W_refusalOf_44 (by decide) ?_
          refine lv_goto (tgt := 49) hx hb d_W_refusalOf_45 (by decide) ?_
          refine lv_istore (lv' := [(5, .int 1), (4, .ref (a 3)), (0, .ref (a 0)), (1, .int f), (2, .int a1), (3, .int n)]) hx hb d_W_refusalOf_49 hl (by decide) rfl (fun ls hl => ?_)
          refine lv_iload hx hb d_W_refusalOf_51 (lv_at hl 0 rfl) ?_
          have k_26 : ¬ ((1 : Int32) = 0) := by decide
          refine lv_if_eq (tgt := 60) hx hb d_W_refusalOf_53 (by decide) (fun h9 => absurd h9 k_26) (fun _ => ?_)
          refine lv_iload_n hx hb d_W_refusalOf_56 rfl (lv_at hl 4 rfl) ?_
          refine lv_goto (tgt := 65) hx hb d_W_refusalOf_57 (by decide) ?_
          refine lv_istore (lv' := [(6, .int a1), (5, .int 1), (4, .ref (a 3)), (0, .ref (a 0)), (1, .int f), (2, .int a1), (3, .int n)]) hx hb d_W_refusalOf_65 hl (by decide) rfl (fun ls hl => ?_)
          refine lv_aload hx hb d_W_refusalOf_67 (lv_at hl 2 rfl) ?_
          refine lv_iload_n hx hb d_W_refusalOf_69 rfl (lv_at hl 5 rfl) ?_
          refine g_cVi (rest := []) S G (c_T_has l D cA (a 3) (a 4) 256 (σ 2) 1 a1) (cwV 1 S.2.2.2.2 ml_W_152 rfl rfl rfl (by decide +kernel) ⟨Nat.le_of_ble_eq_true rfl, Nat.le_of_ble_eq_true rfl⟩) [3, 4] [0, 1, 2, 5, 6, 7, 8, 9, 10, 11, 12, 13] rfl rfl rfl rfl (by decide) 3 rfl rfl rfl hl.1 rfl (Nat.le_of_ble_eq_true rfl) d_W_refusalOf_70 ⟨Nat.le_of_ble_eq_true rfl, Nat.le_of_ble_eq_true rfl⟩ (fun rp_27 wp_27 H locs hp_27 G => ?_)
          obtain ⟨rfl, rfl⟩ := hp_27
          have G := G.sub (ws' := wW cA a σ) [0, 1, 2, 12, 13, 3, 4, 5, 6, 7, 8, 9, 10, 11] rfl (ww_T3 cA a _)
          refine lv_if_eq (tgt := 90) hx hb d_W_refusalOf_73 (by decide) (fun c_28 => ?_) (fun c_28 => ?_)
          · refine lv_iconst (v := 2) hx hb d_W_refusalOf_90 (by decide) ?_
            exact g_reti S hr hlk G ⟨by unfold wRef; rw [hk]; first | rfl | (simp only [wRefK, wRefD, refP, lastP, eq_false c_22, eq_false c_24, eq_true c_25, eq_false k_26, eq_true c_28, ↓reduceIte]; done) | (simp only [wRefK, wRefD, refP, lastP, eq_false c_22, eq_false c_24, eq_true c_25, eq_false k_26, eq_true c_28, ↓reduceIte]; rfl), rfl⟩ (Nat.le_refl _) (Nat.le_refl _) d_W_refusalOf_91
          · refine lv_aload hx hb d_W_refusalOf_76 (lv_at hl 2 rfl) ?_
            refine lv_iload hx hb d_W_refusalOf_78 (lv_at hl 0 rfl) ?_
            refine g_cVi (rest := []) S G (c_T_has l D cA (a 3) (a 4) 256 (σ 2) 1 a1) (cwV 1 S.2.2.2.2 ml_W_152 rfl rfl rfl (by decide +kernel) ⟨Nat.le_of_ble_eq_true rfl, Nat.le_of_ble_eq_true rfl⟩) [3, 4] [0, 1, 2, 5, 6, 7, 8, 9, 10, 11, 12, 13] rfl rfl rfl rfl (by decide) 3 rfl rfl rfl hl.1 rfl (Nat.le_of_ble_eq_true rfl) d_W_refusalOf_80 ⟨Nat.le_of_ble_eq_true rfl, Nat.le_of_ble_eq_true rfl⟩ (fun rp_29 wp_29 H locs hp_29 G => ?_)
            obtain ⟨rfl, rfl⟩ := hp_29
            have G := G.sub (ws' := wW cA a σ) [0, 1, 2, 12, 13, 3, 4, 5, 6, 7, 8, 9, 10, 11] rfl (ww_T3 cA a _)
            refine lv_if_eq (tgt := 90) hx hb d_W_refusalOf_83 (by decide) (fun h9 => absurd h9 c_28) (fun _ => ?_)
            refine lv_iconst (v := 0) hx hb d_W_refusalOf_86 (by decide) ?_
            refine lv_goto (tgt := 91) hx hb d_W_refusalOf_87 (by decide) ?_
            exact g_reti S hr hlk G ⟨by unfold wRef; rw [hk]; first | rfl | (simp only [wRefK, wRefD, refP, lastP, eq_false c_22, eq_false c_24, eq_true c_25, eq_false k_26, eq_false c_28, ↓reduceIte]; done) | (simp only [wRefK, wRefD, refP, lastP, eq_false c_22, eq_false c_24, eq_true c_25, eq_false k_26, eq_false c_28, ↓reduceIte]; rfl), rfl⟩ (Nat.le_refl _) (Nat.le_refl _) d_W_refusalOf_91
        · refine lv_iload_n hx hb d_W_refusalOf_38 rfl (lv_at hl 2 rfl) ?_
          refine lv_bipush (v := 6) hx hb d_W_refusalOf_39 (by decide) ?_
          refine lv_icmp_ne (tgt := 48) hx hb d_W_refusalOf_41 (by decide) (fun c_30 => ?_) (fun c_30 => ?_)
          · refine lv_iconst (v := 0) hx hb d_W_refusalOf_48 (by decide) ?_
            refine lv_istore (lv' := [(5, .int 0), (4, .ref (a 3)), (0, .ref (a 0)), (1, .int f), (2, .int a1), (3, .int n)]) hx hb d_W_refusalOf_49 hl (by decide) rfl (fun ls hl => ?_)
            refine lv_iload hx hb d_W_refusalOf_51 (lv_at hl 0 rfl) ?_
            have k_31 : (0 : Int32) = 0 := by decide
            refine lv_if_eq (tgt := 60) hx hb d_W_refusalOf_53 (by decide) (fun _ => ?_) (fun h9 => absurd k_31 h9)
            refine lv_iload_n hx hb d_W_refusalOf_60 rfl (lv_at hl 4 rfl) ?_
            refine lv_iload_n hx hb d_W_refusalOf_61 rfl (lv_at hl 5 rfl) ?_
            refine lv_iadd hx hb d_W_refusalOf_62 ?_
            refine lv_iconst (v := 1) hx hb d_W_refusalOf_63 (by decide) ?_
            refine lv_isub hx hb d_W_refusalOf_64 ?_
            refine lv_istore (lv' := [(6, .int ((a1 + n) - 1)), (5, .int 0), (4, .ref (a 3)), (0, .ref (a 0)), (1, .int f), (2, .int a1), (3, .int n)]) hx hb d_W_refusalOf_65 hl (by decide) rfl (fun ls hl => ?_)
            refine lv_aload hx hb d_W_refusalOf_67 (lv_at hl 2 rfl) ?_
            refine lv_iload_n hx hb d_W_refusalOf_69 rfl (lv_at hl 5 rfl) ?_
            refine g_cVi (rest := []) S G (c_T_has l D cA (a 3) (a 4) 256 (σ 2) 1 a1) (cwV 1 S.2.2.2.2 ml_W_152 rfl rfl rfl (by decide +kernel) ⟨Nat.le_of_ble_eq_true rfl, Nat.le_of_ble_eq_true rfl⟩) [3, 4] [0, 1, 2, 5, 6, 7, 8, 9, 10, 11, 12, 13] rfl rfl rfl rfl (by decide) 3 rfl rfl rfl hl.1 rfl (Nat.le_of_ble_eq_true rfl) d_W_refusalOf_70 ⟨Nat.le_of_ble_eq_true rfl, Nat.le_of_ble_eq_true rfl⟩ (fun rp_32 wp_32 H locs hp_32 G => ?_)
            obtain ⟨rfl, rfl⟩ := hp_32
            have G := G.sub (ws' := wW cA a σ) [0, 1, 2, 12, 13, 3, 4, 5, 6, 7, 8, 9, 10, 11] rfl (ww_T3 cA a _)
            refine lv_if_eq (tgt := 90) hx hb d_W_refusalOf_73 (by decide) (fun c_33 => ?_) (fun c_33 => ?_)
            · refine lv_iconst (v := 2) hx hb d_W_refusalOf_90 (by decide) ?_
              exact g_reti S hr hlk G ⟨by unfold wRef; rw [hk]; first | rfl | (simp only [wRefK, wRefD, refP, lastP, eq_false c_22, eq_false c_24, eq_false c_25, eq_false c_30, eq_true k_31, eq_true c_33, ↓reduceIte]; done) | (simp only [wRefK, wRefD, refP, lastP, eq_false c_22, eq_false c_24, eq_false c_25, eq_false c_30, eq_true k_31, eq_true c_33, ↓reduceIte]; rfl), rfl⟩ (Nat.le_refl _) (Nat.le_refl _) d_W_refusalOf_91
            · refine lv_aload hx hb d_W_refusalOf_76 (lv_at hl 2 rfl) ?_
              refine lv_iload hx hb d_W_refusalOf_78 (lv_at hl 0 rfl) ?_
              refine g_cVi (rest := []) S G (c_T_has l D cA (a 3) (a 4) 256 (σ 2) 1 ((a1 + n) - 1)) (cwV 1 S.2.2.2.2 ml_W_152 rfl rfl rfl (by decide +kernel) ⟨Nat.le_of_ble_eq_true rfl, Nat.le_of_ble_eq_true rfl⟩) [3, 4] [0, 1, 2, 5, 6, 7, 8, 9, 10, 11, 12, 13] rfl rfl rfl rfl (by decide) 3 rfl rfl rfl hl.1 rfl (Nat.le_of_ble_eq_true rfl) d_W_refusalOf_80 ⟨Nat.le_of_ble_eq_true rfl, Nat.le_of_ble_eq_true rfl⟩ (fun rp_34 wp_34 H locs hp_34 G => ?_)
              obtain ⟨rfl, rfl⟩ := hp_34
              have G := G.sub (ws' := wW cA a σ) [0, 1, 2, 12, 13, 3, 4, 5, 6, 7, 8, 9, 10, 11] rfl (ww_T3 cA a _)
              refine lv_if_eq (tgt := 90) hx hb d_W_refusalOf_83 (by decide) (fun c_35 => ?_) (fun c_35 => ?_)
              · refine lv_iconst (v := 2) hx hb d_W_refusalOf_90 (by decide) ?_
                exact g_reti S hr hlk G ⟨by unfold wRef; rw [hk]; first | rfl | (simp only [wRefK, wRefD, refP, lastP, eq_false c_22, eq_false c_24, eq_false c_25, eq_false c_30, eq_true k_31, eq_false c_33, eq_true c_35, ↓reduceIte]; done) | (simp only [wRefK, wRefD, refP, lastP, eq_false c_22, eq_false c_24, eq_false c_25, eq_false c_30, eq_true k_31, eq_false c_33, eq_true c_35, ↓reduceIte]; rfl), rfl⟩ (Nat.le_refl _) (Nat.le_refl _) d_W_refusalOf_91
              · refine lv_iconst (v := 0) hx hb d_W_refusalOf_86 (by decide) ?_
                refine lv_goto (tgt := 91) hx hb d_W_refusalOf_87 (by decide) ?_
                exact g_reti S hr hlk G ⟨by unfold wRef; rw [hk]; first | rfl | (simp only [wRefK, wRefD, refP, lastP, eq_false c_22, eq_false c_24, eq_false c_25, eq_false c_30, eq_true k_31, eq_false c_33, eq_false c_35, ↓reduceIte]; done) | (simp only [wRefK, wRefD, refP, lastP, eq_false c_22, eq_false c_24, eq_false c_25, eq_false c_30, eq_true k_31, eq_false c_33, eq_false c_35, ↓reduceIte]; rfl), rfl⟩ (Nat.le_refl _) (Nat.le_refl _) d_W_refusalOf_91
          · refine lv_iconst (v := 1) hx hb d_W_refusalOf_44 (by decide) ?_
            refine lv_goto (tgt := 49) hx hb d_W_refusalOf_45 (by decide) ?_
            refine lv_istore (lv' := [(5, .int 1), (4, .ref (a 3)), (0, .ref (a 0)), (1, .int f), (2, .int a1), (3, .int n)]) hx hb d_W_refusalOf_49 hl (by decide) rfl (fun ls hl => ?_)
            refine lv_iload hx hb d_W_refusalOf_51 (lv_at hl 0 rfl) ?_
            have k_36 : ¬ ((1 : Int32) = 0) := by decide
            refine lv_if_eq (tgt := 60) hx hb d_W_refusalOf_53 (by decide) (fun h9 => absurd h9 k_36) (fun _ => ?_)
            refine lv_iload_n hx hb d_W_refusalOf_56 rfl (lv_at hl 4 rfl) ?_
            refine lv_goto (tgt := 65) hx hb d_W_refusalOf_57 (by decide) ?_
            refine lv_istore (lv' := [(6, .int a1), (5, .int 1), (4, .ref (a 3)), (0, .ref (a 0)), (1, .int f), (2, .int a1), (3, .int n)]) hx hb d_W_refusalOf_65 hl (by decide) rfl (fun ls hl => ?_)
            refine lv_aload hx hb d_W_refusalOf_67 (lv_at hl 2 rfl) ?_
            refine lv_iload_n hx hb d_W_refusalOf_69 rfl (lv_at hl 5 rfl) ?_
            refine g_cVi (rest := []) S G (c_T_has l D cA (a 3) (a 4) 256 (σ 2) 1 a1) (cwV 1 S.2.2.2.2 ml_W_152 rfl rfl rfl (by decide +kernel) ⟨Nat.le_of_ble_eq_true rfl, Nat.le_of_ble_eq_true rfl⟩) [3, 4] [0, 1, 2, 5, 6, 7, 8, 9, 10, 11, 12, 13] rfl rfl rfl rfl (by decide) 3 rfl rfl rfl hl.1 rfl (Nat.le_of_ble_eq_true rfl) d_W_refusalOf_70 ⟨Nat.le_of_ble_eq_true rfl, Nat.le_of_ble_eq_true rfl⟩ (fun rp_37 wp_37 H locs hp_37 G => ?_)
            obtain ⟨rfl, rfl⟩ := hp_37
            have G := G.sub (ws' := wW cA a σ) [0, 1, 2, 12, 13, 3, 4, 5, 6, 7, 8, 9, 10, 11] rfl (ww_T3 cA a _)
            refine lv_if_eq (tgt := 90) hx hb d_W_refusalOf_73 (by decide) (fun c_38 => ?_) (fun c_38 => ?_)
            · refine lv_iconst (v := 2) hx hb d_W_refusalOf_90 (by decide) ?_
              exact g_reti S hr hlk G ⟨by unfold wRef; rw [hk]; first | rfl | (simp only [wRefK, wRefD, refP, lastP, eq_false c_22, eq_false c_24, eq_false c_25, eq_true c_30, eq_false k_36, eq_true c_38, ↓reduceIte]; done) | (simp only [wRefK, wRefD, refP, lastP, eq_false c_22, eq_false c_24, eq_false c_25, eq_true c_30, eq_false k_36, eq_true c_38, ↓reduceIte]; rfl), rfl⟩ (Nat.le_refl _) (Nat.le_refl _) d_W_refusalOf_91
            · refine lv_aload hx hb d_W_refusalOf_76 (lv_at hl 2 rfl) ?_
              refine lv_iload hx hb d_W_refusalOf_78 (lv_at hl 0 rfl) ?_
              refine g_cVi (rest := []) S G (c_T_has l D cA (a 3) (a 4) 256 (σ 2) 1 a1) (cwV 1 S.2.2.2.2 ml_W_152 rfl rfl rfl (by decide +kernel) ⟨Nat.le_of_ble_eq_true rfl, Nat.le_of_ble_eq_true rfl⟩) [3, 4] [0, 1, 2, 5, 6, 7, 8, 9, 10, 11, 12, 13] rfl rfl rfl rfl (by decide) 3 rfl rfl rfl hl.1 rfl (Nat.le_of_ble_eq_true rfl) d_W_refusalOf_80 ⟨Nat.le_of_ble_eq_true rfl, Nat.le_of_ble_eq_true rfl⟩ (fun rp_39 wp_39 H locs hp_39 G => ?_)
              obtain ⟨rfl, rfl⟩ := hp_39
              have G := G.sub (ws' := wW cA a σ) [0, 1, 2, 12, 13, 3, 4, 5, 6, 7, 8, 9, 10, 11] rfl (ww_T3 cA a _)
              refine lv_if_eq (tgt := 90) hx hb d_W_refusalOf_83 (by decide) (fun h9 => absurd h9 c_38) (fun _ => ?_)
              refine lv_iconst (v := 0) hx hb d_W_refusalOf_86 (by decide) ?_
              refine lv_goto (tgt := 91) hx hb d_W_refusalOf_87 (by decide) ?_
              exact g_reti S hr hlk G ⟨by unfold wRef; rw [hk]; first | rfl | (simp only [wRefK, wRefD, refP, lastP, eq_false c_22, eq_false c_24, eq_false c_25, eq_true c_30, eq_false k_36, eq_false c_38, ↓reduceIte]; done) | (simp only [wRefK, wRefD, refP, lastP, eq_false c_22, eq_false c_24, eq_false c_25, eq_true c_30, eq_false k_36, eq_false c_38, ↓reduceIte]; rfl), rfl⟩ (Nat.le_refl _) (Nat.le_refl _) d_W_refusalOf_91
      · refine lv_iconst (v := 3) hx hb d_W_refusalOf_31 (by decide) ?_
        exact g_reti S hr hlk G ⟨by unfold wRef; rw [hk]; first | rfl | (simp only [wRefK, wRefD, refP, lastP, eq_false c_22, eq_true c_24, ↓reduceIte]; done) | (simp only [wRefK, wRefD, refP, lastP, eq_false c_22, eq_true c_24, ↓reduceIte]; rfl), rfl⟩ (Nat.le_refl _) (Nat.le_refl _) d_W_refusalOf_32
  · rw [hk]
    refine W.eq (g2 := F0 mm 5 ls [.ref (a 5)]) rfl ?_
    refine lv_astore (lv' := [(4, .ref (a 5)), (0, .ref (a 0)), (1, .int f), (2, .int a1), (3, .int n)]) hx hb d_W_refusalOf_5 hl (by decide) rfl (fun ls hl => ?_)
    refine lv_aload hx hb d_W_refusalOf_7 (lv_at hl 0 rfl) ?_
    refine lv_ifnonnull (tgt := 14) hx hb d_W_refusalOf_9 (by decide) ?_
    refine lv_aload_n hx hb d_W_refusalOf_14 rfl (lv_at hl 1 rfl) ?_
    refine lv_iload_n hx hb d_W_refusalOf_15 rfl (lv_at hl 2 rfl) ?_
    refine g_cVi (rest := []) S G (c_W_isDueSize l D cA a σ f) (cwV 1 S.2.2.2.2 ml_W_144 rfl rfl rfl (by decide +kernel) ⟨Nat.le_of_ble_eq_true rfl, Nat.le_of_ble_eq_true rfl⟩) [0, 1, 2, 3, 4, 5, 6, 7, 8, 9, 10, 11, 12, 13] [] rfl rfl rfl rfl (by decide) 0 rfl rfl rfl hl.1 rfl (Nat.le_of_ble_eq_true rfl) d_W_refusalOf_16 ⟨Nat.le_of_ble_eq_true rfl, Nat.le_of_ble_eq_true rfl⟩ (fun rp_40 wp_40 H locs hp_40 G => ?_)
    obtain ⟨rfl, rfl⟩ := hp_40
    have G : Gw D vwCl [(cA, .int)] AA ss ss.heap H locs (wW cA a σ) := G
    refine lv_if_eq (tgt := 31) hx hb d_W_refusalOf_19 (by decide) (fun c_41 => ?_) (fun c_41 => ?_)
    · refine lv_iconst (v := 3) hx hb d_W_refusalOf_31 (by decide) ?_
      exact g_reti S hr hlk G ⟨by unfold wRef; rw [hk]; first | rfl | (simp only [wRefK, wRefD, refP, lastP, eq_true c_41, ↓reduceIte]; done) | (simp only [wRefK, wRefD, refP, lastP, eq_true c_41, ↓reduceIte]; rfl), rfl⟩ (Nat.le_refl _) (Nat.le_refl _) d_W_refusalOf_32
    · refine lv_aload_n hx hb d_W_refusalOf_22 rfl (lv_at hl 1 rfl) ?_
      refine lv_iload_n hx hb d_W_refusalOf_23 rfl (lv_at hl 2 rfl) ?_
      refine lv_iload_n hx hb d_W_refusalOf_24 rfl (lv_at hl 4 rfl) ?_
      refine g_cVi (rest := []) S G (c_W_isDueAmount l D cA a σ f n) (cwV 2 S.2.2.2.2 ml_W_148 rfl rfl rfl (by decide +kernel) ⟨Nat.le_of_ble_eq_true rfl, Nat.le_of_ble_eq_true rfl⟩) [0, 1, 2, 3, 4, 5, 6, 7, 8, 9, 10, 11, 12, 13] [] rfl rfl rfl rfl (by decide) 0 rfl rfl rfl hl.1 rfl (Nat.le_of_ble_eq_true rfl) d_W_refusalOf_25 ⟨Nat.le_of_ble_eq_true rfl, Nat.le_of_ble_eq_true rfl⟩ (fun rp_42 wp_42 H locs hp_42 G => ?_)
      obtain ⟨rfl, rfl⟩ := hp_42
      have G : Gw D vwCl [(cA, .int)] AA ss ss.heap H locs (wW cA a σ) := G
      refine lv_if_ne (tgt := 33) hx hb d_W_refusalOf_28 (by decide) (fun c_43 => ?_) (fun c_43 => ?_)
      · refine lv_iload_n hx hb d_W_refusalOf_33 rfl (lv_at hl 2 rfl) ?_
        refine lv_iconst (v := 5) hx hb d_W_refusalOf_34 (by decide) ?_
        refine lv_icmp_eq (tgt := 44) hx hb d_W_refusalOf_35 (by decide) (fun c_44 => ?_) (fun c_44 => ?_)
        · refine lv_iconst (v := 1) hx hb d_W_refusalOf_44 (by decide) ?_
          refine lv_goto (tgt := 49) hx hb d_W_refusalOf_45 (by decide) ?_
          refine lv_istore (lv' := [(5, .int 1), (4, .ref (a 5)), (0, .ref (a 0)), (1, .int f), (2, .int a1), (3, .int n)]) hx hb d_W_refusalOf_49 hl (by decide) rfl (fun ls hl => ?_)
          refine lv_iload hx hb d_W_refusalOf_51 (lv_at hl 0 rfl) ?_
          have k_45 : ¬ ((1 : Int32) = 0) := by decide
          refine lv_if_eq (tgt := 60) hx hb d_W_refusalOf_53 (by decide) (fun h9 => absurd h9 k_45) (fun _ => ?_)
          refine lv_iload_n hx hb d_W_refusalOf_56 rfl (lv_at hl 4 rfl) ?_
          refine lv_goto (tgt := 65) hx hb d_W_refusalOf_57 (by decide) ?_
          refine lv_istore (lv' := [(6, .int a1), (5, .int 1), (4, .ref (a 5)), (0, .ref (a 0)), (1, .int f), (2, .int a1), (3, .int n)]) hx hb d_W_refusalOf_65 hl (by decide) rfl (fun ls hl => ?_)
          refine lv_aload hx hb d_W_refusalOf_67 (lv_at hl 2 rfl) ?_
          refine lv_iload_n hx hb d_W_refusalOf_69 rfl (lv_at hl 5 rfl) ?_
          refine g_cVi (rest := []) S G (c_T_has l D cA (a 5) (a 6) 64 (σ 3) 65535 a1) (cwV 1 S.2.2.2.2 ml_W_152 rfl rfl rfl (by decide +kernel) ⟨Nat.le_of_ble_eq_true rfl, Nat.le_of_ble_eq_true rfl⟩) [5, 6] [0, 1, 2, 3, 4, 7, 8, 9, 10, 11, 12, 13] rfl rfl rfl rfl (by decide) 5 rfl rfl rfl hl.1 rfl (Nat.le_of_ble_eq_true rfl) d_W_refusalOf_70 ⟨Nat.le_of_ble_eq_true rfl, Nat.le_of_ble_eq_true rfl⟩ (fun rp_46 wp_46 H locs hp_46 G => ?_)
          obtain ⟨rfl, rfl⟩ := hp_46
          have G := G.sub (ws' := wW cA a σ) [0, 1, 2, 3, 4, 12, 13, 5, 6, 7, 8, 9, 10, 11] rfl (ww_T5 cA a _)
          refine lv_if_eq (tgt := 90) hx hb d_W_refusalOf_73 (by decide) (fun c_47 => ?_) (fun c_47 => ?_)
          · refine lv_iconst (v := 2) hx hb d_W_refusalOf_90 (by decide) ?_
            exact g_reti S hr hlk G ⟨by unfold wRef; rw [hk]; first | rfl | (simp only [wRefK, wRefD, refP, lastP, eq_false c_41, eq_false c_43, eq_true c_44, eq_false k_45, eq_true c_47, ↓reduceIte]; done) | (simp only [wRefK, wRefD, refP, lastP, eq_false c_41, eq_false c_43, eq_true c_44, eq_false k_45, eq_true c_47, ↓reduceIte]; rfl), rfl⟩ (Nat.le_refl _) (Nat.le_refl _) d_W_refusalOf_91
          · refine lv_aload hx hb d_W_refusalOf_76 (lv_at hl 2 rfl) ?_
            refine lv_iload hx hb d_W_refusalOf_78 (lv_at hl 0 rfl) ?_
            refine g_cVi (rest := []) S G (c_T_has l D cA (a 5) (a 6) 64 (σ 3) 65535 a1) (cwV 1 S.2.2.2.2 ml_W_152 rfl rfl rfl (by decide +kernel) ⟨Nat.le_of_ble_eq_true rfl, Nat.le_of_ble_eq_true rfl⟩) [5, 6] [0, 1, 2, 3, 4, 7, 8, 9, 10, 11, 12, 13] rfl rfl rfl rfl (by decide) 5 rfl rfl rfl hl.1 rfl (Nat.le_of_ble_eq_true rfl) d_W_refusalOf_80 ⟨Nat.le_of_ble_eq_true rfl, Nat.le_of_ble_eq_true rfl⟩ (fun rp_48 wp_48 H locs hp_48 G => ?_)
            obtain ⟨rfl, rfl⟩ := hp_48
            have G := G.sub (ws' := wW cA a σ) [0, 1, 2, 3, 4, 12, 13, 5, 6, 7, 8, 9, 10, 11] rfl (ww_T5 cA a _)
            refine lv_if_eq (tgt := 90) hx hb d_W_refusalOf_83 (by decide) (fun h9 => absurd h9 c_47) (fun _ => ?_)
            refine lv_iconst (v := 0) hx hb d_W_refusalOf_86 (by decide) ?_
            refine lv_goto (tgt := 91) hx hb d_W_refusalOf_87 (by decide) ?_
            exact g_reti S hr hlk G ⟨by unfold wRef; rw [hk]; first | rfl | (simp only [wRefK, wRefD, refP, lastP, eq_false c_41, eq_false c_43, eq_true c_44, eq_false k_45, eq_false c_47, ↓reduceIte]; done) | (simp only [wRefK, wRefD, refP, lastP, eq_false c_41, eq_false c_43, eq_true c_44, eq_false k_45, eq_false c_47, ↓reduceIte]; rfl), rfl⟩ (Nat.le_refl _) (Nat.le_refl _) d_W_refusalOf_91
        · refine lv_iload_n hx hb d_W_refusalOf_38 rfl (lv_at hl 2 rfl) ?_
          refine lv_bipush (v := 6) hx hb d_W_refusalOf_39 (by decide) ?_
          refine lv_icmp_ne (tgt := 48) hx hb d_W_refusalOf_41 (by decide) (fun c_49 => ?_) (fun c_49 => ?_)
          · refine lv_iconst (v := 0) hx hb d_W_refusalOf_48 (by decide) ?_
            refine lv_istore (lv' := [(5, .int 0), (4, .ref (a 5)), (0, .ref (a 0)), (1, .int f), (2, .int a1), (3, .int n)]) hx hb d_W_refusalOf_49 hl (by decide) rfl (fun ls hl => ?_)
            refine lv_iload hx hb d_W_refusalOf_51 (lv_at hl 0 rfl) ?_
            have k_50 : (0 : Int32) = 0 := by decide
            refine lv_if_eq (tgt := 60) hx hb d_W_refusalOf_53 (by decide) (fun _ => ?_) (fun h9 => absurd k_50 h9)
            refine lv_iload_n hx hb d_W_refusalOf_60 rfl (lv_at hl 4 rfl) ?_
            refine lv_iload_n hx hb d_W_refusalOf_61 rfl (lv_at hl 5 rfl) ?_
            refine lv_iadd hx hb d_W_refusalOf_62 ?_
            refine lv_iconst (v := 1) hx hb d_W_refusalOf_63 (by decide) ?_
            refine lv_isub hx hb d_W_refusalOf_64 ?_
            refine lv_istore (lv' := [(6, .int ((a1 + n) - 1)), (5, .int 0), (4, .ref (a 5)), (0, .ref (a 0)), (1, .int f), (2, .int a1), (3, .int n)]) hx hb d_W_refusalOf_65 hl (by decide) rfl (fun ls hl => ?_)
            refine lv_aload hx hb d_W_refusalOf_67 (lv_at hl 2 rfl) ?_
            refine lv_iload_n hx hb d_W_refusalOf_69 rfl (lv_at hl 5 rfl) ?_
            refine g_cVi (rest := []) S G (c_T_has l D cA (a 5) (a 6) 64 (σ 3) 65535 a1) (cwV 1 S.2.2.2.2 ml_W_152 rfl rfl rfl (by decide +kernel) ⟨Nat.le_of_ble_eq_true rfl, Nat.le_of_ble_eq_true rfl⟩) [5, 6] [0, 1, 2, 3, 4, 7, 8, 9, 10, 11, 12, 13] rfl rfl rfl rfl (by decide) 5 rfl rfl rfl hl.1 rfl (Nat.le_of_ble_eq_true rfl) d_W_refusalOf_70 ⟨Nat.le_of_ble_eq_true rfl, Nat.le_of_ble_eq_true rfl⟩ (fun rp_51 wp_51 H locs hp_51 G => ?_)
            obtain ⟨rfl, rfl⟩ := hp_51
            have G := G.sub (ws' := wW cA a σ) [0, 1, 2, 3, 4, 12, 13, 5, 6, 7, 8, 9, 10, 11] rfl (ww_T5 cA a _)
            refine lv_if_eq (tgt := 90) hx hb d_W_refusalOf_73 (by decide) (fun c_52 => ?_) (fun c_52 => ?_)
            · refine lv_iconst (v := 2) hx hb d_W_refusalOf_90 (by decide) ?_
              exact g_reti S hr hlk G ⟨by unfold wRef; rw [hk]; first | rfl | (simp only [wRefK, wRefD, refP, lastP, eq_false c_41, eq_false c_43, eq_false c_44, eq_false c_49, eq_true k_50, eq_true c_52, ↓reduceIte]; done) | (simp only [wRefK, wRefD, refP, lastP, eq_false c_41, eq_false c_43, eq_false c_44, eq_false c_49, eq_true k_50, eq_true c_52, ↓reduceIte]; rfl), rfl⟩ (Nat.le_refl _) (Nat.le_refl _) d_W_refusalOf_91
            · refine lv_aload hx hb d_W_refusalOf_76 (lv_at hl 2 rfl) ?_
              refine lv_iload hx hb d_W_refusalOf_78 (lv_at hl 0 rfl) ?_
              refine g_cVi (rest := []) S G (c_T_has l D cA (a 5) (a 6) 64 (σ 3) 65535 ((a1 + n) - 1)) (cwV 1 S.2.2.2.2 ml_W_152 rfl rfl rfl (by decide +kernel) ⟨Nat.le_of_ble_eq_true rfl, Nat.le_of_ble_eq_true rfl⟩) [5, 6] [0, 1, 2, 3, 4, 7, 8, 9, 10, 11, 12, 13] rfl rfl rfl rfl (by decide) 5 rfl rfl rfl hl.1 rfl (Nat.le_of_ble_eq_true rfl) d_W_refusalOf_80 ⟨Nat.le_of_ble_eq_true rfl, Nat.le_of_ble_eq_true rfl⟩ (fun rp_53 wp_53 H locs hp_53 G => ?_)
              obtain ⟨rfl, rfl⟩ := hp_53
              have G := G.sub (ws' := wW cA a σ) [0, 1, 2, 3, 4, 12, 13, 5, 6, 7, 8, 9, 10, 11] rfl (ww_T5 cA a _)
              refine lv_if_eq (tgt := 90) hx hb d_W_refusalOf_83 (by decide) (fun c_54 => ?_) (fun c_54 => ?_)
              · refine lv_iconst (v := 2) hx hb d_W_refusalOf_90 (by decide) ?_
                exact g_reti S hr hlk G ⟨by unfold wRef; rw [hk]; first | rfl | (simp only [wRefK, wRefD, refP, lastP, eq_false c_41, eq_false c_43, eq_false c_44, eq_false c_49, eq_true k_50, eq_false c_52, eq_true c_54, ↓reduceIte]; done) | (simp only [wRefK, wRefD, refP, lastP, eq_false c_41, eq_false c_43, eq_false c_44, eq_false c_49, eq_true k_50, eq_false c_52, eq_true c_54, ↓reduceIte]; rfl), rfl⟩ (Nat.le_refl _) (Nat.le_refl _) d_W_refusalOf_91
              · refine lv_iconst (v := 0) hx hb d_W_refusalOf_86 (by decide) ?_
                refine lv_goto (tgt := 91) hx hb d_W_refusalOf_87 (by decide) ?_
                exact g_reti S hr hlk G ⟨by unfold wRef; rw [hk]; first | rfl | (simp only [wRefK, wRefD, refP, lastP, eq_false c_41, eq_false c_43, eq_false c_44, eq_false c_49, eq_true k_50, eq_false c_52, eq_false c_54, ↓reduceIte]; done) | (simp only [wRefK, wRefD, refP, lastP, eq_false c_41, eq_false c_43, eq_false c_44, eq_false c_49, eq_true k_50, eq_false c_52, eq_false c_54, ↓reduceIte]; rfl), rfl⟩ (Nat.le_refl _) (Nat.le_refl _) d_W_refusalOf_91
          · refine lv_iconst (v := 1) hx hb d_W_refusalOf_44 (by decide) ?_
            refine lv_goto (tgt := 49) hx hb d_W_refusalOf_45 (by decide) ?_
            refine lv_istore (lv' := [(5, .int 1), (4, .ref (a 5)), (0, .ref (a 0)), (1, .int f), (2, .int a1), (3, .int n)]) hx hb d_W_refusalOf_49 hl (by decide) rfl (fun ls hl => ?_)
            refine lv_iload hx hb d_W_refusalOf_51 (lv_at hl 0 rfl) ?_
            have k_55 : ¬ ((1 : Int32) = 0) := by decide
            refine lv_if_eq (tgt := 60) hx hb d_W_refusalOf_53 (by decide) (fun h9 => absurd h9 k_55) (fun _ => ?_)
            refine lv_iload_n hx hb d_W_refusalOf_56 rfl (lv_at hl 4 rfl) ?_
            refine lv_goto (tgt := 65) hx hb d_W_refusalOf_57 (by decide) ?_
            refine lv_istore (lv' := [(6, .int a1), (5, .int 1), (4, .ref (a 5)), (0, .ref (a 0)), (1, .int f), (2, .int a1), (3, .int n)]) hx hb d_W_refusalOf_65 hl (by decide) rfl (fun ls hl => ?_)
            refine lv_aload hx hb d_W_refusalOf_67 (lv_at hl 2 rfl) ?_
            refine lv_iload_n hx hb d_W_refusalOf_69 rfl (lv_at hl 5 rfl) ?_
            refine g_cVi (rest := []) S G (c_T_has l D cA (a 5) (a 6) 64 (σ 3) 65535 a1) (cwV 1 S.2.2.2.2 ml_W_152 rfl rfl rfl (by decide +kernel) ⟨Nat.le_of_ble_eq_true rfl, Nat.le_of_ble_eq_true rfl⟩) [5, 6] [0, 1, 2, 3, 4, 7, 8, 9, 10, 11, 12, 13] rfl rfl rfl rfl (by decide) 5 rfl rfl rfl hl.1 rfl (Nat.le_of_ble_eq_true rfl) d_W_refusalOf_70 ⟨Nat.le_of_ble_eq_true rfl, Nat.le_of_ble_eq_true rfl⟩ (fun rp_56 wp_56 H locs hp_56 G => ?_)
            obtain ⟨rfl, rfl⟩ := hp_56
            have G := G.sub (ws' := wW cA a σ) [0, 1, 2, 3, 4, 12, 13, 5, 6, 7, 8, 9, 10, 11] rfl (ww_T5 cA a _)
            refine lv_if_eq (tgt := 90) hx hb d_W_refusalOf_73 (by decide) (fun c_57 => ?_) (fun c_57 => ?_)
            · refine lv_iconst (v := 2) hx hb d_W_refusalOf_90 (by decide) ?_
              exact g_reti S hr hlk G ⟨by unfold wRef; rw [hk]; first | rfl | (simp only [wRefK, wRefD, refP, lastP, eq_false c_41, eq_false c_43, eq_false c_44, eq_true c_49, eq_false k_55, eq_true c_57, ↓reduceIte]; done) | (simp only [wRefK, wRefD, refP, lastP, eq_false c_41, eq_false c_43, eq_false c_44, eq_true c_49, eq_false k_55, eq_true c_57, ↓reduceIte]; rfl), rfl⟩ (Nat.le_refl _) (Nat.le_refl _) d_W_refusalOf_91
            · refine lv_aload hx hb d_W_refusalOf_76 (lv_at hl 2 rfl) ?_
              refine lv_iload hx hb d_W_refusalOf_78 (lv_at hl 0 rfl) ?_
              refine g_cVi (rest := []) S G (c_T_has l D cA (a 5) (a 6) 64 (σ 3) 65535 a1) (cwV 1 S.2.2.2.2 ml_W_152 rfl rfl rfl (by decide +kernel) ⟨Nat.le_of_ble_eq_true rfl, Nat.le_of_ble_eq_true rfl⟩) [5, 6] [0, 1, 2, 3, 4, 7, 8, 9, 10, 11, 12, 13] rfl rfl rfl rfl (by decide) 5 rfl rfl rfl hl.1 rfl (Nat.le_of_ble_eq_true rfl) d_W_refusalOf_80 ⟨Nat.le_of_ble_eq_true rfl, Nat.le_of_ble_eq_true rfl⟩ (fun rp_58 wp_58 H locs hp_58 G => ?_)
              obtain ⟨rfl, rfl⟩ := hp_58
              have G := G.sub (ws' := wW cA a σ) [0, 1, 2, 3, 4, 12, 13, 5, 6, 7, 8, 9, 10, 11] rfl (ww_T5 cA a _)
              refine lv_if_eq (tgt := 90) hx hb d_W_refusalOf_83 (by decide) (fun h9 => absurd h9 c_57) (fun _ => ?_)
              refine lv_iconst (v := 0) hx hb d_W_refusalOf_86 (by decide) ?_
              refine lv_goto (tgt := 91) hx hb d_W_refusalOf_87 (by decide) ?_
              exact g_reti S hr hlk G ⟨by unfold wRef; rw [hk]; first | rfl | (simp only [wRefK, wRefD, refP, lastP, eq_false c_41, eq_false c_43, eq_false c_44, eq_true c_49, eq_false k_55, eq_false c_57, ↓reduceIte]; done) | (simp only [wRefK, wRefD, refP, lastP, eq_false c_41, eq_false c_43, eq_false c_44, eq_true c_49, eq_false k_55, eq_false c_57, ↓reduceIte]; rfl), rfl⟩ (Nat.le_refl _) (Nat.le_refl _) d_W_refusalOf_91
      · refine lv_iconst (v := 3) hx hb d_W_refusalOf_31 (by decide) ?_
        exact g_reti S hr hlk G ⟨by unfold wRef; rw [hk]; first | rfl | (simp only [wRefK, wRefD, refP, lastP, eq_false c_41, eq_true c_43, ↓reduceIte]; done) | (simp only [wRefK, wRefD, refP, lastP, eq_false c_41, eq_true c_43, ↓reduceIte]; rfl), rfl⟩ (Nat.le_refl _) (Nat.le_refl _) d_W_refusalOf_32
  · rw [hk]
    refine W.eq (g2 := F0 mm 5 ls [.ref (a 7)]) rfl ?_
    refine lv_astore (lv' := [(4, .ref (a 7)), (0, .ref (a 0)), (1, .int f), (2, .int a1), (3, .int n)]) hx hb d_W_refusalOf_5 hl (by decide) rfl (fun ls hl => ?_)
    refine lv_aload hx hb d_W_refusalOf_7 (lv_at hl 0 rfl) ?_
    refine lv_ifnonnull (tgt := 14) hx hb d_W_refusalOf_9 (by decide) ?_
    refine lv_aload_n hx hb d_W_refusalOf_14 rfl (lv_at hl 1 rfl) ?_
    refine lv_iload_n hx hb d_W_refusalOf_15 rfl (lv_at hl 2 rfl) ?_
    refine g_cVi (rest := []) S G (c_W_isDueSize l D cA a σ f) (cwV 1 S.2.2.2.2 ml_W_144 rfl rfl rfl (by decide +kernel) ⟨Nat.le_of_ble_eq_true rfl, Nat.le_of_ble_eq_true rfl⟩) [0, 1, 2, 3, 4, 5, 6, 7, 8, 9, 10, 11, 12, 13] [] rfl rfl rfl rfl (by decide) 0 rfl rfl rfl hl.1 rfl (Nat.le_of_ble_eq_true rfl) d_W_refusalOf_16 ⟨Nat.le_of_ble_eq_true rfl, Nat.le_of_ble_eq_true rfl⟩ (fun rp_59 wp_59 H locs hp_59 G => ?_)
    obtain ⟨rfl, rfl⟩ := hp_59
    have G : Gw D vwCl [(cA, .int)] AA ss ss.heap H locs (wW cA a σ) := G
    refine lv_if_eq (tgt := 31) hx hb d_W_refusalOf_19 (by decide) (fun c_60 => ?_) (fun c_60 => ?_)
    · refine lv_iconst (v := 3) hx hb d_W_refusalOf_31 (by decide) ?_
      exact g_reti S hr hlk G ⟨by unfold wRef; rw [hk]; first | rfl | (simp only [wRefK, wRefD, refP, lastP, eq_true c_60, ↓reduceIte]; done) | (simp only [wRefK, wRefD, refP, lastP, eq_true c_60, ↓reduceIte]; rfl), rfl⟩ (Nat.le_refl _) (Nat.le_refl _) d_W_refusalOf_32
    · refine lv_aload_n hx hb d_W_refusalOf_22 rfl (lv_at hl 1 rfl) ?_
      refine lv_iload_n hx hb d_W_refusalOf_23 rfl (lv_at hl 2 rfl) ?_
      refine lv_iload_n hx hb d_W_refusalOf_24 rfl (lv_at hl 4 rfl) ?_
      refine g_cVi (rest := []) S G (c_W_isDueAmount l D cA a σ f n) (cwV 2 S.2.2.2.2 ml_W_148 rfl rfl rfl (by decide +kernel) ⟨Nat.le_of_ble_eq_true rfl, Nat.le_of_ble_eq_true rfl⟩) [0, 1, 2, 3, 4, 5, 6, 7, 8, 9, 10, 11, 12, 13] [] rfl rfl rfl rfl (by decide) 0 rfl rfl rfl hl.1 rfl (Nat.le_of_ble_eq_true rfl) d_W_refusalOf_25 ⟨Nat.le_of_ble_eq_true rfl, Nat.le_of_ble_eq_true rfl⟩ (fun rp_61 wp_61 H locs hp_61 G => ?_)
      obtain ⟨rfl, rfl⟩ := hp_61
      have G : Gw D vwCl [(cA, .int)] AA ss ss.heap H locs (wW cA a σ) := G
      refine lv_if_ne (tgt := 33) hx hb d_W_refusalOf_28 (by decide) (fun c_62 => ?_) (fun c_62 => ?_)
      · refine lv_iload_n hx hb d_W_refusalOf_33 rfl (lv_at hl 2 rfl) ?_
        refine lv_iconst (v := 5) hx hb d_W_refusalOf_34 (by decide) ?_
        refine lv_icmp_eq (tgt := 44) hx hb d_W_refusalOf_35 (by decide) (fun c_63 => ?_) (fun c_63 => ?_)
        · refine lv_iconst (v := 1) hx hb d_W_refusalOf_44 (by decide) ?_
          refine lv_goto (tgt := 49) hx hb d_W_refusalOf_45 (by decide) ?_
          refine lv_istore (lv' := [(5, .int 1), (4, .ref (a 7)), (0, .ref (a 0)), (1, .int f), (2, .int a1), (3, .int n)]) hx hb d_W_refusalOf_49 hl (by decide) rfl (fun ls hl => ?_)
          refine lv_iload hx hb d_W_refusalOf_51 (lv_at hl 0 rfl) ?_
          have k_64 : ¬ ((1 : Int32) = 0) := by decide
          refine lv_if_eq (tgt := 60) hx hb d_W_refusalOf_53 (by decide) (fun h9 => absurd h9 k_64) (fun _ => ?_)
          refine lv_iload_n hx hb d_W_refusalOf_56 rfl (lv_at hl 4 rfl) ?_
          refine lv_goto (tgt := 65) hx hb d_W_refusalOf_57 (by decide) ?_
          refine lv_istore (lv' := [(6, .int a1), (5, .int 1), (4, .ref (a 7)), (0, .ref (a 0)), (1, .int f), (2, .int a1), (3, .int n)]) hx hb d_W_refusalOf_65 hl (by decide) rfl (fun ls hl => ?_)
          refine lv_aload hx hb d_W_refusalOf_67 (lv_at hl 2 rfl) ?_
          refine lv_iload_n hx hb d_W_refusalOf_69 rfl (lv_at hl 5 rfl) ?_
          refine g_cVi (rest := []) S G (c_T_has l D cA (a 7) (a 8) 64 (σ 4) 65535 a1) (cwV 1 S.2.2.2.2 ml_W_152 rfl rfl rfl (by decide +kernel) ⟨Nat.le_of_ble_eq_true rfl, Nat.le_of_ble_eq_true rfl⟩) [7, 8] [0, 1, 2, 3, 4, 5, 6, 9, 10, 11, 12, 13] rfl rfl rfl rfl (by decide) 7 rfl rfl rfl hl.1 rfl (Nat.le_of_ble_eq_true rfl) d_W_refusalOf_70 ⟨Nat.le_of_ble_eq_true rfl, Nat.le_of_ble_eq_true rfl⟩ (fun rp_65 wp_65 H locs hp_65 G => ?_)
          obtain ⟨rfl, rfl⟩ := hp_65
          have G := G.sub (ws' := wW cA a σ) [0, 1, 2, 3, 4, 5, 6, 12, 13, 7, 8, 9, 10, 11] rfl (ww_T7 cA a _)
          refine lv_if_eq (tgt := 90) hx hb d_W_refusalOf_73 (by decide) (fun c_66 => ?_) (fun c_66 => ?_)
          · refine lv_iconst (v := 2) hx hb d_W_refusalOf_90 (by decide) ?_
            exact g_reti S hr hlk G ⟨by unfold wRef; rw [hk]; first | rfl | (simp only [wRefK, wRefD, refP, lastP, eq_false c_60, eq_false c_62, eq_true c_63, eq_false k_64, eq_true c_66, ↓reduceIte]; done) | (simp only [wRefK, wRefD, refP, lastP, eq_false c_60, eq_false c_62, eq_true c_63, eq_false k_64, eq_true c_66, ↓reduceIte]; rfl), rfl⟩ (Nat.le_refl _) (Nat.le_refl _) d_W_refusalOf_91
          · refine lv_aload hx hb d_W_refusalOf_76 (lv_at hl 2 rfl) ?_
            refine lv_iload hx hb d_W_refusalOf_78 (lv_at hl 0 rfl) ?_
            refine g_cVi (rest := []) S G (c_T_has l D cA (a 7) (a 8) 64 (σ 4) 65535 a1) (cwV 1 S.2.2.2.2 ml_W_152 rfl rfl rfl (by decide +kernel) ⟨Nat.le_of_ble_eq_true rfl, Nat.le_of_ble_eq_true rfl⟩) [7, 8] [0, 1, 2, 3, 4, 5, 6, 9, 10, 11, 12, 13] rfl rfl rfl rfl (by decide) 7 rfl rfl rfl hl.1 rfl (Nat.le_of_ble_eq_true rfl) d_W_refusalOf_80 ⟨Nat.le_of_ble_eq_true rfl, Nat.le_of_ble_eq_true rfl⟩ (fun rp_67 wp_67 H locs hp_67 G => ?_)
            obtain ⟨rfl, rfl⟩ := hp_67
            have G := G.sub (ws' := wW cA a σ) [0, 1, 2, 3, 4, 5, 6, 12, 13, 7, 8, 9, 10, 11] rfl (ww_T7 cA a _)
            refine lv_if_eq (tgt := 90) hx hb d_W_refusalOf_83 (by decide) (fun h9 => absurd h9 c_66) (fun _ => ?_)
            refine lv_iconst (v := 0) hx hb d_W_refusalOf_86 (by decide) ?_
            refine lv_goto (tgt := 91) hx hb d_W_refusalOf_87 (by decide) ?_
            exact g_reti S hr hlk G ⟨by unfold wRef; rw [hk]; first | rfl | (simp only [wRefK, wRefD, refP, lastP, eq_false c_60, eq_false c_62, eq_true c_63, eq_false k_64, eq_false c_66, ↓reduceIte]; done) | (simp only [wRefK, wRefD, refP, lastP, eq_false c_60, eq_false c_62, eq_true c_63, eq_false k_64, eq_false c_66, ↓reduceIte]; rfl), rfl⟩ (Nat.le_refl _) (Nat.le_refl _) d_W_refusalOf_91
        · refine lv_iload_n hx hb d_W_refusalOf_38 rfl (lv_at hl 2 rfl) ?_
          refine lv_bipush (v := 6) hx hb d_W_refusalOf_39 (by decide) ?_
          refine lv_icmp_ne (tgt := 48) hx hb d_W_refusalOf_41 (by decide) (fun c_68 => ?_) (fun c_68 => ?_)
          · refine lv_iconst (v := 0) hx hb d_W_refusalOf_48 (by decide) ?_
            refine lv_istore (lv' := [(5, .int 0), (4, .ref (a 7)), (0, .ref (a 0)), (1, .int f), (2, .int a1), (3, .int n)]) hx hb d_W_refusalOf_49 hl (by decide) rfl (fun ls hl => ?_)
            refine lv_iload hx hb d_W_refusalOf_51 (lv_at hl 0 rfl) ?_
            have k_69 : (0 : Int32) = 0 := by decide
            refine lv_if_eq (tgt := 60) hx hb d_W_refusalOf_53 (by decide) (fun _ => ?_) (fun h9 => absurd k_69 h9)
            refine lv_iload_n hx hb d_W_refusalOf_60 rfl (lv_at hl 4 rfl) ?_
            refine lv_iload_n hx hb d_W_refusalOf_61 rfl (lv_at hl 5 rfl) ?_
            refine lv_iadd hx hb d_W_refusalOf_62 ?_
            refine lv_iconst (v := 1) hx hb d_W_refusalOf_63 (by decide) ?_
            refine lv_isub hx hb d_W_refusalOf_64 ?_
            refine lv_istore (lv' := [(6, .int ((a1 + n) - 1)), (5, .int 0), (4, .ref (a 7)), (0, .ref (a 0)), (1, .int f), (2, .int a1), (3, .int n)]) hx hb d_W_refusalOf_65 hl (by decide) rfl (fun ls hl => ?_)
            refine lv_aload hx hb d_W_refusalOf_67 (lv_at hl 2 rfl) ?_
            refine lv_iload_n hx hb d_W_refusalOf_69 rfl (lv_at hl 5 rfl) ?_
            refine g_cVi (rest := []) S G (c_T_has l D cA (a 7) (a 8) 64 (σ 4) 65535 a1) (cwV 1 S.2.2.2.2 ml_W_152 rfl rfl rfl (by decide +kernel) ⟨Nat.le_of_ble_eq_true rfl, Nat.le_of_ble_eq_true rfl⟩) [7, 8] [0, 1, 2, 3, 4, 5, 6, 9, 10, 11, 12, 13] rfl rfl rfl rfl (by decide) 7 rfl rfl rfl hl.1 rfl (Nat.le_of_ble_eq_true rfl) d_W_refusalOf_70 ⟨Nat.le_of_ble_eq_true rfl, Nat.le_of_ble_eq_true rfl⟩ (fun rp_70 wp_70 H locs hp_70 G => ?_)
            obtain ⟨rfl, rfl⟩ := hp_70
            have G := G.sub (ws' := wW cA a σ) [0, 1, 2, 3, 4, 5, 6, 12, 13, 7, 8, 9, 10, 11] rfl (ww_T7 cA a _)
            refine lv_if_eq (tgt := 90) hx hb d_W_refusalOf_73 (by decide) (fun c_71 => ?_) (fun c_71 => ?_)
            · refine lv_iconst (v := 2) hx hb d_W_refusalOf_90 (by decide) ?_
              exact g_reti S hr hlk G ⟨by unfold wRef; rw [hk]; first | rfl | (simp only [wRefK, wRefD, refP, lastP, eq_false c_60, eq_false c_62, eq_false c_63, eq_false c_68, eq_true k_69, eq_true c_71, ↓reduceIte]; done) | (simp only [wRefK, wRefD, refP, lastP, eq_false c_60, eq_false c_62, eq_false c_63, eq_false c_68, eq_true k_69, eq_true c_71, ↓reduceIte]; rfl), rfl⟩ (Nat.le_refl _) (Nat.le_refl _) d_W_refusalOf_91
            · refine lv_aload hx hb d_W_refusalOf_76 (lv_at hl 2 rfl) ?_
              refine lv_iload hx hb d_W_refusalOf_78 (lv_at hl 0 rfl) ?_
              refine g_cVi (rest := []) S G (c_T_has l D cA (a 7) (a 8) 64 (σ 4) 65535 ((a1 + n) - 1)) (cwV 1 S.2.2.2.2 ml_W_152 rfl rfl rfl (by decide +kernel) ⟨Nat.le_of_ble_eq_true rfl, Nat.le_of_ble_eq_true rfl⟩) [7, 8] [0, 1, 2, 3, 4, 5, 6, 9, 10, 11, 12, 13] rfl rfl rfl rfl (by decide) 7 rfl rfl rfl hl.1 rfl (Nat.le_of_ble_eq_true rfl) d_W_refusalOf_80 ⟨Nat.le_of_ble_eq_true rfl, Nat.le_of_ble_eq_true rfl⟩ (fun rp_72 wp_72 H locs hp_72 G => ?_)
              obtain ⟨rfl, rfl⟩ := hp_72
              have G := G.sub (ws' := wW cA a σ) [0, 1, 2, 3, 4, 5, 6, 12, 13, 7, 8, 9, 10, 11] rfl (ww_T7 cA a _)
              refine lv_if_eq (tgt := 90) hx hb d_W_refusalOf_83 (by decide) (fun c_73 => ?_) (fun c_73 => ?_)
              · refine lv_iconst (v := 2) hx hb d_W_refusalOf_90 (by decide) ?_
                exact g_reti S hr hlk G ⟨by unfold wRef; rw [hk]; first | rfl | (simp only [wRefK, wRefD, refP, lastP, eq_false c_60, eq_false c_62, eq_false c_63, eq_false c_68, eq_true k_69, eq_false c_71, eq_true c_73, ↓reduceIte]; done) | (simp only [wRefK, wRefD, refP, lastP, eq_false c_60, eq_false c_62, eq_false c_63, eq_false c_68, eq_true k_69, eq_false c_71, eq_true c_73, ↓reduceIte]; rfl), rfl⟩ (Nat.le_refl _) (Nat.le_refl _) d_W_refusalOf_91
              · refine lv_iconst (v := 0) hx hb d_W_refusalOf_86 (by decide) ?_
                refine lv_goto (tgt := 91) hx hb d_W_refusalOf_87 (by decide) ?_
                exact g_reti S hr hlk G ⟨by unfold wRef; rw [hk]; first | rfl | (simp only [wRefK, wRefD, refP, lastP, eq_false c_60, eq_false c_62, eq_false c_63, eq_false c_68, eq_true k_69, eq_false c_71, eq_false c_73, ↓reduceIte]; done) | (simp only [wRefK, wRefD, refP, lastP, eq_false c_60, eq_false c_62, eq_false c_63, eq_false c_68, eq_true k_69, eq_false c_71, eq_false c_73, ↓reduceIte]; rfl), rfl⟩ (Nat.le_refl _) (Nat.le_refl _) d_W_refusalOf_91
          · refine lv_iconst (v := 1) hx hb d_W_refusalOf_44 (by decide) ?_
            refine lv_goto (tgt := 49) hx hb d_W_refusalOf_45 (by decide) ?_
            refine lv_istore (lv' := [(5, .int 1), (4, .ref (a 7)), (0, .ref (a 0)), (1, .int f), (2, .int a1), (3, .int n)]) hx hb d_W_refusalOf_49 hl (by decide) rfl (fun ls hl => ?_)
            refine lv_iload hx hb d_W_refusalOf_51 (lv_at hl 0 rfl) ?_
            have k_74 : ¬ ((1 : Int32) = 0) := by decide
            refine lv_if_eq (tgt := 60) hx hb d_W_refusalOf_53 (by decide) (fun h9 => absurd h9 k_74) (fun _ => ?_)
            refine lv_iload_n hx hb d_W_refusalOf_56 rfl (lv_at hl 4 rfl) ?_
            refine lv_goto (tgt := 65) hx hb d_W_refusalOf_57 (by decide) ?_
            refine lv_istore (lv' := [(6, .int a1), (5, .int 1), (4, .ref (a 7)), (0, .ref (a 0)), (1, .int f), (2, .int a1), (3, .int n)]) hx hb d_W_refusalOf_65 hl (by decide) rfl (fun ls hl => ?_)
            refine lv_aload hx hb d_W_refusalOf_67 (lv_at hl 2 rfl) ?_
            refine lv_iload_n hx hb d_W_refusalOf_69 rfl (lv_at hl 5 rfl) ?_
            refine g_cVi (rest := []) S G (c_T_has l D cA (a 7) (a 8) 64 (σ 4) 65535 a1) (cwV 1 S.2.2.2.2 ml_W_152 rfl rfl rfl (by decide +kernel) ⟨Nat.le_of_ble_eq_true rfl, Nat.le_of_ble_eq_true rfl⟩) [7, 8] [0, 1, 2, 3, 4, 5, 6, 9, 10, 11, 12, 13] rfl rfl rfl rfl (by decide) 7 rfl rfl rfl hl.1 rfl (Nat.le_of_ble_eq_true rfl) d_W_refusalOf_70 ⟨Nat.le_of_ble_eq_true rfl, Nat.le_of_ble_eq_true rfl⟩ (fun rp_75 wp_75 H locs hp_75 G => ?_)
            obtain ⟨rfl, rfl⟩ := hp_75
            have G := G.sub (ws' := wW cA a σ) [0, 1, 2, 3, 4, 5, 6, 12, 13, 7, 8, 9, 10, 11] rfl (ww_T7 cA a _)
            refine lv_if_eq (tgt := 90) hx hb d_W_refusalOf_73 (by decide) (fun c_76 => ?_) (fun c_76 => ?_)
            · refine lv_iconst (v := 2) hx hb d_W_refusalOf_90 (by decide) ?_
              exact g_reti S hr hlk G ⟨by unfold wRef; rw [hk]; first | rfl | (simp only [wRefK, wRefD, refP, lastP, eq_false c_60, eq_false c_62, eq_false c_63, eq_true c_68, eq_false k_74, eq_true c_76, ↓reduceIte]; done) | (simp only [wRefK, wRefD, refP, lastP, eq_false c_60, eq_false c_62, eq_false c_63, eq_true c_68, eq_false k_74, eq_true c_76, ↓reduceIte]; rfl), rfl⟩ (Nat.le_refl _) (Nat.le_refl _) d_W_refusalOf_91
            · refine lv_aload hx hb d_W_refusalOf_76 (lv_at hl 2 rfl) ?_
              refine lv_iload hx hb d_W_refusalOf_78 (lv_at hl 0 rfl) ?_
              refine g_cVi (rest := []) S G (c_T_has l D cA (a 7) (a 8) 64 (σ 4) 65535 a1) (cwV 1 S.2.2.2.2 ml_W_152 rfl rfl rfl (by decide +kernel) ⟨Nat.le_of_ble_eq_true rfl, Nat.le_of_ble_eq_true rfl⟩) [7, 8] [0, 1, 2, 3, 4, 5, 6, 9, 10, 11, 12, 13] rfl rfl rfl rfl (by decide) 7 rfl rfl rfl hl.1 rfl (Nat.le_of_ble_eq_true rfl) d_W_refusalOf_80 ⟨Nat.le_of_ble_eq_true rfl, Nat.le_of_ble_eq_true rfl⟩ (fun rp_77 wp_77 H locs hp_77 G => ?_)
              obtain ⟨rfl, rfl⟩ := hp_77
              have G := G.sub (ws' := wW cA a σ) [0, 1, 2, 3, 4, 5, 6, 12, 13, 7, 8, 9, 10, 11] rfl (ww_T7 cA a _)
              refine lv_if_eq (tgt := 90) hx hb d_W_refusalOf_83 (by decide) (fun h9 => absurd h9 c_76) (fun _ => ?_)
              refine lv_iconst (v := 0) hx hb d_W_refusalOf_86 (by decide) ?_
              refine lv_goto (tgt := 91) hx hb d_W_refusalOf_87 (by decide) ?_
              exact g_reti S hr hlk G ⟨by unfold wRef; rw [hk]; first | rfl | (simp only [wRefK, wRefD, refP, lastP, eq_false c_60, eq_false c_62, eq_false c_63, eq_true c_68, eq_false k_74, eq_false c_76, ↓reduceIte]; done) | (simp only [wRefK, wRefD, refP, lastP, eq_false c_60, eq_false c_62, eq_false c_63, eq_true c_68, eq_false k_74, eq_false c_76, ↓reduceIte]; rfl), rfl⟩ (Nat.le_refl _) (Nat.le_refl _) d_W_refusalOf_91
      · refine lv_iconst (v := 3) hx hb d_W_refusalOf_31 (by decide) ?_
        exact g_reti S hr hlk G ⟨by unfold wRef; rw [hk]; first | rfl | (simp only [wRefK, wRefD, refP, lastP, eq_false c_60, eq_true c_62, ↓reduceIte]; done) | (simp only [wRefK, wRefD, refP, lastP, eq_false c_60, eq_true c_62, ↓reduceIte]; rfl), rfl⟩ (Nat.le_refl _) (Nat.le_refl _) d_W_refusalOf_32
