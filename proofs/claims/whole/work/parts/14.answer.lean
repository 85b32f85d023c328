abbrev rm_W_answerRequest : Room := { frames := 5, cells := 0, slots := 0, locals := 113 }
set_option maxHeartbeats 4000000 in
set_option maxRecDepth 100000 in
theorem c_W_answerRequest (l : Launch) (D : va_G) (cA : ClassId) (a : Nat → Nat) (σ : St)  : Cv l y_W_answerRequest w_W_answerRequest rm_W_answerRequest D vwCl [(cA, .int)] [.ref (a 0)] (wW cA a σ) 0 0 (fun w0 => w0 = wW cA a (wAns σ)) := by
  refine Cv.of (Ts := lw_g) (own := "WireSlave") (cc := b_W_answerRequest) (maxL := 5) (ret := none) (lv := [(0, .ref (a 0))]) (by decide) rfl rfl (fun w h => List.mem_cons_of_mem _ h) (Nat.le_of_ble_eq_true rfl) rfl ?_
  intro pp ee ss mm args below meth cx AA S hr hlk hnm G ls hl
  have hx := S.1
  have hb := S.2.1
  refine lv_aload_n hx hb d_W_answerRequest_0 rfl (lv_at hl 0 rfl) ?_
  refine g_get S G in_W 0 rfl rfl 5 (by decide) fl_W_46 rfl d_W_answerRequest_1 ?_
  refine lv_iconst (v := 1) hx hb d_W_answerRequest_4 (by decide) ?_
  refine g_cVi (rest := []) S G (c_B_at l D cA (a 9) (a 10) 257 (σ 5) (σ 0 3) 1 (by decide)) (cwV 1 S.2.2.2.2 ml_W_79 rfl rfl rfl (by decide +kernel) ⟨Nat.le_of_ble_eq_true rfl, Nat.le_of_ble_eq_true rfl⟩) [9, 10] [0, 1, 2, 3, 4, 5, 6, 7, 8, 11, 12, 13] rfl rfl rfl rfl (by decide) 9 rfl rfl rfl hl.1 rfl (Nat.le_of_ble_eq_true rfl) d_W_answerRequest_5 ⟨Nat.le_of_ble_eq_true rfl, Nat.le_of_ble_eq_true rfl⟩ (fun rp_1 wp_1 H locs hp_1 G => ?_)
  obtain ⟨ep_1, rfl⟩ := hp_1
  have G := G.sub (ws' := wW cA a σ) [0, 1, 2, 3, 4, 5, 6, 7, 8, 12, 13, 9, 10, 11] rfl (ww_B9 cA a _)
  refine lv_istore_n (lv' := [(1, .int rp_1), (0, .ref (a 0))]) hx hb d_W_answerRequest_8 rfl hl (by decide) rfl (fun ls hl => ?_)
  refine lv_aload_n hx hb d_W_answerRequest_9 rfl (lv_at hl 1 rfl) ?_
  refine lv_iconst (v := 0) hx hb d_W_answerRequest_10 (by decide) ?_
  refine g_cVi (rest := []) S G (c_W_dataNumber l D cA a σ 0) (cwV 1 S.2.2.2.2 ml_W_124 rfl rfl rfl (by decide +kernel) ⟨Nat.le_of_ble_eq_true rfl, Nat.le_of_ble_eq_true rfl⟩) [0, 1, 2, 3, 4, 5, 6, 7, 8, 9, 10, 11, 12, 13] [] rfl rfl rfl rfl (by decide) 0 rfl rfl rfl hl.1 rfl (Nat.le_of_ble_eq_true rfl) d_W_answerRequest_11 ⟨Nat.le_of_ble_eq_true rfl, Nat.le_of_ble_eq_true rfl⟩ (fun rp_2 wp_2 H locs hp_2 G => ?_)
  obtain ⟨ep_2, rfl⟩ := hp_2
  have G : Gw D vwCl [(cA, .int)] AA ss ss.heap H locs (wW cA a σ) := G
  refine lv_istore_n (lv' := [(2, .int rp_2), (1, .int rp_1), (0, .ref (a 0))]) hx hb d_W_answerRequest_14 rfl hl (by decide) rfl (fun ls hl => ?_)
  refine lv_aload_n hx hb d_W_answerRequest_15 rfl (lv_at hl 2 rfl) ?_
  refine lv_iconst (v := 2) hx hb d_W_answerRequest_16 (by decide) ?_
  refine g_cVi (rest := []) S G (c_W_dataNumber l D cA a σ 2) (cwV 1 S.2.2.2.2 ml_W_124 rfl rfl rfl (by decide +kernel) ⟨Nat.le_of_ble_eq_true rfl, Nat.le_of_ble_eq_true rfl⟩) [0, 1, 2, 3, 4, 5, 6, 7, 8, 9, 10, 11, 12, 13] [] rfl rfl rfl rfl (by decide) 0 rfl rfl rfl hl.1 rfl (Nat.le_of_ble_eq_true rfl) d_W_answerRequest_17 ⟨Nat.le_of_ble_eq_true rfl, Nat.le_of_ble_eq_true rfl⟩ (fun rp_3 wp_3 H locs hp_3 G => ?_)
  obtain ⟨ep_3, rfl⟩ := hp_3
  have G : Gw D vwCl [(cA, .int)] AA ss ss.heap H locs (wW cA a σ) := G
  refine lv_istore_n (lv' := [(3, .int rp_3), (2, .int rp_2), (1, .int rp_1), (0, .ref (a 0))]) hx hb d_W_answerRequest_20 rfl hl (by decide) rfl (fun ls hl => ?_)
  refine lv_aload_n hx hb d_W_answerRequest_21 rfl (lv_at hl 3 rfl) ?_
  refine lv_iload_n hx hb d_W_answerRequest_22 rfl (lv_at hl 2 rfl) ?_
  refine lv_iload_n hx hb d_W_answerRequest_23 rfl (lv_at hl 1 rfl) ?_
  refine lv_iload_n hx hb d_W_answerRequest_24 rfl (lv_at hl 0 rfl) ?_
  refine g_cVi (rest := []) S G (c_W_refusalOf l D cA a σ rp_1 rp_2 rp_3) (cwV 3 S.2.2.2.2 ml_W_127 rfl rfl rfl (by decide +kernel) ⟨Nat.le_of_ble_eq_true rfl, Nat.le_of_ble_eq_true rfl⟩) [0, 1, 2, 3, 4, 5, 6, 7, 8, 9, 10, 11, 12, 13] [] rfl rfl rfl rfl (by decide) 0 rfl rfl rfl hl.1 rfl (Nat.le_of_ble_eq_true rfl) d_W_answerRequest_25 ⟨Nat.le_of_ble_eq_true rfl, Nat.le_of_ble_eq_true rfl⟩ (fun rp_4 wp_4 H locs hp_4 G => ?_)
  obtain ⟨ep_4, rfl⟩ := hp_4
  have G : Gw D vwCl [(cA, .int)] AA ss ss.heap H locs (wW cA a σ) := G
  refine lv_istore (lv' := [(4, .int rp_4), (3, .int rp_3), (2, .int rp_2), (1, .int rp_1), (0, .ref (a 0))]) hx hb d_W_answerRequest_28 hl (by decide) rfl (fun ls hl => ?_)
  refine lv_aload_n hx hb d_W_answerRequest_30 rfl (lv_at hl 4 rfl) ?_
  refine lv_iload hx hb d_W_answerRequest_31 (lv_at hl 0 rfl) ?_
  refine lv_if_ne (tgt := 40) hx hb d_W_answerRequest_33 (by decide) (fun c_5 => ?_) (fun c_5 => ?_)
  · refine lv_iconst (v := 3) hx hb d_W_answerRequest_40 (by decide) ?_
    refine g_cVv (rest := []) S G (c_W_tally l D cA a σ 3) (cwV 1 S.2.2.2.2 ml_W_101 rfl rfl rfl (by decide +kernel) ⟨Nat.le_of_ble_eq_true rfl, Nat.le_of_ble_eq_true rfl⟩) [0, 1, 2, 3, 4, 5, 6, 7, 8, 9, 10, 11, 12, 13] [] rfl rfl rfl rfl (by decide) 0 rfl rfl rfl hl.1 rfl (Nat.le_of_ble_eq_true rfl) d_W_answerRequest_41 ⟨Nat.le_of_ble_eq_true rfl, Nat.le_of_ble_eq_true rfl⟩ (fun wp_6 H locs hp_6 G => ?_)
    subst hp_6
    have G : Gw D vwCl [(cA, .int)] AA ss ss.heap H locs (wW cA a (wTal σ 3)) := G
    refine lv_iload hx hb d_W_answerRequest_44 (lv_at hl 0 rfl) ?_
    refine lv_if_ne (tgt := 56) hx hb d_W_answerRequest_46 (by decide) (fun _ => ?_) (fun h9 => absurd h9 c_5)
    refine lv_aload_n hx hb d_W_answerRequest_56 rfl (lv_at hl 4 rfl) ?_
    refine g_get S G in_W 0 rfl rfl 5 (by decide) fl_W_46 rfl d_W_answerRequest_57 ?_
    refine lv_iconst (v := 0) hx hb d_W_answerRequest_60 (by decide) ?_
    refine g_cVi (rest := []) S G (c_B_at l D cA (a 9) (a 10) 257 ((wTal σ 3) 5) ((wTal σ 3) 0 3) 0 (by decide)) (cwV 1 S.2.2.2.2 ml_W_79 rfl rfl rfl (by decide +kernel) ⟨Nat.le_of_ble_eq_true rfl, Nat.le_of_ble_eq_true rfl⟩) [9, 10] [0, 1, 2, 3, 4, 5, 6, 7, 8, 11, 12, 13] rfl rfl rfl rfl (by decide) 9 rfl rfl rfl hl.1 rfl (Nat.le_of_ble_eq_true rfl) d_W_answerRequest_61 ⟨Nat.le_of_ble_eq_true rfl, Nat.le_of_ble_eq_true rfl⟩ (fun rp_7 wp_7 H locs hp_7 G => ?_)
    obtain ⟨ep_7, rfl⟩ := hp_7
    have G := G.sub (ws' := wW cA a (wTal σ 3)) [0, 1, 2, 3, 4, 5, 6, 7, 8, 12, 13, 9, 10, 11] rfl (ww_B9 cA a _)
    refine lv_if_ne (tgt := 68) hx hb d_W_answerRequest_64 (by decide) (fun c_8 => ?_) (fun c_8 => ?_)
    · refine lv_aload_n hx hb d_W_answerRequest_68 rfl (lv_at hl 4 rfl) ?_
      refine g_get S G in_W 0 rfl rfl 6 (by decide) fl_W_50 rfl d_W_answerRequest_69 ?_
      refine lv_aload_n hx hb d_W_answerRequest_72 rfl (lv_at hl 4 rfl) ?_
      refine g_get S G in_W 0 rfl rfl 0 (by decide) fl_W_18 rfl d_W_answerRequest_73 ?_
      refine g_cVv (rest := []) S G (c_B_append l D cA (a 11) (a 12) 256 ((wTal σ 3) 6) ((wTal σ 3) 0 4) ((wTal σ 3) 0 0) (by decide)) (cwV 1 S.2.2.2.2 ml_W_95 rfl rfl rfl (by decide +kernel) ⟨Nat.le_of_ble_eq_true rfl, Nat.le_of_ble_eq_true rfl⟩) [11, 12] [0, 1, 2, 3, 4, 5, 6, 7, 8, 9, 10, 13] rfl rfl rfl rfl (by decide) 11 rfl rfl rfl hl.1 rfl (Nat.le_of_ble_eq_true rfl) d_W_answerRequest_76 ⟨Nat.le_of_ble_eq_true rfl, Nat.le_of_ble_eq_true rfl⟩ (fun wp_9 H locs hp_9 G => ?_)
      subst hp_9
      have G := G.sub (ws' := wW cA a (wApA (wTal σ 3) ((wTal σ 3) 0 0))) [0, 1, 2, 3, 4, 5, 6, 7, 8, 9, 10, 12, 13, 11] rfl (ww_aB11 cA a _ _)
      refine lv_iload hx hb d_W_answerRequest_79 (lv_at hl 0 rfl) ?_
      refine lv_if_ne (tgt := 102) hx hb d_W_answerRequest_81 (by decide) (fun _ => ?_) (fun h9 => absurd h9 c_5)
      refine lv_aload_n hx hb d_W_answerRequest_102 rfl (lv_at hl 4 rfl) ?_
      refine g_get S G in_W 0 rfl rfl 6 (by decide) fl_W_50 rfl d_W_answerRequest_103 ?_
      refine lv_iload_n hx hb d_W_answerRequest_106 rfl (lv_at hl 3 rfl) ?_
      refine lv_sipush (v := 128) hx hb d_W_answerRequest_107 (by decide) ?_
      refine lv_ior hx hb d_W_answerRequest_110 ?_
      refine g_cVv (rest := []) S G (c_B_append l D cA (a 11) (a 12) 256 ((wApA (wTal σ 3) ((wTal σ 3) 0 0)) 6) ((wApA (wTal σ 3) ((wTal σ 3) 0 0)) 0 4) (rp_1 ||| 128) (by decide)) (cwV 1 S.2.2.2.2 ml_W_95 rfl rfl rfl (by decide +kernel) ⟨Nat.le_of_ble_eq_true rfl, Nat.le_of_ble_eq_true rfl⟩) [11, 12] [0, 1, 2, 3, 4, 5, 6, 7, 8, 9, 10, 13] rfl rfl rfl rfl (by decide) 11 rfl rfl rfl hl.1 rfl (Nat.le_of_ble_eq_true rfl) d_W_answerRequest_111 ⟨Nat.le_of_ble_eq_true rfl, Nat.le_of_ble_eq_true rfl⟩ (fun wp_10 H locs hp_10 G => ?_)
      subst hp_10
      have G := G.sub (ws' := wW cA a (wApA (wApA (wTal σ 3) ((wTal σ 3) 0 0)) (rp_1 ||| 128))) [0, 1, 2, 3, 4, 5, 6, 7, 8, 9, 10, 12, 13, 11] rfl (ww_aB11 cA a _ _)
      refine lv_aload_n hx hb d_W_answerRequest_114 rfl (lv_at hl 4 rfl) ?_
      refine g_get S G in_W 0 rfl rfl 6 (by decide) fl_W_50 rfl d_W_answerRequest_115 ?_
      refine lv_iload hx hb d_W_answerRequest_118 (lv_at hl 0 rfl) ?_
      refine g_cVv (rest := []) S G (c_B_append l D cA (a 11) (a 12) 256 ((wApA (wApA (wTal σ 3) ((wTal σ 3) 0 0)) (rp_1 ||| 128)) 6) ((wApA (wApA (wTal σ 3) ((wTal σ 3) 0 0)) (rp_1 ||| 128)) 0 4) rp_4 (by decide)) (cwV 1 S.2.2.2.2 ml_W_95 rfl rfl rfl (by decide +kernel) ⟨Nat.le_of_ble_eq_true rfl, Nat.le_of_ble_eq_true rfl⟩) [11, 12] [0, 1, 2, 3, 4, 5, 6, 7, 8, 9, 10, 13] rfl rfl rfl rfl (by decide) 11 rfl rfl rfl hl.1 rfl (Nat.le_of_ble_eq_true rfl) d_W_answerRequest_120 ⟨Nat.le_of_ble_eq_true rfl, Nat.le_of_ble_eq_true rfl⟩ (fun wp_11 H locs hp_11 G => ?_)
      subst hp_11
      have G := G.sub (ws' := wW cA a (wApA (wApA (wApA (wTal σ 3) ((wTal σ 3) 0 0)) (rp_1 ||| 128)) rp_4)) [0, 1, 2, 3, 4, 5, 6, 7, 8, 9, 10, 12, 13, 11] rfl (ww_aB11 cA a _ _)
      refine lv_aload_n hx hb d_W_answerRequest_123 rfl (lv_at hl 4 rfl) ?_
      refine g_get S G in_W 0 rfl rfl 6 (by decide) fl_W_50 rfl d_W_answerRequest_124 ?_
      refine g_cVv (rest := []) S G (c_B_appendItsSum l D cA (a 11) (a 12) 256 ((wApA (wApA (wApA (wTal σ 3) ((wTal σ 3) 0 0)) (rp_1 ||| 128)) rp_4) 6) ((wApA (wApA (wApA (wTal σ 3) ((wTal σ 3) 0 0)) (rp_1 ||| 128)) rp_4) 0 4) (by decide)) (cwV 0 S.2.2.2.2 ml_W_138 rfl rfl rfl (by decide +kernel) ⟨Nat.le_of_ble_eq_true rfl, Nat.le_of_ble_eq_true rfl⟩) [11, 12] [0, 1, 2, 3, 4, 5, 6, 7, 8, 9, 10, 13] rfl rfl rfl rfl (by decide) 11 rfl rfl rfl hl.1 rfl (Nat.le_of_ble_eq_true rfl) d_W_answerRequest_127 ⟨Nat.le_of_ble_eq_true rfl, Nat.le_of_ble_eq_true rfl⟩ (fun wp_12 H locs hp_12 G => ?_)
      subst hp_12
      have G := G.sub (ws' := wW cA a (wApS (wApA (wApA (wApA (wTal σ 3) ((wTal σ 3) 0 0)) (rp_1 ||| 128)) rp_4))) [0, 1, 2, 3, 4, 5, 6, 7, 8, 9, 10, 12, 13, 11] rfl (ww_zB11 cA a _)
      refine lv_aload_n hx hb d_W_answerRequest_130 rfl (lv_at hl 4 rfl) ?_
      refine lv_iconst (v := 5) hx hb d_W_answerRequest_131 (by decide) ?_
      refine g_cVv (rest := []) S G (c_W_tally l D cA a (wApS (wApA (wApA (wApA (wTal σ 3) ((wTal σ 3) 0 0)) (rp_1 ||| 128)) rp_4)) 5) (cwV 1 S.2.2.2.2 ml_W_101 rfl rfl rfl (by decide +kernel) ⟨Nat.le_of_ble_eq_true rfl, Nat.le_of_ble_eq_true rfl⟩) [0, 1, 2, 3, 4, 5, 6, 7, 8, 9, 10, 11, 12, 13] [] rfl rfl rfl rfl (by decide) 0 rfl rfl rfl hl.1 rfl (Nat.le_of_ble_eq_true rfl) d_W_answerRequest_132 ⟨Nat.le_of_ble_eq_true rfl, Nat.le_of_ble_eq_true rfl⟩ (fun wp_13 H locs hp_13 G => ?_)
      subst hp_13
      have G : Gw D vwCl [(cA, .int)] AA ss ss.heap H locs (wW cA a (wTal (wApS (wApA (wApA (wApA (wTal σ 3) ((wTal σ 3) 0 0)) (rp_1 ||| 128)) rp_4)) 5)) := G
      subst ep_7
      subst ep_4
      subst ep_3
      subst ep_2
      subst ep_1
      exact g_retv S hr hlk G (congrArg (wW cA a) (by first | (simp only [wAns, wAnsG, fAt, eq_false c_5, eq_false c_8, ↓reduceIte]; done) | (with_reducible rfl))) (Nat.le_refl _) (Nat.le_refl _) d_W_answerRequest_135
    · subst ep_7
      subst ep_4
      subst ep_3
      subst ep_2
      subst ep_1
      exact g_retv S hr hlk G (congrArg (wW cA a) (by first | (simp only [wAns, wAnsG, fAt, eq_false c_5, eq_true c_8, ↓reduceIte]; done) | (with_reducible rfl))) (Nat.le_refl _) (Nat.le_refl _) d_W_answerRequest_67
  · refine lv_iconst (v := 4) hx hb d_W_answerRequest_36 (by decide) ?_
    refine lv_goto (tgt := 41) hx hb d_W_answerRequest_37 (by decide) ?_
    refine g_cVv (rest := []) S G (c_W_tally l D cA a σ 4) (cwV 1 S.2.2.2.2 ml_W_101 rfl rfl rfl (by decide +kernel) ⟨Nat.le_of_ble_eq_true rfl, Nat.le_of_ble_eq_true rfl⟩) [0, 1, 2, 3, 4, 5, 6, 7, 8, 9, 10, 11, 12, 13] [] rfl rfl rfl rfl (by decide) 0 rfl rfl rfl hl.1 rfl (Nat.le_of_ble_eq_true rfl) d_W_answerRequest_41 ⟨Nat.le_of_ble_eq_true rfl, Nat.le_of_ble_eq_true rfl⟩ (fun wp_14 H locs hp_14 G => ?_)
    subst hp_14
    have G : Gw D vwCl [(cA, .int)] AA ss ss.heap H locs (wW cA a (wTal σ 4)) := G
    refine lv_iload hx hb d_W_answerRequest_44 (lv_at hl 0 rfl) ?_
    refine lv_if_ne (tgt := 56) hx hb d_W_answerRequest_46 (by decide) (fun h9 => absurd c_5 h9) (fun _ => ?_)
    refine lv_aload_n hx hb d_W_answerRequest_49 rfl (lv_at hl 4 rfl) ?_
    refine lv_iload_n hx hb d_W_answerRequest_50 rfl (lv_at hl 3 rfl) ?_
    refine lv_iload_n hx hb d_W_answerRequest_51 rfl (lv_at hl 2 rfl) ?_
    refine lv_iload_n hx hb d_W_answerRequest_52 rfl (lv_at hl 1 rfl) ?_
    refine g_cVv (rest := []) S G (c_W_carryOut l D cA a (wTal σ 4) rp_1 rp_2 rp_3) (cwV 3 S.2.2.2.2 ml_W_131 rfl rfl rfl (by decide +kernel) ⟨Nat.le_of_ble_eq_true rfl, Nat.le_of_ble_eq_true rfl⟩) [0, 1, 2, 3, 4, 5, 6, 7, 8, 9, 10, 11, 12, 13] [] rfl rfl rfl rfl (by decide) 0 rfl rfl rfl hl.1 rfl (Nat.le_of_ble_eq_true rfl) d_W_answerRequest_53 ⟨Nat.le_of_ble_eq_true rfl, Nat.le_of_ble_eq_true rfl⟩ (fun wp_15 H locs hp_15 G => ?_)
    subst hp_15
    have G : Gw D vwCl [(cA, .int)] AA ss ss.heap H locs (wW cA a (wCar (wTal σ 4) rp_1 rp_2 rp_3)) := G
    refine lv_aload_n hx hb d_W_answerRequest_56 rfl (lv_at hl 4 rfl) ?_
    refine g_get S G in_W 0 rfl rfl 5 (by decide) fl_W_46 rfl d_W_answerRequest_57 ?_
    refine lv_iconst (v := 0) hx hb d_W_answerRequest_60 (by decide) ?_
    refine g_cVi (rest := []) S G (c_B_at l D cA (a 9) (a 10) 257 ((wCar (wTal σ 4) rp_1 rp_2 rp_3) 5) ((wCar (wTal σ 4) rp_1 rp_2 rp_3) 0 3) 0 (by decide)) (cwV 1 S.2.2.2.2 ml_W_79 rfl rfl rfl (by decide +kernel) ⟨Nat.le_of_ble_eq_true rfl, Nat.le_of_ble_eq_true rfl⟩) [9, 10] [0, 1, 2, 3, 4, 5, 6, 7, 8, 11, 12, 13] rfl rfl rfl rfl (by decide) 9 rfl rfl rfl hl.1 rfl (Nat.le_of_ble_eq_true rfl) d_W_answerRequest_61 ⟨Nat.le_of_ble_eq_true rfl, Nat.le_of_ble_eq_true rfl⟩ (fun rp_16 wp_16 H locs hp_16 G => ?_)
    obtain ⟨ep_16, rfl⟩ := hp_16
    have G := G.sub (ws' := wW cA a (wCar (wTal σ 4) rp_1 rp_2 rp_3)) [0, 1, 2, 3, 4, 5, 6, 7, 8, 12, 13, 9, 10, 11] rfl (ww_B9 cA a _)
    refine lv_if_ne (tgt := 68) hx hb d_W_answerRequest_64 (by decide) (fun c_17 => ?_) (fun c_17 => ?_)
    · refine lv_aload_n hx hb d_W_answerRequest_68 rfl (lv_at hl 4 rfl) ?_
      refine g_get S G in_W 0 rfl rfl 6 (by decide) fl_W_50 rfl d_W_answerRequest_69 ?_
      refine lv_aload_n hx hb d_W_answerRequest_72 rfl (lv_at hl 4 rfl) ?_
      refine g_get S G in_W 0 rfl rfl 0 (by decide) fl_W_18 rfl d_W_answerRequest_73 ?_
      refine g_cVv (rest := []) S G (c_B_append l D cA (a 11) (a 12) 256 ((wCar (wTal σ 4) rp_1 rp_2 rp_3) 6) ((wCar (wTal σ 4) rp_1 rp_2 rp_3) 0 4) ((wCar (wTal σ 4) rp_1 rp_2 rp_3) 0 0) (by decide)) (cwV 1 S.2.2.2.2 ml_W_95 rfl rfl rfl (by decide +kernel) ⟨Nat.le_of_ble_eq_true rfl, Nat.le_of_ble_eq_true rfl⟩) [11, 12] [0, 1, 2, 3, 4, 5, 6, 7, 8, 9, 10, 13] rfl rfl rfl rfl (by decide) 11 rfl rfl rfl hl.1 rfl (Nat.le_of_ble_eq_true rfl) d_W_answerRequest_76 ⟨Nat.le_of_ble_eq_true rfl, Nat.le_of_ble_eq_true rfl⟩ (fun wp_18 H locs hp_18 G => ?_)
      subst hp_18
      have G := G.sub (ws' := wW cA a (wApA (wCar (wTal σ 4) rp_1 rp_2 rp_3) ((wCar (wTal σ 4) rp_1 rp_2 rp_3) 0 0))) [0, 1, 2, 3, 4, 5, 6, 7, 8, 9, 10, 12, 13, 11] rfl (ww_aB11 cA a _ _)
      refine lv_iload hx hb d_W_answerRequest_79 (lv_at hl 0 rfl) ?_
      refine lv_if_ne (tgt := 102) hx hb d_W_answerRequest_81 (by decide) (fun h9 => absurd c_5 h9) (fun _ => ?_)
      refine lv_aload_n hx hb d_W_answerRequest_84 rfl (lv_at hl 4 rfl) ?_
      refine g_get S G in_W 0 rfl rfl 6 (by decide) fl_W_50 rfl d_W_answerRequest_85 ?_
      refine lv_iload_n hx hb d_W_answerRequest_88 rfl (lv_at hl 3 rfl) ?_
      refine g_cVv (rest := []) S G (c_B_append l D cA (a 11) (a 12) 256 ((wApA (wCar (wTal σ 4) rp_1 rp_2 rp_3) ((wCar (wTal σ 4) rp_1 rp_2 rp_3) 0 0)) 6) ((wApA (wCar (wTal σ 4) rp_1 rp_2 rp_3) ((wCar (wTal σ 4) rp_1 rp_2 rp_3) 0 0)) 0 4) rp_1 (by decide)) (cwV 1 S.2.2.2.2 ml_W_95 rfl rfl rfl (by decide +kernel) ⟨Nat.le_of_ble_eq_true rfl, Nat.le_of_ble_eq_true rfl⟩) [11, 12] [0, 1, 2, 3, 4, 5, 6, 7, 8, 9, 10, 13] rfl rfl rfl rfl (by decide) 11 rfl rfl rfl hl.1 rfl (Nat.le_of_ble_eq_true rfl) d_W_answerRequest_89 ⟨Nat.le_of_ble_eq_true rfl, Nat.le_of_ble_eq_true rfl⟩ (fun wp_19 H locs hp_19 G => ?_)
      subst hp_19
      have G := G.sub (ws' := wW cA a (wApA (wApA (wCar (wTal σ 4) rp_1 rp_2 rp_3) ((wCar (wTal σ 4) rp_1 rp_2 rp_3) 0 0)) rp_1)) [0, 1, 2, 3, 4, 5, 6, 7, 8, 9, 10, 12, 13, 11] rfl (ww_aB11 cA a _ _)
      refine lv_aload_n hx hb d_W_answerRequest_92 rfl (lv_at hl 4 rfl) ?_
      refine lv_iload_n hx hb d_W_answerRequest_93 rfl (lv_at hl 3 rfl) ?_
      refine lv_iload_n hx hb d_W_answerRequest_94 rfl (lv_at hl 2 rfl) ?_
      refine lv_iload_n hx hb d_W_answerRequest_95 rfl (lv_at hl 1 rfl) ?_
      refine g_cVv (rest := []) S G (c_W_appendResult l D cA a (wApA (wApA (wCar (wTal σ 4) rp_1 rp_2 rp_3) ((wCar (wTal σ 4) rp_1 rp_2 rp_3) 0 0)) rp_1) rp_1 rp_2 rp_3 (fun hf => wRef_bound (ep_4.symm.trans c_5) hf)) (cwV 3 S.2.2.2.2 ml_W_135 rfl rfl rfl (by decide +kernel) ⟨Nat.le_of_ble_eq_true rfl, Nat.le_of_ble_eq_true rfl⟩) [0, 1, 2, 3, 4, 5, 6, 7, 8, 9, 10, 11, 12, 13] [] rfl rfl rfl rfl (by decide) 0 rfl rfl rfl hl.1 rfl (Nat.le_of_ble_eq_true rfl) d_W_answerRequest_96 ⟨Nat.le_of_ble_eq_true rfl, Nat.le_of_ble_eq_true rfl⟩ (fun wp_20 H locs hp_20 G => ?_)
      subst hp_20
      have G : Gw D vwCl [(cA, .int)] AA ss ss.heap H locs (wW cA a (wRes (wApA (wApA (wCar (wTal σ 4) rp_1 rp_2 rp_3) ((wCar (wTal σ 4) rp_1 rp_2 rp_3) 0 0)) rp_1) rp_1 rp_2 rp_3)) := G
      refine lv_goto (tgt := 123) hx hb d_W_answerRequest_99 (by decide) ?_
      refine lv_aload_n hx hb d_W_answerRequest_123 rfl (lv_at hl 4 rfl) ?_
      refine g_get S G in_W 0 rfl rfl 6 (by decide) fl_W_50 rfl d_W_answerRequest_124 ?_
      refine g_cVv (rest := []) S G (c_B_appendItsSum l D cA (a 11) (a 12) 256 ((wRes (wApA (wApA (wCar (wTal σ 4) rp_1 rp_2 rp_3) ((wCar (wTal σ 4) rp_1 rp_2 rp_3) 0 0)) rp_1) rp_1 rp_2 rp_3) 6) ((wRes (wApA (wApA (wCar (wTal σ 4) rp_1 rp_2 rp_3) ((wCar (wTal σ 4) rp_1 rp_2 rp_3) 0 0)) rp_1) rp_1 rp_2 rp_3) 0 4) (by decide)) (cwV 0 S.2.2.2.2 ml_W_138 rfl rfl rfl (by decide +kernel) ⟨Nat.le_of_ble_eq_true rfl, Nat.le_of_ble_eq_true rfl⟩) [11, 12] [0, 1, 2, 3, 4, 5, 6, 7, 8, 9, 10, 13] rfl rfl rfl rfl (by decide) 11 rfl rfl rfl hl.1 rfl (Nat.le_of_ble_eq_true rfl) d_W_answerRequest_127 ⟨Nat.le_of_ble_eq_true rfl, Nat.le_of_ble_eq_true rfl⟩ (fun wp_21 H locs hp_21 G => ?_)
      subst hp_21
      have G := G.sub (ws' := wW cA a (wApS (wRes (wApA (wApA (wCar (wTal σ 4) rp_1 rp_2 rp_3) ((wCar (wTal σ 4) rp_1 rp_2 rp_3) 0 0)) rp_1) rp_1 rp_2 rp_3))) [0, 1, 2, 3, 4, 5, 6, 7, 8, 9, 10, 12, 13, 11] rfl (ww_zB11 cA a _)
      refine lv_aload_n hx hb d_W_answerRequest_130 rfl (lv_at hl 4 rfl) ?_
      refine lv_iconst (v := 5) hx hb d_W_answerRequest_131 (by decide) ?_
      refine g_cVv (rest := []) S G (c_W_tally l D cA a (wApS (wRes (wApA (wApA (wCar (wTal σ 4) rp_1 rp_2 rp_3) ((wCar (wTal σ 4) rp_1 rp_2 rp_3) 0 0)) rp_1) rp_1 rp_2 rp_3)) 5) (cwV 1 S.2.2.2.2 ml_W_101 rfl rfl rfl (by decide +kernel) ⟨Nat.le_of_ble_eq_true rfl, Nat.le_of_ble_eq_true rfl⟩) [0, 1, 2, 3, 4, 5, 6, 7, 8, 9, 10, 11, 12, 13] [] rfl rfl rfl rfl (by decide) 0 rfl rfl rfl hl.1 rfl (Nat.le_of_ble_eq_true rfl) d_W_answerRequest_132 ⟨Nat.le_of_ble_eq_true rfl, Nat.le_of_ble_eq_true rfl⟩ (fun wp_22 H locs hp_22 G => ?_)
      subst hp_22
      have G : Gw D vwCl [(cA, .int)] AA ss ss.heap H locs (wW cA a (wTal (wApS (wRes (wApA (wApA (wCar (wTal σ 4) rp_1 rp_2 rp_3) ((wCar (wTal σ 4) rp_1 rp_2 rp_3) 0 0)) rp_1) rp_1 rp_2 rp_3)) 5)) := G
      subst ep_16
      subst ep_4
      subst ep_3
      subst ep_2
      subst ep_1
      exact g_retv S hr hlk G (congrArg (wW cA a) (by first | (simp only [wAns, wAnsG, fAt, eq_true c_5, eq_false c_17, ↓reduceIte]; done) | (with_reducible rfl))) (Nat.le_refl _) (Nat.le_refl _) d_W_answerRequest_135
    · subst ep_16
      subst ep_4
      subst ep_3
      subst ep_2
      subst ep_1
      exact g_retv S hr hlk G (congrArg (wW cA a) (by first | (simp only [wAns, wAnsG, fAt, eq_true c_5, eq_true c_17, ↓reduceIte]; done) | (with_reducible rfl))) (Nat.le_refl _) (Nat.le_refl _) d_W_answerRequest_67

abbrev rm_W_endFrame : Room := { frames := 6, cells := 0, slots := 0, locals := 137 }
set_option maxHeartbeats 4000000 in
set_option maxRecDepth 100000 in
theorem c_W_endFrame (l : Launch) (D : va_G) (cA : ClassId) (a : Nat → Nat) (σ : St)  : Cv l y_W_endFrame w_W_endFrame rm_W_endFrame D vwCl [(cA, .int)] [.ref (a 0)] (wW cA a σ) 0 0 (fun w0 => w0 = wW cA a (wEnd σ)) := by
  refine Cv.of (Ts := lw_g) (own := "WireSlave") (cc := b_W_endFrame) (maxL := 1) (ret := none) (lv := [(0, .ref (a 0))]) (by decide) rfl rfl (fun w h => List.mem_cons_of_mem _ h) (Nat.le_of_ble_eq_true rfl) rfl ?_
  intro pp ee ss mm args below meth cx AA S hr hlk hnm G ls hl
  have hx := S.1
  have hb := S.2.1
  refine lv_aload_n hx hb d_W_endFrame_0 rfl (lv_at hl 0 rfl) ?_
  refine g_get S G in_W 0 rfl rfl 6 (by decide) fl_W_50 rfl d_W_endFrame_1 ?_
  refine g_cVv (rest := []) S G (c_B_clear l D cA (a 11) (a 12) 256 (σ 6) (σ 0 4)) (cwV 0 S.2.2.2.2 ml_W_98 rfl rfl rfl (by decide +kernel) ⟨Nat.le_of_ble_eq_true rfl, Nat.le_of_ble_eq_true rfl⟩) [11, 12] [0, 1, 2, 3, 4, 5, 6, 7, 8, 9, 10, 13] rfl rfl rfl rfl (by decide) 11 rfl rfl rfl hl.1 rfl (Nat.le_of_ble_eq_true rfl) d_W_endFrame_4 ⟨Nat.le_of_ble_eq_true rfl, Nat.le_of_ble_eq_true rfl⟩ (fun wp_1 H locs hp_1 G => ?_)
  subst hp_1
  have G := G.sub (ws' := wW cA a (sU σ 0 4 0)) [0, 1, 2, 3, 4, 5, 6, 7, 8, 9, 10, 12, 13, 11] rfl (ww_cB11 cA a _)
  refine lv_aload_n hx hb d_W_endFrame_7 rfl (lv_at hl 0 rfl) ?_
  refine lv_iconst (v := 0) hx hb d_W_endFrame_8 (by decide) ?_
  refine g_cVv (rest := []) S G (c_W_tally l D cA a (sU σ 0 4 0) 0) (cwV 1 S.2.2.2.2 ml_W_101 rfl rfl rfl (by decide +kernel) ⟨Nat.le_of_ble_eq_true rfl, Nat.le_of_ble_eq_true rfl⟩) [0, 1, 2, 3, 4, 5, 6, 7, 8, 9, 10, 11, 12, 13] [] rfl rfl rfl rfl (by decide) 0 rfl rfl rfl hl.1 rfl (Nat.le_of_ble_eq_true rfl) d_W_endFrame_9 ⟨Nat.le_of_ble_eq_true rfl, Nat.le_of_ble_eq_true rfl⟩ (fun wp_2 H locs hp_2 G => ?_)
  subst hp_2
  have G : Gw D vwCl [(cA, .int)] AA ss ss.heap H locs (wW cA a (wTal (sU σ 0 4 0) 0)) := G
  refine lv_aload_n hx hb d_W_endFrame_12 rfl (lv_at hl 0 rfl) ?_
  refine g_cVi (rest := []) S G (c_W_isThrownAway l D cA a (wTal (sU σ 0 4 0) 0)) (cwV 0 S.2.2.2.2 ml_W_104 rfl rfl rfl (by decide +kernel) ⟨Nat.le_of_ble_eq_true rfl, Nat.le_of_ble_eq_true rfl⟩) [0, 1, 2, 3, 4, 5, 6, 7, 8, 9, 10, 11, 12, 13] [] rfl rfl rfl rfl (by decide) 0 rfl rfl rfl hl.1 rfl (Nat.le_of_ble_eq_true rfl) d_W_endFrame_13 ⟨Nat.le_of_ble_eq_true rfl, Nat.le_of_ble_eq_true rfl⟩ (fun rp_3 wp_3 H locs hp_3 G => ?_)
  obtain ⟨rfl, rfl⟩ := hp_3
  have G : Gw D vwCl [(cA, .int)] AA ss ss.heap H locs (wW cA a (wTal (sU σ 0 4 0) 0)) := G
  refine lv_if_eq (tgt := 27) hx hb d_W_endFrame_16 (by decide) (fun c_4 => ?_) (fun c_4 => ?_)
  · refine lv_aload_n hx hb d_W_endFrame_27 rfl (lv_at hl 0 rfl) ?_
    refine g_cVi (rest := []) S G (c_W_isForOthers l D cA a (wTal (sU σ 0 4 0) 0)) (cwV 0 S.2.2.2.2 ml_W_108 rfl rfl rfl (by decide +kernel) ⟨Nat.le_of_ble_eq_true rfl, Nat.le_of_ble_eq_true rfl⟩) [0, 1, 2, 3, 4, 5, 6, 7, 8, 9, 10, 11, 12, 13] [] rfl rfl rfl rfl (by decide) 0 rfl rfl rfl hl.1 rfl (Nat.le_of_ble_eq_true rfl) d_W_endFrame_28 ⟨Nat.le_of_ble_eq_true rfl, Nat.le_of_ble_eq_true rfl⟩ (fun rp_5 wp_5 H locs hp_5 G => ?_)
    obtain ⟨rfl, rfl⟩ := hp_5
    have G : Gw D vwCl [(cA, .int)] AA ss ss.heap H locs (wW cA a (wTal (sU σ 0 4 0) 0)) := G
    refine lv_if_eq (tgt := 42) hx hb d_W_endFrame_31 (by decide) (fun c_6 => ?_) (fun c_6 => ?_)
    · refine lv_aload_n hx hb d_W_endFrame_42 rfl (lv_at hl 0 rfl) ?_
      refine g_cVv (rest := []) S G (c_W_answerRequest l D cA a (wTal (sU σ 0 4 0) 0)) (cwV 0 S.2.2.2.2 ml_W_111 rfl rfl rfl (by decide +kernel) ⟨Nat.le_of_ble_eq_true rfl, Nat.le_of_ble_eq_true rfl⟩) [0, 1, 2, 3, 4, 5, 6, 7, 8, 9, 10, 11, 12, 13] [] rfl rfl rfl rfl (by decide) 0 rfl rfl rfl hl.1 rfl (Nat.le_of_ble_eq_true rfl) d_W_endFrame_43 ⟨Nat.le_of_ble_eq_true rfl, Nat.le_of_ble_eq_true rfl⟩ (fun wp_7 H locs hp_7 G => ?_)
      subst hp_7
      have G : Gw D vwCl [(cA, .int)] AA ss ss.heap H locs (wW cA a (wAns (wTal (sU σ 0 4 0) 0))) := G
      refine lv_aload_n hx hb d_W_endFrame_46 rfl (lv_at hl 0 rfl) ?_
      refine g_get S G in_W 0 rfl rfl 5 (by decide) fl_W_46 rfl d_W_endFrame_47 ?_
      refine g_cVv (rest := []) S G (c_B_clear l D cA (a 9) (a 10) 257 ((wAns (wTal (sU σ 0 4 0) 0)) 5) ((wAns (wTal (sU σ 0 4 0) 0)) 0 3)) (cwV 0 S.2.2.2.2 ml_W_98 rfl rfl rfl (by decide +kernel) ⟨Nat.le_of_ble_eq_true rfl, Nat.le_of_ble_eq_true rfl⟩) [9, 10] [0, 1, 2, 3, 4, 5, 6, 7, 8, 11, 12, 13] rfl rfl rfl rfl (by decide) 9 rfl rfl rfl hl.1 rfl (Nat.le_of_ble_eq_true rfl) d_W_endFrame_50 ⟨Nat.le_of_ble_eq_true rfl, Nat.le_of_ble_eq_true rfl⟩ (fun wp_8 H locs hp_8 G => ?_)
      subst hp_8
      have G := G.sub (ws' := wW cA a (sU (wAns (wTal (sU σ 0 4 0) 0)) 0 3 0)) [0, 1, 2, 3, 4, 5, 6, 7, 8, 12, 13, 9, 10, 11] rfl (ww_cB9 cA a _)
      refine lv_aload_n hx hb d_W_endFrame_53 rfl (lv_at hl 0 rfl) ?_
      refine lv_iconst (v := 0) hx hb d_W_endFrame_54 (by decide) ?_
      refine g_put S G in_W ft_W tok_W nm_W 0 rfl rfl 9 (by decide) fl_W_60 rfl rfl rfl (Nat.le_of_ble_eq_true rfl) (wW cA a (sU (sU (wAns (wTal (sU σ 0 4 0) 0)) 0 3 0) 0 2 0)) (ww_pspoilt cA a _ _) d_W_endFrame_55 (fun H locs G => ?_)
      exact g_retv S hr hlk G (congrArg (wW cA a) (by first | (simp only [wEnd, wEndB, eq_true c_4, eq_true c_6, ↓reduceIte]; done) | (with_reducible rfl))) (Nat.le_refl _) (Nat.le_refl _) d_W_endFrame_58
    · refine lv_aload_n hx hb d_W_endFrame_34 rfl (lv_at hl 0 rfl) ?_
      refine lv_iconst (v := 2) hx hb d_W_endFrame_35 (by decide) ?_
      refine g_cVv (rest := []) S G (c_W_tally l D cA a (wTal (sU σ 0 4 0) 0) 2) (cwV 1 S.2.2.2.2 ml_W_101 rfl rfl rfl (by decide +kernel) ⟨Nat.le_of_ble_eq_true rfl, Nat.le_of_ble_eq_true rfl⟩) [0, 1, 2, 3, 4, 5, 6, 7, 8, 9, 10, 11, 12, 13] [] rfl rfl rfl rfl (by decide) 0 rfl rfl rfl hl.1 rfl (Nat.le_of_ble_eq_true rfl) d_W_endFrame_36 ⟨Nat.le_of_ble_eq_true rfl, Nat.le_of_ble_eq_true rfl⟩ (fun wp_9 H locs hp_9 G => ?_)
      subst hp_9
      have G : Gw D vwCl [(cA, .int)] AA ss ss.heap H locs (wW cA a (wTal (wTal (sU σ 0 4 0) 0) 2)) := G
      refine lv_goto (tgt := 46) hx hb d_W_endFrame_39 (by decide) ?_
      refine lv_aload_n hx hb d_W_endFrame_46 rfl (lv_at hl 0 rfl) ?_
      refine g_get S G in_W 0 rfl rfl 5 (by decide) fl_W_46 rfl d_W_endFrame_47 ?_
      refine g_cVv (rest := []) S G (c_B_clear l D cA (a 9) (a 10) 257 ((wTal (wTal (sU σ 0 4 0) 0) 2) 5) ((wTal (wTal (sU σ 0 4 0) 0) 2) 0 3)) (cwV 0 S.2.2.2.2 ml_W_98 rfl rfl rfl (by decide +kernel) ⟨Nat.le_of_ble_eq_true rfl, Nat.le_of_ble_eq_true rfl⟩) [9, 10] [0, 1, 2, 3, 4, 5, 6, 7, 8, 11, 12, 13] rfl rfl rfl rfl (by decide) 9 rfl rfl rfl hl.1 rfl (Nat.le_of_ble_eq_true rfl) d_W_endFrame_50 ⟨Nat.le_of_ble_eq_true rfl, Nat.le_of_ble_eq_true rfl⟩ (fun wp_10 H locs hp_10 G => ?_)
      subst hp_10
      have G := G.sub (ws' := wW cA a (sU (wTal (wTal (sU σ 0 4 0) 0) 2) 0 3 0)) [0, 1, 2, 3, 4, 5, 6, 7, 8, 12, 13, 9, 10, 11] rfl (ww_cB9 cA a _)
      refine lv_aload_n hx hb d_W_endFrame_53 rfl (lv_at hl 0 rfl) ?_
      refine lv_iconst (v := 0) hx hb d_W_endFrame_54 (by decide) ?_
      refine g_put S G in_W ft_W tok_W nm_W 0 rfl rfl 9 (by decide) fl_W_60 rfl rfl rfl (Nat.le_of_ble_eq_true rfl) (wW cA a (sU (sU (wTal (wTal (sU σ 0 4 0) 0) 2) 0 3 0) 0 2 0)) (ww_pspoilt cA a _ _) d_W_endFrame_55 (fun H locs G => ?_)
      exact g_retv S hr hlk G (congrArg (wW cA a) (by first | (simp only [wEnd, wEndB, eq_true c_4, eq_false c_6, ↓reduceIte]; done) | (with_reducible rfl))) (Nat.le_refl _) (Nat.le_refl _) d_W_endFrame_58
  · refine lv_aload_n hx hb d_W_endFrame_19 rfl (lv_at hl 0 rfl) ?_
    refine lv_iconst (v := 1) hx hb d_W_endFrame_20 (by decide) ?_
    refine g_cVv (rest := []) S G (c_W_tally l D cA a (wTal (sU σ 0 4 0) 0) 1) (cwV 1 S.2.2.2.2 ml_W_101 rfl rfl rfl (by decide +kernel) ⟨Nat.le_of_ble_eq_true rfl, Nat.le_of_ble_eq_true rfl⟩) [0, 1, 2, 3, 4, 5, 6, 7, 8, 9, 10, 11, 12, 13] [] rfl rfl rfl rfl (by decide) 0 rfl rfl rfl hl.1 rfl (Nat.le_of_ble_eq_true rfl) d_W_endFrame_21 ⟨Nat.le_of_ble_eq_true rfl, Nat.le_of_ble_eq_true rfl⟩ (fun wp_11 H locs hp_11 G => ?_)
    subst hp_11
    have G : Gw D vwCl [(cA, .int)] AA ss ss.heap H locs (wW cA a (wTal (wTal (sU σ 0 4 0) 0) 1)) := G
    refine lv_goto (tgt := 46) hx hb d_W_endFrame_24 (by decide) ?_
    refine lv_aload_n hx hb d_W_endFrame_46 rfl (lv_at hl 0 rfl) ?_
    refine g_get S G in_W 0 rfl rfl 5 (by decide) fl_W_46 rfl d_W_endFrame_47 ?_
    refine g_cVv (rest := []) S G (c_B_clear l D cA (a 9) (a 10) 257 ((wTal (wTal (sU σ 0 4 0) 0) 1) 5) ((wTal (wTal (sU σ 0 4 0) 0) 1) 0 3)) (cwV 0 S.2.2.2.2 ml_W_98 rfl rfl rfl (by decide +kernel) ⟨Nat.le_of_ble_eq_true rfl, Nat.le_of_ble_eq_true rfl⟩) [9, 10] [0, 1, 2, 3, 4, 5, 6, 7, 8, 11, 12, 13] rfl rfl rfl rfl (by decide) 9 rfl rfl rfl hl.1 rfl (Nat.le_of_ble_eq_true rfl) d_W_endFrame_50 ⟨Nat.le_of_ble_eq_true rfl, Nat.le_of_ble_eq_true rfl⟩ (fun wp_12 H locs hp_12 G => ?_)
    subst hp_12
    have G := G.sub (ws' := wW cA a (sU (wTal (wTal (sU σ 0 4 0) 0) 1) 0 3 0)) [0, 1, 2, 3, 4, 5, 6, 7, 8, 12, 13, 9, 10, 11] rfl (ww_cB9 cA a _)
    refine lv_aload_n hx hb d_W_endFrame_53 rfl (lv_at hl 0 rfl) ?_
    refine lv_iconst (v := 0) hx hb d_W_endFrame_54 (by decide) ?_
    refine g_put S G in_W ft_W tok_W nm_W 0 rfl rfl 9 (by decide) fl_W_60 rfl rfl rfl (Nat.le_of_ble_eq_true rfl) (wW cA a (sU (sU (wTal (wTal (sU σ 0 4 0) 0) 1) 0 3 0) 0 2 0)) (ww_pspoilt cA a _ _) d_W_endFrame_55 (fun H locs G => ?_)
    exact g_retv S hr hlk G (congrArg (wW cA a) (by first | (simp only [wEnd, wEndB, eq_false c_4, ↓reduceIte]; done) | (with_reducible rfl))) (Nat.le_refl _) (Nat.le_refl _) d_W_endFrame_58

abbrev rm_W_rest : Room := { frames := 7, cells := 0, slots := 0, locals := 157 }
set_option maxHeartbeats 4000000 in
set_option maxRecDepth 100000 in
theorem c_W_rest (l : Launch) (D : va_G) (cA : ClassId) (a : Nat → Nat) (σ : St) (q : Int32)  : Ci l y_W_rest w_W_rest rm_W_rest D vwCl [(cA, .int)] [.ref (a 0), .int q] (wW cA a σ) 0 0 (fun r0 w0 => r0 = wRestR σ q ∧ w0 = wW cA a (wRest σ q)) := by
  refine Ci.of (Ts := lw_g) (own := "WireSlave") (cc := b_W_rest) (maxL := 2) (ret := (some .int)) (lv := [(0, .ref (a 0)), (1, .int q)]) (by decide) rfl rfl (fun w h => List.mem_cons_of_mem _ h) (Nat.le_of_ble_eq_true rfl) rfl ?_
  intro pp ee ss mm args below meth cx AA S hr hlk G ls hl
  have hx := S.1
  have hb := S.2.1
  refine lv_iload_n hx hb d_W_rest_0 rfl (lv_at hl 1 rfl) ?_
  refine lv_if_lt (tgt := 11) hx hb d_W_rest_1 (by decide) (fun c_1 => ?_) (fun c_1 => ?_)
  · refine lv_iconst (v := (-1)) hx hb d_W_rest_11 (by decide) ?_
    exact g_reti S hr hlk G ⟨by first | (simp only [wRestR, wRest, wRestS, eq_true c_1, ↓reduceIte]; done) | (with_reducible rfl), congrArg (wW cA a) (by first | (simp only [wRestR, wRest, wRestS, eq_true c_1, ↓reduceIte]; done) | (with_reducible rfl))⟩ (Nat.le_refl _) (Nat.le_refl _) d_W_rest_12
  · refine lv_iload_n hx hb d_W_rest_4 rfl (lv_at hl 1 rfl) ?_
    refine lv_sipush (v := 1000) hx hb d_W_rest_5 (by decide) ?_
    refine lv_icmp_le (tgt := 13) hx hb d_W_rest_8 (by decide) (fun c_2 => ?_) (fun c_2 => ?_)
    · refine lv_aload_n hx hb d_W_rest_13 rfl (lv_at hl 0 rfl) ?_
      refine g_get S G in_W 0 rfl rfl 5 (by decide) fl_W_46 rfl d_W_rest_14 ?_
      refine g_cVi (rest := []) S G (c_B_size l D cA (a 9) (a 10) 257 (σ 5) (σ 0 3)) (cwV 0 S.2.2.2.2 ml_W_68 rfl rfl rfl (by decide +kernel) ⟨Nat.le_of_ble_eq_true rfl, Nat.le_of_ble_eq_true rfl⟩) [9, 10] [0, 1, 2, 3, 4, 5, 6, 7, 8, 11, 12, 13] rfl rfl rfl rfl (by decide) 9 rfl rfl rfl hl.1 rfl (Nat.le_of_ble_eq_true rfl) d_W_rest_17 ⟨Nat.le_of_ble_eq_true rfl, Nat.le_of_ble_eq_true rfl⟩ (fun rp_3 wp_3 H locs hp_3 G => ?_)
      obtain ⟨rfl, rfl⟩ := hp_3
      have G := G.sub (ws' := wW cA a σ) [0, 1, 2, 3, 4, 5, 6, 7, 8, 12, 13, 9, 10, 11] rfl (ww_B9 cA a _)
      refine lv_if_ne (tgt := 26) hx hb d_W_rest_20 (by decide) (fun c_4 => ?_) (fun c_4 => ?_)
      · refine lv_aload_n hx hb d_W_rest_26 rfl (lv_at hl 0 rfl) ?_
        refine lv_dup hx hb d_W_rest_27 rfl ?_
        refine g_get S G in_W 0 rfl rfl 8 (by decide) fl_W_57 rfl d_W_rest_28 ?_
        refine lv_iload_n hx hb d_W_rest_31 rfl (lv_at hl 1 rfl) ?_
        refine lv_iadd hx hb d_W_rest_32 ?_
        refine g_put S G in_W ft_W tok_W nm_W 0 rfl rfl 8 (by decide) fl_W_57 rfl rfl rfl (Nat.le_of_ble_eq_true rfl) (wW cA a (sU σ 0 1 ((σ 0 1) + q))) (ww_pgap cA a _ _) d_W_rest_33 (fun H locs G => ?_)
        refine lv_aload_n hx hb d_W_rest_36 rfl (lv_at hl 0 rfl) ?_
        refine g_get S G in_W 0 rfl rfl 8 (by decide) fl_W_57 rfl d_W_rest_37 ?_
        refine lv_bipush (v := 14) hx hb d_W_rest_40 (by decide) ?_
        refine lv_icmp_ge (tgt := 48) hx hb d_W_rest_42 (by decide) (fun c_5 => ?_) (fun c_5 => ?_)
        · refine lv_aload_n hx hb d_W_rest_48 rfl (lv_at hl 0 rfl) ?_
          refine g_cVv (rest := []) S G (c_W_endFrame l D cA a (sU σ 0 1 ((σ 0 1) + q))) (cwV 0 S.2.2.2.2 ml_W_76 rfl rfl rfl (by decide +kernel) ⟨Nat.le_of_ble_eq_true rfl, Nat.le_of_ble_eq_true rfl⟩) [0, 1, 2, 3, 4, 5, 6, 7, 8, 9, 10, 11, 12, 13] [] rfl rfl rfl rfl (by decide) 0 rfl rfl rfl hl.1 rfl (Nat.le_of_ble_eq_true rfl) d_W_rest_49 ⟨Nat.le_of_ble_eq_true rfl, Nat.le_of_ble_eq_true rfl⟩ (fun wp_6 H locs hp_6 G => ?_)
          subst hp_6
          have G : Gw D vwCl [(cA, .int)] AA ss ss.heap H locs (wW cA a (wEnd (sU σ 0 1 ((σ 0 1) + q)))) := G
          refine lv_aload_n hx hb d_W_rest_52 rfl (lv_at hl 0 rfl) ?_
          refine g_get S G in_W 0 rfl rfl 6 (by decide) fl_W_50 rfl d_W_rest_53 ?_
          refine g_cVi (rest := []) S G (c_B_size l D cA (a 11) (a 12) 256 ((wEnd (sU σ 0 1 ((σ 0 1) + q))) 6) ((wEnd (sU σ 0 1 ((σ 0 1) + q))) 0 4)) (cwV 0 S.2.2.2.2 ml_W_68 rfl rfl rfl (by decide +kernel) ⟨Nat.le_of_ble_eq_true rfl, Nat.le_of_ble_eq_true rfl⟩) [11, 12] [0, 1, 2, 3, 4, 5, 6, 7, 8, 9, 10, 13] rfl rfl rfl rfl (by decide) 11 rfl rfl rfl hl.1 rfl (Nat.le_of_ble_eq_true rfl) d_W_rest_56 ⟨Nat.le_of_ble_eq_true rfl, Nat.le_of_ble_eq_true rfl⟩ (fun rp_7 wp_7 H locs hp_7 G => ?_)
          obtain ⟨rfl, rfl⟩ := hp_7
          have G := G.sub (ws' := wW cA a (wEnd (sU σ 0 1 ((σ 0 1) + q)))) [0, 1, 2, 3, 4, 5, 6, 7, 8, 9, 10, 12, 13, 11] rfl (ww_B11 cA a _)
          exact g_reti S hr hlk G ⟨by first | (simp only [wRestR, wRest, wRestS, eq_false c_1, eq_true c_2, eq_false c_4, eq_true c_5, ↓reduceIte]; done) | (with_reducible rfl), congrArg (wW cA a) (by first | (simp only [wRestR, wRest, wRestS, eq_false c_1, eq_true c_2, eq_false c_4, eq_true c_5, ↓reduceIte]; done) | (with_reducible rfl))⟩ (Nat.le_refl _) (Nat.le_refl _) d_W_rest_59
        · refine lv_bipush (v := (-2)) hx hb d_W_rest_45 (by decide) ?_
          exact g_reti S hr hlk G ⟨by first | (simp only [wRestR, wRest, wRestS, eq_false c_1, eq_true c_2, eq_false c_4, eq_false c_5, ↓reduceIte]; done) | (with_reducible rfl), congrArg (wW cA a) (by first | (simp only [wRestR, wRest, wRestS, eq_false c_1, eq_true c_2, eq_false c_4, eq_false c_5, ↓reduceIte]; done) | (with_reducible rfl))⟩ (Nat.le_refl _) (Nat.le_refl _) d_W_rest_47
      · refine lv_bipush (v := (-2)) hx hb d_W_rest_23 (by decide) ?_
        exact g_reti S hr hlk G ⟨by first | (simp only [wRestR, wRest, wRestS, eq_false c_1, eq_true c_2, eq_true c_4, ↓reduceIte]; done) | (with_reducible rfl), congrArg (wW cA a) (by first | (simp only [wRestR, wRest, wRestS, eq_false c_1, eq_true c_2, eq_true c_4, ↓reduceIte]; done) | (with_reducible rfl))⟩ (Nat.le_refl _) (Nat.le_refl _) d_W_rest_25
    · refine lv_iconst (v := (-1)) hx hb d_W_rest_11 (by decide) ?_
      exact g_reti S hr hlk G ⟨by first | (simp only [wRestR, wRest, wRestS, eq_false c_1, eq_false c_2, ↓reduceIte]; done) | (with_reducible rfl), congrArg (wW cA a) (by first | (simp only [wRestR, wRest, wRestS, eq_false c_1, eq_false c_2, ↓reduceIte]; done) | (with_reducible rfl))⟩ (Nat.le_refl _) (Nat.le_refl _) d_W_rest_12
