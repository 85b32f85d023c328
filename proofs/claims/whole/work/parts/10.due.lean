abbrev rm_W_isThrownAway : Room := { frames := 3, cells := 0, slots := 0, locals := 68 }
set_option maxHeartbeats 4000000 in
set_option maxRecDepth 100000 in
theorem c_W_isThrownAway (l : Launch) (D : va_G) (cA : ClassId) (a : Nat → Nat) (σ : St)  : Ci l y_W_isThrownAway w_W_isThrownAway rm_W_isThrownAway D vwCl [(cA, .int)] [.ref (a 0)] (wW cA a σ) 0 0 (fun r0 w0 => r0 = wThr σ ∧ w0 = wW cA a σ) := by
  refine Ci.of (Ts := lw_g) (own := "WireSlave") (cc := b_W_isThrownAway) (maxL := 1) (ret := (some .boolean)) (lv := [(0, .ref (a 0))]) (by decide) rfl rfl (fun w h => List.mem_cons_of_mem _ h) (Nat.le_of_ble_eq_true rfl) rfl ?_
  intro pp ee ss mm args below meth cx AA S hr hlk G ls hl
  have hx := S.1
  have hb := S.2.1
  refine lv_aload_n hx hb d_W_isThrownAway_0 rfl (lv_at hl 0 rfl) ?_
  refine g_get S G in_W 0 rfl rfl 9 (by decide) fl_W_60 rfl d_W_isThrownAway_1 ?_
  refine lv_if_ne (tgt := 34) hx hb d_W_isThrownAway_4 (by decide) (fun c_1 => ?_) (fun c_1 => ?_)
  · refine lv_iconst (v := 1) hx hb d_W_isThrownAway_34 (by decide) ?_
    refine lv_goto (tgt := 39) hx hb d_W_isThrownAway_35 (by decide) ?_
    exact g_retz S hr hlk rfl G ⟨by first | rfl | (simp only [wThr, eq_false c_1, ↓reduceIte]; done) | (simp only [wThr, eq_false c_1, ↓reduceIte]; rfl), by first | rfl | (simp only [wThr, eq_false c_1, ↓reduceIte]; done) | (simp only [wThr, eq_false c_1, ↓reduceIte]; rfl)⟩ (Nat.le_refl _) (Nat.le_refl _) d_W_isThrownAway_39
  · refine lv_aload_n hx hb d_W_isThrownAway_7 rfl (lv_at hl 0 rfl) ?_
    refine g_get S G in_W 0 rfl rfl 5 (by decide) fl_W_46 rfl d_W_isThrownAway_8 ?_
    refine g_cVi (rest := []) S G (c_B_size l D cA (a 9) (a 10) 257 (σ 5) (σ 0 3)) (cwV 0 S.2.2.2.2 ml_W_68 rfl rfl rfl (by decide +kernel) ⟨Nat.le_of_ble_eq_true rfl, Nat.le_of_ble_eq_true rfl⟩) [9, 10] [0, 1, 2, 3, 4, 5, 6, 7, 8, 11, 12, 13] rfl rfl rfl rfl (by decide) 9 rfl rfl rfl hl.1 rfl (Nat.le_of_ble_eq_true rfl) d_W_isThrownAway_11 ⟨Nat.le_of_ble_eq_true rfl, Nat.le_of_ble_eq_true rfl⟩ (fun rp_2 wp_2 H locs hp_2 G => ?_)
    obtain ⟨rfl, rfl⟩ := hp_2
    have G := G.sub (ws' := wW cA a σ) [0, 1, 2, 3, 4, 5, 6, 7, 8, 12, 13, 9, 10, 11] rfl (ww_B9 cA a _)
    refine lv_iconst (v := 4) hx hb d_W_isThrownAway_14 (by decide) ?_
    refine lv_sipush (v := 256) hx hb d_W_isThrownAway_15 (by decide) ?_
    refine g_cSi (rest := []) S G (c_W_isFromTo l D cA (σ 0 3) 4 256) (va_cwS 3 S.2.2.2.2 ml_W_114 rfl rfl rfl (by decide +kernel) ⟨Nat.le_of_ble_eq_true rfl, Nat.le_of_ble_eq_true rfl⟩) [] [0, 1, 2, 3, 4, 5, 6, 7, 8, 9, 10, 11, 12, 13] rfl rfl rfl rfl (by decide) rfl hl.1 rfl (Nat.le_of_ble_eq_true rfl) d_W_isThrownAway_18 ⟨Nat.le_of_ble_eq_true rfl, Nat.le_of_ble_eq_true rfl⟩ (fun rp_3 wp_3 H locs hp_3 G => ?_)
    obtain ⟨rfl, rfl⟩ := hp_3
    have G := G.sub (ws' := wW cA a σ) [0, 1, 2, 3, 4, 5, 6, 7, 8, 9, 10, 11, 12, 13] rfl (ww_id cA a _)
    refine lv_if_eq (tgt := 34) hx hb d_W_isThrownAway_21 (by decide) (fun c_4 => ?_) (fun c_4 => ?_)
    · refine lv_iconst (v := 1) hx hb d_W_isThrownAway_34 (by decide) ?_
      refine lv_goto (tgt := 39) hx hb d_W_isThrownAway_35 (by decide) ?_
      exact g_retz S hr hlk rfl G ⟨by first | rfl | (simp only [wThr, eq_true c_1, eq_true c_4, ↓reduceIte]; done) | (simp only [wThr, eq_true c_1, eq_true c_4, ↓reduceIte]; rfl), by first | rfl | (simp only [wThr, eq_true c_1, eq_true c_4, ↓reduceIte]; done) | (simp only [wThr, eq_true c_1, eq_true c_4, ↓reduceIte]; rfl)⟩ (Nat.le_refl _) (Nat.le_refl _) d_W_isThrownAway_39
    · refine lv_aload_n hx hb d_W_isThrownAway_24 rfl (lv_at hl 0 rfl) ?_
      refine g_get S G in_W 0 rfl rfl 5 (by decide) fl_W_46 rfl d_W_isThrownAway_25 ?_
      refine g_cVi (rest := []) S G (c_B_endsWithItsSum l D cA (a 9) (a 10) 257 (σ 5) (σ 0 3) (by decide)) (cwV 0 S.2.2.2.2 ml_W_118 rfl rfl rfl (by decide +kernel) ⟨Nat.le_of_ble_eq_true rfl, Nat.le_of_ble_eq_true rfl⟩) [9, 10] [0, 1, 2, 3, 4, 5, 6, 7, 8, 11, 12, 13] rfl rfl rfl rfl (by decide) 9 rfl rfl rfl hl.1 rfl (Nat.le_of_ble_eq_true rfl) d_W_isThrownAway_28 ⟨Nat.le_of_ble_eq_true rfl, Nat.le_of_ble_eq_true rfl⟩ (fun rp_5 wp_5 H locs hp_5 G => ?_)
      obtain ⟨rfl, rfl⟩ := hp_5
      have G := G.sub (ws' := wW cA a σ) [0, 1, 2, 3, 4, 5, 6, 7, 8, 12, 13, 9, 10, 11] rfl (ww_B9 cA a _)
      refine lv_if_ne (tgt := 38) hx hb d_W_isThrownAway_31 (by decide) (fun c_6 => ?_) (fun c_6 => ?_)
      · refine lv_iconst (v := 0) hx hb d_W_isThrownAway_38 (by decide) ?_
        exact g_retz S hr hlk rfl G ⟨by first | rfl | (simp only [wThr, eq_true c_1, eq_false c_4, eq_false c_6, ↓reduceIte]; done) | (simp only [wThr, eq_true c_1, eq_false c_4, eq_false c_6, ↓reduceIte]; rfl), by first | rfl | (simp only [wThr, eq_true c_1, eq_false c_4, eq_false c_6, ↓reduceIte]; done) | (simp only [wThr, eq_true c_1, eq_false c_4, eq_false c_6, ↓reduceIte]; rfl)⟩ (Nat.le_refl _) (Nat.le_refl _) d_W_isThrownAway_39
      · refine lv_iconst (v := 1) hx hb d_W_isThrownAway_34 (by decide) ?_
        refine lv_goto (tgt := 39) hx hb d_W_isThrownAway_35 (by decide) ?_
        exact g_retz S hr hlk rfl G ⟨by first | rfl | (simp only [wThr, eq_true c_1, eq_false c_4, eq_true c_6, ↓reduceIte]; done) | (simp only [wThr, eq_true c_1, eq_false c_4, eq_true c_6, ↓reduceIte]; rfl), by first | rfl | (simp only [wThr, eq_true c_1, eq_false c_4, eq_true c_6, ↓reduceIte]; done) | (simp only [wThr, eq_true c_1, eq_false c_4, eq_true c_6, ↓reduceIte]; rfl)⟩ (Nat.le_refl _) (Nat.le_refl _) d_W_isThrownAway_39

abbrev rm_W_isForOthers : Room := { frames := 1, cells := 0, slots := 0, locals := 21 }
set_option maxHeartbeats 4000000 in
set_option maxRecDepth 100000 in
theorem c_W_isForOthers (l : Launch) (D : va_G) (cA : ClassId) (a : Nat → Nat) (σ : St)  : Ci l y_W_isForOthers w_W_isForOthers rm_W_isForOthers D vwCl [(cA, .int)] [.ref (a 0)] (wW cA a σ) 0 0 (fun r0 w0 => r0 = wOth σ ∧ w0 = wW cA a σ) := by
  refine Ci.of (Ts := lw_g) (own := "WireSlave") (cc := b_W_isForOthers) (maxL := 2) (ret := (some .boolean)) (lv := [(0, .ref (a 0))]) (by decide) rfl rfl (fun w h => List.mem_cons_of_mem _ h) (Nat.le_of_ble_eq_true rfl) rfl ?_
  intro pp ee ss mm args below meth cx AA S hr hlk G ls hl
  have hx := S.1
  have hb := S.2.1
  refine lv_aload_n hx hb d_W_isForOthers_0 rfl (lv_at hl 0 rfl) ?_
  refine g_get S G in_W 0 rfl rfl 5 (by decide) fl_W_46 rfl d_W_isForOthers_1 ?_
  refine lv_iconst (v := 0) hx hb d_W_isForOthers_4 (by decide) ?_
  refine g_cVi (rest := []) S G (c_B_at l D cA (a 9) (a 10) 257 (σ 5) (σ 0 3) 0 (by decide)) (cwV 1 S.2.2.2.2 ml_W_79 rfl rfl rfl (by decide +kernel) ⟨Nat.le_of_ble_eq_true rfl, Nat.le_of_ble_eq_true rfl⟩) [9, 10] [0, 1, 2, 3, 4, 5, 6, 7, 8, 11, 12, 13] rfl rfl rfl rfl (by decide) 9 rfl rfl rfl hl.1 rfl (Nat.le_of_ble_eq_true rfl) d_W_isForOthers_5 ⟨Nat.le_of_ble_eq_true rfl, Nat.le_of_ble_eq_true rfl⟩ (fun rp_1 wp_1 H locs hp_1 G => ?_)
  obtain ⟨rfl, rfl⟩ := hp_1
  have G := G.sub (ws' := wW cA a σ) [0, 1, 2, 3, 4, 5, 6, 7, 8, 12, 13, 9, 10, 11] rfl (ww_B9 cA a _)
  refine lv_istore_n (lv' := [(1, .int (bAt 257 (σ 5) (σ 0 3) 0)), (0, .ref (a 0))]) hx hb d_W_isForOthers_8 rfl hl (by decide) rfl (fun ls hl => ?_)
  refine lv_iload_n hx hb d_W_isForOthers_9 rfl (lv_at hl 0 rfl) ?_
  refine lv_if_eq (tgt := 25) hx hb d_W_isForOthers_10 (by decide) (fun c_2 => ?_) (fun c_2 => ?_)
  · refine lv_iconst (v := 0) hx hb d_W_isForOthers_25 (by decide) ?_
    exact g_retz S hr hlk rfl G ⟨by first | rfl | (simp only [wOth, fAt, eq_true c_2, ↓reduceIte]; done) | (simp only [wOth, fAt, eq_true c_2, ↓reduceIte]; rfl), by first | rfl | (simp only [wOth, fAt, eq_true c_2, ↓reduceIte]; done) | (simp only [wOth, fAt, eq_true c_2, ↓reduceIte]; rfl)⟩ (Nat.le_refl _) (Nat.le_refl _) d_W_isForOthers_26
  · refine lv_iload_n hx hb d_W_isForOthers_13 rfl (lv_at hl 0 rfl) ?_
    refine lv_aload_n hx hb d_W_isForOthers_14 rfl (lv_at hl 1 rfl) ?_
    refine g_get S G in_W 0 rfl rfl 0 (by decide) fl_W_18 rfl d_W_isForOthers_15 ?_
    refine lv_icmp_eq (tgt := 25) hx hb d_W_isForOthers_18 (by decide) (fun c_3 => ?_) (fun c_3 => ?_)
    · refine lv_iconst (v := 0) hx hb d_W_isForOthers_25 (by decide) ?_
      exact g_retz S hr hlk rfl G ⟨by first | rfl | (simp only [wOth, fAt, eq_false c_2, eq_true c_3, ↓reduceIte]; done) | (simp only [wOth, fAt, eq_false c_2, eq_true c_3, ↓reduceIte]; rfl), by first | rfl | (simp only [wOth, fAt, eq_false c_2, eq_true c_3, ↓reduceIte]; done) | (simp only [wOth, fAt, eq_false c_2, eq_true c_3, ↓reduceIte]; rfl)⟩ (Nat.le_refl _) (Nat.le_refl _) d_W_isForOthers_26
    · refine lv_iconst (v := 1) hx hb d_W_isForOthers_21 (by decide) ?_
      refine lv_goto (tgt := 26) hx hb d_W_isForOthers_22 (by decide) ?_
      exact g_retz S hr hlk rfl G ⟨by first | rfl | (simp only [wOth, fAt, eq_false c_2, eq_false c_3, ↓reduceIte]; done) | (simp only [wOth, fAt, eq_false c_2, eq_false c_3, ↓reduceIte]; rfl), by first | rfl | (simp only [wOth, fAt, eq_false c_2, eq_false c_3, ↓reduceIte]; done) | (simp only [wOth, fAt, eq_false c_2, eq_false c_3, ↓reduceIte]; rfl)⟩ (Nat.le_refl _) (Nat.le_refl _) d_W_isForOthers_26

abbrev rm_W_dataSize : Room := { frames := 1, cells := 0, slots := 0, locals := 20 }
set_option maxHeartbeats 4000000 in
set_option maxRecDepth 100000 in
theorem c_W_dataSize (l : Launch) (D : va_G) (cA : ClassId) (a : Nat → Nat) (σ : St)  : Ci l y_W_dataSize w_W_dataSize rm_W_dataSize D vwCl [(cA, .int)] [.ref (a 0)] (wW cA a σ) 0 0 (fun r0 w0 => r0 = dSz σ ∧ w0 = wW cA a σ) := by
  refine Ci.of (Ts := lw_g) (own := "WireSlave") (cc := b_W_dataSize) (maxL := 1) (ret := (some .int)) (lv := [(0, .ref (a 0))]) (by decide) rfl rfl (fun w h => List.mem_cons_of_mem _ h) (Nat.le_of_ble_eq_true rfl) rfl ?_
  intro pp ee ss mm args below meth cx AA S hr hlk G ls hl
  have hx := S.1
  have hb := S.2.1
  refine lv_aload_n hx hb d_W_dataSize_0 rfl (lv_at hl 0 rfl) ?_
  refine g_get S G in_W 0 rfl rfl 5 (by decide) fl_W_46 rfl d_W_dataSize_1 ?_
  refine g_cVi (rest := []) S G (c_B_size l D cA (a 9) (a 10) 257 (σ 5) (σ 0 3)) (cwV 0 S.2.2.2.2 ml_W_68 rfl rfl rfl (by decide +kernel) ⟨Nat.le_of_ble_eq_true rfl, Nat.le_of_ble_eq_true rfl⟩) [9, 10] [0, 1, 2, 3, 4, 5, 6, 7, 8, 11, 12, 13] rfl rfl rfl rfl (by decide) 9 rfl rfl rfl hl.1 rfl (Nat.le_of_ble_eq_true rfl) d_W_dataSize_4 ⟨Nat.le_of_ble_eq_true rfl, Nat.le_of_ble_eq_true rfl⟩ (fun rp_1 wp_1 H locs hp_1 G => ?_)
  obtain ⟨rfl, rfl⟩ := hp_1
  have G := G.sub (ws' := wW cA a σ) [0, 1, 2, 3, 4, 5, 6, 7, 8, 12, 13, 9, 10, 11] rfl (ww_B9 cA a _)
  refine lv_iconst (v := 4) hx hb d_W_dataSize_7 (by decide) ?_
  refine lv_isub hx hb d_W_dataSize_8 ?_
  exact g_reti S hr hlk G ⟨by first | rfl | (simp only [↓reduceIte]; done) | (simp only [↓reduceIte]; rfl), by first | rfl | (simp only [↓reduceIte]; done) | (simp only [↓reduceIte]; rfl)⟩ (Nat.le_refl _) (Nat.le_refl _) d_W_dataSize_9

abbrev rm_W_data : Room := { frames := 1, cells := 0, slots := 0, locals := 21 }
set_option maxHeartbeats 4000000 in
set_option maxRecDepth 100000 in
theorem c_W_data (l : Launch) (D : va_G) (cA : ClassId) (a : Nat → Nat) (σ : St) (i : Int32)  : Ci l y_W_data w_W_data rm_W_data D vwCl [(cA, .int)] [.ref (a 0), .int i] (wW cA a σ) 0 0 (fun r0 w0 => r0 = dAt σ i ∧ w0 = wW cA a σ) := by
  refine Ci.of (Ts := lw_g) (own := "WireSlave") (cc := b_W_data) (maxL := 2) (ret := (some .int)) (lv := [(0, .ref (a 0)), (1, .int i)]) (by decide) rfl rfl (fun w h => List.mem_cons_of_mem _ h) (Nat.le_of_ble_eq_true rfl) rfl ?_
  intro pp ee ss mm args below meth cx AA S hr hlk G ls hl
  have hx := S.1
  have hb := S.2.1
  refine lv_aload_n hx hb d_W_data_0 rfl (lv_at hl 0 rfl) ?_
  refine g_get S G in_W 0 rfl rfl 5 (by decide) fl_W_46 rfl d_W_data_1 ?_
  refine lv_iconst (v := 2) hx hb d_W_data_4 (by decide) ?_
  refine lv_iload_n hx hb d_W_data_5 rfl (lv_at hl 1 rfl) ?_
  refine lv_iadd hx hb d_W_data_6 ?_
  refine g_cVi (rest := []) S G (c_B_at l D cA (a 9) (a 10) 257 (σ 5) (σ 0 3) (2 + i) (by decide)) (cwV 1 S.2.2.2.2 ml_W_79 rfl rfl rfl (by decide +kernel) ⟨Nat.le_of_ble_eq_true rfl, Nat.le_of_ble_eq_true rfl⟩) [9, 10] [0, 1, 2, 3, 4, 5, 6, 7, 8, 11, 12, 13] rfl rfl rfl rfl (by decide) 9 rfl rfl rfl hl.1 rfl (Nat.le_of_ble_eq_true rfl) d_W_data_7 ⟨Nat.le_of_ble_eq_true rfl, Nat.le_of_ble_eq_true rfl⟩ (fun rp_1 wp_1 H locs hp_1 G => ?_)
  obtain ⟨rfl, rfl⟩ := hp_1
  have G := G.sub (ws' := wW cA a σ) [0, 1, 2, 3, 4, 5, 6, 7, 8, 12, 13, 9, 10, 11] rfl (ww_B9 cA a _)
  exact g_reti S hr hlk G ⟨by first | rfl | (simp only [↓reduceIte]; done) | (simp only [↓reduceIte]; rfl), by first | rfl | (simp only [↓reduceIte]; done) | (simp only [↓reduceIte]; rfl)⟩ (Nat.le_refl _) (Nat.le_refl _) d_W_data_10

abbrev rm_W_dataNumber : Room := { frames := 2, cells := 0, slots := 0, locals := 42 }
set_option maxHeartbeats 4000000 in
set_option maxRecDepth 100000 in
theorem c_W_dataNumber (l : Launch) (D : va_G) (cA : ClassId) (a : Nat → Nat) (σ : St) (i : Int32)  : Ci l y_W_dataNumber w_W_dataNumber rm_W_dataNumber D vwCl [(cA, .int)] [.ref (a 0), .int i] (wW cA a σ) 0 0 (fun r0 w0 => r0 = dNum σ i ∧ w0 = wW cA a σ) := by
  refine Ci.of (Ts := lw_g) (own := "WireSlave") (cc := b_W_dataNumber) (maxL := 2) (ret := (some .int)) (lv := [(0, .ref (a 0)), (1, .int i)]) (by decide) rfl rfl (fun w h => List.mem_cons_of_mem _ h) (Nat.le_of_ble_eq_true rfl) rfl ?_
  intro pp ee ss mm args below meth cx AA S hr hlk G ls hl
  have hx := S.1
  have hb := S.2.1
  refine lv_aload_n hx hb d_W_dataNumber_0 rfl (lv_at hl 0 rfl) ?_
  refine lv_iload_n hx hb d_W_dataNumber_1 rfl (lv_at hl 1 rfl) ?_
  refine g_cVi (rest := []) S G (c_W_data l D cA a σ i) (cwV 1 S.2.2.2.2 ml_W_121 rfl rfl rfl (by decide +kernel) ⟨Nat.le_of_ble_eq_true rfl, Nat.le_of_ble_eq_true rfl⟩) [0, 1, 2, 3, 4, 5, 6, 7, 8, 9, 10, 11, 12, 13] [] rfl rfl rfl rfl (by decide) 0 rfl rfl rfl hl.1 rfl (Nat.le_of_ble_eq_true rfl) d_W_dataNumber_2 ⟨Nat.le_of_ble_eq_true rfl, Nat.le_of_ble_eq_true rfl⟩ (fun rp_1 wp_1 H locs hp_1 G => ?_)
  obtain ⟨rfl, rfl⟩ := hp_1
  have G : Gw D vwCl [(cA, .int)] AA ss ss.heap H locs (wW cA a σ) := G
  refine lv_sipush (v := 256) hx hb d_W_dataNumber_5 (by decide) ?_
  refine lv_imul hx hb d_W_dataNumber_8 ?_
  refine lv_aload_n hx hb d_W_dataNumber_9 rfl (lv_at hl 0 rfl) ?_
  refine lv_iload_n hx hb d_W_dataNumber_10 rfl (lv_at hl 1 rfl) ?_
  refine lv_iconst (v := 1) hx hb d_W_dataNumber_11 (by decide) ?_
  refine lv_iadd hx hb d_W_dataNumber_12 ?_
  refine g_cVi (rest := [.int ((dAt σ i) * 256)]) S G (c_W_data l D cA a σ (i + 1)) (cwV 1 S.2.2.2.2 ml_W_121 rfl rfl rfl (by decide +kernel) ⟨Nat.le_of_ble_eq_true rfl, Nat.le_of_ble_eq_true rfl⟩) [0, 1, 2, 3, 4, 5, 6, 7, 8, 9, 10, 11, 12, 13] [] rfl rfl rfl rfl (by decide) 0 rfl rfl rfl hl.1 rfl (Nat.le_of_ble_eq_true rfl) d_W_dataNumber_13 ⟨Nat.le_of_ble_eq_true rfl, Nat.le_of_ble_eq_true rfl⟩ (fun rp_2 wp_2 H locs hp_2 G => ?_)
  obtain ⟨rfl, rfl⟩ := hp_2
  have G : Gw D vwCl [(cA, .int)] AA ss ss.heap H locs (wW cA a σ) := G
  refine lv_iadd hx hb d_W_dataNumber_16 ?_
  exact g_reti S hr hlk G ⟨by first | rfl | (simp only [↓reduceIte]; done) | (simp only [↓reduceIte]; rfl), by first | rfl | (simp only [↓reduceIte]; done) | (simp only [↓reduceIte]; rfl)⟩ (Nat.le_refl _) (Nat.le_refl _) d_W_dataNumber_17

abbrev rm_W_isDueSize : Room := { frames := 2, cells := 0, slots := 0, locals := 42 }
set_option maxHeartbeats 4000000 in
set_option maxRecDepth 100000 in
theorem c_W_isDueSize (l : Launch) (D : va_G) (cA : ClassId) (a : Nat → Nat) (σ : St) (f : Int32)  : Ci l y_W_isDueSize w_W_isDueSize rm_W_isDueSize D vwCl [(cA, .int)] [.ref (a 0), .int f] (wW cA a σ) 0 0 (fun r0 w0 => r0 = dueS σ f ∧ w0 = wW cA a σ) := by
  refine Ci.of (Ts := lw_g) (own := "WireSlave") (cc := b_W_isDueSize) (maxL := 2) (ret := (some .boolean)) (lv := [(0, .ref (a 0)), (1, .int f)]) (by decide) rfl rfl (fun w h => List.mem_cons_of_mem _ h) (Nat.le_of_ble_eq_true rfl) rfl ?_
  intro pp ee ss mm args below meth cx AA S hr hlk G ls hl
  have hx := S.1
  have hb := S.2.1
  refine lv_iload_n hx hb d_W_isDueSize_0 rfl (lv_at hl 1 rfl) ?_
  refine lv_bipush (v := 15) hx hb d_W_isDueSize_1 (by decide) ?_
  refine lv_icmp_eq (tgt := 12) hx hb d_W_isDueSize_3 (by decide) (fun c_1 => ?_) (fun c_1 => ?_)
  · refine lv_aload_n hx hb d_W_isDueSize_12 rfl (lv_at hl 0 rfl) ?_
    refine g_cVi (rest := []) S G (c_W_dataSize l D cA a σ) (cwV 0 S.2.2.2.2 ml_W_155 rfl rfl rfl (by decide +kernel) ⟨Nat.le_of_ble_eq_true rfl, Nat.le_of_ble_eq_true rfl⟩) [0, 1, 2, 3, 4, 5, 6, 7, 8, 9, 10, 11, 12, 13] [] rfl rfl rfl rfl (by decide) 0 rfl rfl rfl hl.1 rfl (Nat.le_of_ble_eq_true rfl) d_W_isDueSize_13 ⟨Nat.le_of_ble_eq_true rfl, Nat.le_of_ble_eq_true rfl⟩ (fun rp_2 wp_2 H locs hp_2 G => ?_)
    obtain ⟨rfl, rfl⟩ := hp_2
    have G : Gw D vwCl [(cA, .int)] AA ss ss.heap H locs (wW cA a σ) := G
    refine lv_bipush (v := 6) hx hb d_W_isDueSize_16 (by decide) ?_
    refine lv_icmp_lt (tgt := 39) hx hb d_W_isDueSize_18 (by decide) (fun c_3 => ?_) (fun c_3 => ?_)
    · refine lv_iconst (v := 0) hx hb d_W_isDueSize_39 (by decide) ?_
      exact g_retz S hr hlk rfl G ⟨by first | rfl | (simp only [dueS, eq_true c_1, eq_true c_3, ↓reduceIte]; done) | (simp only [dueS, eq_true c_1, eq_true c_3, ↓reduceIte]; rfl), by first | rfl | (simp only [dueS, eq_true c_1, eq_true c_3, ↓reduceIte]; done) | (simp only [dueS, eq_true c_1, eq_true c_3, ↓reduceIte]; rfl)⟩ (Nat.le_refl _) (Nat.le_refl _) d_W_isDueSize_40
    · refine lv_aload_n hx hb d_W_isDueSize_21 rfl (lv_at hl 0 rfl) ?_
      refine g_cVi (rest := []) S G (c_W_dataSize l D cA a σ) (cwV 0 S.2.2.2.2 ml_W_155 rfl rfl rfl (by decide +kernel) ⟨Nat.le_of_ble_eq_true rfl, Nat.le_of_ble_eq_true rfl⟩) [0, 1, 2, 3, 4, 5, 6, 7, 8, 9, 10, 11, 12, 13] [] rfl rfl rfl rfl (by decide) 0 rfl rfl rfl hl.1 rfl (Nat.le_of_ble_eq_true rfl) d_W_isDueSize_22 ⟨Nat.le_of_ble_eq_true rfl, Nat.le_of_ble_eq_true rfl⟩ (fun rp_4 wp_4 H locs hp_4 G => ?_)
      obtain ⟨rfl, rfl⟩ := hp_4
      have G : Gw D vwCl [(cA, .int)] AA ss ss.heap H locs (wW cA a σ) := G
      refine lv_iconst (v := 5) hx hb d_W_isDueSize_25 (by decide) ?_
      refine lv_aload_n hx hb d_W_isDueSize_26 rfl (lv_at hl 0 rfl) ?_
      refine lv_iconst (v := 4) hx hb d_W_isDueSize_27 (by decide) ?_
      refine g_cVi (rest := [.int 5, .int (dSz σ)]) S G (c_W_data l D cA a σ 4) (cwV 1 S.2.2.2.2 ml_W_121 rfl rfl rfl (by decide +kernel) ⟨Nat.le_of_ble_eq_true rfl, Nat.le_of_ble_eq_true rfl⟩) [0, 1, 2, 3, 4, 5, 6, 7, 8, 9, 10, 11, 12, 13] [] rfl rfl rfl rfl (by decide) 0 rfl rfl rfl hl.1 rfl (Nat.le_of_ble_eq_true rfl) d_W_isDueSize_28 ⟨Nat.le_of_ble_eq_true rfl, Nat.le_of_ble_eq_true rfl⟩ (fun rp_5 wp_5 H locs hp_5 G => ?_)
      obtain ⟨rfl, rfl⟩ := hp_5
      have G : Gw D vwCl [(cA, .int)] AA ss ss.heap H locs (wW cA a σ) := G
      refine lv_iadd hx hb d_W_isDueSize_31 ?_
      refine lv_icmp_ne (tgt := 39) hx hb d_W_isDueSize_32 (by decide) (fun c_6 => ?_) (fun c_6 => ?_)
      · refine lv_iconst (v := 0) hx hb d_W_isDueSize_39 (by decide) ?_
        exact g_retz S hr hlk rfl G ⟨by first | rfl | (simp only [dueS, eq_true c_1, eq_false c_3, eq_false c_6, ↓reduceIte]; done) | (simp only [dueS, eq_true c_1, eq_false c_3, eq_false c_6, ↓reduceIte]; rfl), by first | rfl | (simp only [dueS, eq_true c_1, eq_false c_3, eq_false c_6, ↓reduceIte]; done) | (simp only [dueS, eq_true c_1, eq_false c_3, eq_false c_6, ↓reduceIte]; rfl)⟩ (Nat.le_refl _) (Nat.le_refl _) d_W_isDueSize_40
      · refine lv_iconst (v := 1) hx hb d_W_isDueSize_35 (by decide) ?_
        refine lv_goto (tgt := 40) hx hb d_W_isDueSize_36 (by decide) ?_
        exact g_retz S hr hlk rfl G ⟨by first | rfl | (simp only [dueS, eq_true c_1, eq_false c_3, eq_true c_6, ↓reduceIte]; done) | (simp only [dueS, eq_true c_1, eq_false c_3, eq_true c_6, ↓reduceIte]; rfl), by first | rfl | (simp only [dueS, eq_true c_1, eq_false c_3, eq_true c_6, ↓reduceIte]; done) | (simp only [dueS, eq_true c_1, eq_false c_3, eq_true c_6, ↓reduceIte]; rfl)⟩ (Nat.le_refl _) (Nat.le_refl _) d_W_isDueSize_40
  · refine lv_iload_n hx hb d_W_isDueSize_6 rfl (lv_at hl 1 rfl) ?_
    refine lv_bipush (v := 16) hx hb d_W_isDueSize_7 (by decide) ?_
    refine lv_icmp_ne (tgt := 41) hx hb d_W_isDueSize_9 (by decide) (fun c_7 => ?_) (fun c_7 => ?_)
    · refine lv_aload_n hx hb d_W_isDueSize_41 rfl (lv_at hl 0 rfl) ?_
      refine g_cVi (rest := []) S G (c_W_dataSize l D cA a σ) (cwV 0 S.2.2.2.2 ml_W_155 rfl rfl rfl (by decide +kernel) ⟨Nat.le_of_ble_eq_true rfl, Nat.le_of_ble_eq_true rfl⟩) [0, 1, 2, 3, 4, 5, 6, 7, 8, 9, 10, 11, 12, 13] [] rfl rfl rfl rfl (by decide) 0 rfl rfl rfl hl.1 rfl (Nat.le_of_ble_eq_true rfl) d_W_isDueSize_42 ⟨Nat.le_of_ble_eq_true rfl, Nat.le_of_ble_eq_true rfl⟩ (fun rp_8 wp_8 H locs hp_8 G => ?_)
      obtain ⟨rfl, rfl⟩ := hp_8
      have G : Gw D vwCl [(cA, .int)] AA ss ss.heap H locs (wW cA a σ) := G
      refine lv_iconst (v := 4) hx hb d_W_isDueSize_45 (by decide) ?_
      refine lv_icmp_ne (tgt := 53) hx hb d_W_isDueSize_46 (by decide) (fun c_9 => ?_) (fun c_9 => ?_)
      · refine lv_iconst (v := 0) hx hb d_W_isDueSize_53 (by decide) ?_
        exact g_retz S hr hlk rfl G ⟨by first | rfl | (simp only [dueS, eq_false c_1, eq_false c_7, eq_false c_9, ↓reduceIte]; done) | (simp only [dueS, eq_false c_1, eq_false c_7, eq_false c_9, ↓reduceIte]; rfl), by first | rfl | (simp only [dueS, eq_false c_1, eq_false c_7, eq_false c_9, ↓reduceIte]; done) | (simp only [dueS, eq_false c_1, eq_false c_7, eq_false c_9, ↓reduceIte]; rfl)⟩ (Nat.le_refl _) (Nat.le_refl _) d_W_isDueSize_54
      · refine lv_iconst (v := 1) hx hb d_W_isDueSize_49 (by decide) ?_
        refine lv_goto (tgt := 54) hx hb d_W_isDueSize_50 (by decide) ?_
        exact g_retz S hr hlk rfl G ⟨by first | rfl | (simp only [dueS, eq_false c_1, eq_false c_7, eq_true c_9, ↓reduceIte]; done) | (simp only [dueS, eq_false c_1, eq_false c_7, eq_true c_9, ↓reduceIte]; rfl), by first | rfl | (simp only [dueS, eq_false c_1, eq_false c_7, eq_true c_9, ↓reduceIte]; done) | (simp only [dueS, eq_false c_1, eq_false c_7, eq_true c_9, ↓reduceIte]; rfl)⟩ (Nat.le_refl _) (Nat.le_refl _) d_W_isDueSize_54
    · refine lv_aload_n hx hb d_W_isDueSize_12 rfl (lv_at hl 0 rfl) ?_
      refine g_cVi (rest := []) S G (c_W_dataSize l D cA a σ) (cwV 0 S.2.2.2.2 ml_W_155 rfl rfl rfl (by decide +kernel) ⟨Nat.le_of_ble_eq_true rfl, Nat.le_of_ble_eq_true rfl⟩) [0, 1, 2, 3, 4, 5, 6, 7, 8, 9, 10, 11, 12, 13] [] rfl rfl rfl rfl (by decide) 0 rfl rfl rfl hl.1 rfl (Nat.le_of_ble_eq_true rfl) d_W_isDueSize_13 ⟨Nat.le_of_ble_eq_true rfl, Nat.le_of_ble_eq_true rfl⟩ (fun rp_10 wp_10 H locs hp_10 G => ?_)
      obtain ⟨rfl, rfl⟩ := hp_10
      have G : Gw D vwCl [(cA, .int)] AA ss ss.heap H locs (wW cA a σ) := G
      refine lv_bipush (v := 6) hx hb d_W_isDueSize_16 (by decide) ?_
      refine lv_icmp_lt (tgt := 39) hx hb d_W_isDueSize_18 (by decide) (fun c_11 => ?_) (fun c_11 => ?_)
      · refine lv_iconst (v := 0) hx hb d_W_isDueSize_39 (by decide) ?_
        exact g_retz S hr hlk rfl G ⟨by first | rfl | (simp only [dueS, eq_false c_1, eq_true c_7, eq_true c_11, ↓reduceIte]; done) | (simp only [dueS, eq_false c_1, eq_true c_7, eq_true c_11, ↓reduceIte]; rfl), by first | rfl | (simp only [dueS, eq_false c_1, eq_true c_7, eq_true c_11, ↓reduceIte]; done) | (simp only [dueS, eq_false c_1, eq_true c_7, eq_true c_11, ↓reduceIte]; rfl)⟩ (Nat.le_refl _) (Nat.le_refl _) d_W_isDueSize_40
      · refine lv_aload_n hx hb d_W_isDueSize_21 rfl (lv_at hl 0 rfl) ?_
        refine g_cVi (rest := []) S G (c_W_dataSize l D cA a σ) (cwV 0 S.2.2.2.2 ml_W_155 rfl rfl rfl (by decide +kernel) ⟨Nat.le_of_ble_eq_true rfl, Nat.le_of_ble_eq_true rfl⟩) [0, 1, 2, 3, 4, 5, 6, 7, 8, 9, 10, 11, 12, 13] [] rfl rfl rfl rfl (by decide) 0 rfl rfl rfl hl.1 rfl (Nat.le_of_ble_eq_true rfl) d_W_isDueSize_22 ⟨Nat.le_of_ble_eq_true rfl, Nat.le_of_ble_eq_true rfl⟩ (fun rp_12 wp_12 H locs hp_12 G => ?_)
        obtain ⟨rfl, rfl⟩ := hp_12
        have G : Gw D vwCl [(cA, .int)] AA ss ss.heap H locs (wW cA a σ) := G
        refine lv_iconst (v := 5) hx hb d_W_isDueSize_25 (by decide) ?_
        refine lv_aload_n hx hb d_W_isDueSize_26 rfl (lv_at hl 0 rfl) ?_
        refine lv_iconst (v := 4) hx hb d_W_isDueSize_27 (by decide) ?_
        refine g_cVi (rest := [.int 5, .int (dSz σ)]) S G (c_W_data l D cA a σ 4) (cwV 1 S.2.2.2.2 ml_W_121 rfl rfl rfl (by decide +kernel) ⟨Nat.le_of_ble_eq_true rfl, Nat.le_of_ble_eq_true rfl⟩) [0, 1, 2, 3, 4, 5, 6, 7, 8, 9, 10, 11, 12, 13] [] rfl rfl rfl rfl (by decide) 0 rfl rfl rfl hl.1 rfl (Nat.le_of_ble_eq_true rfl) d_W_isDueSize_28 ⟨Nat.le_of_ble_eq_true rfl, Nat.le_of_ble_eq_true rfl⟩ (fun rp_13 wp_13 H locs hp_13 G => ?_)
        obtain ⟨rfl, rfl⟩ := hp_13
        have G : Gw D vwCl [(cA, .int)] AA ss ss.heap H locs (wW cA a σ) := G
        refine lv_iadd hx hb d_W_isDueSize_31 ?_
        refine lv_icmp_ne (tgt := 39) hx hb d_W_isDueSize_32 (by decide) (fun c_14 => ?_) (fun c_14 => ?_)
        · refine lv_iconst (v := 0) hx hb d_W_isDueSize_39 (by decide) ?_
          exact g_retz S hr hlk rfl G ⟨by first | rfl | (simp only [dueS, eq_false c_1, eq_true c_7, eq_false c_11, eq_false c_14, ↓reduceIte]; done) | (simp only [dueS, eq_false c_1, eq_true c_7, eq_false c_11, eq_false c_14, ↓reduceIte]; rfl), by first | rfl | (simp only [dueS, eq_false c_1, eq_true c_7, eq_false c_11, eq_false c_14, ↓reduceIte]; done) | (simp only [dueS, eq_false c_1, eq_true c_7, eq_false c_11, eq_false c_14, ↓reduceIte]; rfl)⟩ (Nat.le_refl _) (Nat.le_refl _) d_W_isDueSize_40
        · refine lv_iconst (v := 1) hx hb d_W_isDueSize_35 (by decide) ?_
          refine lv_goto (tgt := 40) hx hb d_W_isDueSize_36 (by decide) ?_
          exact g_retz S hr hlk rfl G ⟨by first | rfl | (simp only [dueS, eq_false c_1, eq_true c_7, eq_false c_11, eq_true c_14, ↓reduceIte]; done) | (simp only [dueS, eq_false c_1, eq_true c_7, eq_false c_11, eq_true c_14, ↓reduceIte]; rfl), by first | rfl | (simp only [dueS, eq_false c_1, eq_true c_7, eq_false c_11, eq_true c_14, ↓reduceIte]; done) | (simp only [dueS, eq_false c_1, eq_true c_7, eq_false c_11, eq_true c_14, ↓reduceIte]; rfl)⟩ (Nat.le_refl _) (Nat.le_refl _) d_W_isDueSize_40

abbrev rm_W_isDueAmount : Room := { frames := 2, cells := 0, slots := 0, locals := 42 }
set_option maxHeartbeats 4000000 in
set_option maxRecDepth 100000 in
theorem c_W_isDueAmount (l : Launch) (D : va_G) (cA : ClassId) (a : Nat → Nat) (σ : St) (f n : Int32)  : Ci l y_W_isDueAmount w_W_isDueAmount rm_W_isDueAmount D vwCl [(cA, .int)] [.ref (a 0), .int f, .int n] (wW cA a σ) 0 0 (fun r0 w0 => r0 = dueA σ f n ∧ w0 = wW cA a σ) := by
  refine Ci.of (Ts := lw_g) (own := "WireSlave") (cc := b_W_isDueAmount) (maxL := 3) (ret := (some .boolean)) (lv := [(0, .ref (a 0)), (1, .int f), (2, .int n)]) (by decide) rfl rfl (fun w h => List.mem_cons_of_mem _ h) (Nat.le_of_ble_eq_true rfl) rfl ?_
  intro pp ee ss mm args below meth cx AA S hr hlk G ls hl
  have hx := S.1
  have hb := S.2.1
  refine lv_iload_n hx hb d_W_isDueAmount_0 rfl (lv_at hl 1 rfl) ?_
  by_cases c_1 : f = 1
  · refine lv_tableIn (tgt := 80) hx hb d_W_isDueAmount_1 (by rw [c_1]; decide) (by rw [c_1]; decide) (by rw [c_1]; rfl) (by decide) ?_
    refine lv_iload_n hx hb d_W_isDueAmount_80 rfl (lv_at hl 2 rfl) ?_
    refine lv_iconst (v := 1) hx hb d_W_isDueAmount_81 (by decide) ?_
    refine lv_sipush (v := 2000) hx hb d_W_isDueAmount_82 (by decide) ?_
    refine g_cSi (rest := []) S G (c_W_isFromTo l D cA n 1 2000) (va_cwS 3 S.2.2.2.2 ml_W_114 rfl rfl rfl (by decide +kernel) ⟨Nat.le_of_ble_eq_true rfl, Nat.le_of_ble_eq_true rfl⟩) [] [0, 1, 2, 3, 4, 5, 6, 7, 8, 9, 10, 11, 12, 13] rfl rfl rfl rfl (by decide) rfl hl.1 rfl (Nat.le_of_ble_eq_true rfl) d_W_isDueAmount_85 ⟨Nat.le_of_ble_eq_true rfl, Nat.le_of_ble_eq_true rfl⟩ (fun rp_2 wp_2 H locs hp_2 G => ?_)
    obtain ⟨rfl, rfl⟩ := hp_2
    have G := G.sub (ws' := wW cA a σ) [0, 1, 2, 3, 4, 5, 6, 7, 8, 9, 10, 11, 12, 13] rfl (ww_id cA a _)
    exact g_retz S hr hlk (by first | rfl | exact isFT_nar _ _ _) G ⟨by first | rfl | (simp only [dueA, eq_true c_1, ↓reduceIte]; done) | (simp only [dueA, eq_true c_1, ↓reduceIte]; rfl), by first | rfl | (simp only [dueA, eq_true c_1, ↓reduceIte]; done) | (simp only [dueA, eq_true c_1, ↓reduceIte]; rfl)⟩ (Nat.le_refl _) (Nat.le_refl _) d_W_isDueAmount_88
  by_cases c_3 : f = 2
  · refine lv_tableIn (tgt := 80) hx hb d_W_isDueAmount_1 (by rw [c_3]; decide) (by rw [c_3]; decide) (by rw [c_3]; rfl) (by decide) ?_
    refine lv_iload_n hx hb d_W_isDueAmount_80 rfl (lv_at hl 2 rfl) ?_
    refine lv_iconst (v := 1) hx hb d_W_isDueAmount_81 (by decide) ?_
    refine lv_sipush (v := 2000) hx hb d_W_isDueAmount_82 (by decide) ?_
    refine g_cSi (rest := []) S G (c_W_isFromTo l D cA n 1 2000) (va_cwS 3 S.2.2.2.2 ml_W_114 rfl rfl rfl (by decide +kernel) ⟨Nat.le_of_ble_eq_true rfl, Nat.le_of_ble_eq_true rfl⟩) [] [0, 1, 2, 3, 4, 5, 6, 7, 8, 9, 10, 11, 12, 13] rfl rfl rfl rfl (by decide) rfl hl.1 rfl (Nat.le_of_ble_eq_true rfl) d_W_isDueAmount_85 ⟨Nat.le_of_ble_eq_true rfl, Nat.le_of_ble_eq_true rfl⟩ (fun rp_4 wp_4 H locs hp_4 G => ?_)
    obtain ⟨rfl, rfl⟩ := hp_4
    have G := G.sub (ws' := wW cA a σ) [0, 1, 2, 3, 4, 5, 6, 7, 8, 9, 10, 11, 12, 13] rfl (ww_id cA a _)
    exact g_retz S hr hlk (by first | rfl | exact isFT_nar _ _ _) G ⟨by first | rfl | (simp only [dueA, eq_false c_1, eq_true c_3, ↓reduceIte]; done) | (simp only [dueA, eq_false c_1, eq_true c_3, ↓reduceIte]; rfl), by first | rfl | (simp only [dueA, eq_false c_1, eq_true c_3, ↓reduceIte]; done) | (simp only [dueA, eq_false c_1, eq_true c_3, ↓reduceIte]; rfl)⟩ (Nat.le_refl _) (Nat.le_refl _) d_W_isDueAmount_88
  by_cases c_5 : f = 3
  · refine lv_tableIn (tgt := 89) hx hb d_W_isDueAmount_1 (by rw [c_5]; decide) (by rw [c_5]; decide) (by rw [c_5]; rfl) (by decide) ?_
    refine lv_iload_n hx hb d_W_isDueAmount_89 rfl (lv_at hl 2 rfl) ?_
    refine lv_iconst (v := 1) hx hb d_W_isDueAmount_90 (by decide) ?_
    refine lv_bipush (v := 125) hx hb d_W_isDueAmount_91 (by decide) ?_
    refine g_cSi (rest := []) S G (c_W_isFromTo l D cA n 1 125) (va_cwS 3 S.2.2.2.2 ml_W_114 rfl rfl rfl (by decide +kernel) ⟨Nat.le_of_ble_eq_true rfl, Nat.le_of_ble_eq_true rfl⟩) [] [0, 1, 2, 3, 4, 5, 6, 7, 8, 9, 10, 11, 12, 13] rfl rfl rfl rfl (by decide) rfl hl.1 rfl (Nat.le_of_ble_eq_true rfl) d_W_isDueAmount_93 ⟨Nat.le_of_ble_eq_true rfl, Nat.le_of_ble_eq_true rfl⟩ (fun rp_6 wp_6 H locs hp_6 G => ?_)
    obtain ⟨rfl, rfl⟩ := hp_6
    have G := G.sub (ws' := wW cA a σ) [0, 1, 2, 3, 4, 5, 6, 7, 8, 9, 10, 11, 12, 13] rfl (ww_id cA a _)
    exact g_retz S hr hlk (by first | rfl | exact isFT_nar _ _ _) G ⟨by first | rfl | (simp only [dueA, eq_false c_1, eq_false c_3, eq_true c_5, ↓reduceIte]; done) | (simp only [dueA, eq_false c_1, eq_false c_3, eq_true c_5, ↓reduceIte]; rfl), by first | rfl | (simp only [dueA, eq_false c_1, eq_false c_3, eq_true c_5, ↓reduceIte]; done) | (simp only [dueA, eq_false c_1, eq_false c_3, eq_true c_5, ↓reduceIte]; rfl)⟩ (Nat.le_refl _) (Nat.le_refl _) d_W_isDueAmount_96
  by_cases c_7 : f = 4
  · refine lv_tableIn (tgt := 89) hx hb d_W_isDueAmount_1 (by rw [c_7]; decide) (by rw [c_7]; decide) (by rw [c_7]; rfl) (by decide) ?_
    refine lv_iload_n hx hb d_W_isDueAmount_89 rfl (lv_at hl 2 rfl) ?_
    refine lv_iconst (v := 1) hx hb d_W_isDueAmount_90 (by decide) ?_
    refine lv_bipush (v := 125) hx hb d_W_isDueAmount_91 (by decide) ?_
    refine g_cSi (rest := []) S G (c_W_isFromTo l D cA n 1 125) (va_cwS 3 S.2.2.2.2 ml_W_114 rfl rfl rfl (by decide +kernel) ⟨Nat.le_of_ble_eq_true rfl, Nat.le_of_ble_eq_true rfl⟩) [] [0, 1, 2, 3, 4, 5, 6, 7, 8, 9, 10, 11, 12, 13] rfl rfl rfl rfl (by decide) rfl hl.1 rfl (Nat.le_of_ble_eq_true rfl) d_W_isDueAmount_93 ⟨Nat.le_of_ble_eq_true rfl, Nat.le_of_ble_eq_true rfl⟩ (fun rp_8 wp_8 H locs hp_8 G => ?_)
    obtain ⟨rfl, rfl⟩ := hp_8
    have G := G.sub (ws' := wW cA a σ) [0, 1, 2, 3, 4, 5, 6, 7, 8, 9, 10, 11, 12, 13] rfl (ww_id cA a _)
    exact g_retz S hr hlk (by first | rfl | exact isFT_nar _ _ _) G ⟨by first | rfl | (simp only [dueA, eq_false c_1, eq_false c_3, eq_false c_5, eq_true c_7, ↓reduceIte]; done) | (simp only [dueA, eq_false c_1, eq_false c_3, eq_false c_5, eq_true c_7, ↓reduceIte]; rfl), by first | rfl | (simp only [dueA, eq_false c_1, eq_false c_3, eq_false c_5, eq_true c_7, ↓reduceIte]; done) | (simp only [dueA, eq_false c_1, eq_false c_3, eq_false c_5, eq_true c_7, ↓reduceIte]; rfl)⟩ (Nat.le_refl _) (Nat.le_refl _) d_W_isDueAmount_96
  by_cases c_9 : f = 5
  · refine lv_tableIn (tgt := 97) hx hb d_W_isDueAmount_1 (by rw [c_9]; decide) (by rw [c_9]; decide) (by rw [c_9]; rfl) (by decide) ?_
    refine lv_iload_n hx hb d_W_isDueAmount_97 rfl (lv_at hl 2 rfl) ?_
    refine lv_if_eq (tgt := 107) hx hb d_W_isDueAmount_98 (by decide) (fun c_10 => ?_) (fun c_10 => ?_)
    · refine lv_iconst (v := 1) hx hb d_W_isDueAmount_107 (by decide) ?_
      refine lv_goto (tgt := 112) hx hb d_W_isDueAmount_108 (by decide) ?_
      exact g_retz S hr hlk (by first | rfl | exact isFT_nar _ _ _) G ⟨by first | rfl | (simp only [dueA, eq_false c_1, eq_false c_3, eq_false c_5, eq_false c_7, eq_true c_9, eq_true c_10, ↓reduceIte]; done) | (simp only [dueA, eq_false c_1, eq_false c_3, eq_false c_5, eq_false c_7, eq_true c_9, eq_true c_10, ↓reduceIte]; rfl), by first | rfl | (simp only [dueA, eq_false c_1, eq_false c_3, eq_false c_5, eq_false c_7, eq_true c_9, eq_true c_10, ↓reduceIte]; done) | (simp only [dueA, eq_false c_1, eq_false c_3, eq_false c_5, eq_false c_7, eq_true c_9, eq_true c_10, ↓reduceIte]; rfl)⟩ (Nat.le_refl _) (Nat.le_refl _) d_W_isDueAmount_112
    · refine lv_iload_n hx hb d_W_isDueAmount_101 rfl (lv_at hl 2 rfl) ?_
      refine lv_ldc (v := 65280) hx hb S.2.2.2.1 (S.2.2.2.2 _ kn_W_158) d_W_isDueAmount_102 ?_
      refine lv_icmp_ne (tgt := 111) hx hb d_W_isDueAmount_104 (by decide) (fun c_11 => ?_) (fun c_11 => ?_)
      · refine lv_iconst (v := 0) hx hb d_W_isDueAmount_111 (by decide) ?_
        exact g_retz S hr hlk (by first | rfl | exact isFT_nar _ _ _) G ⟨by first | rfl | (simp only [dueA, eq_false c_1, eq_false c_3, eq_false c_5, eq_false c_7, eq_true c_9, eq_false c_10, eq_false c_11, ↓reduceIte]; done) | (simp only [dueA, eq_false c_1, eq_false c_3, eq_false c_5, eq_false c_7, eq_true c_9, eq_false c_10, eq_false c_11, ↓reduceIte]; rfl), by first | rfl | (simp only [dueA, eq_false c_1, eq_false c_3, eq_false c_5, eq_false c_7, eq_true c_9, eq_false c_10, eq_false c_11, ↓reduceIte]; done) | (simp only [dueA, eq_false c_1, eq_false c_3, eq_false c_5, eq_false c_7, eq_true c_9, eq_false c_10, eq_false c_11, ↓reduceIte]; rfl)⟩ (Nat.le_refl _) (Nat.le_refl _) d_W_isDueAmount_112
      · refine lv_iconst (v := 1) hx hb d_W_isDueAmount_107 (by decide) ?_
        refine lv_goto (tgt := 112) hx hb d_W_isDueAmount_108 (by decide) ?_
        exact g_retz S hr hlk (by first | rfl | exact isFT_nar _ _ _) G ⟨by first | rfl | (simp only [dueA, eq_false c_1, eq_false c_3, eq_false c_5, eq_false c_7, eq_true c_9, eq_false c_10, eq_true c_11, ↓reduceIte]; done) | (simp only [dueA, eq_false c_1, eq_false c_3, eq_false c_5, eq_false c_7, eq_true c_9, eq_false c_10, eq_true c_11, ↓reduceIte]; rfl), by first | rfl | (simp only [dueA, eq_false c_1, eq_false c_3, eq_false c_5, eq_false c_7, eq_true c_9, eq_false c_10, eq_true c_11, ↓reduceIte]; done) | (simp only [dueA, eq_false c_1, eq_false c_3, eq_false c_5, eq_false c_7, eq_true c_9, eq_false c_10, eq_true c_11, ↓reduceIte]; rfl)⟩ (Nat.le_refl _) (Nat.le_refl _) d_W_isDueAmount_112
  by_cases c_12 : f = 6
  · refine lv_tableIn (tgt := 113) hx hb d_W_isDueAmount_1 (by rw [c_12]; decide) (by rw [c_12]; decide) (by rw [c_12]; rfl) (by decide) ?_
    refine lv_iconst (v := 1) hx hb d_W_isDueAmount_113 (by decide) ?_
    exact g_retz S hr hlk (by first | rfl | exact isFT_nar _ _ _) G ⟨by first | rfl | (simp only [dueA, eq_false c_1, eq_false c_3, eq_false c_5, eq_false c_7, eq_false c_9, eq_true c_12, ↓reduceIte]; done) | (simp only [dueA, eq_false c_1, eq_false c_3, eq_false c_5, eq_false c_7, eq_false c_9, eq_true c_12, ↓reduceIte]; rfl), by first | rfl | (simp only [dueA, eq_false c_1, eq_false c_3, eq_false c_5, eq_false c_7, eq_false c_9, eq_true c_12, ↓reduceIte]; done) | (simp only [dueA, eq_false c_1, eq_false c_3, eq_false c_5, eq_false c_7, eq_false c_9, eq_true c_12, ↓reduceIte]; rfl)⟩ (Nat.le_refl _) (Nat.le_refl _) d_W_isDueAmount_114
  by_cases c_13 : f = 15
  · refine lv_tableIn (tgt := 115) hx hb d_W_isDueAmount_1 (by rw [c_13]; decide) (by rw [c_13]; decide) (by rw [c_13]; rfl) (by decide) ?_
    refine lv_iload_n hx hb d_W_isDueAmount_115 rfl (lv_at hl 2 rfl) ?_
    refine lv_iconst (v := 1) hx hb d_W_isDueAmount_116 (by decide) ?_
    refine lv_sipush (v := 1968) hx hb d_W_isDueAmount_117 (by decide) ?_
    refine g_cSi (rest := []) S G (c_W_isFromTo l D cA n 1 1968) (va_cwS 3 S.2.2.2.2 ml_W_114 rfl rfl rfl (by decide +kernel) ⟨Nat.le_of_ble_eq_true rfl, Nat.le_of_ble_eq_true rfl⟩) [] [0, 1, 2, 3, 4, 5, 6, 7, 8, 9, 10, 11, 12, 13] rfl rfl rfl rfl (by decide) rfl hl.1 rfl (Nat.le_of_ble_eq_true rfl) d_W_isDueAmount_120 ⟨Nat.le_of_ble_eq_true rfl, Nat.le_of_ble_eq_true rfl⟩ (fun rp_14 wp_14 H locs hp_14 G => ?_)
    obtain ⟨rfl, rfl⟩ := hp_14
    have G := G.sub (ws' := wW cA a σ) [0, 1, 2, 3, 4, 5, 6, 7, 8, 9, 10, 11, 12, 13] rfl (ww_id cA a _)
    refine lv_if_eq (tgt := 142) hx hb d_W_isDueAmount_123 (by decide) (fun c_15 => ?_) (fun c_15 => ?_)
    · refine lv_iconst (v := 0) hx hb d_W_isDueAmount_142 (by decide) ?_
      exact g_retz S hr hlk (by first | rfl | exact isFT_nar _ _ _) G ⟨by first | rfl | (simp only [dueA, eq_false c_1, eq_false c_3, eq_false c_5, eq_false c_7, eq_false c_9, eq_false c_12, eq_true c_13, eq_true c_15, ↓reduceIte]; done) | (simp only [dueA, eq_false c_1, eq_false c_3, eq_false c_5, eq_false c_7, eq_false c_9, eq_false c_12, eq_true c_13, eq_true c_15, ↓reduceIte]; rfl), by first | rfl | (simp only [dueA, eq_false c_1, eq_false c_3, eq_false c_5, eq_false c_7, eq_false c_9, eq_false c_12, eq_true c_13, eq_true c_15, ↓reduceIte]; done) | (simp only [dueA, eq_false c_1, eq_false c_3, eq_false c_5, eq_false c_7, eq_false c_9, eq_false c_12, eq_true c_13, eq_true c_15, ↓reduceIte]; rfl)⟩ (Nat.le_refl _) (Nat.le_refl _) d_W_isDueAmount_143
    · refine lv_aload_n hx hb d_W_isDueAmount_126 rfl (lv_at hl 0 rfl) ?_
      refine lv_iconst (v := 4) hx hb d_W_isDueAmount_127 (by decide) ?_
      refine g_cVi (rest := []) S G (c_W_data l D cA a σ 4) (cwV 1 S.2.2.2.2 ml_W_121 rfl rfl rfl (by decide +kernel) ⟨Nat.le_of_ble_eq_true rfl, Nat.le_of_ble_eq_true rfl⟩) [0, 1, 2, 3, 4, 5, 6, 7, 8, 9, 10, 11, 12, 13] [] rfl rfl rfl rfl (by decide) 0 rfl rfl rfl hl.1 rfl (Nat.le_of_ble_eq_true rfl) d_W_isDueAmount_128 ⟨Nat.le_of_ble_eq_true rfl, Nat.le_of_ble_eq_true rfl⟩ (fun rp_16 wp_16 H locs hp_16 G => ?_)
      obtain ⟨rfl, rfl⟩ := hp_16
      have G : Gw D vwCl [(cA, .int)] AA ss ss.heap H locs (wW cA a σ) := G
      refine lv_iload_n hx hb d_W_isDueAmount_131 rfl (lv_at hl 2 rfl) ?_
      refine g_cSi (rest := [.int (dAt σ 4)]) S G (c_W_bytesForBits l D cA n) (va_cwS 1 S.2.2.2.2 ml_W_159 rfl rfl rfl (by decide +kernel) ⟨Nat.le_of_ble_eq_true rfl, Nat.le_of_ble_eq_true rfl⟩) [] [0, 1, 2, 3, 4, 5, 6, 7, 8, 9, 10, 11, 12, 13] rfl rfl rfl rfl (by decide) rfl hl.1 rfl (Nat.le_of_ble_eq_true rfl) d_W_isDueAmount_132 ⟨Nat.le_of_ble_eq_true rfl, Nat.le_of_ble_eq_true rfl⟩ (fun rp_17 wp_17 H locs hp_17 G => ?_)
      obtain ⟨rfl, rfl⟩ := hp_17
      have G := G.sub (ws' := wW cA a σ) [0, 1, 2, 3, 4, 5, 6, 7, 8, 9, 10, 11, 12, 13] rfl (ww_id cA a _)
      refine lv_icmp_ne (tgt := 142) hx hb d_W_isDueAmount_135 (by decide) (fun c_18 => ?_) (fun c_18 => ?_)
      · refine lv_iconst (v := 0) hx hb d_W_isDueAmount_142 (by decide) ?_
        exact g_retz S hr hlk (by first | rfl | exact isFT_nar _ _ _) G ⟨by first | rfl | (simp only [dueA, eq_false c_1, eq_false c_3, eq_false c_5, eq_false c_7, eq_false c_9, eq_false c_12, eq_true c_13, eq_false c_15, eq_false c_18, ↓reduceIte]; done) | (simp only [dueA, eq_false c_1, eq_false c_3, eq_false c_5, eq_false c_7, eq_false c_9, eq_false c_12, eq_true c_13, eq_false c_15, eq_false c_18, ↓reduceIte]; rfl), by first | rfl | (simp only [dueA, eq_false c_1, eq_false c_3, eq_false c_5, eq_false c_7, eq_false c_9, eq_false c_12, eq_true c_13, eq_false c_15, eq_false c_18, ↓reduceIte]; done) | (simp only [dueA, eq_false c_1, eq_false c_3, eq_false c_5, eq_false c_7, eq_false c_9, eq_false c_12, eq_true c_13, eq_false c_15, eq_false c_18, ↓reduceIte]; rfl)⟩ (Nat.le_refl _) (Nat.le_refl _) d_W_isDueAmount_143
      · refine lv_iconst (v := 1) hx hb d_W_isDueAmount_138 (by decide) ?_
        refine lv_goto (tgt := 143) hx hb d_W_isDueAmount_139 (by decide) ?_
        exact g_retz S hr hlk (by first | rfl | exact isFT_nar _ _ _) G ⟨by first | rfl | (simp only [dueA, eq_false c_1, eq_false c_3, eq_false c_5, eq_false c_7, eq_false c_9, eq_false c_12, eq_true c_13, eq_false c_15, eq_true c_18, ↓reduceIte]; done) | (simp only [dueA, eq_false c_1, eq_false c_3, eq_false c_5, eq_false c_7, eq_false c_9, eq_false c_12, eq_true c_13, eq_false c_15, eq_true c_18, ↓reduceIte]; rfl), by first | rfl | (simp only [dueA, eq_false c_1, eq_false c_3, eq_false c_5, eq_false c_7, eq_false c_9, eq_false c_12, eq_true c_13, eq_false c_15, eq_true c_18, ↓reduceIte]; done) | (simp only [dueA, eq_false c_1, eq_false c_3, eq_false c_5, eq_false c_7, eq_false c_9, eq_false c_12, eq_true c_13, eq_false c_15, eq_true c_18, ↓reduceIte]; rfl)⟩ (Nat.le_refl _) (Nat.le_refl _) d_W_isDueAmount_143
  by_cases c_19 : f = 16
  · refine lv_tableIn (tgt := 144) hx hb d_W_isDueAmount_1 (by rw [c_19]; decide) (by rw [c_19]; decide) (by rw [c_19]; rfl) (by decide) ?_
    refine lv_iload_n hx hb d_W_isDueAmount_144 rfl (lv_at hl 2 rfl) ?_
    refine lv_iconst (v := 1) hx hb d_W_isDueAmount_145 (by decide) ?_
    refine lv_bipush (v := 123) hx hb d_W_isDueAmount_146 (by decide) ?_
    refine g_cSi (rest := []) S G (c_W_isFromTo l D cA n 1 123) (va_cwS 3 S.2.2.2.2 ml_W_114 rfl rfl rfl (by decide +kernel) ⟨Nat.le_of_ble_eq_true rfl, Nat.le_of_ble_eq_true rfl⟩) [] [0, 1, 2, 3, 4, 5, 6, 7, 8, 9, 10, 11, 12, 13] rfl rfl rfl rfl (by decide) rfl hl.1 rfl (Nat.le_of_ble_eq_true rfl) d_W_isDueAmount_148 ⟨Nat.le_of_ble_eq_true rfl, Nat.le_of_ble_eq_true rfl⟩ (fun rp_20 wp_20 H locs hp_20 G => ?_)
    obtain ⟨rfl, rfl⟩ := hp_20
    have G := G.sub (ws' := wW cA a σ) [0, 1, 2, 3, 4, 5, 6, 7, 8, 9, 10, 11, 12, 13] rfl (ww_id cA a _)
    refine lv_if_eq (tgt := 169) hx hb d_W_isDueAmount_151 (by decide) (fun c_21 => ?_) (fun c_21 => ?_)
    · refine lv_iconst (v := 0) hx hb d_W_isDueAmount_169 (by decide) ?_
      exact g_retz S hr hlk (by first | rfl | exact isFT_nar _ _ _) G ⟨by first | rfl | (simp only [dueA, eq_false c_1, eq_false c_3, eq_false c_5, eq_false c_7, eq_false c_9, eq_false c_12, eq_false c_13, eq_true c_19, eq_true c_21, ↓reduceIte]; done) | (simp only [dueA, eq_false c_1, eq_false c_3, eq_false c_5, eq_false c_7, eq_false c_9, eq_false c_12, eq_false c_13, eq_true c_19, eq_true c_21, ↓reduceIte]; rfl), by first | rfl | (simp only [dueA, eq_false c_1, eq_false c_3, eq_false c_5, eq_false c_7, eq_false c_9, eq_false c_12, eq_false c_13, eq_true c_19, eq_true c_21, ↓reduceIte]; done) | (simp only [dueA, eq_false c_1, eq_false c_3, eq_false c_5, eq_false c_7, eq_false c_9, eq_false c_12, eq_false c_13, eq_true c_19, eq_true c_21, ↓reduceIte]; rfl)⟩ (Nat.le_refl _) (Nat.le_refl _) d_W_isDueAmount_170
    · refine lv_aload_n hx hb d_W_isDueAmount_154 rfl (lv_at hl 0 rfl) ?_
      refine lv_iconst (v := 4) hx hb d_W_isDueAmount_155 (by decide) ?_
      refine g_cVi (rest := []) S G (c_W_data l D cA a σ 4) (cwV 1 S.2.2.2.2 ml_W_121 rfl rfl rfl (by decide +kernel) ⟨Nat.le_of_ble_eq_true rfl, Nat.le_of_ble_eq_true rfl⟩) [0, 1, 2, 3, 4, 5, 6, 7, 8, 9, 10, 11, 12, 13] [] rfl rfl rfl rfl (by decide) 0 rfl rfl rfl hl.1 rfl (Nat.le_of_ble_eq_true rfl) d_W_isDueAmount_156 ⟨Nat.le_of_ble_eq_true rfl, Nat.le_of_ble_eq_true rfl⟩ (fun rp_22 wp_22 H locs hp_22 G => ?_)
      obtain ⟨rfl, rfl⟩ := hp_22
      have G : Gw D vwCl [(cA, .int)] AA ss ss.heap H locs (wW cA a σ) := G
      refine lv_iconst (v := 2) hx hb d_W_isDueAmount_159 (by decide) ?_
      refine lv_iload_n hx hb d_W_isDueAmount_160 rfl (lv_at hl 2 rfl) ?_
      refine lv_imul hx hb d_W_isDueAmount_161 ?_
      refine lv_icmp_ne (tgt := 169) hx hb d_W_isDueAmount_162 (by decide) (fun c_23 => ?_) (fun c_23 => ?_)
      · refine lv_iconst (v := 0) hx hb d_W_isDueAmount_169 (by decide) ?_
        exact g_retz S hr hlk (by first | rfl | exact isFT_nar _ _ _) G ⟨by first | rfl | (simp only [dueA, eq_false c_1, eq_false c_3, eq_false c_5, eq_false c_7, eq_false c_9, eq_false c_12, eq_false c_13, eq_true c_19, eq_false c_21, eq_false c_23, ↓reduceIte]; done) | (simp only [dueA, eq_false c_1, eq_false c_3, eq_false c_5, eq_false c_7, eq_false c_9, eq_false c_12, eq_false c_13, eq_true c_19, eq_false c_21, eq_false c_23, ↓reduceIte]; rfl), by first | rfl | (simp only [dueA, eq_false c_1, eq_false c_3, eq_false c_5, eq_false c_7, eq_false c_9, eq_false c_12, eq_false c_13, eq_true c_19, eq_false c_21, eq_false c_23, ↓reduceIte]; done) | (simp only [dueA, eq_false c_1, eq_false c_3, eq_false c_5, eq_false c_7, eq_false c_9, eq_false c_12, eq_false c_13, eq_true c_19, eq_false c_21, eq_false c_23, ↓reduceIte]; rfl)⟩ (Nat.le_refl _) (Nat.le_refl _) d_W_isDueAmount_170
      · refine lv_iconst (v := 1) hx hb d_W_isDueAmount_165 (by decide) ?_
        refine lv_goto (tgt := 170) hx hb d_W_isDueAmount_166 (by decide) ?_
        exact g_retz S hr hlk (by first | rfl | exact isFT_nar _ _ _) G ⟨by first | rfl | (simp only [dueA, eq_false c_1, eq_false c_3, eq_false c_5, eq_false c_7, eq_false c_9, eq_false c_12, eq_false c_13, eq_true c_19, eq_false c_21, eq_true c_23, ↓reduceIte]; done) | (simp only [dueA, eq_false c_1, eq_false c_3, eq_false c_5, eq_false c_7, eq_false c_9, eq_false c_12, eq_false c_13, eq_true c_19, eq_false c_21, eq_true c_23, ↓reduceIte]; rfl), by first | rfl | (simp only [dueA, eq_false c_1, eq_false c_3, eq_false c_5, eq_false c_7, eq_false c_9, eq_false c_12, eq_false c_13, eq_true c_19, eq_false c_21, eq_true c_23, ↓reduceIte]; done) | (simp only [dueA, eq_false c_1, eq_false c_3, eq_false c_5, eq_false c_7, eq_false c_9, eq_false c_12, eq_false c_13, eq_true c_19, eq_false c_21, eq_true c_23, ↓reduceIte]; rfl)⟩ (Nat.le_refl _) (Nat.le_refl _) d_W_isDueAmount_170
  have nc_1 := lv_neT c_1 (a := 1) (by decide)
  have nc_3 := lv_neT c_3 (a := 2) (by decide)
  have nc_5 := lv_neT c_5 (a := 3) (by decide)
  have nc_7 := lv_neT c_7 (a := 4) (by decide)
  have nc_9 := lv_neT c_9 (a := 5) (by decide)
  have nc_12 := lv_neT c_12 (a := 6) (by decide)
  have nc_13 := lv_neT c_13 (a := 15) (by decide)
  have nc_19 := lv_neT c_19 (a := 16) (by decide)
  refine g_table (tgt := 171) (off := 170) hx hb d_W_isDueAmount_1 ?_ (by decide) ?_
  · rcases (show (f.toInt < 1 ∨ 16 < f.toInt) ∨ f.toInt = 7 ∨ f.toInt = 8 ∨ f.toInt = 9 ∨ f.toInt = 10 ∨ f.toInt = 11 ∨ f.toInt = 12 ∨ f.toInt = 13 ∨ f.toInt = 14 by omega) with h | h | h | h | h | h | h | h | h
    · exact if_pos h
    · rw [h]; rfl
    · rw [h]; rfl
    · rw [h]; rfl
    · rw [h]; rfl
    · rw [h]; rfl
    · rw [h]; rfl
    · rw [h]; rfl
    · rw [h]; rfl
  refine lv_iconst (v := 0) hx hb d_W_isDueAmount_171 (by decide) ?_
  exact g_retz S hr hlk (by first | rfl | exact isFT_nar _ _ _) G ⟨by first | rfl | (simp only [dueA, eq_false c_1, eq_false c_3, eq_false c_5, eq_false c_7, eq_false c_9, eq_false c_12, eq_false c_13, eq_false c_19, ↓reduceIte]; done) | (simp only [dueA, eq_false c_1, eq_false c_3, eq_false c_5, eq_false c_7, eq_false c_9, eq_false c_12, eq_false c_13, eq_false c_19, ↓reduceIte]; rfl), by first | rfl | (simp only [dueA, eq_false c_1, eq_false c_3, eq_false c_5, eq_false c_7, eq_false c_9, eq_false c_12, eq_false c_13, eq_false c_19, ↓reduceIte]; done) | (simp only [dueA, eq_false c_1, eq_false c_3, eq_false c_5, eq_false c_7, eq_false c_9, eq_false c_12, eq_false c_13, eq_false c_19, ↓reduceIte]; rfl)⟩ (Nat.le_refl _) (Nat.le_refl _) d_W_isDueAmount_172
