abbrev rm_W_tally : Room := { frames := 0, cells := 0, slots := 0, locals := 0 }
set_option maxHeartbeats 4000000 in
set_option maxRecDepth 100000 in
theorem c_W_tally (l : Launch) (D : va_G) (cA : ClassId) (a : Nat → Nat) (σ : St) (x : Int32)  : Cv l y_W_tally w_W_tally rm_W_tally D vwCl [(cA, .int)] [.ref (a 0), .int x] (wW cA a σ) 0 0 (fun w0 => w0 = wW cA a (wTal σ x)) := by
  refine Cv.of (Ts := lw_g) (own := "WireSlave") (cc := b_W_tally) (maxL := 2) (ret := none) (lv := [(0, .ref (a 0)), (1, .int x)]) (by decide) rfl rfl (fun w h => List.mem_cons_of_mem _ h) (Nat.le_of_ble_eq_true rfl) rfl ?_
  intro pp ee ss mm args below meth cx AA S hr hlk hnm G ls hl
  have hx := S.1
  have hb := S.2.1
  refine lv_iload_n hx hb d_W_tally_0 rfl (lv_at hl 1 rfl) ?_
  refine lv_if_lt (tgt := 23) hx hb d_W_tally_1 (by decide) (fun c_1 => ?_) (fun c_1 => ?_)
  · exact g_retv S hr hlk G (by first | rfl | (simp only [wTal, eq_true c_1, ↓reduceIte]; done) | (simp only [wTal, eq_true c_1, ↓reduceIte]; rfl)) (Nat.le_refl _) (Nat.le_refl _) d_W_tally_23
  · refine lv_iload_n hx hb d_W_tally_4 rfl (lv_at hl 1 rfl) ?_
    refine lv_aload_n hx hb d_W_tally_5 rfl (lv_at hl 0 rfl) ?_
    refine g_get S G in_W 0 rfl rfl 7 (by decide) fl_W_53 rfl d_W_tally_6 ?_
    refine g_alen S G 13 0 rfl rfl 6 rfl d_W_tally_9 ?_
    refine lv_icmp_ge (tgt := 23) hx hb d_W_tally_10 (by decide) (fun c_2 => ?_) (fun c_2 => ?_)
    · exact g_retv S hr hlk G (by first | rfl | (simp only [wTal, eq_false c_1, eq_true c_2, ↓reduceIte]; done) | (simp only [wTal, eq_false c_1, eq_true c_2, ↓reduceIte]; rfl)) (Nat.le_refl _) (Nat.le_refl _) d_W_tally_23
    · refine lv_aload_n hx hb d_W_tally_13 rfl (lv_at hl 0 rfl) ?_
      refine g_get S G in_W 0 rfl rfl 7 (by decide) fl_W_53 rfl d_W_tally_14 ?_
      refine lv_iload_n hx hb d_W_tally_17 rfl (lv_at hl 1 rfl) ?_
      refine lv_dup2_11 hx hb d_W_tally_18 rfl rfl ?_
      refine g_iald S G 13 0 rfl rfl (vin_ge (n := 6) c_1 c_2 (by decide)) d_W_tally_19 ?_
      refine lv_iconst (v := 1) hx hb d_W_tally_20 (by decide) ?_
      refine lv_iadd hx hb d_W_tally_21 ?_
      refine g_iast S G 13 0 rfl rfl (vin_ge (n := 6) c_1 c_2 (by decide)) (wW cA a (sU σ 7 x.toNatClampNeg (((σ 7) x.toNatClampNeg) + 1))) (ww_cnt cA a _ _ _) d_W_tally_22 (fun H locs G => ?_)
      exact g_retv S hr hlk G (by first | rfl | (simp only [wTal, eq_false c_1, eq_false c_2, ↓reduceIte]; done) | (simp only [wTal, eq_false c_1, eq_false c_2, ↓reduceIte]; rfl)) (Nat.le_refl _) (Nat.le_refl _) d_W_tally_23

abbrev rm_W_takeByte : Room := { frames := 1, cells := 0, slots := 0, locals := 21 }
set_option maxHeartbeats 4000000 in
set_option maxRecDepth 100000 in
theorem c_W_takeByte (l : Launch) (D : va_G) (cA : ClassId) (a : Nat → Nat) (σ : St) (b : Int32)  : Cv l y_W_takeByte w_W_takeByte rm_W_takeByte D vwCl [(cA, .int)] [.ref (a 0), .int b] (wW cA a σ) 0 0 (fun w0 => w0 = wW cA a (wTake σ b)) := by
  refine Cv.of (Ts := lw_g) (own := "WireSlave") (cc := b_W_takeByte) (maxL := 2) (ret := none) (lv := [(0, .ref (a 0)), (1, .int b)]) (by decide) rfl rfl (fun w h => List.mem_cons_of_mem _ h) (Nat.le_of_ble_eq_true rfl) rfl ?_
  intro pp ee ss mm args below meth cx AA S hr hlk hnm G ls hl
  have hx := S.1
  have hb := S.2.1
  refine lv_aload_n hx hb d_W_takeByte_0 rfl (lv_at hl 0 rfl) ?_
  refine g_get S G in_W 0 rfl rfl 5 (by decide) fl_W_46 rfl d_W_takeByte_1 ?_
  refine g_cVi (rest := []) S G (c_B_size l D cA (a 9) (a 10) 257 (σ 5) (σ 0 3)) (cwV 0 S.2.2.2.2 ml_W_68 rfl rfl rfl (by decide +kernel) ⟨Nat.le_of_ble_eq_true rfl, Nat.le_of_ble_eq_true rfl⟩) [9, 10] [0, 1, 2, 3, 4, 5, 6, 7, 8, 11, 12, 13] rfl rfl rfl rfl (by decide) 9 rfl rfl rfl hl.1 rfl (Nat.le_of_ble_eq_true rfl) d_W_takeByte_4 ⟨Nat.le_of_ble_eq_true rfl, Nat.le_of_ble_eq_true rfl⟩ (fun rp_1 wp_1 H locs hp_1 G => ?_)
  obtain ⟨rfl, rfl⟩ := hp_1
  have G := G.sub (ws' := wW cA a σ) [0, 1, 2, 3, 4, 5, 6, 7, 8, 12, 13, 9, 10, 11] rfl (ww_B9 cA a _)
  refine lv_if_le (tgt := 24) hx hb d_W_takeByte_7 (by decide) (fun c_2 => ?_) (fun c_2 => ?_)
  · refine lv_aload_n hx hb d_W_takeByte_24 rfl (lv_at hl 0 rfl) ?_
    refine lv_iconst (v := 0) hx hb d_W_takeByte_25 (by decide) ?_
    refine g_put S G in_W ft_W tok_W nm_W 0 rfl rfl 8 (by decide) fl_W_57 rfl rfl rfl (Nat.le_of_ble_eq_true rfl) (wW cA a (sU σ 0 1 0)) (ww_pgap cA a _ _) d_W_takeByte_26 (fun H locs G => ?_)
    refine lv_aload_n hx hb d_W_takeByte_29 rfl (lv_at hl 0 rfl) ?_
    refine g_get S G in_W 0 rfl rfl 5 (by decide) fl_W_46 rfl d_W_takeByte_30 ?_
    refine lv_iload_n hx hb d_W_takeByte_33 rfl (lv_at hl 1 rfl) ?_
    refine g_cVv (rest := []) S G (c_B_append l D cA (a 9) (a 10) 257 ((sU σ 0 1 0) 5) ((sU σ 0 1 0) 0 3) b (by decide)) (cwV 1 S.2.2.2.2 ml_W_95 rfl rfl rfl (by decide +kernel) ⟨Nat.le_of_ble_eq_true rfl, Nat.le_of_ble_eq_true rfl⟩) [9, 10] [0, 1, 2, 3, 4, 5, 6, 7, 8, 11, 12, 13] rfl rfl rfl rfl (by decide) 9 rfl rfl rfl hl.1 rfl (Nat.le_of_ble_eq_true rfl) d_W_takeByte_34 ⟨Nat.le_of_ble_eq_true rfl, Nat.le_of_ble_eq_true rfl⟩ (fun wp_3 H locs hp_3 G => ?_)
    subst hp_3
    have G := G.sub (ws' := wW cA a (wApF (sU σ 0 1 0) b)) [0, 1, 2, 3, 4, 5, 6, 7, 8, 12, 13, 9, 10, 11] rfl (ww_aB9 cA a _ _)
    exact g_retv S hr hlk G (by first | rfl | (simp only [wTake, eq_true c_2, ↓reduceIte]; done) | (simp only [wTake, eq_true c_2, ↓reduceIte]; rfl)) (Nat.le_refl _) (Nat.le_refl _) d_W_takeByte_37
  · refine lv_aload_n hx hb d_W_takeByte_10 rfl (lv_at hl 0 rfl) ?_
    refine g_get S G in_W 0 rfl rfl 8 (by decide) fl_W_57 rfl d_W_takeByte_11 ?_
    refine lv_bipush (v := 7) hx hb d_W_takeByte_14 (by decide) ?_
    refine lv_icmp_lt (tgt := 24) hx hb d_W_takeByte_16 (by decide) (fun c_4 => ?_) (fun c_4 => ?_)
    · refine lv_aload_n hx hb d_W_takeByte_24 rfl (lv_at hl 0 rfl) ?_
      refine lv_iconst (v := 0) hx hb d_W_takeByte_25 (by decide) ?_
      refine g_put S G in_W ft_W tok_W nm_W 0 rfl rfl 8 (by decide) fl_W_57 rfl rfl rfl (Nat.le_of_ble_eq_true rfl) (wW cA a (sU σ 0 1 0)) (ww_pgap cA a _ _) d_W_takeByte_26 (fun H locs G => ?_)
      refine lv_aload_n hx hb d_W_takeByte_29 rfl (lv_at hl 0 rfl) ?_
      refine g_get S G in_W 0 rfl rfl 5 (by decide) fl_W_46 rfl d_W_takeByte_30 ?_
      refine lv_iload_n hx hb d_W_takeByte_33 rfl (lv_at hl 1 rfl) ?_
      refine g_cVv (rest := []) S G (c_B_append l D cA (a 9) (a 10) 257 ((sU σ 0 1 0) 5) ((sU σ 0 1 0) 0 3) b (by decide)) (cwV 1 S.2.2.2.2 ml_W_95 rfl rfl rfl (by decide +kernel) ⟨Nat.le_of_ble_eq_true rfl, Nat.le_of_ble_eq_true rfl⟩) [9, 10] [0, 1, 2, 3, 4, 5, 6, 7, 8, 11, 12, 13] rfl rfl rfl rfl (by decide) 9 rfl rfl rfl hl.1 rfl (Nat.le_of_ble_eq_true rfl) d_W_takeByte_34 ⟨Nat.le_of_ble_eq_true rfl, Nat.le_of_ble_eq_true rfl⟩ (fun wp_5 H locs hp_5 G => ?_)
      subst hp_5
      have G := G.sub (ws' := wW cA a (wApF (sU σ 0 1 0) b)) [0, 1, 2, 3, 4, 5, 6, 7, 8, 12, 13, 9, 10, 11] rfl (ww_aB9 cA a _ _)
      exact g_retv S hr hlk G (by first | rfl | (simp only [wTake, eq_false c_2, eq_true c_4, ↓reduceIte]; done) | (simp only [wTake, eq_false c_2, eq_true c_4, ↓reduceIte]; rfl)) (Nat.le_refl _) (Nat.le_refl _) d_W_takeByte_37
    · refine lv_aload_n hx hb d_W_takeByte_19 rfl (lv_at hl 0 rfl) ?_
      refine lv_iconst (v := 1) hx hb d_W_takeByte_20 (by decide) ?_
      refine g_put S G in_W ft_W tok_W nm_W 0 rfl rfl 9 (by decide) fl_W_60 rfl rfl rfl (Nat.le_of_ble_eq_true rfl) (wW cA a (sU σ 0 2 1)) (ww_pspoilt cA a _ _) d_W_takeByte_21 (fun H locs G => ?_)
      refine lv_aload_n hx hb d_W_takeByte_24 rfl (lv_at hl 0 rfl) ?_
      refine lv_iconst (v := 0) hx hb d_W_takeByte_25 (by decide) ?_
      refine g_put S G in_W ft_W tok_W nm_W 0 rfl rfl 8 (by decide) fl_W_57 rfl rfl rfl (Nat.le_of_ble_eq_true rfl) (wW cA a (sU (sU σ 0 2 1) 0 1 0)) (ww_pgap cA a _ _) d_W_takeByte_26 (fun H locs G => ?_)
      refine lv_aload_n hx hb d_W_takeByte_29 rfl (lv_at hl 0 rfl) ?_
      refine g_get S G in_W 0 rfl rfl 5 (by decide) fl_W_46 rfl d_W_takeByte_30 ?_
      refine lv_iload_n hx hb d_W_takeByte_33 rfl (lv_at hl 1 rfl) ?_
      refine g_cVv (rest := []) S G (c_B_append l D cA (a 9) (a 10) 257 ((sU (sU σ 0 2 1) 0 1 0) 5) ((sU (sU σ 0 2 1) 0 1 0) 0 3) b (by decide)) (cwV 1 S.2.2.2.2 ml_W_95 rfl rfl rfl (by decide +kernel) ⟨Nat.le_of_ble_eq_true rfl, Nat.le_of_ble_eq_true rfl⟩) [9, 10] [0, 1, 2, 3, 4, 5, 6, 7, 8, 11, 12, 13] rfl rfl rfl rfl (by decide) 9 rfl rfl rfl hl.1 rfl (Nat.le_of_ble_eq_true rfl) d_W_takeByte_34 ⟨Nat.le_of_ble_eq_true rfl, Nat.le_of_ble_eq_true rfl⟩ (fun wp_6 H locs hp_6 G => ?_)
      subst hp_6
      have G := G.sub (ws' := wW cA a (wApF (sU (sU σ 0 2 1) 0 1 0) b)) [0, 1, 2, 3, 4, 5, 6, 7, 8, 12, 13, 9, 10, 11] rfl (ww_aB9 cA a _ _)
      exact g_retv S hr hlk G (by first | rfl | (simp only [wTake, eq_false c_2, eq_false c_4, ↓reduceIte]; done) | (simp only [wTake, eq_false c_2, eq_false c_4, ↓reduceIte]; rfl)) (Nat.le_refl _) (Nat.le_refl _) d_W_takeByte_37

abbrev rm_W_hear : Room := { frames := 2, cells := 0, slots := 0, locals := 42 }
set_option maxHeartbeats 4000000 in
set_option maxRecDepth 100000 in
theorem c_W_hear (l : Launch) (D : va_G) (cA : ClassId) (a : Nat → Nat) (σ : St) (b : Int32)  : Ci l y_W_hear w_W_hear rm_W_hear D vwCl [(cA, .int)] [.ref (a 0), .int b] (wW cA a σ) 0 0 (fun r0 w0 => r0 = wHearR σ b ∧ w0 = wW cA a (wHear σ b)) := by
  refine Ci.of (Ts := lw_g) (own := "WireSlave") (cc := b_W_hear) (maxL := 2) (ret := (some .int)) (lv := [(0, .ref (a 0)), (1, .int b)]) (by decide) rfl rfl (fun w h => List.mem_cons_of_mem _ h) (Nat.le_of_ble_eq_true rfl) rfl ?_
  intro pp ee ss mm args below meth cx AA S hr hlk G ls hl
  have hx := S.1
  have hb := S.2.1
  refine lv_iload_n hx hb d_W_hear_0 rfl (lv_at hl 1 rfl) ?_
  refine lv_if_lt (tgt := 11) hx hb d_W_hear_1 (by decide) (fun c_1 => ?_) (fun c_1 => ?_)
  · refine lv_iconst (v := (-1)) hx hb d_W_hear_11 (by decide) ?_
    exact g_reti S hr hlk G ⟨by first | rfl | (simp only [wHearR, wHear, eq_true c_1, ↓reduceIte]; done) | (simp only [wHearR, wHear, eq_true c_1, ↓reduceIte]; rfl), by first | rfl | (simp only [wHearR, wHear, eq_true c_1, ↓reduceIte]; done) | (simp only [wHearR, wHear, eq_true c_1, ↓reduceIte]; rfl)⟩ (Nat.le_refl _) (Nat.le_refl _) d_W_hear_12
  · refine lv_iload_n hx hb d_W_hear_4 rfl (lv_at hl 1 rfl) ?_
    refine lv_sipush (v := 255) hx hb d_W_hear_5 (by decide) ?_
    refine lv_icmp_le (tgt := 13) hx hb d_W_hear_8 (by decide) (fun c_2 => ?_) (fun c_2 => ?_)
    · refine lv_aload_n hx hb d_W_hear_13 rfl (lv_at hl 0 rfl) ?_
      refine lv_iload_n hx hb d_W_hear_14 rfl (lv_at hl 1 rfl) ?_
      refine g_cVv (rest := []) S G (c_W_takeByte l D cA a σ b) (cwV 1 S.2.2.2.2 ml_W_64 rfl rfl rfl (by decide +kernel) ⟨Nat.le_of_ble_eq_true rfl, Nat.le_of_ble_eq_true rfl⟩) [0, 1, 2, 3, 4, 5, 6, 7, 8, 9, 10, 11, 12, 13] [] rfl rfl rfl rfl (by decide) 0 rfl rfl rfl hl.1 rfl (Nat.le_of_ble_eq_true rfl) d_W_hear_15 ⟨Nat.le_of_ble_eq_true rfl, Nat.le_of_ble_eq_true rfl⟩ (fun wp_3 H locs hp_3 G => ?_)
      subst hp_3
      have G : Gw D vwCl [(cA, .int)] AA ss ss.heap H locs (wW cA a (wTake σ b)) := G
      refine lv_aload_n hx hb d_W_hear_18 rfl (lv_at hl 0 rfl) ?_
      refine g_get S G in_W 0 rfl rfl 5 (by decide) fl_W_46 rfl d_W_hear_19 ?_
      refine g_cVi (rest := []) S G (c_B_size l D cA (a 9) (a 10) 257 ((wTake σ b) 5) ((wTake σ b) 0 3)) (cwV 0 S.2.2.2.2 ml_W_68 rfl rfl rfl (by decide +kernel) ⟨Nat.le_of_ble_eq_true rfl, Nat.le_of_ble_eq_true rfl⟩) [9, 10] [0, 1, 2, 3, 4, 5, 6, 7, 8, 11, 12, 13] rfl rfl rfl rfl (by decide) 9 rfl rfl rfl hl.1 rfl (Nat.le_of_ble_eq_true rfl) d_W_hear_22 ⟨Nat.le_of_ble_eq_true rfl, Nat.le_of_ble_eq_true rfl⟩ (fun rp_4 wp_4 H locs hp_4 G => ?_)
      obtain ⟨rfl, rfl⟩ := hp_4
      have G := G.sub (ws' := wW cA a (wTake σ b)) [0, 1, 2, 3, 4, 5, 6, 7, 8, 12, 13, 9, 10, 11] rfl (ww_B9 cA a _)
      exact g_reti S hr hlk G ⟨by first | rfl | (simp only [wHearR, wHear, eq_false c_1, eq_true c_2, ↓reduceIte]; done) | (simp only [wHearR, wHear, eq_false c_1, eq_true c_2, ↓reduceIte]; rfl), by first | rfl | (simp only [wHearR, wHear, eq_false c_1, eq_true c_2, ↓reduceIte]; done) | (simp only [wHearR, wHear, eq_false c_1, eq_true c_2, ↓reduceIte]; rfl)⟩ (Nat.le_refl _) (Nat.le_refl _) d_W_hear_25
    · refine lv_iconst (v := (-1)) hx hb d_W_hear_11 (by decide) ?_
      exact g_reti S hr hlk G ⟨by first | rfl | (simp only [wHearR, wHear, eq_false c_1, eq_false c_2, ↓reduceIte]; done) | (simp only [wHearR, wHear, eq_false c_1, eq_false c_2, ↓reduceIte]; rfl), by first | rfl | (simp only [wHearR, wHear, eq_false c_1, eq_false c_2, ↓reduceIte]; done) | (simp only [wHearR, wHear, eq_false c_1, eq_false c_2, ↓reduceIte]; rfl)⟩ (Nat.le_refl _) (Nat.le_refl _) d_W_hear_12

abbrev rm_W_listen : Room := { frames := 2, cells := 0, slots := 0, locals := 42 }
set_option maxHeartbeats 4000000 in
set_option maxRecDepth 100000 in
theorem c_W_listen (l : Launch) (D : va_G) (cA : ClassId) (a : Nat → Nat) (σ : St) (k0 : Int32) (v : Int64)  : Ci l y_W_listen w_W_listen rm_W_listen D vwCl [(cA, .int)] [.ref (a 0), .int k0, .long v] (wW cA a σ) 0 0 (fun r0 w0 => r0 = wLisR σ k0 v ∧ w0 = wW cA a (wLis σ k0 v)) := by
  refine Ci.of (Ts := lw_g) (own := "WireSlave") (cc := b_W_listen) (maxL := 5) (ret := (some .int)) (lv := [(0, .ref (a 0)), (1, .int k0), (2, .long v)]) (by decide) rfl rfl (fun w h => List.mem_cons_of_mem _ h) (Nat.le_of_ble_eq_true rfl) rfl ?_
  intro pp ee ss mm args below meth cx AA S hr hlk G ls hl
  have hx := S.1
  have hb := S.2.1
  refine lv_iload_n hx hb d_W_listen_0 rfl (lv_at hl 1 rfl) ?_
  refine lv_iconst (v := 1) hx hb d_W_listen_1 (by decide) ?_
  refine lv_icmp_lt (tgt := 11) hx hb d_W_listen_2 (by decide) (fun c_1 => ?_) (fun c_1 => ?_)
  · refine lv_iconst (v := (-1)) hx hb d_W_listen_11 (by decide) ?_
    exact g_reti S hr hlk G ⟨by first | rfl | (simp only [wLisR, wLis, eq_true c_1, ↓reduceIte]; done) | (simp only [wLisR, wLis, eq_true c_1, ↓reduceIte]; rfl), by first | rfl | (simp only [wLisR, wLis, eq_true c_1, ↓reduceIte]; done) | (simp only [wLisR, wLis, eq_true c_1, ↓reduceIte]; rfl)⟩ (Nat.le_refl _) (Nat.le_refl _) d_W_listen_12
  · refine lv_iload_n hx hb d_W_listen_5 rfl (lv_at hl 1 rfl) ?_
    refine lv_bipush (v := 8) hx hb d_W_listen_6 (by decide) ?_
    refine lv_icmp_le (tgt := 13) hx hb d_W_listen_8 (by decide) (fun c_2 => ?_) (fun c_2 => ?_)
    · refine lv_iload_n hx hb d_W_listen_13 rfl (lv_at hl 1 rfl) ?_
      refine lv_iconst (v := 1) hx hb d_W_listen_14 (by decide) ?_
      refine lv_isub hx hb d_W_listen_15 ?_
      refine lv_istore (lv' := [(4, .int (k0 - 1)), (0, .ref (a 0)), (1, .int k0), (2, .long v)]) hx hb d_W_listen_16 hl (by decide) rfl (fun ls hl => ?_)
      have lp : ∀ (n : Nat) (x : Int32) (ρ : St) (H : Heap) (locs : List Loc) (ls : Array Slot), (x = nI n - 1) → (n ≤ 8) → (wLisL v n ρ = wLisL v k0.toNatClampNeg σ) → Gw D vwCl [(cA, .int)] AA ss ss.heap H locs (wW cA a (ρ)) → lv_has ls 5 [(0, .ref (a 0)), (1, .int k0), (2, .long v), (4, .int x)] → W pp l ee rm_W_listen ss mm args below meth cx H locs 0 0 (Zi D vwCl [(cA, .int)] AA ss args below 0 0 (fun r0 w0 => r0 = wLisR σ k0 v ∧ w0 = wW cA a (wLis σ k0 v))) (F0 mm 18 ls []) := by
        intro n
        induction n with
        | zero =>
          intro x ρ H locs ls hxn hn8 hF G hl
          refine lv_iload hx hb d_W_listen_18 (lv_at hl 3 rfl) ?_
          have k_3 : x < 0 := by rw [hxn]; decide
          refine lv_if_lt (tgt := 39) hx hb d_W_listen_20 (by decide) (fun _ => ?_) (fun h9 => absurd k_3 h9)
          refine lv_aload_n hx hb d_W_listen_39 rfl (lv_at hl 0 rfl) ?_
          refine g_get S G in_W 0 rfl rfl 5 (by decide) fl_W_46 rfl d_W_listen_40 ?_
          refine g_cVi (rest := []) S G (c_B_size l D cA (a 9) (a 10) 257 ((ρ) 5) ((ρ) 0 3)) (cwV 0 S.2.2.2.2 ml_W_68 rfl rfl rfl (by decide +kernel) ⟨Nat.le_of_ble_eq_true rfl, Nat.le_of_ble_eq_true rfl⟩) [9, 10] [0, 1, 2, 3, 4, 5, 6, 7, 8, 11, 12, 13] rfl rfl rfl rfl (by decide) 9 rfl rfl rfl hl.1 rfl (Nat.le_of_ble_eq_true rfl) d_W_listen_43 ⟨Nat.le_of_ble_eq_true rfl, Nat.le_of_ble_eq_true rfl⟩ (fun rp_4 wp_4 H locs hp_4 G => ?_)
          obtain ⟨rfl, rfl⟩ := hp_4
          have G := G.sub (ws' := wW cA a (ρ)) [0, 1, 2, 3, 4, 5, 6, 7, 8, 12, 13, 9, 10, 11] rfl (ww_B9 cA a _)
          exact g_reti S hr hlk G ⟨by simp only [wLisR, eq_false c_1, eq_true c_2, ↓reduceIte]; exact congrFun (congrFun hF 0) 3, by simp only [wLis, eq_false c_1, eq_true c_2, ↓reduceIte]; exact congrArg (wW cA a) hF⟩ (Nat.le_refl _) (Nat.le_refl _) d_W_listen_46
        | succ n ih =>
          intro x ρ H locs ls hxn hn8 hF G hl
          rw [nI_pred n] at hxn
          subst hxn
          refine lv_iload hx hb d_W_listen_18 (lv_at hl 3 rfl) ?_
          have k_5 : ¬ ((nI n) < 0) := nI_pos (by omega)
          refine lv_if_lt (tgt := 39) hx hb d_W_listen_20 (by decide) (fun h9 => absurd h9 k_5) (fun _ => ?_)
          refine lv_aload_n hx hb d_W_listen_23 rfl (lv_at hl 0 rfl) ?_
          refine lv_lload_n hx hb d_W_listen_24 rfl (lv_at hl 2 rfl) ?_
          refine lv_iload hx hb d_W_listen_25 (lv_at hl 3 rfl) ?_
          refine g_cSi (rest := [.ref (a 0)]) S G (c_W_byteOf l D cA v (nI n)) (va_cwS 2 S.2.2.2.2 ml_W_72 rfl rfl rfl (by decide +kernel) ⟨Nat.le_of_ble_eq_true rfl, Nat.le_of_ble_eq_true rfl⟩) [] [0, 1, 2, 3, 4, 5, 6, 7, 8, 9, 10, 11, 12, 13] rfl rfl rfl rfl (by decide) rfl hl.1 rfl (Nat.le_of_ble_eq_true rfl) d_W_listen_27 ⟨Nat.le_of_ble_eq_true rfl, Nat.le_of_ble_eq_true rfl⟩ (fun rp_6 wp_6 H locs hp_6 G => ?_)
          obtain ⟨rfl, rfl⟩ := hp_6
          have G := G.sub (ws' := wW cA a (ρ)) [0, 1, 2, 3, 4, 5, 6, 7, 8, 9, 10, 11, 12, 13] rfl (ww_id cA a _)
          refine g_cVv (rest := []) S G (c_W_takeByte l D cA a (ρ) (byteOf v (nI n))) (cwV 1 S.2.2.2.2 ml_W_64 rfl rfl rfl (by decide +kernel) ⟨Nat.le_of_ble_eq_true rfl, Nat.le_of_ble_eq_true rfl⟩) [0, 1, 2, 3, 4, 5, 6, 7, 8, 9, 10, 11, 12, 13] [] rfl rfl rfl rfl (by decide) 0 rfl rfl rfl hl.1 rfl (Nat.le_of_ble_eq_true rfl) d_W_listen_30 ⟨Nat.le_of_ble_eq_true rfl, Nat.le_of_ble_eq_true rfl⟩ (fun wp_7 H locs hp_7 G => ?_)
          subst hp_7
          have G : Gw D vwCl [(cA, .int)] AA ss ss.heap H locs (wW cA a (wTake (ρ) (byteOf v (nI n)))) := G
          refine lv_iinc (v := (nI n) + (-1)) (lv' := [(4, .int ((nI n) + (-1))), (0, .ref (a 0)), (1, .int k0), (2, .long v)]) hx hb d_W_listen_33 hl (k := 3) rfl rfl (by decide) rfl (fun ls hl => ?_)
          refine lv_goto (tgt := 18) hx hb d_W_listen_36 (by decide) ?_
          exact ih _ _ H locs ls (m1_ _) (by omega) hF G (lv_sub hl [1, 2, 3, 0] rfl)
      exact lp k0.toNatClampNeg (k0 - 1) σ _ _ ls (by rw [← nI_self (pos_of1 c_1)]) (clamp_le (n := 8) c_2 (by decide)) rfl G (lv_sub hl [1, 2, 3, 0] rfl)
    · refine lv_iconst (v := (-1)) hx hb d_W_listen_11 (by decide) ?_
      exact g_reti S hr hlk G ⟨by first | rfl | (simp only [wLisR, wLis, eq_false c_1, eq_false c_2, ↓reduceIte]; done) | (simp only [wLisR, wLis, eq_false c_1, eq_false c_2, ↓reduceIte]; rfl), by first | rfl | (simp only [wLisR, wLis, eq_false c_1, eq_false c_2, ↓reduceIte]; done) | (simp only [wLisR, wLis, eq_false c_1, eq_false c_2, ↓reduceIte]; rfl)⟩ (Nat.le_refl _) (Nat.le_refl _) d_W_listen_12

abbrev rm_W_sum : Room := { frames := 1, cells := 0, slots := 0, locals := 24 }
set_option maxHeartbeats 4000000 in
set_option maxRecDepth 100000 in
theorem c_W_sum (l : Launch) (D : va_G) (cA : ClassId) (a : Nat → Nat) (σ : St) (k0 : Int32) (v : Int64)  : Ci l y_W_sum w_W_sum rm_W_sum D vwCl [(cA, .int)] [.ref (a 0), .int k0, .long v] (wW cA a σ) 0 0 (fun r0 w0 => r0 = wSum k0 v ∧ w0 = wW cA a σ) := by
  refine Ci.of (Ts := lw_g) (own := "WireSlave") (cc := b_W_sum) (maxL := 6) (ret := (some .int)) (lv := [(0, .ref (a 0)), (1, .int k0), (2, .long v)]) (by decide) rfl rfl (fun w h => List.mem_cons_of_mem _ h) (Nat.le_of_ble_eq_true rfl) rfl ?_
  intro pp ee ss mm args below meth cx AA S hr hlk G ls hl
  have hx := S.1
  have hb := S.2.1
  refine lv_iload_n hx hb d_W_sum_0 rfl (lv_at hl 1 rfl) ?_
  refine lv_if_lt (tgt := 10) hx hb d_W_sum_1 (by decide) (fun c_1 => ?_) (fun c_1 => ?_)
  · refine lv_iconst (v := (-1)) hx hb d_W_sum_10 (by decide) ?_
    exact g_reti S hr hlk G ⟨by first | rfl | (simp only [wSum, eq_true c_1, ↓reduceIte]; done) | (simp only [wSum, eq_true c_1, ↓reduceIte]; rfl), by first | rfl | (simp only [wSum, eq_true c_1, ↓reduceIte]; done) | (simp only [wSum, eq_true c_1, ↓reduceIte]; rfl)⟩ (Nat.le_refl _) (Nat.le_refl _) d_W_sum_11
  · refine lv_iload_n hx hb d_W_sum_4 rfl (lv_at hl 1 rfl) ?_
    refine lv_bipush (v := 8) hx hb d_W_sum_5 (by decide) ?_
    refine lv_icmp_le (tgt := 12) hx hb d_W_sum_7 (by decide) (fun c_2 => ?_) (fun c_2 => ?_)
    · refine lv_ldc (v := 65535) hx hb S.2.2.2.1 (S.2.2.2.2 _ kn_W_34) d_W_sum_12 ?_
      refine lv_istore (lv' := [(4, .int 65535), (0, .ref (a 0)), (1, .int k0), (2, .long v)]) hx hb d_W_sum_14 hl (by decide) rfl (fun ls hl => ?_)
      refine lv_iload_n hx hb d_W_sum_16 rfl (lv_at hl 2 rfl) ?_
      refine lv_iconst (v := 1) hx hb d_W_sum_17 (by decide) ?_
      refine lv_isub hx hb d_W_sum_18 ?_
      refine lv_istore (lv' := [(5, .int (k0 - 1)), (4, .int 65535), (0, .ref (a 0)), (1, .int k0), (2, .long v)]) hx hb d_W_sum_19 hl (by decide) rfl (fun ls hl => ?_)
      have lp : ∀ (n : Nat) (x y : Int32) (H : Heap) (locs : List Loc) (ls : Array Slot), (x = nI n - 1) → (n ≤ 8) → (wSumL v n y = wSumL v k0.toNatClampNeg 65535) → Gw D vwCl [(cA, .int)] AA ss ss.heap H locs (wW cA a σ) → lv_has ls 6 [(0, .ref (a 0)), (1, .int k0), (2, .long v), (4, .int y), (5, .int x)] → W pp l ee rm_W_sum ss mm args below meth cx H locs 0 0 (Zi D vwCl [(cA, .int)] AA ss args below 0 0 (fun r0 w0 => r0 = wSum k0 v ∧ w0 = wW cA a σ)) (F0 mm 21 ls []) := by
        intro n
        induction n with
        | zero =>
          intro x y H locs ls hxn hn8 hF G hl
          refine lv_iload hx hb d_W_sum_21 (lv_at hl 4 rfl) ?_
          have k_3 : x < 0 := by rw [hxn]; decide
          refine lv_if_lt (tgt := 45) hx hb d_W_sum_23 (by decide) (fun _ => ?_) (fun h9 => absurd k_3 h9)
          refine lv_iload hx hb d_W_sum_45 (lv_at hl 3 rfl) ?_
          exact g_reti S hr hlk G ⟨by simp only [wSum, eq_false c_1, eq_true c_2, ↓reduceIte]; exact hF, rfl⟩ (Nat.le_refl _) (Nat.le_refl _) d_W_sum_47
        | succ n ih =>
          intro x y H locs ls hxn hn8 hF G hl
          rw [nI_pred n] at hxn
          subst hxn
          refine lv_iload hx hb d_W_sum_21 (lv_at hl 4 rfl) ?_
          have k_4 : ¬ ((nI n) < 0) := nI_pos (by omega)
          refine lv_if_lt (tgt := 45) hx hb d_W_sum_23 (by decide) (fun h9 => absurd h9 k_4) (fun _ => ?_)
          refine lv_iload hx hb d_W_sum_26 (lv_at hl 3 rfl) ?_
          refine lv_lload_n hx hb d_W_sum_28 rfl (lv_at hl 2 rfl) ?_
          refine lv_iload hx hb d_W_sum_29 (lv_at hl 4 rfl) ?_
          refine g_cSi (rest := [.int y]) S G (c_W_byteOf l D cA v (nI n)) (va_cwS 2 S.2.2.2.2 ml_W_72 rfl rfl rfl (by decide +kernel) ⟨Nat.le_of_ble_eq_true rfl, Nat.le_of_ble_eq_true rfl⟩) [] [0, 1, 2, 3, 4, 5, 6, 7, 8, 9, 10, 11, 12, 13] rfl rfl rfl rfl (by decide) rfl hl.1 rfl (Nat.le_of_ble_eq_true rfl) d_W_sum_31 ⟨Nat.le_of_ble_eq_true rfl, Nat.le_of_ble_eq_true rfl⟩ (fun rp_5 wp_5 H locs hp_5 G => ?_)
          obtain ⟨rfl, rfl⟩ := hp_5
          have G := G.sub (ws' := wW cA a σ) [0, 1, 2, 3, 4, 5, 6, 7, 8, 9, 10, 11, 12, 13] rfl (ww_id cA a _)
          refine g_cSi (rest := []) S G (c_W_sumWith l D cA y (byteOf v (nI n))) (va_cwS 2 S.2.2.2.2 ml_W_91 rfl rfl rfl (by decide +kernel) ⟨Nat.le_of_ble_eq_true rfl, Nat.le_of_ble_eq_true rfl⟩) [] [0, 1, 2, 3, 4, 5, 6, 7, 8, 9, 10, 11, 12, 13] rfl rfl rfl rfl (by decide) rfl hl.1 rfl (Nat.le_of_ble_eq_true rfl) d_W_sum_34 ⟨Nat.le_of_ble_eq_true rfl, Nat.le_of_ble_eq_true rfl⟩ (fun rp_6 wp_6 H locs hp_6 G => ?_)
          obtain ⟨rfl, rfl⟩ := hp_6
          have G := G.sub (ws' := wW cA a σ) [0, 1, 2, 3, 4, 5, 6, 7, 8, 9, 10, 11, 12, 13] rfl (ww_id cA a _)
          refine lv_istore (lv' := [(4, .int (sumW y (byteOf v (nI n)))), (0, .ref (a 0)), (1, .int k0), (2, .long v), (5, .int (nI n))]) hx hb d_W_sum_37 hl (by decide) rfl (fun ls hl => ?_)
          refine lv_iinc (v := (nI n) + (-1)) (lv' := [(5, .int ((nI n) + (-1))), (4, .int (sumW y (byteOf v (nI n)))), (0, .ref (a 0)), (1, .int k0), (2, .long v)]) hx hb d_W_sum_39 hl (k := 4) rfl rfl (by decide) rfl (fun ls hl => ?_)
          refine lv_goto (tgt := 21) hx hb d_W_sum_42 (by decide) ?_
          exact ih _ _ H locs ls (m1_ _) (by omega) hF G (lv_sub hl [2, 3, 4, 1, 0] rfl)
      exact lp k0.toNatClampNeg (k0 - 1) 65535 _ _ ls (by rw [← nI_self c_1]) (clamp_le (n := 8) c_2 (by decide)) rfl G (lv_sub hl [2, 3, 4, 1, 0] rfl)
    · refine lv_iconst (v := (-1)) hx hb d_W_sum_10 (by decide) ?_
      exact g_reti S hr hlk G ⟨by first | rfl | (simp only [wSum, eq_false c_1, eq_false c_2, ↓reduceIte]; done) | (simp only [wSum, eq_false c_1, eq_false c_2, ↓reduceIte]; rfl), by first | rfl | (simp only [wSum, eq_false c_1, eq_false c_2, ↓reduceIte]; done) | (simp only [wSum, eq_false c_1, eq_false c_2, ↓reduceIte]; rfl)⟩ (Nat.le_refl _) (Nat.le_refl _) d_W_sum_11

abbrev rm_W_reply : Room := { frames := 1, cells := 0, slots := 0, locals := 21 }
set_option maxHeartbeats 4000000 in
set_option maxRecDepth 100000 in
theorem c_W_reply (l : Launch) (D : va_G) (cA : ClassId) (a : Nat → Nat) (σ : St) (i : Int32)  : Ci l y_W_reply w_W_reply rm_W_reply D vwCl [(cA, .int)] [.ref (a 0), .int i] (wW cA a σ) 0 0 (fun r0 w0 => r0 = bAt 256 (σ 6) (σ 0 4) i ∧ w0 = wW cA a σ) := by
  refine Ci.of (Ts := lw_g) (own := "WireSlave") (cc := b_W_reply) (maxL := 2) (ret := (some .int)) (lv := [(0, .ref (a 0)), (1, .int i)]) (by decide) rfl rfl (fun w h => List.mem_cons_of_mem _ h) (Nat.le_of_ble_eq_true rfl) rfl ?_
  intro pp ee ss mm args below meth cx AA S hr hlk G ls hl
  have hx := S.1
  have hb := S.2.1
  refine lv_aload_n hx hb d_W_reply_0 rfl (lv_at hl 0 rfl) ?_
  refine g_get S G in_W 0 rfl rfl 6 (by decide) fl_W_50 rfl d_W_reply_1 ?_
  refine lv_iload_n hx hb d_W_reply_4 rfl (lv_at hl 1 rfl) ?_
  refine g_cVi (rest := []) S G (c_B_at l D cA (a 11) (a 12) 256 (σ 6) (σ 0 4) i (by decide)) (cwV 1 S.2.2.2.2 ml_W_79 rfl rfl rfl (by decide +kernel) ⟨Nat.le_of_ble_eq_true rfl, Nat.le_of_ble_eq_true rfl⟩) [11, 12] [0, 1, 2, 3, 4, 5, 6, 7, 8, 9, 10, 13] rfl rfl rfl rfl (by decide) 11 rfl rfl rfl hl.1 rfl (Nat.le_of_ble_eq_true rfl) d_W_reply_5 ⟨Nat.le_of_ble_eq_true rfl, Nat.le_of_ble_eq_true rfl⟩ (fun rp_1 wp_1 H locs hp_1 G => ?_)
  obtain ⟨rfl, rfl⟩ := hp_1
  have G := G.sub (ws' := wW cA a σ) [0, 1, 2, 3, 4, 5, 6, 7, 8, 9, 10, 12, 13, 11] rfl (ww_B11 cA a _)
  exact g_reti S hr hlk G ⟨by first | rfl | (simp only [↓reduceIte]; done) | (simp only [↓reduceIte]; rfl), by first | rfl | (simp only [↓reduceIte]; done) | (simp only [↓reduceIte]; rfl)⟩ (Nat.le_refl _) (Nat.le_refl _) d_W_reply_8

abbrev rm_W_count : Room := { frames := 0, cells := 0, slots := 0, locals := 0 }
set_option maxHeartbeats 4000000 in
set_option maxRecDepth 100000 in
theorem c_W_count (l : Launch) (D : va_G) (cA : ClassId) (a : Nat → Nat) (σ : St) (x : Int32)  : Ci l y_W_count w_W_count rm_W_count D vwCl [(cA, .int)] [.ref (a 0), .int x] (wW cA a σ) 0 0 (fun r0 w0 => r0 = wCnt σ x ∧ w0 = wW cA a σ) := by
  refine Ci.of (Ts := lw_g) (own := "WireSlave") (cc := b_W_count) (maxL := 2) (ret := (some .int)) (lv := [(0, .ref (a 0)), (1, .int x)]) (by decide) rfl rfl (fun w h => List.mem_cons_of_mem _ h) (Nat.le_of_ble_eq_true rfl) rfl ?_
  intro pp ee ss mm args below meth cx AA S hr hlk G ls hl
  have hx := S.1
  have hb := S.2.1
  refine lv_iload_n hx hb d_W_count_0 rfl (lv_at hl 1 rfl) ?_
  refine lv_if_lt (tgt := 13) hx hb d_W_count_1 (by decide) (fun c_1 => ?_) (fun c_1 => ?_)
  · refine lv_iconst (v := (-1)) hx hb d_W_count_13 (by decide) ?_
    refine lv_goto (tgt := 23) hx hb d_W_count_14 (by decide) ?_
    exact g_reti S hr hlk G ⟨by first | rfl | (simp only [wCnt, eq_true c_1, ↓reduceIte]; done) | (simp only [wCnt, eq_true c_1, ↓reduceIte]; rfl), by first | rfl | (simp only [wCnt, eq_true c_1, ↓reduceIte]; done) | (simp only [wCnt, eq_true c_1, ↓reduceIte]; rfl)⟩ (Nat.le_refl _) (Nat.le_refl _) d_W_count_23
  · refine lv_iload_n hx hb d_W_count_4 rfl (lv_at hl 1 rfl) ?_
    refine lv_aload_n hx hb d_W_count_5 rfl (lv_at hl 0 rfl) ?_
    refine g_get S G in_W 0 rfl rfl 7 (by decide) fl_W_53 rfl d_W_count_6 ?_
    refine g_alen S G 13 0 rfl rfl 6 rfl d_W_count_9 ?_
    refine lv_icmp_lt (tgt := 17) hx hb d_W_count_10 (by decide) (fun c_2 => ?_) (fun c_2 => ?_)
    · refine lv_aload_n hx hb d_W_count_17 rfl (lv_at hl 0 rfl) ?_
      refine g_get S G in_W 0 rfl rfl 7 (by decide) fl_W_53 rfl d_W_count_18 ?_
      refine lv_iload_n hx hb d_W_count_21 rfl (lv_at hl 1 rfl) ?_
      refine g_iald S G 13 0 rfl rfl (vin_lt (n := 6) c_1 c_2 (by decide)) d_W_count_22 ?_
      exact g_reti S hr hlk G ⟨by first | rfl | (simp only [wCnt, eq_false c_1, eq_true c_2, ↓reduceIte]; done) | (simp only [wCnt, eq_false c_1, eq_true c_2, ↓reduceIte]; rfl), by first | rfl | (simp only [wCnt, eq_false c_1, eq_true c_2, ↓reduceIte]; done) | (simp only [wCnt, eq_false c_1, eq_true c_2, ↓reduceIte]; rfl)⟩ (Nat.le_refl _) (Nat.le_refl _) d_W_count_23
    · refine lv_iconst (v := (-1)) hx hb d_W_count_13 (by decide) ?_
      refine lv_goto (tgt := 23) hx hb d_W_count_14 (by decide) ?_
      exact g_reti S hr hlk G ⟨by first | rfl | (simp only [wCnt, eq_false c_1, eq_false c_2, ↓reduceIte]; done) | (simp only [wCnt, eq_false c_1, eq_false c_2, ↓reduceIte]; rfl), by first | rfl | (simp only [wCnt, eq_false c_1, eq_false c_2, ↓reduceIte]; done) | (simp only [wCnt, eq_false c_1, eq_false c_2, ↓reduceIte]; rfl)⟩ (Nat.le_refl _) (Nat.le_refl _) d_W_count_23

abbrev rm_W_tableNumbered : Room := { frames := 0, cells := 0, slots := 0, locals := 0 }
set_option maxHeartbeats 4000000 in
set_option maxRecDepth 100000 in
theorem c_W_tableNumbered (l : Launch) (D : va_G) (cA : ClassId) (a : Nat → Nat) (σ : St) (t : Int32)  : Cq l y_W_tableNumbered w_W_tableNumbered rm_W_tableNumbered D vwCl [(cA, .int)] [.ref (a 0), .int t] (wW cA a σ) 0 0 (fun r0 w0 => r0 = tRef a (tNum t) ∧ w0 = wW cA a σ) := by
  refine Cq.of (Ts := lw_g) (own := "WireSlave") (cc := b_W_tableNumbered) (maxL := 2) (ret := (some (.object "WireSlave$Table"))) (lv := [(0, .ref (a 0)), (1, .int t)]) (by decide) rfl rfl (fun w h => List.mem_cons_of_mem _ h) (Nat.le_of_ble_eq_true rfl) rfl ?_
  intro pp ee ss mm args below meth cx AA S hr hlk G ls hl
  have hx := S.1
  have hb := S.2.1
  refine lv_iload_n hx hb d_W_tableNumbered_0 rfl (lv_at hl 1 rfl) ?_
  by_cases c_1 : t = 0
  · refine lv_tableIn (tgt := 32) hx hb d_W_tableNumbered_1 (by rw [c_1]; decide) (by rw [c_1]; decide) (by rw [c_1]; rfl) (by decide) ?_
    refine lv_aload_n hx hb d_W_tableNumbered_32 rfl (lv_at hl 0 rfl) ?_
    refine g_get S G in_W 0 rfl rfl 1 (by decide) fl_W_27 rfl d_W_tableNumbered_33 ?_
    exact g_retq S hr hlk (some (a 1)) G ⟨by first | rfl | (simp only [tNum, eq_true c_1, ↓reduceIte]; done) | (simp only [tNum, eq_true c_1, ↓reduceIte]; rfl), by first | rfl | (simp only [tNum, eq_true c_1, ↓reduceIte]; done) | (simp only [tNum, eq_true c_1, ↓reduceIte]; rfl)⟩ (Nat.le_refl _) (Nat.le_refl _) d_W_tableNumbered_36
  by_cases c_2 : t = 1
  · refine lv_tableIn (tgt := 37) hx hb d_W_tableNumbered_1 (by rw [c_2]; decide) (by rw [c_2]; decide) (by rw [c_2]; rfl) (by decide) ?_
    refine lv_aload_n hx hb d_W_tableNumbered_37 rfl (lv_at hl 0 rfl) ?_
    refine g_get S G in_W 0 rfl rfl 2 (by decide) fl_W_31 rfl d_W_tableNumbered_38 ?_
    exact g_retq S hr hlk (some (a 3)) G ⟨by first | rfl | (simp only [tNum, eq_false c_1, eq_true c_2, ↓reduceIte]; done) | (simp only [tNum, eq_false c_1, eq_true c_2, ↓reduceIte]; rfl), by first | rfl | (simp only [tNum, eq_false c_1, eq_true c_2, ↓reduceIte]; done) | (simp only [tNum, eq_false c_1, eq_true c_2, ↓reduceIte]; rfl)⟩ (Nat.le_refl _) (Nat.le_refl _) d_W_tableNumbered_41
  by_cases c_3 : t = 2
  · refine lv_tableIn (tgt := 42) hx hb d_W_tableNumbered_1 (by rw [c_3]; decide) (by rw [c_3]; decide) (by rw [c_3]; rfl) (by decide) ?_
    refine lv_aload_n hx hb d_W_tableNumbered_42 rfl (lv_at hl 0 rfl) ?_
    refine g_get S G in_W 0 rfl rfl 3 (by decide) fl_W_35 rfl d_W_tableNumbered_43 ?_
    exact g_retq S hr hlk (some (a 5)) G ⟨by first | rfl | (simp only [tNum, eq_false c_1, eq_false c_2, eq_true c_3, ↓reduceIte]; done) | (simp only [tNum, eq_false c_1, eq_false c_2, eq_true c_3, ↓reduceIte]; rfl), by first | rfl | (simp only [tNum, eq_false c_1, eq_false c_2, eq_true c_3, ↓reduceIte]; done) | (simp only [tNum, eq_false c_1, eq_false c_2, eq_true c_3, ↓reduceIte]; rfl)⟩ (Nat.le_refl _) (Nat.le_refl _) d_W_tableNumbered_46
  by_cases c_4 : t = 3
  · refine lv_tableIn (tgt := 47) hx hb d_W_tableNumbered_1 (by rw [c_4]; decide) (by rw [c_4]; decide) (by rw [c_4]; rfl) (by decide) ?_
    refine lv_aload_n hx hb d_W_tableNumbered_47 rfl (lv_at hl 0 rfl) ?_
    refine g_get S G in_W 0 rfl rfl 4 (by decide) fl_W_38 rfl d_W_tableNumbered_48 ?_
    exact g_retq S hr hlk (some (a 7)) G ⟨by first | rfl | (simp only [tNum, eq_false c_1, eq_false c_2, eq_false c_3, eq_true c_4, ↓reduceIte]; done) | (simp only [tNum, eq_false c_1, eq_false c_2, eq_false c_3, eq_true c_4, ↓reduceIte]; rfl), by first | rfl | (simp only [tNum, eq_false c_1, eq_false c_2, eq_false c_3, eq_true c_4, ↓reduceIte]; done) | (simp only [tNum, eq_false c_1, eq_false c_2, eq_false c_3, eq_true c_4, ↓reduceIte]; rfl)⟩ (Nat.le_refl _) (Nat.le_refl _) d_W_tableNumbered_51
  have nc_1 := lv_neT c_1 (a := 0) (by decide)
  have nc_2 := lv_neT c_2 (a := 1) (by decide)
  have nc_3 := lv_neT c_3 (a := 2) (by decide)
  have nc_4 := lv_neT c_4 (a := 3) (by decide)
  refine g_table (tgt := 52) (off := 51) hx hb d_W_tableNumbered_1 ?_ (by decide) ?_
  · exact if_pos (show (t.toInt < 0 ∨ 3 < t.toInt) by omega)
  refine lv_null hx hb d_W_tableNumbered_52 ?_
  exact g_retq S hr hlk none G ⟨by first | rfl | (simp only [tNum, eq_false c_1, eq_false c_2, eq_false c_3, eq_false c_4, ↓reduceIte]; done) | (simp only [tNum, eq_false c_1, eq_false c_2, eq_false c_3, eq_false c_4, ↓reduceIte]; rfl), by first | rfl | (simp only [tNum, eq_false c_1, eq_false c_2, eq_false c_3, eq_false c_4, ↓reduceIte]; done) | (simp only [tNum, eq_false c_1, eq_false c_2, eq_false c_3, eq_false c_4, ↓reduceIte]; rfl)⟩ (Nat.le_refl _) (Nat.le_refl _) d_W_tableNumbered_53

abbrev rm_W_tableOfFunction : Room := { frames := 0, cells := 0, slots := 0, locals := 0 }
set_option maxHeartbeats 4000000 in
set_option maxRecDepth 100000 in
theorem c_W_tableOfFunction (l : Launch) (D : va_G) (cA : ClassId) (a : Nat → Nat) (σ : St) (f : Int32)  : Cq l y_W_tableOfFunction w_W_tableOfFunction rm_W_tableOfFunction D vwCl [(cA, .int)] [.ref (a 0), .int f] (wW cA a σ) 0 0 (fun r0 w0 => r0 = tRef a (fTab f) ∧ w0 = wW cA a σ) := by
  refine Cq.of (Ts := lw_g) (own := "WireSlave") (cc := b_W_tableOfFunction) (maxL := 2) (ret := (some (.object "WireSlave$Table"))) (lv := [(0, .ref (a 0)), (1, .int f)]) (by decide) rfl rfl (fun w h => List.mem_cons_of_mem _ h) (Nat.le_of_ble_eq_true rfl) rfl ?_
  intro pp ee ss mm args below meth cx AA S hr hlk G ls hl
  have hx := S.1
  have hb := S.2.1
  refine lv_iload_n hx hb d_W_tableOfFunction_0 rfl (lv_at hl 1 rfl) ?_
  by_cases c_1 : f = 1
  · refine lv_tableIn (tgt := 80) hx hb d_W_tableOfFunction_1 (by rw [c_1]; decide) (by rw [c_1]; decide) (by rw [c_1]; rfl) (by decide) ?_
    refine lv_aload_n hx hb d_W_tableOfFunction_80 rfl (lv_at hl 0 rfl) ?_
    refine g_get S G in_W 0 rfl rfl 1 (by decide) fl_W_27 rfl d_W_tableOfFunction_81 ?_
    exact g_retq S hr hlk (some (a 1)) G ⟨by first | rfl | (simp only [fTab, eq_true c_1, ↓reduceIte]; done) | (simp only [fTab, eq_true c_1, ↓reduceIte]; rfl), by first | rfl | (simp only [fTab, eq_true c_1, ↓reduceIte]; done) | (simp only [fTab, eq_true c_1, ↓reduceIte]; rfl)⟩ (Nat.le_refl _) (Nat.le_refl _) d_W_tableOfFunction_84
  by_cases c_2 : f = 2
  · refine lv_tableIn (tgt := 85) hx hb d_W_tableOfFunction_1 (by rw [c_2]; decide) (by rw [c_2]; decide) (by rw [c_2]; rfl) (by decide) ?_
    refine lv_aload_n hx hb d_W_tableOfFunction_85 rfl (lv_at hl 0 rfl) ?_
    refine g_get S G in_W 0 rfl rfl 2 (by decide) fl_W_31 rfl d_W_tableOfFunction_86 ?_
    exact g_retq S hr hlk (some (a 3)) G ⟨by first | rfl | (simp only [fTab, eq_false c_1, eq_true c_2, ↓reduceIte]; done) | (simp only [fTab, eq_false c_1, eq_true c_2, ↓reduceIte]; rfl), by first | rfl | (simp only [fTab, eq_false c_1, eq_true c_2, ↓reduceIte]; done) | (simp only [fTab, eq_false c_1, eq_true c_2, ↓reduceIte]; rfl)⟩ (Nat.le_refl _) (Nat.le_refl _) d_W_tableOfFunction_89
  by_cases c_3 : f = 3
  · refine lv_tableIn (tgt := 90) hx hb d_W_tableOfFunction_1 (by rw [c_3]; decide) (by rw [c_3]; decide) (by rw [c_3]; rfl) (by decide) ?_
    refine lv_aload_n hx hb d_W_tableOfFunction_90 rfl (lv_at hl 0 rfl) ?_
    refine g_get S G in_W 0 rfl rfl 3 (by decide) fl_W_35 rfl d_W_tableOfFunction_91 ?_
    exact g_retq S hr hlk (some (a 5)) G ⟨by first | rfl | (simp only [fTab, eq_false c_1, eq_false c_2, eq_true c_3, ↓reduceIte]; done) | (simp only [fTab, eq_false c_1, eq_false c_2, eq_true c_3, ↓reduceIte]; rfl), by first | rfl | (simp only [fTab, eq_false c_1, eq_false c_2, eq_true c_3, ↓reduceIte]; done) | (simp only [fTab, eq_false c_1, eq_false c_2, eq_true c_3, ↓reduceIte]; rfl)⟩ (Nat.le_refl _) (Nat.le_refl _) d_W_tableOfFunction_94
  by_cases c_4 : f = 4
  · refine lv_tableIn (tgt := 95) hx hb d_W_tableOfFunction_1 (by rw [c_4]; decide) (by rw [c_4]; decide) (by rw [c_4]; rfl) (by decide) ?_
    refine lv_aload_n hx hb d_W_tableOfFunction_95 rfl (lv_at hl 0 rfl) ?_
    refine g_get S G in_W 0 rfl rfl 4 (by decide) fl_W_38 rfl d_W_tableOfFunction_96 ?_
    exact g_retq S hr hlk (some (a 7)) G ⟨by first | rfl | (simp only [fTab, eq_false c_1, eq_false c_2, eq_false c_3, eq_true c_4, ↓reduceIte]; done) | (simp only [fTab, eq_false c_1, eq_false c_2, eq_false c_3, eq_true c_4, ↓reduceIte]; rfl), by first | rfl | (simp only [fTab, eq_false c_1, eq_false c_2, eq_false c_3, eq_true c_4, ↓reduceIte]; done) | (simp only [fTab, eq_false c_1, eq_false c_2, eq_false c_3, eq_true c_4, ↓reduceIte]; rfl)⟩ (Nat.le_refl _) (Nat.le_refl _) d_W_tableOfFunction_99
  by_cases c_5 : f = 5
  · refine lv_tableIn (tgt := 80) hx hb d_W_tableOfFunction_1 (by rw [c_5]; decide) (by rw [c_5]; decide) (by rw [c_5]; rfl) (by decide) ?_
    refine lv_aload_n hx hb d_W_tableOfFunction_80 rfl (lv_at hl 0 rfl) ?_
    refine g_get S G in_W 0 rfl rfl 1 (by decide) fl_W_27 rfl d_W_tableOfFunction_81 ?_
    exact g_retq S hr hlk (some (a 1)) G ⟨by first | rfl | (simp only [fTab, eq_false c_1, eq_false c_2, eq_false c_3, eq_false c_4, eq_true c_5, ↓reduceIte]; done) | (simp only [fTab, eq_false c_1, eq_false c_2, eq_false c_3, eq_false c_4, eq_true c_5, ↓reduceIte]; rfl), by first | rfl | (simp only [fTab, eq_false c_1, eq_false c_2, eq_false c_3, eq_false c_4, eq_true c_5, ↓reduceIte]; done) | (simp only [fTab, eq_false c_1, eq_false c_2, eq_false c_3, eq_false c_4, eq_true c_5, ↓reduceIte]; rfl)⟩ (Nat.le_refl _) (Nat.le_refl _) d_W_tableOfFunction_84
  by_cases c_6 : f = 6
  · refine lv_tableIn (tgt := 90) hx hb d_W_tableOfFunction_1 (by rw [c_6]; decide) (by rw [c_6]; decide) (by rw [c_6]; rfl) (by decide) ?_
    refine lv_aload_n hx hb d_W_tableOfFunction_90 rfl (lv_at hl 0 rfl) ?_
    refine g_get S G in_W 0 rfl rfl 3 (by decide) fl_W_35 rfl d_W_tableOfFunction_91 ?_
    exact g_retq S hr hlk (some (a 5)) G ⟨by first | rfl | (simp only [fTab, eq_false c_1, eq_false c_2, eq_false c_3, eq_false c_4, eq_false c_5, eq_true c_6, ↓reduceIte]; done) | (simp only [fTab, eq_false c_1, eq_false c_2, eq_false c_3, eq_false c_4, eq_false c_5, eq_true c_6, ↓reduceIte]; rfl), by first | rfl | (simp only [fTab, eq_false c_1, eq_false c_2, eq_false c_3, eq_false c_4, eq_false c_5, eq_true c_6, ↓reduceIte]; done) | (simp only [fTab, eq_false c_1, eq_false c_2, eq_false c_3, eq_false c_4, eq_false c_5, eq_true c_6, ↓reduceIte]; rfl)⟩ (Nat.le_refl _) (Nat.le_refl _) d_W_tableOfFunction_94
  by_cases c_7 : f = 15
  · refine lv_tableIn (tgt := 80) hx hb d_W_tableOfFunction_1 (by rw [c_7]; decide) (by rw [c_7]; decide) (by rw [c_7]; rfl) (by decide) ?_
    refine lv_aload_n hx hb d_W_tableOfFunction_80 rfl (lv_at hl 0 rfl) ?_
    refine g_get S G in_W 0 rfl rfl 1 (by decide) fl_W_27 rfl d_W_tableOfFunction_81 ?_
    exact g_retq S hr hlk (some (a 1)) G ⟨by first | rfl | (simp only [fTab, eq_false c_1, eq_false c_2, eq_false c_3, eq_false c_4, eq_false c_5, eq_false c_6, eq_true c_7, ↓reduceIte]; done) | (simp only [fTab, eq_false c_1, eq_false c_2, eq_false c_3, eq_false c_4, eq_false c_5, eq_false c_6, eq_true c_7, ↓reduceIte]; rfl), by first | rfl | (simp only [fTab, eq_false c_1, eq_false c_2, eq_false c_3, eq_false c_4, eq_false c_5, eq_false c_6, eq_true c_7, ↓reduceIte]; done) | (simp only [fTab, eq_false c_1, eq_false c_2, eq_false c_3, eq_false c_4, eq_false c_5, eq_false c_6, eq_true c_7, ↓reduceIte]; rfl)⟩ (Nat.le_refl _) (Nat.le_refl _) d_W_tableOfFunction_84
  by_cases c_8 : f = 16
  · refine lv_tableIn (tgt := 90) hx hb d_W_tableOfFunction_1 (by rw [c_8]; decide) (by rw [c_8]; decide) (by rw [c_8]; rfl) (by decide) ?_
    refine lv_aload_n hx hb d_W_tableOfFunction_90 rfl (lv_at hl 0 rfl) ?_
    refine g_get S G in_W 0 rfl rfl 3 (by decide) fl_W_35 rfl d_W_tableOfFunction_91 ?_
    exact g_retq S hr hlk (some (a 5)) G ⟨by first | rfl | (simp only [fTab, eq_false c_1, eq_false c_2, eq_false c_3, eq_false c_4, eq_false c_5, eq_false c_6, eq_false c_7, eq_true c_8, ↓reduceIte]; done) | (simp only [fTab, eq_false c_1, eq_false c_2, eq_false c_3, eq_false c_4, eq_false c_5, eq_false c_6, eq_false c_7, eq_true c_8, ↓reduceIte]; rfl), by first | rfl | (simp only [fTab, eq_false c_1, eq_false c_2, eq_false c_3, eq_false c_4, eq_false c_5, eq_false c_6, eq_false c_7, eq_true c_8, ↓reduceIte]; done) | (simp only [fTab, eq_false c_1, eq_false c_2, eq_false c_3, eq_false c_4, eq_false c_5, eq_false c_6, eq_false c_7, eq_true c_8, ↓reduceIte]; rfl)⟩ (Nat.le_refl _) (Nat.le_refl _) d_W_tableOfFunction_94
  have nc_1 := lv_neT c_1 (a := 1) (by decide)
  have nc_2 := lv_neT c_2 (a := 2) (by decide)
  have nc_3 := lv_neT c_3 (a := 3) (by decide)
  have nc_4 := lv_neT c_4 (a := 4) (by decide)
  have nc_5 := lv_neT c_5 (a := 5) (by decide)
  have nc_6 := lv_neT c_6 (a := 6) (by decide)
  have nc_7 := lv_neT c_7 (a := 15) (by decide)
  have nc_8 := lv_neT c_8 (a := 16) (by decide)
  refine g_table (tgt := 100) (off := 99) hx hb d_W_tableOfFunction_1 ?_ (by decide) ?_
  · rcases (show (f.toInt < 1 ∨ 16 < f.toInt) ∨ f.toInt = 7 ∨ f.toInt = 8 ∨ f.toInt = 9 ∨ f.toInt = 10 ∨ f.toInt = 11 ∨ f.toInt = 12 ∨ f.toInt = 13 ∨ f.toInt = 14 by omega) with h | h | h | h | h | h | h | h | h
    · exact if_pos h
    · rw [h]; rfl
    · rw [h]; rfl
    · rw [h]; rfl
    · rw [h]; rfl
    · rw [h]; rfl
    · rw [h]; rfl
    · rw [h]; rfl
    · rw [h]; rfl
  refine lv_null hx hb d_W_tableOfFunction_100 ?_
  exact g_retq S hr hlk none G ⟨by first | rfl | (simp only [fTab, eq_false c_1, eq_false c_2, eq_false c_3, eq_false c_4, eq_false c_5, eq_false c_6, eq_false c_7, eq_false c_8, ↓reduceIte]; done) | (simp only [fTab, eq_false c_1, eq_false c_2, eq_false c_3, eq_false c_4, eq_false c_5, eq_false c_6, eq_false c_7, eq_false c_8, ↓reduceIte]; rfl), by first | rfl | (simp only [fTab, eq_false c_1, eq_false c_2, eq_false c_3, eq_false c_4, eq_false c_5, eq_false c_6, eq_false c_7, eq_false c_8, ↓reduceIte]; done) | (simp only [fTab, eq_false c_1, eq_false c_2, eq_false c_3, eq_false c_4, eq_false c_5, eq_false c_6, eq_false c_7, eq_false c_8, ↓reduceIte]; rfl)⟩ (Nat.le_refl _) (Nat.le_refl _) d_W_tableOfFunction_101

abbrev rm_W_get : Room := { frames := 2, cells := 0, slots := 0, locals := 42 }
set_option maxHeartbeats 4000000 in
set_option maxRecDepth 100000 in
theorem c_W_get (l : Launch) (D : va_G) (cA : ClassId) (a : Nat → Nat) (σ : St) (t p : Int32)  : Ci l y_W_get w_W_get rm_W_get D vwCl [(cA, .int)] [.ref (a 0), .int t, .int p] (wW cA a σ) 0 0 (fun r0 w0 => r0 = wGet σ t p ∧ w0 = wW cA a σ) := by
  refine Ci.of (Ts := lw_g) (own := "WireSlave") (cc := b_W_get) (maxL := 4) (ret := (some .int)) (lv := [(0, .ref (a 0)), (1, .int t), (2, .int p)]) (by decide) rfl rfl (fun w h => List.mem_cons_of_mem _ h) (Nat.le_of_ble_eq_true rfl) rfl ?_
  intro pp ee ss mm args below meth cx AA S hr hlk G ls hl
  have hx := S.1
  have hb := S.2.1
  refine lv_aload_n hx hb d_W_get_0 rfl (lv_at hl 0 rfl) ?_
  refine lv_iload_n hx hb d_W_get_1 rfl (lv_at hl 1 rfl) ?_
  refine g_cVq (rest := []) S G (c_W_tableNumbered l D cA a σ t) (cwV 1 S.2.2.2.2 ml_W_83 rfl rfl rfl (by decide +kernel) ⟨Nat.le_of_ble_eq_true rfl, Nat.le_of_ble_eq_true rfl⟩) [0, 1, 2, 3, 4, 5, 6, 7, 8, 9, 10, 11, 12, 13] [] rfl rfl rfl rfl (by decide) 0 rfl rfl rfl hl.1 rfl (Nat.le_of_ble_eq_true rfl) d_W_get_2 ⟨Nat.le_of_ble_eq_true rfl, Nat.le_of_ble_eq_true rfl⟩ (fun rp_1 wp_1 H locs hp_1 G => ?_)
  obtain ⟨rfl, rfl⟩ := hp_1
  have G : Gw D vwCl [(cA, .int)] AA ss ss.heap H locs (wW cA a σ) := G
  rcases tNum_cases t with hk | hk | hk | hk | hk
  · rw [hk]
    refine W.eq (g2 := F0 mm 5 ls [.null]) rfl ?_
    refine lv_astore_nN (lv' := [(3, .null), (0, .ref (a 0)), (1, .int t), (2, .int p)]) hx hb d_W_get_5 rfl hl (by decide) rfl (fun ls hl => ?_)
    refine lv_aload_nN hx hb d_W_get_6 rfl (lv_at hl 0 rfl) ?_
    refine lv_ifnonnullN hx hb d_W_get_7 ?_
    refine lv_iconst (v := (-1)) hx hb d_W_get_10 (by decide) ?_
    refine lv_goto (tgt := 19) hx hb d_W_get_11 (by decide) ?_
    exact g_reti S hr hlk G ⟨by unfold wGet; rw [hk]; rfl, rfl⟩ (Nat.le_refl _) (Nat.le_refl _) d_W_get_19
  · rw [hk]
    refine W.eq (g2 := F0 mm 5 ls [.ref (a 1)]) rfl ?_
    refine lv_astore_n (lv' := [(3, .ref (a 1)), (0, .ref (a 0)), (1, .int t), (2, .int p)]) hx hb d_W_get_5 rfl hl (by decide) rfl (fun ls hl => ?_)
    refine lv_aload_n hx hb d_W_get_6 rfl (lv_at hl 0 rfl) ?_
    refine lv_ifnonnull (tgt := 14) hx hb d_W_get_7 (by decide) ?_
    refine lv_aload_n hx hb d_W_get_14 rfl (lv_at hl 0 rfl) ?_
    refine lv_iload_n hx hb d_W_get_15 rfl (lv_at hl 3 rfl) ?_
    refine g_cVi (rest := []) S G (c_T_at l D cA (a 1) (a 2) 256 (σ 1) 1 p (by decide)) (cwV 1 S.2.2.2.2 ml_W_90 rfl rfl rfl (by decide +kernel) ⟨Nat.le_of_ble_eq_true rfl, Nat.le_of_ble_eq_true rfl⟩) [1, 2] [0, 3, 4, 5, 6, 7, 8, 9, 10, 11, 12, 13] rfl rfl rfl rfl (by decide) 1 rfl rfl rfl hl.1 rfl (Nat.le_of_ble_eq_true rfl) d_W_get_16 ⟨Nat.le_of_ble_eq_true rfl, Nat.le_of_ble_eq_true rfl⟩ (fun rp_2 wp_2 H locs hp_2 G => ?_)
    obtain ⟨rfl, rfl⟩ := hp_2
    have G := G.sub (ws' := wW cA a σ) [0, 12, 13, 1, 2, 3, 4, 5, 6, 7, 8, 9, 10, 11] rfl (ww_T1 cA a _)
    exact g_reti S hr hlk G ⟨by unfold wGet; rw [hk]; rfl, rfl⟩ (Nat.le_refl _) (Nat.le_refl _) d_W_get_19
  · rw [hk]
    refine W.eq (g2 := F0 mm 5 ls [.ref (a 3)]) rfl ?_
    refine lv_astore_n (lv' := [(3, .ref (a 3)), (0, .ref (a 0)), (1, .int t), (2, .int p)]) hx hb d_W_get_5 rfl hl (by decide) rfl (fun ls hl => ?_)
    refine lv_aload_n hx hb d_W_get_6 rfl (lv_at hl 0 rfl) ?_
    refine lv_ifnonnull (tgt := 14) hx hb d_W_get_7 (by decide) ?_
    refine lv_aload_n hx hb d_W_get_14 rfl (lv_at hl 0 rfl) ?_
    refine lv_iload_n hx hb d_W_get_15 rfl (lv_at hl 3 rfl) ?_
    refine g_cVi (rest := []) S G (c_T_at l D cA (a 3) (a 4) 256 (σ 2) 1 p (by decide)) (cwV 1 S.2.2.2.2 ml_W_90 rfl rfl rfl (by decide +kernel) ⟨Nat.le_of_ble_eq_true rfl, Nat.le_of_ble_eq_true rfl⟩) [3, 4] [0, 1, 2, 5, 6, 7, 8, 9, 10, 11, 12, 13] rfl rfl rfl rfl (by decide) 3 rfl rfl rfl hl.1 rfl (Nat.le_of_ble_eq_true rfl) d_W_get_16 ⟨Nat.le_of_ble_eq_true rfl, Nat.le_of_ble_eq_true rfl⟩ (fun rp_3 wp_3 H locs hp_3 G => ?_)
    obtain ⟨rfl, rfl⟩ := hp_3
    have G := G.sub (ws' := wW cA a σ) [0, 1, 2, 12, 13, 3, 4, 5, 6, 7, 8, 9, 10, 11] rfl (ww_T3 cA a _)
    exact g_reti S hr hlk G ⟨by unfold wGet; rw [hk]; rfl, rfl⟩ (Nat.le_refl _) (Nat.le_refl _) d_W_get_19
  · rw [hk]
    refine W.eq (g2 := F0 mm 5 ls [.ref (a 5)]) rfl ?_
    refine lv_astore_n (lv' := [(3, .ref (a 5)), (0, .ref (a 0)), (1, .int t), (2, .int p)]) hx hb d_W_get_5 rfl hl (by decide) rfl (fun ls hl => ?_)
    refine lv_aload_n hx hb d_W_get_6 rfl (lv_at hl 0 rfl) ?_
    refine lv_ifnonnull (tgt := 14) hx hb d_W_get_7 (by decide) ?_
    refine lv_aload_n hx hb d_W_get_14 rfl (lv_at hl 0 rfl) ?_
    refine lv_iload_n hx hb d_W_get_15 rfl (lv_at hl 3 rfl) ?_
    refine g_cVi (rest := []) S G (c_T_at l D cA (a 5) (a 6) 64 (σ 3) 65535 p (by decide)) (cwV 1 S.2.2.2.2 ml_W_90 rfl rfl rfl (by decide +kernel) ⟨Nat.le_of_ble_eq_true rfl, Nat.le_of_ble_eq_true rfl⟩) [5, 6] [0, 1, 2, 3, 4, 7, 8, 9, 10, 11, 12, 13] rfl rfl rfl rfl (by decide) 5 rfl rfl rfl hl.1 rfl (Nat.le_of_ble_eq_true rfl) d_W_get_16 ⟨Nat.le_of_ble_eq_true rfl, Nat.le_of_ble_eq_true rfl⟩ (fun rp_4 wp_4 H locs hp_4 G => ?_)
    obtain ⟨rfl, rfl⟩ := hp_4
    have G := G.sub (ws' := wW cA a σ) [0, 1, 2, 3, 4, 12, 13, 5, 6, 7, 8, 9, 10, 11] rfl (ww_T5 cA a _)
    exact g_reti S hr hlk G ⟨by unfold wGet; rw [hk]; rfl, rfl⟩ (Nat.le_refl _) (Nat.le_refl _) d_W_get_19
  · rw [hk]
    refine W.eq (g2 := F0 mm 5 ls [.ref (a 7)]) rfl ?_
    refine lv_astore_n (lv' := [(3, .ref (a 7)), (0, .ref (a 0)), (1, .int t), (2, .int p)]) hx hb d_W_get_5 rfl hl (by decide) rfl (fun ls hl => ?_)
    refine lv_aload_n hx hb d_W_get_6 rfl (lv_at hl 0 rfl) ?_
    refine lv_ifnonnull (tgt := 14) hx hb d_W_get_7 (by decide) ?_
    refine lv_aload_n hx hb d_W_get_14 rfl (lv_at hl 0 rfl) ?_
    refine lv_iload_n hx hb d_W_get_15 rfl (lv_at hl 3 rfl) ?_
    refine g_cVi (rest := []) S G (c_T_at l D cA (a 7) (a 8) 64 (σ 4) 65535 p (by decide)) (cwV 1 S.2.2.2.2 ml_W_90 rfl rfl rfl (by decide +kernel) ⟨Nat.le_of_ble_eq_true rfl, Nat.le_of_ble_eq_true rfl⟩) [7, 8] [0, 1, 2, 3, 4, 5, 6, 9, 10, 11, 12, 13] rfl rfl rfl rfl (by decide) 7 rfl rfl rfl hl.1 rfl (Nat.le_of_ble_eq_true rfl) d_W_get_16 ⟨Nat.le_of_ble_eq_true rfl, Nat.le_of_ble_eq_true rfl⟩ (fun rp_5 wp_5 H locs hp_5 G => ?_)
    obtain ⟨rfl, rfl⟩ := hp_5
    have G := G.sub (ws' := wW cA a σ) [0, 1, 2, 3, 4, 5, 6, 12, 13, 7, 8, 9, 10, 11] rfl (ww_T7 cA a _)
    exact g_reti S hr hlk G ⟨by unfold wGet; rw [hk]; rfl, rfl⟩ (Nat.le_refl _) (Nat.le_refl _) d_W_get_19

abbrev rm_W_set : Room := { frames := 2, cells := 0, slots := 0, locals := 44 }
set_option maxHeartbeats 4000000 in
set_option maxRecDepth 100000 in
theorem c_W_set (l : Launch) (D : va_G) (cA : ClassId) (a : Nat → Nat) (σ : St) (t p v : Int32)  : Ci l y_W_set w_W_set rm_W_set D vwCl [(cA, .int)] [.ref (a 0), .int t, .int p, .int v] (wW cA a σ) 0 0 (fun r0 w0 => r0 = wSetR σ t p v ∧ w0 = wW cA a (wSet σ t p v)) := by
  refine Ci.of (Ts := lw_g) (own := "WireSlave") (cc := b_W_set) (maxL := 5) (ret := (some .int)) (lv := [(0, .ref (a 0)), (1, .int t), (2, .int p), (3, .int v)]) (by decide) rfl rfl (fun w h => List.mem_cons_of_mem _ h) (Nat.le_of_ble_eq_true rfl) rfl ?_
  intro pp ee ss mm args below meth cx AA S hr hlk G ls hl
  have hx := S.1
  have hb := S.2.1
  refine lv_aload_n hx hb d_W_set_0 rfl (lv_at hl 0 rfl) ?_
  refine lv_iload_n hx hb d_W_set_1 rfl (lv_at hl 1 rfl) ?_
  refine g_cVq (rest := []) S G (c_W_tableNumbered l D cA a σ t) (cwV 1 S.2.2.2.2 ml_W_83 rfl rfl rfl (by decide +kernel) ⟨Nat.le_of_ble_eq_true rfl, Nat.le_of_ble_eq_true rfl⟩) [0, 1, 2, 3, 4, 5, 6, 7, 8, 9, 10, 11, 12, 13] [] rfl rfl rfl rfl (by decide) 0 rfl rfl rfl hl.1 rfl (Nat.le_of_ble_eq_true rfl) d_W_set_2 ⟨Nat.le_of_ble_eq_true rfl, Nat.le_of_ble_eq_true rfl⟩ (fun rp_1 wp_1 H locs hp_1 G => ?_)
  obtain ⟨rfl, rfl⟩ := hp_1
  have G : Gw D vwCl [(cA, .int)] AA ss ss.heap H locs (wW cA a σ) := G
  rcases tNum_cases t with hk | hk | hk | hk | hk
  · rw [hk]
    refine W.eq (g2 := F0 mm 5 ls [.null]) rfl ?_
    refine lv_astoreN (lv' := [(4, .null), (0, .ref (a 0)), (1, .int t), (2, .int p), (3, .int v)]) hx hb d_W_set_5 hl (by decide) rfl (fun ls hl => ?_)
    refine lv_aloadN hx hb d_W_set_7 (lv_at hl 0 rfl) ?_
    refine lv_ifnonnullN hx hb d_W_set_9 ?_
    refine lv_iconst (v := (-1)) hx hb d_W_set_12 (by decide) ?_
    refine lv_goto (tgt := 23) hx hb d_W_set_13 (by decide) ?_
    exact g_reti S hr hlk G ⟨by unfold wSetR; rw [hk]; rfl, by unfold wSet; rw [hk]; rfl⟩ (Nat.le_refl _) (Nat.le_refl _) d_W_set_23
  · rw [hk]
    refine W.eq (g2 := F0 mm 5 ls [.ref (a 1)]) rfl ?_
    refine lv_astore (lv' := [(4, .ref (a 1)), (0, .ref (a 0)), (1, .int t), (2, .int p), (3, .int v)]) hx hb d_W_set_5 hl (by decide) rfl (fun ls hl => ?_)
    refine lv_aload hx hb d_W_set_7 (lv_at hl 0 rfl) ?_
    refine lv_ifnonnull (tgt := 16) hx hb d_W_set_9 (by decide) ?_
    refine lv_aload hx hb d_W_set_16 (lv_at hl 0 rfl) ?_
    refine lv_iload_n hx hb d_W_set_18 rfl (lv_at hl 3 rfl) ?_
    refine lv_iload_n hx hb d_W_set_19 rfl (lv_at hl 4 rfl) ?_
    refine g_cVi (rest := []) S G (c_T_replace l D cA (a 1) (a 2) 256 (σ 1) 1 p v (by decide)) (cwV 2 S.2.2.2.2 ml_W_87 rfl rfl rfl (by decide +kernel) ⟨Nat.le_of_ble_eq_true rfl, Nat.le_of_ble_eq_true rfl⟩) [1, 2] [0, 3, 4, 5, 6, 7, 8, 9, 10, 11, 12, 13] rfl rfl rfl rfl (by decide) 1 rfl rfl rfl hl.1 rfl (Nat.le_of_ble_eq_true rfl) d_W_set_20 ⟨Nat.le_of_ble_eq_true rfl, Nat.le_of_ble_eq_true rfl⟩ (fun rp_2 wp_2 H locs hp_2 G => ?_)
    obtain ⟨rfl, rfl⟩ := hp_2
    have G := G.sub (ws' := wW cA a (sS σ 1 (tRepF 256 (σ 1) 1 p v))) [0, 12, 13, 1, 2, 3, 4, 5, 6, 7, 8, 9, 10, 11] rfl (ww_sT1 cA a _ _)
    exact g_reti S hr hlk G ⟨by unfold wSetR; rw [hk]; rfl, by unfold wSet; rw [hk]; rfl⟩ (Nat.le_refl _) (Nat.le_refl _) d_W_set_23
  · rw [hk]
    refine W.eq (g2 := F0 mm 5 ls [.ref (a 3)]) rfl ?_
    refine lv_astore (lv' := [(4, .ref (a 3)), (0, .ref (a 0)), (1, .int t), (2, .int p), (3, .int v)]) hx hb d_W_set_5 hl (by decide) rfl (fun ls hl => ?_)
    refine lv_aload hx hb d_W_set_7 (lv_at hl 0 rfl) ?_
    refine lv_ifnonnull (tgt := 16) hx hb d_W_set_9 (by decide) ?_
    refine lv_aload hx hb d_W_set_16 (lv_at hl 0 rfl) ?_
    refine lv_iload_n hx hb d_W_set_18 rfl (lv_at hl 3 rfl) ?_
    refine lv_iload_n hx hb d_W_set_19 rfl (lv_at hl 4 rfl) ?_
    refine g_cVi (rest := []) S G (c_T_replace l D cA (a 3) (a 4) 256 (σ 2) 1 p v (by decide)) (cwV 2 S.2.2.2.2 ml_W_87 rfl rfl rfl (by decide +kernel) ⟨Nat.le_of_ble_eq_true rfl, Nat.le_of_ble_eq_true rfl⟩) [3, 4] [0, 1, 2, 5, 6, 7, 8, 9, 10, 11, 12, 13] rfl rfl rfl rfl (by decide) 3 rfl rfl rfl hl.1 rfl (Nat.le_of_ble_eq_true rfl) d_W_set_20 ⟨Nat.le_of_ble_eq_true rfl, Nat.le_of_ble_eq_true rfl⟩ (fun rp_3 wp_3 H locs hp_3 G => ?_)
    obtain ⟨rfl, rfl⟩ := hp_3
    have G := G.sub (ws' := wW cA a (sS σ 2 (tRepF 256 (σ 2) 1 p v))) [0, 1, 2, 12, 13, 3, 4, 5, 6, 7, 8, 9, 10, 11] rfl (ww_sT3 cA a _ _)
    exact g_reti S hr hlk G ⟨by unfold wSetR; rw [hk]; rfl, by unfold wSet; rw [hk]; rfl⟩ (Nat.le_refl _) (Nat.le_refl _) d_W_set_23
  · rw [hk]
    refine W.eq (g2 := F0 mm 5 ls [.ref (a 5)]) rfl ?_
    refine lv_astore (lv' := [(4, .ref (a 5)), (0, .ref (a 0)), (1, .int t), (2, .int p), (3, .int v)]) hx hb d_W_set_5 hl (by decide) rfl (fun ls hl => ?_)
    refine lv_aload hx hb d_W_set_7 (lv_at hl 0 rfl) ?_
    refine lv_ifnonnull (tgt := 16) hx hb d_W_set_9 (by decide) ?_
    refine lv_aload hx hb d_W_set_16 (lv_at hl 0 rfl) ?_
    refine lv_iload_n hx hb d_W_set_18 rfl (lv_at hl 3 rfl) ?_
    refine lv_iload_n hx hb d_W_set_19 rfl (lv_at hl 4 rfl) ?_
    refine g_cVi (rest := []) S G (c_T_replace l D cA (a 5) (a 6) 64 (σ 3) 65535 p v (by decide)) (cwV 2 S.2.2.2.2 ml_W_87 rfl rfl rfl (by decide +kernel) ⟨Nat.le_of_ble_eq_true rfl, Nat.le_of_ble_eq_true rfl⟩) [5, 6] [0, 1, 2, 3, 4, 7, 8, 9, 10, 11, 12, 13] rfl rfl rfl rfl (by decide) 5 rfl rfl rfl hl.1 rfl (Nat.le_of_ble_eq_true rfl) d_W_set_20 ⟨Nat.le_of_ble_eq_true rfl, Nat.le_of_ble_eq_true rfl⟩ (fun rp_4 wp_4 H locs hp_4 G => ?_)
    obtain ⟨rfl, rfl⟩ := hp_4
    have G := G.sub (ws' := wW cA a (sS σ 3 (tRepF 64 (σ 3) 65535 p v))) [0, 1, 2, 3, 4, 12, 13, 5, 6, 7, 8, 9, 10, 11] rfl (ww_sT5 cA a _ _)
    exact g_reti S hr hlk G ⟨by unfold wSetR; rw [hk]; rfl, by unfold wSet; rw [hk]; rfl⟩ (Nat.le_refl _) (Nat.le_refl _) d_W_set_23
  · rw [hk]
    refine W.eq (g2 := F0 mm 5 ls [.ref (a 7)]) rfl ?_
    refine lv_astore (lv' := [(4, .ref (a 7)), (0, .ref (a 0)), (1, .int t), (2, .int p), (3, .int v)]) hx hb d_W_set_5 hl (by decide) rfl (fun ls hl => ?_)
    refine lv_aload hx hb d_W_set_7 (lv_at hl 0 rfl) ?_
    refine lv_ifnonnull (tgt := 16) hx hb d_W_set_9 (by decide) ?_
    refine lv_aload hx hb d_W_set_16 (lv_at hl 0 rfl) ?_
    refine lv_iload_n hx hb d_W_set_18 rfl (lv_at hl 3 rfl) ?_
    refine lv_iload_n hx hb d_W_set_19 rfl (lv_at hl 4 rfl) ?_
    refine g_cVi (rest := []) S G (c_T_replace l D cA (a 7) (a 8) 64 (σ 4) 65535 p v (by decide)) (cwV 2 S.2.2.2.2 ml_W_87 rfl rfl rfl (by decide +kernel) ⟨Nat.le_of_ble_eq_true rfl, Nat.le_of_ble_eq_true rfl⟩) [7, 8] [0, 1, 2, 3, 4, 5, 6, 9, 10, 11, 12, 13] rfl rfl rfl rfl (by decide) 7 rfl rfl rfl hl.1 rfl (Nat.le_of_ble_eq_true rfl) d_W_set_20 ⟨Nat.le_of_ble_eq_true rfl, Nat.le_of_ble_eq_true rfl⟩ (fun rp_5 wp_5 H locs hp_5 G => ?_)
    obtain ⟨rfl, rfl⟩ := hp_5
    have G := G.sub (ws' := wW cA a (sS σ 4 (tRepF 64 (σ 4) 65535 p v))) [0, 1, 2, 3, 4, 5, 6, 12, 13, 7, 8, 9, 10, 11] rfl (ww_sT7 cA a _ _)
    exact g_reti S hr hlk G ⟨by unfold wSetR; rw [hk]; rfl, by unfold wSet; rw [hk]; rfl⟩ (Nat.le_refl _) (Nat.le_refl _) d_W_set_23
