abbrev rm_T_has : Room := { frames := 0, cells := 0, slots := 0, locals := 0 }
set_option maxHeartbeats 4000000 in
set_option maxRecDepth 100000 in
theorem c_T_has (l : Launch) (D : va_G) (cA : ClassId) (t r n : Nat) (f : Nat → Int32) (most p : Int32)  : Ci l y_T_has w_T_has rm_T_has D vwCl [(cA, .int)] [.ref t, .int p] (wT cA t r n f most) 0 0 (fun r0 w0 => r0 = tHas n p ∧ w0 = wT cA t r n f most) := by
  refine Ci.of (Ts := lw_g) (own := "WireSlave$Table") (cc := b_T_has) (maxL := 2) (ret := (some .boolean)) (lv := [(0, .ref t), (1, .int p)]) (by decide) rfl rfl (fun w h => List.mem_cons_of_mem _ h) (Nat.le_of_ble_eq_true rfl) rfl ?_
  intro pp ee ss mm args below meth cx AA S hr hlk G ls hl
  have hx := S.1
  have hb := S.2.1
  refine lv_iload_n hx hb d_T_has_0 rfl (lv_at hl 1 rfl) ?_
  refine lv_if_lt (tgt := 17) hx hb d_T_has_1 (by decide) (fun c_1 => ?_) (fun c_1 => ?_)
  · refine lv_iconst (v := 0) hx hb d_T_has_17 (by decide) ?_
    exact g_retz S hr hlk rfl G ⟨by first | rfl | (simp only [tHas, eq_true c_1, ↓reduceIte]; done) | (simp only [tHas, eq_true c_1, ↓reduceIte]; rfl), by first | rfl | (simp only [tHas, eq_true c_1, ↓reduceIte]; done) | (simp only [tHas, eq_true c_1, ↓reduceIte]; rfl)⟩ (Nat.le_refl _) (Nat.le_refl _) d_T_has_18
  · refine lv_iload_n hx hb d_T_has_4 rfl (lv_at hl 1 rfl) ?_
    refine lv_aload_n hx hb d_T_has_5 rfl (lv_at hl 0 rfl) ?_
    refine g_get S G in_T 0 rfl rfl 0 (by decide) fl_T_9 rfl d_T_has_6 ?_
    refine g_alen S G 1 0 rfl rfl (nI n) rfl d_T_has_9 ?_
    refine lv_icmp_ge (tgt := 17) hx hb d_T_has_10 (by decide) (fun c_2 => ?_) (fun c_2 => ?_)
    · refine lv_iconst (v := 0) hx hb d_T_has_17 (by decide) ?_
      exact g_retz S hr hlk rfl G ⟨by first | rfl | (simp only [tHas, eq_false c_1, eq_true c_2, ↓reduceIte]; done) | (simp only [tHas, eq_false c_1, eq_true c_2, ↓reduceIte]; rfl), by first | rfl | (simp only [tHas, eq_false c_1, eq_true c_2, ↓reduceIte]; done) | (simp only [tHas, eq_false c_1, eq_true c_2, ↓reduceIte]; rfl)⟩ (Nat.le_refl _) (Nat.le_refl _) d_T_has_18
    · refine lv_iconst (v := 1) hx hb d_T_has_13 (by decide) ?_
      refine lv_goto (tgt := 18) hx hb d_T_has_14 (by decide) ?_
      exact g_retz S hr hlk rfl G ⟨by first | rfl | (simp only [tHas, eq_false c_1, eq_false c_2, ↓reduceIte]; done) | (simp only [tHas, eq_false c_1, eq_false c_2, ↓reduceIte]; rfl), by first | rfl | (simp only [tHas, eq_false c_1, eq_false c_2, ↓reduceIte]; done) | (simp only [tHas, eq_false c_1, eq_false c_2, ↓reduceIte]; rfl)⟩ (Nat.le_refl _) (Nat.le_refl _) d_T_has_18

abbrev rm_T_at : Room := { frames := 1, cells := 0, slots := 0, locals := 21 }
set_option maxHeartbeats 4000000 in
set_option maxRecDepth 100000 in
theorem c_T_at (l : Launch) (D : va_G) (cA : ClassId) (t r n : Nat) (f : Nat → Int32) (most p : Int32) (hn : n < 2 ^ 31) : Ci l y_T_at w_T_at rm_T_at D vwCl [(cA, .int)] [.ref t, .int p] (wT cA t r n f most) 0 0 (fun r0 w0 => r0 = tAt n f p ∧ w0 = wT cA t r n f most) := by
  refine Ci.of (Ts := lw_g) (own := "WireSlave$Table") (cc := b_T_at) (maxL := 2) (ret := (some .int)) (lv := [(0, .ref t), (1, .int p)]) (by decide) rfl rfl (fun w h => List.mem_cons_of_mem _ h) (Nat.le_of_ble_eq_true rfl) rfl ?_
  intro pp ee ss mm args below meth cx AA S hr hlk G ls hl
  have hx := S.1
  have hb := S.2.1
  refine lv_aload_n hx hb d_T_at_0 rfl (lv_at hl 0 rfl) ?_
  refine lv_iload_n hx hb d_T_at_1 rfl (lv_at hl 1 rfl) ?_
  refine g_cVi (rest := []) S G (c_T_has l D cA t r n f most p) (cwV 1 S.2.2.2.2 ml_T_19 rfl rfl rfl (by decide +kernel) ⟨Nat.le_of_ble_eq_true rfl, Nat.le_of_ble_eq_true rfl⟩) [0, 1] [] rfl rfl rfl rfl (by decide) 0 rfl rfl rfl hl.1 rfl (Nat.le_of_ble_eq_true rfl) d_T_at_2 ⟨Nat.le_of_ble_eq_true rfl, Nat.le_of_ble_eq_true rfl⟩ (fun rp_1 wp_1 H locs hp_1 G => ?_)
  obtain ⟨rfl, rfl⟩ := hp_1
  have G : Gw D vwCl [(cA, .int)] AA ss ss.heap H locs (wT cA t r n f most) := G
  refine lv_if_eq (tgt := 17) hx hb d_T_at_5 (by decide) (fun c_2 => ?_) (fun c_2 => ?_)
  · refine lv_iconst (v := (-1)) hx hb d_T_at_17 (by decide) ?_
    exact g_reti S hr hlk G ⟨by first | rfl | (simp only [tAt, eq_true c_2, ↓reduceIte]; done) | (simp only [tAt, eq_true c_2, ↓reduceIte]; rfl), by first | rfl | (simp only [tAt, eq_true c_2, ↓reduceIte]; done) | (simp only [tAt, eq_true c_2, ↓reduceIte]; rfl)⟩ (Nat.le_refl _) (Nat.le_refl _) d_T_at_18
  · refine lv_aload_n hx hb d_T_at_8 rfl (lv_at hl 0 rfl) ?_
    refine g_get S G in_T 0 rfl rfl 0 (by decide) fl_T_9 rfl d_T_at_9 ?_
    refine lv_iload_n hx hb d_T_at_12 rfl (lv_at hl 1 rfl) ?_
    refine g_iald S G 1 0 rfl rfl (tHas_in c_2 hn) d_T_at_13 ?_
    refine lv_goto (tgt := 18) hx hb d_T_at_14 (by decide) ?_
    exact g_reti S hr hlk G ⟨by first | rfl | (simp only [tAt, eq_false c_2, ↓reduceIte]; done) | (simp only [tAt, eq_false c_2, ↓reduceIte]; rfl), by first | rfl | (simp only [tAt, eq_false c_2, ↓reduceIte]; done) | (simp only [tAt, eq_false c_2, ↓reduceIte]; rfl)⟩ (Nat.le_refl _) (Nat.le_refl _) d_T_at_18

abbrev rm_T_replace : Room := { frames := 1, cells := 0, slots := 0, locals := 21 }
set_option maxHeartbeats 4000000 in
set_option maxRecDepth 100000 in
theorem c_T_replace (l : Launch) (D : va_G) (cA : ClassId) (t r n : Nat) (f : Nat → Int32) (most p v : Int32) (hn : n < 2 ^ 31) : Ci l y_T_replace w_T_replace rm_T_replace D vwCl [(cA, .int)] [.ref t, .int p, .int v] (wT cA t r n f most) 0 0 (fun r0 w0 => r0 = tRepR n f most p v ∧ w0 = wT cA t r n (tRepF n f most p v) most) := by
  refine Ci.of (Ts := lw_g) (own := "WireSlave$Table") (cc := b_T_replace) (maxL := 4) (ret := (some .int)) (lv := [(0, .ref t), (1, .int p), (2, .int v)]) (by decide) rfl rfl (fun w h => List.mem_cons_of_mem _ h) (Nat.le_of_ble_eq_true rfl) rfl ?_
  intro pp ee ss mm args below meth cx AA S hr hlk G ls hl
  have hx := S.1
  have hb := S.2.1
  refine lv_aload_n hx hb d_T_replace_0 rfl (lv_at hl 0 rfl) ?_
  refine lv_iload_n hx hb d_T_replace_1 rfl (lv_at hl 1 rfl) ?_
  refine g_cVi (rest := []) S G (c_T_has l D cA t r n f most p) (cwV 1 S.2.2.2.2 ml_T_19 rfl rfl rfl (by decide +kernel) ⟨Nat.le_of_ble_eq_true rfl, Nat.le_of_ble_eq_true rfl⟩) [0, 1] [] rfl rfl rfl rfl (by decide) 0 rfl rfl rfl hl.1 rfl (Nat.le_of_ble_eq_true rfl) d_T_replace_2 ⟨Nat.le_of_ble_eq_true rfl, Nat.le_of_ble_eq_true rfl⟩ (fun rp_1 wp_1 H locs hp_1 G => ?_)
  obtain ⟨rfl, rfl⟩ := hp_1
  have G : Gw D vwCl [(cA, .int)] AA ss ss.heap H locs (wT cA t r n f most) := G
  refine lv_if_eq (tgt := 20) hx hb d_T_replace_5 (by decide) (fun c_2 => ?_) (fun c_2 => ?_)
  · refine lv_iconst (v := (-1)) hx hb d_T_replace_20 (by decide) ?_
    exact g_reti S hr hlk G ⟨by first | rfl | (simp only [tRepR, tRepF, eq_true c_2, ↓reduceIte]; done) | (simp only [tRepR, tRepF, eq_true c_2, ↓reduceIte]; rfl), by first | rfl | (simp only [tRepR, tRepF, eq_true c_2, ↓reduceIte]; done) | (simp only [tRepR, tRepF, eq_true c_2, ↓reduceIte]; rfl)⟩ (Nat.le_refl _) (Nat.le_refl _) d_T_replace_21
  · refine lv_iload_n hx hb d_T_replace_8 rfl (lv_at hl 2 rfl) ?_
    refine lv_if_lt (tgt := 20) hx hb d_T_replace_9 (by decide) (fun c_3 => ?_) (fun c_3 => ?_)
    · refine lv_iconst (v := (-1)) hx hb d_T_replace_20 (by decide) ?_
      exact g_reti S hr hlk G ⟨by first | rfl | (simp only [tRepR, tRepF, eq_false c_2, eq_true c_3, ↓reduceIte]; done) | (simp only [tRepR, tRepF, eq_false c_2, eq_true c_3, ↓reduceIte]; rfl), by first | rfl | (simp only [tRepR, tRepF, eq_false c_2, eq_true c_3, ↓reduceIte]; done) | (simp only [tRepR, tRepF, eq_false c_2, eq_true c_3, ↓reduceIte]; rfl)⟩ (Nat.le_refl _) (Nat.le_refl _) d_T_replace_21
    · refine lv_iload_n hx hb d_T_replace_12 rfl (lv_at hl 2 rfl) ?_
      refine lv_aload_n hx hb d_T_replace_13 rfl (lv_at hl 0 rfl) ?_
      refine g_get S G in_T 0 rfl rfl 1 (by decide) fl_T_15 rfl d_T_replace_14 ?_
      refine lv_icmp_le (tgt := 22) hx hb d_T_replace_17 (by decide) (fun c_4 => ?_) (fun c_4 => ?_)
      · refine lv_aload_n hx hb d_T_replace_22 rfl (lv_at hl 0 rfl) ?_
        refine g_get S G in_T 0 rfl rfl 0 (by decide) fl_T_9 rfl d_T_replace_23 ?_
        refine lv_iload_n hx hb d_T_replace_26 rfl (lv_at hl 1 rfl) ?_
        refine g_iald S G 1 0 rfl rfl (tHas_in c_2 hn) d_T_replace_27 ?_
        refine lv_istore_n (lv' := [(3, .int (f p.toNatClampNeg)), (0, .ref t), (1, .int p), (2, .int v)]) hx hb d_T_replace_28 rfl hl (by decide) rfl (fun ls hl => ?_)
        refine lv_aload_n hx hb d_T_replace_29 rfl (lv_at hl 1 rfl) ?_
        refine g_get S G in_T 0 rfl rfl 0 (by decide) fl_T_9 rfl d_T_replace_30 ?_
        refine lv_iload_n hx hb d_T_replace_33 rfl (lv_at hl 2 rfl) ?_
        refine lv_iload_n hx hb d_T_replace_34 rfl (lv_at hl 3 rfl) ?_
        refine g_iast S G 1 0 rfl rfl (tHas_in c_2 hn) (wT cA t r n (upd f p.toNatClampNeg v) most) rfl d_T_replace_35 (fun H locs G => ?_)
        refine lv_iload_n hx hb d_T_replace_36 rfl (lv_at hl 0 rfl) ?_
        exact g_reti S hr hlk G ⟨by first | rfl | (simp only [tRepR, tRepF, eq_false c_2, eq_false c_3, eq_true c_4, ↓reduceIte]; done) | (simp only [tRepR, tRepF, eq_false c_2, eq_false c_3, eq_true c_4, ↓reduceIte]; rfl), by first | rfl | (simp only [tRepR, tRepF, eq_false c_2, eq_false c_3, eq_true c_4, ↓reduceIte]; done) | (simp only [tRepR, tRepF, eq_false c_2, eq_false c_3, eq_true c_4, ↓reduceIte]; rfl)⟩ (Nat.le_refl _) (Nat.le_refl _) d_T_replace_37
      · refine lv_iconst (v := (-1)) hx hb d_T_replace_20 (by decide) ?_
        exact g_reti S hr hlk G ⟨by first | rfl | (simp only [tRepR, tRepF, eq_false c_2, eq_false c_3, eq_false c_4, ↓reduceIte]; done) | (simp only [tRepR, tRepF, eq_false c_2, eq_false c_3, eq_false c_4, ↓reduceIte]; rfl), by first | rfl | (simp only [tRepR, tRepF, eq_false c_2, eq_false c_3, eq_false c_4, ↓reduceIte]; done) | (simp only [tRepR, tRepF, eq_false c_2, eq_false c_3, eq_false c_4, ↓reduceIte]; rfl)⟩ (Nat.le_refl _) (Nat.le_refl _) d_T_replace_21
