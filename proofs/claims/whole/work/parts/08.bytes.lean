abbrev rm_B_size : Room := { frames := 0, cells := 0, slots := 0, locals := 0 }
set_option maxHeartbeats 4000000 in
set_option maxRecDepth 100000 in
theorem c_B_size (l : Launch) (D : va_G) (cA : ClassId) (t r n : Nat) (f : Nat → Int32) (z : Int32)  : Ci l y_B_size w_B_size rm_B_size D vwCl [(cA, .int)] [.ref t] (wB cA t r n f z) 0 0 (fun r0 w0 => r0 = z ∧ w0 = wB cA t r n f z) := by
  refine Ci.of (Ts := lw_g) (own := "WireSlave$Bytes") (cc := b_B_size) (maxL := 1) (ret := (some .int)) (lv := [(0, .ref t)]) (by decide) rfl rfl (fun w h => List.mem_cons_of_mem _ h) (Nat.le_of_ble_eq_true rfl) rfl ?_
  intro pp ee ss mm args below meth cx AA S hr hlk G ls hl
  have hx := S.1
  have hb := S.2.1
  refine lv_aload_n hx hb d_B_size_0 rfl (lv_at hl 0 rfl) ?_
  refine g_get S G in_B 0 rfl rfl 1 (by decide) fl_B_15 rfl d_B_size_1 ?_
  exact g_reti S hr hlk G ⟨by first | rfl | (simp only [↓reduceIte]; done) | (simp only [↓reduceIte]; rfl), by first | rfl | (simp only [↓reduceIte]; done) | (simp only [↓reduceIte]; rfl)⟩ (Nat.le_refl _) (Nat.le_refl _) d_B_size_4

abbrev rm_B_clear : Room := { frames := 0, cells := 0, slots := 0, locals := 0 }
set_option maxHeartbeats 4000000 in
set_option maxRecDepth 100000 in
theorem c_B_clear (l : Launch) (D : va_G) (cA : ClassId) (t r n : Nat) (f : Nat → Int32) (z : Int32)  : Cv l y_B_clear w_B_clear rm_B_clear D vwCl [(cA, .int)] [.ref t] (wB cA t r n f z) 0 0 (fun w0 => w0 = wB cA t r n f 0) := by
  refine Cv.of (Ts := lw_g) (own := "WireSlave$Bytes") (cc := b_B_clear) (maxL := 1) (ret := none) (lv := [(0, .ref t)]) (by decide) rfl rfl (fun w h => List.mem_cons_of_mem _ h) (Nat.le_of_ble_eq_true rfl) rfl ?_
  intro pp ee ss mm args below meth cx AA S hr hlk hnm G ls hl
  have hx := S.1
  have hb := S.2.1
  refine lv_aload_n hx hb d_B_clear_0 rfl (lv_at hl 0 rfl) ?_
  refine lv_iconst (v := 0) hx hb d_B_clear_1 (by decide) ?_
  refine g_put S G in_B ft_B tok_B nm_B 0 rfl rfl 1 (by decide) fl_B_15 rfl rfl rfl (Nat.le_of_ble_eq_true rfl) (wB cA t r n f 0) rfl d_B_clear_2 (fun H locs G => ?_)
  exact g_retv S hr hlk G (by first | rfl | (simp only [↓reduceIte]; done) | (simp only [↓reduceIte]; rfl)) (Nat.le_refl _) (Nat.le_refl _) d_B_clear_5

abbrev rm_B_append : Room := { frames := 0, cells := 0, slots := 0, locals := 0 }
set_option maxHeartbeats 4000000 in
set_option maxRecDepth 100000 in
theorem c_B_append (l : Launch) (D : va_G) (cA : ClassId) (t r n : Nat) (f : Nat → Int32) (z b : Int32) (hn : n < 2 ^ 31) : Cv l y_B_append w_B_append rm_B_append D vwCl [(cA, .int)] [.ref t, .int b] (wB cA t r n f z) 0 0 (fun w0 => w0 = wB cA t r n (apF n f z b) (apZ n z)) := by
  refine Cv.of (Ts := lw_g) (own := "WireSlave$Bytes") (cc := b_B_append) (maxL := 2) (ret := none) (lv := [(0, .ref t), (1, .int b)]) (by decide) rfl rfl (fun w h => List.mem_cons_of_mem _ h) (Nat.le_of_ble_eq_true rfl) rfl ?_
  intro pp ee ss mm args below meth cx AA S hr hlk hnm G ls hl
  have hx := S.1
  have hb := S.2.1
  refine lv_aload_n hx hb d_B_append_0 rfl (lv_at hl 0 rfl) ?_
  refine g_get S G in_B 0 rfl rfl 1 (by decide) fl_B_15 rfl d_B_append_1 ?_
  refine lv_if_lt (tgt := 39) hx hb d_B_append_4 (by decide) (fun c_1 => ?_) (fun c_1 => ?_)
  · exact g_retv S hr hlk G (by first | rfl | (simp only [apF, apZ, eq_true c_1, ↓reduceIte]; done) | (simp only [apF, apZ, eq_true c_1, ↓reduceIte]; rfl)) (Nat.le_refl _) (Nat.le_refl _) d_B_append_39
  · refine lv_aload_n hx hb d_B_append_7 rfl (lv_at hl 0 rfl) ?_
    refine g_get S G in_B 0 rfl rfl 1 (by decide) fl_B_15 rfl d_B_append_8 ?_
    refine lv_aload_n hx hb d_B_append_11 rfl (lv_at hl 0 rfl) ?_
    refine g_get S G in_B 0 rfl rfl 0 (by decide) fl_B_9 rfl d_B_append_12 ?_
    refine g_alen S G 1 0 rfl rfl (nI n) rfl d_B_append_15 ?_
    refine lv_icmp_ge (tgt := 39) hx hb d_B_append_16 (by decide) (fun c_2 => ?_) (fun c_2 => ?_)
    · exact g_retv S hr hlk G (by first | rfl | (simp only [apF, apZ, eq_false c_1, eq_true c_2, ↓reduceIte]; done) | (simp only [apF, apZ, eq_false c_1, eq_true c_2, ↓reduceIte]; rfl)) (Nat.le_refl _) (Nat.le_refl _) d_B_append_39
    · refine lv_aload_n hx hb d_B_append_19 rfl (lv_at hl 0 rfl) ?_
      refine g_get S G in_B 0 rfl rfl 0 (by decide) fl_B_9 rfl d_B_append_20 ?_
      refine lv_aload_n hx hb d_B_append_23 rfl (lv_at hl 0 rfl) ?_
      refine g_get S G in_B 0 rfl rfl 1 (by decide) fl_B_15 rfl d_B_append_24 ?_
      refine lv_iload_n hx hb d_B_append_27 rfl (lv_at hl 1 rfl) ?_
      refine g_iast S G 1 0 rfl rfl (vin_ge (n := n) c_1 c_2 hn) (wB cA t r n (upd f z.toNatClampNeg b) z) rfl d_B_append_28 (fun H locs G => ?_)
      refine lv_aload_n hx hb d_B_append_29 rfl (lv_at hl 0 rfl) ?_
      refine lv_dup hx hb d_B_append_30 rfl ?_
      refine g_get S G in_B 0 rfl rfl 1 (by decide) fl_B_15 rfl d_B_append_31 ?_
      refine lv_iconst (v := 1) hx hb d_B_append_34 (by decide) ?_
      refine lv_iadd hx hb d_B_append_35 ?_
      refine g_put S G in_B ft_B tok_B nm_B 0 rfl rfl 1 (by decide) fl_B_15 rfl rfl rfl (Nat.le_of_ble_eq_true rfl) (wB cA t r n (upd f z.toNatClampNeg b) (z + 1)) rfl d_B_append_36 (fun H locs G => ?_)
      exact g_retv S hr hlk G (by first | rfl | (simp only [apF, apZ, eq_false c_1, eq_false c_2, ↓reduceIte]; done) | (simp only [apF, apZ, eq_false c_1, eq_false c_2, ↓reduceIte]; rfl)) (Nat.le_refl _) (Nat.le_refl _) d_B_append_39

abbrev rm_B_at : Room := { frames := 0, cells := 0, slots := 0, locals := 0 }
set_option maxHeartbeats 4000000 in
set_option maxRecDepth 100000 in
theorem c_B_at (l : Launch) (D : va_G) (cA : ClassId) (t r n : Nat) (f : Nat → Int32) (z i : Int32) (hn : n < 2 ^ 31) : Ci l y_B_at w_B_at rm_B_at D vwCl [(cA, .int)] [.ref t, .int i] (wB cA t r n f z) 0 0 (fun r0 w0 => r0 = bAt n f z i ∧ w0 = wB cA t r n f z) := by
  refine Ci.of (Ts := lw_g) (own := "WireSlave$Bytes") (cc := b_B_at) (maxL := 2) (ret := (some .int)) (lv := [(0, .ref t), (1, .int i)]) (by decide) rfl rfl (fun w h => List.mem_cons_of_mem _ h) (Nat.le_of_ble_eq_true rfl) rfl ?_
  intro pp ee ss mm args below meth cx AA S hr hlk G ls hl
  have hx := S.1
  have hb := S.2.1
  refine lv_iload_n hx hb d_B_at_0 rfl (lv_at hl 1 rfl) ?_
  refine lv_if_lt (tgt := 30) hx hb d_B_at_1 (by decide) (fun c_1 => ?_) (fun c_1 => ?_)
  · refine lv_iconst (v := (-1)) hx hb d_B_at_30 (by decide) ?_
    exact g_reti S hr hlk G ⟨by first | rfl | (simp only [bAt, eq_true c_1, ↓reduceIte]; done) | (simp only [bAt, eq_true c_1, ↓reduceIte]; rfl), by first | rfl | (simp only [bAt, eq_true c_1, ↓reduceIte]; done) | (simp only [bAt, eq_true c_1, ↓reduceIte]; rfl)⟩ (Nat.le_refl _) (Nat.le_refl _) d_B_at_31
  · refine lv_iload_n hx hb d_B_at_4 rfl (lv_at hl 1 rfl) ?_
    refine lv_aload_n hx hb d_B_at_5 rfl (lv_at hl 0 rfl) ?_
    refine g_get S G in_B 0 rfl rfl 1 (by decide) fl_B_15 rfl d_B_at_6 ?_
    refine lv_icmp_ge (tgt := 30) hx hb d_B_at_9 (by decide) (fun c_2 => ?_) (fun c_2 => ?_)
    · refine lv_iconst (v := (-1)) hx hb d_B_at_30 (by decide) ?_
      exact g_reti S hr hlk G ⟨by first | rfl | (simp only [bAt, eq_false c_1, eq_true c_2, ↓reduceIte]; done) | (simp only [bAt, eq_false c_1, eq_true c_2, ↓reduceIte]; rfl), by first | rfl | (simp only [bAt, eq_false c_1, eq_true c_2, ↓reduceIte]; done) | (simp only [bAt, eq_false c_1, eq_true c_2, ↓reduceIte]; rfl)⟩ (Nat.le_refl _) (Nat.le_refl _) d_B_at_31
    · refine lv_iload_n hx hb d_B_at_12 rfl (lv_at hl 1 rfl) ?_
      refine lv_aload_n hx hb d_B_at_13 rfl (lv_at hl 0 rfl) ?_
      refine g_get S G in_B 0 rfl rfl 0 (by decide) fl_B_9 rfl d_B_at_14 ?_
      refine g_alen S G 1 0 rfl rfl (nI n) rfl d_B_at_17 ?_
      refine lv_icmp_ge (tgt := 30) hx hb d_B_at_18 (by decide) (fun c_3 => ?_) (fun c_3 => ?_)
      · refine lv_iconst (v := (-1)) hx hb d_B_at_30 (by decide) ?_
        exact g_reti S hr hlk G ⟨by first | rfl | (simp only [bAt, eq_false c_1, eq_false c_2, eq_true c_3, ↓reduceIte]; done) | (simp only [bAt, eq_false c_1, eq_false c_2, eq_true c_3, ↓reduceIte]; rfl), by first | rfl | (simp only [bAt, eq_false c_1, eq_false c_2, eq_true c_3, ↓reduceIte]; done) | (simp only [bAt, eq_false c_1, eq_false c_2, eq_true c_3, ↓reduceIte]; rfl)⟩ (Nat.le_refl _) (Nat.le_refl _) d_B_at_31
      · refine lv_aload_n hx hb d_B_at_21 rfl (lv_at hl 0 rfl) ?_
        refine g_get S G in_B 0 rfl rfl 0 (by decide) fl_B_9 rfl d_B_at_22 ?_
        refine lv_iload_n hx hb d_B_at_25 rfl (lv_at hl 1 rfl) ?_
        refine g_iald S G 1 0 rfl rfl (vin_ge (n := n) c_1 c_3 hn) d_B_at_26 ?_
        refine lv_goto (tgt := 31) hx hb d_B_at_27 (by decide) ?_
        exact g_reti S hr hlk G ⟨by first | rfl | (simp only [bAt, eq_false c_1, eq_false c_2, eq_false c_3, ↓reduceIte]; done) | (simp only [bAt, eq_false c_1, eq_false c_2, eq_false c_3, ↓reduceIte]; rfl), by first | rfl | (simp only [bAt, eq_false c_1, eq_false c_2, eq_false c_3, ↓reduceIte]; done) | (simp only [bAt, eq_false c_1, eq_false c_2, eq_false c_3, ↓reduceIte]; rfl)⟩ (Nat.le_refl _) (Nat.le_refl _) d_B_at_31

abbrev rm_B_sumOfFirst : Room := { frames := 1, cells := 0, slots := 0, locals := 24 }
set_option maxHeartbeats 4000000 in
set_option maxRecDepth 100000 in
theorem c_B_sumOfFirst (l : Launch) (D : va_G) (cA : ClassId) (t r n : Nat) (f : Nat → Int32) (z c0 : Int32) (hn : n < 2 ^ 31) : Ci l y_B_sumOfFirst w_B_sumOfFirst rm_B_sumOfFirst D vwCl [(cA, .int)] [.ref t, .int c0] (wB cA t r n f z) 0 0 (fun r0 w0 => r0 = bSum n f z c0 ∧ w0 = wB cA t r n f z) := by
  refine Ci.of (Ts := lw_g) (own := "WireSlave$Bytes") (cc := b_B_sumOfFirst) (maxL := 4) (ret := (some .int)) (lv := [(0, .ref t), (1, .int c0)]) (by decide) rfl rfl (fun w h => List.mem_cons_of_mem _ h) (Nat.le_of_ble_eq_true rfl) rfl ?_
  intro pp ee ss mm args below meth cx AA S hr hlk G ls hl
  have hx := S.1
  have hb := S.2.1
  refine lv_ldc (v := 65535) hx hb S.2.2.2.1 (S.2.2.2.2 _ kn_B_19) d_B_sumOfFirst_0 ?_
  refine lv_istore_n (lv' := [(2, .int 65535), (0, .ref t), (1, .int c0)]) hx hb d_B_sumOfFirst_2 rfl hl (by decide) rfl (fun ls hl => ?_)
  refine lv_iconst (v := 0) hx hb d_B_sumOfFirst_3 (by decide) ?_
  refine lv_istore_n (lv' := [(3, .int 0), (2, .int 65535), (0, .ref t), (1, .int c0)]) hx hb d_B_sumOfFirst_4 rfl hl (by decide) rfl (fun ls hl => ?_)
  have lp : ∀ (n1 : Nat) (i : Nat) (y : Int32) (H : Heap) (locs : List Loc) (ls : Array Slot), (i + n1 = c0.toNatClampNeg) → (sFst n f z n1 i y = bSum n f z c0) → Gw D vwCl [(cA, .int)] AA ss ss.heap H locs (wB cA t r n f z) → lv_has ls 4 [(0, .ref t), (1, .int c0), (2, .int y), (3, .int (nI i))] → W pp l ee rm_B_sumOfFirst ss mm args below meth cx H locs 0 0 (Zi D vwCl [(cA, .int)] AA ss args below 0 0 (fun r0 w0 => r0 = bSum n f z c0 ∧ w0 = wB cA t r n f z)) (F0 mm 5 ls []) := by
    intro n1
    induction n1 with
    | zero =>
      intro i y H locs ls hi hF G hl
      refine lv_iload_n hx hb d_B_sumOfFirst_5 rfl (lv_at hl 3 rfl) ?_
      refine lv_iload_n hx hb d_B_sumOfFirst_6 rfl (lv_at hl 1 rfl) ?_
      have k_1 : c0 ≤ (nI i) := by rw [show i = c0.toNatClampNeg from hi]; exact le_clamp _
      refine lv_icmp_ge (tgt := 26) hx hb d_B_sumOfFirst_7 (by decide) (fun _ => ?_) (fun h9 => absurd k_1 h9)
      refine lv_iload_n hx hb d_B_sumOfFirst_26 rfl (lv_at hl 2 rfl) ?_
      exact g_reti S hr hlk G ⟨hF, rfl⟩ (Nat.le_refl _) (Nat.le_refl _) d_B_sumOfFirst_27
    | succ n1 ih =>
      intro i y H locs ls hi hF G hl
      refine lv_iload_n hx hb d_B_sumOfFirst_5 rfl (lv_at hl 3 rfl) ?_
      refine lv_iload_n hx hb d_B_sumOfFirst_6 rfl (lv_at hl 1 rfl) ?_
      have k_2 : ¬ (c0 ≤ (nI i)) := nle_clamp (by omega)
      refine lv_icmp_ge (tgt := 26) hx hb d_B_sumOfFirst_7 (by decide) (fun h9 => absurd h9 k_2) (fun _ => ?_)
      refine lv_iload_n hx hb d_B_sumOfFirst_10 rfl (lv_at hl 2 rfl) ?_
      refine lv_aload_n hx hb d_B_sumOfFirst_11 rfl (lv_at hl 0 rfl) ?_
      refine lv_iload_n hx hb d_B_sumOfFirst_12 rfl (lv_at hl 3 rfl) ?_
      refine g_cVi (rest := [.int y]) S G (c_B_at l D cA t r n f z (nI i) hn) (cwV 1 S.2.2.2.2 ml_B_20 rfl rfl rfl (by decide +kernel) ⟨Nat.le_of_ble_eq_true rfl, Nat.le_of_ble_eq_true rfl⟩) [0, 1] [] rfl rfl rfl rfl (by decide) 0 rfl rfl rfl hl.1 rfl (Nat.le_of_ble_eq_true rfl) d_B_sumOfFirst_13 ⟨Nat.le_of_ble_eq_true rfl, Nat.le_of_ble_eq_true rfl⟩ (fun rp_3 wp_3 H locs hp_3 G => ?_)
      obtain ⟨rfl, rfl⟩ := hp_3
      have G : Gw D vwCl [(cA, .int)] AA ss ss.heap H locs (wB cA t r n f z) := G
      refine g_cNi (rest := []) S G (c_W_sumWith l D cA y (bAt n f z (nI i))) ⟨va_cnB 2 S.2.2.2.2 (goodC_ cd_W_sumWith) rfl rfl rfl G.2.2.2.2.2 (S.2.2.2.2 _ ini_W) (by decide +kernel) ⟨Nat.le_of_ble_eq_true rfl, Nat.le_of_ble_eq_true rfl⟩, S.2.2.2.2 _ ns_B_24, trivial⟩ [] [0, 1] rfl rfl rfl rfl (by decide) rfl hl.1 rfl (Nat.le_of_ble_eq_true rfl) d_B_sumOfFirst_16 ⟨Nat.le_of_ble_eq_true rfl, Nat.le_of_ble_eq_true rfl⟩ (fun rp_4 wp_4 H locs hp_4 G => ?_)
      obtain ⟨rfl, rfl⟩ := hp_4
      have G := G.sub (ws' := wB cA t r n f z) [0, 1] rfl rfl
      refine lv_istore_n (lv' := [(2, .int (sumW y (bAt n f z (nI i)))), (0, .ref t), (1, .int c0), (3, .int (nI i))]) hx hb d_B_sumOfFirst_19 rfl hl (by decide) rfl (fun ls hl => ?_)
      refine lv_iinc (v := (nI i) + 1) (lv' := [(3, .int ((nI i) + 1)), (2, .int (sumW y (bAt n f z (nI i)))), (0, .ref t), (1, .int c0)]) hx hb d_B_sumOfFirst_20 hl (k := 3) rfl rfl (by decide) rfl (fun ls hl => ?_)
      refine lv_goto (tgt := 5) hx hb d_B_sumOfFirst_23 (by decide) ?_
      have hl := lv_sub hl [2, 3, 1, 0] rfl
      rw [nI_1] at hl
      exact ih (i + 1) _ H locs ls (by omega) hF G hl
  exact lp c0.toNatClampNeg 0 65535 _ _ ls (Nat.zero_add _) rfl G (lv_sub hl [2, 3, 1, 0] rfl)

abbrev rm_B_endsWithItsSum : Room := { frames := 2, cells := 0, slots := 0, locals := 47 }
set_option maxHeartbeats 4000000 in
set_option maxRecDepth 100000 in
theorem c_B_endsWithItsSum (l : Launch) (D : va_G) (cA : ClassId) (t r n : Nat) (f : Nat → Int32) (z : Int32) (hn : n < 2 ^ 31) : Ci l y_B_endsWithItsSum w_B_endsWithItsSum rm_B_endsWithItsSum D vwCl [(cA, .int)] [.ref t] (wB cA t r n f z) 0 0 (fun r0 w0 => r0 = bEnd n f z ∧ w0 = wB cA t r n f z) := by
  refine Ci.of (Ts := lw_g) (own := "WireSlave$Bytes") (cc := b_B_endsWithItsSum) (maxL := 2) (ret := (some .boolean)) (lv := [(0, .ref t)]) (by decide) rfl rfl (fun w h => List.mem_cons_of_mem _ h) (Nat.le_of_ble_eq_true rfl) rfl ?_
  intro pp ee ss mm args below meth cx AA S hr hlk G ls hl
  have hx := S.1
  have hb := S.2.1
  refine lv_aload_n hx hb d_B_endsWithItsSum_0 rfl (lv_at hl 0 rfl) ?_
  refine lv_aload_n hx hb d_B_endsWithItsSum_1 rfl (lv_at hl 0 rfl) ?_
  refine g_get S G in_B 0 rfl rfl 1 (by decide) fl_B_15 rfl d_B_endsWithItsSum_2 ?_
  refine lv_iconst (v := 2) hx hb d_B_endsWithItsSum_5 (by decide) ?_
  refine lv_isub hx hb d_B_endsWithItsSum_6 ?_
  refine g_cVi (rest := []) S G (c_B_sumOfFirst l D cA t r n f z (z - 2) hn) (cwV 1 S.2.2.2.2 ml_B_28 rfl rfl rfl (by decide +kernel) ⟨Nat.le_of_ble_eq_true rfl, Nat.le_of_ble_eq_true rfl⟩) [0, 1] [] rfl rfl rfl rfl (by decide) 0 rfl rfl rfl hl.1 rfl (Nat.le_of_ble_eq_true rfl) d_B_endsWithItsSum_7 ⟨Nat.le_of_ble_eq_true rfl, Nat.le_of_ble_eq_true rfl⟩ (fun rp_1 wp_1 H locs hp_1 G => ?_)
  obtain ⟨rfl, rfl⟩ := hp_1
  have G : Gw D vwCl [(cA, .int)] AA ss ss.heap H locs (wB cA t r n f z) := G
  refine lv_istore_n (lv' := [(1, .int (bSum n f z (z - 2))), (0, .ref t)]) hx hb d_B_endsWithItsSum_10 rfl hl (by decide) rfl (fun ls hl => ?_)
  refine lv_aload_n hx hb d_B_endsWithItsSum_11 rfl (lv_at hl 1 rfl) ?_
  refine lv_aload_n hx hb d_B_endsWithItsSum_12 rfl (lv_at hl 1 rfl) ?_
  refine g_get S G in_B 0 rfl rfl 1 (by decide) fl_B_15 rfl d_B_endsWithItsSum_13 ?_
  refine lv_iconst (v := 2) hx hb d_B_endsWithItsSum_16 (by decide) ?_
  refine lv_isub hx hb d_B_endsWithItsSum_17 ?_
  refine g_cVi (rest := []) S G (c_B_at l D cA t r n f z (z - 2) hn) (cwV 1 S.2.2.2.2 ml_B_20 rfl rfl rfl (by decide +kernel) ⟨Nat.le_of_ble_eq_true rfl, Nat.le_of_ble_eq_true rfl⟩) [0, 1] [] rfl rfl rfl rfl (by decide) 0 rfl rfl rfl hl.1 rfl (Nat.le_of_ble_eq_true rfl) d_B_endsWithItsSum_18 ⟨Nat.le_of_ble_eq_true rfl, Nat.le_of_ble_eq_true rfl⟩ (fun rp_2 wp_2 H locs hp_2 G => ?_)
  obtain ⟨rfl, rfl⟩ := hp_2
  have G : Gw D vwCl [(cA, .int)] AA ss ss.heap H locs (wB cA t r n f z) := G
  refine lv_iload_n hx hb d_B_endsWithItsSum_21 rfl (lv_at hl 0 rfl) ?_
  refine lv_sipush (v := 255) hx hb d_B_endsWithItsSum_22 (by decide) ?_
  refine lv_iand hx hb d_B_endsWithItsSum_25 ?_
  refine lv_icmp_ne (tgt := 50) hx hb d_B_endsWithItsSum_26 (by decide) (fun c_3 => ?_) (fun c_3 => ?_)
  · refine lv_iconst (v := 0) hx hb d_B_endsWithItsSum_50 (by decide) ?_
    exact g_retz S hr hlk rfl G ⟨by first | rfl | (simp only [bEnd, eq_false c_3, ↓reduceIte]; done) | (simp only [bEnd, eq_false c_3, ↓reduceIte]; rfl), by first | rfl | (simp only [bEnd, eq_false c_3, ↓reduceIte]; done) | (simp only [bEnd, eq_false c_3, ↓reduceIte]; rfl)⟩ (Nat.le_refl _) (Nat.le_refl _) d_B_endsWithItsSum_51
  · refine lv_aload_n hx hb d_B_endsWithItsSum_29 rfl (lv_at hl 1 rfl) ?_
    refine lv_aload_n hx hb d_B_endsWithItsSum_30 rfl (lv_at hl 1 rfl) ?_
    refine g_get S G in_B 0 rfl rfl 1 (by decide) fl_B_15 rfl d_B_endsWithItsSum_31 ?_
    refine lv_iconst (v := 1) hx hb d_B_endsWithItsSum_34 (by decide) ?_
    refine lv_isub hx hb d_B_endsWithItsSum_35 ?_
    refine g_cVi (rest := []) S G (c_B_at l D cA t r n f z (z - 1) hn) (cwV 1 S.2.2.2.2 ml_B_20 rfl rfl rfl (by decide +kernel) ⟨Nat.le_of_ble_eq_true rfl, Nat.le_of_ble_eq_true rfl⟩) [0, 1] [] rfl rfl rfl rfl (by decide) 0 rfl rfl rfl hl.1 rfl (Nat.le_of_ble_eq_true rfl) d_B_endsWithItsSum_36 ⟨Nat.le_of_ble_eq_true rfl, Nat.le_of_ble_eq_true rfl⟩ (fun rp_4 wp_4 H locs hp_4 G => ?_)
    obtain ⟨rfl, rfl⟩ := hp_4
    have G : Gw D vwCl [(cA, .int)] AA ss ss.heap H locs (wB cA t r n f z) := G
    refine lv_iload_n hx hb d_B_endsWithItsSum_39 rfl (lv_at hl 0 rfl) ?_
    refine lv_bipush (v := 8) hx hb d_B_endsWithItsSum_40 (by decide) ?_
    refine lv_iushr (v := ush (bSum n f z (z - 2)) 8) hx hb d_B_endsWithItsSum_42 rfl ?_
    refine lv_icmp_ne (tgt := 50) hx hb d_B_endsWithItsSum_43 (by decide) (fun c_5 => ?_) (fun c_5 => ?_)
    · refine lv_iconst (v := 0) hx hb d_B_endsWithItsSum_50 (by decide) ?_
      exact g_retz S hr hlk rfl G ⟨by first | rfl | (simp only [bEnd, eq_true c_3, eq_false c_5, ↓reduceIte]; done) | (simp only [bEnd, eq_true c_3, eq_false c_5, ↓reduceIte]; rfl), by first | rfl | (simp only [bEnd, eq_true c_3, eq_false c_5, ↓reduceIte]; done) | (simp only [bEnd, eq_true c_3, eq_false c_5, ↓reduceIte]; rfl)⟩ (Nat.le_refl _) (Nat.le_refl _) d_B_endsWithItsSum_51
    · refine lv_iconst (v := 1) hx hb d_B_endsWithItsSum_46 (by decide) ?_
      refine lv_goto (tgt := 51) hx hb d_B_endsWithItsSum_47 (by decide) ?_
      exact g_retz S hr hlk rfl G ⟨by first | rfl | (simp only [bEnd, eq_true c_3, eq_true c_5, ↓reduceIte]; done) | (simp only [bEnd, eq_true c_3, eq_true c_5, ↓reduceIte]; rfl), by first | rfl | (simp only [bEnd, eq_true c_3, eq_true c_5, ↓reduceIte]; done) | (simp only [bEnd, eq_true c_3, eq_true c_5, ↓reduceIte]; rfl)⟩ (Nat.le_refl _) (Nat.le_refl _) d_B_endsWithItsSum_51

abbrev rm_B_appendItsSum : Room := { frames := 2, cells := 0, slots := 0, locals := 47 }
set_option maxHeartbeats 4000000 in
set_option maxRecDepth 100000 in
theorem c_B_appendItsSum (l : Launch) (D : va_G) (cA : ClassId) (t r n : Nat) (f : Nat → Int32) (z : Int32) (hn : n < 2 ^ 31) : Cv l y_B_appendItsSum w_B_appendItsSum rm_B_appendItsSum D vwCl [(cA, .int)] [.ref t] (wB cA t r n f z) 0 0 (fun w0 => w0 = wB cA t r n (apF n (apF n f z (bSum n f z z &&& 255)) (apZ n z) (ush (bSum n f z z) 8)) (apZ n (apZ n z))) := by
  refine Cv.of (Ts := lw_g) (own := "WireSlave$Bytes") (cc := b_B_appendItsSum) (maxL := 2) (ret := none) (lv := [(0, .ref t)]) (by decide) rfl rfl (fun w h => List.mem_cons_of_mem _ h) (Nat.le_of_ble_eq_true rfl) rfl ?_
  intro pp ee ss mm args below meth cx AA S hr hlk hnm G ls hl
  have hx := S.1
  have hb := S.2.1
  refine lv_aload_n hx hb d_B_appendItsSum_0 rfl (lv_at hl 0 rfl) ?_
  refine lv_aload_n hx hb d_B_appendItsSum_1 rfl (lv_at hl 0 rfl) ?_
  refine g_get S G in_B 0 rfl rfl 1 (by decide) fl_B_15 rfl d_B_appendItsSum_2 ?_
  refine g_cVi (rest := []) S G (c_B_sumOfFirst l D cA t r n f z z hn) (cwV 1 S.2.2.2.2 ml_B_28 rfl rfl rfl (by decide +kernel) ⟨Nat.le_of_ble_eq_true rfl, Nat.le_of_ble_eq_true rfl⟩) [0, 1] [] rfl rfl rfl rfl (by decide) 0 rfl rfl rfl hl.1 rfl (Nat.le_of_ble_eq_true rfl) d_B_appendItsSum_5 ⟨Nat.le_of_ble_eq_true rfl, Nat.le_of_ble_eq_true rfl⟩ (fun rp_1 wp_1 H locs hp_1 G => ?_)
  obtain ⟨rfl, rfl⟩ := hp_1
  have G : Gw D vwCl [(cA, .int)] AA ss ss.heap H locs (wB cA t r n f z) := G
  refine lv_istore_n (lv' := [(1, .int (bSum n f z z)), (0, .ref t)]) hx hb d_B_appendItsSum_8 rfl hl (by decide) rfl (fun ls hl => ?_)
  refine lv_aload_n hx hb d_B_appendItsSum_9 rfl (lv_at hl 1 rfl) ?_
  refine lv_iload_n hx hb d_B_appendItsSum_10 rfl (lv_at hl 0 rfl) ?_
  refine lv_sipush (v := 255) hx hb d_B_appendItsSum_11 (by decide) ?_
  refine lv_iand hx hb d_B_appendItsSum_14 ?_
  refine g_cVv (rest := []) S G (c_B_append l D cA t r n f z ((bSum n f z z) &&& 255) hn) (cwV 1 S.2.2.2.2 ml_B_31 rfl rfl rfl (by decide +kernel) ⟨Nat.le_of_ble_eq_true rfl, Nat.le_of_ble_eq_true rfl⟩) [0, 1] [] rfl rfl rfl rfl (by decide) 0 rfl rfl rfl hl.1 rfl (Nat.le_of_ble_eq_true rfl) d_B_appendItsSum_15 ⟨Nat.le_of_ble_eq_true rfl, Nat.le_of_ble_eq_true rfl⟩ (fun wp_2 H locs hp_2 G => ?_)
  subst hp_2
  have G : Gw D vwCl [(cA, .int)] AA ss ss.heap H locs (wB cA t r n (apF n f z ((bSum n f z z) &&& 255)) (apZ n z)) := G
  refine lv_aload_n hx hb d_B_appendItsSum_18 rfl (lv_at hl 1 rfl) ?_
  refine lv_iload_n hx hb d_B_appendItsSum_19 rfl (lv_at hl 0 rfl) ?_
  refine lv_bipush (v := 8) hx hb d_B_appendItsSum_20 (by decide) ?_
  refine lv_iushr (v := ush (bSum n f z z) 8) hx hb d_B_appendItsSum_22 rfl ?_
  refine g_cVv (rest := []) S G (c_B_append l D cA t r n (apF n f z ((bSum n f z z) &&& 255)) (apZ n z) (ush (bSum n f z z) 8) hn) (cwV 1 S.2.2.2.2 ml_B_31 rfl rfl rfl (by decide +kernel) ⟨Nat.le_of_ble_eq_true rfl, Nat.le_of_ble_eq_true rfl⟩) [0, 1] [] rfl rfl rfl rfl (by decide) 0 rfl rfl rfl hl.1 rfl (Nat.le_of_ble_eq_true rfl) d_B_appendItsSum_23 ⟨Nat.le_of_ble_eq_true rfl, Nat.le_of_ble_eq_true rfl⟩ (fun wp_3 H locs hp_3 G => ?_)
  subst hp_3
  have G : Gw D vwCl [(cA, .int)] AA ss ss.heap H locs (wB cA t r n (apF n (apF n f z ((bSum n f z z) &&& 255)) (apZ n z) (ush (bSum n f z z) 8)) (apZ n (apZ n z))) := G
  exact g_retv S hr hlk G (by first | rfl | (simp only [↓reduceIte]; done) | (simp only [↓reduceIte]; rfl)) (Nat.le_refl _) (Nat.le_refl _) d_B_appendItsSum_26
