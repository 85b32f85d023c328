abbrev rm_W_byteOf : Room := { frames := 0, cells := 0, slots := 0, locals := 0 }
set_option maxHeartbeats 4000000 in
set_option maxRecDepth 100000 in
theorem c_W_byteOf (l : Launch) (D : va_G) (cA : ClassId) (v : Int64) (i : Int32)  : Ci l y_W_byteOf w_W_byteOf rm_W_byteOf D vwCl [(cA, .int)] [.long v, .int i] (([] : va_W)) 0 0 (fun r0 w0 => r0 = byteOf v i ∧ w0 = ([] : va_W)) := by
  refine Ci.of (Ts := lw_g) (own := "WireSlave") (cc := b_W_byteOf) (maxL := 3) (ret := (some .int)) (lv := [(0, .long v), (2, .int i)]) (by decide) rfl rfl (fun w h => List.mem_cons_of_mem _ h) (Nat.le_of_ble_eq_true rfl) rfl ?_
  intro pp ee ss mm args below meth cx AA S hr hlk G ls hl
  have hx := S.1
  have hb := S.2.1
  refine lv_lload_n hx hb d_W_byteOf_0 rfl (lv_at hl 0 rfl) ?_
  refine lv_bipush (v := 8) hx hb d_W_byteOf_1 (by decide) ?_
  refine lv_iload_n hx hb d_W_byteOf_3 rfl (lv_at hl 1 rfl) ?_
  refine lv_imul hx hb d_W_byteOf_4 ?_
  refine lv_lushr (v := lush v (8 * i)) hx hb d_W_byteOf_5 rfl ?_
  refine lv_l2i (v := (lush v (8 * i)).toInt32) hx hb d_W_byteOf_6 rfl ?_
  refine lv_sipush (v := 255) hx hb d_W_byteOf_7 (by decide) ?_
  refine lv_iand hx hb d_W_byteOf_10 ?_
  exact g_reti S hr hlk G ⟨by first | rfl | (simp only [byteOf, ↓reduceIte]; done) | (simp only [byteOf, ↓reduceIte]; rfl), by first | rfl | (simp only [byteOf, ↓reduceIte]; done) | (simp only [byteOf, ↓reduceIte]; rfl)⟩ (Nat.le_refl _) (Nat.le_refl _) d_W_byteOf_11

abbrev rm_W_sumWith : Room := { frames := 0, cells := 0, slots := 0, locals := 0 }
set_option maxHeartbeats 4000000 in
set_option maxRecDepth 100000 in
theorem c_W_sumWith (l : Launch) (D : va_G) (cA : ClassId) (x b : Int32)  : Ci l y_W_sumWith w_W_sumWith rm_W_sumWith D vwCl [(cA, .int)] [.int x, .int b] (([] : va_W)) 0 0 (fun r0 w0 => r0 = sumW x b ∧ w0 = ([] : va_W)) := by
  refine Ci.of (Ts := lw_g) (own := "WireSlave") (cc := b_W_sumWith) (maxL := 5) (ret := (some .int)) (lv := [(0, .int x), (1, .int b)]) (by decide) rfl rfl (fun w h => List.mem_cons_of_mem _ h) (Nat.le_of_ble_eq_true rfl) rfl ?_
  intro pp ee ss mm args below meth cx AA S hr hlk G ls hl
  have hx := S.1
  have hb := S.2.1
  refine lv_iload_n hx hb d_W_sumWith_0 rfl (lv_at hl 0 rfl) ?_
  refine lv_iload_n hx hb d_W_sumWith_1 rfl (lv_at hl 1 rfl) ?_
  refine lv_ixor hx hb d_W_sumWith_2 ?_
  refine lv_istore_n (lv' := [(2, .int (x ^^^ b)), (0, .int x), (1, .int b)]) hx hb d_W_sumWith_3 rfl hl (by decide) rfl (fun ls hl => ?_)
  refine lv_iconst (v := 0) hx hb d_W_sumWith_4 (by decide) ?_
  refine lv_istore_n (lv' := [(3, .int 0), (2, .int (x ^^^ b)), (0, .int x), (1, .int b)]) hx hb d_W_sumWith_5 rfl hl (by decide) rfl (fun ls hl => ?_)
  have lp : ∀ (n : Nat) (k y : Int32) (H : Heap) (locs : List Loc) (ls : Array Slot), (k = nI (8 - n)) → (n ≤ 8) → (crcN n y = crcN 8 (x ^^^ b)) → Gw D vwCl [(cA, .int)] AA ss ss.heap H locs ([] : va_W) → lv_has ls 5 [(0, .int x), (1, .int b), (2, .int y), (3, .int k)] → W pp l ee rm_W_sumWith ss mm args below meth cx H locs 0 0 (Zi D vwCl [(cA, .int)] AA ss args below 0 0 (fun r0 w0 => r0 = sumW x b ∧ w0 = ([] : va_W))) (F0 mm 6 ls []) := by
    intro n
    induction n with
    | zero =>
      intro k y H locs ls hk hn8 hF G hl
      refine lv_iload_n hx hb d_W_sumWith_6 rfl (lv_at hl 3 rfl) ?_
      refine lv_bipush (v := 8) hx hb d_W_sumWith_7 (by decide) ?_
      have k_1 : 8 ≤ k := by rw [hk]; decide
      refine lv_icmp_ge (tgt := 45) hx hb d_W_sumWith_9 (by decide) (fun _ => ?_) (fun h9 => absurd k_1 h9)
      refine lv_iload_n hx hb d_W_sumWith_45 rfl (lv_at hl 2 rfl) ?_
      exact g_reti S hr hlk G ⟨hF, rfl⟩ (Nat.le_refl _) (Nat.le_refl _) d_W_sumWith_46
    | succ n ih =>
      intro k y H locs ls hk hn8 hF G hl
      refine lv_iload_n hx hb d_W_sumWith_6 rfl (lv_at hl 3 rfl) ?_
      refine lv_bipush (v := 8) hx hb d_W_sumWith_7 (by decide) ?_
      have k_2 : ¬ (8 ≤ k) := by rw [hk]; exact nI_ge (b := 8) (by omega) (by decide)
      refine lv_icmp_ge (tgt := 45) hx hb d_W_sumWith_9 (by decide) (fun h9 => absurd h9 k_2) (fun _ => ?_)
      refine lv_iload_n hx hb d_W_sumWith_12 rfl (lv_at hl 2 rfl) ?_
      refine lv_iconst (v := 1) hx hb d_W_sumWith_13 (by decide) ?_
      refine lv_iand hx hb d_W_sumWith_14 ?_
      refine lv_if_eq (tgt := 22) hx hb d_W_sumWith_15 (by decide) (fun c_3 => ?_) (fun c_3 => ?_)
      · refine lv_iconst (v := 0) hx hb d_W_sumWith_22 (by decide) ?_
        refine lv_istore (lv' := [(4, .int 0), (0, .int x), (1, .int b), (2, .int y), (3, .int k)]) hx hb d_W_sumWith_23 hl (by decide) rfl (fun ls hl => ?_)
        refine lv_iload_n hx hb d_W_sumWith_25 rfl (lv_at hl 3 rfl) ?_
        refine lv_iconst (v := 1) hx hb d_W_sumWith_26 (by decide) ?_
        refine lv_iushr (v := ush y 1) hx hb d_W_sumWith_27 rfl ?_
        refine lv_istore_n (lv' := [(2, .int (ush y 1)), (4, .int 0), (0, .int x), (1, .int b), (3, .int k)]) hx hb d_W_sumWith_28 rfl hl (by decide) rfl (fun ls hl => ?_)
        refine lv_iload hx hb d_W_sumWith_29 (lv_at hl 1 rfl) ?_
        have k_4 : (0 : Int32) = 0 := by decide
        refine lv_if_eq (tgt := 39) hx hb d_W_sumWith_31 (by decide) (fun _ => ?_) (fun h9 => absurd k_4 h9)
        refine lv_iinc (v := k + 1) (lv' := [(3, .int (k + 1)), (2, .int (ush y 1)), (4, .int 0), (0, .int x), (1, .int b)]) hx hb d_W_sumWith_39 hl (k := 4) rfl rfl (by decide) rfl (fun ls hl => ?_)
        refine lv_goto (tgt := 6) hx hb d_W_sumWith_42 (by decide) ?_
        exact ih _ _ H locs ls (by rw [hk]; exact nxt8 n hn8) (by omega) (by rw [← hF]; simp only [crcN, crcS, eq_false k_2, eq_true c_3, eq_true k_4, ↓reduceIte]) G (lv_sub hl [3, 4, 1, 0] rfl)
      · refine lv_iconst (v := 1) hx hb d_W_sumWith_18 (by decide) ?_
        refine lv_goto (tgt := 23) hx hb d_W_sumWith_19 (by decide) ?_
        refine lv_istore (lv' := [(4, .int 1), (0, .int x), (1, .int b), (2, .int y), (3, .int k)]) hx hb d_W_sumWith_23 hl (by decide) rfl (fun ls hl => ?_)
        refine lv_iload_n hx hb d_W_sumWith_25 rfl (lv_at hl 3 rfl) ?_
        refine lv_iconst (v := 1) hx hb d_W_sumWith_26 (by decide) ?_
        refine lv_iushr (v := ush y 1) hx hb d_W_sumWith_27 rfl ?_
        refine lv_istore_n (lv' := [(2, .int (ush y 1)), (4, .int 1), (0, .int x), (1, .int b), (3, .int k)]) hx hb d_W_sumWith_28 rfl hl (by decide) rfl (fun ls hl => ?_)
        refine lv_iload hx hb d_W_sumWith_29 (lv_at hl 1 rfl) ?_
        have k_5 : ¬ ((1 : Int32) = 0) := by decide
        refine lv_if_eq (tgt := 39) hx hb d_W_sumWith_31 (by decide) (fun h9 => absurd h9 k_5) (fun _ => ?_)
        refine lv_iload_n hx hb d_W_sumWith_34 rfl (lv_at hl 0 rfl) ?_
        refine lv_ldc (v := 40961) hx hb S.2.2.2.1 (S.2.2.2.2 _ kn_W_94) d_W_sumWith_35 ?_
        refine lv_ixor hx hb d_W_sumWith_37 ?_
        refine lv_istore_n (lv' := [(2, .int ((ush y 1) ^^^ 40961)), (4, .int 1), (0, .int x), (1, .int b), (3, .int k)]) hx hb d_W_sumWith_38 rfl hl (by decide) rfl (fun ls hl => ?_)
        refine lv_iinc (v := k + 1) (lv' := [(3, .int (k + 1)), (2, .int ((ush y 1) ^^^ 40961)), (4, .int 1), (0, .int x), (1, .int b)]) hx hb d_W_sumWith_39 hl (k := 4) rfl rfl (by decide) rfl (fun ls hl => ?_)
        refine lv_goto (tgt := 6) hx hb d_W_sumWith_42 (by decide) ?_
        exact ih _ _ H locs ls (by rw [hk]; exact nxt8 n hn8) (by omega) (by rw [← hF]; simp only [crcN, crcS, eq_false k_2, eq_false c_3, eq_false k_5, ↓reduceIte]) G (lv_sub hl [3, 4, 1, 0] rfl)
  exact lp 8 0 (x ^^^ b) _ _ ls rfl (Nat.le_refl 8) rfl G (lv_sub hl [2, 3, 1, 0] rfl)

abbrev rm_W_isFromTo : Room := { frames := 0, cells := 0, slots := 0, locals := 0 }
set_option maxHeartbeats 4000000 in
set_option maxRecDepth 100000 in
theorem c_W_isFromTo (l : Launch) (D : va_G) (cA : ClassId) (x a b : Int32)  : Ci l y_W_isFromTo w_W_isFromTo rm_W_isFromTo D vwCl [(cA, .int)] [.int x, .int a, .int b] (([] : va_W)) 0 0 (fun r0 w0 => r0 = isFT x a b ∧ w0 = ([] : va_W)) := by
  refine Ci.of (Ts := lw_g) (own := "WireSlave") (cc := b_W_isFromTo) (maxL := 3) (ret := (some .boolean)) (lv := [(0, .int x), (1, .int a), (2, .int b)]) (by decide) rfl rfl (fun w h => List.mem_cons_of_mem _ h) (Nat.le_of_ble_eq_true rfl) rfl ?_
  intro pp ee ss mm args below meth cx AA S hr hlk G ls hl
  have hx := S.1
  have hb := S.2.1
  refine lv_iload_n hx hb d_W_isFromTo_0 rfl (lv_at hl 0 rfl) ?_
  refine lv_iload_n hx hb d_W_isFromTo_1 rfl (lv_at hl 1 rfl) ?_
  refine lv_icmp_lt (tgt := 14) hx hb d_W_isFromTo_2 (by decide) (fun c_1 => ?_) (fun c_1 => ?_)
  · refine lv_iconst (v := 0) hx hb d_W_isFromTo_14 (by decide) ?_
    exact g_retz S hr hlk rfl G ⟨by first | rfl | (simp only [isFT, eq_true c_1, ↓reduceIte]; done) | (simp only [isFT, eq_true c_1, ↓reduceIte]; rfl), by first | rfl | (simp only [isFT, eq_true c_1, ↓reduceIte]; done) | (simp only [isFT, eq_true c_1, ↓reduceIte]; rfl)⟩ (Nat.le_refl _) (Nat.le_refl _) d_W_isFromTo_15
  · refine lv_iload_n hx hb d_W_isFromTo_5 rfl (lv_at hl 0 rfl) ?_
    refine lv_iload_n hx hb d_W_isFromTo_6 rfl (lv_at hl 2 rfl) ?_
    refine lv_icmp_gt (tgt := 14) hx hb d_W_isFromTo_7 (by decide) (fun c_2 => ?_) (fun c_2 => ?_)
    · refine lv_iconst (v := 0) hx hb d_W_isFromTo_14 (by decide) ?_
      exact g_retz S hr hlk rfl G ⟨by first | rfl | (simp only [isFT, eq_false c_1, eq_true c_2, ↓reduceIte]; done) | (simp only [isFT, eq_false c_1, eq_true c_2, ↓reduceIte]; rfl), by first | rfl | (simp only [isFT, eq_false c_1, eq_true c_2, ↓reduceIte]; done) | (simp only [isFT, eq_false c_1, eq_true c_2, ↓reduceIte]; rfl)⟩ (Nat.le_refl _) (Nat.le_refl _) d_W_isFromTo_15
    · refine lv_iconst (v := 1) hx hb d_W_isFromTo_10 (by decide) ?_
      refine lv_goto (tgt := 15) hx hb d_W_isFromTo_11 (by decide) ?_
      exact g_retz S hr hlk rfl G ⟨by first | rfl | (simp only [isFT, eq_false c_1, eq_false c_2, ↓reduceIte]; done) | (simp only [isFT, eq_false c_1, eq_false c_2, ↓reduceIte]; rfl), by first | rfl | (simp only [isFT, eq_false c_1, eq_false c_2, ↓reduceIte]; done) | (simp only [isFT, eq_false c_1, eq_false c_2, ↓reduceIte]; rfl)⟩ (Nat.le_refl _) (Nat.le_refl _) d_W_isFromTo_15

abbrev rm_W_bytesForBits : Room := { frames := 0, cells := 0, slots := 0, locals := 0 }
set_option maxHeartbeats 4000000 in
set_option maxRecDepth 100000 in
theorem c_W_bytesForBits (l : Launch) (D : va_G) (cA : ClassId) (n : Int32)  : Ci l y_W_bytesForBits w_W_bytesForBits rm_W_bytesForBits D vwCl [(cA, .int)] [.int n] (([] : va_W)) 0 0 (fun r0 w0 => r0 = bfb n ∧ w0 = ([] : va_W)) := by
  refine Ci.of (Ts := lw_g) (own := "WireSlave") (cc := b_W_bytesForBits) (maxL := 1) (ret := (some .int)) (lv := [(0, .int n)]) (by decide) rfl rfl (fun w h => List.mem_cons_of_mem _ h) (Nat.le_of_ble_eq_true rfl) rfl ?_
  intro pp ee ss mm args below meth cx AA S hr hlk G ls hl
  have hx := S.1
  have hb := S.2.1
  refine lv_iload_n hx hb d_W_bytesForBits_0 rfl (lv_at hl 0 rfl) ?_
  refine lv_bipush (v := 7) hx hb d_W_bytesForBits_1 (by decide) ?_
  refine lv_iadd hx hb d_W_bytesForBits_3 ?_
  refine lv_bipush (v := 8) hx hb d_W_bytesForBits_4 (by decide) ?_
  refine lv_idiv hx hb d_W_bytesForBits_6 (by decide) ?_
  exact g_reti S hr hlk G ⟨by first | rfl | (simp only [bfb, ↓reduceIte]; done) | (simp only [bfb, ↓reduceIte]; rfl), by first | rfl | (simp only [bfb, ↓reduceIte]; done) | (simp only [bfb, ↓reduceIte]; rfl)⟩ (Nat.le_refl _) (Nat.le_refl _) d_W_bytesForBits_7

abbrev rm_W_packedBits : Room := { frames := 2, cells := 0, slots := 0, locals := 42 }
set_option maxHeartbeats 4000000 in
set_option maxRecDepth 100000 in
theorem c_W_packedBits (l : Launch) (D : va_G) (cA : ClassId) (t r n : Nat) (f : Nat → Int32) (most a c0 : Int32) (hn : n < 2 ^ 31) : Ci l y_W_packedBits w_W_packedBits rm_W_packedBits D vwCl [(cA, .int)] [.ref t, .int a, .int c0] (wT cA t r n f most) 0 0 (fun r0 w0 => r0 = packB n f a c0 ∧ w0 = wT cA t r n f most) := by
  refine Ci.of (Ts := lw_g) (own := "WireSlave") (cc := b_W_packedBits) (maxL := 5) (ret := (some .int)) (lv := [(0, .ref t), (1, .int a), (2, .int c0)]) (by decide) rfl rfl (fun w h => List.mem_cons_of_mem _ h) (Nat.le_of_ble_eq_true rfl) rfl ?_
  intro pp ee ss mm args below meth cx AA S hr hlk G ls hl
  have hx := S.1
  have hb := S.2.1
  refine lv_iconst (v := 0) hx hb d_W_packedBits_0 (by decide) ?_
  refine lv_istore_n (lv' := [(3, .int 0), (0, .ref t), (1, .int a), (2, .int c0)]) hx hb d_W_packedBits_1 rfl hl (by decide) rfl (fun ls hl => ?_)
  refine lv_iconst (v := 0) hx hb d_W_packedBits_2 (by decide) ?_
  refine lv_istore (lv' := [(4, .int 0), (3, .int 0), (0, .ref t), (1, .int a), (2, .int c0)]) hx hb d_W_packedBits_3 hl (by decide) rfl (fun ls hl => ?_)
  have lp : ∀ (n1 : Nat) (i : Nat) (y : Int32) (H : Heap) (locs : List Loc) (ls : Array Slot), (i + n1 = c0.toNatClampNeg) → (pkB n f a n1 i y = packB n f a c0) → Gw D vwCl [(cA, .int)] AA ss ss.heap H locs (wT cA t r n f most) → lv_has ls 5 [(0, .ref t), (1, .int a), (2, .int c0), (3, .int y), (4, .int (nI i))] → W pp l ee rm_W_packedBits ss mm args below meth cx H locs 0 0 (Zi D vwCl [(cA, .int)] AA ss args below 0 0 (fun r0 w0 => r0 = packB n f a c0 ∧ w0 = wT cA t r n f most)) (F0 mm 5 ls []) := by
    intro n1
    induction n1 with
    | zero =>
      intro i y H locs ls hi hF G hl
      refine lv_iload hx hb d_W_packedBits_5 (lv_at hl 4 rfl) ?_
      refine lv_iload_n hx hb d_W_packedBits_7 rfl (lv_at hl 2 rfl) ?_
      have k_1 : c0 ≤ (nI i) := by rw [show i = c0.toNatClampNeg from hi]; exact le_clamp _
      refine lv_icmp_ge (tgt := 31) hx hb d_W_packedBits_8 (by decide) (fun _ => ?_) (fun h9 => absurd k_1 h9)
      refine lv_iload_n hx hb d_W_packedBits_31 rfl (lv_at hl 3 rfl) ?_
      exact g_reti S hr hlk G ⟨hF, rfl⟩ (Nat.le_refl _) (Nat.le_refl _) d_W_packedBits_32
    | succ n1 ih =>
      intro i y H locs ls hi hF G hl
      refine lv_iload hx hb d_W_packedBits_5 (lv_at hl 4 rfl) ?_
      refine lv_iload_n hx hb d_W_packedBits_7 rfl (lv_at hl 2 rfl) ?_
      have k_2 : ¬ (c0 ≤ (nI i)) := nle_clamp (by omega)
      refine lv_icmp_ge (tgt := 31) hx hb d_W_packedBits_8 (by decide) (fun h9 => absurd h9 k_2) (fun _ => ?_)
      refine lv_iload_n hx hb d_W_packedBits_11 rfl (lv_at hl 3 rfl) ?_
      refine lv_aload_n hx hb d_W_packedBits_12 rfl (lv_at hl 0 rfl) ?_
      refine lv_iload_n hx hb d_W_packedBits_13 rfl (lv_at hl 1 rfl) ?_
      refine lv_iload hx hb d_W_packedBits_14 (lv_at hl 4 rfl) ?_
      refine lv_iadd hx hb d_W_packedBits_16 ?_
      refine g_cVi (rest := [.int y]) S G (c_T_at l D cA t r n f most (a + (nI i)) hn) (cwV 1 S.2.2.2.2 ml_W_90 rfl rfl rfl (by decide +kernel) ⟨Nat.le_of_ble_eq_true rfl, Nat.le_of_ble_eq_true rfl⟩) [0, 1] [] rfl rfl rfl rfl (by decide) 0 rfl rfl rfl hl.1 rfl (Nat.le_of_ble_eq_true rfl) d_W_packedBits_17 ⟨Nat.le_of_ble_eq_true rfl, Nat.le_of_ble_eq_true rfl⟩ (fun rp_3 wp_3 H locs hp_3 G => ?_)
      obtain ⟨rfl, rfl⟩ := hp_3
      have G : Gw D vwCl [(cA, .int)] AA ss ss.heap H locs (wT cA t r n f most) := G
      refine lv_iload hx hb d_W_packedBits_20 (lv_at hl 4 rfl) ?_
      refine lv_ishl hx hb d_W_packedBits_22 ?_
      refine lv_ior hx hb d_W_packedBits_23 ?_
      refine lv_istore_n (lv' := [(3, .int (y ||| ((tAt n f (a + (nI i))) <<< ((nI i) &&& 31)))), (0, .ref t), (1, .int a), (2, .int c0), (4, .int (nI i))]) hx hb d_W_packedBits_24 rfl hl (by decide) rfl (fun ls hl => ?_)
      refine lv_iinc (v := (nI i) + 1) (lv' := [(4, .int ((nI i) + 1)), (3, .int (y ||| ((tAt n f (a + (nI i))) <<< ((nI i) &&& 31)))), (0, .ref t), (1, .int a), (2, .int c0)]) hx hb d_W_packedBits_25 hl (k := 4) rfl rfl (by decide) rfl (fun ls hl => ?_)
      refine lv_goto (tgt := 5) hx hb d_W_packedBits_28 (by decide) ?_
      have hl := lv_sub hl [2, 3, 4, 1, 0] rfl
      rw [nI_1] at hl
      exact ih (i + 1) _ H locs ls (by omega) hF G hl
  exact lp c0.toNatClampNeg 0 0 _ _ ls (Nat.zero_add _) rfl G (lv_sub hl [2, 3, 4, 1, 0] rfl)
