abbrev rm_M_with : Room := { frames := 0, cells := 0, slots := 0, locals := 0 }
set_option maxHeartbeats 1000000 in
set_option maxRecDepth 100000 in
theorem c_M_with (l : Launch) (D : va_G) (cA : ClassId) (a : Nat → Nat) (τ : St) (x b : Int32)  : Ci l y_M_with w_M_with rm_M_with D vwCl [(cA, .int)] [.ref (a 0), .int x, .int b] (wM cA a τ) 0 0 (fun r0 w0 => r0 = mWith x b ∧ w0 = wM cA a τ) := by
  refine Ci.of (Ts := lw_g) (own := "WireSlaveModel") (cc := b_M_with) (maxL := 5) (ret := (some .int)) (lv := [(0, .ref (a 0)), (1, .int x), (2, .int b)]) (by decide) rfl rfl (fun w h => List.mem_cons_of_mem _ h) (Nat.le_of_ble_eq_true rfl) rfl ?_
  intro pp ee ss mm args below meth cx AA S hr hlk G ls hl
  have hx := S.1
  have hb := S.2.1
  refine lv_iload_n hx hb d_M_with_0 rfl (lv_at hl 1 rfl) ?_
  refine lv_iload_n hx hb d_M_with_1 rfl (lv_at hl 2 rfl) ?_
  refine lv_ixor hx hb d_M_with_2 ?_
  refine lv_istore_n (lv' := [(3, .int (x ^^^ b)), (0, .ref (a 0)), (1, .int x), (2, .int b)]) hx hb d_M_with_3 rfl hl (by decide) rfl (fun ls hl => ?_)
  refine lv_iconst (v := 0) hx hb d_M_with_4 (by decide) ?_
  refine lv_istore (lv' := [(4, .int 0), (3, .int (x ^^^ b)), (0, .ref (a 0)), (1, .int x), (2, .int b)]) hx hb d_M_with_5 hl (by decide) rfl (fun ls hl => ?_)
  have lp : ∀ (n : Nat) (k y : Int32) (H : Heap) (locs : List Loc) (ls : Array Slot), (k = nI (8 - n)) → (n ≤ 8) → (mcN n y = mcN 8 (x ^^^ b)) → Gw D vwCl [(cA, .int)] AA ss ss.heap H locs (wM cA a τ) → lv_has ls 5 [(0, .ref (a 0)), (1, .int x), (2, .int b), (3, .int y), (4, .int k)] → W pp l ee rm_M_with ss mm args below meth cx H locs 0 0 (Zi D vwCl [(cA, .int)] AA ss args below 0 0 (fun r0 w0 => r0 = mWith x b ∧ w0 = wM cA a τ)) (F0 mm 7 ls []) := by
    intro n
    induction n with
    | zero =>
      intro k y H locs ls hk hn8 hF G hl
      refine lv_iload hx hb d_M_with_7 (lv_at hl 4 rfl) ?_
      refine lv_bipush (v := 8) hx hb d_M_with_9 (by decide) ?_
      have k_1 : 8 ≤ k := by rw [hk]; decide
      refine lv_icmp_ge (tgt := 40) hx hb d_M_with_11 (by decide) (fun _ => ?_) (fun h9 => absurd k_1 h9)
      refine lv_iload_n hx hb d_M_with_40 rfl (lv_at hl 3 rfl) ?_
      exact g_reti S hr hlk G ⟨hF, rfl⟩ (Nat.le_refl _) (Nat.le_refl _) d_M_with_41
    | succ n ih =>
      intro k y H locs ls hk hn8 hF G hl
      refine lv_iload hx hb d_M_with_7 (lv_at hl 4 rfl) ?_
      refine lv_bipush (v := 8) hx hb d_M_with_9 (by decide) ?_
      have k_2 : ¬ (8 ≤ k) := by rw [hk]; exact nI_ge (b := 8) (by omega) (by decide)
      refine lv_icmp_ge (tgt := 40) hx hb d_M_with_11 (by decide) (fun h9 => absurd h9 k_2) (fun _ => ?_)
      refine lv_iload_n hx hb d_M_with_14 rfl (lv_at hl 3 rfl) ?_
      refine lv_iconst (v := 2) hx hb d_M_with_15 (by decide) ?_
      refine lv_irem hx hb d_M_with_16 (by decide) ?_
      refine lv_iconst (v := 1) hx hb d_M_with_17 (by decide) ?_
      refine lv_icmp_ne (tgt := 30) hx hb d_M_with_18 (by decide) (fun c_3 => ?_) (fun c_3 => ?_)
      · refine lv_iload_n hx hb d_M_with_30 rfl (lv_at hl 3 rfl) ?_
        refine lv_iconst (v := 2) hx hb d_M_with_31 (by decide) ?_
        refine lv_idiv hx hb d_M_with_32 (by decide) ?_
        refine lv_istore_n (lv' := [(3, .int (y / 2)), (0, .ref (a 0)), (1, .int x), (2, .int b), (4, .int k)]) hx hb d_M_with_33 rfl hl (by decide) rfl (fun ls hl => ?_)
        refine lv_iinc (v := k + 1) (lv' := [(4, .int (k + 1)), (3, .int (y / 2)), (0, .ref (a 0)), (1, .int x), (2, .int b)]) hx hb d_M_with_34 hl (k := 4) rfl rfl (by decide) rfl (fun ls hl => ?_)
        refine lv_goto (tgt := 7) hx hb d_M_with_37 (by decide) ?_
        exact ih _ _ H locs ls (by rw [hk]; exact nxt8 n hn8) (by omega) (by rw [← hF]; simp only [mcN, mcS, eq_false k_2, eq_false c_3, ↓reduceIte]) G (lv_sub hl [2, 3, 4, 1, 0] rfl)
      · refine lv_iload_n hx hb d_M_with_21 rfl (lv_at hl 3 rfl) ?_
        refine lv_iconst (v := 2) hx hb d_M_with_22 (by decide) ?_
        refine lv_idiv hx hb d_M_with_23 (by decide) ?_
        refine lv_ldc (v := 40961) hx hb S.2.2.2.1 (S.2.2.2.2 _ kn_M_58) d_M_with_24 ?_
        refine lv_ixor hx hb d_M_with_26 ?_
        refine lv_goto (tgt := 33) hx hb d_M_with_27 (by decide) ?_
        refine lv_istore_n (lv' := [(3, .int ((y / 2) ^^^ 40961)), (0, .ref (a 0)), (1, .int x), (2, .int b), (4, .int k)]) hx hb d_M_with_33 rfl hl (by decide) rfl (fun ls hl => ?_)
        refine lv_iinc (v := k + 1) (lv' := [(4, .int (k + 1)), (3, .int ((y / 2) ^^^ 40961)), (0, .ref (a 0)), (1, .int x), (2, .int b)]) hx hb d_M_with_34 hl (k := 4) rfl rfl (by decide) rfl (fun ls hl => ?_)
        refine lv_goto (tgt := 7) hx hb d_M_with_37 (by decide) ?_
        exact ih _ _ H locs ls (by rw [hk]; exact nxt8 n hn8) (by omega) (by rw [← hF]; simp only [mcN, mcS, eq_false k_2, eq_true c_3, ↓reduceIte]) G (lv_sub hl [2, 3, 4, 1, 0] rfl)
  exact lp 8 0 (x ^^^ b) _ _ ls rfl (Nat.le_refl 8) rfl G (lv_sub hl [2, 3, 4, 1, 0] rfl)

abbrev rm_M_sumOf : Room := { frames := 1, cells := 0, slots := 0, locals := 24 }
set_option maxHeartbeats 1000000 in
set_option maxRecDepth 100000 in
theorem c_M_sumOf5 (l : Launch) (D : va_G) (cA : ClassId) (a : Nat → Nat) (τ : St) (c0 : Int32) (hc : c0.toNatClampNeg ≤ 256) : Ci l y_M_sumOf w_M_sumOf rm_M_sumOf D vwCl [(cA, .int)] [.ref (a 0), .ref (a 5), .int c0] (wM cA a τ) 0 0 (fun r0 w0 => r0 = mSum (τ 5) c0 ∧ w0 = wM cA a τ) := by
  refine Ci.of (Ts := lw_g) (own := "WireSlaveModel") (cc := b_M_sumOf) (maxL := 5) (ret := (some .int)) (lv := [(0, .ref (a 0)), (1, .ref (a 5)), (2, .int c0)]) (by decide) rfl rfl (fun w h => List.mem_cons_of_mem _ h) (Nat.le_of_ble_eq_true rfl) rfl ?_
  intro pp ee ss mm args below meth cx AA S hr hlk G ls hl
  have hx := S.1
  have hb := S.2.1
  refine lv_ldc (v := 65535) hx hb S.2.2.2.1 (S.2.2.2.2 _ kn_M_59) d_M_sumOf_0 ?_
  refine lv_istore_n (lv' := [(3, .int 65535), (0, .ref (a 0)), (1, .ref (a 5)), (2, .int c0)]) hx hb d_M_sumOf_2 rfl hl (by decide) rfl (fun ls hl => ?_)
  refine lv_iconst (v := 0) hx hb d_M_sumOf_3 (by decide) ?_
  refine lv_istore (lv' := [(4, .int 0), (3, .int 65535), (0, .ref (a 0)), (1, .ref (a 5)), (2, .int c0)]) hx hb d_M_sumOf_4 hl (by decide) rfl (fun ls hl => ?_)
  have lp : ∀ (n : Nat) (i : Nat) (y : Int32) (H : Heap) (locs : List Loc) (ls : Array Slot), (i + n = c0.toNatClampNeg) → (mFst (τ 5) n i y = mSum (τ 5) c0) → Gw D vwCl [(cA, .int)] AA ss ss.heap H locs (wM cA a τ) → lv_has ls 5 [(0, .ref (a 0)), (1, .ref (a 5)), (2, .int c0), (3, .int y), (4, .int (nI i))] → W pp l ee rm_M_sumOf ss mm args below meth cx H locs 0 0 (Zi D vwCl [(cA, .int)] AA ss args below 0 0 (fun r0 w0 => r0 = mSum (τ 5) c0 ∧ w0 = wM cA a τ)) (F0 mm 6 ls []) := by
    intro n
    induction n with
    | zero =>
      intro i y H locs ls hi hF G hl
      refine lv_iload hx hb d_M_sumOf_6 (lv_at hl 4 rfl) ?_
      refine lv_iload_n hx hb d_M_sumOf_8 rfl (lv_at hl 2 rfl) ?_
      have k_1 : c0 ≤ (nI i) := by rw [show i = c0.toNatClampNeg from hi]; exact le_clamp _
      refine lv_icmp_ge (tgt := 28) hx hb d_M_sumOf_9 (by decide) (fun _ => ?_) (fun h9 => absurd k_1 h9)
      refine lv_iload_n hx hb d_M_sumOf_28 rfl (lv_at hl 3 rfl) ?_
      exact g_reti S hr hlk G ⟨hF, rfl⟩ (Nat.le_refl _) (Nat.le_refl _) d_M_sumOf_29
    | succ n ih =>
      intro i y H locs ls hi hF G hl
      refine lv_iload hx hb d_M_sumOf_6 (lv_at hl 4 rfl) ?_
      refine lv_iload_n hx hb d_M_sumOf_8 rfl (lv_at hl 2 rfl) ?_
      have k_2 : ¬ (c0 ≤ (nI i)) := nle_clamp (by omega)
      refine lv_icmp_ge (tgt := 28) hx hb d_M_sumOf_9 (by decide) (fun h9 => absurd h9 k_2) (fun _ => ?_)
      refine lv_aload_n hx hb d_M_sumOf_12 rfl (lv_at hl 0 rfl) ?_
      refine lv_iload_n hx hb d_M_sumOf_13 rfl (lv_at hl 3 rfl) ?_
      refine lv_aload_n hx hb d_M_sumOf_14 rfl (lv_at hl 1 rfl) ?_
      refine lv_iload hx hb d_M_sumOf_15 (lv_at hl 4 rfl) ?_
      refine g_ialdj S G 5 0 (τ 5) rfl rfl i (nI_clamp (by omega)) (vp_in_nI (by omega) (by decide)) d_M_sumOf_17 ?_
      refine g_cVi (rest := []) S G (c_M_with l D cA a τ y ((τ 5) i)) (cwV 2 S.2.2.2.2 ml_M_60 rfl rfl rfl (by decide +kernel) ⟨Nat.le_of_ble_eq_true rfl, Nat.le_of_ble_eq_true rfl⟩) [0, 1, 2, 3, 4, 5, 6, 7] [] rfl rfl rfl rfl (by decide) 0 rfl rfl rfl hl.1 rfl (Nat.le_of_ble_eq_true rfl) d_M_sumOf_18 ⟨Nat.le_of_ble_eq_true rfl, Nat.le_of_ble_eq_true rfl⟩ (fun rp_3 wp_3 H locs hp_3 G => ?_)
      obtain ⟨ep_3, rfl⟩ := hp_3
      replace ep_3 := ep_3.symm
      subst ep_3
      have G : Gw D vwCl [(cA, .int)] AA ss ss.heap H locs (wM cA a τ) := G
      refine lv_istore_n (lv' := [(3, .int (mWith y ((τ 5) i))), (0, .ref (a 0)), (1, .ref (a 5)), (2, .int c0), (4, .int (nI i))]) hx hb d_M_sumOf_21 rfl hl (by decide) rfl (fun ls hl => ?_)
      refine lv_iinc (v := (nI i) + 1) (lv' := [(4, .int ((nI i) + 1)), (3, .int (mWith y ((τ 5) i))), (0, .ref (a 0)), (1, .ref (a 5)), (2, .int c0)]) hx hb d_M_sumOf_22 hl (k := 4) rfl rfl (by decide) rfl (fun ls hl => ?_)
      refine lv_goto (tgt := 6) hx hb d_M_sumOf_25 (by decide) ?_
      have hl := lv_sub hl [2, 3, 4, 1, 0] rfl
      rw [nI_1] at hl
      exact ih (i + 1) _ H locs ls (by omega) hF G hl
  exact lp c0.toNatClampNeg 0 65535 _ _ ls (Nat.zero_add _) rfl G (lv_sub hl [2, 3, 4, 1, 0] rfl)

set_option maxHeartbeats 1000000 in
set_option maxRecDepth 100000 in
theorem c_M_sumOf6 (l : Launch) (D : va_G) (cA : ClassId) (a : Nat → Nat) (τ : St) (c0 : Int32) (hc : c0.toNatClampNeg ≤ 300) : Ci l y_M_sumOf w_M_sumOf rm_M_sumOf D vwCl [(cA, .int)] [.ref (a 0), .ref (a 6), .int c0] (wM cA a τ) 0 0 (fun r0 w0 => r0 = mSum (τ 6) c0 ∧ w0 = wM cA a τ) := by
  refine Ci.of (Ts := lw_g) (own := "WireSlaveModel") (cc := b_M_sumOf) (maxL := 5) (ret := (some .int)) (lv := [(0, .ref (a 0)), (1, .ref (a 6)), (2, .int c0)]) (by decide) rfl rfl (fun w h => List.mem_cons_of_mem _ h) (Nat.le_of_ble_eq_true rfl) rfl ?_
  intro pp ee ss mm args below meth cx AA S hr hlk G ls hl
  have hx := S.1
  have hb := S.2.1
  refine lv_ldc (v := 65535) hx hb S.2.2.2.1 (S.2.2.2.2 _ kn_M_59) d_M_sumOf_0 ?_
  refine lv_istore_n (lv' := [(3, .int 65535), (0, .ref (a 0)), (1, .ref (a 6)), (2, .int c0)]) hx hb d_M_sumOf_2 rfl hl (by decide) rfl (fun ls hl => ?_)
  refine lv_iconst (v := 0) hx hb d_M_sumOf_3 (by decide) ?_
  refine lv_istore (lv' := [(4, .int 0), (3, .int 65535), (0, .ref (a 0)), (1, .ref (a 6)), (2, .int c0)]) hx hb d_M_sumOf_4 hl (by decide) rfl (fun ls hl => ?_)
  have lp : ∀ (n : Nat) (i : Nat) (y : Int32) (H : Heap) (locs : List Loc) (ls : Array Slot), (i + n = c0.toNatClampNeg) → (mFst (τ 6) n i y = mSum (τ 6) c0) → Gw D vwCl [(cA, .int)] AA ss ss.heap H locs (wM cA a τ) → lv_has ls 5 [(0, .ref (a 0)), (1, .ref (a 6)), (2, .int c0), (3, .int y), (4, .int (nI i))] → W pp l ee rm_M_sumOf ss mm args below meth cx H locs 0 0 (Zi D vwCl [(cA, .int)] AA ss args below 0 0 (fun r0 w0 => r0 = mSum (τ 6) c0 ∧ w0 = wM cA a τ)) (F0 mm 6 ls []) := by
    intro n
    induction n with
    | zero =>
      intro i y H locs ls hi hF G hl
      refine lv_iload hx hb d_M_sumOf_6 (lv_at hl 4 rfl) ?_
      refine lv_iload_n hx hb d_M_sumOf_8 rfl (lv_at hl 2 rfl) ?_
      have k_1 : c0 ≤ (nI i) := by rw [show i = c0.toNatClampNeg from hi]; exact le_clamp _
      refine lv_icmp_ge (tgt := 28) hx hb d_M_sumOf_9 (by decide) (fun _ => ?_) (fun h9 => absurd k_1 h9)
      refine lv_iload_n hx hb d_M_sumOf_28 rfl (lv_at hl 3 rfl) ?_
      exact g_reti S hr hlk G ⟨hF, rfl⟩ (Nat.le_refl _) (Nat.le_refl _) d_M_sumOf_29
    | succ n ih =>
      intro i y H locs ls hi hF G hl
      refine lv_iload hx hb d_M_sumOf_6 (lv_at hl 4 rfl) ?_
      refine lv_iload_n hx hb d_M_sumOf_8 rfl (lv_at hl 2 rfl) ?_
      have k_2 : ¬ (c0 ≤ (nI i)) := nle_clamp (by omega)
      refine lv_icmp_ge (tgt := 28) hx hb d_M_sumOf_9 (by decide) (fun h9 => absurd h9 k_2) (fun _ => ?_)
      refine lv_aload_n hx hb d_M_sumOf_12 rfl (lv_at hl 0 rfl) ?_
      refine lv_iload_n hx hb d_M_sumOf_13 rfl (lv_at hl 3 rfl) ?_
      refine lv_aload_n hx hb d_M_sumOf_14 rfl (lv_at hl 1 rfl) ?_
      refine lv_iload hx hb d_M_sumOf_15 (lv_at hl 4 rfl) ?_
      refine g_ialdj S G 6 0 (τ 6) rfl rfl i (nI_clamp (by omega)) (vp_in_nI (by omega) (by decide)) d_M_sumOf_17 ?_
      refine g_cVi (rest := []) S G (c_M_with l D cA a τ y ((τ 6) i)) (cwV 2 S.2.2.2.2 ml_M_60 rfl rfl rfl (by decide +kernel) ⟨Nat.le_of_ble_eq_true rfl, Nat.le_of_ble_eq_true rfl⟩) [0, 1, 2, 3, 4, 5, 6, 7] [] rfl rfl rfl rfl (by decide) 0 rfl rfl rfl hl.1 rfl (Nat.le_of_ble_eq_true rfl) d_M_sumOf_18 ⟨Nat.le_of_ble_eq_true rfl, Nat.le_of_ble_eq_true rfl⟩ (fun rp_3 wp_3 H locs hp_3 G => ?_)
      obtain ⟨ep_3, rfl⟩ := hp_3
      replace ep_3 := ep_3.symm
      subst ep_3
      have G : Gw D vwCl [(cA, .int)] AA ss ss.heap H locs (wM cA a τ) := G
      refine lv_istore_n (lv' := [(3, .int (mWith y ((τ 6) i))), (0, .ref (a 0)), (1, .ref (a 6)), (2, .int c0), (4, .int (nI i))]) hx hb d_M_sumOf_21 rfl hl (by decide) rfl (fun ls hl => ?_)
      refine lv_iinc (v := (nI i) + 1) (lv' := [(4, .int ((nI i) + 1)), (3, .int (mWith y ((τ 6) i))), (0, .ref (a 0)), (1, .ref (a 6)), (2, .int c0)]) hx hb d_M_sumOf_22 hl (k := 4) rfl rfl (by decide) rfl (fun ls hl => ?_)
      refine lv_goto (tgt := 6) hx hb d_M_sumOf_25 (by decide) ?_
      have hl := lv_sub hl [2, 3, 4, 1, 0] rfl
      rw [nI_1] at hl
      exact ih (i + 1) _ H locs ls (by omega) hF G hl
  exact lp c0.toNatClampNeg 0 65535 _ _ ls (Nat.zero_add _) rfl G (lv_sub hl [2, 3, 4, 1, 0] rfl)

abbrev rm_M_data : Room := { frames := 0, cells := 0, slots := 0, locals := 0 }
set_option maxHeartbeats 1000000 in
set_option maxRecDepth 100000 in
theorem c_M_data (l : Launch) (D : va_G) (cA : ClassId) (a : Nat → Nat) (τ : St) (k : Int32) (hk : vp_in (2 + k) 256) : Ci l y_M_data w_M_data rm_M_data D vwCl [(cA, .int)] [.ref (a 0), .int k] (wM cA a τ) 0 0 (fun r0 w0 => r0 = dM (τ 5) k ∧ w0 = wM cA a τ) := by
  refine Ci.of (Ts := lw_g) (own := "WireSlaveModel") (cc := b_M_data) (maxL := 2) (ret := (some .int)) (lv := [(0, .ref (a 0)), (1, .int k)]) (by decide) rfl rfl (fun w h => List.mem_cons_of_mem _ h) (Nat.le_of_ble_eq_true rfl) rfl ?_
  intro pp ee ss mm args below meth cx AA S hr hlk G ls hl
  have hx := S.1
  have hb := S.2.1
  refine lv_aload_n hx hb d_M_data_0 rfl (lv_at hl 0 rfl) ?_
  refine g_get (v := .ref (a 5)) S G in_M 0 rfl rfl 6 (by decide) fl_M_22 rfl d_M_data_1 ?_
  refine lv_iconst (v := 2) hx hb d_M_data_4 (by decide) ?_
  refine lv_iload_n hx hb d_M_data_5 rfl (lv_at hl 1 rfl) ?_
  refine lv_iadd hx hb d_M_data_6 ?_
  refine g_ialdj S G 5 0 (τ 5) rfl rfl ((2 + k).toNatClampNeg) rfl hk d_M_data_7 ?_
  exact g_reti S hr hlk G ⟨by first | (simp only [dM, i10, ↓reduceIte]; done) | (simp only [dM, i10, ↓reduceIte]; rfl) | rfl, congrArg (wM cA a) (by first | (simp only [dM, i10, ↓reduceIte]; done) | (simp only [dM, i10, ↓reduceIte]; rfl) | rfl)⟩ (Nat.le_refl _) (Nat.le_refl _) d_M_data_8

abbrev rm_M_two : Room := { frames := 1, cells := 0, slots := 0, locals := 21 }
set_option maxHeartbeats 1000000 in
set_option maxRecDepth 100000 in
theorem c_M_two (l : Launch) (D : va_G) (cA : ClassId) (a : Nat → Nat) (τ : St) (k : Int32) (h1 : vp_in (2 + k) 256) (h2 : vp_in (2 + (k + 1)) 256) : Ci l y_M_two w_M_two rm_M_two D vwCl [(cA, .int)] [.ref (a 0), .int k] (wM cA a τ) 0 0 (fun r0 w0 => r0 = mTwo (τ 5) k ∧ w0 = wM cA a τ) := by
  refine Ci.of (Ts := lw_g) (own := "WireSlaveModel") (cc := b_M_two) (maxL := 2) (ret := (some .int)) (lv := [(0, .ref (a 0)), (1, .int k)]) (by decide) rfl rfl (fun w h => List.mem_cons_of_mem _ h) (Nat.le_of_ble_eq_true rfl) rfl ?_
  intro pp ee ss mm args below meth cx AA S hr hlk G ls hl
  have hx := S.1
  have hb := S.2.1
  refine lv_sipush (v := 256) hx hb d_M_two_0 (by decide) ?_
  refine lv_aload_n hx hb d_M_two_3 rfl (lv_at hl 0 rfl) ?_
  refine lv_iload_n hx hb d_M_two_4 rfl (lv_at hl 1 rfl) ?_
  refine g_cVi (rest := [.int 256]) S G (c_M_data l D cA a τ k h1) (cwV 1 S.2.2.2.2 ml_M_64 rfl rfl rfl (by decide +kernel) ⟨Nat.le_of_ble_eq_true rfl, Nat.le_of_ble_eq_true rfl⟩) [0, 1, 2, 3, 4, 5, 6, 7] [] rfl rfl rfl rfl (by decide) 0 rfl rfl rfl hl.1 rfl (Nat.le_of_ble_eq_true rfl) d_M_two_5 ⟨Nat.le_of_ble_eq_true rfl, Nat.le_of_ble_eq_true rfl⟩ (fun rp_1 wp_1 H locs hp_1 G => ?_)
  obtain ⟨ep_1, rfl⟩ := hp_1
  have ep_1 : rp_1 = dM (τ 5) k := ep_1
  replace ep_1 := ep_1.symm
  subst ep_1
  have G : Gw D vwCl [(cA, .int)] AA ss ss.heap H locs (wM cA a τ) := G
  refine lv_imul hx hb d_M_two_8 ?_
  refine lv_aload_n hx hb d_M_two_9 rfl (lv_at hl 0 rfl) ?_
  refine lv_iload_n hx hb d_M_two_10 rfl (lv_at hl 1 rfl) ?_
  refine lv_iconst (v := 1) hx hb d_M_two_11 (by decide) ?_
  refine lv_iadd hx hb d_M_two_12 ?_
  refine g_cVi (rest := [.int (256 * (dM (τ 5) k))]) S G (c_M_data l D cA a τ (k + 1) h2) (cwV 1 S.2.2.2.2 ml_M_64 rfl rfl rfl (by decide +kernel) ⟨Nat.le_of_ble_eq_true rfl, Nat.le_of_ble_eq_true rfl⟩) [0, 1, 2, 3, 4, 5, 6, 7] [] rfl rfl rfl rfl (by decide) 0 rfl rfl rfl hl.1 rfl (Nat.le_of_ble_eq_true rfl) d_M_two_13 ⟨Nat.le_of_ble_eq_true rfl, Nat.le_of_ble_eq_true rfl⟩ (fun rp_2 wp_2 H locs hp_2 G => ?_)
  obtain ⟨ep_2, rfl⟩ := hp_2
  have ep_2 : rp_2 = dM (τ 5) (k + 1) := ep_2
  replace ep_2 := ep_2.symm
  subst ep_2
  have G : Gw D vwCl [(cA, .int)] AA ss ss.heap H locs (wM cA a τ) := G
  refine lv_iadd hx hb d_M_two_16 ?_
  exact g_reti S hr hlk G ⟨by first | (simp only [mTwo, i10, ↓reduceIte]; done) | (simp only [mTwo, i10, ↓reduceIte]; rfl) | rfl, congrArg (wM cA a) (by first | (simp only [mTwo, i10, ↓reduceIte]; done) | (simp only [mTwo, i10, ↓reduceIte]; rfl) | rfl)⟩ (Nat.le_refl _) (Nat.le_refl _) d_M_two_17

abbrev rm_M_add : Room := { frames := 0, cells := 0, slots := 0, locals := 0 }
set_option maxHeartbeats 1000000 in
set_option maxRecDepth 100000 in
theorem c_M_add (l : Launch) (D : va_G) (cA : ClassId) (a : Nat → Nat) (τ : St) (x : Rp) (b : Int32) (hx2 : x.2 < 300) : Cv l y_M_add w_M_add rm_M_add D vwCl [(cA, .int)] [.ref (a 0), .int b] (wM cA a (sP τ x)) 0 0 (fun w0 => w0 = wM cA a (sP τ (rAdd x b))) := by
  refine Cv.of (Ts := lw_g) (own := "WireSlaveModel") (cc := b_M_add) (maxL := 2) (ret := none) (lv := [(0, .ref (a 0)), (1, .int b)]) (by decide) rfl rfl (fun w h => List.mem_cons_of_mem _ h) (Nat.le_of_ble_eq_true rfl) rfl ?_
  intro pp ee ss mm args below meth cx AA S hr hlk hnm G ls hl
  have hx := S.1
  have hb := S.2.1
  refine lv_aload_n hx hb d_M_add_0 rfl (lv_at hl 0 rfl) ?_
  refine g_get (v := .ref (a 6)) S G in_M 0 rfl rfl 10 (by decide) fl_M_25 rfl d_M_add_1 ?_
  refine lv_aload_n hx hb d_M_add_4 rfl (lv_at hl 0 rfl) ?_
  refine g_get (v := .int (nI x.2)) S G in_M 0 rfl rfl 11 (by decide) fl_M_67 rfl d_M_add_5 ?_
  refine lv_iload_n hx hb d_M_add_8 rfl (lv_at hl 1 rfl) ?_
  refine g_iastj S G 6 0 rfl rfl x.2 (nI_clamp (by omega)) (vp_in_nI (by omega) (by decide)) (wM cA a (sU (sP τ x) 6 x.2 b)) (wm_a6 cA a _ _ _) d_M_add_9 (fun H locs G => ?_)
  refine lv_aload_n hx hb d_M_add_10 rfl (lv_at hl 0 rfl) ?_
  refine lv_dup hx hb d_M_add_11 rfl ?_
  refine g_get (v := .int (nI x.2)) S G in_M 0 rfl rfl 11 (by decide) fl_M_67 rfl d_M_add_12 ?_
  refine lv_iconst (v := 1) hx hb d_M_add_15 (by decide) ?_
  refine lv_iadd hx hb d_M_add_16 ?_
  refine g_put S G in_M ft_M tok_M nm_M 0 rfl rfl 11 (by decide) fl_M_67 rfl rfl rfl (Nat.le_of_ble_eq_true rfl) (wM cA a (sU (sU (sP τ x) 6 x.2 b) 0 5 ((nI x.2) + 1))) (wm_psize cA a _ _) d_M_add_17 (fun H locs G => ?_)
  exact g_retv S hr hlk G (congrArg (wM cA a) (sP_add τ x b)) (Nat.le_refl _) (Nat.le_refl _) d_M_add_20

abbrev rm_M_table : Room := { frames := 0, cells := 0, slots := 0, locals := 0 }
set_option maxHeartbeats 1000000 in
set_option maxRecDepth 100000 in
theorem c_M_table (l : Launch) (D : va_G) (cA : ClassId) (a : Nat → Nat) (τ : St) (f : Int32)  : Cq l y_M_table w_M_table rm_M_table D vwCl [(cA, .int)] [.ref (a 0), .int f] (wM cA a τ) 0 0 (fun r0 w0 => r0 = some (a (mTab f)) ∧ w0 = wM cA a τ) := by
  refine Cq.of (Ts := lw_g) (own := "WireSlaveModel") (cc := b_M_table) (maxL := 2) (ret := (some (.array .int))) (lv := [(0, .ref (a 0)), (1, .int f)]) (by decide) rfl rfl (fun w h => List.mem_cons_of_mem _ h) (Nat.le_of_ble_eq_true rfl) rfl ?_
  intro pp ee ss mm args below meth cx AA S hr hlk G ls hl
  have hx := S.1
  have hb := S.2.1
  refine lv_iload_n hx hb d_M_table_0 rfl (lv_at hl 1 rfl) ?_
  refine lv_iconst (v := 2) hx hb d_M_table_1 (by decide) ?_
  refine lv_icmp_ne (tgt := 12) hx hb d_M_table_2 (by decide) (fun c_1 => ?_) (fun c_1 => ?_)
  · refine lv_iload_n hx hb d_M_table_12 rfl (lv_at hl 1 rfl) ?_
    refine lv_iconst (v := 4) hx hb d_M_table_13 (by decide) ?_
    refine lv_icmp_ne (tgt := 24) hx hb d_M_table_14 (by decide) (fun c_2 => ?_) (fun c_2 => ?_)
    · refine lv_iload_n hx hb d_M_table_24 rfl (lv_at hl 1 rfl) ?_
      refine lv_iconst (v := 1) hx hb d_M_table_25 (by decide) ?_
      refine lv_icmp_eq (tgt := 40) hx hb d_M_table_26 (by decide) (fun c_3 => ?_) (fun c_3 => ?_)
      · refine lv_aload_n hx hb d_M_table_40 rfl (lv_at hl 0 rfl) ?_
        refine g_get (v := .ref (a 1)) S G in_M 0 rfl rfl 2 (by decide) fl_M_7 rfl d_M_table_41 ?_
        refine lv_goto (tgt := 51) hx hb d_M_table_44 (by decide) ?_
        exact g_retqa S hr hlk (some (a 1)) G ⟨by first | (simp only [mTab, eq_false c_1, eq_false c_2, eq_true c_3, i10, ↓reduceIte]; done) | (simp only [mTab, eq_false c_1, eq_false c_2, eq_true c_3, i10, ↓reduceIte]; rfl) | rfl, congrArg (wM cA a) (by first | (simp only [mTab, eq_false c_1, eq_false c_2, eq_true c_3, i10, ↓reduceIte]; done) | (simp only [mTab, eq_false c_1, eq_false c_2, eq_true c_3, i10, ↓reduceIte]; rfl) | rfl)⟩ (Nat.le_refl _) (Nat.le_refl _) d_M_table_51
      · refine lv_iload_n hx hb d_M_table_29 rfl (lv_at hl 1 rfl) ?_
        refine lv_iconst (v := 5) hx hb d_M_table_30 (by decide) ?_
        refine lv_icmp_eq (tgt := 40) hx hb d_M_table_31 (by decide) (fun c_4 => ?_) (fun c_4 => ?_)
        · refine lv_aload_n hx hb d_M_table_40 rfl (lv_at hl 0 rfl) ?_
          refine g_get (v := .ref (a 1)) S G in_M 0 rfl rfl 2 (by decide) fl_M_7 rfl d_M_table_41 ?_
          refine lv_goto (tgt := 51) hx hb d_M_table_44 (by decide) ?_
          exact g_retqa S hr hlk (some (a 1)) G ⟨by first | (simp only [mTab, eq_false c_1, eq_false c_2, eq_false c_3, eq_true c_4, i10, ↓reduceIte]; done) | (simp only [mTab, eq_false c_1, eq_false c_2, eq_false c_3, eq_true c_4, i10, ↓reduceIte]; rfl) | rfl, congrArg (wM cA a) (by first | (simp only [mTab, eq_false c_1, eq_false c_2, eq_false c_3, eq_true c_4, i10, ↓reduceIte]; done) | (simp only [mTab, eq_false c_1, eq_false c_2, eq_false c_3, eq_true c_4, i10, ↓reduceIte]; rfl) | rfl)⟩ (Nat.le_refl _) (Nat.le_refl _) d_M_table_51
        · refine lv_iload_n hx hb d_M_table_34 rfl (lv_at hl 1 rfl) ?_
          refine lv_bipush (v := 15) hx hb d_M_table_35 (by decide) ?_
          refine lv_icmp_ne (tgt := 47) hx hb d_M_table_37 (by decide) (fun c_5 => ?_) (fun c_5 => ?_)
          · refine lv_aload_n hx hb d_M_table_47 rfl (lv_at hl 0 rfl) ?_
            refine g_get (v := .ref (a 3)) S G in_M 0 rfl rfl 4 (by decide) fl_M_16 rfl d_M_table_48 ?_
            exact g_retqa S hr hlk (some (a 3)) G ⟨by first | (simp only [mTab, eq_false c_1, eq_false c_2, eq_false c_3, eq_false c_4, eq_false c_5, i10, ↓reduceIte]; done) | (simp only [mTab, eq_false c_1, eq_false c_2, eq_false c_3, eq_false c_4, eq_false c_5, i10, ↓reduceIte]; rfl) | rfl, congrArg (wM cA a) (by first | (simp only [mTab, eq_false c_1, eq_false c_2, eq_false c_3, eq_false c_4, eq_false c_5, i10, ↓reduceIte]; done) | (simp only [mTab, eq_false c_1, eq_false c_2, eq_false c_3, eq_false c_4, eq_false c_5, i10, ↓reduceIte]; rfl) | rfl)⟩ (Nat.le_refl _) (Nat.le_refl _) d_M_table_51
          · refine lv_aload_n hx hb d_M_table_40 rfl (lv_at hl 0 rfl) ?_
            refine g_get (v := .ref (a 1)) S G in_M 0 rfl rfl 2 (by decide) fl_M_7 rfl d_M_table_41 ?_
            refine lv_goto (tgt := 51) hx hb d_M_table_44 (by decide) ?_
            exact g_retqa S hr hlk (some (a 1)) G ⟨by first | (simp only [mTab, eq_false c_1, eq_false c_2, eq_false c_3, eq_false c_4, eq_true c_5, i10, ↓reduceIte]; done) | (simp only [mTab, eq_false c_1, eq_false c_2, eq_false c_3, eq_false c_4, eq_true c_5, i10, ↓reduceIte]; rfl) | rfl, congrArg (wM cA a) (by first | (simp only [mTab, eq_false c_1, eq_false c_2, eq_false c_3, eq_false c_4, eq_true c_5, i10, ↓reduceIte]; done) | (simp only [mTab, eq_false c_1, eq_false c_2, eq_false c_3, eq_false c_4, eq_true c_5, i10, ↓reduceIte]; rfl) | rfl)⟩ (Nat.le_refl _) (Nat.le_refl _) d_M_table_51
    · refine lv_aload_n hx hb d_M_table_17 rfl (lv_at hl 0 rfl) ?_
      refine g_get (v := .ref (a 4)) S G in_M 0 rfl rfl 5 (by decide) fl_M_19 rfl d_M_table_18 ?_
      refine lv_goto (tgt := 51) hx hb d_M_table_21 (by decide) ?_
      exact g_retqa S hr hlk (some (a 4)) G ⟨by first | (simp only [mTab, eq_false c_1, eq_true c_2, i10, ↓reduceIte]; done) | (simp only [mTab, eq_false c_1, eq_true c_2, i10, ↓reduceIte]; rfl) | rfl, congrArg (wM cA a) (by first | (simp only [mTab, eq_false c_1, eq_true c_2, i10, ↓reduceIte]; done) | (simp only [mTab, eq_false c_1, eq_true c_2, i10, ↓reduceIte]; rfl) | rfl)⟩ (Nat.le_refl _) (Nat.le_refl _) d_M_table_51
  · refine lv_aload_n hx hb d_M_table_5 rfl (lv_at hl 0 rfl) ?_
    refine g_get (v := .ref (a 2)) S G in_M 0 rfl rfl 3 (by decide) fl_M_13 rfl d_M_table_6 ?_
    refine lv_goto (tgt := 51) hx hb d_M_table_9 (by decide) ?_
    exact g_retqa S hr hlk (some (a 2)) G ⟨by first | (simp only [mTab, eq_true c_1, i10, ↓reduceIte]; done) | (simp only [mTab, eq_true c_1, i10, ↓reduceIte]; rfl) | rfl, congrArg (wM cA a) (by first | (simp only [mTab, eq_true c_1, i10, ↓reduceIte]; done) | (simp only [mTab, eq_true c_1, i10, ↓reduceIte]; rfl) | rfl)⟩ (Nat.le_refl _) (Nat.le_refl _) d_M_table_51

abbrev rm_M_byNumber : Room := { frames := 0, cells := 0, slots := 0, locals := 0 }
set_option maxHeartbeats 1000000 in
set_option maxRecDepth 100000 in
theorem c_M_byNumber (l : Launch) (D : va_G) (cA : ClassId) (a : Nat → Nat) (τ : St) (t : Int32)  : Cq l y_M_byNumber w_M_byNumber rm_M_byNumber D vwCl [(cA, .int)] [.ref (a 0), .int t] (wM cA a τ) 0 0 (fun r0 w0 => r0 = some (a (mNum t)) ∧ w0 = wM cA a τ) := by
  refine Cq.of (Ts := lw_g) (own := "WireSlaveModel") (cc := b_M_byNumber) (maxL := 2) (ret := (some (.array .int))) (lv := [(0, .ref (a 0)), (1, .int t)]) (by decide) rfl rfl (fun w h => List.mem_cons_of_mem _ h) (Nat.le_of_ble_eq_true rfl) rfl ?_
  intro pp ee ss mm args below meth cx AA S hr hlk G ls hl
  have hx := S.1
  have hb := S.2.1
  refine lv_iload_n hx hb d_M_byNumber_0 rfl (lv_at hl 1 rfl) ?_
  refine lv_if_ne (tgt := 11) hx hb d_M_byNumber_1 (by decide) (fun c_1 => ?_) (fun c_1 => ?_)
  · refine lv_iload_n hx hb d_M_byNumber_11 rfl (lv_at hl 1 rfl) ?_
    refine lv_iconst (v := 1) hx hb d_M_byNumber_12 (by decide) ?_
    refine lv_icmp_ne (tgt := 23) hx hb d_M_byNumber_13 (by decide) (fun c_2 => ?_) (fun c_2 => ?_)
    · refine lv_iload_n hx hb d_M_byNumber_23 rfl (lv_at hl 1 rfl) ?_
      refine lv_iconst (v := 2) hx hb d_M_byNumber_24 (by decide) ?_
      refine lv_icmp_ne (tgt := 35) hx hb d_M_byNumber_25 (by decide) (fun c_3 => ?_) (fun c_3 => ?_)
      · refine lv_aload_n hx hb d_M_byNumber_35 rfl (lv_at hl 0 rfl) ?_
        refine g_get (v := .ref (a 4)) S G in_M 0 rfl rfl 5 (by decide) fl_M_19 rfl d_M_byNumber_36 ?_
        exact g_retqa S hr hlk (some (a 4)) G ⟨by first | (simp only [mNum, eq_false c_1, eq_false c_2, eq_false c_3, i10, ↓reduceIte]; done) | (simp only [mNum, eq_false c_1, eq_false c_2, eq_false c_3, i10, ↓reduceIte]; rfl) | rfl, congrArg (wM cA a) (by first | (simp only [mNum, eq_false c_1, eq_false c_2, eq_false c_3, i10, ↓reduceIte]; done) | (simp only [mNum, eq_false c_1, eq_false c_2, eq_false c_3, i10, ↓reduceIte]; rfl) | rfl)⟩ (Nat.le_refl _) (Nat.le_refl _) d_M_byNumber_39
      · refine lv_aload_n hx hb d_M_byNumber_28 rfl (lv_at hl 0 rfl) ?_
        refine g_get (v := .ref (a 3)) S G in_M 0 rfl rfl 4 (by decide) fl_M_16 rfl d_M_byNumber_29 ?_
        refine lv_goto (tgt := 39) hx hb d_M_byNumber_32 (by decide) ?_
        exact g_retqa S hr hlk (some (a 3)) G ⟨by first | (simp only [mNum, eq_false c_1, eq_false c_2, eq_true c_3, i10, ↓reduceIte]; done) | (simp only [mNum, eq_false c_1, eq_false c_2, eq_true c_3, i10, ↓reduceIte]; rfl) | rfl, congrArg (wM cA a) (by first | (simp only [mNum, eq_false c_1, eq_false c_2, eq_true c_3, i10, ↓reduceIte]; done) | (simp only [mNum, eq_false c_1, eq_false c_2, eq_true c_3, i10, ↓reduceIte]; rfl) | rfl)⟩ (Nat.le_refl _) (Nat.le_refl _) d_M_byNumber_39
    · refine lv_aload_n hx hb d_M_byNumber_16 rfl (lv_at hl 0 rfl) ?_
      refine g_get (v := .ref (a 2)) S G in_M 0 rfl rfl 3 (by decide) fl_M_13 rfl d_M_byNumber_17 ?_
      refine lv_goto (tgt := 39) hx hb d_M_byNumber_20 (by decide) ?_
      exact g_retqa S hr hlk (some (a 2)) G ⟨by first | (simp only [mNum, eq_false c_1, eq_true c_2, i10, ↓reduceIte]; done) | (simp only [mNum, eq_false c_1, eq_true c_2, i10, ↓reduceIte]; rfl) | rfl, congrArg (wM cA a) (by first | (simp only [mNum, eq_false c_1, eq_true c_2, i10, ↓reduceIte]; done) | (simp only [mNum, eq_false c_1, eq_true c_2, i10, ↓reduceIte]; rfl) | rfl)⟩ (Nat.le_refl _) (Nat.le_refl _) d_M_byNumber_39
  · refine lv_aload_n hx hb d_M_byNumber_4 rfl (lv_at hl 0 rfl) ?_
    refine g_get (v := .ref (a 1)) S G in_M 0 rfl rfl 2 (by decide) fl_M_7 rfl d_M_byNumber_5 ?_
    refine lv_goto (tgt := 39) hx hb d_M_byNumber_8 (by decide) ?_
    exact g_retqa S hr hlk (some (a 1)) G ⟨by first | (simp only [mNum, eq_true c_1, i10, ↓reduceIte]; done) | (simp only [mNum, eq_true c_1, i10, ↓reduceIte]; rfl) | rfl, congrArg (wM cA a) (by first | (simp only [mNum, eq_true c_1, i10, ↓reduceIte]; done) | (simp only [mNum, eq_true c_1, i10, ↓reduceIte]; rfl) | rfl)⟩ (Nat.le_refl _) (Nat.le_refl _) d_M_byNumber_39

abbrev rm_M_noPlace : Room := { frames := 0, cells := 0, slots := 0, locals := 0 }
set_option maxHeartbeats 1000000 in
set_option maxRecDepth 100000 in
theorem c_M_noPlace (l : Launch) (D : va_G) (cA : ClassId) (a : Nat → Nat) (τ : St) (t p : Int32)  : Ci l y_M_noPlace w_M_noPlace rm_M_noPlace D vwCl [(cA, .int)] [.ref (a 0), .int t, .int p] (wM cA a τ) 0 0 (fun r0 w0 => r0 = mNo t p ∧ w0 = wM cA a τ) := by
  refine Ci.of (Ts := lw_g) (own := "WireSlaveModel") (cc := b_M_noPlace) (maxL := 3) (ret := (some .boolean)) (lv := [(0, .ref (a 0)), (1, .int t), (2, .int p)]) (by decide) rfl rfl (fun w h => List.mem_cons_of_mem _ h) (Nat.le_of_ble_eq_true rfl) rfl ?_
  intro pp ee ss mm args below meth cx AA S hr hlk G ls hl
  have hx := S.1
  have hb := S.2.1
  refine lv_iload_n hx hb d_M_noPlace_0 rfl (lv_at hl 1 rfl) ?_
  refine lv_if_lt (tgt := 30) hx hb d_M_noPlace_1 (by decide) (fun c_1 => ?_) (fun c_1 => ?_)
  · refine lv_iconst (v := 1) hx hb d_M_noPlace_30 (by decide) ?_
    refine lv_goto (tgt := 35) hx hb d_M_noPlace_31 (by decide) ?_
    exact g_retz S hr hlk rfl G ⟨by first | (simp only [mNo, eq_true c_1, i10, ↓reduceIte]; done) | (simp only [mNo, eq_true c_1, i10, ↓reduceIte]; rfl) | rfl, congrArg (wM cA a) (by first | (simp only [mNo, eq_true c_1, i10, ↓reduceIte]; done) | (simp only [mNo, eq_true c_1, i10, ↓reduceIte]; rfl) | rfl)⟩ (Nat.le_refl _) (Nat.le_refl _) d_M_noPlace_35
  · refine lv_iload_n hx hb d_M_noPlace_4 rfl (lv_at hl 1 rfl) ?_
    refine lv_iconst (v := 3) hx hb d_M_noPlace_5 (by decide) ?_
    refine lv_icmp_gt (tgt := 30) hx hb d_M_noPlace_6 (by decide) (fun c_2 => ?_) (fun c_2 => ?_)
    · refine lv_iconst (v := 1) hx hb d_M_noPlace_30 (by decide) ?_
      refine lv_goto (tgt := 35) hx hb d_M_noPlace_31 (by decide) ?_
      exact g_retz S hr hlk rfl G ⟨by first | (simp only [mNo, eq_false c_1, eq_true c_2, i10, ↓reduceIte]; done) | (simp only [mNo, eq_false c_1, eq_true c_2, i10, ↓reduceIte]; rfl) | rfl, congrArg (wM cA a) (by first | (simp only [mNo, eq_false c_1, eq_true c_2, i10, ↓reduceIte]; done) | (simp only [mNo, eq_false c_1, eq_true c_2, i10, ↓reduceIte]; rfl) | rfl)⟩ (Nat.le_refl _) (Nat.le_refl _) d_M_noPlace_35
    · refine lv_iload_n hx hb d_M_noPlace_9 rfl (lv_at hl 2 rfl) ?_
      refine lv_if_lt (tgt := 30) hx hb d_M_noPlace_10 (by decide) (fun c_3 => ?_) (fun c_3 => ?_)
      · refine lv_iconst (v := 1) hx hb d_M_noPlace_30 (by decide) ?_
        refine lv_goto (tgt := 35) hx hb d_M_noPlace_31 (by decide) ?_
        exact g_retz S hr hlk rfl G ⟨by first | (simp only [mNo, eq_false c_1, eq_false c_2, eq_true c_3, i10, ↓reduceIte]; done) | (simp only [mNo, eq_false c_1, eq_false c_2, eq_true c_3, i10, ↓reduceIte]; rfl) | rfl, congrArg (wM cA a) (by first | (simp only [mNo, eq_false c_1, eq_false c_2, eq_true c_3, i10, ↓reduceIte]; done) | (simp only [mNo, eq_false c_1, eq_false c_2, eq_true c_3, i10, ↓reduceIte]; rfl) | rfl)⟩ (Nat.le_refl _) (Nat.le_refl _) d_M_noPlace_35
      · refine lv_iload_n hx hb d_M_noPlace_13 rfl (lv_at hl 2 rfl) ?_
        refine lv_iload_n hx hb d_M_noPlace_14 rfl (lv_at hl 1 rfl) ?_
        refine lv_iconst (v := 2) hx hb d_M_noPlace_15 (by decide) ?_
        refine lv_icmp_ge (tgt := 25) hx hb d_M_noPlace_16 (by decide) (fun c_4 => ?_) (fun c_4 => ?_)
        · refine lv_bipush (v := 64) hx hb d_M_noPlace_25 (by decide) ?_
          refine lv_icmp_lt (tgt := 34) hx hb d_M_noPlace_27 (by decide) (fun c_5 => ?_) (fun c_5 => ?_)
          · refine lv_iconst (v := 0) hx hb d_M_noPlace_34 (by decide) ?_
            exact g_retz S hr hlk rfl G ⟨by first | (simp only [mNo, eq_false c_1, eq_false c_2, eq_false c_3, eq_true c_4, eq_true c_5, i10, ↓reduceIte]; done) | (simp only [mNo, eq_false c_1, eq_false c_2, eq_false c_3, eq_true c_4, eq_true c_5, i10, ↓reduceIte]; rfl) | rfl, congrArg (wM cA a) (by first | (simp only [mNo, eq_false c_1, eq_false c_2, eq_false c_3, eq_true c_4, eq_true c_5, i10, ↓reduceIte]; done) | (simp only [mNo, eq_false c_1, eq_false c_2, eq_false c_3, eq_true c_4, eq_true c_5, i10, ↓reduceIte]; rfl) | rfl)⟩ (Nat.le_refl _) (Nat.le_refl _) d_M_noPlace_35
          · refine lv_iconst (v := 1) hx hb d_M_noPlace_30 (by decide) ?_
            refine lv_goto (tgt := 35) hx hb d_M_noPlace_31 (by decide) ?_
            exact g_retz S hr hlk rfl G ⟨by first | (simp only [mNo, eq_false c_1, eq_false c_2, eq_false c_3, eq_true c_4, eq_false c_5, i10, ↓reduceIte]; done) | (simp only [mNo, eq_false c_1, eq_false c_2, eq_false c_3, eq_true c_4, eq_false c_5, i10, ↓reduceIte]; rfl) | rfl, congrArg (wM cA a) (by first | (simp only [mNo, eq_false c_1, eq_false c_2, eq_false c_3, eq_true c_4, eq_false c_5, i10, ↓reduceIte]; done) | (simp only [mNo, eq_false c_1, eq_false c_2, eq_false c_3, eq_true c_4, eq_false c_5, i10, ↓reduceIte]; rfl) | rfl)⟩ (Nat.le_refl _) (Nat.le_refl _) d_M_noPlace_35
        · refine lv_sipush (v := 256) hx hb d_M_noPlace_19 (by decide) ?_
          refine lv_goto (tgt := 27) hx hb d_M_noPlace_22 (by decide) ?_
          refine lv_icmp_lt (tgt := 34) hx hb d_M_noPlace_27 (by decide) (fun c_6 => ?_) (fun c_6 => ?_)
          · refine lv_iconst (v := 0) hx hb d_M_noPlace_34 (by decide) ?_
            exact g_retz S hr hlk rfl G ⟨by first | (simp only [mNo, eq_false c_1, eq_false c_2, eq_false c_3, eq_false c_4, eq_true c_6, i10, ↓reduceIte]; done) | (simp only [mNo, eq_false c_1, eq_false c_2, eq_false c_3, eq_false c_4, eq_true c_6, i10, ↓reduceIte]; rfl) | rfl, congrArg (wM cA a) (by first | (simp only [mNo, eq_false c_1, eq_false c_2, eq_false c_3, eq_false c_4, eq_true c_6, i10, ↓reduceIte]; done) | (simp only [mNo, eq_false c_1, eq_false c_2, eq_false c_3, eq_false c_4, eq_true c_6, i10, ↓reduceIte]; rfl) | rfl)⟩ (Nat.le_refl _) (Nat.le_refl _) d_M_noPlace_35
          · refine lv_iconst (v := 1) hx hb d_M_noPlace_30 (by decide) ?_
            refine lv_goto (tgt := 35) hx hb d_M_noPlace_31 (by decide) ?_
            exact g_retz S hr hlk rfl G ⟨by first | (simp only [mNo, eq_false c_1, eq_false c_2, eq_false c_3, eq_false c_4, eq_false c_6, i10, ↓reduceIte]; done) | (simp only [mNo, eq_false c_1, eq_false c_2, eq_false c_3, eq_false c_4, eq_false c_6, i10, ↓reduceIte]; rfl) | rfl, congrArg (wM cA a) (by first | (simp only [mNo, eq_false c_1, eq_false c_2, eq_false c_3, eq_false c_4, eq_false c_6, i10, ↓reduceIte]; done) | (simp only [mNo, eq_false c_1, eq_false c_2, eq_false c_3, eq_false c_4, eq_false c_6, i10, ↓reduceIte]; rfl) | rfl)⟩ (Nat.le_refl _) (Nat.le_refl _) d_M_noPlace_35
