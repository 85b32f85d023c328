abbrev rm_W_appendBits : Room := { frames := 3, cells := 0, slots := 0, locals := 66 }
set_option maxHeartbeats 4000000 in
set_option maxRecDepth 100000 in
theorem c_W_appendBits1 (l : Launch) (D : va_G) (cA : ClassId) (a : Nat → Nat) (σ : St) (a1 c0 : Int32) (hc : c0.toNatClampNeg ≤ 1073741824) : Cv l y_W_appendBits w_W_appendBits rm_W_appendBits D vwCl [(cA, .int)] [.ref (a 0), .ref (a 1), .int a1, .int c0] (wW cA a σ) 0 0 (fun w0 => w0 = wW cA a (wBits σ 256 1 a1 c0)) := by
  refine Cv.of (Ts := lw_g) (own := "WireSlave") (cc := b_W_appendBits) (maxL := 5) (ret := none) (lv := [(0, .ref (a 0)), (1, .ref (a 1)), (2, .int a1), (3, .int c0)]) (by decide) rfl rfl (fun w h => List.mem_cons_of_mem _ h) (Nat.le_of_ble_eq_true rfl) rfl ?_
  intro pp ee ss mm args below meth cx AA S hr hlk hnm G ls hl
  have hx := S.1
  have hb := S.2.1
  refine lv_aload_n hx hb d_W_appendBits_0 rfl (lv_at hl 0 rfl) ?_
  refine g_get S G in_W 0 rfl rfl 6 (by decide) fl_W_50 rfl d_W_appendBits_1 ?_
  refine lv_iload_n hx hb d_W_appendBits_4 rfl (lv_at hl 3 rfl) ?_
  refine g_cSi (rest := [.ref (a 11)]) S G (c_W_bytesForBits l D cA c0) (va_cwS 1 S.2.2.2.2 ml_W_159 rfl rfl rfl (by decide +kernel) ⟨Nat.le_of_ble_eq_true rfl, Nat.le_of_ble_eq_true rfl⟩) [] [0, 1, 2, 3, 4, 5, 6, 7, 8, 9, 10, 11, 12, 13] rfl rfl rfl rfl (by decide) rfl hl.1 rfl (Nat.le_of_ble_eq_true rfl) d_W_appendBits_5 ⟨Nat.le_of_ble_eq_true rfl, Nat.le_of_ble_eq_true rfl⟩ (fun rp_1 wp_1 H locs hp_1 G => ?_)
  obtain ⟨ep_1, rfl⟩ := hp_1
  have G := G.sub (ws' := wW cA a σ) [0, 1, 2, 3, 4, 5, 6, 7, 8, 9, 10, 11, 12, 13] rfl (ww_id cA a _)
  refine g_cVv (rest := []) S G (c_B_append l D cA (a 11) (a 12) 256 (σ 6) (σ 0 4) rp_1 (by decide)) (cwV 1 S.2.2.2.2 ml_W_95 rfl rfl rfl (by decide +kernel) ⟨Nat.le_of_ble_eq_true rfl, Nat.le_of_ble_eq_true rfl⟩) [11, 12] [0, 1, 2, 3, 4, 5, 6, 7, 8, 9, 10, 13] rfl rfl rfl rfl (by decide) 11 rfl rfl rfl hl.1 rfl (Nat.le_of_ble_eq_true rfl) d_W_appendBits_8 ⟨Nat.le_of_ble_eq_true rfl, Nat.le_of_ble_eq_true rfl⟩ (fun wp_2 H locs hp_2 G => ?_)
  subst hp_2
  have G := G.sub (ws' := wW cA a (wApA σ rp_1)) [0, 1, 2, 3, 4, 5, 6, 7, 8, 9, 10, 12, 13, 11] rfl (ww_aB11 cA a _ _)
  refine lv_iconst (v := 0) hx hb d_W_appendBits_11 (by decide) ?_
  refine lv_istore (lv' := [(4, .int 0), (0, .ref (a 0)), (1, .ref (a 1)), (2, .int a1), (3, .int c0)]) hx hb d_W_appendBits_12 hl (by decide) rfl (fun ls hl => ?_)
  subst ep_1
  have lp : ∀ (n : Nat) (i : Nat) (ρ : St) (H : Heap) (locs : List Loc) (ls : Array Slot), (i + 8 * n = 8 * cnt8 c0) → (apB 256 1 a1 c0 n i ρ = wBits σ 256 1 a1 c0) → Gw D vwCl [(cA, .int)] AA ss ss.heap H locs (wW cA a (ρ)) → lv_has ls 5 [(0, .ref (a 0)), (1, .ref (a 1)), (2, .int a1), (3, .int c0), (4, .int (nI i))] → W pp l ee rm_W_appendBits ss mm args below meth cx H locs 0 0 (Zv D vwCl [(cA, .int)] AA ss args below 0 0 (fun w0 => w0 = wW cA a (wBits σ 256 1 a1 c0))) (F0 mm 14 ls []) := by
    intro n
    induction n with
    | zero =>
      intro i ρ H locs ls hi hF G hl
      refine lv_iload hx hb d_W_appendBits_14 (lv_at hl 4 rfl) ?_
      refine lv_iload_n hx hb d_W_appendBits_16 rfl (lv_at hl 3 rfl) ?_
      have k_3 : c0 ≤ (nI i) := le_clampU (by unfold cnt8 at hi; omega) (by unfold cnt8 at hi; omega)
      refine lv_icmp_ge (tgt := 50) hx hb d_W_appendBits_17 (by decide) (fun _ => ?_) (fun h9 => absurd k_3 h9)
      exact g_retv S hr hlk G (congrArg (wW cA a) hF) (Nat.le_refl _) (Nat.le_refl _) d_W_appendBits_50
    | succ n ih =>
      intro i ρ H locs ls hi hF G hl
      refine lv_iload hx hb d_W_appendBits_14 (lv_at hl 4 rfl) ?_
      refine lv_iload_n hx hb d_W_appendBits_16 rfl (lv_at hl 3 rfl) ?_
      have k_4 : ¬ (c0 ≤ (nI i)) := nle_clamp (by unfold cnt8 at hi; omega)
      refine lv_icmp_ge (tgt := 50) hx hb d_W_appendBits_17 (by decide) (fun h9 => absurd h9 k_4) (fun _ => ?_)
      refine lv_aload_n hx hb d_W_appendBits_20 rfl (lv_at hl 0 rfl) ?_
      refine g_get S G in_W 0 rfl rfl 6 (by decide) fl_W_50 rfl d_W_appendBits_21 ?_
      refine lv_aload_n hx hb d_W_appendBits_24 rfl (lv_at hl 1 rfl) ?_
      refine lv_iload_n hx hb d_W_appendBits_25 rfl (lv_at hl 2 rfl) ?_
      refine lv_iload hx hb d_W_appendBits_26 (lv_at hl 4 rfl) ?_
      refine lv_iadd hx hb d_W_appendBits_28 ?_
      refine lv_bipush (v := 8) hx hb d_W_appendBits_29 (by decide) ?_
      refine lv_iload_n hx hb d_W_appendBits_31 rfl (lv_at hl 3 rfl) ?_
      refine lv_iload hx hb d_W_appendBits_32 (lv_at hl 4 rfl) ?_
      refine lv_isub hx hb d_W_appendBits_34 ?_
      refine va_mmin hx hb (S.2.2.1.trans hl.1.symm) S.2.2.2.1 (S.2.2.2.2 _ mj_W_9) (S.2.2.2.2 _ sj_min) (S.2.2.2.2 _ ij_) (S.2.2.2.2 _ cj_min) (Nat.le_of_ble_eq_true rfl) (Nat.le_of_ble_eq_true rfl) (Nat.le_of_ble_eq_true rfl) (Nat.le_of_ble_eq_true rfl) d_W_appendBits_35 ?_
      refine g_cSi (rest := [.ref (a 11)]) S G (c_W_packedBits l D cA (a 1) (a 2) 256 ((ρ) 1) 1 (a1 + (nI i)) (minI 8 (c0 - (nI i))) (by decide)) (va_cwS 3 S.2.2.2.2 ml_W_179 rfl rfl rfl (by decide +kernel) ⟨Nat.le_of_ble_eq_true rfl, Nat.le_of_ble_eq_true rfl⟩) [1, 2] [0, 3, 4, 5, 6, 7, 8, 9, 10, 11, 12, 13] rfl rfl rfl rfl (by decide) rfl hl.1 rfl (Nat.le_of_ble_eq_true rfl) d_W_appendBits_38 ⟨Nat.le_of_ble_eq_true rfl, Nat.le_of_ble_eq_true rfl⟩ (fun rp_5 wp_5 H locs hp_5 G => ?_)
      obtain ⟨ep_5, rfl⟩ := hp_5
      have G := G.sub (ws' := wW cA a (ρ)) [0, 12, 13, 1, 2, 3, 4, 5, 6, 7, 8, 9, 10, 11] rfl (ww_T1 cA a _)
      refine g_cVv (rest := []) S G (c_B_append l D cA (a 11) (a 12) 256 ((ρ) 6) ((ρ) 0 4) rp_5 (by decide)) (cwV 1 S.2.2.2.2 ml_W_95 rfl rfl rfl (by decide +kernel) ⟨Nat.le_of_ble_eq_true rfl, Nat.le_of_ble_eq_true rfl⟩) [11, 12] [0, 1, 2, 3, 4, 5, 6, 7, 8, 9, 10, 13] rfl rfl rfl rfl (by decide) 11 rfl rfl rfl hl.1 rfl (Nat.le_of_ble_eq_true rfl) d_W_appendBits_41 ⟨Nat.le_of_ble_eq_true rfl, Nat.le_of_ble_eq_true rfl⟩ (fun wp_6 H locs hp_6 G => ?_)
      subst hp_6
      have G := G.sub (ws' := wW cA a (wApA (ρ) rp_5)) [0, 1, 2, 3, 4, 5, 6, 7, 8, 9, 10, 12, 13, 11] rfl (ww_aB11 cA a _ _)
      refine lv_iinc (v := (nI i) + 8) (lv' := [(4, .int ((nI i) + 8)), (0, .ref (a 0)), (1, .ref (a 1)), (2, .int a1), (3, .int c0)]) hx hb d_W_appendBits_44 hl (k := 4) rfl rfl (by decide) rfl (fun ls hl => ?_)
      refine lv_goto (tgt := 14) hx hb d_W_appendBits_47 (by decide) ?_
      subst ep_5
      have hl := lv_sub hl [1, 2, 3, 4, 0] rfl
      rw [show nI i + 8 = nI (i + 8) from nI_add i 8] at hl
      exact ih (i + 8) _ H locs ls (by omega) hF G hl
  exact lp (cnt8 c0) 0 _ _ _ ls (Nat.zero_add _) rfl G (lv_sub hl [1, 2, 3, 4, 0] rfl)

set_option maxHeartbeats 4000000 in
set_option maxRecDepth 100000 in
theorem c_W_appendBits2 (l : Launch) (D : va_G) (cA : ClassId) (a : Nat → Nat) (σ : St) (a1 c0 : Int32) (hc : c0.toNatClampNeg ≤ 1073741824) : Cv l y_W_appendBits w_W_appendBits rm_W_appendBits D vwCl [(cA, .int)] [.ref (a 0), .ref (a 3), .int a1, .int c0] (wW cA a σ) 0 0 (fun w0 => w0 = wW cA a (wBits σ 256 2 a1 c0)) := by
  refine Cv.of (Ts := lw_g) (own := "WireSlave") (cc := b_W_appendBits) (maxL := 5) (ret := none) (lv := [(0, .ref (a 0)), (1, .ref (a 3)), (2, .int a1), (3, .int c0)]) (by decide) rfl rfl (fun w h => List.mem_cons_of_mem _ h) (Nat.le_of_ble_eq_true rfl) rfl ?_
  intro pp ee ss mm args below meth cx AA S hr hlk hnm G ls hl
  have hx := S.1
  have hb := S.2.1
  refine lv_aload_n hx hb d_W_appendBits_0 rfl (lv_at hl 0 rfl) ?_
  refine g_get S G in_W 0 rfl rfl 6 (by decide) fl_W_50 rfl d_W_appendBits_1 ?_
  refine lv_iload_n hx hb d_W_appendBits_4 rfl (lv_at hl 3 rfl) ?_
  refine g_cSi (rest := [.ref (a 11)]) S G (c_W_bytesForBits l D cA c0) (va_cwS 1 S.2.2.2.2 ml_W_159 rfl rfl rfl (by decide +kernel) ⟨Nat.le_of_ble_eq_true rfl, Nat.le_of_ble_eq_true rfl⟩) [] [0, 1, 2, 3, 4, 5, 6, 7, 8, 9, 10, 11, 12, 13] rfl rfl rfl rfl (by decide) rfl hl.1 rfl (Nat.le_of_ble_eq_true rfl) d_W_appendBits_5 ⟨Nat.le_of_ble_eq_true rfl, Nat.le_of_ble_eq_true rfl⟩ (fun rp_1 wp_1 H locs hp_1 G => ?_)
  obtain ⟨ep_1, rfl⟩ := hp_1
  have G := G.sub (ws' := wW cA a σ) [0, 1, 2, 3, 4, 5, 6, 7, 8, 9, 10, 11, 12, 13] rfl (ww_id cA a _)
  refine g_cVv (rest := []) S G (c_B_append l D cA (a 11) (a 12) 256 (σ 6) (σ 0 4) rp_1 (by decide)) (cwV 1 S.2.2.2.2 ml_W_95 rfl rfl rfl (by decide +kernel) ⟨Nat.le_of_ble_eq_true rfl, Nat.le_of_ble_eq_true rfl⟩) [11, 12] [0, 1, 2, 3, 4, 5, 6, 7, 8, 9, 10, 13] rfl rfl rfl rfl (by decide) 11 rfl rfl rfl hl.1 rfl (Nat.le_of_ble_eq_true rfl) d_W_appendBits_8 ⟨Nat.le_of_ble_eq_true rfl, Nat.le_of_ble_eq_true rfl⟩ (fun wp_2 H locs hp_2 G => ?_)
  subst hp_2
  have G := G.sub (ws' := wW cA a (wApA σ rp_1)) [0, 1, 2, 3, 4, 5, 6, 7, 8, 9, 10, 12, 13, 11] rfl (ww_aB11 cA a _ _)
  refine lv_iconst (v := 0) hx hb d_W_appendBits_11 (by decide) ?_
  refine lv_istore (lv' := [(4, .int 0), (0, .ref (a 0)), (1, .ref (a 3)), (2, .int a1), (3, .int c0)]) hx hb d_W_appendBits_12 hl (by decide) rfl (fun ls hl => ?_)
  subst ep_1
  have lp : ∀ (n : Nat) (i : Nat) (ρ : St) (H : Heap) (locs : List Loc) (ls : Array Slot), (i + 8 * n = 8 * cnt8 c0) → (apB 256 2 a1 c0 n i ρ = wBits σ 256 2 a1 c0) → Gw D vwCl [(cA, .int)] AA ss ss.heap H locs (wW cA a (ρ)) → lv_has ls 5 [(0, .ref (a 0)), (1, .ref (a 3)), (2, .int a1), (3, .int c0), (4, .int (nI i))] → W pp l ee rm_W_appendBits ss mm args below meth cx H locs 0 0 (Zv D vwCl [(cA, .int)] AA ss args below 0 0 (fun w0 => w0 = wW cA a (wBits σ 256 2 a1 c0))) (F0 mm 14 ls []) := by
    intro n
    induction n with
    | zero =>
      intro i ρ H locs ls hi hF G hl
      refine lv_iload hx hb d_W_appendBits_14 (lv_at hl 4 rfl) ?_
      refine lv_iload_n hx hb d_W_appendBits_16 rfl (lv_at hl 3 rfl) ?_
      have k_3 : c0 ≤ (nI i) := le_clampU (by unfold cnt8 at hi; omega) (by unfold cnt8 at hi; omega)
      refine lv_icmp_ge (tgt := 50) hx hb d_W_appendBits_17 (by decide) (fun _ => ?_) (fun h9 => absurd k_3 h9)
      exact g_retv S hr hlk G (congrArg (wW cA a) hF) (Nat.le_refl _) (Nat.le_refl _) d_W_appendBits_50
    | succ n ih =>
      intro i ρ H locs ls hi hF G hl
      refine lv_iload hx hb d_W_appendBits_14 (lv_at hl 4 rfl) ?_
      refine lv_iload_n hx hb d_W_appendBits_16 rfl (lv_at hl 3 rfl) ?_
      have k_4 : ¬ (c0 ≤ (nI i)) := nle_clamp (by unfold cnt8 at hi; omega)
      refine lv_icmp_ge (tgt := 50) hx hb d_W_appendBits_17 (by decide) (fun h9 => absurd h9 k_4) (fun _ => ?_)
      refine lv_aload_n hx hb d_W_appendBits_20 rfl (lv_at hl 0 rfl) ?_
      refine g_get S G in_W 0 rfl rfl 6 (by decide) fl_W_50 rfl d_W_appendBits_21 ?_
      refine lv_aload_n hx hb d_W_appendBits_24 rfl (lv_at hl 1 rfl) ?_
      refine lv_iload_n hx hb d_W_appendBits_25 rfl (lv_at hl 2 rfl) ?_
      refine lv_iload hx hb d_W_appendBits_26 (lv_at hl 4 rfl) ?_
      refine lv_iadd hx hb d_W_appendBits_28 ?_
      refine lv_bipush (v := 8) hx hb d_W_appendBits_29 (by decide) ?_
      refine lv_iload_n hx hb d_W_appendBits_31 rfl (lv_at hl 3 rfl) ?_
      refine lv_iload hx hb d_W_appendBits_32 (lv_at hl 4 rfl) ?_
      refine lv_isub hx hb d_W_appendBits_34 ?_
      refine va_mmin hx hb (S.2.2.1.trans hl.1.symm) S.2.2.2.1 (S.2.2.2.2 _ mj_W_9) (S.2.2.2.2 _ sj_min) (S.2.2.2.2 _ ij_) (S.2.2.2.2 _ cj_min) (Nat.le_of_ble_eq_true rfl) (Nat.le_of_ble_eq_true rfl) (Nat.le_of_ble_eq_true rfl) (Nat.le_of_ble_eq_true rfl) d_W_appendBits_35 ?_
      refine g_cSi (rest := [.ref (a 11)]) S G (c_W_packedBits l D cA (a 3) (a 4) 256 ((ρ) 2) 1 (a1 + (nI i)) (minI 8 (c0 - (nI i))) (by decide)) (va_cwS 3 S.2.2.2.2 ml_W_179 rfl rfl rfl (by decide +kernel) ⟨Nat.le_of_ble_eq_true rfl, Nat.le_of_ble_eq_true rfl⟩) [3, 4] [0, 1, 2, 5, 6, 7, 8, 9, 10, 11, 12, 13] rfl rfl rfl rfl (by decide) rfl hl.1 rfl (Nat.le_of_ble_eq_true rfl) d_W_appendBits_38 ⟨Nat.le_of_ble_eq_true rfl, Nat.le_of_ble_eq_true rfl⟩ (fun rp_5 wp_5 H locs hp_5 G => ?_)
      obtain ⟨ep_5, rfl⟩ := hp_5
      have G := G.sub (ws' := wW cA a (ρ)) [0, 1, 2, 12, 13, 3, 4, 5, 6, 7, 8, 9, 10, 11] rfl (ww_T3 cA a _)
      refine g_cVv (rest := []) S G (c_B_append l D cA (a 11) (a 12) 256 ((ρ) 6) ((ρ) 0 4) rp_5 (by decide)) (cwV 1 S.2.2.2.2 ml_W_95 rfl rfl rfl (by decide +kernel) ⟨Nat.le_of_ble_eq_true rfl, Nat.le_of_ble_eq_true rfl⟩) [11, 12] [0, 1, 2, 3, 4, 5, 6, 7, 8, 9, 10, 13] rfl rfl rfl rfl (by decide) 11 rfl rfl rfl hl.1 rfl (Nat.le_of_ble_eq_true rfl) d_W_appendBits_41 ⟨Nat.le_of_ble_eq_true rfl, Nat.le_of_ble_eq_true rfl⟩ (fun wp_6 H locs hp_6 G => ?_)
      subst hp_6
      have G := G.sub (ws' := wW cA a (wApA (ρ) rp_5)) [0, 1, 2, 3, 4, 5, 6, 7, 8, 9, 10, 12, 13, 11] rfl (ww_aB11 cA a _ _)
      refine lv_iinc (v := (nI i) + 8) (lv' := [(4, .int ((nI i) + 8)), (0, .ref (a 0)), (1, .ref (a 3)), (2, .int a1), (3, .int c0)]) hx hb d_W_appendBits_44 hl (k := 4) rfl rfl (by decide) rfl (fun ls hl => ?_)
      refine lv_goto (tgt := 14) hx hb d_W_appendBits_47 (by decide) ?_
      subst ep_5
      have hl := lv_sub hl [1, 2, 3, 4, 0] rfl
      rw [show nI i + 8 = nI (i + 8) from nI_add i 8] at hl
      exact ih (i + 8) _ H locs ls (by omega) hF G hl
  exact lp (cnt8 c0) 0 _ _ _ ls (Nat.zero_add _) rfl G (lv_sub hl [1, 2, 3, 4, 0] rfl)

abbrev rm_W_appendNumbers : Room := { frames := 2, cells := 0, slots := 0, locals := 42 }
set_option maxHeartbeats 4000000 in
set_option maxRecDepth 100000 in
theorem c_W_appendNumbers3 (l : Launch) (D : va_G) (cA : ClassId) (a : Nat → Nat) (σ : St) (a1 c0 : Int32)  : Cv l y_W_appendNumbers w_W_appendNumbers rm_W_appendNumbers D vwCl [(cA, .int)] [.ref (a 0), .ref (a 5), .int a1, .int c0] (wW cA a σ) 0 0 (fun w0 => w0 = wW cA a (wNums σ 64 3 a1 c0)) := by
  refine Cv.of (Ts := lw_g) (own := "WireSlave") (cc := b_W_appendNumbers) (maxL := 6) (ret := none) (lv := [(0, .ref (a 0)), (1, .ref (a 5)), (2, .int a1), (3, .int c0)]) (by decide) rfl rfl (fun w h => List.mem_cons_of_mem _ h) (Nat.le_of_ble_eq_true rfl) rfl ?_
  intro pp ee ss mm args below meth cx AA S hr hlk hnm G ls hl
  have hx := S.1
  have hb := S.2.1
  refine lv_aload_n hx hb d_W_appendNumbers_0 rfl (lv_at hl 0 rfl) ?_
  refine g_get S G in_W 0 rfl rfl 6 (by decide) fl_W_50 rfl d_W_appendNumbers_1 ?_
  refine lv_iconst (v := 2) hx hb d_W_appendNumbers_4 (by decide) ?_
  refine lv_iload_n hx hb d_W_appendNumbers_5 rfl (lv_at hl 3 rfl) ?_
  refine lv_imul hx hb d_W_appendNumbers_6 ?_
  refine g_cVv (rest := []) S G (c_B_append l D cA (a 11) (a 12) 256 (σ 6) (σ 0 4) (2 * c0) (by decide)) (cwV 1 S.2.2.2.2 ml_W_95 rfl rfl rfl (by decide +kernel) ⟨Nat.le_of_ble_eq_true rfl, Nat.le_of_ble_eq_true rfl⟩) [11, 12] [0, 1, 2, 3, 4, 5, 6, 7, 8, 9, 10, 13] rfl rfl rfl rfl (by decide) 11 rfl rfl rfl hl.1 rfl (Nat.le_of_ble_eq_true rfl) d_W_appendNumbers_7 ⟨Nat.le_of_ble_eq_true rfl, Nat.le_of_ble_eq_true rfl⟩ (fun wp_1 H locs hp_1 G => ?_)
  subst hp_1
  have G := G.sub (ws' := wW cA a (wApA σ (2 * c0))) [0, 1, 2, 3, 4, 5, 6, 7, 8, 9, 10, 12, 13, 11] rfl (ww_aB11 cA a _ _)
  refine lv_iconst (v := 0) hx hb d_W_appendNumbers_10 (by decide) ?_
  refine lv_istore (lv' := [(4, .int 0), (0, .ref (a 0)), (1, .ref (a 5)), (2, .int a1), (3, .int c0)]) hx hb d_W_appendNumbers_11 hl (by decide) rfl (fun ls hl => ?_)
  have lp : ∀ (n : Nat) (i : Nat) (ρ : St) (H : Heap) (locs : List Loc) (ls : Array Slot), (i + n = c0.toNatClampNeg) → (apN 64 3 a1 n i ρ = wNums σ 64 3 a1 c0) → Gw D vwCl [(cA, .int)] AA ss ss.heap H locs (wW cA a (ρ)) → lv_has ls 6 [(0, .ref (a 0)), (1, .ref (a 5)), (2, .int a1), (3, .int c0), (4, .int (nI i))] → W pp l ee rm_W_appendNumbers ss mm args below meth cx H locs 0 0 (Zv D vwCl [(cA, .int)] AA ss args below 0 0 (fun w0 => w0 = wW cA a (wNums σ 64 3 a1 c0))) (F0 mm 13 ls []) := by
    intro n
    induction n with
    | zero =>
      intro i ρ H locs ls hi hF G hl
      refine lv_iload hx hb d_W_appendNumbers_13 (lv_at hl 4 rfl) ?_
      refine lv_iload_n hx hb d_W_appendNumbers_15 rfl (lv_at hl 3 rfl) ?_
      have k_2 : c0 ≤ (nI i) := by rw [show i = c0.toNatClampNeg from hi]; exact le_clamp _
      refine lv_icmp_ge (tgt := 60) hx hb d_W_appendNumbers_16 (by decide) (fun _ => ?_) (fun h9 => absurd k_2 h9)
      exact g_retv S hr hlk G (congrArg (wW cA a) hF) (Nat.le_refl _) (Nat.le_refl _) d_W_appendNumbers_60
    | succ n ih =>
      intro i ρ H locs ls hi hF G hl
      refine lv_iload hx hb d_W_appendNumbers_13 (lv_at hl 4 rfl) ?_
      refine lv_iload_n hx hb d_W_appendNumbers_15 rfl (lv_at hl 3 rfl) ?_
      have k_3 : ¬ (c0 ≤ (nI i)) := nle_clamp (by omega)
      refine lv_icmp_ge (tgt := 60) hx hb d_W_appendNumbers_16 (by decide) (fun h9 => absurd h9 k_3) (fun _ => ?_)
      refine lv_aload_n hx hb d_W_appendNumbers_19 rfl (lv_at hl 1 rfl) ?_
      refine lv_iload_n hx hb d_W_appendNumbers_20 rfl (lv_at hl 2 rfl) ?_
      refine lv_iload hx hb d_W_appendNumbers_21 (lv_at hl 4 rfl) ?_
      refine lv_iadd hx hb d_W_appendNumbers_23 ?_
      refine g_cVi (rest := []) S G (c_T_at l D cA (a 5) (a 6) 64 ((ρ) 3) 65535 (a1 + (nI i)) (by decide)) (cwV 1 S.2.2.2.2 ml_W_90 rfl rfl rfl (by decide +kernel) ⟨Nat.le_of_ble_eq_true rfl, Nat.le_of_ble_eq_true rfl⟩) [5, 6] [0, 1, 2, 3, 4, 7, 8, 9, 10, 11, 12, 13] rfl rfl rfl rfl (by decide) 5 rfl rfl rfl hl.1 rfl (Nat.le_of_ble_eq_true rfl) d_W_appendNumbers_24 ⟨Nat.le_of_ble_eq_true rfl, Nat.le_of_ble_eq_true rfl⟩ (fun rp_4 wp_4 H locs hp_4 G => ?_)
      obtain ⟨ep_4, rfl⟩ := hp_4
      have G := G.sub (ws' := wW cA a (ρ)) [0, 1, 2, 3, 4, 12, 13, 5, 6, 7, 8, 9, 10, 11] rfl (ww_T5 cA a _)
      refine lv_istore (lv' := [(5, .int rp_4), (0, .ref (a 0)), (1, .ref (a 5)), (2, .int a1), (3, .int c0), (4, .int (nI i))]) hx hb d_W_appendNumbers_27 hl (by decide) rfl (fun ls hl => ?_)
      refine lv_aload_n hx hb d_W_appendNumbers_29 rfl (lv_at hl 1 rfl) ?_
      refine g_get S G in_W 0 rfl rfl 6 (by decide) fl_W_50 rfl d_W_appendNumbers_30 ?_
      refine lv_iload hx hb d_W_appendNumbers_33 (lv_at hl 0 rfl) ?_
      refine lv_bipush (v := 8) hx hb d_W_appendNumbers_35 (by decide) ?_
      refine lv_iushr (v := ush rp_4 8) hx hb d_W_appendNumbers_37 rfl ?_
      refine g_cVv (rest := []) S G (c_B_append l D cA (a 11) (a 12) 256 ((ρ) 6) ((ρ) 0 4) (ush rp_4 8) (by decide)) (cwV 1 S.2.2.2.2 ml_W_95 rfl rfl rfl (by decide +kernel) ⟨Nat.le_of_ble_eq_true rfl, Nat.le_of_ble_eq_true rfl⟩) [11, 12] [0, 1, 2, 3, 4, 5, 6, 7, 8, 9, 10, 13] rfl rfl rfl rfl (by decide) 11 rfl rfl rfl hl.1 rfl (Nat.le_of_ble_eq_true rfl) d_W_appendNumbers_38 ⟨Nat.le_of_ble_eq_true rfl, Nat.le_of_ble_eq_true rfl⟩ (fun wp_5 H locs hp_5 G => ?_)
      subst hp_5
      have G := G.sub (ws' := wW cA a (wApA (ρ) (ush rp_4 8))) [0, 1, 2, 3, 4, 5, 6, 7, 8, 9, 10, 12, 13, 11] rfl (ww_aB11 cA a _ _)
      refine lv_aload_n hx hb d_W_appendNumbers_41 rfl (lv_at hl 1 rfl) ?_
      refine g_get S G in_W 0 rfl rfl 6 (by decide) fl_W_50 rfl d_W_appendNumbers_42 ?_
      refine lv_iload hx hb d_W_appendNumbers_45 (lv_at hl 0 rfl) ?_
      refine lv_sipush (v := 255) hx hb d_W_appendNumbers_47 (by decide) ?_
      refine lv_iand hx hb d_W_appendNumbers_50 ?_
      refine g_cVv (rest := []) S G (c_B_append l D cA (a 11) (a 12) 256 ((wApA (ρ) (ush rp_4 8)) 6) ((wApA (ρ) (ush rp_4 8)) 0 4) (rp_4 &&& 255) (by decide)) (cwV 1 S.2.2.2.2 ml_W_95 rfl rfl rfl (by decide +kernel) ⟨Nat.le_of_ble_eq_true rfl, Nat.le_of_ble_eq_true rfl⟩) [11, 12] [0, 1, 2, 3, 4, 5, 6, 7, 8, 9, 10, 13] rfl rfl rfl rfl (by decide) 11 rfl rfl rfl hl.1 rfl (Nat.le_of_ble_eq_true rfl) d_W_appendNumbers_51 ⟨Nat.le_of_ble_eq_true rfl, Nat.le_of_ble_eq_true rfl⟩ (fun wp_6 H locs hp_6 G => ?_)
      subst hp_6
      have G := G.sub (ws' := wW cA a (wApA (wApA (ρ) (ush rp_4 8)) (rp_4 &&& 255))) [0, 1, 2, 3, 4, 5, 6, 7, 8, 9, 10, 12, 13, 11] rfl (ww_aB11 cA a _ _)
      refine lv_iinc (v := (nI i) + 1) (lv' := [(4, .int ((nI i) + 1)), (5, .int rp_4), (0, .ref (a 0)), (1, .ref (a 5)), (2, .int a1), (3, .int c0)]) hx hb d_W_appendNumbers_54 hl (k := 5) rfl rfl (by decide) rfl (fun ls hl => ?_)
      refine lv_goto (tgt := 13) hx hb d_W_appendNumbers_57 (by decide) ?_
      subst ep_4
      have hl := lv_sub hl [2, 3, 4, 5, 0] rfl
      rw [nI_1] at hl
      exact ih (i + 1) _ H locs ls (by omega) hF G hl
  exact lp c0.toNatClampNeg 0 _ _ _ ls (Nat.zero_add _) rfl G (lv_sub hl [1, 2, 3, 4, 0] rfl)

set_option maxHeartbeats 4000000 in
set_option maxRecDepth 100000 in
theorem c_W_appendNumbers4 (l : Launch) (D : va_G) (cA : ClassId) (a : Nat → Nat) (σ : St) (a1 c0 : Int32)  : Cv l y_W_appendNumbers w_W_appendNumbers rm_W_appendNumbers D vwCl [(cA, .int)] [.ref (a 0), .ref (a 7), .int a1, .int c0] (wW cA a σ) 0 0 (fun w0 => w0 = wW cA a (wNums σ 64 4 a1 c0)) := by
  refine Cv.of (Ts := lw_g) (own := "WireSlave") (cc := b_W_appendNumbers) (maxL := 6) (ret := none) (lv := [(0, .ref (a 0)), (1, .ref (a 7)), (2, .int a1), (3, .int c0)]) (by decide) rfl rfl (fun w h => List.mem_cons_of_mem _ h) (Nat.le_of_ble_eq_true rfl) rfl ?_
  intro pp ee ss mm args below meth cx AA S hr hlk hnm G ls hl
  have hx := S.1
  have hb := S.2.1
  refine lv_aload_n hx hb d_W_appendNumbers_0 rfl (lv_at hl 0 rfl) ?_
  refine g_get S G in_W 0 rfl rfl 6 (by decide) fl_W_50 rfl d_W_appendNumbers_1 ?_
  refine lv_iconst (v := 2) hx hb d_W_appendNumbers_4 (by decide) ?_
  refine lv_iload_n hx hb d_W_appendNumbers_5 rfl (lv_at hl 3 rfl) ?_
  refine lv_imul hx hb d_W_appendNumbers_6 ?_
  refine g_cVv (rest := []) S G (c_B_append l D cA (a 11) (a 12) 256 (σ 6) (σ 0 4) (2 * c0) (by decide)) (cwV 1 S.2.2.2.2 ml_W_95 rfl rfl rfl (by decide +kernel) ⟨Nat.le_of_ble_eq_true rfl, Nat.le_of_ble_eq_true rfl⟩) [11, 12] [0, 1, 2, 3, 4, 5, 6, 7, 8, 9, 10, 13] rfl rfl rfl rfl (by decide) 11 rfl rfl rfl hl.1 rfl (Nat.le_of_ble_eq_true rfl) d_W_appendNumbers_7 ⟨Nat.le_of_ble_eq_true rfl, Nat.le_of_ble_eq_true rfl⟩ (fun wp_1 H locs hp_1 G => ?_)
  subst hp_1
  have G := G.sub (ws' := wW cA a (wApA σ (2 * c0))) [0, 1, 2, 3, 4, 5, 6, 7, 8, 9, 10, 12, 13, 11] rfl (ww_aB11 cA a _ _)
  refine lv_iconst (v := 0) hx hb d_W_appendNumbers_10 (by decide) ?_
  refine lv_istore (lv' := [(4, .int 0), (0, .ref (a 0)), (1, .ref (a 7)), (2, .int a1), (3, .int c0)]) hx hb d_W_appendNumbers_11 hl (by decide) rfl (fun ls hl => ?_)
  have lp : ∀ (n : Nat) (i : Nat) (ρ : St) (H : Heap) (locs : List Loc) (ls : Array Slot), (i + n = c0.toNatClampNeg) → (apN 64 4 a1 n i ρ = wNums σ 64 4 a1 c0) → Gw D vwCl [(cA, .int)] AA ss ss.heap H locs (wW cA a (ρ)) → lv_has ls 6 [(0, .ref (a 0)), (1, .ref (a 7)), (2, .int a1), (3, .int c0), (4, .int (nI i))] → W pp l ee rm_W_appendNumbers ss mm args below meth cx H locs 0 0 (Zv D vwCl [(cA, .int)] AA ss args below 0 0 (fun w0 => w0 = wW cA a (wNums σ 64 4 a1 c0))) (F0 mm 13 ls []) := by
    intro n
    induction n with
    | zero =>
      intro i ρ H locs ls hi hF G hl
      refine lv_iload hx hb d_W_appendNumbers_13 (lv_at hl 4 rfl) ?_
      refine lv_iload_n hx hb d_W_appendNumbers_15 rfl (lv_at hl 3 rfl) ?_
      have k_2 : c0 ≤ (nI i) := by rw [show i = c0.toNatClampNeg from hi]; exact le_clamp _
      refine lv_icmp_ge (tgt := 60) hx hb d_W_appendNumbers_16 (by decide) (fun _ => ?_) (fun h9 => absurd k_2 h9)
      exact g_retv S hr hlk G (congrArg (wW cA a) hF) (Nat.le_refl _) (Nat.le_refl _) d_W_appendNumbers_60
    | succ n ih =>
      intro i ρ H locs ls hi hF G hl
      refine lv_iload hx hb d_W_appendNumbers_13 (lv_at hl 4 rfl) ?_
      refine lv_iload_n hx hb d_W_appendNumbers_15 rfl (lv_at hl 3 rfl) ?_
      have k_3 : ¬ (c0 ≤ (nI i)) := nle_clamp (by omega)
      refine lv_icmp_ge (tgt := 60) hx hb d_W_appendNumbers_16 (by decide) (fun h9 => absurd h9 k_3) (fun _ => ?_)
      refine lv_aload_n hx hb d_W_appendNumbers_19 rfl (lv_at hl 1 rfl) ?_
      refine lv_iload_n hx hb d_W_appendNumbers_20 rfl (lv_at hl 2 rfl) ?_
      refine lv_iload hx hb d_W_appendNumbers_21 (lv_at hl 4 rfl) ?_
      refine lv_iadd hx hb d_W_appendNumbers_23 ?_
      refine g_cVi (rest := []) S G (c_T_at l D cA (a 7) (a 8) 64 ((ρ) 4) 65535 (a1 + (nI i)) (by decide)) (cwV 1 S.2.2.2.2 ml_W_90 rfl rfl rfl (by decide +kernel) ⟨Nat.le_of_ble_eq_true rfl, Nat.le_of_ble_eq_true rfl⟩) [7, 8] [0, 1, 2, 3, 4, 5, 6, 9, 10, 11, 12, 13] rfl rfl rfl rfl (by decide) 7 rfl rfl rfl hl.1 rfl (Nat.le_of_ble_eq_true rfl) d_W_appendNumbers_24 ⟨Nat.le_of_ble_eq_true rfl, Nat.le_of_ble_eq_true rfl⟩ (fun rp_4 wp_4 H locs hp_4 G => ?_)
      obtain ⟨ep_4, rfl⟩ := hp_4
      have G := G.sub (ws' := wW cA a (ρ)) [0, 1, 2, 3, 4, 5, 6, 12, 13, 7, 8, 9, 10, 11] rfl (ww_T7 cA a _)
      refine lv_istore (lv' := [(5, .int rp_4), (0, .ref (a 0)), (1, .ref (a 7)), (2, .int a1), (3, .int c0), (4, .int (nI i))]) hx hb d_W_appendNumbers_27 hl (by decide) rfl (fun ls hl => ?_)
      refine lv_aload_n hx hb d_W_appendNumbers_29 rfl (lv_at hl 1 rfl) ?_
      refine g_get S G in_W 0 rfl rfl 6 (by decide) fl_W_50 rfl d_W_appendNumbers_30 ?_
      refine lv_iload hx hb d_W_appendNumbers_33 (lv_at hl 0 rfl) ?_
      refine lv_bipush (v := 8) hx hb d_W_appendNumbers_35 (by decide) ?_
      refine lv_iushr (v := ush rp_4 8) hx hb d_W_appendNumbers_37 rfl ?_
      refine g_cVv (rest := []) S G (c_B_append l D cA (a 11) (a 12) 256 ((ρ) 6) ((ρ) 0 4) (ush rp_4 8) (by decide)) (cwV 1 S.2.2.2.2 ml_W_95 rfl rfl rfl (by decide +kernel) ⟨Nat.le_of_ble_eq_true rfl, Nat.le_of_ble_eq_true rfl⟩) [11, 12] [0, 1, 2, 3, 4, 5, 6, 7, 8, 9, 10, 13] rfl rfl rfl rfl (by decide) 11 rfl rfl rfl hl.1 rfl (Nat.le_of_ble_eq_true rfl) d_W_appendNumbers_38 ⟨Nat.le_of_ble_eq_true rfl, Nat.le_of_ble_eq_true rfl⟩ (fun wp_5 H locs hp_5 G => ?_)
      subst hp_5
      have G := G.sub (ws' := wW cA a (wApA (ρ) (ush rp_4 8))) [0, 1, 2, 3, 4, 5, 6, 7, 8, 9, 10, 12, 13, 11] rfl (ww_aB11 cA a _ _)
      refine lv_aload_n hx hb d_W_appendNumbers_41 rfl (lv_at hl 1 rfl) ?_
      refine g_get S G in_W 0 rfl rfl 6 (by decide) fl_W_50 rfl d_W_appendNumbers_42 ?_
      refine lv_iload hx hb d_W_appendNumbers_45 (lv_at hl 0 rfl) ?_
      refine lv_sipush (v := 255) hx hb d_W_appendNumbers_47 (by decide) ?_
      refine lv_iand hx hb d_W_appendNumbers_50 ?_
      refine g_cVv (rest := []) S G (c_B_append l D cA (a 11) (a 12) 256 ((wApA (ρ) (ush rp_4 8)) 6) ((wApA (ρ) (ush rp_4 8)) 0 4) (rp_4 &&& 255) (by decide)) (cwV 1 S.2.2.2.2 ml_W_95 rfl rfl rfl (by decide +kernel) ⟨Nat.le_of_ble_eq_true rfl, Nat.le_of_ble_eq_true rfl⟩) [11, 12] [0, 1, 2, 3, 4, 5, 6, 7, 8, 9, 10, 13] rfl rfl rfl rfl (by decide) 11 rfl rfl rfl hl.1 rfl (Nat.le_of_ble_eq_true rfl) d_W_appendNumbers_51 ⟨Nat.le_of_ble_eq_true rfl, Nat.le_of_ble_eq_true rfl⟩ (fun wp_6 H locs hp_6 G => ?_)
      subst hp_6
      have G := G.sub (ws' := wW cA a (wApA (wApA (ρ) (ush rp_4 8)) (rp_4 &&& 255))) [0, 1, 2, 3, 4, 5, 6, 7, 8, 9, 10, 12, 13, 11] rfl (ww_aB11 cA a _ _)
      refine lv_iinc (v := (nI i) + 1) (lv' := [(4, .int ((nI i) + 1)), (5, .int rp_4), (0, .ref (a 0)), (1, .ref (a 7)), (2, .int a1), (3, .int c0)]) hx hb d_W_appendNumbers_54 hl (k := 5) rfl rfl (by decide) rfl (fun ls hl => ?_)
      refine lv_goto (tgt := 13) hx hb d_W_appendNumbers_57 (by decide) ?_
      subst ep_4
      have hl := lv_sub hl [2, 3, 4, 5, 0] rfl
      rw [nI_1] at hl
      exact ih (i + 1) _ H locs ls (by omega) hF G hl
  exact lp c0.toNatClampNeg 0 _ _ _ ls (Nat.zero_add _) rfl G (lv_sub hl [1, 2, 3, 4, 0] rfl)

abbrev rm_W_appendEcho : Room := { frames := 2, cells := 0, slots := 0, locals := 42 }
set_option maxHeartbeats 4000000 in
set_option maxRecDepth 100000 in
theorem c_W_appendEcho (l : Launch) (D : va_G) (cA : ClassId) (a : Nat → Nat) (σ : St)  : Cv l y_W_appendEcho w_W_appendEcho rm_W_appendEcho D vwCl [(cA, .int)] [.ref (a 0)] (wW cA a σ) 0 0 (fun w0 => w0 = wW cA a (wEcho 4 0 σ)) := by
  refine Cv.of (Ts := lw_g) (own := "WireSlave") (cc := b_W_appendEcho) (maxL := 2) (ret := none) (lv := [(0, .ref (a 0))]) (by decide) rfl rfl (fun w h => List.mem_cons_of_mem _ h) (Nat.le_of_ble_eq_true rfl) rfl ?_
  intro pp ee ss mm args below meth cx AA S hr hlk hnm G ls hl
  have hx := S.1
  have hb := S.2.1
  refine lv_iconst (v := 0) hx hb d_W_appendEcho_0 (by decide) ?_
  refine lv_istore_n (lv' := [(1, .int 0), (0, .ref (a 0))]) hx hb d_W_appendEcho_1 rfl hl (by decide) rfl (fun ls hl => ?_)
  have lp : ∀ (n : Nat) (i : Nat) (ρ : St) (H : Heap) (locs : List Loc) (ls : Array Slot), (i + n = 4) → (wEcho n i ρ = wEcho 4 0 σ) → Gw D vwCl [(cA, .int)] AA ss ss.heap H locs (wW cA a (ρ)) → lv_has ls 2 [(0, .ref (a 0)), (1, .int (nI i))] → W pp l ee rm_W_appendEcho ss mm args below meth cx H locs 0 0 (Zv D vwCl [(cA, .int)] AA ss args below 0 0 (fun w0 => w0 = wW cA a (wEcho 4 0 σ))) (F0 mm 2 ls []) := by
    intro n
    induction n with
    | zero =>
      intro i ρ H locs ls hi hF G hl
      refine lv_iload_n hx hb d_W_appendEcho_2 rfl (lv_at hl 1 rfl) ?_
      refine lv_iconst (v := 4) hx hb d_W_appendEcho_3 (by decide) ?_
      have k_1 : 4 ≤ (nI i) := by rw [show i = 4 from hi]; decide
      refine lv_icmp_ge (tgt := 25) hx hb d_W_appendEcho_4 (by decide) (fun _ => ?_) (fun h9 => absurd k_1 h9)
      exact g_retv S hr hlk G (congrArg (wW cA a) hF) (Nat.le_refl _) (Nat.le_refl _) d_W_appendEcho_25
    | succ n ih =>
      intro i ρ H locs ls hi hF G hl
      refine lv_iload_n hx hb d_W_appendEcho_2 rfl (lv_at hl 1 rfl) ?_
      refine lv_iconst (v := 4) hx hb d_W_appendEcho_3 (by decide) ?_
      have k_2 : ¬ (4 ≤ (nI i)) := nI_ge (b := 4) (by omega) (by decide)
      refine lv_icmp_ge (tgt := 25) hx hb d_W_appendEcho_4 (by decide) (fun h9 => absurd h9 k_2) (fun _ => ?_)
      refine lv_aload_n hx hb d_W_appendEcho_7 rfl (lv_at hl 0 rfl) ?_
      refine g_get S G in_W 0 rfl rfl 6 (by decide) fl_W_50 rfl d_W_appendEcho_8 ?_
      refine lv_aload_n hx hb d_W_appendEcho_11 rfl (lv_at hl 0 rfl) ?_
      refine lv_iload_n hx hb d_W_appendEcho_12 rfl (lv_at hl 1 rfl) ?_
      refine g_cVi (rest := [.ref (a 11)]) S G (c_W_data l D cA a (ρ) (nI i)) (cwV 1 S.2.2.2.2 ml_W_121 rfl rfl rfl (by decide +kernel) ⟨Nat.le_of_ble_eq_true rfl, Nat.le_of_ble_eq_true rfl⟩) [0, 1, 2, 3, 4, 5, 6, 7, 8, 9, 10, 11, 12, 13] [] rfl rfl rfl rfl (by decide) 0 rfl rfl rfl hl.1 rfl (Nat.le_of_ble_eq_true rfl) d_W_appendEcho_13 ⟨Nat.le_of_ble_eq_true rfl, Nat.le_of_ble_eq_true rfl⟩ (fun rp_3 wp_3 H locs hp_3 G => ?_)
      obtain ⟨rfl, rfl⟩ := hp_3
      have G : Gw D vwCl [(cA, .int)] AA ss ss.heap H locs (wW cA a (ρ)) := G
      refine g_cVv (rest := []) S G (c_B_append l D cA (a 11) (a 12) 256 ((ρ) 6) ((ρ) 0 4) (dAt (ρ) (nI i)) (by decide)) (cwV 1 S.2.2.2.2 ml_W_95 rfl rfl rfl (by decide +kernel) ⟨Nat.le_of_ble_eq_true rfl, Nat.le_of_ble_eq_true rfl⟩) [11, 12] [0, 1, 2, 3, 4, 5, 6, 7, 8, 9, 10, 13] rfl rfl rfl rfl (by decide) 11 rfl rfl rfl hl.1 rfl (Nat.le_of_ble_eq_true rfl) d_W_appendEcho_16 ⟨Nat.le_of_ble_eq_true rfl, Nat.le_of_ble_eq_true rfl⟩ (fun wp_4 H locs hp_4 G => ?_)
      subst hp_4
      have G := G.sub (ws' := wW cA a (wApA (ρ) (dAt (ρ) (nI i)))) [0, 1, 2, 3, 4, 5, 6, 7, 8, 9, 10, 12, 13, 11] rfl (ww_aB11 cA a _ _)
      refine lv_iinc (v := (nI i) + 1) (lv' := [(1, .int ((nI i) + 1)), (0, .ref (a 0))]) hx hb d_W_appendEcho_19 hl (k := 1) rfl rfl (by decide) rfl (fun ls hl => ?_)
      refine lv_goto (tgt := 2) hx hb d_W_appendEcho_22 (by decide) ?_
      have hl := lv_sub hl [1, 0] rfl
      rw [nI_1] at hl
      exact ih (i + 1) _ H locs ls (by omega) hF G hl
  exact lp 4 0 σ _ _ ls rfl rfl G (lv_sub hl [1, 0] rfl)

abbrev rm_W_appendResult : Room := { frames := 4, cells := 0, slots := 0, locals := 90 }
set_option maxHeartbeats 4000000 in
set_option maxRecDepth 100000 in
theorem c_W_appendResult (l : Launch) (D : va_G) (cA : ClassId) (a : Nat → Nat) (σ : St) (f a1 n : Int32) (hq : f = 1 ∨ f = 2 → n.toNatClampNeg ≤ 1073741824) : Cv l y_W_appendResult w_W_appendResult rm_W_appendResult D vwCl [(cA, .int)] [.ref (a 0), .int f, .int a1, .int n] (wW cA a σ) 0 0 (fun w0 => w0 = wW cA a (wRes σ f a1 n)) := by
  refine Cv.of (Ts := lw_g) (own := "WireSlave") (cc := b_W_appendResult) (maxL := 4) (ret := none) (lv := [(0, .ref (a 0)), (1, .int f), (2, .int a1), (3, .int n)]) (by decide) rfl rfl (fun w h => List.mem_cons_of_mem _ h) (Nat.le_of_ble_eq_true rfl) rfl ?_
  intro pp ee ss mm args below meth cx AA S hr hlk hnm G ls hl
  have hx := S.1
  have hb := S.2.1
  refine lv_iload_n hx hb d_W_appendResult_0 rfl (lv_at hl 1 rfl) ?_
  by_cases c_1 : f = 1
  · refine lv_tableIn (tgt := 32) hx hb d_W_appendResult_1 (by rw [c_1]; decide) (by rw [c_1]; decide) (by rw [c_1]; rfl) (by decide) ?_
    refine lv_aload_n hx hb d_W_appendResult_32 rfl (lv_at hl 0 rfl) ?_
    refine lv_aload_n hx hb d_W_appendResult_33 rfl (lv_at hl 0 rfl) ?_
    refine g_get S G in_W 0 rfl rfl 1 (by decide) fl_W_27 rfl d_W_appendResult_34 ?_
    refine lv_iload_n hx hb d_W_appendResult_37 rfl (lv_at hl 2 rfl) ?_
    refine lv_iload_n hx hb d_W_appendResult_38 rfl (lv_at hl 3 rfl) ?_
    refine g_cVv (rest := []) S G (c_W_appendBits1 l D cA a σ a1 n (hq (Or.inl c_1))) (cwV 3 S.2.2.2.2 ml_W_169 rfl rfl rfl (by decide +kernel) ⟨Nat.le_of_ble_eq_true rfl, Nat.le_of_ble_eq_true rfl⟩) [0, 1, 2, 3, 4, 5, 6, 7, 8, 9, 10, 11, 12, 13] [] rfl rfl rfl rfl (by decide) 0 rfl rfl rfl hl.1 rfl (Nat.le_of_ble_eq_true rfl) d_W_appendResult_39 ⟨Nat.le_of_ble_eq_true rfl, Nat.le_of_ble_eq_true rfl⟩ (fun wp_2 H locs hp_2 G => ?_)
    subst hp_2
    have G : Gw D vwCl [(cA, .int)] AA ss ss.heap H locs (wW cA a (wBits σ 256 1 a1 n)) := G
    refine lv_goto (tgt := 88) hx hb d_W_appendResult_42 (by decide) ?_
    exact g_retv S hr hlk G (by first | rfl | (simp only [wRes, eq_true c_1, ↓reduceIte]; done) | (simp only [wRes, eq_true c_1, ↓reduceIte]; rfl)) (Nat.le_refl _) (Nat.le_refl _) d_W_appendResult_88
  by_cases c_3 : f = 2
  · refine lv_tableIn (tgt := 45) hx hb d_W_appendResult_1 (by rw [c_3]; decide) (by rw [c_3]; decide) (by rw [c_3]; rfl) (by decide) ?_
    refine lv_aload_n hx hb d_W_appendResult_45 rfl (lv_at hl 0 rfl) ?_
    refine lv_aload_n hx hb d_W_appendResult_46 rfl (lv_at hl 0 rfl) ?_
    refine g_get S G in_W 0 rfl rfl 2 (by decide) fl_W_31 rfl d_W_appendResult_47 ?_
    refine lv_iload_n hx hb d_W_appendResult_50 rfl (lv_at hl 2 rfl) ?_
    refine lv_iload_n hx hb d_W_appendResult_51 rfl (lv_at hl 3 rfl) ?_
    refine g_cVv (rest := []) S G (c_W_appendBits2 l D cA a σ a1 n (hq (Or.inr c_3))) (cwV 3 S.2.2.2.2 ml_W_169 rfl rfl rfl (by decide +kernel) ⟨Nat.le_of_ble_eq_true rfl, Nat.le_of_ble_eq_true rfl⟩) [0, 1, 2, 3, 4, 5, 6, 7, 8, 9, 10, 11, 12, 13] [] rfl rfl rfl rfl (by decide) 0 rfl rfl rfl hl.1 rfl (Nat.le_of_ble_eq_true rfl) d_W_appendResult_52 ⟨Nat.le_of_ble_eq_true rfl, Nat.le_of_ble_eq_true rfl⟩ (fun wp_4 H locs hp_4 G => ?_)
    subst hp_4
    have G : Gw D vwCl [(cA, .int)] AA ss ss.heap H locs (wW cA a (wBits σ 256 2 a1 n)) := G
    refine lv_goto (tgt := 88) hx hb d_W_appendResult_55 (by decide) ?_
    exact g_retv S hr hlk G (by first | rfl | (simp only [wRes, eq_false c_1, eq_true c_3, ↓reduceIte]; done) | (simp only [wRes, eq_false c_1, eq_true c_3, ↓reduceIte]; rfl)) (Nat.le_refl _) (Nat.le_refl _) d_W_appendResult_88
  by_cases c_5 : f = 3
  · refine lv_tableIn (tgt := 58) hx hb d_W_appendResult_1 (by rw [c_5]; decide) (by rw [c_5]; decide) (by rw [c_5]; rfl) (by decide) ?_
    refine lv_aload_n hx hb d_W_appendResult_58 rfl (lv_at hl 0 rfl) ?_
    refine lv_aload_n hx hb d_W_appendResult_59 rfl (lv_at hl 0 rfl) ?_
    refine g_get S G in_W 0 rfl rfl 3 (by decide) fl_W_35 rfl d_W_appendResult_60 ?_
    refine lv_iload_n hx hb d_W_appendResult_63 rfl (lv_at hl 2 rfl) ?_
    refine lv_iload_n hx hb d_W_appendResult_64 rfl (lv_at hl 3 rfl) ?_
    refine g_cVv (rest := []) S G (c_W_appendNumbers3 l D cA a σ a1 n) (cwV 3 S.2.2.2.2 ml_W_173 rfl rfl rfl (by decide +kernel) ⟨Nat.le_of_ble_eq_true rfl, Nat.le_of_ble_eq_true rfl⟩) [0, 1, 2, 3, 4, 5, 6, 7, 8, 9, 10, 11, 12, 13] [] rfl rfl rfl rfl (by decide) 0 rfl rfl rfl hl.1 rfl (Nat.le_of_ble_eq_true rfl) d_W_appendResult_65 ⟨Nat.le_of_ble_eq_true rfl, Nat.le_of_ble_eq_true rfl⟩ (fun wp_6 H locs hp_6 G => ?_)
    subst hp_6
    have G : Gw D vwCl [(cA, .int)] AA ss ss.heap H locs (wW cA a (wNums σ 64 3 a1 n)) := G
    refine lv_goto (tgt := 88) hx hb d_W_appendResult_68 (by decide) ?_
    exact g_retv S hr hlk G (by first | rfl | (simp only [wRes, eq_false c_1, eq_false c_3, eq_true c_5, ↓reduceIte]; done) | (simp only [wRes, eq_false c_1, eq_false c_3, eq_true c_5, ↓reduceIte]; rfl)) (Nat.le_refl _) (Nat.le_refl _) d_W_appendResult_88
  by_cases c_7 : f = 4
  · refine lv_tableIn (tgt := 71) hx hb d_W_appendResult_1 (by rw [c_7]; decide) (by rw [c_7]; decide) (by rw [c_7]; rfl) (by decide) ?_
    refine lv_aload_n hx hb d_W_appendResult_71 rfl (lv_at hl 0 rfl) ?_
    refine lv_aload_n hx hb d_W_appendResult_72 rfl (lv_at hl 0 rfl) ?_
    refine g_get S G in_W 0 rfl rfl 4 (by decide) fl_W_38 rfl d_W_appendResult_73 ?_
    refine lv_iload_n hx hb d_W_appendResult_76 rfl (lv_at hl 2 rfl) ?_
    refine lv_iload_n hx hb d_W_appendResult_77 rfl (lv_at hl 3 rfl) ?_
    refine g_cVv (rest := []) S G (c_W_appendNumbers4 l D cA a σ a1 n) (cwV 3 S.2.2.2.2 ml_W_173 rfl rfl rfl (by decide +kernel) ⟨Nat.le_of_ble_eq_true rfl, Nat.le_of_ble_eq_true rfl⟩) [0, 1, 2, 3, 4, 5, 6, 7, 8, 9, 10, 11, 12, 13] [] rfl rfl rfl rfl (by decide) 0 rfl rfl rfl hl.1 rfl (Nat.le_of_ble_eq_true rfl) d_W_appendResult_78 ⟨Nat.le_of_ble_eq_true rfl, Nat.le_of_ble_eq_true rfl⟩ (fun wp_8 H locs hp_8 G => ?_)
    subst hp_8
    have G : Gw D vwCl [(cA, .int)] AA ss ss.heap H locs (wW cA a (wNums σ 64 4 a1 n)) := G
    refine lv_goto (tgt := 88) hx hb d_W_appendResult_81 (by decide) ?_
    exact g_retv S hr hlk G (by first | rfl | (simp only [wRes, eq_false c_1, eq_false c_3, eq_false c_5, eq_true c_7, ↓reduceIte]; done) | (simp only [wRes, eq_false c_1, eq_false c_3, eq_false c_5, eq_true c_7, ↓reduceIte]; rfl)) (Nat.le_refl _) (Nat.le_refl _) d_W_appendResult_88
  have nc_1 := lv_neT c_1 (a := 1) (by decide)
  have nc_3 := lv_neT c_3 (a := 2) (by decide)
  have nc_5 := lv_neT c_5 (a := 3) (by decide)
  have nc_7 := lv_neT c_7 (a := 4) (by decide)
  refine g_table (tgt := 84) (off := 83) hx hb d_W_appendResult_1 ?_ (by decide) ?_
  · exact if_pos (show (f.toInt < 1 ∨ 4 < f.toInt) by omega)
  refine lv_aload_n hx hb d_W_appendResult_84 rfl (lv_at hl 0 rfl) ?_
  refine g_cVv (rest := []) S G (c_W_appendEcho l D cA a σ) (cwV 0 S.2.2.2.2 ml_W_176 rfl rfl rfl (by decide +kernel) ⟨Nat.le_of_ble_eq_true rfl, Nat.le_of_ble_eq_true rfl⟩) [0, 1, 2, 3, 4, 5, 6, 7, 8, 9, 10, 11, 12, 13] [] rfl rfl rfl rfl (by decide) 0 rfl rfl rfl hl.1 rfl (Nat.le_of_ble_eq_true rfl) d_W_appendResult_85 ⟨Nat.le_of_ble_eq_true rfl, Nat.le_of_ble_eq_true rfl⟩ (fun wp_9 H locs hp_9 G => ?_)
  subst hp_9
  have G : Gw D vwCl [(cA, .int)] AA ss ss.heap H locs (wW cA a (wEcho 4 0 σ)) := G
  exact g_retv S hr hlk G (by first | rfl | (simp only [wRes, eq_false c_1, eq_false c_3, eq_false c_5, eq_false c_7, ↓reduceIte]; done) | (simp only [wRes, eq_false c_1, eq_false c_3, eq_false c_5, eq_false c_7, ↓reduceIte]; rfl)) (Nat.le_refl _) (Nat.le_refl _) d_W_appendResult_88
