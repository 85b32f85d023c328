abbrev rm_M_why : Room := { frames := 2, cells := 0, slots := 0, locals := 42 }
set_option maxHeartbeats 1000000 in
set_option maxRecDepth 100000 in
theorem c_M_why1 (l : Launch) (D : va_G) (cA : ClassId) (a : Nat → Nat) (τ : St) (len : Int32)  : Ci l y_M_why w_M_why rm_M_why D vwCl [(cA, .int)] [.ref (a 0), .int 1, .int len] (wM cA a τ) 0 0 (fun r0 w0 => r0 = mWA (τ 5) len 2000 256 ∧ w0 = wM cA a τ) := by
  refine Ci.of (Ts := lw_g) (own := "WireSlaveModel") (cc := b_M_why) (maxL := 7) (ret := (some .int)) (lv := [(0, .ref (a 0)), (1, .int 1), (2, .int len)]) (by decide) rfl rfl (fun w h => List.mem_cons_of_mem _ h) (Nat.le_of_ble_eq_true rfl) rfl ?_
  intro pp ee ss mm args below meth cx AA S hr hlk G ls hl
  have hx := S.1
  have hb := S.2.1
  refine lv_iload_n hx hb d_M_why_0 rfl (lv_at hl 1 rfl) ?_
  refine lv_iconst (v := 1) hx hb d_M_why_1 (by decide) ?_
  have k_1 : ¬ ((1 : Int32) < 1) := by decide
  refine lv_icmp_lt (tgt := 11) hx hb d_M_why_2 (by decide) (fun h9 => absurd h9 k_1) (fun _ => ?_)
  refine lv_iload_n hx hb d_M_why_5 rfl (lv_at hl 1 rfl) ?_
  refine lv_bipush (v := 6) hx hb d_M_why_6 (by decide) ?_
  have k_2 : (1 : Int32) ≤ 6 := by decide
  refine lv_icmp_le (tgt := 23) hx hb d_M_why_8 (by decide) (fun _ => ?_) (fun h9 => absurd k_2 h9)
  refine lv_iconst (v := 1) hx hb d_M_why_23 (by decide) ?_
  refine lv_goto (tgt := 28) hx hb d_M_why_24 (by decide) ?_
  refine lv_istore_n (lv' := [(3, .int 1), (0, .ref (a 0)), (1, .int 1), (2, .int len)]) hx hb d_M_why_28 rfl hl (by decide) rfl (fun ls hl => ?_)
  refine lv_iload_n hx hb d_M_why_29 rfl (lv_at hl 0 rfl) ?_
  have k_3 : ¬ ((1 : Int32) = 0) := by decide
  refine lv_if_ne (tgt := 35) hx hb d_M_why_30 (by decide) (fun _ => ?_) (fun h9 => absurd h9 k_3)
  refine lv_iload_n hx hb d_M_why_35 rfl (lv_at hl 2 rfl) ?_
  refine lv_bipush (v := 7) hx hb d_M_why_36 (by decide) ?_
  have k_4 : ¬ ((7 : Int32) ≤ 1) := by decide
  refine lv_icmp_ge (tgt := 49) hx hb d_M_why_38 (by decide) (fun h9 => absurd h9 k_4) (fun _ => ?_)
  refine lv_iload_n hx hb d_M_why_41 rfl (lv_at hl 3 rfl) ?_
  refine lv_iconst (v := 4) hx hb d_M_why_42 (by decide) ?_
  refine lv_icmp_eq (tgt := 68) hx hb d_M_why_43 (by decide) (fun c_5 => ?_) (fun c_5 => ?_)
  · refine lv_aload_n hx hb d_M_why_68 rfl (lv_at hl 1 rfl) ?_
    refine lv_iconst (v := 2) hx hb d_M_why_69 (by decide) ?_
    refine g_cVi (rest := []) S G (c_M_two l D cA a τ 2 (by unfold vp_in; decide) (by unfold vp_in; decide)) (cwV 1 S.2.2.2.2 ml_M_87 rfl rfl rfl (by decide +kernel) ⟨Nat.le_of_ble_eq_true rfl, Nat.le_of_ble_eq_true rfl⟩) [0, 1, 2, 3, 4, 5, 6, 7] [] rfl rfl rfl rfl (by decide) 0 rfl rfl rfl hl.1 rfl (Nat.le_of_ble_eq_true rfl) d_M_why_70 ⟨Nat.le_of_ble_eq_true rfl, Nat.le_of_ble_eq_true rfl⟩ (fun rp_6 wp_6 H locs hp_6 G => ?_)
    obtain ⟨ep_6, rfl⟩ := hp_6
    have ep_6 : rp_6 = mTwo (τ 5) 2 := ep_6
    replace ep_6 := ep_6.symm
    subst ep_6
    have G : Gw D vwCl [(cA, .int)] AA ss ss.heap H locs (wM cA a τ) := G
    refine lv_istore (lv' := [(4, .int (mTwo (τ 5) 2)), (3, .int 1), (0, .ref (a 0)), (1, .int 1), (2, .int len)]) hx hb d_M_why_73 hl (by decide) rfl (fun ls hl => ?_)
    refine lv_iload_n hx hb d_M_why_75 rfl (lv_at hl 3 rfl) ?_
    refine lv_tableIn (tgt := 156) hx hb d_M_why_76 (by decide) (by decide) (by rfl) (by decide) ?_
    refine lv_iload hx hb d_M_why_156 (lv_at hl 0 rfl) ?_
    refine lv_iconst (v := 1) hx hb d_M_why_158 (by decide) ?_
    refine lv_icmp_lt (tgt := 170) hx hb d_M_why_159 (by decide) (fun c_7 => ?_) (fun c_7 => ?_)
    · refine lv_iconst (v := 1) hx hb d_M_why_170 (by decide) ?_
      refine lv_goto (tgt := 175) hx hb d_M_why_171 (by decide) ?_
      refine lv_istore (lv' := [(5, .int 1), (4, .int (mTwo (τ 5) 2)), (3, .int 1), (0, .ref (a 0)), (1, .int 1), (2, .int len)]) hx hb d_M_why_175 hl (by decide) rfl (fun ls hl => ?_)
      refine lv_goto (tgt := 303) hx hb d_M_why_177 (by decide) ?_
      refine lv_iload hx hb d_M_why_303 (lv_at hl 0 rfl) ?_
      refine lv_if_eq (tgt := 310) hx hb d_M_why_305 (by decide) (fun h9 => absurd h9 k_3) (fun _ => ?_)
      refine lv_iconst (v := 3) hx hb d_M_why_308 (by decide) ?_
      exact g_reti S hr hlk G ⟨by first | (simp only [mWA, mPl, eq_false k_1, eq_true k_2, eq_false k_3, eq_false k_4, eq_true c_5, eq_true c_7, i10, ↓reduceIte]; done) | (simp only [mWA, mPl, eq_false k_1, eq_true k_2, eq_false k_3, eq_false k_4, eq_true c_5, eq_true c_7, i10, ↓reduceIte]; rfl) | rfl, congrArg (wM cA a) (by first | (simp only [mWA, mPl, eq_false k_1, eq_true k_2, eq_false k_3, eq_false k_4, eq_true c_5, eq_true c_7, i10, ↓reduceIte]; done) | (simp only [mWA, mPl, eq_false k_1, eq_true k_2, eq_false k_3, eq_false k_4, eq_true c_5, eq_true c_7, i10, ↓reduceIte]; rfl) | rfl)⟩ (Nat.le_refl _) (Nat.le_refl _) d_M_why_309
    · refine lv_iload hx hb d_M_why_162 (lv_at hl 0 rfl) ?_
      refine lv_sipush (v := 2000) hx hb d_M_why_164 (by decide) ?_
      refine lv_icmp_le (tgt := 174) hx hb d_M_why_167 (by decide) (fun c_8 => ?_) (fun c_8 => ?_)
      · refine lv_iconst (v := 0) hx hb d_M_why_174 (by decide) ?_
        refine lv_istore (lv' := [(5, .int 0), (4, .int (mTwo (τ 5) 2)), (3, .int 1), (0, .ref (a 0)), (1, .int 1), (2, .int len)]) hx hb d_M_why_175 hl (by decide) rfl (fun ls hl => ?_)
        refine lv_goto (tgt := 303) hx hb d_M_why_177 (by decide) ?_
        refine lv_iload hx hb d_M_why_303 (lv_at hl 0 rfl) ?_
        have k_9 : (0 : Int32) = 0 := by decide
        refine lv_if_eq (tgt := 310) hx hb d_M_why_305 (by decide) (fun _ => ?_) (fun h9 => absurd k_9 h9)
        refine lv_iload_n hx hb d_M_why_310 rfl (lv_at hl 4 rfl) ?_
        refine lv_iconst (v := 5) hx hb d_M_why_311 (by decide) ?_
        have k_10 : ¬ ((1 : Int32) = 5) := by decide
        refine lv_icmp_eq (tgt := 321) hx hb d_M_why_312 (by decide) (fun h9 => absurd h9 k_10) (fun _ => ?_)
        refine lv_iload_n hx hb d_M_why_315 rfl (lv_at hl 4 rfl) ?_
        refine lv_bipush (v := 6) hx hb d_M_why_316 (by decide) ?_
        have k_11 : ¬ ((1 : Int32) = 6) := by decide
        refine lv_icmp_ne (tgt := 325) hx hb d_M_why_318 (by decide) (fun _ => ?_) (fun h9 => absurd h9 k_11)
        refine lv_iload hx hb d_M_why_325 (lv_at hl 1 rfl) ?_
        refine lv_istore (lv' := [(6, .int (mTwo (τ 5) 2)), (5, .int 0), (4, .int (mTwo (τ 5) 2)), (3, .int 1), (0, .ref (a 0)), (1, .int 1), (2, .int len)]) hx hb d_M_why_327 hl (by decide) rfl (fun ls hl => ?_)
        refine lv_aload_n hx hb d_M_why_329 rfl (lv_at hl 4 rfl) ?_
        refine lv_iconst (v := 0) hx hb d_M_why_330 (by decide) ?_
        refine g_cVi (rest := []) S G (c_M_two l D cA a τ 0 (by unfold vp_in; decide) (by unfold vp_in; decide)) (cwV 1 S.2.2.2.2 ml_M_87 rfl rfl rfl (by decide +kernel) ⟨Nat.le_of_ble_eq_true rfl, Nat.le_of_ble_eq_true rfl⟩) [0, 1, 2, 3, 4, 5, 6, 7] [] rfl rfl rfl rfl (by decide) 0 rfl rfl rfl hl.1 rfl (Nat.le_of_ble_eq_true rfl) d_M_why_331 ⟨Nat.le_of_ble_eq_true rfl, Nat.le_of_ble_eq_true rfl⟩ (fun rp_12 wp_12 H locs hp_12 G => ?_)
        obtain ⟨ep_12, rfl⟩ := hp_12
        have ep_12 : rp_12 = mTwo (τ 5) 0 := ep_12
        replace ep_12 := ep_12.symm
        subst ep_12
        have G : Gw D vwCl [(cA, .int)] AA ss ss.heap H locs (wM cA a τ) := G
        refine lv_iload hx hb d_M_why_334 (lv_at hl 0 rfl) ?_
        refine lv_iadd hx hb d_M_why_336 ?_
        refine lv_aload_n hx hb d_M_why_337 rfl (lv_at hl 4 rfl) ?_
        refine lv_iload_n hx hb d_M_why_338 rfl (lv_at hl 5 rfl) ?_
        refine g_cVq (rest := [.int ((mTwo (τ 5) 0) + (mTwo (τ 5) 2))]) S G (c_M_table l D cA a τ 1) (cwV 1 S.2.2.2.2 ml_M_91 rfl rfl rfl (by decide +kernel) ⟨Nat.le_of_ble_eq_true rfl, Nat.le_of_ble_eq_true rfl⟩) [0, 1, 2, 3, 4, 5, 6, 7] [] rfl rfl rfl rfl (by decide) 0 rfl rfl rfl hl.1 rfl (Nat.le_of_ble_eq_true rfl) d_M_why_339 ⟨Nat.le_of_ble_eq_true rfl, Nat.le_of_ble_eq_true rfl⟩ (fun rp_13 wp_13 H locs hp_13 G => ?_)
        obtain ⟨rfl, rfl⟩ := hp_13
        have G : Gw D vwCl [(cA, .int)] AA ss ss.heap H locs (wM cA a τ) := G
        refine W.eq (g2 := F0 mm 342 ls [.ref (a 1), .int ((mTwo (τ 5) 0) + (mTwo (τ 5) 2))]) rfl ?_
        refine g_alen S G 1 0 rfl rfl 256 rfl d_M_why_342 ?_
        refine lv_icmp_le (tgt := 350) hx hb d_M_why_343 (by decide) (fun c_14 => ?_) (fun c_14 => ?_)
        · refine lv_iconst (v := 0) hx hb d_M_why_350 (by decide) ?_
          exact g_reti S hr hlk G ⟨by first | (simp only [mWA, mPl, eq_false k_1, eq_true k_2, eq_false k_3, eq_false k_4, eq_true c_5, eq_false c_7, eq_true c_8, eq_true k_9, eq_false k_10, eq_false k_11, eq_true c_14, i10, ↓reduceIte]; done) | (simp only [mWA, mPl, eq_false k_1, eq_true k_2, eq_false k_3, eq_false k_4, eq_true c_5, eq_false c_7, eq_true c_8, eq_true k_9, eq_false k_10, eq_false k_11, eq_true c_14, i10, ↓reduceIte]; rfl) | rfl, congrArg (wM cA a) (by first | (simp only [mWA, mPl, eq_false k_1, eq_true k_2, eq_false k_3, eq_false k_4, eq_true c_5, eq_false c_7, eq_true c_8, eq_true k_9, eq_false k_10, eq_false k_11, eq_true c_14, i10, ↓reduceIte]; done) | (simp only [mWA, mPl, eq_false k_1, eq_true k_2, eq_false k_3, eq_false k_4, eq_true c_5, eq_false c_7, eq_true c_8, eq_true k_9, eq_false k_10, eq_false k_11, eq_true c_14, i10, ↓reduceIte]; rfl) | rfl)⟩ (Nat.le_refl _) (Nat.le_refl _) d_M_why_351
        · refine lv_iconst (v := 2) hx hb d_M_why_346 (by decide) ?_
          refine lv_goto (tgt := 351) hx hb d_M_why_347 (by decide) ?_
          exact g_reti S hr hlk G ⟨by first | (simp only [mWA, mPl, eq_false k_1, eq_true k_2, eq_false k_3, eq_false k_4, eq_true c_5, eq_false c_7, eq_true c_8, eq_true k_9, eq_false k_10, eq_false k_11, eq_false c_14, i10, ↓reduceIte]; done) | (simp only [mWA, mPl, eq_false k_1, eq_true k_2, eq_false k_3, eq_false k_4, eq_true c_5, eq_false c_7, eq_true c_8, eq_true k_9, eq_false k_10, eq_false k_11, eq_false c_14, i10, ↓reduceIte]; rfl) | rfl, congrArg (wM cA a) (by first | (simp only [mWA, mPl, eq_false k_1, eq_true k_2, eq_false k_3, eq_false k_4, eq_true c_5, eq_false c_7, eq_true c_8, eq_true k_9, eq_false k_10, eq_false k_11, eq_false c_14, i10, ↓reduceIte]; done) | (simp only [mWA, mPl, eq_false k_1, eq_true k_2, eq_false k_3, eq_false k_4, eq_true c_5, eq_false c_7, eq_true c_8, eq_true k_9, eq_false k_10, eq_false k_11, eq_false c_14, i10, ↓reduceIte]; rfl) | rfl)⟩ (Nat.le_refl _) (Nat.le_refl _) d_M_why_351
      · refine lv_iconst (v := 1) hx hb d_M_why_170 (by decide) ?_
        refine lv_goto (tgt := 175) hx hb d_M_why_171 (by decide) ?_
        refine lv_istore (lv' := [(5, .int 1), (4, .int (mTwo (τ 5) 2)), (3, .int 1), (0, .ref (a 0)), (1, .int 1), (2, .int len)]) hx hb d_M_why_175 hl (by decide) rfl (fun ls hl => ?_)
        refine lv_goto (tgt := 303) hx hb d_M_why_177 (by decide) ?_
        refine lv_iload hx hb d_M_why_303 (lv_at hl 0 rfl) ?_
        refine lv_if_eq (tgt := 310) hx hb d_M_why_305 (by decide) (fun h9 => absurd h9 k_3) (fun _ => ?_)
        refine lv_iconst (v := 3) hx hb d_M_why_308 (by decide) ?_
        exact g_reti S hr hlk G ⟨by first | (simp only [mWA, mPl, eq_false k_1, eq_true k_2, eq_false k_3, eq_false k_4, eq_true c_5, eq_false c_7, eq_false c_8, i10, ↓reduceIte]; done) | (simp only [mWA, mPl, eq_false k_1, eq_true k_2, eq_false k_3, eq_false k_4, eq_true c_5, eq_false c_7, eq_false c_8, i10, ↓reduceIte]; rfl) | rfl, congrArg (wM cA a) (by first | (simp only [mWA, mPl, eq_false k_1, eq_true k_2, eq_false k_3, eq_false k_4, eq_true c_5, eq_false c_7, eq_false c_8, i10, ↓reduceIte]; done) | (simp only [mWA, mPl, eq_false k_1, eq_true k_2, eq_false k_3, eq_false k_4, eq_true c_5, eq_false c_7, eq_false c_8, i10, ↓reduceIte]; rfl) | rfl)⟩ (Nat.le_refl _) (Nat.le_refl _) d_M_why_309
  · refine lv_goto (tgt := 66) hx hb d_M_why_46 (by decide) ?_
    refine lv_iconst (v := 3) hx hb d_M_why_66 (by decide) ?_
    exact g_reti S hr hlk G ⟨by first | (simp only [mWA, mPl, eq_false k_1, eq_true k_2, eq_false k_3, eq_false k_4, eq_false c_5, i10, ↓reduceIte]; done) | (simp only [mWA, mPl, eq_false k_1, eq_true k_2, eq_false k_3, eq_false k_4, eq_false c_5, i10, ↓reduceIte]; rfl) | rfl, congrArg (wM cA a) (by first | (simp only [mWA, mPl, eq_false k_1, eq_true k_2, eq_false k_3, eq_false k_4, eq_false c_5, i10, ↓reduceIte]; done) | (simp only [mWA, mPl, eq_false k_1, eq_true k_2, eq_false k_3, eq_false k_4, eq_false c_5, i10, ↓reduceIte]; rfl) | rfl)⟩ (Nat.le_refl _) (Nat.le_refl _) d_M_why_67

set_option maxHeartbeats 1000000 in
set_option maxRecDepth 100000 in
theorem c_M_why2 (l : Launch) (D : va_G) (cA : ClassId) (a : Nat → Nat) (τ : St) (len : Int32)  : Ci l y_M_why w_M_why rm_M_why D vwCl [(cA, .int)] [.ref (a 0), .int 2, .int len] (wM cA a τ) 0 0 (fun r0 w0 => r0 = mWA (τ 5) len 2000 256 ∧ w0 = wM cA a τ) := by
  refine Ci.of (Ts := lw_g) (own := "WireSlaveModel") (cc := b_M_why) (maxL := 7) (ret := (some .int)) (lv := [(0, .ref (a 0)), (1, .int 2), (2, .int len)]) (by decide) rfl rfl (fun w h => List.mem_cons_of_mem _ h) (Nat.le_of_ble_eq_true rfl) rfl ?_
  intro pp ee ss mm args below meth cx AA S hr hlk G ls hl
  have hx := S.1
  have hb := S.2.1
  refine lv_iload_n hx hb d_M_why_0 rfl (lv_at hl 1 rfl) ?_
  refine lv_iconst (v := 1) hx hb d_M_why_1 (by decide) ?_
  have k_1 : ¬ ((2 : Int32) < 1) := by decide
  refine lv_icmp_lt (tgt := 11) hx hb d_M_why_2 (by decide) (fun h9 => absurd h9 k_1) (fun _ => ?_)
  refine lv_iload_n hx hb d_M_why_5 rfl (lv_at hl 1 rfl) ?_
  refine lv_bipush (v := 6) hx hb d_M_why_6 (by decide) ?_
  have k_2 : (2 : Int32) ≤ 6 := by decide
  refine lv_icmp_le (tgt := 23) hx hb d_M_why_8 (by decide) (fun _ => ?_) (fun h9 => absurd k_2 h9)
  refine lv_iconst (v := 1) hx hb d_M_why_23 (by decide) ?_
  refine lv_goto (tgt := 28) hx hb d_M_why_24 (by decide) ?_
  refine lv_istore_n (lv' := [(3, .int 1), (0, .ref (a 0)), (1, .int 2), (2, .int len)]) hx hb d_M_why_28 rfl hl (by decide) rfl (fun ls hl => ?_)
  refine lv_iload_n hx hb d_M_why_29 rfl (lv_at hl 0 rfl) ?_
  have k_3 : ¬ ((1 : Int32) = 0) := by decide
  refine lv_if_ne (tgt := 35) hx hb d_M_why_30 (by decide) (fun _ => ?_) (fun h9 => absurd h9 k_3)
  refine lv_iload_n hx hb d_M_why_35 rfl (lv_at hl 2 rfl) ?_
  refine lv_bipush (v := 7) hx hb d_M_why_36 (by decide) ?_
  have k_4 : ¬ ((7 : Int32) ≤ 2) := by decide
  refine lv_icmp_ge (tgt := 49) hx hb d_M_why_38 (by decide) (fun h9 => absurd h9 k_4) (fun _ => ?_)
  refine lv_iload_n hx hb d_M_why_41 rfl (lv_at hl 3 rfl) ?_
  refine lv_iconst (v := 4) hx hb d_M_why_42 (by decide) ?_
  refine lv_icmp_eq (tgt := 68) hx hb d_M_why_43 (by decide) (fun c_5 => ?_) (fun c_5 => ?_)
  · refine lv_aload_n hx hb d_M_why_68 rfl (lv_at hl 1 rfl) ?_
    refine lv_iconst (v := 2) hx hb d_M_why_69 (by decide) ?_
    refine g_cVi (rest := []) S G (c_M_two l D cA a τ 2 (by unfold vp_in; decide) (by unfold vp_in; decide)) (cwV 1 S.2.2.2.2 ml_M_87 rfl rfl rfl (by decide +kernel) ⟨Nat.le_of_ble_eq_true rfl, Nat.le_of_ble_eq_true rfl⟩) [0, 1, 2, 3, 4, 5, 6, 7] [] rfl rfl rfl rfl (by decide) 0 rfl rfl rfl hl.1 rfl (Nat.le_of_ble_eq_true rfl) d_M_why_70 ⟨Nat.le_of_ble_eq_true rfl, Nat.le_of_ble_eq_true rfl⟩ (fun rp_6 wp_6 H locs hp_6 G => ?_)
    obtain ⟨ep_6, rfl⟩ := hp_6
    have ep_6 : rp_6 = mTwo (τ 5) 2 := ep_6
    replace ep_6 := ep_6.symm
    subst ep_6
    have G : Gw D vwCl [(cA, .int)] AA ss ss.heap H locs (wM cA a τ) := G
    refine lv_istore (lv' := [(4, .int (mTwo (τ 5) 2)), (3, .int 1), (0, .ref (a 0)), (1, .int 2), (2, .int len)]) hx hb d_M_why_73 hl (by decide) rfl (fun ls hl => ?_)
    refine lv_iload_n hx hb d_M_why_75 rfl (lv_at hl 3 rfl) ?_
    refine lv_tableIn (tgt := 156) hx hb d_M_why_76 (by decide) (by decide) (by rfl) (by decide) ?_
    refine lv_iload hx hb d_M_why_156 (lv_at hl 0 rfl) ?_
    refine lv_iconst (v := 1) hx hb d_M_why_158 (by decide) ?_
    refine lv_icmp_lt (tgt := 170) hx hb d_M_why_159 (by decide) (fun c_7 => ?_) (fun c_7 => ?_)
    · refine lv_iconst (v := 1) hx hb d_M_why_170 (by decide) ?_
      refine lv_goto (tgt := 175) hx hb d_M_why_171 (by decide) ?_
      refine lv_istore (lv' := [(5, .int 1), (4, .int (mTwo (τ 5) 2)), (3, .int 1), (0, .ref (a 0)), (1, .int 2), (2, .int len)]) hx hb d_M_why_175 hl (by decide) rfl (fun ls hl => ?_)
      refine lv_goto (tgt := 303) hx hb d_M_why_177 (by decide) ?_
      refine lv_iload hx hb d_M_why_303 (lv_at hl 0 rfl) ?_
      refine lv_if_eq (tgt := 310) hx hb d_M_why_305 (by decide) (fun h9 => absurd h9 k_3) (fun _ => ?_)
      refine lv_iconst (v := 3) hx hb d_M_why_308 (by decide) ?_
      exact g_reti S hr hlk G ⟨by first | (simp only [mWA, mPl, eq_false k_1, eq_true k_2, eq_false k_3, eq_false k_4, eq_true c_5, eq_true c_7, i10, ↓reduceIte]; done) | (simp only [mWA, mPl, eq_false k_1, eq_true k_2, eq_false k_3, eq_false k_4, eq_true c_5, eq_true c_7, i10, ↓reduceIte]; rfl) | rfl, congrArg (wM cA a) (by first | (simp only [mWA, mPl, eq_false k_1, eq_true k_2, eq_false k_3, eq_false k_4, eq_true c_5, eq_true c_7, i10, ↓reduceIte]; done) | (simp only [mWA, mPl, eq_false k_1, eq_true k_2, eq_false k_3, eq_false k_4, eq_true c_5, eq_true c_7, i10, ↓reduceIte]; rfl) | rfl)⟩ (Nat.le_refl _) (Nat.le_refl _) d_M_why_309
    · refine lv_iload hx hb d_M_why_162 (lv_at hl 0 rfl) ?_
      refine lv_sipush (v := 2000) hx hb d_M_why_164 (by decide) ?_
      refine lv_icmp_le (tgt := 174) hx hb d_M_why_167 (by decide) (fun c_8 => ?_) (fun c_8 => ?_)
      · refine lv_iconst (v := 0) hx hb d_M_why_174 (by decide) ?_
        refine lv_istore (lv' := [(5, .int 0), (4, .int (mTwo (τ 5) 2)), (3, .int 1), (0, .ref (a 0)), (1, .int 2), (2, .int len)]) hx hb d_M_why_175 hl (by decide) rfl (fun ls hl => ?_)
        refine lv_goto (tgt := 303) hx hb d_M_why_177 (by decide) ?_
        refine lv_iload hx hb d_M_why_303 (lv_at hl 0 rfl) ?_
        have k_9 : (0 : Int32) = 0 := by decide
        refine lv_if_eq (tgt := 310) hx hb d_M_why_305 (by decide) (fun _ => ?_) (fun h9 => absurd k_9 h9)
        refine lv_iload_n hx hb d_M_why_310 rfl (lv_at hl 4 rfl) ?_
        refine lv_iconst (v := 5) hx hb d_M_why_311 (by decide) ?_
        have k_10 : ¬ ((2 : Int32) = 5) := by decide
        refine lv_icmp_eq (tgt := 321) hx hb d_M_why_312 (by decide) (fun h9 => absurd h9 k_10) (fun _ => ?_)
        refine lv_iload_n hx hb d_M_why_315 rfl (lv_at hl 4 rfl) ?_
        refine lv_bipush (v := 6) hx hb d_M_why_316 (by decide) ?_
        have k_11 : ¬ ((2 : Int32) = 6) := by decide
        refine lv_icmp_ne (tgt := 325) hx hb d_M_why_318 (by decide) (fun _ => ?_) (fun h9 => absurd h9 k_11)
        refine lv_iload hx hb d_M_why_325 (lv_at hl 1 rfl) ?_
        refine lv_istore (lv' := [(6, .int (mTwo (τ 5) 2)), (5, .int 0), (4, .int (mTwo (τ 5) 2)), (3, .int 1), (0, .ref (a 0)), (1, .int 2), (2, .int len)]) hx hb d_M_why_327 hl (by decide) rfl (fun ls hl => ?_)
        refine lv_aload_n hx hb d_M_why_329 rfl (lv_at hl 4 rfl) ?_
        refine lv_iconst (v := 0) hx hb d_M_why_330 (by decide) ?_
        refine g_cVi (rest := []) S G (c_M_two l D cA a τ 0 (by unfold vp_in; decide) (by unfold vp_in; decide)) (cwV 1 S.2.2.2.2 ml_M_87 rfl rfl rfl (by decide +kernel) ⟨Nat.le_of_ble_eq_true rfl, Nat.le_of_ble_eq_true rfl⟩) [0, 1, 2, 3, 4, 5, 6, 7] [] rfl rfl rfl rfl (by decide) 0 rfl rfl rfl hl.1 rfl (Nat.le_of_ble_eq_true rfl) d_M_why_331 ⟨Nat.le_of_ble_eq_true rfl, Nat.le_of_ble_eq_true rfl⟩ (fun rp_12 wp_12 H locs hp_12 G => ?_)
        obtain ⟨ep_12, rfl⟩ := hp_12
        have ep_12 : rp_12 = mTwo (τ 5) 0 := ep_12
        replace ep_12 := ep_12.symm
        subst ep_12
        have G : Gw D vwCl [(cA, .int)] AA ss ss.heap H locs (wM cA a τ) := G
        refine lv_iload hx hb d_M_why_334 (lv_at hl 0 rfl) ?_
        refine lv_iadd hx hb d_M_why_336 ?_
        refine lv_aload_n hx hb d_M_why_337 rfl (lv_at hl 4 rfl) ?_
        refine lv_iload_n hx hb d_M_why_338 rfl (lv_at hl 5 rfl) ?_
        refine g_cVq (rest := [.int ((mTwo (τ 5) 0) + (mTwo (τ 5) 2))]) S G (c_M_table l D cA a τ 2) (cwV 1 S.2.2.2.2 ml_M_91 rfl rfl rfl (by decide +kernel) ⟨Nat.le_of_ble_eq_true rfl, Nat.le_of_ble_eq_true rfl⟩) [0, 1, 2, 3, 4, 5, 6, 7] [] rfl rfl rfl rfl (by decide) 0 rfl rfl rfl hl.1 rfl (Nat.le_of_ble_eq_true rfl) d_M_why_339 ⟨Nat.le_of_ble_eq_true rfl, Nat.le_of_ble_eq_true rfl⟩ (fun rp_13 wp_13 H locs hp_13 G => ?_)
        obtain ⟨rfl, rfl⟩ := hp_13
        have G : Gw D vwCl [(cA, .int)] AA ss ss.heap H locs (wM cA a τ) := G
        refine W.eq (g2 := F0 mm 342 ls [.ref (a 2), .int ((mTwo (τ 5) 0) + (mTwo (τ 5) 2))]) rfl ?_
        refine g_alen S G 2 0 rfl rfl 256 rfl d_M_why_342 ?_
        refine lv_icmp_le (tgt := 350) hx hb d_M_why_343 (by decide) (fun c_14 => ?_) (fun c_14 => ?_)
        · refine lv_iconst (v := 0) hx hb d_M_why_350 (by decide) ?_
          exact g_reti S hr hlk G ⟨by first | (simp only [mWA, mPl, eq_false k_1, eq_true k_2, eq_false k_3, eq_false k_4, eq_true c_5, eq_false c_7, eq_true c_8, eq_true k_9, eq_false k_10, eq_false k_11, eq_true c_14, i10, ↓reduceIte]; done) | (simp only [mWA, mPl, eq_false k_1, eq_true k_2, eq_false k_3, eq_false k_4, eq_true c_5, eq_false c_7, eq_true c_8, eq_true k_9, eq_false k_10, eq_false k_11, eq_true c_14, i10, ↓reduceIte]; rfl) | rfl, congrArg (wM cA a) (by first | (simp only [mWA, mPl, eq_false k_1, eq_true k_2, eq_false k_3, eq_false k_4, eq_true c_5, eq_false c_7, eq_true c_8, eq_true k_9, eq_false k_10, eq_false k_11, eq_true c_14, i10, ↓reduceIte]; done) | (simp only [mWA, mPl, eq_false k_1, eq_true k_2, eq_false k_3, eq_false k_4, eq_true c_5, eq_false c_7, eq_true c_8, eq_true k_9, eq_false k_10, eq_false k_11, eq_true c_14, i10, ↓reduceIte]; rfl) | rfl)⟩ (Nat.le_refl _) (Nat.le_refl _) d_M_why_351
        · refine lv_iconst (v := 2) hx hb d_M_why_346 (by decide) ?_
          refine lv_goto (tgt := 351) hx hb d_M_why_347 (by decide) ?_
          exact g_reti S hr hlk G ⟨by first | (simp only [mWA, mPl, eq_false k_1, eq_true k_2, eq_false k_3, eq_false k_4, eq_true c_5, eq_false c_7, eq_true c_8, eq_true k_9, eq_false k_10, eq_false k_11, eq_false c_14, i10, ↓reduceIte]; done) | (simp only [mWA, mPl, eq_false k_1, eq_true k_2, eq_false k_3, eq_false k_4, eq_true c_5, eq_false c_7, eq_true c_8, eq_true k_9, eq_false k_10, eq_false k_11, eq_false c_14, i10, ↓reduceIte]; rfl) | rfl, congrArg (wM cA a) (by first | (simp only [mWA, mPl, eq_false k_1, eq_true k_2, eq_false k_3, eq_false k_4, eq_true c_5, eq_false c_7, eq_true c_8, eq_true k_9, eq_false k_10, eq_false k_11, eq_false c_14, i10, ↓reduceIte]; done) | (simp only [mWA, mPl, eq_false k_1, eq_true k_2, eq_false k_3, eq_false k_4, eq_true c_5, eq_false c_7, eq_true c_8, eq_true k_9, eq_false k_10, eq_false k_11, eq_false c_14, i10, ↓reduceIte]; rfl) | rfl)⟩ (Nat.le_refl _) (Nat.le_refl _) d_M_why_351
      · refine lv_iconst (v := 1) hx hb d_M_why_170 (by decide) ?_
        refine lv_goto (tgt := 175) hx hb d_M_why_171 (by decide) ?_
        refine lv_istore (lv' := [(5, .int 1), (4, .int (mTwo (τ 5) 2)), (3, .int 1), (0, .ref (a 0)), (1, .int 2), (2, .int len)]) hx hb d_M_why_175 hl (by decide) rfl (fun ls hl => ?_)
        refine lv_goto (tgt := 303) hx hb d_M_why_177 (by decide) ?_
        refine lv_iload hx hb d_M_why_303 (lv_at hl 0 rfl) ?_
        refine lv_if_eq (tgt := 310) hx hb d_M_why_305 (by decide) (fun h9 => absurd h9 k_3) (fun _ => ?_)
        refine lv_iconst (v := 3) hx hb d_M_why_308 (by decide) ?_
        exact g_reti S hr hlk G ⟨by first | (simp only [mWA, mPl, eq_false k_1, eq_true k_2, eq_false k_3, eq_false k_4, eq_true c_5, eq_false c_7, eq_false c_8, i10, ↓reduceIte]; done) | (simp only [mWA, mPl, eq_false k_1, eq_true k_2, eq_false k_3, eq_false k_4, eq_true c_5, eq_false c_7, eq_false c_8, i10, ↓reduceIte]; rfl) | rfl, congrArg (wM cA a) (by first | (simp only [mWA, mPl, eq_false k_1, eq_true k_2, eq_false k_3, eq_false k_4, eq_true c_5, eq_false c_7, eq_false c_8, i10, ↓reduceIte]; done) | (simp only [mWA, mPl, eq_false k_1, eq_true k_2, eq_false k_3, eq_false k_4, eq_true c_5, eq_false c_7, eq_false c_8, i10, ↓reduceIte]; rfl) | rfl)⟩ (Nat.le_refl _) (Nat.le_refl _) d_M_why_309
  · refine lv_goto (tgt := 66) hx hb d_M_why_46 (by decide) ?_
    refine lv_iconst (v := 3) hx hb d_M_why_66 (by decide) ?_
    exact g_reti S hr hlk G ⟨by first | (simp only [mWA, mPl, eq_false k_1, eq_true k_2, eq_false k_3, eq_false k_4, eq_false c_5, i10, ↓reduceIte]; done) | (simp only [mWA, mPl, eq_false k_1, eq_true k_2, eq_false k_3, eq_false k_4, eq_false c_5, i10, ↓reduceIte]; rfl) | rfl, congrArg (wM cA a) (by first | (simp only [mWA, mPl, eq_false k_1, eq_true k_2, eq_false k_3, eq_false k_4, eq_false c_5, i10, ↓reduceIte]; done) | (simp only [mWA, mPl, eq_false k_1, eq_true k_2, eq_false k_3, eq_false k_4, eq_false c_5, i10, ↓reduceIte]; rfl) | rfl)⟩ (Nat.le_refl _) (Nat.le_refl _) d_M_why_67

set_option maxHeartbeats 1000000 in
set_option maxRecDepth 100000 in
theorem c_M_why3 (l : Launch) (D : va_G) (cA : ClassId) (a : Nat → Nat) (τ : St) (len : Int32)  : Ci l y_M_why w_M_why rm_M_why D vwCl [(cA, .int)] [.ref (a 0), .int 3, .int len] (wM cA a τ) 0 0 (fun r0 w0 => r0 = mWA (τ 5) len 125 64 ∧ w0 = wM cA a τ) := by
  refine Ci.of (Ts := lw_g) (own := "WireSlaveModel") (cc := b_M_why) (maxL := 7) (ret := (some .int)) (lv := [(0, .ref (a 0)), (1, .int 3), (2, .int len)]) (by decide) rfl rfl (fun w h => List.mem_cons_of_mem _ h) (Nat.le_of_ble_eq_true rfl) rfl ?_
  intro pp ee ss mm args below meth cx AA S hr hlk G ls hl
  have hx := S.1
  have hb := S.2.1
  refine lv_iload_n hx hb d_M_why_0 rfl (lv_at hl 1 rfl) ?_
  refine lv_iconst (v := 1) hx hb d_M_why_1 (by decide) ?_
  have k_1 : ¬ ((3 : Int32) < 1) := by decide
  refine lv_icmp_lt (tgt := 11) hx hb d_M_why_2 (by decide) (fun h9 => absurd h9 k_1) (fun _ => ?_)
  refine lv_iload_n hx hb d_M_why_5 rfl (lv_at hl 1 rfl) ?_
  refine lv_bipush (v := 6) hx hb d_M_why_6 (by decide) ?_
  have k_2 : (3 : Int32) ≤ 6 := by decide
  refine lv_icmp_le (tgt := 23) hx hb d_M_why_8 (by decide) (fun _ => ?_) (fun h9 => absurd k_2 h9)
  refine lv_iconst (v := 1) hx hb d_M_why_23 (by decide) ?_
  refine lv_goto (tgt := 28) hx hb d_M_why_24 (by decide) ?_
  refine lv_istore_n (lv' := [(3, .int 1), (0, .ref (a 0)), (1, .int 3), (2, .int len)]) hx hb d_M_why_28 rfl hl (by decide) rfl (fun ls hl => ?_)
  refine lv_iload_n hx hb d_M_why_29 rfl (lv_at hl 0 rfl) ?_
  have k_3 : ¬ ((1 : Int32) = 0) := by decide
  refine lv_if_ne (tgt := 35) hx hb d_M_why_30 (by decide) (fun _ => ?_) (fun h9 => absurd h9 k_3)
  refine lv_iload_n hx hb d_M_why_35 rfl (lv_at hl 2 rfl) ?_
  refine lv_bipush (v := 7) hx hb d_M_why_36 (by decide) ?_
  have k_4 : ¬ ((7 : Int32) ≤ 3) := by decide
  refine lv_icmp_ge (tgt := 49) hx hb d_M_why_38 (by decide) (fun h9 => absurd h9 k_4) (fun _ => ?_)
  refine lv_iload_n hx hb d_M_why_41 rfl (lv_at hl 3 rfl) ?_
  refine lv_iconst (v := 4) hx hb d_M_why_42 (by decide) ?_
  refine lv_icmp_eq (tgt := 68) hx hb d_M_why_43 (by decide) (fun c_5 => ?_) (fun c_5 => ?_)
  · refine lv_aload_n hx hb d_M_why_68 rfl (lv_at hl 1 rfl) ?_
    refine lv_iconst (v := 2) hx hb d_M_why_69 (by decide) ?_
    refine g_cVi (rest := []) S G (c_M_two l D cA a τ 2 (by unfold vp_in; decide) (by unfold vp_in; decide)) (cwV 1 S.2.2.2.2 ml_M_87 rfl rfl rfl (by decide +kernel) ⟨Nat.le_of_ble_eq_true rfl, Nat.le_of_ble_eq_true rfl⟩) [0, 1, 2, 3, 4, 5, 6, 7] [] rfl rfl rfl rfl (by decide) 0 rfl rfl rfl hl.1 rfl (Nat.le_of_ble_eq_true rfl) d_M_why_70 ⟨Nat.le_of_ble_eq_true rfl, Nat.le_of_ble_eq_true rfl⟩ (fun rp_6 wp_6 H locs hp_6 G => ?_)
    obtain ⟨ep_6, rfl⟩ := hp_6
    have ep_6 : rp_6 = mTwo (τ 5) 2 := ep_6
    replace ep_6 := ep_6.symm
    subst ep_6
    have G : Gw D vwCl [(cA, .int)] AA ss ss.heap H locs (wM cA a τ) := G
    refine lv_istore (lv' := [(4, .int (mTwo (τ 5) 2)), (3, .int 1), (0, .ref (a 0)), (1, .int 3), (2, .int len)]) hx hb d_M_why_73 hl (by decide) rfl (fun ls hl => ?_)
    refine lv_iload_n hx hb d_M_why_75 rfl (lv_at hl 3 rfl) ?_
    refine lv_tableIn (tgt := 180) hx hb d_M_why_76 (by decide) (by decide) (by rfl) (by decide) ?_
    refine lv_iload hx hb d_M_why_180 (lv_at hl 0 rfl) ?_
    refine lv_iconst (v := 1) hx hb d_M_why_182 (by decide) ?_
    refine lv_icmp_lt (tgt := 193) hx hb d_M_why_183 (by decide) (fun c_7 => ?_) (fun c_7 => ?_)
    · refine lv_iconst (v := 1) hx hb d_M_why_193 (by decide) ?_
      refine lv_goto (tgt := 198) hx hb d_M_why_194 (by decide) ?_
      refine lv_istore (lv' := [(5, .int 1), (4, .int (mTwo (τ 5) 2)), (3, .int 1), (0, .ref (a 0)), (1, .int 3), (2, .int len)]) hx hb d_M_why_198 hl (by decide) rfl (fun ls hl => ?_)
      refine lv_goto (tgt := 303) hx hb d_M_why_200 (by decide) ?_
      refine lv_iload hx hb d_M_why_303 (lv_at hl 0 rfl) ?_
      refine lv_if_eq (tgt := 310) hx hb d_M_why_305 (by decide) (fun h9 => absurd h9 k_3) (fun _ => ?_)
      refine lv_iconst (v := 3) hx hb d_M_why_308 (by decide) ?_
      exact g_reti S hr hlk G ⟨by first | (simp only [mWA, mPl, eq_false k_1, eq_true k_2, eq_false k_3, eq_false k_4, eq_true c_5, eq_true c_7, i10, ↓reduceIte]; done) | (simp only [mWA, mPl, eq_false k_1, eq_true k_2, eq_false k_3, eq_false k_4, eq_true c_5, eq_true c_7, i10, ↓reduceIte]; rfl) | rfl, congrArg (wM cA a) (by first | (simp only [mWA, mPl, eq_false k_1, eq_true k_2, eq_false k_3, eq_false k_4, eq_true c_5, eq_true c_7, i10, ↓reduceIte]; done) | (simp only [mWA, mPl, eq_false k_1, eq_true k_2, eq_false k_3, eq_false k_4, eq_true c_5, eq_true c_7, i10, ↓reduceIte]; rfl) | rfl)⟩ (Nat.le_refl _) (Nat.le_refl _) d_M_why_309
    · refine lv_iload hx hb d_M_why_186 (lv_at hl 0 rfl) ?_
      refine lv_bipush (v := 125) hx hb d_M_why_188 (by decide) ?_
      refine lv_icmp_le (tgt := 197) hx hb d_M_why_190 (by decide) (fun c_8 => ?_) (fun c_8 => ?_)
      · refine lv_iconst (v := 0) hx hb d_M_why_197 (by decide) ?_
        refine lv_istore (lv' := [(5, .int 0), (4, .int (mTwo (τ 5) 2)), (3, .int 1), (0, .ref (a 0)), (1, .int 3), (2, .int len)]) hx hb d_M_why_198 hl (by decide) rfl (fun ls hl => ?_)
        refine lv_goto (tgt := 303) hx hb d_M_why_200 (by decide) ?_
        refine lv_iload hx hb d_M_why_303 (lv_at hl 0 rfl) ?_
        have k_9 : (0 : Int32) = 0 := by decide
        refine lv_if_eq (tgt := 310) hx hb d_M_why_305 (by decide) (fun _ => ?_) (fun h9 => absurd k_9 h9)
        refine lv_iload_n hx hb d_M_why_310 rfl (lv_at hl 4 rfl) ?_
        refine lv_iconst (v := 5) hx hb d_M_why_311 (by decide) ?_
        have k_10 : ¬ ((3 : Int32) = 5) := by decide
        refine lv_icmp_eq (tgt := 321) hx hb d_M_why_312 (by decide) (fun h9 => absurd h9 k_10) (fun _ => ?_)
        refine lv_iload_n hx hb d_M_why_315 rfl (lv_at hl 4 rfl) ?_
        refine lv_bipush (v := 6) hx hb d_M_why_316 (by decide) ?_
        have k_11 : ¬ ((3 : Int32) = 6) := by decide
        refine lv_icmp_ne (tgt := 325) hx hb d_M_why_318 (by decide) (fun _ => ?_) (fun h9 => absurd h9 k_11)
        refine lv_iload hx hb d_M_why_325 (lv_at hl 1 rfl) ?_
        refine lv_istore (lv' := [(6, .int (mTwo (τ 5) 2)), (5, .int 0), (4, .int (mTwo (τ 5) 2)), (3, .int 1), (0, .ref (a 0)), (1, .int 3), (2, .int len)]) hx hb d_M_why_327 hl (by decide) rfl (fun ls hl => ?_)
        refine lv_aload_n hx hb d_M_why_329 rfl (lv_at hl 4 rfl) ?_
        refine lv_iconst (v := 0) hx hb d_M_why_330 (by decide) ?_
        refine g_cVi (rest := []) S G (c_M_two l D cA a τ 0 (by unfold vp_in; decide) (by unfold vp_in; decide)) (cwV 1 S.2.2.2.2 ml_M_87 rfl rfl rfl (by decide +kernel) ⟨Nat.le_of_ble_eq_true rfl, Nat.le_of_ble_eq_true rfl⟩) [0, 1, 2, 3, 4, 5, 6, 7] [] rfl rfl rfl rfl (by decide) 0 rfl rfl rfl hl.1 rfl (Nat.le_of_ble_eq_true rfl) d_M_why_331 ⟨Nat.le_of_ble_eq_true rfl, Nat.le_of_ble_eq_true rfl⟩ (fun rp_12 wp_12 H locs hp_12 G => ?_)
        obtain ⟨ep_12, rfl⟩ := hp_12
        have ep_12 : rp_12 = mTwo (τ 5) 0 := ep_12
        replace ep_12 := ep_12.symm
        subst ep_12
        have G : Gw D vwCl [(cA, .int)] AA ss ss.heap H locs (wM cA a τ) := G
        refine lv_iload hx hb d_M_why_334 (lv_at hl 0 rfl) ?_
        refine lv_iadd hx hb d_M_why_336 ?_
        refine lv_aload_n hx hb d_M_why_337 rfl (lv_at hl 4 rfl) ?_
        refine lv_iload_n hx hb d_M_why_338 rfl (lv_at hl 5 rfl) ?_
        refine g_cVq (rest := [.int ((mTwo (τ 5) 0) + (mTwo (τ 5) 2))]) S G (c_M_table l D cA a τ 3) (cwV 1 S.2.2.2.2 ml_M_91 rfl rfl rfl (by decide +kernel) ⟨Nat.le_of_ble_eq_true rfl, Nat.le_of_ble_eq_true rfl⟩) [0, 1, 2, 3, 4, 5, 6, 7] [] rfl rfl rfl rfl (by decide) 0 rfl rfl rfl hl.1 rfl (Nat.le_of_ble_eq_true rfl) d_M_why_339 ⟨Nat.le_of_ble_eq_true rfl, Nat.le_of_ble_eq_true rfl⟩ (fun rp_13 wp_13 H locs hp_13 G => ?_)
        obtain ⟨rfl, rfl⟩ := hp_13
        have G : Gw D vwCl [(cA, .int)] AA ss ss.heap H locs (wM cA a τ) := G
        refine W.eq (g2 := F0 mm 342 ls [.ref (a 3), .int ((mTwo (τ 5) 0) + (mTwo (τ 5) 2))]) rfl ?_
        refine g_alen S G 3 0 rfl rfl 64 rfl d_M_why_342 ?_
        refine lv_icmp_le (tgt := 350) hx hb d_M_why_343 (by decide) (fun c_14 => ?_) (fun c_14 => ?_)
        · refine lv_iconst (v := 0) hx hb d_M_why_350 (by decide) ?_
          exact g_reti S hr hlk G ⟨by first | (simp only [mWA, mPl, eq_false k_1, eq_true k_2, eq_false k_3, eq_false k_4, eq_true c_5, eq_false c_7, eq_true c_8, eq_true k_9, eq_false k_10, eq_false k_11, eq_true c_14, i10, ↓reduceIte]; done) | (simp only [mWA, mPl, eq_false k_1, eq_true k_2, eq_false k_3, eq_false k_4, eq_true c_5, eq_false c_7, eq_true c_8, eq_true k_9, eq_false k_10, eq_false k_11, eq_true c_14, i10, ↓reduceIte]; rfl) | rfl, congrArg (wM cA a) (by first | (simp only [mWA, mPl, eq_false k_1, eq_true k_2, eq_false k_3, eq_false k_4, eq_true c_5, eq_false c_7, eq_true c_8, eq_true k_9, eq_false k_10, eq_false k_11, eq_true c_14, i10, ↓reduceIte]; done) | (simp only [mWA, mPl, eq_false k_1, eq_true k_2, eq_false k_3, eq_false k_4, eq_true c_5, eq_false c_7, eq_true c_8, eq_true k_9, eq_false k_10, eq_false k_11, eq_true c_14, i10, ↓reduceIte]; rfl) | rfl)⟩ (Nat.le_refl _) (Nat.le_refl _) d_M_why_351
        · refine lv_iconst (v := 2) hx hb d_M_why_346 (by decide) ?_
          refine lv_goto (tgt := 351) hx hb d_M_why_347 (by decide) ?_
          exact g_reti S hr hlk G ⟨by first | (simp only [mWA, mPl, eq_false k_1, eq_true k_2, eq_false k_3, eq_false k_4, eq_true c_5, eq_false c_7, eq_true c_8, eq_true k_9, eq_false k_10, eq_false k_11, eq_false c_14, i10, ↓reduceIte]; done) | (simp only [mWA, mPl, eq_false k_1, eq_true k_2, eq_false k_3, eq_false k_4, eq_true c_5, eq_false c_7, eq_true c_8, eq_true k_9, eq_false k_10, eq_false k_11, eq_false c_14, i10, ↓reduceIte]; rfl) | rfl, congrArg (wM cA a) (by first | (simp only [mWA, mPl, eq_false k_1, eq_true k_2, eq_false k_3, eq_false k_4, eq_true c_5, eq_false c_7, eq_true c_8, eq_true k_9, eq_false k_10, eq_false k_11, eq_false c_14, i10, ↓reduceIte]; done) | (simp only [mWA, mPl, eq_false k_1, eq_true k_2, eq_false k_3, eq_false k_4, eq_true c_5, eq_false c_7, eq_true c_8, eq_true k_9, eq_false k_10, eq_false k_11, eq_false c_14, i10, ↓reduceIte]; rfl) | rfl)⟩ (Nat.le_refl _) (Nat.le_refl _) d_M_why_351
      · refine lv_iconst (v := 1) hx hb d_M_why_193 (by decide) ?_
        refine lv_goto (tgt := 198) hx hb d_M_why_194 (by decide) ?_
        refine lv_istore (lv' := [(5, .int 1), (4, .int (mTwo (τ 5) 2)), (3, .int 1), (0, .ref (a 0)), (1, .int 3), (2, .int len)]) hx hb d_M_why_198 hl (by decide) rfl (fun ls hl => ?_)
        refine lv_goto (tgt := 303) hx hb d_M_why_200 (by decide) ?_
        refine lv_iload hx hb d_M_why_303 (lv_at hl 0 rfl) ?_
        refine lv_if_eq (tgt := 310) hx hb d_M_why_305 (by decide) (fun h9 => absurd h9 k_3) (fun _ => ?_)
        refine lv_iconst (v := 3) hx hb d_M_why_308 (by decide) ?_
        exact g_reti S hr hlk G ⟨by first | (simp only [mWA, mPl, eq_false k_1, eq_true k_2, eq_false k_3, eq_false k_4, eq_true c_5, eq_false c_7, eq_false c_8, i10, ↓reduceIte]; done) | (simp only [mWA, mPl, eq_false k_1, eq_true k_2, eq_false k_3, eq_false k_4, eq_true c_5, eq_false c_7, eq_false c_8, i10, ↓reduceIte]; rfl) | rfl, congrArg (wM cA a) (by first | (simp only [mWA, mPl, eq_false k_1, eq_true k_2, eq_false k_3, eq_false k_4, eq_true c_5, eq_false c_7, eq_false c_8, i10, ↓reduceIte]; done) | (simp only [mWA, mPl, eq_false k_1, eq_true k_2, eq_false k_3, eq_false k_4, eq_true c_5, eq_false c_7, eq_false c_8, i10, ↓reduceIte]; rfl) | rfl)⟩ (Nat.le_refl _) (Nat.le_refl _) d_M_why_309
  · refine lv_goto (tgt := 66) hx hb d_M_why_46 (by decide) ?_
    refine lv_iconst (v := 3) hx hb d_M_why_66 (by decide) ?_
    exact g_reti S hr hlk G ⟨by first | (simp only [mWA, mPl, eq_false k_1, eq_true k_2, eq_false k_3, eq_false k_4, eq_false c_5, i10, ↓reduceIte]; done) | (simp only [mWA, mPl, eq_false k_1, eq_true k_2, eq_false k_3, eq_false k_4, eq_false c_5, i10, ↓reduceIte]; rfl) | rfl, congrArg (wM cA a) (by first | (simp only [mWA, mPl, eq_false k_1, eq_true k_2, eq_false k_3, eq_false k_4, eq_false c_5, i10, ↓reduceIte]; done) | (simp only [mWA, mPl, eq_false k_1, eq_true k_2, eq_false k_3, eq_false k_4, eq_false c_5, i10, ↓reduceIte]; rfl) | rfl)⟩ (Nat.le_refl _) (Nat.le_refl _) d_M_why_67

set_option maxHeartbeats 1000000 in
set_option maxRecDepth 100000 in
theorem c_M_why4 (l : Launch) (D : va_G) (cA : ClassId) (a : Nat → Nat) (τ : St) (len : Int32)  : Ci l y_M_why w_M_why rm_M_why D vwCl [(cA, .int)] [.ref (a 0), .int 4, .int len] (wM cA a τ) 0 0 (fun r0 w0 => r0 = mWA (τ 5) len 125 64 ∧ w0 = wM cA a τ) := by
  refine Ci.of (Ts := lw_g) (own := "WireSlaveModel") (cc := b_M_why) (maxL := 7) (ret := (some .int)) (lv := [(0, .ref (a 0)), (1, .int 4), (2, .int len)]) (by decide) rfl rfl (fun w h => List.mem_cons_of_mem _ h) (Nat.le_of_ble_eq_true rfl) rfl ?_
  intro pp ee ss mm args below meth cx AA S hr hlk G ls hl
  have hx := S.1
  have hb := S.2.1
  refine lv_iload_n hx hb d_M_why_0 rfl (lv_at hl 1 rfl) ?_
  refine lv_iconst (v := 1) hx hb d_M_why_1 (by decide) ?_
  have k_1 : ¬ ((4 : Int32) < 1) := by decide
  refine lv_icmp_lt (tgt := 11) hx hb d_M_why_2 (by decide) (fun h9 => absurd h9 k_1) (fun _ => ?_)
  refine lv_iload_n hx hb d_M_why_5 rfl (lv_at hl 1 rfl) ?_
  refine lv_bipush (v := 6) hx hb d_M_why_6 (by decide) ?_
  have k_2 : (4 : Int32) ≤ 6 := by decide
  refine lv_icmp_le (tgt := 23) hx hb d_M_why_8 (by decide) (fun _ => ?_) (fun h9 => absurd k_2 h9)
  refine lv_iconst (v := 1) hx hb d_M_why_23 (by decide) ?_
  refine lv_goto (tgt := 28) hx hb d_M_why_24 (by decide) ?_
  refine lv_istore_n (lv' := [(3, .int 1), (0, .ref (a 0)), (1, .int 4), (2, .int len)]) hx hb d_M_why_28 rfl hl (by decide) rfl (fun ls hl => ?_)
  refine lv_iload_n hx hb d_M_why_29 rfl (lv_at hl 0 rfl) ?_
  have k_3 : ¬ ((1 : Int32) = 0) := by decide
  refine lv_if_ne (tgt := 35) hx hb d_M_why_30 (by decide) (fun _ => ?_) (fun h9 => absurd h9 k_3)
  refine lv_iload_n hx hb d_M_why_35 rfl (lv_at hl 2 rfl) ?_
  refine lv_bipush (v := 7) hx hb d_M_why_36 (by decide) ?_
  have k_4 : ¬ ((7 : Int32) ≤ 4) := by decide
  refine lv_icmp_ge (tgt := 49) hx hb d_M_why_38 (by decide) (fun h9 => absurd h9 k_4) (fun _ => ?_)
  refine lv_iload_n hx hb d_M_why_41 rfl (lv_at hl 3 rfl) ?_
  refine lv_iconst (v := 4) hx hb d_M_why_42 (by decide) ?_
  refine lv_icmp_eq (tgt := 68) hx hb d_M_why_43 (by decide) (fun c_5 => ?_) (fun c_5 => ?_)
  · refine lv_aload_n hx hb d_M_why_68 rfl (lv_at hl 1 rfl) ?_
    refine lv_iconst (v := 2) hx hb d_M_why_69 (by decide) ?_
    refine g_cVi (rest := []) S G (c_M_two l D cA a τ 2 (by unfold vp_in; decide) (by unfold vp_in; decide)) (cwV 1 S.2.2.2.2 ml_M_87 rfl rfl rfl (by decide +kernel) ⟨Nat.le_of_ble_eq_true rfl, Nat.le_of_ble_eq_true rfl⟩) [0, 1, 2, 3, 4, 5, 6, 7] [] rfl rfl rfl rfl (by decide) 0 rfl rfl rfl hl.1 rfl (Nat.le_of_ble_eq_true rfl) d_M_why_70 ⟨Nat.le_of_ble_eq_true rfl, Nat.le_of_ble_eq_true rfl⟩ (fun rp_6 wp_6 H locs hp_6 G => ?_)
    obtain ⟨ep_6, rfl⟩ := hp_6
    have ep_6 : rp_6 = mTwo (τ 5) 2 := ep_6
    replace ep_6 := ep_6.symm
    subst ep_6
    have G : Gw D vwCl [(cA, .int)] AA ss ss.heap H locs (wM cA a τ) := G
    refine lv_istore (lv' := [(4, .int (mTwo (τ 5) 2)), (3, .int 1), (0, .ref (a 0)), (1, .int 4), (2, .int len)]) hx hb d_M_why_73 hl (by decide) rfl (fun ls hl => ?_)
    refine lv_iload_n hx hb d_M_why_75 rfl (lv_at hl 3 rfl) ?_
    refine lv_tableIn (tgt := 180) hx hb d_M_why_76 (by decide) (by decide) (by rfl) (by decide) ?_
    refine lv_iload hx hb d_M_why_180 (lv_at hl 0 rfl) ?_
    refine lv_iconst (v := 1) hx hb d_M_why_182 (by decide) ?_
    refine lv_icmp_lt (tgt := 193) hx hb d_M_why_183 (by decide) (fun c_7 => ?_) (fun c_7 => ?_)
    · refine lv_iconst (v := 1) hx hb d_M_why_193 (by decide) ?_
      refine lv_goto (tgt := 198) hx hb d_M_why_194 (by decide) ?_
      refine lv_istore (lv' := [(5, .int 1), (4, .int (mTwo (τ 5) 2)), (3, .int 1), (0, .ref (a 0)), (1, .int 4), (2, .int len)]) hx hb d_M_why_198 hl (by decide) rfl (fun ls hl => ?_)
      refine lv_goto (tgt := 303) hx hb d_M_why_200 (by decide) ?_
      refine lv_iload hx hb d_M_why_303 (lv_at hl 0 rfl) ?_
      refine lv_if_eq (tgt := 310) hx hb d_M_why_305 (by decide) (fun h9 => absurd h9 k_3) (fun _ => ?_)
      refine lv_iconst (v := 3) hx hb d_M_why_308 (by decide) ?_
      exact g_reti S hr hlk G ⟨by first | (simp only [mWA, mPl, eq_false k_1, eq_true k_2, eq_false k_3, eq_false k_4, eq_true c_5, eq_true c_7, i10, ↓reduceIte]; done) | (simp only [mWA, mPl, eq_false k_1, eq_true k_2, eq_false k_3, eq_false k_4, eq_true c_5, eq_true c_7, i10, ↓reduceIte]; rfl) | rfl, congrArg (wM cA a) (by first | (simp only [mWA, mPl, eq_false k_1, eq_true k_2, eq_false k_3, eq_false k_4, eq_true c_5, eq_true c_7, i10, ↓reduceIte]; done) | (simp only [mWA, mPl, eq_false k_1, eq_true k_2, eq_false k_3, eq_false k_4, eq_true c_5, eq_true c_7, i10, ↓reduceIte]; rfl) | rfl)⟩ (Nat.le_refl _) (Nat.le_refl _) d_M_why_309
    · refine lv_iload hx hb d_M_why_186 (lv_at hl 0 rfl) ?_
      refine lv_bipush (v := 125) hx hb d_M_why_188 (by decide) ?_
      refine lv_icmp_le (tgt := 197) hx hb d_M_why_190 (by decide) (fun c_8 => ?_) (fun c_8 => ?_)
      · refine lv_iconst (v := 0) hx hb d_M_why_197 (by decide) ?_
        refine lv_istore (lv' := [(5, .int 0), (4, .int (mTwo (τ 5) 2)), (3, .int 1), (0, .ref (a 0)), (1, .int 4), (2, .int len)]) hx hb d_M_why_198 hl (by decide) rfl (fun ls hl => ?_)
        refine lv_goto (tgt := 303) hx hb d_M_why_200 (by decide) ?_
        refine lv_iload hx hb d_M_why_303 (lv_at hl 0 rfl) ?_
        have k_9 : (0 : Int32) = 0 := by decide
        refine lv_if_eq (tgt := 310) hx hb d_M_why_305 (by decide) (fun _ => ?_) (fun h9 => absurd k_9 h9)
        refine lv_iload_n hx hb d_M_why_310 rfl (lv_at hl 4 rfl) ?_
        refine lv_iconst (v := 5) hx hb d_M_why_311 (by decide) ?_
        have k_10 : ¬ ((4 : Int32) = 5) := by decide
        refine lv_icmp_eq (tgt := 321) hx hb d_M_why_312 (by decide) (fun h9 => absurd h9 k_10) (fun _ => ?_)
        refine lv_iload_n hx hb d_M_why_315 rfl (lv_at hl 4 rfl) ?_
        refine lv_bipush (v := 6) hx hb d_M_why_316 (by decide) ?_
        have k_11 : ¬ ((4 : Int32) = 6) := by decide
        refine lv_icmp_ne (tgt := 325) hx hb d_M_why_318 (by decide) (fun _ => ?_) (fun h9 => absurd h9 k_11)
        refine lv_iload hx hb d_M_why_325 (lv_at hl 1 rfl) ?_
        refine lv_istore (lv' := [(6, .int (mTwo (τ 5) 2)), (5, .int 0), (4, .int (mTwo (τ 5) 2)), (3, .int 1), (0, .ref (a 0)), (1, .int 4), (2, .int len)]) hx hb d_M_why_327 hl (by decide) rfl (fun ls hl => ?_)
        refine lv_aload_n hx hb d_M_why_329 rfl (lv_at hl 4 rfl) ?_
        refine lv_iconst (v := 0) hx hb d_M_why_330 (by decide) ?_
        refine g_cVi (rest := []) S G (c_M_two l D cA a τ 0 (by unfold vp_in; decide) (by unfold vp_in; decide)) (cwV 1 S.2.2.2.2 ml_M_87 rfl rfl rfl (by decide +kernel) ⟨Nat.le_of_ble_eq_true rfl, Nat.le_of_ble_eq_true rfl⟩) [0, 1, 2, 3, 4, 5, 6, 7] [] rfl rfl rfl rfl (by decide) 0 rfl rfl rfl hl.1 rfl (Nat.le_of_ble_eq_true rfl) d_M_why_331 ⟨Nat.le_of_ble_eq_true rfl, Nat.le_of_ble_eq_true rfl⟩ (fun rp_12 wp_12 H locs hp_12 G => ?_)
        obtain ⟨ep_12, rfl⟩ := hp_12
        have ep_12 : rp_12 = mTwo (τ 5) 0 := ep_12
        replace ep_12 := ep_12.symm
        subst ep_12
        have G : Gw D vwCl [(cA, .int)] AA ss ss.heap H locs (wM cA a τ) := G
        refine lv_iload hx hb d_M_why_334 (lv_at hl 0 rfl) ?_
        refine lv_iadd hx hb d_M_why_336 ?_
        refine lv_aload_n hx hb d_M_why_337 rfl (lv_at hl 4 rfl) ?_
        refine lv_iload_n hx hb d_M_why_338 rfl (lv_at hl 5 rfl) ?_
        refine g_cVq (rest := [.int ((mTwo (τ 5) 0) + (mTwo (τ 5) 2))]) S G (c_M_table l D cA a τ 4) (cwV 1 S.2.2.2.2 ml_M_91 rfl rfl rfl (by decide +kernel) ⟨Nat.le_of_ble_eq_true rfl, Nat.le_of_ble_eq_true rfl⟩) [0, 1, 2, 3, 4, 5, 6, 7] [] rfl rfl rfl rfl (by decide) 0 rfl rfl rfl hl.1 rfl (Nat.le_of_ble_eq_true rfl) d_M_why_339 ⟨Nat.le_of_ble_eq_true rfl, Nat.le_of_ble_eq_true rfl⟩ (fun rp_13 wp_13 H locs hp_13 G => ?_)
        obtain ⟨rfl, rfl⟩ := hp_13
        have G : Gw D vwCl [(cA, .int)] AA ss ss.heap H locs (wM cA a τ) := G
        refine W.eq (g2 := F0 mm 342 ls [.ref (a 4), .int ((mTwo (τ 5) 0) + (mTwo (τ 5) 2))]) rfl ?_
        refine g_alen S G 4 0 rfl rfl 64 rfl d_M_why_342 ?_
        refine lv_icmp_le (tgt := 350) hx hb d_M_why_343 (by decide) (fun c_14 => ?_) (fun c_14 => ?_)
        · refine lv_iconst (v := 0) hx hb d_M_why_350 (by decide) ?_
          exact g_reti S hr hlk G ⟨by first | (simp only [mWA, mPl, eq_false k_1, eq_true k_2, eq_false k_3, eq_false k_4, eq_true c_5, eq_false c_7, eq_true c_8, eq_true k_9, eq_false k_10, eq_false k_11, eq_true c_14, i10, ↓reduceIte]; done) | (simp only [mWA, mPl, eq_false k_1, eq_true k_2, eq_false k_3, eq_false k_4, eq_true c_5, eq_false c_7, eq_true c_8, eq_true k_9, eq_false k_10, eq_false k_11, eq_true c_14, i10, ↓reduceIte]; rfl) | rfl, congrArg (wM cA a) (by first | (simp only [mWA, mPl, eq_false k_1, eq_true k_2, eq_false k_3, eq_false k_4, eq_true c_5, eq_false c_7, eq_true c_8, eq_true k_9, eq_false k_10, eq_false k_11, eq_true c_14, i10, ↓reduceIte]; done) | (simp only [mWA, mPl, eq_false k_1, eq_true k_2, eq_false k_3, eq_false k_4, eq_true c_5, eq_false c_7, eq_true c_8, eq_true k_9, eq_false k_10, eq_false k_11, eq_true c_14, i10, ↓reduceIte]; rfl) | rfl)⟩ (Nat.le_refl _) (Nat.le_refl _) d_M_why_351
        · refine lv_iconst (v := 2) hx hb d_M_why_346 (by decide) ?_
          refine lv_goto (tgt := 351) hx hb d_M_why_347 (by decide) ?_
          exact g_reti S hr hlk G ⟨by first | (simp only [mWA, mPl, eq_false k_1, eq_true k_2, eq_false k_3, eq_false k_4, eq_true c_5, eq_false c_7, eq_true c_8, eq_true k_9, eq_false k_10, eq_false k_11, eq_false c_14, i10, ↓reduceIte]; done) | (simp only [mWA, mPl, eq_false k_1, eq_true k_2, eq_false k_3, eq_false k_4, eq_true c_5, eq_false c_7, eq_true c_8, eq_true k_9, eq_false k_10, eq_false k_11, eq_false c_14, i10, ↓reduceIte]; rfl) | rfl, congrArg (wM cA a) (by first | (simp only [mWA, mPl, eq_false k_1, eq_true k_2, eq_false k_3, eq_false k_4, eq_true c_5, eq_false c_7, eq_true c_8, eq_true k_9, eq_false k_10, eq_false k_11, eq_false c_14, i10, ↓reduceIte]; done) | (simp only [mWA, mPl, eq_false k_1, eq_true k_2, eq_false k_3, eq_false k_4, eq_true c_5, eq_false c_7, eq_true c_8, eq_true k_9, eq_false k_10, eq_false k_11, eq_false c_14, i10, ↓reduceIte]; rfl) | rfl)⟩ (Nat.le_refl _) (Nat.le_refl _) d_M_why_351
      · refine lv_iconst (v := 1) hx hb d_M_why_193 (by decide) ?_
        refine lv_goto (tgt := 198) hx hb d_M_why_194 (by decide) ?_
        refine lv_istore (lv' := [(5, .int 1), (4, .int (mTwo (τ 5) 2)), (3, .int 1), (0, .ref (a 0)), (1, .int 4), (2, .int len)]) hx hb d_M_why_198 hl (by decide) rfl (fun ls hl => ?_)
        refine lv_goto (tgt := 303) hx hb d_M_why_200 (by decide) ?_
        refine lv_iload hx hb d_M_why_303 (lv_at hl 0 rfl) ?_
        refine lv_if_eq (tgt := 310) hx hb d_M_why_305 (by decide) (fun h9 => absurd h9 k_3) (fun _ => ?_)
        refine lv_iconst (v := 3) hx hb d_M_why_308 (by decide) ?_
        exact g_reti S hr hlk G ⟨by first | (simp only [mWA, mPl, eq_false k_1, eq_true k_2, eq_false k_3, eq_false k_4, eq_true c_5, eq_false c_7, eq_false c_8, i10, ↓reduceIte]; done) | (simp only [mWA, mPl, eq_false k_1, eq_true k_2, eq_false k_3, eq_false k_4, eq_true c_5, eq_false c_7, eq_false c_8, i10, ↓reduceIte]; rfl) | rfl, congrArg (wM cA a) (by first | (simp only [mWA, mPl, eq_false k_1, eq_true k_2, eq_false k_3, eq_false k_4, eq_true c_5, eq_false c_7, eq_false c_8, i10, ↓reduceIte]; done) | (simp only [mWA, mPl, eq_false k_1, eq_true k_2, eq_false k_3, eq_false k_4, eq_true c_5, eq_false c_7, eq_false c_8, i10, ↓reduceIte]; rfl) | rfl)⟩ (Nat.le_refl _) (Nat.le_refl _) d_M_why_309
  · refine lv_goto (tgt := 66) hx hb d_M_why_46 (by decide) ?_
    refine lv_iconst (v := 3) hx hb d_M_why_66 (by decide) ?_
    exact g_reti S hr hlk G ⟨by first | (simp only [mWA, mPl, eq_false k_1, eq_true k_2, eq_false k_3, eq_false k_4, eq_false c_5, i10, ↓reduceIte]; done) | (simp only [mWA, mPl, eq_false k_1, eq_true k_2, eq_false k_3, eq_false k_4, eq_false c_5, i10, ↓reduceIte]; rfl) | rfl, congrArg (wM cA a) (by first | (simp only [mWA, mPl, eq_false k_1, eq_true k_2, eq_false k_3, eq_false k_4, eq_false c_5, i10, ↓reduceIte]; done) | (simp only [mWA, mPl, eq_false k_1, eq_true k_2, eq_false k_3, eq_false k_4, eq_false c_5, i10, ↓reduceIte]; rfl) | rfl)⟩ (Nat.le_refl _) (Nat.le_refl _) d_M_why_67

set_option maxHeartbeats 1000000 in
set_option maxRecDepth 100000 in
theorem c_M_why5 (l : Launch) (D : va_G) (cA : ClassId) (a : Nat → Nat) (τ : St) (len : Int32)  : Ci l y_M_why w_M_why rm_M_why D vwCl [(cA, .int)] [.ref (a 0), .int 5, .int len] (wM cA a τ) 0 0 (fun r0 w0 => r0 = mW5 (τ 5) len ∧ w0 = wM cA a τ) := by
  refine Ci.of (Ts := lw_g) (own := "WireSlaveModel") (cc := b_M_why) (maxL := 7) (ret := (some .int)) (lv := [(0, .ref (a 0)), (1, .int 5), (2, .int len)]) (by decide) rfl rfl (fun w h => List.mem_cons_of_mem _ h) (Nat.le_of_ble_eq_true rfl) rfl ?_
  intro pp ee ss mm args below meth cx AA S hr hlk G ls hl
  have hx := S.1
  have hb := S.2.1
  refine lv_iload_n hx hb d_M_why_0 rfl (lv_at hl 1 rfl) ?_
  refine lv_iconst (v := 1) hx hb d_M_why_1 (by decide) ?_
  have k_1 : ¬ ((5 : Int32) < 1) := by decide
  refine lv_icmp_lt (tgt := 11) hx hb d_M_why_2 (by decide) (fun h9 => absurd h9 k_1) (fun _ => ?_)
  refine lv_iload_n hx hb d_M_why_5 rfl (lv_at hl 1 rfl) ?_
  refine lv_bipush (v := 6) hx hb d_M_why_6 (by decide) ?_
  have k_2 : (5 : Int32) ≤ 6 := by decide
  refine lv_icmp_le (tgt := 23) hx hb d_M_why_8 (by decide) (fun _ => ?_) (fun h9 => absurd k_2 h9)
  refine lv_iconst (v := 1) hx hb d_M_why_23 (by decide) ?_
  refine lv_goto (tgt := 28) hx hb d_M_why_24 (by decide) ?_
  refine lv_istore_n (lv' := [(3, .int 1), (0, .ref (a 0)), (1, .int 5), (2, .int len)]) hx hb d_M_why_28 rfl hl (by decide) rfl (fun ls hl => ?_)
  refine lv_iload_n hx hb d_M_why_29 rfl (lv_at hl 0 rfl) ?_
  have k_3 : ¬ ((1 : Int32) = 0) := by decide
  refine lv_if_ne (tgt := 35) hx hb d_M_why_30 (by decide) (fun _ => ?_) (fun h9 => absurd h9 k_3)
  refine lv_iload_n hx hb d_M_why_35 rfl (lv_at hl 2 rfl) ?_
  refine lv_bipush (v := 7) hx hb d_M_why_36 (by decide) ?_
  have k_4 : ¬ ((7 : Int32) ≤ 5) := by decide
  refine lv_icmp_ge (tgt := 49) hx hb d_M_why_38 (by decide) (fun h9 => absurd h9 k_4) (fun _ => ?_)
  refine lv_iload_n hx hb d_M_why_41 rfl (lv_at hl 3 rfl) ?_
  refine lv_iconst (v := 4) hx hb d_M_why_42 (by decide) ?_
  refine lv_icmp_eq (tgt := 68) hx hb d_M_why_43 (by decide) (fun c_5 => ?_) (fun c_5 => ?_)
  · refine lv_aload_n hx hb d_M_why_68 rfl (lv_at hl 1 rfl) ?_
    refine lv_iconst (v := 2) hx hb d_M_why_69 (by decide) ?_
    refine g_cVi (rest := []) S G (c_M_two l D cA a τ 2 (by unfold vp_in; decide) (by unfold vp_in; decide)) (cwV 1 S.2.2.2.2 ml_M_87 rfl rfl rfl (by decide +kernel) ⟨Nat.le_of_ble_eq_true rfl, Nat.le_of_ble_eq_true rfl⟩) [0, 1, 2, 3, 4, 5, 6, 7] [] rfl rfl rfl rfl (by decide) 0 rfl rfl rfl hl.1 rfl (Nat.le_of_ble_eq_true rfl) d_M_why_70 ⟨Nat.le_of_ble_eq_true rfl, Nat.le_of_ble_eq_true rfl⟩ (fun rp_6 wp_6 H locs hp_6 G => ?_)
    obtain ⟨ep_6, rfl⟩ := hp_6
    have ep_6 : rp_6 = mTwo (τ 5) 2 := ep_6
    replace ep_6 := ep_6.symm
    subst ep_6
    have G : Gw D vwCl [(cA, .int)] AA ss ss.heap H locs (wM cA a τ) := G
    refine lv_istore (lv' := [(4, .int (mTwo (τ 5) 2)), (3, .int 1), (0, .ref (a 0)), (1, .int 5), (2, .int len)]) hx hb d_M_why_73 hl (by decide) rfl (fun ls hl => ?_)
    refine lv_iload_n hx hb d_M_why_75 rfl (lv_at hl 3 rfl) ?_
    refine lv_tableIn (tgt := 203) hx hb d_M_why_76 (by decide) (by decide) (by rfl) (by decide) ?_
    refine lv_iload hx hb d_M_why_203 (lv_at hl 0 rfl) ?_
    refine lv_if_eq (tgt := 219) hx hb d_M_why_205 (by decide) (fun c_7 => ?_) (fun c_7 => ?_)
    · refine lv_iconst (v := 0) hx hb d_M_why_219 (by decide) ?_
      refine lv_istore (lv' := [(5, .int 0), (4, .int (mTwo (τ 5) 2)), (3, .int 1), (0, .ref (a 0)), (1, .int 5), (2, .int len)]) hx hb d_M_why_220 hl (by decide) rfl (fun ls hl => ?_)
      refine lv_goto (tgt := 303) hx hb d_M_why_222 (by decide) ?_
      refine lv_iload hx hb d_M_why_303 (lv_at hl 0 rfl) ?_
      have k_8 : (0 : Int32) = 0 := by decide
      refine lv_if_eq (tgt := 310) hx hb d_M_why_305 (by decide) (fun _ => ?_) (fun h9 => absurd k_8 h9)
      refine lv_iload_n hx hb d_M_why_310 rfl (lv_at hl 4 rfl) ?_
      refine lv_iconst (v := 5) hx hb d_M_why_311 (by decide) ?_
      have k_9 : (5 : Int32) = 5 := by decide
      refine lv_icmp_eq (tgt := 321) hx hb d_M_why_312 (by decide) (fun _ => ?_) (fun h9 => absurd k_9 h9)
      refine lv_iconst (v := 1) hx hb d_M_why_321 (by decide) ?_
      refine lv_goto (tgt := 327) hx hb d_M_why_322 (by decide) ?_
      refine lv_istore (lv' := [(6, .int 1), (5, .int 0), (4, .int (mTwo (τ 5) 2)), (3, .int 1), (0, .ref (a 0)), (1, .int 5), (2, .int len)]) hx hb d_M_why_327 hl (by decide) rfl (fun ls hl => ?_)
      refine lv_aload_n hx hb d_M_why_329 rfl (lv_at hl 4 rfl) ?_
      refine lv_iconst (v := 0) hx hb d_M_why_330 (by decide) ?_
      refine g_cVi (rest := []) S G (c_M_two l D cA a τ 0 (by unfold vp_in; decide) (by unfold vp_in; decide)) (cwV 1 S.2.2.2.2 ml_M_87 rfl rfl rfl (by decide +kernel) ⟨Nat.le_of_ble_eq_true rfl, Nat.le_of_ble_eq_true rfl⟩) [0, 1, 2, 3, 4, 5, 6, 7] [] rfl rfl rfl rfl (by decide) 0 rfl rfl rfl hl.1 rfl (Nat.le_of_ble_eq_true rfl) d_M_why_331 ⟨Nat.le_of_ble_eq_true rfl, Nat.le_of_ble_eq_true rfl⟩ (fun rp_10 wp_10 H locs hp_10 G => ?_)
      obtain ⟨ep_10, rfl⟩ := hp_10
      have ep_10 : rp_10 = mTwo (τ 5) 0 := ep_10
      replace ep_10 := ep_10.symm
      subst ep_10
      have G : Gw D vwCl [(cA, .int)] AA ss ss.heap H locs (wM cA a τ) := G
      refine lv_iload hx hb d_M_why_334 (lv_at hl 0 rfl) ?_
      refine lv_iadd hx hb d_M_why_336 ?_
      refine lv_aload_n hx hb d_M_why_337 rfl (lv_at hl 4 rfl) ?_
      refine lv_iload_n hx hb d_M_why_338 rfl (lv_at hl 5 rfl) ?_
      refine g_cVq (rest := [.int ((mTwo (τ 5) 0) + 1)]) S G (c_M_table l D cA a τ 5) (cwV 1 S.2.2.2.2 ml_M_91 rfl rfl rfl (by decide +kernel) ⟨Nat.le_of_ble_eq_true rfl, Nat.le_of_ble_eq_true rfl⟩) [0, 1, 2, 3, 4, 5, 6, 7] [] rfl rfl rfl rfl (by decide) 0 rfl rfl rfl hl.1 rfl (Nat.le_of_ble_eq_true rfl) d_M_why_339 ⟨Nat.le_of_ble_eq_true rfl, Nat.le_of_ble_eq_true rfl⟩ (fun rp_11 wp_11 H locs hp_11 G => ?_)
      obtain ⟨rfl, rfl⟩ := hp_11
      have G : Gw D vwCl [(cA, .int)] AA ss ss.heap H locs (wM cA a τ) := G
      refine W.eq (g2 := F0 mm 342 ls [.ref (a 1), .int ((mTwo (τ 5) 0) + 1)]) rfl ?_
      refine g_alen S G 1 0 rfl rfl 256 rfl d_M_why_342 ?_
      refine lv_icmp_le (tgt := 350) hx hb d_M_why_343 (by decide) (fun c_12 => ?_) (fun c_12 => ?_)
      · refine lv_iconst (v := 0) hx hb d_M_why_350 (by decide) ?_
        exact g_reti S hr hlk G ⟨by first | (simp only [mW5, mPl, eq_false k_1, eq_true k_2, eq_false k_3, eq_false k_4, eq_true c_5, eq_true c_7, eq_true k_8, eq_true k_9, eq_true c_12, i10, ↓reduceIte]; done) | (simp only [mW5, mPl, eq_false k_1, eq_true k_2, eq_false k_3, eq_false k_4, eq_true c_5, eq_true c_7, eq_true k_8, eq_true k_9, eq_true c_12, i10, ↓reduceIte]; rfl) | rfl, congrArg (wM cA a) (by first | (simp only [mW5, mPl, eq_false k_1, eq_true k_2, eq_false k_3, eq_false k_4, eq_true c_5, eq_true c_7, eq_true k_8, eq_true k_9, eq_true c_12, i10, ↓reduceIte]; done) | (simp only [mW5, mPl, eq_false k_1, eq_true k_2, eq_false k_3, eq_false k_4, eq_true c_5, eq_true c_7, eq_true k_8, eq_true k_9, eq_true c_12, i10, ↓reduceIte]; rfl) | rfl)⟩ (Nat.le_refl _) (Nat.le_refl _) d_M_why_351
      · refine lv_iconst (v := 2) hx hb d_M_why_346 (by decide) ?_
        refine lv_goto (tgt := 351) hx hb d_M_why_347 (by decide) ?_
        exact g_reti S hr hlk G ⟨by first | (simp only [mW5, mPl, eq_false k_1, eq_true k_2, eq_false k_3, eq_false k_4, eq_true c_5, eq_true c_7, eq_true k_8, eq_true k_9, eq_false c_12, i10, ↓reduceIte]; done) | (simp only [mW5, mPl, eq_false k_1, eq_true k_2, eq_false k_3, eq_false k_4, eq_true c_5, eq_true c_7, eq_true k_8, eq_true k_9, eq_false c_12, i10, ↓reduceIte]; rfl) | rfl, congrArg (wM cA a) (by first | (simp only [mW5, mPl, eq_false k_1, eq_true k_2, eq_false k_3, eq_false k_4, eq_true c_5, eq_true c_7, eq_true k_8, eq_true k_9, eq_false c_12, i10, ↓reduceIte]; done) | (simp only [mW5, mPl, eq_false k_1, eq_true k_2, eq_false k_3, eq_false k_4, eq_true c_5, eq_true c_7, eq_true k_8, eq_true k_9, eq_false c_12, i10, ↓reduceIte]; rfl) | rfl)⟩ (Nat.le_refl _) (Nat.le_refl _) d_M_why_351
    · refine lv_iload hx hb d_M_why_208 (lv_at hl 0 rfl) ?_
      refine lv_ldc (v := 65280) hx hb S.2.2.2.1 (S.2.2.2.2 _ kn_M_90) d_M_why_210 ?_
      refine lv_icmp_eq (tgt := 219) hx hb d_M_why_212 (by decide) (fun c_13 => ?_) (fun c_13 => ?_)
      · refine lv_iconst (v := 0) hx hb d_M_why_219 (by decide) ?_
        refine lv_istore (lv' := [(5, .int 0), (4, .int (mTwo (τ 5) 2)), (3, .int 1), (0, .ref (a 0)), (1, .int 5), (2, .int len)]) hx hb d_M_why_220 hl (by decide) rfl (fun ls hl => ?_)
        refine lv_goto (tgt := 303) hx hb d_M_why_222 (by decide) ?_
        refine lv_iload hx hb d_M_why_303 (lv_at hl 0 rfl) ?_
        have k_14 : (0 : Int32) = 0 := by decide
        refine lv_if_eq (tgt := 310) hx hb d_M_why_305 (by decide) (fun _ => ?_) (fun h9 => absurd k_14 h9)
        refine lv_iload_n hx hb d_M_why_310 rfl (lv_at hl 4 rfl) ?_
        refine lv_iconst (v := 5) hx hb d_M_why_311 (by decide) ?_
        have k_15 : (5 : Int32) = 5 := by decide
        refine lv_icmp_eq (tgt := 321) hx hb d_M_why_312 (by decide) (fun _ => ?_) (fun h9 => absurd k_15 h9)
        refine lv_iconst (v := 1) hx hb d_M_why_321 (by decide) ?_
        refine lv_goto (tgt := 327) hx hb d_M_why_322 (by decide) ?_
        refine lv_istore (lv' := [(6, .int 1), (5, .int 0), (4, .int (mTwo (τ 5) 2)), (3, .int 1), (0, .ref (a 0)), (1, .int 5), (2, .int len)]) hx hb d_M_why_327 hl (by decide) rfl (fun ls hl => ?_)
        refine lv_aload_n hx hb d_M_why_329 rfl (lv_at hl 4 rfl) ?_
        refine lv_iconst (v := 0) hx hb d_M_why_330 (by decide) ?_
        refine g_cVi (rest := []) S G (c_M_two l D cA a τ 0 (by unfold vp_in; decide) (by unfold vp_in; decide)) (cwV 1 S.2.2.2.2 ml_M_87 rfl rfl rfl (by decide +kernel) ⟨Nat.le_of_ble_eq_true rfl, Nat.le_of_ble_eq_true rfl⟩) [0, 1, 2, 3, 4, 5, 6, 7] [] rfl rfl rfl rfl (by decide) 0 rfl rfl rfl hl.1 rfl (Nat.le_of_ble_eq_true rfl) d_M_why_331 ⟨Nat.le_of_ble_eq_true rfl, Nat.le_of_ble_eq_true rfl⟩ (fun rp_16 wp_16 H locs hp_16 G => ?_)
        obtain ⟨ep_16, rfl⟩ := hp_16
        have ep_16 : rp_16 = mTwo (τ 5) 0 := ep_16
        replace ep_16 := ep_16.symm
        subst ep_16
        have G : Gw D vwCl [(cA, .int)] AA ss ss.heap H locs (wM cA a τ) := G
        refine lv_iload hx hb d_M_why_334 (lv_at hl 0 rfl) ?_
        refine lv_iadd hx hb d_M_why_336 ?_
        refine lv_aload_n hx hb d_M_why_337 rfl (lv_at hl 4 rfl) ?_
        refine lv_iload_n hx hb d_M_why_338 rfl (lv_at hl 5 rfl) ?_
        refine g_cVq (rest := [.int ((mTwo (τ 5) 0) + 1)]) S G (c_M_table l D cA a τ 5) (cwV 1 S.2.2.2.2 ml_M_91 rfl rfl rfl (by decide +kernel) ⟨Nat.le_of_ble_eq_true rfl, Nat.le_of_ble_eq_true rfl⟩) [0, 1, 2, 3, 4, 5, 6, 7] [] rfl rfl rfl rfl (by decide) 0 rfl rfl rfl hl.1 rfl (Nat.le_of_ble_eq_true rfl) d_M_why_339 ⟨Nat.le_of_ble_eq_true rfl, Nat.le_of_ble_eq_true rfl⟩ (fun rp_17 wp_17 H locs hp_17 G => ?_)
        obtain ⟨rfl, rfl⟩ := hp_17
        have G : Gw D vwCl [(cA, .int)] AA ss ss.heap H locs (wM cA a τ) := G
        refine W.eq (g2 := F0 mm 342 ls [.ref (a 1), .int ((mTwo (τ 5) 0) + 1)]) rfl ?_
        refine g_alen S G 1 0 rfl rfl 256 rfl d_M_why_342 ?_
        refine lv_icmp_le (tgt := 350) hx hb d_M_why_343 (by decide) (fun c_18 => ?_) (fun c_18 => ?_)
        · refine lv_iconst (v := 0) hx hb d_M_why_350 (by decide) ?_
          exact g_reti S hr hlk G ⟨by first | (simp only [mW5, mPl, eq_false k_1, eq_true k_2, eq_false k_3, eq_false k_4, eq_true c_5, eq_false c_7, eq_true c_13, eq_true k_14, eq_true k_15, eq_true c_18, i10, ↓reduceIte]; done) | (simp only [mW5, mPl, eq_false k_1, eq_true k_2, eq_false k_3, eq_false k_4, eq_true c_5, eq_false c_7, eq_true c_13, eq_true k_14, eq_true k_15, eq_true c_18, i10, ↓reduceIte]; rfl) | rfl, congrArg (wM cA a) (by first | (simp only [mW5, mPl, eq_false k_1, eq_true k_2, eq_false k_3, eq_false k_4, eq_true c_5, eq_false c_7, eq_true c_13, eq_true k_14, eq_true k_15, eq_true c_18, i10, ↓reduceIte]; done) | (simp only [mW5, mPl, eq_false k_1, eq_true k_2, eq_false k_3, eq_false k_4, eq_true c_5, eq_false c_7, eq_true c_13, eq_true k_14, eq_true k_15, eq_true c_18, i10, ↓reduceIte]; rfl) | rfl)⟩ (Nat.le_refl _) (Nat.le_refl _) d_M_why_351
        · refine lv_iconst (v := 2) hx hb d_M_why_346 (by decide) ?_
          refine lv_goto (tgt := 351) hx hb d_M_why_347 (by decide) ?_
          exact g_reti S hr hlk G ⟨by first | (simp only [mW5, mPl, eq_false k_1, eq_true k_2, eq_false k_3, eq_false k_4, eq_true c_5, eq_false c_7, eq_true c_13, eq_true k_14, eq_true k_15, eq_false c_18, i10, ↓reduceIte]; done) | (simp only [mW5, mPl, eq_false k_1, eq_true k_2, eq_false k_3, eq_false k_4, eq_true c_5, eq_false c_7, eq_true c_13, eq_true k_14, eq_true k_15, eq_false c_18, i10, ↓reduceIte]; rfl) | rfl, congrArg (wM cA a) (by first | (simp only [mW5, mPl, eq_false k_1, eq_true k_2, eq_false k_3, eq_false k_4, eq_true c_5, eq_false c_7, eq_true c_13, eq_true k_14, eq_true k_15, eq_false c_18, i10, ↓reduceIte]; done) | (simp only [mW5, mPl, eq_false k_1, eq_true k_2, eq_false k_3, eq_false k_4, eq_true c_5, eq_false c_7, eq_true c_13, eq_true k_14, eq_true k_15, eq_false c_18, i10, ↓reduceIte]; rfl) | rfl)⟩ (Nat.le_refl _) (Nat.le_refl _) d_M_why_351
      · refine lv_iconst (v := 1) hx hb d_M_why_215 (by decide) ?_
        refine lv_goto (tgt := 220) hx hb d_M_why_216 (by decide) ?_
        refine lv_istore (lv' := [(5, .int 1), (4, .int (mTwo (τ 5) 2)), (3, .int 1), (0, .ref (a 0)), (1, .int 5), (2, .int len)]) hx hb d_M_why_220 hl (by decide) rfl (fun ls hl => ?_)
        refine lv_goto (tgt := 303) hx hb d_M_why_222 (by decide) ?_
        refine lv_iload hx hb d_M_why_303 (lv_at hl 0 rfl) ?_
        refine lv_if_eq (tgt := 310) hx hb d_M_why_305 (by decide) (fun h9 => absurd h9 k_3) (fun _ => ?_)
        refine lv_iconst (v := 3) hx hb d_M_why_308 (by decide) ?_
        exact g_reti S hr hlk G ⟨by first | (simp only [mW5, mPl, eq_false k_1, eq_true k_2, eq_false k_3, eq_false k_4, eq_true c_5, eq_false c_7, eq_false c_13, i10, ↓reduceIte]; done) | (simp only [mW5, mPl, eq_false k_1, eq_true k_2, eq_false k_3, eq_false k_4, eq_true c_5, eq_false c_7, eq_false c_13, i10, ↓reduceIte]; rfl) | rfl, congrArg (wM cA a) (by first | (simp only [mW5, mPl, eq_false k_1, eq_true k_2, eq_false k_3, eq_false k_4, eq_true c_5, eq_false c_7, eq_false c_13, i10, ↓reduceIte]; done) | (simp only [mW5, mPl, eq_false k_1, eq_true k_2, eq_false k_3, eq_false k_4, eq_true c_5, eq_false c_7, eq_false c_13, i10, ↓reduceIte]; rfl) | rfl)⟩ (Nat.le_refl _) (Nat.le_refl _) d_M_why_309
  · refine lv_goto (tgt := 66) hx hb d_M_why_46 (by decide) ?_
    refine lv_iconst (v := 3) hx hb d_M_why_66 (by decide) ?_
    exact g_reti S hr hlk G ⟨by first | (simp only [mW5, mPl, eq_false k_1, eq_true k_2, eq_false k_3, eq_false k_4, eq_false c_5, i10, ↓reduceIte]; done) | (simp only [mW5, mPl, eq_false k_1, eq_true k_2, eq_false k_3, eq_false k_4, eq_false c_5, i10, ↓reduceIte]; rfl) | rfl, congrArg (wM cA a) (by first | (simp only [mW5, mPl, eq_false k_1, eq_true k_2, eq_false k_3, eq_false k_4, eq_false c_5, i10, ↓reduceIte]; done) | (simp only [mW5, mPl, eq_false k_1, eq_true k_2, eq_false k_3, eq_false k_4, eq_false c_5, i10, ↓reduceIte]; rfl) | rfl)⟩ (Nat.le_refl _) (Nat.le_refl _) d_M_why_67

set_option maxHeartbeats 1000000 in
set_option maxRecDepth 100000 in
theorem c_M_why6 (l : Launch) (D : va_G) (cA : ClassId) (a : Nat → Nat) (τ : St) (len : Int32)  : Ci l y_M_why w_M_why rm_M_why D vwCl [(cA, .int)] [.ref (a 0), .int 6, .int len] (wM cA a τ) 0 0 (fun r0 w0 => r0 = mW6 (τ 5) len ∧ w0 = wM cA a τ) := by
  refine Ci.of (Ts := lw_g) (own := "WireSlaveModel") (cc := b_M_why) (maxL := 7) (ret := (some .int)) (lv := [(0, .ref (a 0)), (1, .int 6), (2, .int len)]) (by decide) rfl rfl (fun w h => List.mem_cons_of_mem _ h) (Nat.le_of_ble_eq_true rfl) rfl ?_
  intro pp ee ss mm args below meth cx AA S hr hlk G ls hl
  have hx := S.1
  have hb := S.2.1
  refine lv_iload_n hx hb d_M_why_0 rfl (lv_at hl 1 rfl) ?_
  refine lv_iconst (v := 1) hx hb d_M_why_1 (by decide) ?_
  have k_1 : ¬ ((6 : Int32) < 1) := by decide
  refine lv_icmp_lt (tgt := 11) hx hb d_M_why_2 (by decide) (fun h9 => absurd h9 k_1) (fun _ => ?_)
  refine lv_iload_n hx hb d_M_why_5 rfl (lv_at hl 1 rfl) ?_
  refine lv_bipush (v := 6) hx hb d_M_why_6 (by decide) ?_
  have k_2 : (6 : Int32) ≤ 6 := by decide
  refine lv_icmp_le (tgt := 23) hx hb d_M_why_8 (by decide) (fun _ => ?_) (fun h9 => absurd k_2 h9)
  refine lv_iconst (v := 1) hx hb d_M_why_23 (by decide) ?_
  refine lv_goto (tgt := 28) hx hb d_M_why_24 (by decide) ?_
  refine lv_istore_n (lv' := [(3, .int 1), (0, .ref (a 0)), (1, .int 6), (2, .int len)]) hx hb d_M_why_28 rfl hl (by decide) rfl (fun ls hl => ?_)
  refine lv_iload_n hx hb d_M_why_29 rfl (lv_at hl 0 rfl) ?_
  have k_3 : ¬ ((1 : Int32) = 0) := by decide
  refine lv_if_ne (tgt := 35) hx hb d_M_why_30 (by decide) (fun _ => ?_) (fun h9 => absurd h9 k_3)
  refine lv_iload_n hx hb d_M_why_35 rfl (lv_at hl 2 rfl) ?_
  refine lv_bipush (v := 7) hx hb d_M_why_36 (by decide) ?_
  have k_4 : ¬ ((7 : Int32) ≤ 6) := by decide
  refine lv_icmp_ge (tgt := 49) hx hb d_M_why_38 (by decide) (fun h9 => absurd h9 k_4) (fun _ => ?_)
  refine lv_iload_n hx hb d_M_why_41 rfl (lv_at hl 3 rfl) ?_
  refine lv_iconst (v := 4) hx hb d_M_why_42 (by decide) ?_
  refine lv_icmp_eq (tgt := 68) hx hb d_M_why_43 (by decide) (fun c_5 => ?_) (fun c_5 => ?_)
  · refine lv_aload_n hx hb d_M_why_68 rfl (lv_at hl 1 rfl) ?_
    refine lv_iconst (v := 2) hx hb d_M_why_69 (by decide) ?_
    refine g_cVi (rest := []) S G (c_M_two l D cA a τ 2 (by unfold vp_in; decide) (by unfold vp_in; decide)) (cwV 1 S.2.2.2.2 ml_M_87 rfl rfl rfl (by decide +kernel) ⟨Nat.le_of_ble_eq_true rfl, Nat.le_of_ble_eq_true rfl⟩) [0, 1, 2, 3, 4, 5, 6, 7] [] rfl rfl rfl rfl (by decide) 0 rfl rfl rfl hl.1 rfl (Nat.le_of_ble_eq_true rfl) d_M_why_70 ⟨Nat.le_of_ble_eq_true rfl, Nat.le_of_ble_eq_true rfl⟩ (fun rp_6 wp_6 H locs hp_6 G => ?_)
    obtain ⟨ep_6, rfl⟩ := hp_6
    have ep_6 : rp_6 = mTwo (τ 5) 2 := ep_6
    replace ep_6 := ep_6.symm
    subst ep_6
    have G : Gw D vwCl [(cA, .int)] AA ss ss.heap H locs (wM cA a τ) := G
    refine lv_istore (lv' := [(4, .int (mTwo (τ 5) 2)), (3, .int 1), (0, .ref (a 0)), (1, .int 6), (2, .int len)]) hx hb d_M_why_73 hl (by decide) rfl (fun ls hl => ?_)
    refine lv_iload_n hx hb d_M_why_75 rfl (lv_at hl 3 rfl) ?_
    refine lv_tableIn (tgt := 300) hx hb d_M_why_76 (by decide) (by decide) (by rfl) (by decide) ?_
    refine lv_iconst (v := 0) hx hb d_M_why_300 (by decide) ?_
    refine lv_istore (lv' := [(5, .int 0), (4, .int (mTwo (τ 5) 2)), (3, .int 1), (0, .ref (a 0)), (1, .int 6), (2, .int len)]) hx hb d_M_why_301 hl (by decide) rfl (fun ls hl => ?_)
    refine lv_iload hx hb d_M_why_303 (lv_at hl 0 rfl) ?_
    have k_7 : (0 : Int32) = 0 := by decide
    refine lv_if_eq (tgt := 310) hx hb d_M_why_305 (by decide) (fun _ => ?_) (fun h9 => absurd k_7 h9)
    refine lv_iload_n hx hb d_M_why_310 rfl (lv_at hl 4 rfl) ?_
    refine lv_iconst (v := 5) hx hb d_M_why_311 (by decide) ?_
    have k_8 : ¬ ((6 : Int32) = 5) := by decide
    refine lv_icmp_eq (tgt := 321) hx hb d_M_why_312 (by decide) (fun h9 => absurd h9 k_8) (fun _ => ?_)
    refine lv_iload_n hx hb d_M_why_315 rfl (lv_at hl 4 rfl) ?_
    refine lv_bipush (v := 6) hx hb d_M_why_316 (by decide) ?_
    have k_9 : (6 : Int32) = 6 := by decide
    refine lv_icmp_ne (tgt := 325) hx hb d_M_why_318 (by decide) (fun h9 => absurd k_9 h9) (fun _ => ?_)
    refine lv_iconst (v := 1) hx hb d_M_why_321 (by decide) ?_
    refine lv_goto (tgt := 327) hx hb d_M_why_322 (by decide) ?_
    refine lv_istore (lv' := [(6, .int 1), (5, .int 0), (4, .int (mTwo (τ 5) 2)), (3, .int 1), (0, .ref (a 0)), (1, .int 6), (2, .int len)]) hx hb d_M_why_327 hl (by decide) rfl (fun ls hl => ?_)
    refine lv_aload_n hx hb d_M_why_329 rfl (lv_at hl 4 rfl) ?_
    refine lv_iconst (v := 0) hx hb d_M_why_330 (by decide) ?_
    refine g_cVi (rest := []) S G (c_M_two l D cA a τ 0 (by unfold vp_in; decide) (by unfold vp_in; decide)) (cwV 1 S.2.2.2.2 ml_M_87 rfl rfl rfl (by decide +kernel) ⟨Nat.le_of_ble_eq_true rfl, Nat.le_of_ble_eq_true rfl⟩) [0, 1, 2, 3, 4, 5, 6, 7] [] rfl rfl rfl rfl (by decide) 0 rfl rfl rfl hl.1 rfl (Nat.le_of_ble_eq_true rfl) d_M_why_331 ⟨Nat.le_of_ble_eq_true rfl, Nat.le_of_ble_eq_true rfl⟩ (fun rp_10 wp_10 H locs hp_10 G => ?_)
    obtain ⟨ep_10, rfl⟩ := hp_10
    have ep_10 : rp_10 = mTwo (τ 5) 0 := ep_10
    replace ep_10 := ep_10.symm
    subst ep_10
    have G : Gw D vwCl [(cA, .int)] AA ss ss.heap H locs (wM cA a τ) := G
    refine lv_iload hx hb d_M_why_334 (lv_at hl 0 rfl) ?_
    refine lv_iadd hx hb d_M_why_336 ?_
    refine lv_aload_n hx hb d_M_why_337 rfl (lv_at hl 4 rfl) ?_
    refine lv_iload_n hx hb d_M_why_338 rfl (lv_at hl 5 rfl) ?_
    refine g_cVq (rest := [.int ((mTwo (τ 5) 0) + 1)]) S G (c_M_table l D cA a τ 6) (cwV 1 S.2.2.2.2 ml_M_91 rfl rfl rfl (by decide +kernel) ⟨Nat.le_of_ble_eq_true rfl, Nat.le_of_ble_eq_true rfl⟩) [0, 1, 2, 3, 4, 5, 6, 7] [] rfl rfl rfl rfl (by decide) 0 rfl rfl rfl hl.1 rfl (Nat.le_of_ble_eq_true rfl) d_M_why_339 ⟨Nat.le_of_ble_eq_true rfl, Nat.le_of_ble_eq_true rfl⟩ (fun rp_11 wp_11 H locs hp_11 G => ?_)
    obtain ⟨rfl, rfl⟩ := hp_11
    have G : Gw D vwCl [(cA, .int)] AA ss ss.heap H locs (wM cA a τ) := G
    refine W.eq (g2 := F0 mm 342 ls [.ref (a 3), .int ((mTwo (τ 5) 0) + 1)]) rfl ?_
    refine g_alen S G 3 0 rfl rfl 64 rfl d_M_why_342 ?_
    refine lv_icmp_le (tgt := 350) hx hb d_M_why_343 (by decide) (fun c_12 => ?_) (fun c_12 => ?_)
    · refine lv_iconst (v := 0) hx hb d_M_why_350 (by decide) ?_
      exact g_reti S hr hlk G ⟨by first | (simp only [mW6, mPl, eq_false k_1, eq_true k_2, eq_false k_3, eq_false k_4, eq_true c_5, eq_true k_7, eq_false k_8, eq_true k_9, eq_true c_12, i10, ↓reduceIte]; done) | (simp only [mW6, mPl, eq_false k_1, eq_true k_2, eq_false k_3, eq_false k_4, eq_true c_5, eq_true k_7, eq_false k_8, eq_true k_9, eq_true c_12, i10, ↓reduceIte]; rfl) | rfl, congrArg (wM cA a) (by first | (simp only [mW6, mPl, eq_false k_1, eq_true k_2, eq_false k_3, eq_false k_4, eq_true c_5, eq_true k_7, eq_false k_8, eq_true k_9, eq_true c_12, i10, ↓reduceIte]; done) | (simp only [mW6, mPl, eq_false k_1, eq_true k_2, eq_false k_3, eq_false k_4, eq_true c_5, eq_true k_7, eq_false k_8, eq_true k_9, eq_true c_12, i10, ↓reduceIte]; rfl) | rfl)⟩ (Nat.le_refl _) (Nat.le_refl _) d_M_why_351
    · refine lv_iconst (v := 2) hx hb d_M_why_346 (by decide) ?_
      refine lv_goto (tgt := 351) hx hb d_M_why_347 (by decide) ?_
      exact g_reti S hr hlk G ⟨by first | (simp only [mW6, mPl, eq_false k_1, eq_true k_2, eq_false k_3, eq_false k_4, eq_true c_5, eq_true k_7, eq_false k_8, eq_true k_9, eq_false c_12, i10, ↓reduceIte]; done) | (simp only [mW6, mPl, eq_false k_1, eq_true k_2, eq_false k_3, eq_false k_4, eq_true c_5, eq_true k_7, eq_false k_8, eq_true k_9, eq_false c_12, i10, ↓reduceIte]; rfl) | rfl, congrArg (wM cA a) (by first | (simp only [mW6, mPl, eq_false k_1, eq_true k_2, eq_false k_3, eq_false k_4, eq_true c_5, eq_true k_7, eq_false k_8, eq_true k_9, eq_false c_12, i10, ↓reduceIte]; done) | (simp only [mW6, mPl, eq_false k_1, eq_true k_2, eq_false k_3, eq_false k_4, eq_true c_5, eq_true k_7, eq_false k_8, eq_true k_9, eq_false c_12, i10, ↓reduceIte]; rfl) | rfl)⟩ (Nat.le_refl _) (Nat.le_refl _) d_M_why_351
  · refine lv_goto (tgt := 66) hx hb d_M_why_46 (by decide) ?_
    refine lv_iconst (v := 3) hx hb d_M_why_66 (by decide) ?_
    exact g_reti S hr hlk G ⟨by first | (simp only [mW6, mPl, eq_false k_1, eq_true k_2, eq_false k_3, eq_false k_4, eq_false c_5, i10, ↓reduceIte]; done) | (simp only [mW6, mPl, eq_false k_1, eq_true k_2, eq_false k_3, eq_false k_4, eq_false c_5, i10, ↓reduceIte]; rfl) | rfl, congrArg (wM cA a) (by first | (simp only [mW6, mPl, eq_false k_1, eq_true k_2, eq_false k_3, eq_false k_4, eq_false c_5, i10, ↓reduceIte]; done) | (simp only [mW6, mPl, eq_false k_1, eq_true k_2, eq_false k_3, eq_false k_4, eq_false c_5, i10, ↓reduceIte]; rfl) | rfl)⟩ (Nat.le_refl _) (Nat.le_refl _) d_M_why_67

set_option maxHeartbeats 1000000 in
set_option maxRecDepth 100000 in
theorem c_M_why15 (l : Launch) (D : va_G) (cA : ClassId) (a : Nat → Nat) (τ : St) (len : Int32)  : Ci l y_M_why w_M_why rm_M_why D vwCl [(cA, .int)] [.ref (a 0), .int 15, .int len] (wM cA a τ) 0 0 (fun r0 w0 => r0 = mW15 (τ 5) len ∧ w0 = wM cA a τ) := by
  refine Ci.of (Ts := lw_g) (own := "WireSlaveModel") (cc := b_M_why) (maxL := 7) (ret := (some .int)) (lv := [(0, .ref (a 0)), (1, .int 15), (2, .int len)]) (by decide) rfl rfl (fun w h => List.mem_cons_of_mem _ h) (Nat.le_of_ble_eq_true rfl) rfl ?_
  intro pp ee ss mm args below meth cx AA S hr hlk G ls hl
  have hx := S.1
  have hb := S.2.1
  refine lv_iload_n hx hb d_M_why_0 rfl (lv_at hl 1 rfl) ?_
  refine lv_iconst (v := 1) hx hb d_M_why_1 (by decide) ?_
  have k_1 : ¬ ((15 : Int32) < 1) := by decide
  refine lv_icmp_lt (tgt := 11) hx hb d_M_why_2 (by decide) (fun h9 => absurd h9 k_1) (fun _ => ?_)
  refine lv_iload_n hx hb d_M_why_5 rfl (lv_at hl 1 rfl) ?_
  refine lv_bipush (v := 6) hx hb d_M_why_6 (by decide) ?_
  have k_2 : ¬ ((15 : Int32) ≤ 6) := by decide
  refine lv_icmp_le (tgt := 23) hx hb d_M_why_8 (by decide) (fun h9 => absurd h9 k_2) (fun _ => ?_)
  refine lv_iload_n hx hb d_M_why_11 rfl (lv_at hl 1 rfl) ?_
  refine lv_bipush (v := 15) hx hb d_M_why_12 (by decide) ?_
  have k_3 : (15 : Int32) = 15 := by decide
  refine lv_icmp_eq (tgt := 23) hx hb d_M_why_14 (by decide) (fun _ => ?_) (fun h9 => absurd k_3 h9)
  refine lv_iconst (v := 1) hx hb d_M_why_23 (by decide) ?_
  refine lv_goto (tgt := 28) hx hb d_M_why_24 (by decide) ?_
  refine lv_istore_n (lv' := [(3, .int 1), (0, .ref (a 0)), (1, .int 15), (2, .int len)]) hx hb d_M_why_28 rfl hl (by decide) rfl (fun ls hl => ?_)
  refine lv_iload_n hx hb d_M_why_29 rfl (lv_at hl 0 rfl) ?_
  have k_4 : ¬ ((1 : Int32) = 0) := by decide
  refine lv_if_ne (tgt := 35) hx hb d_M_why_30 (by decide) (fun _ => ?_) (fun h9 => absurd h9 k_4)
  refine lv_iload_n hx hb d_M_why_35 rfl (lv_at hl 2 rfl) ?_
  refine lv_bipush (v := 7) hx hb d_M_why_36 (by decide) ?_
  have k_5 : (7 : Int32) ≤ 15 := by decide
  refine lv_icmp_ge (tgt := 49) hx hb d_M_why_38 (by decide) (fun _ => ?_) (fun h9 => absurd k_5 h9)
  refine lv_iload_n hx hb d_M_why_49 rfl (lv_at hl 3 rfl) ?_
  refine lv_bipush (v := 6) hx hb d_M_why_50 (by decide) ?_
  refine lv_icmp_lt (tgt := 66) hx hb d_M_why_52 (by decide) (fun c_6 => ?_) (fun c_6 => ?_)
  · refine lv_iconst (v := 3) hx hb d_M_why_66 (by decide) ?_
    exact g_reti S hr hlk G ⟨by first | (simp only [mW15, mPl, eq_false k_1, eq_false k_2, eq_true k_3, eq_false k_4, eq_true k_5, eq_true c_6, i10, ↓reduceIte]; done) | (simp only [mW15, mPl, eq_false k_1, eq_false k_2, eq_true k_3, eq_false k_4, eq_true k_5, eq_true c_6, i10, ↓reduceIte]; rfl) | rfl, congrArg (wM cA a) (by first | (simp only [mW15, mPl, eq_false k_1, eq_false k_2, eq_true k_3, eq_false k_4, eq_true k_5, eq_true c_6, i10, ↓reduceIte]; done) | (simp only [mW15, mPl, eq_false k_1, eq_false k_2, eq_true k_3, eq_false k_4, eq_true k_5, eq_true c_6, i10, ↓reduceIte]; rfl) | rfl)⟩ (Nat.le_refl _) (Nat.le_refl _) d_M_why_67
  · refine lv_iload_n hx hb d_M_why_55 rfl (lv_at hl 3 rfl) ?_
    refine lv_iconst (v := 5) hx hb d_M_why_56 (by decide) ?_
    refine lv_aload_n hx hb d_M_why_57 rfl (lv_at hl 1 rfl) ?_
    refine lv_iconst (v := 4) hx hb d_M_why_58 (by decide) ?_
    refine g_cVi (rest := [.int 5, .int len]) S G (c_M_data l D cA a τ 4 (by unfold vp_in; decide)) (cwV 1 S.2.2.2.2 ml_M_64 rfl rfl rfl (by decide +kernel) ⟨Nat.le_of_ble_eq_true rfl, Nat.le_of_ble_eq_true rfl⟩) [0, 1, 2, 3, 4, 5, 6, 7] [] rfl rfl rfl rfl (by decide) 0 rfl rfl rfl hl.1 rfl (Nat.le_of_ble_eq_true rfl) d_M_why_59 ⟨Nat.le_of_ble_eq_true rfl, Nat.le_of_ble_eq_true rfl⟩ (fun rp_7 wp_7 H locs hp_7 G => ?_)
    obtain ⟨ep_7, rfl⟩ := hp_7
    have ep_7 : rp_7 = dM (τ 5) 4 := ep_7
    replace ep_7 := ep_7.symm
    subst ep_7
    have G : Gw D vwCl [(cA, .int)] AA ss ss.heap H locs (wM cA a τ) := G
    refine lv_iadd hx hb d_M_why_62 ?_
    refine lv_icmp_eq (tgt := 68) hx hb d_M_why_63 (by decide) (fun c_8 => ?_) (fun c_8 => ?_)
    · refine lv_aload_n hx hb d_M_why_68 rfl (lv_at hl 1 rfl) ?_
      refine lv_iconst (v := 2) hx hb d_M_why_69 (by decide) ?_
      refine g_cVi (rest := []) S G (c_M_two l D cA a τ 2 (by unfold vp_in; decide) (by unfold vp_in; decide)) (cwV 1 S.2.2.2.2 ml_M_87 rfl rfl rfl (by decide +kernel) ⟨Nat.le_of_ble_eq_true rfl, Nat.le_of_ble_eq_true rfl⟩) [0, 1, 2, 3, 4, 5, 6, 7] [] rfl rfl rfl rfl (by decide) 0 rfl rfl rfl hl.1 rfl (Nat.le_of_ble_eq_true rfl) d_M_why_70 ⟨Nat.le_of_ble_eq_true rfl, Nat.le_of_ble_eq_true rfl⟩ (fun rp_9 wp_9 H locs hp_9 G => ?_)
      obtain ⟨ep_9, rfl⟩ := hp_9
      have ep_9 : rp_9 = mTwo (τ 5) 2 := ep_9
      replace ep_9 := ep_9.symm
      subst ep_9
      have G : Gw D vwCl [(cA, .int)] AA ss ss.heap H locs (wM cA a τ) := G
      refine lv_istore (lv' := [(4, .int (mTwo (τ 5) 2)), (3, .int 1), (0, .ref (a 0)), (1, .int 15), (2, .int len)]) hx hb d_M_why_73 hl (by decide) rfl (fun ls hl => ?_)
      refine lv_iload_n hx hb d_M_why_75 rfl (lv_at hl 3 rfl) ?_
      refine lv_tableIn (tgt := 225) hx hb d_M_why_76 (by decide) (by decide) (by rfl) (by decide) ?_
      refine lv_iload hx hb d_M_why_225 (lv_at hl 0 rfl) ?_
      refine lv_iconst (v := 1) hx hb d_M_why_227 (by decide) ?_
      refine lv_icmp_lt (tgt := 255) hx hb d_M_why_228 (by decide) (fun c_10 => ?_) (fun c_10 => ?_)
      · refine lv_iconst (v := 1) hx hb d_M_why_255 (by decide) ?_
        refine lv_goto (tgt := 260) hx hb d_M_why_256 (by decide) ?_
        refine lv_istore (lv' := [(5, .int 1), (4, .int (mTwo (τ 5) 2)), (3, .int 1), (0, .ref (a 0)), (1, .int 15), (2, .int len)]) hx hb d_M_why_260 hl (by decide) rfl (fun ls hl => ?_)
        refine lv_goto (tgt := 303) hx hb d_M_why_262 (by decide) ?_
        refine lv_iload hx hb d_M_why_303 (lv_at hl 0 rfl) ?_
        refine lv_if_eq (tgt := 310) hx hb d_M_why_305 (by decide) (fun h9 => absurd h9 k_4) (fun _ => ?_)
        refine lv_iconst (v := 3) hx hb d_M_why_308 (by decide) ?_
        exact g_reti S hr hlk G ⟨by first | (simp only [mW15, mPl, eq_false k_1, eq_false k_2, eq_true k_3, eq_false k_4, eq_true k_5, eq_false c_6, eq_true c_8, eq_true c_10, i10, ↓reduceIte]; done) | (simp only [mW15, mPl, eq_false k_1, eq_false k_2, eq_true k_3, eq_false k_4, eq_true k_5, eq_false c_6, eq_true c_8, eq_true c_10, i10, ↓reduceIte]; rfl) | rfl, congrArg (wM cA a) (by first | (simp only [mW15, mPl, eq_false k_1, eq_false k_2, eq_true k_3, eq_false k_4, eq_true k_5, eq_false c_6, eq_true c_8, eq_true c_10, i10, ↓reduceIte]; done) | (simp only [mW15, mPl, eq_false k_1, eq_false k_2, eq_true k_3, eq_false k_4, eq_true k_5, eq_false c_6, eq_true c_8, eq_true c_10, i10, ↓reduceIte]; rfl) | rfl)⟩ (Nat.le_refl _) (Nat.le_refl _) d_M_why_309
      · refine lv_iload hx hb d_M_why_231 (lv_at hl 0 rfl) ?_
        refine lv_sipush (v := 1968) hx hb d_M_why_233 (by decide) ?_
        refine lv_icmp_gt (tgt := 255) hx hb d_M_why_236 (by decide) (fun c_11 => ?_) (fun c_11 => ?_)
        · refine lv_iconst (v := 1) hx hb d_M_why_255 (by decide) ?_
          refine lv_goto (tgt := 260) hx hb d_M_why_256 (by decide) ?_
          refine lv_istore (lv' := [(5, .int 1), (4, .int (mTwo (τ 5) 2)), (3, .int 1), (0, .ref (a 0)), (1, .int 15), (2, .int len)]) hx hb d_M_why_260 hl (by decide) rfl (fun ls hl => ?_)
          refine lv_goto (tgt := 303) hx hb d_M_why_262 (by decide) ?_
          refine lv_iload hx hb d_M_why_303 (lv_at hl 0 rfl) ?_
          refine lv_if_eq (tgt := 310) hx hb d_M_why_305 (by decide) (fun h9 => absurd h9 k_4) (fun _ => ?_)
          refine lv_iconst (v := 3) hx hb d_M_why_308 (by decide) ?_
          exact g_reti S hr hlk G ⟨by first | (simp only [mW15, mPl, eq_false k_1, eq_false k_2, eq_true k_3, eq_false k_4, eq_true k_5, eq_false c_6, eq_true c_8, eq_false c_10, eq_true c_11, i10, ↓reduceIte]; done) | (simp only [mW15, mPl, eq_false k_1, eq_false k_2, eq_true k_3, eq_false k_4, eq_true k_5, eq_false c_6, eq_true c_8, eq_false c_10, eq_true c_11, i10, ↓reduceIte]; rfl) | rfl, congrArg (wM cA a) (by first | (simp only [mW15, mPl, eq_false k_1, eq_false k_2, eq_true k_3, eq_false k_4, eq_true k_5, eq_false c_6, eq_true c_8, eq_false c_10, eq_true c_11, i10, ↓reduceIte]; done) | (simp only [mW15, mPl, eq_false k_1, eq_false k_2, eq_true k_3, eq_false k_4, eq_true k_5, eq_false c_6, eq_true c_8, eq_false c_10, eq_true c_11, i10, ↓reduceIte]; rfl) | rfl)⟩ (Nat.le_refl _) (Nat.le_refl _) d_M_why_309
        · refine lv_aload_n hx hb d_M_why_239 rfl (lv_at hl 2 rfl) ?_
          refine lv_iconst (v := 4) hx hb d_M_why_240 (by decide) ?_
          refine g_cVi (rest := []) S G (c_M_data l D cA a τ 4 (by unfold vp_in; decide)) (cwV 1 S.2.2.2.2 ml_M_64 rfl rfl rfl (by decide +kernel) ⟨Nat.le_of_ble_eq_true rfl, Nat.le_of_ble_eq_true rfl⟩) [0, 1, 2, 3, 4, 5, 6, 7] [] rfl rfl rfl rfl (by decide) 0 rfl rfl rfl hl.1 rfl (Nat.le_of_ble_eq_true rfl) d_M_why_241 ⟨Nat.le_of_ble_eq_true rfl, Nat.le_of_ble_eq_true rfl⟩ (fun rp_12 wp_12 H locs hp_12 G => ?_)
          obtain ⟨ep_12, rfl⟩ := hp_12
          have ep_12 : rp_12 = dM (τ 5) 4 := ep_12
          replace ep_12 := ep_12.symm
          subst ep_12
          have G : Gw D vwCl [(cA, .int)] AA ss ss.heap H locs (wM cA a τ) := G
          refine lv_iload hx hb d_M_why_244 (lv_at hl 0 rfl) ?_
          refine lv_bipush (v := 7) hx hb d_M_why_246 (by decide) ?_
          refine lv_iadd hx hb d_M_why_248 ?_
          refine lv_bipush (v := 8) hx hb d_M_why_249 (by decide) ?_
          refine lv_idiv hx hb d_M_why_251 (by decide) ?_
          refine lv_icmp_eq (tgt := 259) hx hb d_M_why_252 (by decide) (fun c_13 => ?_) (fun c_13 => ?_)
          · refine lv_iconst (v := 0) hx hb d_M_why_259 (by decide) ?_
            refine lv_istore (lv' := [(5, .int 0), (4, .int (mTwo (τ 5) 2)), (3, .int 1), (0, .ref (a 0)), (1, .int 15), (2, .int len)]) hx hb d_M_why_260 hl (by decide) rfl (fun ls hl => ?_)
            refine lv_goto (tgt := 303) hx hb d_M_why_262 (by decide) ?_
            refine lv_iload hx hb d_M_why_303 (lv_at hl 0 rfl) ?_
            have k_14 : (0 : Int32) = 0 := by decide
            refine lv_if_eq (tgt := 310) hx hb d_M_why_305 (by decide) (fun _ => ?_) (fun h9 => absurd k_14 h9)
            refine lv_iload_n hx hb d_M_why_310 rfl (lv_at hl 4 rfl) ?_
            refine lv_iconst (v := 5) hx hb d_M_why_311 (by decide) ?_
            have k_15 : ¬ ((15 : Int32) = 5) := by decide
            refine lv_icmp_eq (tgt := 321) hx hb d_M_why_312 (by decide) (fun h9 => absurd h9 k_15) (fun _ => ?_)
            refine lv_iload_n hx hb d_M_why_315 rfl (lv_at hl 4 rfl) ?_
            refine lv_bipush (v := 6) hx hb d_M_why_316 (by decide) ?_
            have k_16 : ¬ ((15 : Int32) = 6) := by decide
            refine lv_icmp_ne (tgt := 325) hx hb d_M_why_318 (by decide) (fun _ => ?_) (fun h9 => absurd h9 k_16)
            refine lv_iload hx hb d_M_why_325 (lv_at hl 1 rfl) ?_
            refine lv_istore (lv' := [(6, .int (mTwo (τ 5) 2)), (5, .int 0), (4, .int (mTwo (τ 5) 2)), (3, .int 1), (0, .ref (a 0)), (1, .int 15), (2, .int len)]) hx hb d_M_why_327 hl (by decide) rfl (fun ls hl => ?_)
            refine lv_aload_n hx hb d_M_why_329 rfl (lv_at hl 4 rfl) ?_
            refine lv_iconst (v := 0) hx hb d_M_why_330 (by decide) ?_
            refine g_cVi (rest := []) S G (c_M_two l D cA a τ 0 (by unfold vp_in; decide) (by unfold vp_in; decide)) (cwV 1 S.2.2.2.2 ml_M_87 rfl rfl rfl (by decide +kernel) ⟨Nat.le_of_ble_eq_true rfl, Nat.le_of_ble_eq_true rfl⟩) [0, 1, 2, 3, 4, 5, 6, 7] [] rfl rfl rfl rfl (by decide) 0 rfl rfl rfl hl.1 rfl (Nat.le_of_ble_eq_true rfl) d_M_why_331 ⟨Nat.le_of_ble_eq_true rfl, Nat.le_of_ble_eq_true rfl⟩ (fun rp_17 wp_17 H locs hp_17 G => ?_)
            obtain ⟨ep_17, rfl⟩ := hp_17
            have ep_17 : rp_17 = mTwo (τ 5) 0 := ep_17
            replace ep_17 := ep_17.symm
            subst ep_17
            have G : Gw D vwCl [(cA, .int)] AA ss ss.heap H locs (wM cA a τ) := G
            refine lv_iload hx hb d_M_why_334 (lv_at hl 0 rfl) ?_
            refine lv_iadd hx hb d_M_why_336 ?_
            refine lv_aload_n hx hb d_M_why_337 rfl (lv_at hl 4 rfl) ?_
            refine lv_iload_n hx hb d_M_why_338 rfl (lv_at hl 5 rfl) ?_
            refine g_cVq (rest := [.int ((mTwo (τ 5) 0) + (mTwo (τ 5) 2))]) S G (c_M_table l D cA a τ 15) (cwV 1 S.2.2.2.2 ml_M_91 rfl rfl rfl (by decide +kernel) ⟨Nat.le_of_ble_eq_true rfl, Nat.le_of_ble_eq_true rfl⟩) [0, 1, 2, 3, 4, 5, 6, 7] [] rfl rfl rfl rfl (by decide) 0 rfl rfl rfl hl.1 rfl (Nat.le_of_ble_eq_true rfl) d_M_why_339 ⟨Nat.le_of_ble_eq_true rfl, Nat.le_of_ble_eq_true rfl⟩ (fun rp_18 wp_18 H locs hp_18 G => ?_)
            obtain ⟨rfl, rfl⟩ := hp_18
            have G : Gw D vwCl [(cA, .int)] AA ss ss.heap H locs (wM cA a τ) := G
            refine W.eq (g2 := F0 mm 342 ls [.ref (a 1), .int ((mTwo (τ 5) 0) + (mTwo (τ 5) 2))]) rfl ?_
            refine g_alen S G 1 0 rfl rfl 256 rfl d_M_why_342 ?_
            refine lv_icmp_le (tgt := 350) hx hb d_M_why_343 (by decide) (fun c_19 => ?_) (fun c_19 => ?_)
            · refine lv_iconst (v := 0) hx hb d_M_why_350 (by decide) ?_
              exact g_reti S hr hlk G ⟨by first | (simp only [mW15, mPl, eq_false k_1, eq_false k_2, eq_true k_3, eq_false k_4, eq_true k_5, eq_false c_6, eq_true c_8, eq_false c_10, eq_false c_11, eq_true c_13, eq_true k_14, eq_false k_15, eq_false k_16, eq_true c_19, i10, ↓reduceIte]; done) | (simp only [mW15, mPl, eq_false k_1, eq_false k_2, eq_true k_3, eq_false k_4, eq_true k_5, eq_false c_6, eq_true c_8, eq_false c_10, eq_false c_11, eq_true c_13, eq_true k_14, eq_false k_15, eq_false k_16, eq_true c_19, i10, ↓reduceIte]; rfl) | rfl, congrArg (wM cA a) (by first | (simp only [mW15, mPl, eq_false k_1, eq_false k_2, eq_true k_3, eq_false k_4, eq_true k_5, eq_false c_6, eq_true c_8, eq_false c_10, eq_false c_11, eq_true c_13, eq_true k_14, eq_false k_15, eq_false k_16, eq_true c_19, i10, ↓reduceIte]; done) | (simp only [mW15, mPl, eq_false k_1, eq_false k_2, eq_true k_3, eq_false k_4, eq_true k_5, eq_false c_6, eq_true c_8, eq_false c_10, eq_false c_11, eq_true c_13, eq_true k_14, eq_false k_15, eq_false k_16, eq_true c_19, i10, ↓reduceIte]; rfl) | rfl)⟩ (Nat.le_refl _) (Nat.le_refl _) d_M_why_351
            · refine lv_iconst (v := 2) hx hb d_M_why_346 (by decide) ?_
              refine lv_goto (tgt := 351) hx hb d_M_why_347 (by decide) ?_
              exact g_reti S hr hlk G ⟨by first | (simp only [mW15, mPl, eq_false k_1, eq_false k_2, eq_true k_3, eq_false k_4, eq_true k_5, eq_false c_6, eq_true c_8, eq_false c_10, eq_false c_11, eq_true c_13, eq_true k_14, eq_false k_15, eq_false k_16, eq_false c_19, i10, ↓reduceIte]; done) | (simp only [mW15, mPl, eq_false k_1, eq_false k_2, eq_true k_3, eq_false k_4, eq_true k_5, eq_false c_6, eq_true c_8, eq_false c_10, eq_false c_11, eq_true c_13, eq_true k_14, eq_false k_15, eq_false k_16, eq_false c_19, i10, ↓reduceIte]; rfl) | rfl, congrArg (wM cA a) (by first | (simp only [mW15, mPl, eq_false k_1, eq_false k_2, eq_true k_3, eq_false k_4, eq_true k_5, eq_false c_6, eq_true c_8, eq_false c_10, eq_false c_11, eq_true c_13, eq_true k_14, eq_false k_15, eq_false k_16, eq_false c_19, i10, ↓reduceIte]; done) | (simp only [mW15, mPl, eq_false k_1, eq_false k_2, eq_true k_3, eq_false k_4, eq_true k_5, eq_false c_6, eq_true c_8, eq_false c_10, eq_false c_11, eq_true c_13, eq_true k_14, eq_false k_15, eq_false k_16, eq_false c_19, i10, ↓reduceIte]; rfl) | rfl)⟩ (Nat.le_refl _) (Nat.le_refl _) d_M_why_351
          · refine lv_iconst (v := 1) hx hb d_M_why_255 (by decide) ?_
            refine lv_goto (tgt := 260) hx hb d_M_why_256 (by decide) ?_
            refine lv_istore (lv' := [(5, .int 1), (4, .int (mTwo (τ 5) 2)), (3, .int 1), (0, .ref (a 0)), (1, .int 15), (2, .int len)]) hx hb d_M_why_260 hl (by decide) rfl (fun ls hl => ?_)
            refine lv_goto (tgt := 303) hx hb d_M_why_262 (by decide) ?_
            refine lv_iload hx hb d_M_why_303 (lv_at hl 0 rfl) ?_
            refine lv_if_eq (tgt := 310) hx hb d_M_why_305 (by decide) (fun h9 => absurd h9 k_4) (fun _ => ?_)
            refine lv_iconst (v := 3) hx hb d_M_why_308 (by decide) ?_
            exact g_reti S hr hlk G ⟨by first | (simp only [mW15, mPl, eq_false k_1, eq_false k_2, eq_true k_3, eq_false k_4, eq_true k_5, eq_false c_6, eq_true c_8, eq_false c_10, eq_false c_11, eq_false c_13, i10, ↓reduceIte]; done) | (simp only [mW15, mPl, eq_false k_1, eq_false k_2, eq_true k_3, eq_false k_4, eq_true k_5, eq_false c_6, eq_true c_8, eq_false c_10, eq_false c_11, eq_false c_13, i10, ↓reduceIte]; rfl) | rfl, congrArg (wM cA a) (by first | (simp only [mW15, mPl, eq_false k_1, eq_false k_2, eq_true k_3, eq_false k_4, eq_true k_5, eq_false c_6, eq_true c_8, eq_false c_10, eq_false c_11, eq_false c_13, i10, ↓reduceIte]; done) | (simp only [mW15, mPl, eq_false k_1, eq_false k_2, eq_true k_3, eq_false k_4, eq_true k_5, eq_false c_6, eq_true c_8, eq_false c_10, eq_false c_11, eq_false c_13, i10, ↓reduceIte]; rfl) | rfl)⟩ (Nat.le_refl _) (Nat.le_refl _) d_M_why_309
    · refine lv_iconst (v := 3) hx hb d_M_why_66 (by decide) ?_
      exact g_reti S hr hlk G ⟨by first | (simp only [mW15, mPl, eq_false k_1, eq_false k_2, eq_true k_3, eq_false k_4, eq_true k_5, eq_false c_6, eq_false c_8, i10, ↓reduceIte]; done) | (simp only [mW15, mPl, eq_false k_1, eq_false k_2, eq_true k_3, eq_false k_4, eq_true k_5, eq_false c_6, eq_false c_8, i10, ↓reduceIte]; rfl) | rfl, congrArg (wM cA a) (by first | (simp only [mW15, mPl, eq_false k_1, eq_false k_2, eq_true k_3, eq_false k_4, eq_true k_5, eq_false c_6, eq_false c_8, i10, ↓reduceIte]; done) | (simp only [mW15, mPl, eq_false k_1, eq_false k_2, eq_true k_3, eq_false k_4, eq_true k_5, eq_false c_6, eq_false c_8, i10, ↓reduceIte]; rfl) | rfl)⟩ (Nat.le_refl _) (Nat.le_refl _) d_M_why_67

set_option maxHeartbeats 1000000 in
set_option maxRecDepth 100000 in
theorem c_M_why16 (l : Launch) (D : va_G) (cA : ClassId) (a : Nat → Nat) (τ : St) (len : Int32)  : Ci l y_M_why w_M_why rm_M_why D vwCl [(cA, .int)] [.ref (a 0), .int 16, .int len] (wM cA a τ) 0 0 (fun r0 w0 => r0 = mW16 (τ 5) len ∧ w0 = wM cA a τ) := by
  refine Ci.of (Ts := lw_g) (own := "WireSlaveModel") (cc := b_M_why) (maxL := 7) (ret := (some .int)) (lv := [(0, .ref (a 0)), (1, .int 16), (2, .int len)]) (by decide) rfl rfl (fun w h => List.mem_cons_of_mem _ h) (Nat.le_of_ble_eq_true rfl) rfl ?_
  intro pp ee ss mm args below meth cx AA S hr hlk G ls hl
  have hx := S.1
  have hb := S.2.1
  refine lv_iload_n hx hb d_M_why_0 rfl (lv_at hl 1 rfl) ?_
  refine lv_iconst (v := 1) hx hb d_M_why_1 (by decide) ?_
  have k_1 : ¬ ((16 : Int32) < 1) := by decide
  refine lv_icmp_lt (tgt := 11) hx hb d_M_why_2 (by decide) (fun h9 => absurd h9 k_1) (fun _ => ?_)
  refine lv_iload_n hx hb d_M_why_5 rfl (lv_at hl 1 rfl) ?_
  refine lv_bipush (v := 6) hx hb d_M_why_6 (by decide) ?_
  have k_2 : ¬ ((16 : Int32) ≤ 6) := by decide
  refine lv_icmp_le (tgt := 23) hx hb d_M_why_8 (by decide) (fun h9 => absurd h9 k_2) (fun _ => ?_)
  refine lv_iload_n hx hb d_M_why_11 rfl (lv_at hl 1 rfl) ?_
  refine lv_bipush (v := 15) hx hb d_M_why_12 (by decide) ?_
  have k_3 : ¬ ((16 : Int32) = 15) := by decide
  refine lv_icmp_eq (tgt := 23) hx hb d_M_why_14 (by decide) (fun h9 => absurd h9 k_3) (fun _ => ?_)
  refine lv_iload_n hx hb d_M_why_17 rfl (lv_at hl 1 rfl) ?_
  refine lv_bipush (v := 16) hx hb d_M_why_18 (by decide) ?_
  have k_4 : (16 : Int32) = 16 := by decide
  refine lv_icmp_ne (tgt := 27) hx hb d_M_why_20 (by decide) (fun h9 => absurd k_4 h9) (fun _ => ?_)
  refine lv_iconst (v := 1) hx hb d_M_why_23 (by decide) ?_
  refine lv_goto (tgt := 28) hx hb d_M_why_24 (by decide) ?_
  refine lv_istore_n (lv' := [(3, .int 1), (0, .ref (a 0)), (1, .int 16), (2, .int len)]) hx hb d_M_why_28 rfl hl (by decide) rfl (fun ls hl => ?_)
  refine lv_iload_n hx hb d_M_why_29 rfl (lv_at hl 0 rfl) ?_
  have k_5 : ¬ ((1 : Int32) = 0) := by decide
  refine lv_if_ne (tgt := 35) hx hb d_M_why_30 (by decide) (fun _ => ?_) (fun h9 => absurd h9 k_5)
  refine lv_iload_n hx hb d_M_why_35 rfl (lv_at hl 2 rfl) ?_
  refine lv_bipush (v := 7) hx hb d_M_why_36 (by decide) ?_
  have k_6 : (7 : Int32) ≤ 16 := by decide
  refine lv_icmp_ge (tgt := 49) hx hb d_M_why_38 (by decide) (fun _ => ?_) (fun h9 => absurd k_6 h9)
  refine lv_iload_n hx hb d_M_why_49 rfl (lv_at hl 3 rfl) ?_
  refine lv_bipush (v := 6) hx hb d_M_why_50 (by decide) ?_
  refine lv_icmp_lt (tgt := 66) hx hb d_M_why_52 (by decide) (fun c_7 => ?_) (fun c_7 => ?_)
  · refine lv_iconst (v := 3) hx hb d_M_why_66 (by decide) ?_
    exact g_reti S hr hlk G ⟨by first | (simp only [mW16, mPl, eq_false k_1, eq_false k_2, eq_false k_3, eq_true k_4, eq_false k_5, eq_true k_6, eq_true c_7, i10, ↓reduceIte]; done) | (simp only [mW16, mPl, eq_false k_1, eq_false k_2, eq_false k_3, eq_true k_4, eq_false k_5, eq_true k_6, eq_true c_7, i10, ↓reduceIte]; rfl) | rfl, congrArg (wM cA a) (by first | (simp only [mW16, mPl, eq_false k_1, eq_false k_2, eq_false k_3, eq_true k_4, eq_false k_5, eq_true k_6, eq_true c_7, i10, ↓reduceIte]; done) | (simp only [mW16, mPl, eq_false k_1, eq_false k_2, eq_false k_3, eq_true k_4, eq_false k_5, eq_true k_6, eq_true c_7, i10, ↓reduceIte]; rfl) | rfl)⟩ (Nat.le_refl _) (Nat.le_refl _) d_M_why_67
  · refine lv_iload_n hx hb d_M_why_55 rfl (lv_at hl 3 rfl) ?_
    refine lv_iconst (v := 5) hx hb d_M_why_56 (by decide) ?_
    refine lv_aload_n hx hb d_M_why_57 rfl (lv_at hl 1 rfl) ?_
    refine lv_iconst (v := 4) hx hb d_M_why_58 (by decide) ?_
    refine g_cVi (rest := [.int 5, .int len]) S G (c_M_data l D cA a τ 4 (by unfold vp_in; decide)) (cwV 1 S.2.2.2.2 ml_M_64 rfl rfl rfl (by decide +kernel) ⟨Nat.le_of_ble_eq_true rfl, Nat.le_of_ble_eq_true rfl⟩) [0, 1, 2, 3, 4, 5, 6, 7] [] rfl rfl rfl rfl (by decide) 0 rfl rfl rfl hl.1 rfl (Nat.le_of_ble_eq_true rfl) d_M_why_59 ⟨Nat.le_of_ble_eq_true rfl, Nat.le_of_ble_eq_true rfl⟩ (fun rp_8 wp_8 H locs hp_8 G => ?_)
    obtain ⟨ep_8, rfl⟩ := hp_8
    have ep_8 : rp_8 = dM (τ 5) 4 := ep_8
    replace ep_8 := ep_8.symm
    subst ep_8
    have G : Gw D vwCl [(cA, .int)] AA ss ss.heap H locs (wM cA a τ) := G
    refine lv_iadd hx hb d_M_why_62 ?_
    refine lv_icmp_eq (tgt := 68) hx hb d_M_why_63 (by decide) (fun c_9 => ?_) (fun c_9 => ?_)
    · refine lv_aload_n hx hb d_M_why_68 rfl (lv_at hl 1 rfl) ?_
      refine lv_iconst (v := 2) hx hb d_M_why_69 (by decide) ?_
      refine g_cVi (rest := []) S G (c_M_two l D cA a τ 2 (by unfold vp_in; decide) (by unfold vp_in; decide)) (cwV 1 S.2.2.2.2 ml_M_87 rfl rfl rfl (by decide +kernel) ⟨Nat.le_of_ble_eq_true rfl, Nat.le_of_ble_eq_true rfl⟩) [0, 1, 2, 3, 4, 5, 6, 7] [] rfl rfl rfl rfl (by decide) 0 rfl rfl rfl hl.1 rfl (Nat.le_of_ble_eq_true rfl) d_M_why_70 ⟨Nat.le_of_ble_eq_true rfl, Nat.le_of_ble_eq_true rfl⟩ (fun rp_10 wp_10 H locs hp_10 G => ?_)
      obtain ⟨ep_10, rfl⟩ := hp_10
      have ep_10 : rp_10 = mTwo (τ 5) 2 := ep_10
      replace ep_10 := ep_10.symm
      subst ep_10
      have G : Gw D vwCl [(cA, .int)] AA ss ss.heap H locs (wM cA a τ) := G
      refine lv_istore (lv' := [(4, .int (mTwo (τ 5) 2)), (3, .int 1), (0, .ref (a 0)), (1, .int 16), (2, .int len)]) hx hb d_M_why_73 hl (by decide) rfl (fun ls hl => ?_)
      refine lv_iload_n hx hb d_M_why_75 rfl (lv_at hl 3 rfl) ?_
      refine lv_tableIn (tgt := 265) hx hb d_M_why_76 (by decide) (by decide) (by rfl) (by decide) ?_
      refine lv_iload hx hb d_M_why_265 (lv_at hl 0 rfl) ?_
      refine lv_iconst (v := 1) hx hb d_M_why_267 (by decide) ?_
      refine lv_icmp_lt (tgt := 290) hx hb d_M_why_268 (by decide) (fun c_11 => ?_) (fun c_11 => ?_)
      · refine lv_iconst (v := 1) hx hb d_M_why_290 (by decide) ?_
        refine lv_goto (tgt := 295) hx hb d_M_why_291 (by decide) ?_
        refine lv_istore (lv' := [(5, .int 1), (4, .int (mTwo (τ 5) 2)), (3, .int 1), (0, .ref (a 0)), (1, .int 16), (2, .int len)]) hx hb d_M_why_295 hl (by decide) rfl (fun ls hl => ?_)
        refine lv_goto (tgt := 303) hx hb d_M_why_297 (by decide) ?_
        refine lv_iload hx hb d_M_why_303 (lv_at hl 0 rfl) ?_
        refine lv_if_eq (tgt := 310) hx hb d_M_why_305 (by decide) (fun h9 => absurd h9 k_5) (fun _ => ?_)
        refine lv_iconst (v := 3) hx hb d_M_why_308 (by decide) ?_
        exact g_reti S hr hlk G ⟨by first | (simp only [mW16, mPl, eq_false k_1, eq_false k_2, eq_false k_3, eq_true k_4, eq_false k_5, eq_true k_6, eq_false c_7, eq_true c_9, eq_true c_11, i10, ↓reduceIte]; done) | (simp only [mW16, mPl, eq_false k_1, eq_false k_2, eq_false k_3, eq_true k_4, eq_false k_5, eq_true k_6, eq_false c_7, eq_true c_9, eq_true c_11, i10, ↓reduceIte]; rfl) | rfl, congrArg (wM cA a) (by first | (simp only [mW16, mPl, eq_false k_1, eq_false k_2, eq_false k_3, eq_true k_4, eq_false k_5, eq_true k_6, eq_false c_7, eq_true c_9, eq_true c_11, i10, ↓reduceIte]; done) | (simp only [mW16, mPl, eq_false k_1, eq_false k_2, eq_false k_3, eq_true k_4, eq_false k_5, eq_true k_6, eq_false c_7, eq_true c_9, eq_true c_11, i10, ↓reduceIte]; rfl) | rfl)⟩ (Nat.le_refl _) (Nat.le_refl _) d_M_why_309
      · refine lv_iload hx hb d_M_why_271 (lv_at hl 0 rfl) ?_
        refine lv_bipush (v := 123) hx hb d_M_why_273 (by decide) ?_
        refine lv_icmp_gt (tgt := 290) hx hb d_M_why_275 (by decide) (fun c_12 => ?_) (fun c_12 => ?_)
        · refine lv_iconst (v := 1) hx hb d_M_why_290 (by decide) ?_
          refine lv_goto (tgt := 295) hx hb d_M_why_291 (by decide) ?_
          refine lv_istore (lv' := [(5, .int 1), (4, .int (mTwo (τ 5) 2)), (3, .int 1), (0, .ref (a 0)), (1, .int 16), (2, .int len)]) hx hb d_M_why_295 hl (by decide) rfl (fun ls hl => ?_)
          refine lv_goto (tgt := 303) hx hb d_M_why_297 (by decide) ?_
          refine lv_iload hx hb d_M_why_303 (lv_at hl 0 rfl) ?_
          refine lv_if_eq (tgt := 310) hx hb d_M_why_305 (by decide) (fun h9 => absurd h9 k_5) (fun _ => ?_)
          refine lv_iconst (v := 3) hx hb d_M_why_308 (by decide) ?_
          exact g_reti S hr hlk G ⟨by first | (simp only [mW16, mPl, eq_false k_1, eq_false k_2, eq_false k_3, eq_true k_4, eq_false k_5, eq_true k_6, eq_false c_7, eq_true c_9, eq_false c_11, eq_true c_12, i10, ↓reduceIte]; done) | (simp only [mW16, mPl, eq_false k_1, eq_false k_2, eq_false k_3, eq_true k_4, eq_false k_5, eq_true k_6, eq_false c_7, eq_true c_9, eq_false c_11, eq_true c_12, i10, ↓reduceIte]; rfl) | rfl, congrArg (wM cA a) (by first | (simp only [mW16, mPl, eq_false k_1, eq_false k_2, eq_false k_3, eq_true k_4, eq_false k_5, eq_true k_6, eq_false c_7, eq_true c_9, eq_false c_11, eq_true c_12, i10, ↓reduceIte]; done) | (simp only [mW16, mPl, eq_false k_1, eq_false k_2, eq_false k_3, eq_true k_4, eq_false k_5, eq_true k_6, eq_false c_7, eq_true c_9, eq_false c_11, eq_true c_12, i10, ↓reduceIte]; rfl) | rfl)⟩ (Nat.le_refl _) (Nat.le_refl _) d_M_why_309
        · refine lv_aload_n hx hb d_M_why_278 rfl (lv_at hl 2 rfl) ?_
          refine lv_iconst (v := 4) hx hb d_M_why_279 (by decide) ?_
          refine g_cVi (rest := []) S G (c_M_data l D cA a τ 4 (by unfold vp_in; decide)) (cwV 1 S.2.2.2.2 ml_M_64 rfl rfl rfl (by decide +kernel) ⟨Nat.le_of_ble_eq_true rfl, Nat.le_of_ble_eq_true rfl⟩) [0, 1, 2, 3, 4, 5, 6, 7] [] rfl rfl rfl rfl (by decide) 0 rfl rfl rfl hl.1 rfl (Nat.le_of_ble_eq_true rfl) d_M_why_280 ⟨Nat.le_of_ble_eq_true rfl, Nat.le_of_ble_eq_true rfl⟩ (fun rp_13 wp_13 H locs hp_13 G => ?_)
          obtain ⟨ep_13, rfl⟩ := hp_13
          have ep_13 : rp_13 = dM (τ 5) 4 := ep_13
          replace ep_13 := ep_13.symm
          subst ep_13
          have G : Gw D vwCl [(cA, .int)] AA ss ss.heap H locs (wM cA a τ) := G
          refine lv_iconst (v := 2) hx hb d_M_why_283 (by decide) ?_
          refine lv_iload hx hb d_M_why_284 (lv_at hl 0 rfl) ?_
          refine lv_imul hx hb d_M_why_286 ?_
          refine lv_icmp_eq (tgt := 294) hx hb d_M_why_287 (by decide) (fun c_14 => ?_) (fun c_14 => ?_)
          · refine lv_iconst (v := 0) hx hb d_M_why_294 (by decide) ?_
            refine lv_istore (lv' := [(5, .int 0), (4, .int (mTwo (τ 5) 2)), (3, .int 1), (0, .ref (a 0)), (1, .int 16), (2, .int len)]) hx hb d_M_why_295 hl (by decide) rfl (fun ls hl => ?_)
            refine lv_goto (tgt := 303) hx hb d_M_why_297 (by decide) ?_
            refine lv_iload hx hb d_M_why_303 (lv_at hl 0 rfl) ?_
            have k_15 : (0 : Int32) = 0 := by decide
            refine lv_if_eq (tgt := 310) hx hb d_M_why_305 (by decide) (fun _ => ?_) (fun h9 => absurd k_15 h9)
            refine lv_iload_n hx hb d_M_why_310 rfl (lv_at hl 4 rfl) ?_
            refine lv_iconst (v := 5) hx hb d_M_why_311 (by decide) ?_
            have k_16 : ¬ ((16 : Int32) = 5) := by decide
            refine lv_icmp_eq (tgt := 321) hx hb d_M_why_312 (by decide) (fun h9 => absurd h9 k_16) (fun _ => ?_)
            refine lv_iload_n hx hb d_M_why_315 rfl (lv_at hl 4 rfl) ?_
            refine lv_bipush (v := 6) hx hb d_M_why_316 (by decide) ?_
            have k_17 : ¬ ((16 : Int32) = 6) := by decide
            refine lv_icmp_ne (tgt := 325) hx hb d_M_why_318 (by decide) (fun _ => ?_) (fun h9 => absurd h9 k_17)
            refine lv_iload hx hb d_M_why_325 (lv_at hl 1 rfl) ?_
            refine lv_istore (lv' := [(6, .int (mTwo (τ 5) 2)), (5, .int 0), (4, .int (mTwo (τ 5) 2)), (3, .int 1), (0, .ref (a 0)), (1, .int 16), (2, .int len)]) hx hb d_M_why_327 hl (by decide) rfl (fun ls hl => ?_)
            refine lv_aload_n hx hb d_M_why_329 rfl (lv_at hl 4 rfl) ?_
            refine lv_iconst (v := 0) hx hb d_M_why_330 (by decide) ?_
            refine g_cVi (rest := []) S G (c_M_two l D cA a τ 0 (by unfold vp_in; decide) (by unfold vp_in; decide)) (cwV 1 S.2.2.2.2 ml_M_87 rfl rfl rfl (by decide +kernel) ⟨Nat.le_of_ble_eq_true rfl, Nat.le_of_ble_eq_true rfl⟩) [0, 1, 2, 3, 4, 5, 6, 7] [] rfl rfl rfl rfl (by decide) 0 rfl rfl rfl hl.1 rfl (Nat.le_of_ble_eq_true rfl) d_M_why_331 ⟨Nat.le_of_ble_eq_true rfl, Nat.le_of_ble_eq_true rfl⟩ (fun rp_18 wp_18 H locs hp_18 G => ?_)
            obtain ⟨ep_18, rfl⟩ := hp_18
            have ep_18 : rp_18 = mTwo (τ 5) 0 := ep_18
            replace ep_18 := ep_18.symm
            subst ep_18
            have G : Gw D vwCl [(cA, .int)] AA ss ss.heap H locs (wM cA a τ) := G
            refine lv_iload hx hb d_M_why_334 (lv_at hl 0 rfl) ?_
            refine lv_iadd hx hb d_M_why_336 ?_
            refine lv_aload_n hx hb d_M_why_337 rfl (lv_at hl 4 rfl) ?_
            refine lv_iload_n hx hb d_M_why_338 rfl (lv_at hl 5 rfl) ?_
            refine g_cVq (rest := [.int ((mTwo (τ 5) 0) + (mTwo (τ 5) 2))]) S G (c_M_table l D cA a τ 16) (cwV 1 S.2.2.2.2 ml_M_91 rfl rfl rfl (by decide +kernel) ⟨Nat.le_of_ble_eq_true rfl, Nat.le_of_ble_eq_true rfl⟩) [0, 1, 2, 3, 4, 5, 6, 7] [] rfl rfl rfl rfl (by decide) 0 rfl rfl rfl hl.1 rfl (Nat.le_of_ble_eq_true rfl) d_M_why_339 ⟨Nat.le_of_ble_eq_true rfl, Nat.le_of_ble_eq_true rfl⟩ (fun rp_19 wp_19 H locs hp_19 G => ?_)
            obtain ⟨rfl, rfl⟩ := hp_19
            have G : Gw D vwCl [(cA, .int)] AA ss ss.heap H locs (wM cA a τ) := G
            refine W.eq (g2 := F0 mm 342 ls [.ref (a 3), .int ((mTwo (τ 5) 0) + (mTwo (τ 5) 2))]) rfl ?_
            refine g_alen S G 3 0 rfl rfl 64 rfl d_M_why_342 ?_
            refine lv_icmp_le (tgt := 350) hx hb d_M_why_343 (by decide) (fun c_20 => ?_) (fun c_20 => ?_)
            · refine lv_iconst (v := 0) hx hb d_M_why_350 (by decide) ?_
              exact g_reti S hr hlk G ⟨by first | (simp only [mW16, mPl, eq_false k_1, eq_false k_2, eq_false k_3, eq_true k_4, eq_false k_5, eq_true k_6, eq_false c_7, eq_true c_9, eq_false c_11, eq_false c_12, eq_true c_14, eq_true k_15, eq_false k_16, eq_false k_17, eq_true c_20, i10, ↓reduceIte]; done) | (simp only [mW16, mPl, eq_false k_1, eq_false k_2, eq_false k_3, eq_true k_4, eq_false k_5, eq_true k_6, eq_false c_7, eq_true c_9, eq_false c_11, eq_false c_12, eq_true c_14, eq_true k_15, eq_false k_16, eq_false k_17, eq_true c_20, i10, ↓reduceIte]; rfl) | rfl, congrArg (wM cA a) (by first | (simp only [mW16, mPl, eq_false k_1, eq_false k_2, eq_false k_3, eq_true k_4, eq_false k_5, eq_true k_6, eq_false c_7, eq_true c_9, eq_false c_11, eq_false c_12, eq_true c_14, eq_true k_15, eq_false k_16, eq_false k_17, eq_true c_20, i10, ↓reduceIte]; done) | (simp only [mW16, mPl, eq_false k_1, eq_false k_2, eq_false k_3, eq_true k_4, eq_false k_5, eq_true k_6, eq_false c_7, eq_true c_9, eq_false c_11, eq_false c_12, eq_true c_14, eq_true k_15, eq_false k_16, eq_false k_17, eq_true c_20, i10, ↓reduceIte]; rfl) | rfl)⟩ (Nat.le_refl _) (Nat.le_refl _) d_M_why_351
            · refine lv_iconst (v := 2) hx hb d_M_why_346 (by decide) ?_
              refine lv_goto (tgt := 351) hx hb d_M_why_347 (by decide) ?_
              exact g_reti S hr hlk G ⟨by first | (simp only [mW16, mPl, eq_false k_1, eq_false k_2, eq_false k_3, eq_true k_4, eq_false k_5, eq_true k_6, eq_false c_7, eq_true c_9, eq_false c_11, eq_false c_12, eq_true c_14, eq_true k_15, eq_false k_16, eq_false k_17, eq_false c_20, i10, ↓reduceIte]; done) | (simp only [mW16, mPl, eq_false k_1, eq_false k_2, eq_false k_3, eq_true k_4, eq_false k_5, eq_true k_6, eq_false c_7, eq_true c_9, eq_false c_11, eq_false c_12, eq_true c_14, eq_true k_15, eq_false k_16, eq_false k_17, eq_false c_20, i10, ↓reduceIte]; rfl) | rfl, congrArg (wM cA a) (by first | (simp only [mW16, mPl, eq_false k_1, eq_false k_2, eq_false k_3, eq_true k_4, eq_false k_5, eq_true k_6, eq_false c_7, eq_true c_9, eq_false c_11, eq_false c_12, eq_true c_14, eq_true k_15, eq_false k_16, eq_false k_17, eq_false c_20, i10, ↓reduceIte]; done) | (simp only [mW16, mPl, eq_false k_1, eq_false k_2, eq_false k_3, eq_true k_4, eq_false k_5, eq_true k_6, eq_false c_7, eq_true c_9, eq_false c_11, eq_false c_12, eq_true c_14, eq_true k_15, eq_false k_16, eq_false k_17, eq_false c_20, i10, ↓reduceIte]; rfl) | rfl)⟩ (Nat.le_refl _) (Nat.le_refl _) d_M_why_351
          · refine lv_iconst (v := 1) hx hb d_M_why_290 (by decide) ?_
            refine lv_goto (tgt := 295) hx hb d_M_why_291 (by decide) ?_
            refine lv_istore (lv' := [(5, .int 1), (4, .int (mTwo (τ 5) 2)), (3, .int 1), (0, .ref (a 0)), (1, .int 16), (2, .int len)]) hx hb d_M_why_295 hl (by decide) rfl (fun ls hl => ?_)
            refine lv_goto (tgt := 303) hx hb d_M_why_297 (by decide) ?_
            refine lv_iload hx hb d_M_why_303 (lv_at hl 0 rfl) ?_
            refine lv_if_eq (tgt := 310) hx hb d_M_why_305 (by decide) (fun h9 => absurd h9 k_5) (fun _ => ?_)
            refine lv_iconst (v := 3) hx hb d_M_why_308 (by decide) ?_
            exact g_reti S hr hlk G ⟨by first | (simp only [mW16, mPl, eq_false k_1, eq_false k_2, eq_false k_3, eq_true k_4, eq_false k_5, eq_true k_6, eq_false c_7, eq_true c_9, eq_false c_11, eq_false c_12, eq_false c_14, i10, ↓reduceIte]; done) | (simp only [mW16, mPl, eq_false k_1, eq_false k_2, eq_false k_3, eq_true k_4, eq_false k_5, eq_true k_6, eq_false c_7, eq_true c_9, eq_false c_11, eq_false c_12, eq_false c_14, i10, ↓reduceIte]; rfl) | rfl, congrArg (wM cA a) (by first | (simp only [mW16, mPl, eq_false k_1, eq_false k_2, eq_false k_3, eq_true k_4, eq_false k_5, eq_true k_6, eq_false c_7, eq_true c_9, eq_false c_11, eq_false c_12, eq_false c_14, i10, ↓reduceIte]; done) | (simp only [mW16, mPl, eq_false k_1, eq_false k_2, eq_false k_3, eq_true k_4, eq_false k_5, eq_true k_6, eq_false c_7, eq_true c_9, eq_false c_11, eq_false c_12, eq_false c_14, i10, ↓reduceIte]; rfl) | rfl)⟩ (Nat.le_refl _) (Nat.le_refl _) d_M_why_309
    · refine lv_iconst (v := 3) hx hb d_M_why_66 (by decide) ?_
      exact g_reti S hr hlk G ⟨by first | (simp only [mW16, mPl, eq_false k_1, eq_false k_2, eq_false k_3, eq_true k_4, eq_false k_5, eq_true k_6, eq_false c_7, eq_false c_9, i10, ↓reduceIte]; done) | (simp only [mW16, mPl, eq_false k_1, eq_false k_2, eq_false k_3, eq_true k_4, eq_false k_5, eq_true k_6, eq_false c_7, eq_false c_9, i10, ↓reduceIte]; rfl) | rfl, congrArg (wM cA a) (by first | (simp only [mW16, mPl, eq_false k_1, eq_false k_2, eq_false k_3, eq_true k_4, eq_false k_5, eq_true k_6, eq_false c_7, eq_false c_9, i10, ↓reduceIte]; done) | (simp only [mW16, mPl, eq_false k_1, eq_false k_2, eq_false k_3, eq_true k_4, eq_false k_5, eq_true k_6, eq_false c_7, eq_false c_9, i10, ↓reduceIte]; rfl) | rfl)⟩ (Nat.le_refl _) (Nat.le_refl _) d_M_why_67

set_option maxHeartbeats 1000000 in
set_option maxRecDepth 100000 in
theorem c_M_why0 (l : Launch) (D : va_G) (cA : ClassId) (a : Nat → Nat) (τ : St) (f len : Int32) (hs : (¬ f = 1 ∧ ¬ f = 2 ∧ ¬ f = 3) ∧ (¬ f = 4 ∧ ¬ f = 5 ∧ ¬ f = 6)) (h15 : ¬ f = 15) (h16 : ¬ f = 16) : Ci l y_M_why w_M_why rm_M_why D vwCl [(cA, .int)] [.ref (a 0), .int f, .int len] (wM cA a τ) 0 0 (fun r0 w0 => r0 = 1 ∧ w0 = wM cA a τ) := by
  refine Ci.of (Ts := lw_g) (own := "WireSlaveModel") (cc := b_M_why) (maxL := 7) (ret := (some .int)) (lv := [(0, .ref (a 0)), (1, .int f), (2, .int len)]) (by decide) rfl rfl (fun w h => List.mem_cons_of_mem _ h) (Nat.le_of_ble_eq_true rfl) rfl ?_
  intro pp ee ss mm args below meth cx AA S hr hlk G ls hl
  have hx := S.1
  have hb := S.2.1
  refine lv_iload_n hx hb d_M_why_0 rfl (lv_at hl 1 rfl) ?_
  refine lv_iconst (v := 1) hx hb d_M_why_1 (by decide) ?_
  refine lv_icmp_lt (tgt := 11) hx hb d_M_why_2 (by decide) (fun c_1 => ?_) (fun c_1 => ?_)
  · refine lv_iload_n hx hb d_M_why_11 rfl (lv_at hl 1 rfl) ?_
    refine lv_bipush (v := 15) hx hb d_M_why_12 (by decide) ?_
    have k_2 : ¬ (f = 15) := h15
    refine lv_icmp_eq (tgt := 23) hx hb d_M_why_14 (by decide) (fun h9 => absurd h9 k_2) (fun _ => ?_)
    refine lv_iload_n hx hb d_M_why_17 rfl (lv_at hl 1 rfl) ?_
    refine lv_bipush (v := 16) hx hb d_M_why_18 (by decide) ?_
    have k_3 : ¬ (f = 16) := h16
    refine lv_icmp_ne (tgt := 27) hx hb d_M_why_20 (by decide) (fun _ => ?_) (fun h9 => absurd h9 k_3)
    refine lv_iconst (v := 0) hx hb d_M_why_27 (by decide) ?_
    refine lv_istore_n (lv' := [(3, .int 0), (0, .ref (a 0)), (1, .int f), (2, .int len)]) hx hb d_M_why_28 rfl hl (by decide) rfl (fun ls hl => ?_)
    refine lv_iload_n hx hb d_M_why_29 rfl (lv_at hl 0 rfl) ?_
    have k_4 : (0 : Int32) = 0 := by decide
    refine lv_if_ne (tgt := 35) hx hb d_M_why_30 (by decide) (fun h9 => absurd k_4 h9) (fun _ => ?_)
    refine lv_iconst (v := 1) hx hb d_M_why_33 (by decide) ?_
    exact g_reti S hr hlk G ⟨by first | (simp only [eq_true c_1, eq_false k_2, eq_false k_3, eq_true k_4, i10, ↓reduceIte]; done) | (simp only [eq_true c_1, eq_false k_2, eq_false k_3, eq_true k_4, i10, ↓reduceIte]; rfl) | rfl, congrArg (wM cA a) (by first | (simp only [eq_true c_1, eq_false k_2, eq_false k_3, eq_true k_4, i10, ↓reduceIte]; done) | (simp only [eq_true c_1, eq_false k_2, eq_false k_3, eq_true k_4, i10, ↓reduceIte]; rfl) | rfl)⟩ (Nat.le_refl _) (Nat.le_refl _) d_M_why_34
  · refine lv_iload_n hx hb d_M_why_5 rfl (lv_at hl 1 rfl) ?_
    refine lv_bipush (v := 6) hx hb d_M_why_6 (by decide) ?_
    have k_5 : ¬ (f ≤ 6) := not_known hs c_1
    refine lv_icmp_le (tgt := 23) hx hb d_M_why_8 (by decide) (fun h9 => absurd h9 k_5) (fun _ => ?_)
    refine lv_iload_n hx hb d_M_why_11 rfl (lv_at hl 1 rfl) ?_
    refine lv_bipush (v := 15) hx hb d_M_why_12 (by decide) ?_
    have k_6 : ¬ (f = 15) := h15
    refine lv_icmp_eq (tgt := 23) hx hb d_M_why_14 (by decide) (fun h9 => absurd h9 k_6) (fun _ => ?_)
    refine lv_iload_n hx hb d_M_why_17 rfl (lv_at hl 1 rfl) ?_
    refine lv_bipush (v := 16) hx hb d_M_why_18 (by decide) ?_
    have k_7 : ¬ (f = 16) := h16
    refine lv_icmp_ne (tgt := 27) hx hb d_M_why_20 (by decide) (fun _ => ?_) (fun h9 => absurd h9 k_7)
    refine lv_iconst (v := 0) hx hb d_M_why_27 (by decide) ?_
    refine lv_istore_n (lv' := [(3, .int 0), (0, .ref (a 0)), (1, .int f), (2, .int len)]) hx hb d_M_why_28 rfl hl (by decide) rfl (fun ls hl => ?_)
    refine lv_iload_n hx hb d_M_why_29 rfl (lv_at hl 0 rfl) ?_
    have k_8 : (0 : Int32) = 0 := by decide
    refine lv_if_ne (tgt := 35) hx hb d_M_why_30 (by decide) (fun h9 => absurd k_8 h9) (fun _ => ?_)
    refine lv_iconst (v := 1) hx hb d_M_why_33 (by decide) ?_
    exact g_reti S hr hlk G ⟨by first | (simp only [eq_false c_1, eq_false k_5, eq_false k_6, eq_false k_7, eq_true k_8, i10, ↓reduceIte]; done) | (simp only [eq_false c_1, eq_false k_5, eq_false k_6, eq_false k_7, eq_true k_8, i10, ↓reduceIte]; rfl) | rfl, congrArg (wM cA a) (by first | (simp only [eq_false c_1, eq_false k_5, eq_false k_6, eq_false k_7, eq_true k_8, i10, ↓reduceIte]; done) | (simp only [eq_false c_1, eq_false k_5, eq_false k_6, eq_false k_7, eq_true k_8, i10, ↓reduceIte]; rfl) | rfl)⟩ (Nat.le_refl _) (Nat.le_refl _) d_M_why_34

set_option maxHeartbeats 1000000 in
theorem c_M_why (l : Launch) (D : va_G) (cA : ClassId) (a : Nat → Nat) (τ : St) (f len : Int32) : Ci l y_M_why w_M_why rm_M_why D vwCl [(cA, .int)] [.ref (a 0), .int f, .int len] (wM cA a τ) 0 0 (fun r0 w0 => r0 = mWhy (τ 5) f len ∧ w0 = wM cA a τ) := by
  by_cases h1 : f = 1
  · subst h1; exact c_M_why1 l D cA a τ len
  by_cases h2 : f = 2
  · subst h2; exact c_M_why2 l D cA a τ len
  by_cases h3 : f = 3
  · subst h3; exact c_M_why3 l D cA a τ len
  by_cases h4 : f = 4
  · subst h4; exact c_M_why4 l D cA a τ len
  by_cases h5 : f = 5
  · subst h5; exact c_M_why5 l D cA a τ len
  by_cases h6 : f = 6
  · subst h6; exact c_M_why6 l D cA a τ len
  by_cases h15 : f = 15
  · subst h15; exact c_M_why15 l D cA a τ len
  by_cases h16 : f = 16
  · subst h16; exact c_M_why16 l D cA a τ len
  have e : mWhy (τ 5) f len = 1 := by simp only [mWhy, eq_false h1, eq_false h2, eq_false h3, eq_false h4, eq_false h5, eq_false h6, eq_false h15, eq_false h16, ↓reduceIte]
  rw [e]
  exact c_M_why0 l D cA a τ f len ⟨⟨h1, h2, h3⟩, ⟨h4, h5, h6⟩⟩ h15 h16
