abbrev rm_M_rest : Room := { frames := 4, cells := 0, slots := 0, locals := 91 }
set_option maxHeartbeats 1000000 in
set_option maxRecDepth 100000 in
theorem c_M_rest (l : Launch) (D : va_G) (cA : ClassId) (a : Nat → Nat) (τ : St) (q : Int32) (N a1 n1 : Nat) (hm : τ 0 2 = nI N) (hN : N ≤ 257) (hs : τ 0 4 = 0 → N ≤ 256) (ha : mTwo (τ 5) 0 = nI a1) (hn : mTwo (τ 5) 2 = nI n1) (HB : mWhy (τ 5) (τ 5 1) (nI N - 4) = 0 → mBd (τ 5 1) a1 n1) : Ci l y_M_rest w_M_rest rm_M_rest D vwCl [(cA, .int)] [.ref (a 0), .int q] (wM cA a τ) 0 0 (fun r0 w0 => r0 = mRestR τ q N a1 n1 ∧ w0 = wM cA a (mRest τ q N a1 n1)) := by
  refine Ci.of (Ts := lw_g) (own := "WireSlaveModel") (cc := b_M_rest) (maxL := 3) (ret := (some .int)) (lv := [(0, .ref (a 0)), (1, .int q)]) (by decide) rfl rfl (fun w h => List.mem_cons_of_mem _ h) (Nat.le_of_ble_eq_true rfl) rfl ?_
  intro pp ee ss mm args below meth cx AA S hr hlk G ls hl
  have hx := S.1
  have hb := S.2.1
  refine lv_aload_n hx hb d_M_rest_0 rfl (lv_at hl 0 rfl) ?_
  refine lv_iconst (v := 0) hx hb d_M_rest_1 (by decide) ?_
  refine g_put S G in_M ft_M tok_M nm_M 0 rfl rfl 0 (by decide) fl_M_35 rfl rfl rfl (Nat.le_of_ble_eq_true rfl) (wM cA a (sU τ 0 0 0)) (wm_pthrown cA a _ _) d_M_rest_2 (fun H locs G => ?_)
  refine lv_iload_n hx hb d_M_rest_5 rfl (lv_at hl 1 rfl) ?_
  refine lv_if_lt (tgt := 16) hx hb d_M_rest_6 (by decide) (fun c_1 => ?_) (fun c_1 => ?_)
  · refine lv_iconst (v := (-1)) hx hb d_M_rest_16 (by decide) ?_
    exact g_reti S hr hlk G ⟨by first | (simp only [mRestR, mRest, mRs, mT, eq_true c_1, i10, ↓reduceIte]; done) | (simp only [mRestR, mRest, mRs, mT, eq_true c_1, i10, ↓reduceIte]; rfl) | rfl, congrArg (wM cA a) (by first | (simp only [mRestR, mRest, mRs, mT, eq_true c_1, i10, ↓reduceIte]; done) | (simp only [mRestR, mRest, mRs, mT, eq_true c_1, i10, ↓reduceIte]; rfl) | rfl)⟩ (Nat.le_refl _) (Nat.le_refl _) d_M_rest_17
  · refine lv_iload_n hx hb d_M_rest_9 rfl (lv_at hl 1 rfl) ?_
    refine lv_sipush (v := 1000) hx hb d_M_rest_10 (by decide) ?_
    refine lv_icmp_le (tgt := 18) hx hb d_M_rest_13 (by decide) (fun c_2 => ?_) (fun c_2 => ?_)
    · refine lv_aload_n hx hb d_M_rest_18 rfl (lv_at hl 0 rfl) ?_
      refine lv_dup hx hb d_M_rest_19 rfl ?_
      refine g_get (v := .int (τ 0 3)) S G in_M 0 rfl rfl 8 (by decide) fl_M_45 rfl d_M_rest_20 ?_
      refine lv_iload_n hx hb d_M_rest_23 rfl (lv_at hl 1 rfl) ?_
      refine lv_iadd hx hb d_M_rest_24 ?_
      refine g_put S G in_M ft_M tok_M nm_M 0 rfl rfl 8 (by decide) fl_M_45 rfl rfl rfl (Nat.le_of_ble_eq_true rfl) (wM cA a (sU (sU τ 0 0 0) 0 3 ((τ 0 3) + q))) (wm_pgap cA a _ _) d_M_rest_25 (fun H locs G => ?_)
      refine lv_aload_n hx hb d_M_rest_28 rfl (lv_at hl 0 rfl) ?_
      refine g_get (v := .int (τ 0 2)) S G in_M 0 rfl rfl 7 (by decide) fl_M_42 rfl d_M_rest_29 ?_
      refine lv_if_eq (tgt := 44) hx hb d_M_rest_32 (by decide) (fun c_3 => ?_) (fun c_3 => ?_)
      · refine lv_aload_n hx hb d_M_rest_44 rfl (lv_at hl 0 rfl) ?_
        refine lv_aload_n hx hb d_M_rest_45 rfl (lv_at hl 0 rfl) ?_
        refine g_get (v := .int (τ 0 2)) S G in_M 0 rfl rfl 7 (by decide) fl_M_42 rfl d_M_rest_46 ?_
        refine lv_if_ne (tgt := 56) hx hb d_M_rest_49 (by decide) (fun h9 => absurd c_3 h9) (fun _ => ?_)
        refine lv_iconst (v := 0) hx hb d_M_rest_52 (by decide) ?_
        refine lv_goto (tgt := 60) hx hb d_M_rest_53 (by decide) ?_
        refine g_put S G in_M ft_M tok_M nm_M 0 rfl rfl 8 (by decide) fl_M_45 rfl rfl rfl (Nat.le_of_ble_eq_true rfl) (wM cA a (sU (sU (sU τ 0 0 0) 0 3 ((τ 0 3) + q)) 0 3 0)) (wm_pgap cA a _ _) d_M_rest_60 (fun H locs G => ?_)
        refine lv_bipush (v := (-2)) hx hb d_M_rest_63 (by decide) ?_
        exact g_reti S hr hlk G ⟨by first | (simp only [mRestR, mRest, mRs, mT, eq_false c_1, eq_true c_2, eq_true c_3, i10, ↓reduceIte]; done) | (simp only [mRestR, mRest, mRs, mT, eq_false c_1, eq_true c_2, eq_true c_3, i10, ↓reduceIte]; rfl) | rfl, congrArg (wM cA a) (by first | (simp only [mRestR, mRest, mRs, mT, eq_false c_1, eq_true c_2, eq_true c_3, i10, ↓reduceIte]; done) | (simp only [mRestR, mRest, mRs, mT, eq_false c_1, eq_true c_2, eq_true c_3, i10, ↓reduceIte]; rfl) | rfl)⟩ (Nat.le_refl _) (Nat.le_refl _) d_M_rest_65
      · refine lv_aload_n hx hb d_M_rest_35 rfl (lv_at hl 0 rfl) ?_
        refine g_get (v := .int ((τ 0 3) + q)) S G in_M 0 rfl rfl 8 (by decide) fl_M_45 rfl d_M_rest_36 ?_
        refine lv_bipush (v := 14) hx hb d_M_rest_39 (by decide) ?_
        refine lv_icmp_ge (tgt := 66) hx hb d_M_rest_41 (by decide) (fun c_4 => ?_) (fun c_4 => ?_)
        · refine lv_aload_n hx hb d_M_rest_66 rfl (lv_at hl 0 rfl) ?_
          refine g_cVi (rest := []) S G (c_M_ends l D cA a (sU (sU τ 0 0 0) 0 3 ((τ 0 3) + q)) N a1 n1 hm hN hs ha hn HB) (cwV 0 S.2.2.2.2 ml_M_54 rfl rfl rfl (by decide +kernel) ⟨Nat.le_of_ble_eq_true rfl, Nat.le_of_ble_eq_true rfl⟩) [0, 1, 2, 3, 4, 5, 6, 7] [] rfl rfl rfl rfl (by decide) 0 rfl rfl rfl hl.1 rfl (Nat.le_of_ble_eq_true rfl) d_M_rest_67 ⟨Nat.le_of_ble_eq_true rfl, Nat.le_of_ble_eq_true rfl⟩ (fun rp_5 wp_5 H locs hp_5 G => ?_)
          obtain ⟨ep_5, rfl⟩ := hp_5
          replace ep_5 := ep_5.symm
          subst ep_5
          have G : Gw D vwCl [(cA, .int)] AA ss ss.heap H locs (wM cA a (mEnds (sU (sU τ 0 0 0) 0 3 ((τ 0 3) + q)) N a1 n1)) := G
          refine lv_istore_n (lv' := [(2, .int (mEndsR (sU (sU τ 0 0 0) 0 3 ((τ 0 3) + q)) N a1 n1)), (0, .ref (a 0)), (1, .int q)]) hx hb d_M_rest_70 rfl hl (by decide) rfl (fun ls hl => ?_)
          refine lv_aload_n hx hb d_M_rest_71 rfl (lv_at hl 1 rfl) ?_
          refine lv_iconst (v := 0) hx hb d_M_rest_72 (by decide) ?_
          refine g_put S G in_M ft_M tok_M nm_M 0 rfl rfl 7 (by decide) fl_M_42 rfl rfl rfl (Nat.le_of_ble_eq_true rfl) (wM cA a (sU (mEnds (sU (sU τ 0 0 0) 0 3 ((τ 0 3) + q)) N a1 n1) 0 2 0)) (wm_pmany cA a _ _) d_M_rest_73 (fun H locs G => ?_)
          refine lv_aload_n hx hb d_M_rest_76 rfl (lv_at hl 1 rfl) ?_
          refine lv_iconst (v := 0) hx hb d_M_rest_77 (by decide) ?_
          refine g_put S G in_M ft_M tok_M nm_M 0 rfl rfl 8 (by decide) fl_M_45 rfl rfl rfl (Nat.le_of_ble_eq_true rfl) (wM cA a (sU (sU (mEnds (sU (sU τ 0 0 0) 0 3 ((τ 0 3) + q)) N a1 n1) 0 2 0) 0 3 0)) (wm_pgap cA a _ _) d_M_rest_78 (fun H locs G => ?_)
          refine lv_aload_n hx hb d_M_rest_81 rfl (lv_at hl 1 rfl) ?_
          refine lv_iconst (v := 0) hx hb d_M_rest_82 (by decide) ?_
          refine g_put S G in_M ft_M tok_M nm_M 0 rfl rfl 9 (by decide) fl_M_38 rfl rfl rfl (Nat.le_of_ble_eq_true rfl) (wM cA a (sU (sU (sU (mEnds (sU (sU τ 0 0 0) 0 3 ((τ 0 3) + q)) N a1 n1) 0 2 0) 0 3 0) 0 4 0)) (wm_pspoilt cA a _ _) d_M_rest_83 (fun H locs G => ?_)
          refine lv_iload_n hx hb d_M_rest_86 rfl (lv_at hl 0 rfl) ?_
          exact g_reti S hr hlk G ⟨by first | (simp only [mRestR, mRest, mRs, mT, eq_false c_1, eq_true c_2, eq_false c_3, eq_true c_4, i10, ↓reduceIte]; done) | (simp only [mRestR, mRest, mRs, mT, eq_false c_1, eq_true c_2, eq_false c_3, eq_true c_4, i10, ↓reduceIte]; rfl) | rfl, congrArg (wM cA a) (by first | (simp only [mRestR, mRest, mRs, mT, eq_false c_1, eq_true c_2, eq_false c_3, eq_true c_4, i10, ↓reduceIte]; done) | (simp only [mRestR, mRest, mRs, mT, eq_false c_1, eq_true c_2, eq_false c_3, eq_true c_4, i10, ↓reduceIte]; rfl) | rfl)⟩ (Nat.le_refl _) (Nat.le_refl _) d_M_rest_87
        · refine lv_aload_n hx hb d_M_rest_44 rfl (lv_at hl 0 rfl) ?_
          refine lv_aload_n hx hb d_M_rest_45 rfl (lv_at hl 0 rfl) ?_
          refine g_get (v := .int (τ 0 2)) S G in_M 0 rfl rfl 7 (by decide) fl_M_42 rfl d_M_rest_46 ?_
          refine lv_if_ne (tgt := 56) hx hb d_M_rest_49 (by decide) (fun _ => ?_) (fun h9 => absurd h9 c_3)
          refine lv_aload_n hx hb d_M_rest_56 rfl (lv_at hl 0 rfl) ?_
          refine g_get (v := .int ((τ 0 3) + q)) S G in_M 0 rfl rfl 8 (by decide) fl_M_45 rfl d_M_rest_57 ?_
          refine g_put S G in_M ft_M tok_M nm_M 0 rfl rfl 8 (by decide) fl_M_45 rfl rfl rfl (Nat.le_of_ble_eq_true rfl) (wM cA a (sU (sU (sU τ 0 0 0) 0 3 ((τ 0 3) + q)) 0 3 ((τ 0 3) + q))) (wm_pgap cA a _ _) d_M_rest_60 (fun H locs G => ?_)
          refine lv_bipush (v := (-2)) hx hb d_M_rest_63 (by decide) ?_
          exact g_reti S hr hlk G ⟨by first | (simp only [mRestR, mRest, mRs, mT, eq_false c_1, eq_true c_2, eq_false c_3, eq_false c_4, i10, ↓reduceIte]; done) | (simp only [mRestR, mRest, mRs, mT, eq_false c_1, eq_true c_2, eq_false c_3, eq_false c_4, i10, ↓reduceIte]; rfl) | rfl, congrArg (wM cA a) (by first | (simp only [mRestR, mRest, mRs, mT, eq_false c_1, eq_true c_2, eq_false c_3, eq_false c_4, i10, ↓reduceIte]; done) | (simp only [mRestR, mRest, mRs, mT, eq_false c_1, eq_true c_2, eq_false c_3, eq_false c_4, i10, ↓reduceIte]; rfl) | rfl)⟩ (Nat.le_refl _) (Nat.le_refl _) d_M_rest_65
    · refine lv_iconst (v := (-1)) hx hb d_M_rest_16 (by decide) ?_
      exact g_reti S hr hlk G ⟨by first | (simp only [mRestR, mRest, mRs, mT, eq_false c_1, eq_false c_2, i10, ↓reduceIte]; done) | (simp only [mRestR, mRest, mRs, mT, eq_false c_1, eq_false c_2, i10, ↓reduceIte]; rfl) | rfl, congrArg (wM cA a) (by first | (simp only [mRestR, mRest, mRs, mT, eq_false c_1, eq_false c_2, i10, ↓reduceIte]; done) | (simp only [mRestR, mRest, mRs, mT, eq_false c_1, eq_false c_2, i10, ↓reduceIte]; rfl) | rfl)⟩ (Nat.le_refl _) (Nat.le_refl _) d_M_rest_17

abbrev rm_M_init : Room := { frames := 1, cells := 7, slots := 1202, locals := 14 }
set_option maxHeartbeats 1000000 in
set_option maxRecDepth 100000 in
theorem c_M_init (l : Launch) (D : va_G) (cA : ClassId) (h0 : Nat) (ad : Int32)  : Cv l y_M_init w_M_init rm_M_init D vwCl [(cA, .int)] [.ref h0, .int ad] (([(h0, .inr (3, [.int 0, .int 0, .null, .null, .null, .null, .null, .int 0, .int 0, .int 0, .null, .int 0, .null]))] : va_W)) 7 1202 (fun w0 => ∃ a : Nat → Nat, a 0 = h0 ∧ w0 = wM cA a (mSt0 (mIni ad))) := by
  refine Cv.of (Ts := lw_g) (own := "WireSlaveModel") (cc := b_M_init) (maxL := 2) (ret := none) (lv := [(0, .ref h0), (1, .int ad)]) (by decide) rfl rfl (fun w h => List.mem_cons_of_mem _ h) (Nat.le_of_ble_eq_true rfl) rfl ?_
  intro pp ee ss mm args below meth cx AA S hr hlk hnm G ls hl
  have hx := S.1
  have hb := S.2.1
  refine lv_aload_n hx hb d_M_init_0 rfl (lv_at hl 0 rfl) ?_
  refine W.objInit hx hb S.2.2.2.1 (S.2.2.2.2 _ mo_M_1) (S.2.2.2.2 _ io_) (S.2.2.2.2 _ co_) rfl (hl.1.trans S.2.2.1.symm) rfl d_M_init_1 (Nat.le_of_ble_eq_true rfl) (Nat.le_of_ble_eq_true rfl) ?_
  refine W.eq (g2 := F0 mm 4 ls []) rfl ?_
  refine lv_aload_n hx hb d_M_init_4 rfl (lv_at hl 0 rfl) ?_
  refine lv_sipush (v := 256) hx hb d_M_init_5 (by decide) ?_
  refine g_newa S G arr_I rfl 256 (by decide) (by decide) (by decide) (Nat.le_of_ble_eq_true rfl) (Nat.le_of_ble_eq_true rfl) d_M_init_8 (fun q_1 H G => ?_)
  have G : Gw D vwCl [(cA, .int)] AA ss ss.heap H _ ([(h0, .inr (3, [.int 0, .int 0, .null, .null, .null, .null, .null, .int 0, .int 0, .int 0, .null, .int 0, .null])), (q_1, .inl (cA, 256, .inl (fun _ => 0)))] : va_W) := G
  refine g_putF S G in_M ft_M tok_M nm_M 0 rfl rfl 2 (by decide) fl_M_7 rfl hnm rfl rfl rfl (Nat.le_of_ble_eq_true rfl) ([(h0, .inr (3, [.int 0, .int 0, .ref q_1, .null, .null, .null, .null, .int 0, .int 0, .int 0, .null, .int 0, .null])), (q_1, .inl (cA, 256, .inl (fun _ => 0)))] : va_W) rfl d_M_init_10 (fun H locs G => ?_)
  refine lv_aload_n hx hb d_M_init_13 rfl (lv_at hl 0 rfl) ?_
  refine lv_sipush (v := 256) hx hb d_M_init_14 (by decide) ?_
  refine g_newa S G arr_I rfl 256 (by decide) (by decide) (by decide) (Nat.le_of_ble_eq_true rfl) (Nat.le_of_ble_eq_true rfl) d_M_init_17 (fun q_2 H G => ?_)
  have G : Gw D vwCl [(cA, .int)] AA ss ss.heap H _ ([(h0, .inr (3, [.int 0, .int 0, .ref q_1, .null, .null, .null, .null, .int 0, .int 0, .int 0, .null, .int 0, .null])), (q_1, .inl (cA, 256, .inl (fun _ => 0))), (q_2, .inl (cA, 256, .inl (fun _ => 0)))] : va_W) := G
  refine g_putF S G in_M ft_M tok_M nm_M 0 rfl rfl 3 (by decide) fl_M_13 rfl hnm rfl rfl rfl (Nat.le_of_ble_eq_true rfl) ([(h0, .inr (3, [.int 0, .int 0, .ref q_1, .ref q_2, .null, .null, .null, .int 0, .int 0, .int 0, .null, .int 0, .null])), (q_1, .inl (cA, 256, .inl (fun _ => 0))), (q_2, .inl (cA, 256, .inl (fun _ => 0)))] : va_W) rfl d_M_init_19 (fun H locs G => ?_)
  refine lv_aload_n hx hb d_M_init_22 rfl (lv_at hl 0 rfl) ?_
  refine lv_bipush (v := 64) hx hb d_M_init_23 (by decide) ?_
  refine g_newa S G arr_I rfl 64 (by decide) (by decide) (by decide) (Nat.le_of_ble_eq_true rfl) (Nat.le_of_ble_eq_true rfl) d_M_init_25 (fun q_3 H G => ?_)
  have G : Gw D vwCl [(cA, .int)] AA ss ss.heap H _ ([(h0, .inr (3, [.int 0, .int 0, .ref q_1, .ref q_2, .null, .null, .null, .int 0, .int 0, .int 0, .null, .int 0, .null])), (q_1, .inl (cA, 256, .inl (fun _ => 0))), (q_2, .inl (cA, 256, .inl (fun _ => 0))), (q_3, .inl (cA, 64, .inl (fun _ => 0)))] : va_W) := G
  refine g_putF S G in_M ft_M tok_M nm_M 0 rfl rfl 4 (by decide) fl_M_16 rfl hnm rfl rfl rfl (Nat.le_of_ble_eq_true rfl) ([(h0, .inr (3, [.int 0, .int 0, .ref q_1, .ref q_2, .ref q_3, .null, .null, .int 0, .int 0, .int 0, .null, .int 0, .null])), (q_1, .inl (cA, 256, .inl (fun _ => 0))), (q_2, .inl (cA, 256, .inl (fun _ => 0))), (q_3, .inl (cA, 64, .inl (fun _ => 0)))] : va_W) rfl d_M_init_27 (fun H locs G => ?_)
  refine lv_aload_n hx hb d_M_init_30 rfl (lv_at hl 0 rfl) ?_
  refine lv_bipush (v := 64) hx hb d_M_init_31 (by decide) ?_
  refine g_newa S G arr_I rfl 64 (by decide) (by decide) (by decide) (Nat.le_of_ble_eq_true rfl) (Nat.le_of_ble_eq_true rfl) d_M_init_33 (fun q_4 H G => ?_)
  have G : Gw D vwCl [(cA, .int)] AA ss ss.heap H _ ([(h0, .inr (3, [.int 0, .int 0, .ref q_1, .ref q_2, .ref q_3, .null, .null, .int 0, .int 0, .int 0, .null, .int 0, .null])), (q_1, .inl (cA, 256, .inl (fun _ => 0))), (q_2, .inl (cA, 256, .inl (fun _ => 0))), (q_3, .inl (cA, 64, .inl (fun _ => 0))), (q_4, .inl (cA, 64, .inl (fun _ => 0)))] : va_W) := G
  refine g_putF S G in_M ft_M tok_M nm_M 0 rfl rfl 5 (by decide) fl_M_19 rfl hnm rfl rfl rfl (Nat.le_of_ble_eq_true rfl) ([(h0, .inr (3, [.int 0, .int 0, .ref q_1, .ref q_2, .ref q_3, .ref q_4, .null, .int 0, .int 0, .int 0, .null, .int 0, .null])), (q_1, .inl (cA, 256, .inl (fun _ => 0))), (q_2, .inl (cA, 256, .inl (fun _ => 0))), (q_3, .inl (cA, 64, .inl (fun _ => 0))), (q_4, .inl (cA, 64, .inl (fun _ => 0)))] : va_W) rfl d_M_init_35 (fun H locs G => ?_)
  refine lv_aload_n hx hb d_M_init_38 rfl (lv_at hl 0 rfl) ?_
  refine lv_sipush (v := 256) hx hb d_M_init_39 (by decide) ?_
  refine g_newa S G arr_I rfl 256 (by decide) (by decide) (by decide) (Nat.le_of_ble_eq_true rfl) (Nat.le_of_ble_eq_true rfl) d_M_init_42 (fun q_5 H G => ?_)
  have G : Gw D vwCl [(cA, .int)] AA ss ss.heap H _ ([(h0, .inr (3, [.int 0, .int 0, .ref q_1, .ref q_2, .ref q_3, .ref q_4, .null, .int 0, .int 0, .int 0, .null, .int 0, .null])), (q_1, .inl (cA, 256, .inl (fun _ => 0))), (q_2, .inl (cA, 256, .inl (fun _ => 0))), (q_3, .inl (cA, 64, .inl (fun _ => 0))), (q_4, .inl (cA, 64, .inl (fun _ => 0))), (q_5, .inl (cA, 256, .inl (fun _ => 0)))] : va_W) := G
  refine g_putF S G in_M ft_M tok_M nm_M 0 rfl rfl 6 (by decide) fl_M_22 rfl hnm rfl rfl rfl (Nat.le_of_ble_eq_true rfl) ([(h0, .inr (3, [.int 0, .int 0, .ref q_1, .ref q_2, .ref q_3, .ref q_4, .ref q_5, .int 0, .int 0, .int 0, .null, .int 0, .null])), (q_1, .inl (cA, 256, .inl (fun _ => 0))), (q_2, .inl (cA, 256, .inl (fun _ => 0))), (q_3, .inl (cA, 64, .inl (fun _ => 0))), (q_4, .inl (cA, 64, .inl (fun _ => 0))), (q_5, .inl (cA, 256, .inl (fun _ => 0)))] : va_W) rfl d_M_init_44 (fun H locs G => ?_)
  refine lv_aload_n hx hb d_M_init_47 rfl (lv_at hl 0 rfl) ?_
  refine lv_sipush (v := 300) hx hb d_M_init_48 (by decide) ?_
  refine g_newa S G arr_I rfl 300 (by decide) (by decide) (by decide) (Nat.le_of_ble_eq_true rfl) (Nat.le_of_ble_eq_true rfl) d_M_init_51 (fun q_6 H G => ?_)
  have G : Gw D vwCl [(cA, .int)] AA ss ss.heap H _ ([(h0, .inr (3, [.int 0, .int 0, .ref q_1, .ref q_2, .ref q_3, .ref q_4, .ref q_5, .int 0, .int 0, .int 0, .null, .int 0, .null])), (q_1, .inl (cA, 256, .inl (fun _ => 0))), (q_2, .inl (cA, 256, .inl (fun _ => 0))), (q_3, .inl (cA, 64, .inl (fun _ => 0))), (q_4, .inl (cA, 64, .inl (fun _ => 0))), (q_5, .inl (cA, 256, .inl (fun _ => 0))), (q_6, .inl (cA, 300, .inl (fun _ => 0)))] : va_W) := G
  refine g_putF S G in_M ft_M tok_M nm_M 0 rfl rfl 10 (by decide) fl_M_25 rfl hnm rfl rfl rfl (Nat.le_of_ble_eq_true rfl) ([(h0, .inr (3, [.int 0, .int 0, .ref q_1, .ref q_2, .ref q_3, .ref q_4, .ref q_5, .int 0, .int 0, .int 0, .ref q_6, .int 0, .null])), (q_1, .inl (cA, 256, .inl (fun _ => 0))), (q_2, .inl (cA, 256, .inl (fun _ => 0))), (q_3, .inl (cA, 64, .inl (fun _ => 0))), (q_4, .inl (cA, 64, .inl (fun _ => 0))), (q_5, .inl (cA, 256, .inl (fun _ => 0))), (q_6, .inl (cA, 300, .inl (fun _ => 0)))] : va_W) rfl d_M_init_53 (fun H locs G => ?_)
  refine lv_aload_n hx hb d_M_init_56 rfl (lv_at hl 0 rfl) ?_
  refine lv_bipush (v := 6) hx hb d_M_init_57 (by decide) ?_
  refine g_newa S G arr_I rfl 6 (by decide) (by decide) (by decide) (Nat.le_of_ble_eq_true rfl) (Nat.le_of_ble_eq_true rfl) d_M_init_59 (fun q_7 H G => ?_)
  have G : Gw D vwCl [(cA, .int)] AA ss ss.heap H _ ([(h0, .inr (3, [.int 0, .int 0, .ref q_1, .ref q_2, .ref q_3, .ref q_4, .ref q_5, .int 0, .int 0, .int 0, .ref q_6, .int 0, .null])), (q_1, .inl (cA, 256, .inl (fun _ => 0))), (q_2, .inl (cA, 256, .inl (fun _ => 0))), (q_3, .inl (cA, 64, .inl (fun _ => 0))), (q_4, .inl (cA, 64, .inl (fun _ => 0))), (q_5, .inl (cA, 256, .inl (fun _ => 0))), (q_6, .inl (cA, 300, .inl (fun _ => 0))), (q_7, .inl (cA, 6, .inl (fun _ => 0)))] : va_W) := G
  refine g_putF S G in_M ft_M tok_M nm_M 0 rfl rfl 12 (by decide) fl_M_28 rfl hnm rfl rfl rfl (Nat.le_of_ble_eq_true rfl) ([(h0, .inr (3, [.int 0, .int 0, .ref q_1, .ref q_2, .ref q_3, .ref q_4, .ref q_5, .int 0, .int 0, .int 0, .ref q_6, .int 0, .ref q_7])), (q_1, .inl (cA, 256, .inl (fun _ => 0))), (q_2, .inl (cA, 256, .inl (fun _ => 0))), (q_3, .inl (cA, 64, .inl (fun _ => 0))), (q_4, .inl (cA, 64, .inl (fun _ => 0))), (q_5, .inl (cA, 256, .inl (fun _ => 0))), (q_6, .inl (cA, 300, .inl (fun _ => 0))), (q_7, .inl (cA, 6, .inl (fun _ => 0)))] : va_W) rfl d_M_init_61 (fun H locs G => ?_)
  refine lv_aload_n hx hb d_M_init_64 rfl (lv_at hl 0 rfl) ?_
  refine lv_iload_n hx hb d_M_init_65 rfl (lv_at hl 1 rfl) ?_
  refine lv_iconst (v := 1) hx hb d_M_init_66 (by decide) ?_
  refine lv_icmp_ge (tgt := 74) hx hb d_M_init_67 (by decide) (fun c_8 => ?_) (fun c_8 => ?_)
  · refine lv_iload_n hx hb d_M_init_74 rfl (lv_at hl 1 rfl) ?_
    refine lv_sipush (v := 247) hx hb d_M_init_75 (by decide) ?_
    refine lv_icmp_le (tgt := 87) hx hb d_M_init_78 (by decide) (fun c_9 => ?_) (fun c_9 => ?_)
    · refine lv_iload_n hx hb d_M_init_87 rfl (lv_at hl 1 rfl) ?_
      refine g_putF S G in_M ft_M tok_M nm_M 0 rfl rfl 1 (by decide) fl_M_31 rfl hnm rfl rfl rfl (Nat.le_of_ble_eq_true rfl) ([(h0, .inr (3, [.int 0, .int ad, .ref q_1, .ref q_2, .ref q_3, .ref q_4, .ref q_5, .int 0, .int 0, .int 0, .ref q_6, .int 0, .ref q_7])), (q_1, .inl (cA, 256, .inl (fun _ => 0))), (q_2, .inl (cA, 256, .inl (fun _ => 0))), (q_3, .inl (cA, 64, .inl (fun _ => 0))), (q_4, .inl (cA, 64, .inl (fun _ => 0))), (q_5, .inl (cA, 256, .inl (fun _ => 0))), (q_6, .inl (cA, 300, .inl (fun _ => 0))), (q_7, .inl (cA, 6, .inl (fun _ => 0)))] : va_W) rfl d_M_init_88 (fun H locs G => ?_)
      exact g_retv S hr hlk G ⟨fun k => ([h0, q_1, q_2, q_3, q_4, q_5, q_6, q_7] : List Nat).getD k 0, rfl, by simp only [mIni, eq_true c_8, eq_true c_9, ↓reduceIte] ; rfl⟩ (Nat.le_of_ble_eq_true rfl) (Nat.le_of_ble_eq_true rfl) d_M_init_91
    · refine lv_sipush (v := 247) hx hb d_M_init_81 (by decide) ?_
      refine lv_goto (tgt := 88) hx hb d_M_init_84 (by decide) ?_
      refine g_putF S G in_M ft_M tok_M nm_M 0 rfl rfl 1 (by decide) fl_M_31 rfl hnm rfl rfl rfl (Nat.le_of_ble_eq_true rfl) ([(h0, .inr (3, [.int 0, .int 247, .ref q_1, .ref q_2, .ref q_3, .ref q_4, .ref q_5, .int 0, .int 0, .int 0, .ref q_6, .int 0, .ref q_7])), (q_1, .inl (cA, 256, .inl (fun _ => 0))), (q_2, .inl (cA, 256, .inl (fun _ => 0))), (q_3, .inl (cA, 64, .inl (fun _ => 0))), (q_4, .inl (cA, 64, .inl (fun _ => 0))), (q_5, .inl (cA, 256, .inl (fun _ => 0))), (q_6, .inl (cA, 300, .inl (fun _ => 0))), (q_7, .inl (cA, 6, .inl (fun _ => 0)))] : va_W) rfl d_M_init_88 (fun H locs G => ?_)
      exact g_retv S hr hlk G ⟨fun k => ([h0, q_1, q_2, q_3, q_4, q_5, q_6, q_7] : List Nat).getD k 0, rfl, by simp only [mIni, eq_true c_8, eq_false c_9, ↓reduceIte] ; rfl⟩ (Nat.le_of_ble_eq_true rfl) (Nat.le_of_ble_eq_true rfl) d_M_init_91
  · refine lv_iconst (v := 1) hx hb d_M_init_70 (by decide) ?_
    refine lv_goto (tgt := 88) hx hb d_M_init_71 (by decide) ?_
    refine g_putF S G in_M ft_M tok_M nm_M 0 rfl rfl 1 (by decide) fl_M_31 rfl hnm rfl rfl rfl (Nat.le_of_ble_eq_true rfl) ([(h0, .inr (3, [.int 0, .int 1, .ref q_1, .ref q_2, .ref q_3, .ref q_4, .ref q_5, .int 0, .int 0, .int 0, .ref q_6, .int 0, .ref q_7])), (q_1, .inl (cA, 256, .inl (fun _ => 0))), (q_2, .inl (cA, 256, .inl (fun _ => 0))), (q_3, .inl (cA, 64, .inl (fun _ => 0))), (q_4, .inl (cA, 64, .inl (fun _ => 0))), (q_5, .inl (cA, 256, .inl (fun _ => 0))), (q_6, .inl (cA, 300, .inl (fun _ => 0))), (q_7, .inl (cA, 6, .inl (fun _ => 0)))] : va_W) rfl d_M_init_88 (fun H locs G => ?_)
    exact g_retv S hr hlk G ⟨fun k => ([h0, q_1, q_2, q_3, q_4, q_5, q_6, q_7] : List Nat).getD k 0, rfl, by simp only [mIni, eq_false c_8, ↓reduceIte] ; rfl⟩ (Nat.le_of_ble_eq_true rfl) (Nat.le_of_ble_eq_true rfl) d_M_init_91
