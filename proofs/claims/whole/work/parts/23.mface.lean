abbrev rm_M_hear : Room := { frames := 0, cells := 0, slots := 0, locals := 0 }
set_option maxHeartbeats 1000000 in
set_option maxRecDepth 100000 in
theorem c_M_hear (l : Launch) (D : va_G) (cA : ClassId) (a : Nat → Nat) (τ : St) (b : Int32) (hm : ¬ τ 0 2 < 0) : Ci l y_M_hear w_M_hear rm_M_hear D vwCl [(cA, .int)] [.ref (a 0), .int b] (wM cA a τ) 0 0 (fun r0 w0 => r0 = mHearR τ b ∧ w0 = wM cA a (mHear τ b)) := by
  refine Ci.of (Ts := lw_g) (own := "WireSlaveModel") (cc := b_M_hear) (maxL := 2) (ret := (some .int)) (lv := [(0, .ref (a 0)), (1, .int b)]) (by decide) rfl rfl (fun w h => List.mem_cons_of_mem _ h) (Nat.le_of_ble_eq_true rfl) rfl ?_
  intro pp ee ss mm args below meth cx AA S hr hlk G ls hl
  have hx := S.1
  have hb := S.2.1
  refine lv_aload_n hx hb d_M_hear_0 rfl (lv_at hl 0 rfl) ?_
  refine lv_iconst (v := 0) hx hb d_M_hear_1 (by decide) ?_
  refine g_put S G in_M ft_M tok_M nm_M 0 rfl rfl 0 (by decide) fl_M_35 rfl rfl rfl (Nat.le_of_ble_eq_true rfl) (wM cA a (sU τ 0 0 0)) (wm_pthrown cA a _ _) d_M_hear_2 (fun H locs G => ?_)
  refine lv_iload_n hx hb d_M_hear_5 rfl (lv_at hl 1 rfl) ?_
  refine lv_if_lt (tgt := 16) hx hb d_M_hear_6 (by decide) (fun c_1 => ?_) (fun c_1 => ?_)
  · refine lv_iconst (v := (-1)) hx hb d_M_hear_16 (by decide) ?_
    exact g_reti S hr hlk G ⟨by first | (simp only [mHearR, mHear, mFr, mSp, mMany, mT, eq_true c_1, i10, ↓reduceIte]; done) | (simp only [mHearR, mHear, mFr, mSp, mMany, mT, eq_true c_1, i10, ↓reduceIte]; rfl) | rfl, congrArg (wM cA a) (by first | (simp only [mHearR, mHear, mFr, mSp, mMany, mT, eq_true c_1, i10, ↓reduceIte]; done) | (simp only [mHearR, mHear, mFr, mSp, mMany, mT, eq_true c_1, i10, ↓reduceIte]; rfl) | rfl)⟩ (Nat.le_refl _) (Nat.le_refl _) d_M_hear_17
  · refine lv_iload_n hx hb d_M_hear_9 rfl (lv_at hl 1 rfl) ?_
    refine lv_sipush (v := 255) hx hb d_M_hear_10 (by decide) ?_
    refine lv_icmp_le (tgt := 18) hx hb d_M_hear_13 (by decide) (fun c_2 => ?_) (fun c_2 => ?_)
    · refine lv_aload_n hx hb d_M_hear_18 rfl (lv_at hl 0 rfl) ?_
      refine lv_aload_n hx hb d_M_hear_19 rfl (lv_at hl 0 rfl) ?_
      refine g_get (v := .int (τ 0 4)) S G in_M 0 rfl rfl 9 (by decide) fl_M_38 rfl d_M_hear_20 ?_
      refine lv_if_ne (tgt := 52) hx hb d_M_hear_23 (by decide) (fun c_3 => ?_) (fun c_3 => ?_)
      · refine lv_iconst (v := 1) hx hb d_M_hear_52 (by decide) ?_
        refine lv_goto (tgt := 57) hx hb d_M_hear_53 (by decide) ?_
        refine g_put S G in_M ft_M tok_M nm_M 0 rfl rfl 9 (by decide) fl_M_38 rfl rfl rfl (Nat.le_of_ble_eq_true rfl) (wM cA a (sU (sU τ 0 0 0) 0 4 1)) (wm_pspoilt cA a _ _) d_M_hear_57 (fun H locs G => ?_)
        refine lv_aload_n hx hb d_M_hear_60 rfl (lv_at hl 0 rfl) ?_
        refine lv_iconst (v := 0) hx hb d_M_hear_61 (by decide) ?_
        refine g_put S G in_M ft_M tok_M nm_M 0 rfl rfl 8 (by decide) fl_M_45 rfl rfl rfl (Nat.le_of_ble_eq_true rfl) (wM cA a (sU (sU (sU τ 0 0 0) 0 4 1) 0 3 0)) (wm_pgap cA a _ _) d_M_hear_62 (fun H locs G => ?_)
        refine lv_aload_n hx hb d_M_hear_65 rfl (lv_at hl 0 rfl) ?_
        refine g_get (v := .int (τ 0 2)) S G in_M 0 rfl rfl 7 (by decide) fl_M_42 rfl d_M_hear_66 ?_
        refine lv_sipush (v := 256) hx hb d_M_hear_69 (by decide) ?_
        refine lv_icmp_ge (tgt := 85) hx hb d_M_hear_72 (by decide) (fun c_4 => ?_) (fun c_4 => ?_)
        · refine lv_aload_n hx hb d_M_hear_85 rfl (lv_at hl 0 rfl) ?_
          refine lv_aload_n hx hb d_M_hear_86 rfl (lv_at hl 0 rfl) ?_
          refine g_get (v := .int (τ 0 2)) S G in_M 0 rfl rfl 7 (by decide) fl_M_42 rfl d_M_hear_87 ?_
          refine lv_sipush (v := 256) hx hb d_M_hear_90 (by decide) ?_
          refine lv_icmp_le (tgt := 103) hx hb d_M_hear_93 (by decide) (fun c_5 => ?_) (fun c_5 => ?_)
          · refine lv_aload_n hx hb d_M_hear_103 rfl (lv_at hl 0 rfl) ?_
            refine g_get (v := .int (τ 0 2)) S G in_M 0 rfl rfl 7 (by decide) fl_M_42 rfl d_M_hear_104 ?_
            refine lv_iconst (v := 1) hx hb d_M_hear_107 (by decide) ?_
            refine lv_iadd hx hb d_M_hear_108 ?_
            refine g_put S G in_M ft_M tok_M nm_M 0 rfl rfl 7 (by decide) fl_M_42 rfl rfl rfl (Nat.le_of_ble_eq_true rfl) (wM cA a (sU (sU (sU (sU τ 0 0 0) 0 4 1) 0 3 0) 0 2 ((τ 0 2) + 1))) (wm_pmany cA a _ _) d_M_hear_109 (fun H locs G => ?_)
            refine lv_aload_n hx hb d_M_hear_112 rfl (lv_at hl 0 rfl) ?_
            refine g_get (v := .int ((τ 0 2) + 1)) S G in_M 0 rfl rfl 7 (by decide) fl_M_42 rfl d_M_hear_113 ?_
            exact g_reti S hr hlk G ⟨by first | (simp only [mHearR, mHear, mFr, mSp, mMany, mT, eq_false c_1, eq_true c_2, eq_false c_3, eq_true c_4, eq_true c_5, i10, ↓reduceIte]; done) | (simp only [mHearR, mHear, mFr, mSp, mMany, mT, eq_false c_1, eq_true c_2, eq_false c_3, eq_true c_4, eq_true c_5, i10, ↓reduceIte]; rfl) | rfl, congrArg (wM cA a) (by first | (simp only [mHearR, mHear, mFr, mSp, mMany, mT, eq_false c_1, eq_true c_2, eq_false c_3, eq_true c_4, eq_true c_5, i10, ↓reduceIte]; done) | (simp only [mHearR, mHear, mFr, mSp, mMany, mT, eq_false c_1, eq_true c_2, eq_false c_3, eq_true c_4, eq_true c_5, i10, ↓reduceIte]; rfl) | rfl)⟩ (Nat.le_refl _) (Nat.le_refl _) d_M_hear_116
          · refine lv_aload_n hx hb d_M_hear_96 rfl (lv_at hl 0 rfl) ?_
            refine g_get (v := .int (τ 0 2)) S G in_M 0 rfl rfl 7 (by decide) fl_M_42 rfl d_M_hear_97 ?_
            refine lv_goto (tgt := 109) hx hb d_M_hear_100 (by decide) ?_
            refine g_put S G in_M ft_M tok_M nm_M 0 rfl rfl 7 (by decide) fl_M_42 rfl rfl rfl (Nat.le_of_ble_eq_true rfl) (wM cA a (sU (sU (sU (sU τ 0 0 0) 0 4 1) 0 3 0) 0 2 (τ 0 2))) (wm_pmany cA a _ _) d_M_hear_109 (fun H locs G => ?_)
            refine lv_aload_n hx hb d_M_hear_112 rfl (lv_at hl 0 rfl) ?_
            refine g_get (v := .int (τ 0 2)) S G in_M 0 rfl rfl 7 (by decide) fl_M_42 rfl d_M_hear_113 ?_
            exact g_reti S hr hlk G ⟨by first | (simp only [mHearR, mHear, mFr, mSp, mMany, mT, eq_false c_1, eq_true c_2, eq_false c_3, eq_true c_4, eq_false c_5, i10, ↓reduceIte]; done) | (simp only [mHearR, mHear, mFr, mSp, mMany, mT, eq_false c_1, eq_true c_2, eq_false c_3, eq_true c_4, eq_false c_5, i10, ↓reduceIte]; rfl) | rfl, congrArg (wM cA a) (by first | (simp only [mHearR, mHear, mFr, mSp, mMany, mT, eq_false c_1, eq_true c_2, eq_false c_3, eq_true c_4, eq_false c_5, i10, ↓reduceIte]; done) | (simp only [mHearR, mHear, mFr, mSp, mMany, mT, eq_false c_1, eq_true c_2, eq_false c_3, eq_true c_4, eq_false c_5, i10, ↓reduceIte]; rfl) | rfl)⟩ (Nat.le_refl _) (Nat.le_refl _) d_M_hear_116
        · refine lv_aload_n hx hb d_M_hear_75 rfl (lv_at hl 0 rfl) ?_
          refine g_get (v := .ref (a 5)) S G in_M 0 rfl rfl 6 (by decide) fl_M_22 rfl d_M_hear_76 ?_
          refine lv_aload_n hx hb d_M_hear_79 rfl (lv_at hl 0 rfl) ?_
          refine g_get (v := .int (τ 0 2)) S G in_M 0 rfl rfl 7 (by decide) fl_M_42 rfl d_M_hear_80 ?_
          refine lv_iload_n hx hb d_M_hear_83 rfl (lv_at hl 1 rfl) ?_
          refine g_iastj S G 5 0 rfl rfl ((τ 0 2).toNatClampNeg) rfl (vin_ge (n := 256) hm c_4 (by decide)) (wM cA a (sU (sU (sU (sU τ 0 0 0) 0 4 1) 0 3 0) 5 ((τ 0 2).toNatClampNeg) b)) (wm_a5 cA a _ _ _) d_M_hear_84 (fun H locs G => ?_)
          refine lv_aload_n hx hb d_M_hear_85 rfl (lv_at hl 0 rfl) ?_
          refine lv_aload_n hx hb d_M_hear_86 rfl (lv_at hl 0 rfl) ?_
          refine g_get (v := .int (τ 0 2)) S G in_M 0 rfl rfl 7 (by decide) fl_M_42 rfl d_M_hear_87 ?_
          refine lv_sipush (v := 256) hx hb d_M_hear_90 (by decide) ?_
          refine lv_icmp_le (tgt := 103) hx hb d_M_hear_93 (by decide) (fun c_6 => ?_) (fun c_6 => ?_)
          · refine lv_aload_n hx hb d_M_hear_103 rfl (lv_at hl 0 rfl) ?_
            refine g_get (v := .int (τ 0 2)) S G in_M 0 rfl rfl 7 (by decide) fl_M_42 rfl d_M_hear_104 ?_
            refine lv_iconst (v := 1) hx hb d_M_hear_107 (by decide) ?_
            refine lv_iadd hx hb d_M_hear_108 ?_
            refine g_put S G in_M ft_M tok_M nm_M 0 rfl rfl 7 (by decide) fl_M_42 rfl rfl rfl (Nat.le_of_ble_eq_true rfl) (wM cA a (sU (sU (sU (sU (sU τ 0 0 0) 0 4 1) 0 3 0) 5 ((τ 0 2).toNatClampNeg) b) 0 2 ((τ 0 2) + 1))) (wm_pmany cA a _ _) d_M_hear_109 (fun H locs G => ?_)
            refine lv_aload_n hx hb d_M_hear_112 rfl (lv_at hl 0 rfl) ?_
            refine g_get (v := .int ((τ 0 2) + 1)) S G in_M 0 rfl rfl 7 (by decide) fl_M_42 rfl d_M_hear_113 ?_
            exact g_reti S hr hlk G ⟨by first | (simp only [mHearR, mHear, mFr, mSp, mMany, mT, eq_false c_1, eq_true c_2, eq_false c_3, eq_false c_4, eq_true c_6, i10, ↓reduceIte]; done) | (simp only [mHearR, mHear, mFr, mSp, mMany, mT, eq_false c_1, eq_true c_2, eq_false c_3, eq_false c_4, eq_true c_6, i10, ↓reduceIte]; rfl) | rfl, congrArg (wM cA a) (by first | (simp only [mHearR, mHear, mFr, mSp, mMany, mT, eq_false c_1, eq_true c_2, eq_false c_3, eq_false c_4, eq_true c_6, i10, ↓reduceIte]; done) | (simp only [mHearR, mHear, mFr, mSp, mMany, mT, eq_false c_1, eq_true c_2, eq_false c_3, eq_false c_4, eq_true c_6, i10, ↓reduceIte]; rfl) | rfl)⟩ (Nat.le_refl _) (Nat.le_refl _) d_M_hear_116
          · refine lv_aload_n hx hb d_M_hear_96 rfl (lv_at hl 0 rfl) ?_
            refine g_get (v := .int (τ 0 2)) S G in_M 0 rfl rfl 7 (by decide) fl_M_42 rfl d_M_hear_97 ?_
            refine lv_goto (tgt := 109) hx hb d_M_hear_100 (by decide) ?_
            refine g_put S G in_M ft_M tok_M nm_M 0 rfl rfl 7 (by decide) fl_M_42 rfl rfl rfl (Nat.le_of_ble_eq_true rfl) (wM cA a (sU (sU (sU (sU (sU τ 0 0 0) 0 4 1) 0 3 0) 5 ((τ 0 2).toNatClampNeg) b) 0 2 (τ 0 2))) (wm_pmany cA a _ _) d_M_hear_109 (fun H locs G => ?_)
            refine lv_aload_n hx hb d_M_hear_112 rfl (lv_at hl 0 rfl) ?_
            refine g_get (v := .int (τ 0 2)) S G in_M 0 rfl rfl 7 (by decide) fl_M_42 rfl d_M_hear_113 ?_
            exact g_reti S hr hlk G ⟨by first | (simp only [mHearR, mHear, mFr, mSp, mMany, mT, eq_false c_1, eq_true c_2, eq_false c_3, eq_false c_4, eq_false c_6, i10, ↓reduceIte]; done) | (simp only [mHearR, mHear, mFr, mSp, mMany, mT, eq_false c_1, eq_true c_2, eq_false c_3, eq_false c_4, eq_false c_6, i10, ↓reduceIte]; rfl) | rfl, congrArg (wM cA a) (by first | (simp only [mHearR, mHear, mFr, mSp, mMany, mT, eq_false c_1, eq_true c_2, eq_false c_3, eq_false c_4, eq_false c_6, i10, ↓reduceIte]; done) | (simp only [mHearR, mHear, mFr, mSp, mMany, mT, eq_false c_1, eq_true c_2, eq_false c_3, eq_false c_4, eq_false c_6, i10, ↓reduceIte]; rfl) | rfl)⟩ (Nat.le_refl _) (Nat.le_refl _) d_M_hear_116
      · refine lv_aload_n hx hb d_M_hear_26 rfl (lv_at hl 0 rfl) ?_
        refine g_get (v := .int (τ 0 2)) S G in_M 0 rfl rfl 7 (by decide) fl_M_42 rfl d_M_hear_27 ?_
        refine lv_if_le (tgt := 42) hx hb d_M_hear_30 (by decide) (fun c_7 => ?_) (fun c_7 => ?_)
        · refine lv_aload_n hx hb d_M_hear_42 rfl (lv_at hl 0 rfl) ?_
          refine g_get (v := .int (τ 0 2)) S G in_M 0 rfl rfl 7 (by decide) fl_M_42 rfl d_M_hear_43 ?_
          refine lv_sipush (v := 256) hx hb d_M_hear_46 (by decide) ?_
          refine lv_icmp_lt (tgt := 56) hx hb d_M_hear_49 (by decide) (fun c_8 => ?_) (fun c_8 => ?_)
          · refine lv_iconst (v := 0) hx hb d_M_hear_56 (by decide) ?_
            refine g_put S G in_M ft_M tok_M nm_M 0 rfl rfl 9 (by decide) fl_M_38 rfl rfl rfl (Nat.le_of_ble_eq_true rfl) (wM cA a (sU (sU τ 0 0 0) 0 4 0)) (wm_pspoilt cA a _ _) d_M_hear_57 (fun H locs G => ?_)
            refine lv_aload_n hx hb d_M_hear_60 rfl (lv_at hl 0 rfl) ?_
            refine lv_iconst (v := 0) hx hb d_M_hear_61 (by decide) ?_
            refine g_put S G in_M ft_M tok_M nm_M 0 rfl rfl 8 (by decide) fl_M_45 rfl rfl rfl (Nat.le_of_ble_eq_true rfl) (wM cA a (sU (sU (sU τ 0 0 0) 0 4 0) 0 3 0)) (wm_pgap cA a _ _) d_M_hear_62 (fun H locs G => ?_)
            refine lv_aload_n hx hb d_M_hear_65 rfl (lv_at hl 0 rfl) ?_
            refine g_get (v := .int (τ 0 2)) S G in_M 0 rfl rfl 7 (by decide) fl_M_42 rfl d_M_hear_66 ?_
            refine lv_sipush (v := 256) hx hb d_M_hear_69 (by decide) ?_
            have k_9 : ¬ (256 ≤ (τ 0 2)) := Int32.not_le.mpr c_8
            refine lv_icmp_ge (tgt := 85) hx hb d_M_hear_72 (by decide) (fun h9 => absurd h9 k_9) (fun _ => ?_)
            refine lv_aload_n hx hb d_M_hear_75 rfl (lv_at hl 0 rfl) ?_
            refine g_get (v := .ref (a 5)) S G in_M 0 rfl rfl 6 (by decide) fl_M_22 rfl d_M_hear_76 ?_
            refine lv_aload_n hx hb d_M_hear_79 rfl (lv_at hl 0 rfl) ?_
            refine g_get (v := .int (τ 0 2)) S G in_M 0 rfl rfl 7 (by decide) fl_M_42 rfl d_M_hear_80 ?_
            refine lv_iload_n hx hb d_M_hear_83 rfl (lv_at hl 1 rfl) ?_
            refine g_iastj S G 5 0 rfl rfl ((τ 0 2).toNatClampNeg) rfl (vin_ge (n := 256) hm k_9 (by decide)) (wM cA a (sU (sU (sU (sU τ 0 0 0) 0 4 0) 0 3 0) 5 ((τ 0 2).toNatClampNeg) b)) (wm_a5 cA a _ _ _) d_M_hear_84 (fun H locs G => ?_)
            refine lv_aload_n hx hb d_M_hear_85 rfl (lv_at hl 0 rfl) ?_
            refine lv_aload_n hx hb d_M_hear_86 rfl (lv_at hl 0 rfl) ?_
            refine g_get (v := .int (τ 0 2)) S G in_M 0 rfl rfl 7 (by decide) fl_M_42 rfl d_M_hear_87 ?_
            refine lv_sipush (v := 256) hx hb d_M_hear_90 (by decide) ?_
            refine lv_icmp_le (tgt := 103) hx hb d_M_hear_93 (by decide) (fun c_10 => ?_) (fun c_10 => ?_)
            · refine lv_aload_n hx hb d_M_hear_103 rfl (lv_at hl 0 rfl) ?_
              refine g_get (v := .int (τ 0 2)) S G in_M 0 rfl rfl 7 (by decide) fl_M_42 rfl d_M_hear_104 ?_
              refine lv_iconst (v := 1) hx hb d_M_hear_107 (by decide) ?_
              refine lv_iadd hx hb d_M_hear_108 ?_
              refine g_put S G in_M ft_M tok_M nm_M 0 rfl rfl 7 (by decide) fl_M_42 rfl rfl rfl (Nat.le_of_ble_eq_true rfl) (wM cA a (sU (sU (sU (sU (sU τ 0 0 0) 0 4 0) 0 3 0) 5 ((τ 0 2).toNatClampNeg) b) 0 2 ((τ 0 2) + 1))) (wm_pmany cA a _ _) d_M_hear_109 (fun H locs G => ?_)
              refine lv_aload_n hx hb d_M_hear_112 rfl (lv_at hl 0 rfl) ?_
              refine g_get (v := .int ((τ 0 2) + 1)) S G in_M 0 rfl rfl 7 (by decide) fl_M_42 rfl d_M_hear_113 ?_
              exact g_reti S hr hlk G ⟨by first | (simp only [mHearR, mHear, mFr, mSp, mMany, mT, eq_false c_1, eq_true c_2, eq_true c_3, eq_true c_7, eq_true c_8, eq_false k_9, eq_true c_10, i10, ↓reduceIte]; done) | (simp only [mHearR, mHear, mFr, mSp, mMany, mT, eq_false c_1, eq_true c_2, eq_true c_3, eq_true c_7, eq_true c_8, eq_false k_9, eq_true c_10, i10, ↓reduceIte]; rfl) | rfl, congrArg (wM cA a) (by first | (simp only [mHearR, mHear, mFr, mSp, mMany, mT, eq_false c_1, eq_true c_2, eq_true c_3, eq_true c_7, eq_true c_8, eq_false k_9, eq_true c_10, i10, ↓reduceIte]; done) | (simp only [mHearR, mHear, mFr, mSp, mMany, mT, eq_false c_1, eq_true c_2, eq_true c_3, eq_true c_7, eq_true c_8, eq_false k_9, eq_true c_10, i10, ↓reduceIte]; rfl) | rfl)⟩ (Nat.le_refl _) (Nat.le_refl _) d_M_hear_116
            · refine lv_aload_n hx hb d_M_hear_96 rfl (lv_at hl 0 rfl) ?_
              refine g_get (v := .int (τ 0 2)) S G in_M 0 rfl rfl 7 (by decide) fl_M_42 rfl d_M_hear_97 ?_
              refine lv_goto (tgt := 109) hx hb d_M_hear_100 (by decide) ?_
              refine g_put S G in_M ft_M tok_M nm_M 0 rfl rfl 7 (by decide) fl_M_42 rfl rfl rfl (Nat.le_of_ble_eq_true rfl) (wM cA a (sU (sU (sU (sU (sU τ 0 0 0) 0 4 0) 0 3 0) 5 ((τ 0 2).toNatClampNeg) b) 0 2 (τ 0 2))) (wm_pmany cA a _ _) d_M_hear_109 (fun H locs G => ?_)
              refine lv_aload_n hx hb d_M_hear_112 rfl (lv_at hl 0 rfl) ?_
              refine g_get (v := .int (τ 0 2)) S G in_M 0 rfl rfl 7 (by decide) fl_M_42 rfl d_M_hear_113 ?_
              exact g_reti S hr hlk G ⟨by first | (simp only [mHearR, mHear, mFr, mSp, mMany, mT, eq_false c_1, eq_true c_2, eq_true c_3, eq_true c_7, eq_true c_8, eq_false k_9, eq_false c_10, i10, ↓reduceIte]; done) | (simp only [mHearR, mHear, mFr, mSp, mMany, mT, eq_false c_1, eq_true c_2, eq_true c_3, eq_true c_7, eq_true c_8, eq_false k_9, eq_false c_10, i10, ↓reduceIte]; rfl) | rfl, congrArg (wM cA a) (by first | (simp only [mHearR, mHear, mFr, mSp, mMany, mT, eq_false c_1, eq_true c_2, eq_true c_3, eq_true c_7, eq_true c_8, eq_false k_9, eq_false c_10, i10, ↓reduceIte]; done) | (simp only [mHearR, mHear, mFr, mSp, mMany, mT, eq_false c_1, eq_true c_2, eq_true c_3, eq_true c_7, eq_true c_8, eq_false k_9, eq_false c_10, i10, ↓reduceIte]; rfl) | rfl)⟩ (Nat.le_refl _) (Nat.le_refl _) d_M_hear_116
          · refine lv_iconst (v := 1) hx hb d_M_hear_52 (by decide) ?_
            refine lv_goto (tgt := 57) hx hb d_M_hear_53 (by decide) ?_
            refine g_put S G in_M ft_M tok_M nm_M 0 rfl rfl 9 (by decide) fl_M_38 rfl rfl rfl (Nat.le_of_ble_eq_true rfl) (wM cA a (sU (sU τ 0 0 0) 0 4 1)) (wm_pspoilt cA a _ _) d_M_hear_57 (fun H locs G => ?_)
            refine lv_aload_n hx hb d_M_hear_60 rfl (lv_at hl 0 rfl) ?_
            refine lv_iconst (v := 0) hx hb d_M_hear_61 (by decide) ?_
            refine g_put S G in_M ft_M tok_M nm_M 0 rfl rfl 8 (by decide) fl_M_45 rfl rfl rfl (Nat.le_of_ble_eq_true rfl) (wM cA a (sU (sU (sU τ 0 0 0) 0 4 1) 0 3 0)) (wm_pgap cA a _ _) d_M_hear_62 (fun H locs G => ?_)
            refine lv_aload_n hx hb d_M_hear_65 rfl (lv_at hl 0 rfl) ?_
            refine g_get (v := .int (τ 0 2)) S G in_M 0 rfl rfl 7 (by decide) fl_M_42 rfl d_M_hear_66 ?_
            refine lv_sipush (v := 256) hx hb d_M_hear_69 (by decide) ?_
            have k_11 : 256 ≤ (τ 0 2) := Int32.not_lt.mp c_8
            refine lv_icmp_ge (tgt := 85) hx hb d_M_hear_72 (by decide) (fun _ => ?_) (fun h9 => absurd k_11 h9)
            refine lv_aload_n hx hb d_M_hear_85 rfl (lv_at hl 0 rfl) ?_
            refine lv_aload_n hx hb d_M_hear_86 rfl (lv_at hl 0 rfl) ?_
            refine g_get (v := .int (τ 0 2)) S G in_M 0 rfl rfl 7 (by decide) fl_M_42 rfl d_M_hear_87 ?_
            refine lv_sipush (v := 256) hx hb d_M_hear_90 (by decide) ?_
            refine lv_icmp_le (tgt := 103) hx hb d_M_hear_93 (by decide) (fun c_12 => ?_) (fun c_12 => ?_)
            · refine lv_aload_n hx hb d_M_hear_103 rfl (lv_at hl 0 rfl) ?_
              refine g_get (v := .int (τ 0 2)) S G in_M 0 rfl rfl 7 (by decide) fl_M_42 rfl d_M_hear_104 ?_
              refine lv_iconst (v := 1) hx hb d_M_hear_107 (by decide) ?_
              refine lv_iadd hx hb d_M_hear_108 ?_
              refine g_put S G in_M ft_M tok_M nm_M 0 rfl rfl 7 (by decide) fl_M_42 rfl rfl rfl (Nat.le_of_ble_eq_true rfl) (wM cA a (sU (sU (sU (sU τ 0 0 0) 0 4 1) 0 3 0) 0 2 ((τ 0 2) + 1))) (wm_pmany cA a _ _) d_M_hear_109 (fun H locs G => ?_)
              refine lv_aload_n hx hb d_M_hear_112 rfl (lv_at hl 0 rfl) ?_
              refine g_get (v := .int ((τ 0 2) + 1)) S G in_M 0 rfl rfl 7 (by decide) fl_M_42 rfl d_M_hear_113 ?_
              exact g_reti S hr hlk G ⟨by first | (simp only [mHearR, mHear, mFr, mSp, mMany, mT, eq_false c_1, eq_true c_2, eq_true c_3, eq_true c_7, eq_false c_8, eq_true k_11, eq_true c_12, i10, ↓reduceIte]; done) | (simp only [mHearR, mHear, mFr, mSp, mMany, mT, eq_false c_1, eq_true c_2, eq_true c_3, eq_true c_7, eq_false c_8, eq_true k_11, eq_true c_12, i10, ↓reduceIte]; rfl) | rfl, congrArg (wM cA a) (by first | (simp only [mHearR, mHear, mFr, mSp, mMany, mT, eq_false c_1, eq_true c_2, eq_true c_3, eq_true c_7, eq_false c_8, eq_true k_11, eq_true c_12, i10, ↓reduceIte]; done) | (simp only [mHearR, mHear, mFr, mSp, mMany, mT, eq_false c_1, eq_true c_2, eq_true c_3, eq_true c_7, eq_false c_8, eq_true k_11, eq_true c_12, i10, ↓reduceIte]; rfl) | rfl)⟩ (Nat.le_refl _) (Nat.le_refl _) d_M_hear_116
            · refine lv_aload_n hx hb d_M_hear_96 rfl (lv_at hl 0 rfl) ?_
              refine g_get (v := .int (τ 0 2)) S G in_M 0 rfl rfl 7 (by decide) fl_M_42 rfl d_M_hear_97 ?_
              refine lv_goto (tgt := 109) hx hb d_M_hear_100 (by decide) ?_
              refine g_put S G in_M ft_M tok_M nm_M 0 rfl rfl 7 (by decide) fl_M_42 rfl rfl rfl (Nat.le_of_ble_eq_true rfl) (wM cA a (sU (sU (sU (sU τ 0 0 0) 0 4 1) 0 3 0) 0 2 (τ 0 2))) (wm_pmany cA a _ _) d_M_hear_109 (fun H locs G => ?_)
              refine lv_aload_n hx hb d_M_hear_112 rfl (lv_at hl 0 rfl) ?_
              refine g_get (v := .int (τ 0 2)) S G in_M 0 rfl rfl 7 (by decide) fl_M_42 rfl d_M_hear_113 ?_
              exact g_reti S hr hlk G ⟨by first | (simp only [mHearR, mHear, mFr, mSp, mMany, mT, eq_false c_1, eq_true c_2, eq_true c_3, eq_true c_7, eq_false c_8, eq_true k_11, eq_false c_12, i10, ↓reduceIte]; done) | (simp only [mHearR, mHear, mFr, mSp, mMany, mT, eq_false c_1, eq_true c_2, eq_true c_3, eq_true c_7, eq_false c_8, eq_true k_11, eq_false c_12, i10, ↓reduceIte]; rfl) | rfl, congrArg (wM cA a) (by first | (simp only [mHearR, mHear, mFr, mSp, mMany, mT, eq_false c_1, eq_true c_2, eq_true c_3, eq_true c_7, eq_false c_8, eq_true k_11, eq_false c_12, i10, ↓reduceIte]; done) | (simp only [mHearR, mHear, mFr, mSp, mMany, mT, eq_false c_1, eq_true c_2, eq_true c_3, eq_true c_7, eq_false c_8, eq_true k_11, eq_false c_12, i10, ↓reduceIte]; rfl) | rfl)⟩ (Nat.le_refl _) (Nat.le_refl _) d_M_hear_116
        · refine lv_aload_n hx hb d_M_hear_33 rfl (lv_at hl 0 rfl) ?_
          refine g_get (v := .int (τ 0 3)) S G in_M 0 rfl rfl 8 (by decide) fl_M_45 rfl d_M_hear_34 ?_
          refine lv_bipush (v := 7) hx hb d_M_hear_37 (by decide) ?_
          refine lv_icmp_ge (tgt := 52) hx hb d_M_hear_39 (by decide) (fun c_13 => ?_) (fun c_13 => ?_)
          · refine lv_iconst (v := 1) hx hb d_M_hear_52 (by decide) ?_
            refine lv_goto (tgt := 57) hx hb d_M_hear_53 (by decide) ?_
            refine g_put S G in_M ft_M tok_M nm_M 0 rfl rfl 9 (by decide) fl_M_38 rfl rfl rfl (Nat.le_of_ble_eq_true rfl) (wM cA a (sU (sU τ 0 0 0) 0 4 1)) (wm_pspoilt cA a _ _) d_M_hear_57 (fun H locs G => ?_)
            refine lv_aload_n hx hb d_M_hear_60 rfl (lv_at hl 0 rfl) ?_
            refine lv_iconst (v := 0) hx hb d_M_hear_61 (by decide) ?_
            refine g_put S G in_M ft_M tok_M nm_M 0 rfl rfl 8 (by decide) fl_M_45 rfl rfl rfl (Nat.le_of_ble_eq_true rfl) (wM cA a (sU (sU (sU τ 0 0 0) 0 4 1) 0 3 0)) (wm_pgap cA a _ _) d_M_hear_62 (fun H locs G => ?_)
            refine lv_aload_n hx hb d_M_hear_65 rfl (lv_at hl 0 rfl) ?_
            refine g_get (v := .int (τ 0 2)) S G in_M 0 rfl rfl 7 (by decide) fl_M_42 rfl d_M_hear_66 ?_
            refine lv_sipush (v := 256) hx hb d_M_hear_69 (by decide) ?_
            refine lv_icmp_ge (tgt := 85) hx hb d_M_hear_72 (by decide) (fun c_14 => ?_) (fun c_14 => ?_)
            · refine lv_aload_n hx hb d_M_hear_85 rfl (lv_at hl 0 rfl) ?_
              refine lv_aload_n hx hb d_M_hear_86 rfl (lv_at hl 0 rfl) ?_
              refine g_get (v := .int (τ 0 2)) S G in_M 0 rfl rfl 7 (by decide) fl_M_42 rfl d_M_hear_87 ?_
              refine lv_sipush (v := 256) hx hb d_M_hear_90 (by decide) ?_
              refine lv_icmp_le (tgt := 103) hx hb d_M_hear_93 (by decide) (fun c_15 => ?_) (fun c_15 => ?_)
              · refine lv_aload_n hx hb d_M_hear_103 rfl (lv_at hl 0 rfl) ?_
                refine g_get (v := .int (τ 0 2)) S G in_M 0 rfl rfl 7 (by decide) fl_M_42 rfl d_M_hear_104 ?_
                refine lv_iconst (v := 1) hx hb d_M_hear_107 (by decide) ?_
                refine lv_iadd hx hb d_M_hear_108 ?_
                refine g_put S G in_M ft_M tok_M nm_M 0 rfl rfl 7 (by decide) fl_M_42 rfl rfl rfl (Nat.le_of_ble_eq_true rfl) (wM cA a (sU (sU (sU (sU τ 0 0 0) 0 4 1) 0 3 0) 0 2 ((τ 0 2) + 1))) (wm_pmany cA a _ _) d_M_hear_109 (fun H locs G => ?_)
                refine lv_aload_n hx hb d_M_hear_112 rfl (lv_at hl 0 rfl) ?_
                refine g_get (v := .int ((τ 0 2) + 1)) S G in_M 0 rfl rfl 7 (by decide) fl_M_42 rfl d_M_hear_113 ?_
                exact g_reti S hr hlk G ⟨by first | (simp only [mHearR, mHear, mFr, mSp, mMany, mT, eq_false c_1, eq_true c_2, eq_true c_3, eq_false c_7, eq_true c_13, eq_true c_14, eq_true c_15, i10, ↓reduceIte]; done) | (simp only [mHearR, mHear, mFr, mSp, mMany, mT, eq_false c_1, eq_true c_2, eq_true c_3, eq_false c_7, eq_true c_13, eq_true c_14, eq_true c_15, i10, ↓reduceIte]; rfl) | rfl, congrArg (wM cA a) (by first | (simp only [mHearR, mHear, mFr, mSp, mMany, mT, eq_false c_1, eq_true c_2, eq_true c_3, eq_false c_7, eq_true c_13, eq_true c_14, eq_true c_15, i10, ↓reduceIte]; done) | (simp only [mHearR, mHear, mFr, mSp, mMany, mT, eq_false c_1, eq_true c_2, eq_true c_3, eq_false c_7, eq_true c_13, eq_true c_14, eq_true c_15, i10, ↓reduceIte]; rfl) | rfl)⟩ (Nat.le_refl _) (Nat.le_refl _) d_M_hear_116
              · refine lv_aload_n hx hb d_M_hear_96 rfl (lv_at hl 0 rfl) ?_
                refine g_get (v := .int (τ 0 2)) S G in_M 0 rfl rfl 7 (by decide) fl_M_42 rfl d_M_hear_97 ?_
                refine lv_goto (tgt := 109) hx hb d_M_hear_100 (by decide) ?_
                refine g_put S G in_M ft_M tok_M nm_M 0 rfl rfl 7 (by decide) fl_M_42 rfl rfl rfl (Nat.le_of_ble_eq_true rfl) (wM cA a (sU (sU (sU (sU τ 0 0 0) 0 4 1) 0 3 0) 0 2 (τ 0 2))) (wm_pmany cA a _ _) d_M_hear_109 (fun H locs G => ?_)
                refine lv_aload_n hx hb d_M_hear_112 rfl (lv_at hl 0 rfl) ?_
                refine g_get (v := .int (τ 0 2)) S G in_M 0 rfl rfl 7 (by decide) fl_M_42 rfl d_M_hear_113 ?_
                exact g_reti S hr hlk G ⟨by first | (simp only [mHearR, mHear, mFr, mSp, mMany, mT, eq_false c_1, eq_true c_2, eq_true c_3, eq_false c_7, eq_true c_13, eq_true c_14, eq_false c_15, i10, ↓reduceIte]; done) | (simp only [mHearR, mHear, mFr, mSp, mMany, mT, eq_false c_1, eq_true c_2, eq_true c_3, eq_false c_7, eq_true c_13, eq_true c_14, eq_false c_15, i10, ↓reduceIte]; rfl) | rfl, congrArg (wM cA a) (by first | (simp only [mHearR, mHear, mFr, mSp, mMany, mT, eq_false c_1, eq_true c_2, eq_true c_3, eq_false c_7, eq_true c_13, eq_true c_14, eq_false c_15, i10, ↓reduceIte]; done) | (simp only [mHearR, mHear, mFr, mSp, mMany, mT, eq_false c_1, eq_true c_2, eq_true c_3, eq_false c_7, eq_true c_13, eq_true c_14, eq_false c_15, i10, ↓reduceIte]; rfl) | rfl)⟩ (Nat.le_refl _) (Nat.le_refl _) d_M_hear_116
            · refine lv_aload_n hx hb d_M_hear_75 rfl (lv_at hl 0 rfl) ?_
              refine g_get (v := .ref (a 5)) S G in_M 0 rfl rfl 6 (by decide) fl_M_22 rfl d_M_hear_76 ?_
              refine lv_aload_n hx hb d_M_hear_79 rfl (lv_at hl 0 rfl) ?_
              refine g_get (v := .int (τ 0 2)) S G in_M 0 rfl rfl 7 (by decide) fl_M_42 rfl d_M_hear_80 ?_
              refine lv_iload_n hx hb d_M_hear_83 rfl (lv_at hl 1 rfl) ?_
              refine g_iastj S G 5 0 rfl rfl ((τ 0 2).toNatClampNeg) rfl (vin_ge (n := 256) hm c_14 (by decide)) (wM cA a (sU (sU (sU (sU τ 0 0 0) 0 4 1) 0 3 0) 5 ((τ 0 2).toNatClampNeg) b)) (wm_a5 cA a _ _ _) d_M_hear_84 (fun H locs G => ?_)
              refine lv_aload_n hx hb d_M_hear_85 rfl (lv_at hl 0 rfl) ?_
              refine lv_aload_n hx hb d_M_hear_86 rfl (lv_at hl 0 rfl) ?_
              refine g_get (v := .int (τ 0 2)) S G in_M 0 rfl rfl 7 (by decide) fl_M_42 rfl d_M_hear_87 ?_
              refine lv_sipush (v := 256) hx hb d_M_hear_90 (by decide) ?_
              refine lv_icmp_le (tgt := 103) hx hb d_M_hear_93 (by decide) (fun c_16 => ?_) (fun c_16 => ?_)
              · refine lv_aload_n hx hb d_M_hear_103 rfl (lv_at hl 0 rfl) ?_
                refine g_get (v := .int (τ 0 2)) S G in_M 0 rfl rfl 7 (by decide) fl_M_42 rfl d_M_hear_104 ?_
                refine lv_iconst (v := 1) hx hb d_M_hear_107 (by decide) ?_
                refine lv_iadd hx hb d_M_hear_108 ?_
                refine g_put S G in_M ft_M tok_M nm_M 0 rfl rfl 7 (by decide) fl_M_42 rfl rfl rfl (Nat.le_of_ble_eq_true rfl) (wM cA a (sU (sU (sU (sU (sU τ 0 0 0) 0 4 1) 0 3 0) 5 ((τ 0 2).toNatClampNeg) b) 0 2 ((τ 0 2) + 1))) (wm_pmany cA a _ _) d_M_hear_109 (fun H locs G => ?_)
                refine lv_aload_n hx hb d_M_hear_112 rfl (lv_at hl 0 rfl) ?_
                refine g_get (v := .int ((τ 0 2) + 1)) S G in_M 0 rfl rfl 7 (by decide) fl_M_42 rfl d_M_hear_113 ?_
                exact g_reti S hr hlk G ⟨by first | (simp only [mHearR, mHear, mFr, mSp, mMany, mT, eq_false c_1, eq_true c_2, eq_true c_3, eq_false c_7, eq_true c_13, eq_false c_14, eq_true c_16, i10, ↓reduceIte]; done) | (simp only [mHearR, mHear, mFr, mSp, mMany, mT, eq_false c_1, eq_true c_2, eq_true c_3, eq_false c_7, eq_true c_13, eq_false c_14, eq_true c_16, i10, ↓reduceIte]; rfl) | rfl, congrArg (wM cA a) (by first | (simp only [mHearR, mHear, mFr, mSp, mMany, mT, eq_false c_1, eq_true c_2, eq_true c_3, eq_false c_7, eq_true c_13, eq_false c_14, eq_true c_16, i10, ↓reduceIte]; done) | (simp only [mHearR, mHear, mFr, mSp, mMany, mT, eq_false c_1, eq_true c_2, eq_true c_3, eq_false c_7, eq_true c_13, eq_false c_14, eq_true c_16, i10, ↓reduceIte]; rfl) | rfl)⟩ (Nat.le_refl _) (Nat.le_refl _) d_M_hear_116
              · refine lv_aload_n hx hb d_M_hear_96 rfl (lv_at hl 0 rfl) ?_
                refine g_get (v := .int (τ 0 2)) S G in_M 0 rfl rfl 7 (by decide) fl_M_42 rfl d_M_hear_97 ?_
                refine lv_goto (tgt := 109) hx hb d_M_hear_100 (by decide) ?_
                refine g_put S G in_M ft_M tok_M nm_M 0 rfl rfl 7 (by decide) fl_M_42 rfl rfl rfl (Nat.le_of_ble_eq_true rfl) (wM cA a (sU (sU (sU (sU (sU τ 0 0 0) 0 4 1) 0 3 0) 5 ((τ 0 2).toNatClampNeg) b) 0 2 (τ 0 2))) (wm_pmany cA a _ _) d_M_hear_109 (fun H locs G => ?_)
                refine lv_aload_n hx hb d_M_hear_112 rfl (lv_at hl 0 rfl) ?_
                refine g_get (v := .int (τ 0 2)) S G in_M 0 rfl rfl 7 (by decide) fl_M_42 rfl d_M_hear_113 ?_
                exact g_reti S hr hlk G ⟨by first | (simp only [mHearR, mHear, mFr, mSp, mMany, mT, eq_false c_1, eq_true c_2, eq_true c_3, eq_false c_7, eq_true c_13, eq_false c_14, eq_false c_16, i10, ↓reduceIte]; done) | (simp only [mHearR, mHear, mFr, mSp, mMany, mT, eq_false c_1, eq_true c_2, eq_true c_3, eq_false c_7, eq_true c_13, eq_false c_14, eq_false c_16, i10, ↓reduceIte]; rfl) | rfl, congrArg (wM cA a) (by first | (simp only [mHearR, mHear, mFr, mSp, mMany, mT, eq_false c_1, eq_true c_2, eq_true c_3, eq_false c_7, eq_true c_13, eq_false c_14, eq_false c_16, i10, ↓reduceIte]; done) | (simp only [mHearR, mHear, mFr, mSp, mMany, mT, eq_false c_1, eq_true c_2, eq_true c_3, eq_false c_7, eq_true c_13, eq_false c_14, eq_false c_16, i10, ↓reduceIte]; rfl) | rfl)⟩ (Nat.le_refl _) (Nat.le_refl _) d_M_hear_116
          · refine lv_aload_n hx hb d_M_hear_42 rfl (lv_at hl 0 rfl) ?_
            refine g_get (v := .int (τ 0 2)) S G in_M 0 rfl rfl 7 (by decide) fl_M_42 rfl d_M_hear_43 ?_
            refine lv_sipush (v := 256) hx hb d_M_hear_46 (by decide) ?_
            refine lv_icmp_lt (tgt := 56) hx hb d_M_hear_49 (by decide) (fun c_17 => ?_) (fun c_17 => ?_)
            · refine lv_iconst (v := 0) hx hb d_M_hear_56 (by decide) ?_
              refine g_put S G in_M ft_M tok_M nm_M 0 rfl rfl 9 (by decide) fl_M_38 rfl rfl rfl (Nat.le_of_ble_eq_true rfl) (wM cA a (sU (sU τ 0 0 0) 0 4 0)) (wm_pspoilt cA a _ _) d_M_hear_57 (fun H locs G => ?_)
              refine lv_aload_n hx hb d_M_hear_60 rfl (lv_at hl 0 rfl) ?_
              refine lv_iconst (v := 0) hx hb d_M_hear_61 (by decide) ?_
              refine g_put S G in_M ft_M tok_M nm_M 0 rfl rfl 8 (by decide) fl_M_45 rfl rfl rfl (Nat.le_of_ble_eq_true rfl) (wM cA a (sU (sU (sU τ 0 0 0) 0 4 0) 0 3 0)) (wm_pgap cA a _ _) d_M_hear_62 (fun H locs G => ?_)
              refine lv_aload_n hx hb d_M_hear_65 rfl (lv_at hl 0 rfl) ?_
              refine g_get (v := .int (τ 0 2)) S G in_M 0 rfl rfl 7 (by decide) fl_M_42 rfl d_M_hear_66 ?_
              refine lv_sipush (v := 256) hx hb d_M_hear_69 (by decide) ?_
              have k_18 : ¬ (256 ≤ (τ 0 2)) := Int32.not_le.mpr c_17
              refine lv_icmp_ge (tgt := 85) hx hb d_M_hear_72 (by decide) (fun h9 => absurd h9 k_18) (fun _ => ?_)
              refine lv_aload_n hx hb d_M_hear_75 rfl (lv_at hl 0 rfl) ?_
              refine g_get (v := .ref (a 5)) S G in_M 0 rfl rfl 6 (by decide) fl_M_22 rfl d_M_hear_76 ?_
              refine lv_aload_n hx hb d_M_hear_79 rfl (lv_at hl 0 rfl) ?_
              refine g_get (v := .int (τ 0 2)) S G in_M 0 rfl rfl 7 (by decide) fl_M_42 rfl d_M_hear_80 ?_
              refine lv_iload_n hx hb d_M_hear_83 rfl (lv_at hl 1 rfl) ?_
              refine g_iastj S G 5 0 rfl rfl ((τ 0 2).toNatClampNeg) rfl (vin_ge (n := 256) hm k_18 (by decide)) (wM cA a (sU (sU (sU (sU τ 0 0 0) 0 4 0) 0 3 0) 5 ((τ 0 2).toNatClampNeg) b)) (wm_a5 cA a _ _ _) d_M_hear_84 (fun H locs G => ?_)
              refine lv_aload_n hx hb d_M_hear_85 rfl (lv_at hl 0 rfl) ?_
              refine lv_aload_n hx hb d_M_hear_86 rfl (lv_at hl 0 rfl) ?_
              refine g_get (v := .int (τ 0 2)) S G in_M 0 rfl rfl 7 (by decide) fl_M_42 rfl d_M_hear_87 ?_
              refine lv_sipush (v := 256) hx hb d_M_hear_90 (by decide) ?_
              refine lv_icmp_le (tgt := 103) hx hb d_M_hear_93 (by decide) (fun c_19 => ?_) (fun c_19 => ?_)
              · refine lv_aload_n hx hb d_M_hear_103 rfl (lv_at hl 0 rfl) ?_
                refine g_get (v := .int (τ 0 2)) S G in_M 0 rfl rfl 7 (by decide) fl_M_42 rfl d_M_hear_104 ?_
                refine lv_iconst (v := 1) hx hb d_M_hear_107 (by decide) ?_
                refine lv_iadd hx hb d_M_hear_108 ?_
                refine g_put S G in_M ft_M tok_M nm_M 0 rfl rfl 7 (by decide) fl_M_42 rfl rfl rfl (Nat.le_of_ble_eq_true rfl) (wM cA a (sU (sU (sU (sU (sU τ 0 0 0) 0 4 0) 0 3 0) 5 ((τ 0 2).toNatClampNeg) b) 0 2 ((τ 0 2) + 1))) (wm_pmany cA a _ _) d_M_hear_109 (fun H locs G => ?_)
                refine lv_aload_n hx hb d_M_hear_112 rfl (lv_at hl 0 rfl) ?_
                refine g_get (v := .int ((τ 0 2) + 1)) S G in_M 0 rfl rfl 7 (by decide) fl_M_42 rfl d_M_hear_113 ?_
                exact g_reti S hr hlk G ⟨by first | (simp only [mHearR, mHear, mFr, mSp, mMany, mT, eq_false c_1, eq_true c_2, eq_true c_3, eq_false c_7, eq_false c_13, eq_true c_17, eq_false k_18, eq_true c_19, i10, ↓reduceIte]; done) | (simp only [mHearR, mHear, mFr, mSp, mMany, mT, eq_false c_1, eq_true c_2, eq_true c_3, eq_false c_7, eq_false c_13, eq_true c_17, eq_false k_18, eq_true c_19, i10, ↓reduceIte]; rfl) | rfl, congrArg (wM cA a) (by first | (simp only [mHearR, mHear, mFr, mSp, mMany, mT, eq_false c_1, eq_true c_2, eq_true c_3, eq_false c_7, eq_false c_13, eq_true c_17, eq_false k_18, eq_true c_19, i10, ↓reduceIte]; done) | (simp only [mHearR, mHear, mFr, mSp, mMany, mT, eq_false c_1, eq_true c_2, eq_true c_3, eq_false c_7, eq_false c_13, eq_true c_17, eq_false k_18, eq_true c_19, i10, ↓reduceIte]; rfl) | rfl)⟩ (Nat.le_refl _) (Nat.le_refl _) d_M_hear_116
              · refine lv_aload_n hx hb d_M_hear_96 rfl (lv_at hl 0 rfl) ?_
                refine g_get (v := .int (τ 0 2)) S G in_M 0 rfl rfl 7 (by decide) fl_M_42 rfl d_M_hear_97 ?_
                refine lv_goto (tgt := 109) hx hb d_M_hear_100 (by decide) ?_
                refine g_put S G in_M ft_M tok_M nm_M 0 rfl rfl 7 (by decide) fl_M_42 rfl rfl rfl (Nat.le_of_ble_eq_true rfl) (wM cA a (sU (sU (sU (sU (sU τ 0 0 0) 0 4 0) 0 3 0) 5 ((τ 0 2).toNatClampNeg) b) 0 2 (τ 0 2))) (wm_pmany cA a _ _) d_M_hear_109 (fun H locs G => ?_)
                refine lv_aload_n hx hb d_M_hear_112 rfl (lv_at hl 0 rfl) ?_
                refine g_get (v := .int (τ 0 2)) S G in_M 0 rfl rfl 7 (by decide) fl_M_42 rfl d_M_hear_113 ?_
                exact g_reti S hr hlk G ⟨by first | (simp only [mHearR, mHear, mFr, mSp, mMany, mT, eq_false c_1, eq_true c_2, eq_true c_3, eq_false c_7, eq_false c_13, eq_true c_17, eq_false k_18, eq_false c_19, i10, ↓reduceIte]; done) | (simp only [mHearR, mHear, mFr, mSp, mMany, mT, eq_false c_1, eq_true c_2, eq_true c_3, eq_false c_7, eq_false c_13, eq_true c_17, eq_false k_18, eq_false c_19, i10, ↓reduceIte]; rfl) | rfl, congrArg (wM cA a) (by first | (simp only [mHearR, mHear, mFr, mSp, mMany, mT, eq_false c_1, eq_true c_2, eq_true c_3, eq_false c_7, eq_false c_13, eq_true c_17, eq_false k_18, eq_false c_19, i10, ↓reduceIte]; done) | (simp only [mHearR, mHear, mFr, mSp, mMany, mT, eq_false c_1, eq_true c_2, eq_true c_3, eq_false c_7, eq_false c_13, eq_true c_17, eq_false k_18, eq_false c_19, i10, ↓reduceIte]; rfl) | rfl)⟩ (Nat.le_refl _) (Nat.le_refl _) d_M_hear_116
            · refine lv_iconst (v := 1) hx hb d_M_hear_52 (by decide) ?_
              refine lv_goto (tgt := 57) hx hb d_M_hear_53 (by decide) ?_
              refine g_put S G in_M ft_M tok_M nm_M 0 rfl rfl 9 (by decide) fl_M_38 rfl rfl rfl (Nat.le_of_ble_eq_true rfl) (wM cA a (sU (sU τ 0 0 0) 0 4 1)) (wm_pspoilt cA a _ _) d_M_hear_57 (fun H locs G => ?_)
              refine lv_aload_n hx hb d_M_hear_60 rfl (lv_at hl 0 rfl) ?_
              refine lv_iconst (v := 0) hx hb d_M_hear_61 (by decide) ?_
              refine g_put S G in_M ft_M tok_M nm_M 0 rfl rfl 8 (by decide) fl_M_45 rfl rfl rfl (Nat.le_of_ble_eq_true rfl) (wM cA a (sU (sU (sU τ 0 0 0) 0 4 1) 0 3 0)) (wm_pgap cA a _ _) d_M_hear_62 (fun H locs G => ?_)
              refine lv_aload_n hx hb d_M_hear_65 rfl (lv_at hl 0 rfl) ?_
              refine g_get (v := .int (τ 0 2)) S G in_M 0 rfl rfl 7 (by decide) fl_M_42 rfl d_M_hear_66 ?_
              refine lv_sipush (v := 256) hx hb d_M_hear_69 (by decide) ?_
              have k_20 : 256 ≤ (τ 0 2) := Int32.not_lt.mp c_17
              refine lv_icmp_ge (tgt := 85) hx hb d_M_hear_72 (by decide) (fun _ => ?_) (fun h9 => absurd k_20 h9)
              refine lv_aload_n hx hb d_M_hear_85 rfl (lv_at hl 0 rfl) ?_
              refine lv_aload_n hx hb d_M_hear_86 rfl (lv_at hl 0 rfl) ?_
              refine g_get (v := .int (τ 0 2)) S G in_M 0 rfl rfl 7 (by decide) fl_M_42 rfl d_M_hear_87 ?_
              refine lv_sipush (v := 256) hx hb d_M_hear_90 (by decide) ?_
              refine lv_icmp_le (tgt := 103) hx hb d_M_hear_93 (by decide) (fun c_21 => ?_) (fun c_21 => ?_)
              · refine lv_aload_n hx hb d_M_hear_103 rfl (lv_at hl 0 rfl) ?_
                refine g_get (v := .int (τ 0 2)) S G in_M 0 rfl rfl 7 (by decide) fl_M_42 rfl d_M_hear_104 ?_
                refine lv_iconst (v := 1) hx hb d_M_hear_107 (by decide) ?_
                refine lv_iadd hx hb d_M_hear_108 ?_
                refine g_put S G in_M ft_M tok_M nm_M 0 rfl rfl 7 (by decide) fl_M_42 rfl rfl rfl (Nat.le_of_ble_eq_true rfl) (wM cA a (sU (sU (sU (sU τ 0 0 0) 0 4 1) 0 3 0) 0 2 ((τ 0 2) + 1))) (wm_pmany cA a _ _) d_M_hear_109 (fun H locs G => ?_)
                refine lv_aload_n hx hb d_M_hear_112 rfl (lv_at hl 0 rfl) ?_
                refine g_get (v := .int ((τ 0 2) + 1)) S G in_M 0 rfl rfl 7 (by decide) fl_M_42 rfl d_M_hear_113 ?_
                exact g_reti S hr hlk G ⟨by first | (simp only [mHearR, mHear, mFr, mSp, mMany, mT, eq_false c_1, eq_true c_2, eq_true c_3, eq_false c_7, eq_false c_13, eq_false c_17, eq_true k_20, eq_true c_21, i10, ↓reduceIte]; done) | (simp only [mHearR, mHear, mFr, mSp, mMany, mT, eq_false c_1, eq_true c_2, eq_true c_3, eq_false c_7, eq_false c_13, eq_false c_17, eq_true k_20, eq_true c_21, i10, ↓reduceIte]; rfl) | rfl, congrArg (wM cA a) (by first | (simp only [mHearR, mHear, mFr, mSp, mMany, mT, eq_false c_1, eq_true c_2, eq_true c_3, eq_false c_7, eq_false c_13, eq_false c_17, eq_true k_20, eq_true c_21, i10, ↓reduceIte]; done) | (simp only [mHearR, mHear, mFr, mSp, mMany, mT, eq_false c_1, eq_true c_2, eq_true c_3, eq_false c_7, eq_false c_13, eq_false c_17, eq_true k_20, eq_true c_21, i10, ↓reduceIte]; rfl) | rfl)⟩ (Nat.le_refl _) (Nat.le_refl _) d_M_hear_116
              · refine lv_aload_n hx hb d_M_hear_96 rfl (lv_at hl 0 rfl) ?_
                refine g_get (v := .int (τ 0 2)) S G in_M 0 rfl rfl 7 (by decide) fl_M_42 rfl d_M_hear_97 ?_
                refine lv_goto (tgt := 109) hx hb d_M_hear_100 (by decide) ?_
                refine g_put S G in_M ft_M tok_M nm_M 0 rfl rfl 7 (by decide) fl_M_42 rfl rfl rfl (Nat.le_of_ble_eq_true rfl) (wM cA a (sU (sU (sU (sU τ 0 0 0) 0 4 1) 0 3 0) 0 2 (τ 0 2))) (wm_pmany cA a _ _) d_M_hear_109 (fun H locs G => ?_)
                refine lv_aload_n hx hb d_M_hear_112 rfl (lv_at hl 0 rfl) ?_
                refine g_get (v := .int (τ 0 2)) S G in_M 0 rfl rfl 7 (by decide) fl_M_42 rfl d_M_hear_113 ?_
                exact g_reti S hr hlk G ⟨by first | (simp only [mHearR, mHear, mFr, mSp, mMany, mT, eq_false c_1, eq_true c_2, eq_true c_3, eq_false c_7, eq_false c_13, eq_false c_17, eq_true k_20, eq_false c_21, i10, ↓reduceIte]; done) | (simp only [mHearR, mHear, mFr, mSp, mMany, mT, eq_false c_1, eq_true c_2, eq_true c_3, eq_false c_7, eq_false c_13, eq_false c_17, eq_true k_20, eq_false c_21, i10, ↓reduceIte]; rfl) | rfl, congrArg (wM cA a) (by first | (simp only [mHearR, mHear, mFr, mSp, mMany, mT, eq_false c_1, eq_true c_2, eq_true c_3, eq_false c_7, eq_false c_13, eq_false c_17, eq_true k_20, eq_false c_21, i10, ↓reduceIte]; done) | (simp only [mHearR, mHear, mFr, mSp, mMany, mT, eq_false c_1, eq_true c_2, eq_true c_3, eq_false c_7, eq_false c_13, eq_false c_17, eq_true k_20, eq_false c_21, i10, ↓reduceIte]; rfl) | rfl)⟩ (Nat.le_refl _) (Nat.le_refl _) d_M_hear_116
    · refine lv_iconst (v := (-1)) hx hb d_M_hear_16 (by decide) ?_
      exact g_reti S hr hlk G ⟨by first | (simp only [mHearR, mHear, mFr, mSp, mMany, mT, eq_false c_1, eq_false c_2, i10, ↓reduceIte]; done) | (simp only [mHearR, mHear, mFr, mSp, mMany, mT, eq_false c_1, eq_false c_2, i10, ↓reduceIte]; rfl) | rfl, congrArg (wM cA a) (by first | (simp only [mHearR, mHear, mFr, mSp, mMany, mT, eq_false c_1, eq_false c_2, i10, ↓reduceIte]; done) | (simp only [mHearR, mHear, mFr, mSp, mMany, mT, eq_false c_1, eq_false c_2, i10, ↓reduceIte]; rfl) | rfl)⟩ (Nat.le_refl _) (Nat.le_refl _) d_M_hear_17

abbrev rm_M_listen : Room := { frames := 1, cells := 0, slots := 0, locals := 21 }
set_option maxHeartbeats 1000000 in
set_option maxRecDepth 100000 in
theorem c_M_listen (l : Launch) (D : va_G) (cA : ClassId) (a : Nat → Nat) (τ : St) (k0 : Int32) (v : Int64) (hm : ¬ τ 0 2 < 0) : Ci l y_M_listen w_M_listen rm_M_listen D vwCl [(cA, .int)] [.ref (a 0), .int k0, .long v] (wM cA a τ) 0 0 (fun r0 w0 => r0 = mLisR τ k0 v ∧ w0 = wM cA a (mLis τ k0 v)) := by
  refine Ci.of (Ts := lw_g) (own := "WireSlaveModel") (cc := b_M_listen) (maxL := 6) (ret := (some .int)) (lv := [(0, .ref (a 0)), (1, .int k0), (2, .long v)]) (by decide) rfl rfl (fun w h => List.mem_cons_of_mem _ h) (Nat.le_of_ble_eq_true rfl) rfl ?_
  intro pp ee ss mm args below meth cx AA S hr hlk G ls hl
  have hx := S.1
  have hb := S.2.1
  refine lv_aload_n hx hb d_M_listen_0 rfl (lv_at hl 0 rfl) ?_
  refine lv_iconst (v := 0) hx hb d_M_listen_1 (by decide) ?_
  refine g_put S G in_M ft_M tok_M nm_M 0 rfl rfl 0 (by decide) fl_M_35 rfl rfl rfl (Nat.le_of_ble_eq_true rfl) (wM cA a (sU τ 0 0 0)) (wm_pthrown cA a _ _) d_M_listen_2 (fun H locs G => ?_)
  refine lv_iload_n hx hb d_M_listen_5 rfl (lv_at hl 1 rfl) ?_
  refine lv_iconst (v := 1) hx hb d_M_listen_6 (by decide) ?_
  refine lv_icmp_lt (tgt := 16) hx hb d_M_listen_7 (by decide) (fun c_1 => ?_) (fun c_1 => ?_)
  · refine lv_iconst (v := (-1)) hx hb d_M_listen_16 (by decide) ?_
    exact g_reti S hr hlk G ⟨by first | (simp only [mLisR, mLis, mT, eq_true c_1, i10, ↓reduceIte]; done) | (simp only [mLisR, mLis, mT, eq_true c_1, i10, ↓reduceIte]; rfl) | rfl, congrArg (wM cA a) (by first | (simp only [mLisR, mLis, mT, eq_true c_1, i10, ↓reduceIte]; done) | (simp only [mLisR, mLis, mT, eq_true c_1, i10, ↓reduceIte]; rfl) | rfl)⟩ (Nat.le_refl _) (Nat.le_refl _) d_M_listen_17
  · refine lv_iload_n hx hb d_M_listen_10 rfl (lv_at hl 1 rfl) ?_
    refine lv_bipush (v := 8) hx hb d_M_listen_11 (by decide) ?_
    refine lv_icmp_le (tgt := 18) hx hb d_M_listen_13 (by decide) (fun c_2 => ?_) (fun c_2 => ?_)
    · refine lv_iconst (v := 0) hx hb d_M_listen_18 (by decide) ?_
      refine lv_istore (lv' := [(4, .int 0), (0, .ref (a 0)), (1, .int k0), (2, .long v)]) hx hb d_M_listen_19 hl (by decide) rfl (fun ls hl => ?_)
      refine lv_iload_n hx hb d_M_listen_21 rfl (lv_at hl 2 rfl) ?_
      refine lv_iconst (v := 1) hx hb d_M_listen_22 (by decide) ?_
      refine lv_isub hx hb d_M_listen_23 ?_
      refine lv_istore (lv' := [(5, .int (k0 - 1)), (4, .int 0), (0, .ref (a 0)), (1, .int k0), (2, .long v)]) hx hb d_M_listen_24 hl (by decide) rfl (fun ls hl => ?_)
      have lp : ∀ (n : Nat) (x y : Int32) (ρ : St) (H : Heap) (locs : List Loc) (ls : Array Slot), (x = nI n - 1) → (n ≤ 8) → (¬ ρ 0 2 < 0) → (mLisL v n ρ = mLisL v k0.toNatClampNeg (mT τ)) → (mLisY v n ρ y = mLisY v k0.toNatClampNeg (mT τ) 0) → Gw D vwCl [(cA, .int)] AA ss ss.heap H locs (wM cA a (ρ)) → lv_has ls 6 [(0, .ref (a 0)), (1, .int k0), (2, .long v), (4, .int y), (5, .int x)] → W pp l ee rm_M_listen ss mm args below meth cx H locs 0 0 (Zi D vwCl [(cA, .int)] AA ss args below 0 0 (fun r0 w0 => r0 = mLisR τ k0 v ∧ w0 = wM cA a (mLis τ k0 v))) (F0 mm 26 ls []) := by
        intro n
        induction n with
        | zero =>
          intro x y ρ H locs ls hxn hn8 hρ hF hY G hl
          refine lv_iload hx hb d_M_listen_26 (lv_at hl 4 rfl) ?_
          have k_3 : x < 0 := by rw [hxn]; decide
          refine lv_if_lt (tgt := 55) hx hb d_M_listen_28 (by decide) (fun _ => ?_) (fun h9 => absurd k_3 h9)
          refine lv_iload hx hb d_M_listen_55 (lv_at hl 3 rfl) ?_
          exact g_reti S hr hlk G ⟨by simp only [mLisR, eq_false c_1, eq_true c_2, ↓reduceIte]; exact hY, by simp only [mLis, eq_false c_1, eq_true c_2, ↓reduceIte]; exact congrArg (wM cA a) hF⟩ (Nat.le_refl _) (Nat.le_refl _) d_M_listen_57
        | succ n ih =>
          intro x y ρ H locs ls hxn hn8 hρ hF hY G hl
          rw [nI_pred n] at hxn
          subst hxn
          refine lv_iload hx hb d_M_listen_26 (lv_at hl 4 rfl) ?_
          have k_4 : ¬ ((nI n) < 0) := nI_pos (by omega)
          refine lv_if_lt (tgt := 55) hx hb d_M_listen_28 (by decide) (fun h9 => absurd h9 k_4) (fun _ => ?_)
          refine lv_aload_n hx hb d_M_listen_31 rfl (lv_at hl 0 rfl) ?_
          refine lv_lload_n hx hb d_M_listen_32 rfl (lv_at hl 2 rfl) ?_
          refine lv_bipush (v := 8) hx hb d_M_listen_33 (by decide) ?_
          refine lv_iload hx hb d_M_listen_35 (lv_at hl 4 rfl) ?_
          refine lv_imul hx hb d_M_listen_37 ?_
          refine lv_lshr (v := lshr v (8 * (nI n))) hx hb d_M_listen_38 rfl ?_
          refine lv_ldc2 (v := 255) hx hb S.2.2.2.1 (S.2.2.2.2 _ kn_M_48) d_M_listen_39 ?_
          refine lv_land hx hb d_M_listen_42 ?_
          refine lv_l2i (v := ((lshr v (8 * (nI n))) &&& 255).toInt32) hx hb d_M_listen_43 rfl ?_
          refine g_cVi (rest := []) S G (c_M_hear l D cA a (ρ) (((lshr v (8 * (nI n))) &&& 255).toInt32) hρ) (cwV 1 S.2.2.2.2 ml_M_50 rfl rfl rfl (by decide +kernel) ⟨Nat.le_of_ble_eq_true rfl, Nat.le_of_ble_eq_true rfl⟩) [0, 1, 2, 3, 4, 5, 6, 7] [] rfl rfl rfl rfl (by decide) 0 rfl rfl rfl hl.1 rfl (Nat.le_of_ble_eq_true rfl) d_M_listen_44 ⟨Nat.le_of_ble_eq_true rfl, Nat.le_of_ble_eq_true rfl⟩ (fun rp_5 wp_5 H locs hp_5 G => ?_)
          obtain ⟨ep_5, rfl⟩ := hp_5
          replace ep_5 := ep_5.symm
          subst ep_5
          have G : Gw D vwCl [(cA, .int)] AA ss ss.heap H locs (wM cA a (mHear (ρ) (((lshr v (8 * (nI n))) &&& 255).toInt32))) := G
          refine lv_istore (lv' := [(4, .int (mHearR (ρ) (((lshr v (8 * (nI n))) &&& 255).toInt32))), (0, .ref (a 0)), (1, .int k0), (2, .long v), (5, .int (nI n))]) hx hb d_M_listen_47 hl (by decide) rfl (fun ls hl => ?_)
          refine lv_iinc (v := (nI n) + (-1)) (lv' := [(5, .int ((nI n) + (-1))), (4, .int (mHearR (ρ) (((lshr v (8 * (nI n))) &&& 255).toInt32))), (0, .ref (a 0)), (1, .int k0), (2, .long v)]) hx hb d_M_listen_49 hl (k := 4) rfl rfl (by decide) rfl (fun ls hl => ?_)
          refine lv_goto (tgt := 26) hx hb d_M_listen_52 (by decide) ?_
          exact ih _ _ _ H locs ls (m1_ _) (by omega) (mHear_nn hρ _) hF hY G (lv_sub hl [2, 3, 4, 1, 0] rfl)
      exact lp k0.toNatClampNeg (k0 - 1) 0 (mT τ) _ _ ls (by rw [← nI_self (pos_of1 c_1)]) (clamp_le (n := 8) c_2 (by decide)) hm rfl rfl G (lv_sub hl [2, 3, 4, 1, 0] rfl)
    · refine lv_iconst (v := (-1)) hx hb d_M_listen_16 (by decide) ?_
      exact g_reti S hr hlk G ⟨by first | (simp only [mLisR, mLis, mT, eq_false c_1, eq_false c_2, i10, ↓reduceIte]; done) | (simp only [mLisR, mLis, mT, eq_false c_1, eq_false c_2, i10, ↓reduceIte]; rfl) | rfl, congrArg (wM cA a) (by first | (simp only [mLisR, mLis, mT, eq_false c_1, eq_false c_2, i10, ↓reduceIte]; done) | (simp only [mLisR, mLis, mT, eq_false c_1, eq_false c_2, i10, ↓reduceIte]; rfl) | rfl)⟩ (Nat.le_refl _) (Nat.le_refl _) d_M_listen_17

abbrev rm_M_sum : Room := { frames := 1, cells := 0, slots := 0, locals := 24 }
set_option maxHeartbeats 1000000 in
set_option maxRecDepth 100000 in
theorem c_M_sum (l : Launch) (D : va_G) (cA : ClassId) (a : Nat → Nat) (τ : St) (k0 : Int32) (v : Int64)  : Ci l y_M_sum w_M_sum rm_M_sum D vwCl [(cA, .int)] [.ref (a 0), .int k0, .long v] (wM cA a τ) 0 0 (fun r0 w0 => r0 = mSumR k0 v ∧ w0 = wM cA a (mT τ)) := by
  refine Ci.of (Ts := lw_g) (own := "WireSlaveModel") (cc := b_M_sum) (maxL := 6) (ret := (some .int)) (lv := [(0, .ref (a 0)), (1, .int k0), (2, .long v)]) (by decide) rfl rfl (fun w h => List.mem_cons_of_mem _ h) (Nat.le_of_ble_eq_true rfl) rfl ?_
  intro pp ee ss mm args below meth cx AA S hr hlk G ls hl
  have hx := S.1
  have hb := S.2.1
  refine lv_aload_n hx hb d_M_sum_0 rfl (lv_at hl 0 rfl) ?_
  refine lv_iconst (v := 0) hx hb d_M_sum_1 (by decide) ?_
  refine g_put S G in_M ft_M tok_M nm_M 0 rfl rfl 0 (by decide) fl_M_35 rfl rfl rfl (Nat.le_of_ble_eq_true rfl) (wM cA a (sU τ 0 0 0)) (wm_pthrown cA a _ _) d_M_sum_2 (fun H locs G => ?_)
  refine lv_iload_n hx hb d_M_sum_5 rfl (lv_at hl 1 rfl) ?_
  refine lv_if_lt (tgt := 15) hx hb d_M_sum_6 (by decide) (fun c_1 => ?_) (fun c_1 => ?_)
  · refine lv_iconst (v := (-1)) hx hb d_M_sum_15 (by decide) ?_
    exact g_reti S hr hlk G ⟨by first | (simp only [mSumR, mT, eq_true c_1, i10, ↓reduceIte]; done) | (simp only [mSumR, mT, eq_true c_1, i10, ↓reduceIte]; rfl) | rfl, congrArg (wM cA a) (by first | (simp only [mSumR, mT, eq_true c_1, i10, ↓reduceIte]; done) | (simp only [mSumR, mT, eq_true c_1, i10, ↓reduceIte]; rfl) | rfl)⟩ (Nat.le_refl _) (Nat.le_refl _) d_M_sum_16
  · refine lv_iload_n hx hb d_M_sum_9 rfl (lv_at hl 1 rfl) ?_
    refine lv_bipush (v := 8) hx hb d_M_sum_10 (by decide) ?_
    refine lv_icmp_le (tgt := 17) hx hb d_M_sum_12 (by decide) (fun c_2 => ?_) (fun c_2 => ?_)
    · refine lv_ldc (v := 65535) hx hb S.2.2.2.1 (S.2.2.2.2 _ kn_M_59) d_M_sum_17 ?_
      refine lv_istore (lv' := [(4, .int 65535), (0, .ref (a 0)), (1, .int k0), (2, .long v)]) hx hb d_M_sum_19 hl (by decide) rfl (fun ls hl => ?_)
      refine lv_iload_n hx hb d_M_sum_21 rfl (lv_at hl 2 rfl) ?_
      refine lv_iconst (v := 1) hx hb d_M_sum_22 (by decide) ?_
      refine lv_isub hx hb d_M_sum_23 ?_
      refine lv_istore (lv' := [(5, .int (k0 - 1)), (4, .int 65535), (0, .ref (a 0)), (1, .int k0), (2, .long v)]) hx hb d_M_sum_24 hl (by decide) rfl (fun ls hl => ?_)
      have lp : ∀ (n : Nat) (x y : Int32) (H : Heap) (locs : List Loc) (ls : Array Slot), (x = nI n - 1) → (n ≤ 8) → (mSumL v n y = mSumL v k0.toNatClampNeg 65535) → Gw D vwCl [(cA, .int)] AA ss ss.heap H locs (wM cA a (sU τ 0 0 0)) → lv_has ls 6 [(0, .ref (a 0)), (1, .int k0), (2, .long v), (4, .int y), (5, .int x)] → W pp l ee rm_M_sum ss mm args below meth cx H locs 0 0 (Zi D vwCl [(cA, .int)] AA ss args below 0 0 (fun r0 w0 => r0 = mSumR k0 v ∧ w0 = wM cA a (mT τ))) (F0 mm 26 ls []) := by
        intro n
        induction n with
        | zero =>
          intro x y H locs ls hxn hn8 hF G hl
          refine lv_iload hx hb d_M_sum_26 (lv_at hl 4 rfl) ?_
          have k_3 : x < 0 := by rw [hxn]; decide
          refine lv_if_lt (tgt := 57) hx hb d_M_sum_28 (by decide) (fun _ => ?_) (fun h9 => absurd k_3 h9)
          refine lv_iload hx hb d_M_sum_57 (lv_at hl 3 rfl) ?_
          exact g_reti S hr hlk G ⟨by simp only [mSumR, eq_false c_1, eq_true c_2, ↓reduceIte]; exact hF, rfl⟩ (Nat.le_refl _) (Nat.le_refl _) d_M_sum_59
        | succ n ih =>
          intro x y H locs ls hxn hn8 hF G hl
          rw [nI_pred n] at hxn
          subst hxn
          refine lv_iload hx hb d_M_sum_26 (lv_at hl 4 rfl) ?_
          have k_4 : ¬ ((nI n) < 0) := nI_pos (by omega)
          refine lv_if_lt (tgt := 57) hx hb d_M_sum_28 (by decide) (fun h9 => absurd h9 k_4) (fun _ => ?_)
          refine lv_aload_n hx hb d_M_sum_31 rfl (lv_at hl 0 rfl) ?_
          refine lv_iload hx hb d_M_sum_32 (lv_at hl 3 rfl) ?_
          refine lv_lload_n hx hb d_M_sum_34 rfl (lv_at hl 2 rfl) ?_
          refine lv_bipush (v := 8) hx hb d_M_sum_35 (by decide) ?_
          refine lv_iload hx hb d_M_sum_37 (lv_at hl 4 rfl) ?_
          refine lv_imul hx hb d_M_sum_39 ?_
          refine lv_lshr (v := lshr v (8 * (nI n))) hx hb d_M_sum_40 rfl ?_
          refine lv_ldc2 (v := 255) hx hb S.2.2.2.1 (S.2.2.2.2 _ kn_M_48) d_M_sum_41 ?_
          refine lv_land hx hb d_M_sum_44 ?_
          refine lv_l2i (v := ((lshr v (8 * (nI n))) &&& 255).toInt32) hx hb d_M_sum_45 rfl ?_
          refine g_cVi (rest := []) S G (c_M_with l D cA a (sU τ 0 0 0) y (((lshr v (8 * (nI n))) &&& 255).toInt32)) (cwV 2 S.2.2.2.2 ml_M_60 rfl rfl rfl (by decide +kernel) ⟨Nat.le_of_ble_eq_true rfl, Nat.le_of_ble_eq_true rfl⟩) [0, 1, 2, 3, 4, 5, 6, 7] [] rfl rfl rfl rfl (by decide) 0 rfl rfl rfl hl.1 rfl (Nat.le_of_ble_eq_true rfl) d_M_sum_46 ⟨Nat.le_of_ble_eq_true rfl, Nat.le_of_ble_eq_true rfl⟩ (fun rp_5 wp_5 H locs hp_5 G => ?_)
          obtain ⟨ep_5, rfl⟩ := hp_5
          replace ep_5 := ep_5.symm
          subst ep_5
          have G : Gw D vwCl [(cA, .int)] AA ss ss.heap H locs (wM cA a (sU τ 0 0 0)) := G
          refine lv_istore (lv' := [(4, .int (mWith y (((lshr v (8 * (nI n))) &&& 255).toInt32))), (0, .ref (a 0)), (1, .int k0), (2, .long v), (5, .int (nI n))]) hx hb d_M_sum_49 hl (by decide) rfl (fun ls hl => ?_)
          refine lv_iinc (v := (nI n) + (-1)) (lv' := [(5, .int ((nI n) + (-1))), (4, .int (mWith y (((lshr v (8 * (nI n))) &&& 255).toInt32))), (0, .ref (a 0)), (1, .int k0), (2, .long v)]) hx hb d_M_sum_51 hl (k := 4) rfl rfl (by decide) rfl (fun ls hl => ?_)
          refine lv_goto (tgt := 26) hx hb d_M_sum_54 (by decide) ?_
          exact ih _ _ H locs ls (m1_ _) (by omega) hF G (lv_sub hl [2, 3, 4, 1, 0] rfl)
      exact lp k0.toNatClampNeg (k0 - 1) 65535 _ _ ls (by rw [← nI_self c_1]) (clamp_le (n := 8) c_2 (by decide)) rfl G (lv_sub hl [2, 3, 4, 1, 0] rfl)
    · refine lv_iconst (v := (-1)) hx hb d_M_sum_15 (by decide) ?_
      exact g_reti S hr hlk G ⟨by first | (simp only [mSumR, mT, eq_false c_1, eq_false c_2, i10, ↓reduceIte]; done) | (simp only [mSumR, mT, eq_false c_1, eq_false c_2, i10, ↓reduceIte]; rfl) | rfl, congrArg (wM cA a) (by first | (simp only [mSumR, mT, eq_false c_1, eq_false c_2, i10, ↓reduceIte]; done) | (simp only [mSumR, mT, eq_false c_1, eq_false c_2, i10, ↓reduceIte]; rfl) | rfl)⟩ (Nat.le_refl _) (Nat.le_refl _) d_M_sum_16

abbrev rm_M_reply : Room := { frames := 0, cells := 0, slots := 0, locals := 0 }
set_option maxHeartbeats 1000000 in
set_option maxRecDepth 100000 in
theorem c_M_reply (l : Launch) (D : va_G) (cA : ClassId) (a : Nat → Nat) (τ : St) (i : Int32) (hz : i < τ 0 5 → ¬ i < 0 → vp_in i 300) : Ci l y_M_reply w_M_reply rm_M_reply D vwCl [(cA, .int)] [.ref (a 0), .int i] (wM cA a τ) 0 0 (fun r0 w0 => r0 = mReply τ i ∧ w0 = wM cA a (mT τ)) := by
  refine Ci.of (Ts := lw_g) (own := "WireSlaveModel") (cc := b_M_reply) (maxL := 2) (ret := (some .int)) (lv := [(0, .ref (a 0)), (1, .int i)]) (by decide) rfl rfl (fun w h => List.mem_cons_of_mem _ h) (Nat.le_of_ble_eq_true rfl) rfl ?_
  intro pp ee ss mm args below meth cx AA S hr hlk G ls hl
  have hx := S.1
  have hb := S.2.1
  refine lv_aload_n hx hb d_M_reply_0 rfl (lv_at hl 0 rfl) ?_
  refine lv_iconst (v := 0) hx hb d_M_reply_1 (by decide) ?_
  refine g_put S G in_M ft_M tok_M nm_M 0 rfl rfl 0 (by decide) fl_M_35 rfl rfl rfl (Nat.le_of_ble_eq_true rfl) (wM cA a (sU τ 0 0 0)) (wm_pthrown cA a _ _) d_M_reply_2 (fun H locs G => ?_)
  refine lv_iload_n hx hb d_M_reply_5 rfl (lv_at hl 1 rfl) ?_
  refine lv_if_lt (tgt := 17) hx hb d_M_reply_6 (by decide) (fun c_1 => ?_) (fun c_1 => ?_)
  · refine lv_iconst (v := (-1)) hx hb d_M_reply_17 (by decide) ?_
    refine lv_goto (tgt := 27) hx hb d_M_reply_18 (by decide) ?_
    exact g_reti S hr hlk G ⟨by first | (simp only [mReply, mT, eq_true c_1, i10, ↓reduceIte]; done) | (simp only [mReply, mT, eq_true c_1, i10, ↓reduceIte]; rfl) | rfl, congrArg (wM cA a) (by first | (simp only [mReply, mT, eq_true c_1, i10, ↓reduceIte]; done) | (simp only [mReply, mT, eq_true c_1, i10, ↓reduceIte]; rfl) | rfl)⟩ (Nat.le_refl _) (Nat.le_refl _) d_M_reply_27
  · refine lv_iload_n hx hb d_M_reply_9 rfl (lv_at hl 1 rfl) ?_
    refine lv_aload_n hx hb d_M_reply_10 rfl (lv_at hl 0 rfl) ?_
    refine g_get (v := .int (τ 0 5)) S G in_M 0 rfl rfl 11 (by decide) fl_M_67 rfl d_M_reply_11 ?_
    refine lv_icmp_lt (tgt := 21) hx hb d_M_reply_14 (by decide) (fun c_2 => ?_) (fun c_2 => ?_)
    · refine lv_aload_n hx hb d_M_reply_21 rfl (lv_at hl 0 rfl) ?_
      refine g_get (v := .ref (a 6)) S G in_M 0 rfl rfl 10 (by decide) fl_M_25 rfl d_M_reply_22 ?_
      refine lv_iload_n hx hb d_M_reply_25 rfl (lv_at hl 1 rfl) ?_
      refine g_ialdj S G 6 0 (τ 6) rfl rfl i.toNatClampNeg rfl (hz c_2 c_1) d_M_reply_26 ?_
      exact g_reti S hr hlk G ⟨by first | (simp only [mReply, mT, eq_false c_1, eq_true c_2, i10, ↓reduceIte]; done) | (simp only [mReply, mT, eq_false c_1, eq_true c_2, i10, ↓reduceIte]; rfl) | rfl, congrArg (wM cA a) (by first | (simp only [mReply, mT, eq_false c_1, eq_true c_2, i10, ↓reduceIte]; done) | (simp only [mReply, mT, eq_false c_1, eq_true c_2, i10, ↓reduceIte]; rfl) | rfl)⟩ (Nat.le_refl _) (Nat.le_refl _) d_M_reply_27
    · refine lv_iconst (v := (-1)) hx hb d_M_reply_17 (by decide) ?_
      refine lv_goto (tgt := 27) hx hb d_M_reply_18 (by decide) ?_
      exact g_reti S hr hlk G ⟨by first | (simp only [mReply, mT, eq_false c_1, eq_false c_2, i10, ↓reduceIte]; done) | (simp only [mReply, mT, eq_false c_1, eq_false c_2, i10, ↓reduceIte]; rfl) | rfl, congrArg (wM cA a) (by first | (simp only [mReply, mT, eq_false c_1, eq_false c_2, i10, ↓reduceIte]; done) | (simp only [mReply, mT, eq_false c_1, eq_false c_2, i10, ↓reduceIte]; rfl) | rfl)⟩ (Nat.le_refl _) (Nat.le_refl _) d_M_reply_27

abbrev rm_M_count : Room := { frames := 0, cells := 0, slots := 0, locals := 0 }
set_option maxHeartbeats 1000000 in
set_option maxRecDepth 100000 in
theorem c_M_count (l : Launch) (D : va_G) (cA : ClassId) (a : Nat → Nat) (τ : St) (x : Int32)  : Ci l y_M_count w_M_count rm_M_count D vwCl [(cA, .int)] [.ref (a 0), .int x] (wM cA a τ) 0 0 (fun r0 w0 => r0 = mCount τ x ∧ w0 = wM cA a (mT τ)) := by
  refine Ci.of (Ts := lw_g) (own := "WireSlaveModel") (cc := b_M_count) (maxL := 2) (ret := (some .int)) (lv := [(0, .ref (a 0)), (1, .int x)]) (by decide) rfl rfl (fun w h => List.mem_cons_of_mem _ h) (Nat.le_of_ble_eq_true rfl) rfl ?_
  intro pp ee ss mm args below meth cx AA S hr hlk G ls hl
  have hx := S.1
  have hb := S.2.1
  refine lv_aload_n hx hb d_M_count_0 rfl (lv_at hl 0 rfl) ?_
  refine lv_iconst (v := 0) hx hb d_M_count_1 (by decide) ?_
  refine g_put S G in_M ft_M tok_M nm_M 0 rfl rfl 0 (by decide) fl_M_35 rfl rfl rfl (Nat.le_of_ble_eq_true rfl) (wM cA a (sU τ 0 0 0)) (wm_pthrown cA a _ _) d_M_count_2 (fun H locs G => ?_)
  refine lv_iload_n hx hb d_M_count_5 rfl (lv_at hl 1 rfl) ?_
  refine lv_if_lt (tgt := 14) hx hb d_M_count_6 (by decide) (fun c_1 => ?_) (fun c_1 => ?_)
  · refine lv_iconst (v := (-1)) hx hb d_M_count_14 (by decide) ?_
    refine lv_goto (tgt := 24) hx hb d_M_count_15 (by decide) ?_
    exact g_reti S hr hlk G ⟨by first | (simp only [mCount, mT, eq_true c_1, i10, ↓reduceIte]; done) | (simp only [mCount, mT, eq_true c_1, i10, ↓reduceIte]; rfl) | rfl, congrArg (wM cA a) (by first | (simp only [mCount, mT, eq_true c_1, i10, ↓reduceIte]; done) | (simp only [mCount, mT, eq_true c_1, i10, ↓reduceIte]; rfl) | rfl)⟩ (Nat.le_refl _) (Nat.le_refl _) d_M_count_24
  · refine lv_iload_n hx hb d_M_count_9 rfl (lv_at hl 1 rfl) ?_
    refine lv_iconst (v := 5) hx hb d_M_count_10 (by decide) ?_
    refine lv_icmp_le (tgt := 18) hx hb d_M_count_11 (by decide) (fun c_2 => ?_) (fun c_2 => ?_)
    · refine lv_aload_n hx hb d_M_count_18 rfl (lv_at hl 0 rfl) ?_
      refine g_get (v := .ref (a 7)) S G in_M 0 rfl rfl 12 (by decide) fl_M_28 rfl d_M_count_19 ?_
      refine lv_iload_n hx hb d_M_count_22 rfl (lv_at hl 1 rfl) ?_
      refine g_ialdj S G 7 0 ((sU τ 0 0 0) 7) rfl rfl x.toNatClampNeg rfl (vin_le5 c_1 c_2) d_M_count_23 ?_
      exact g_reti S hr hlk G ⟨by first | (simp only [mCount, mT, eq_false c_1, eq_true c_2, i10, ↓reduceIte]; done) | (simp only [mCount, mT, eq_false c_1, eq_true c_2, i10, ↓reduceIte]; rfl) | rfl, congrArg (wM cA a) (by first | (simp only [mCount, mT, eq_false c_1, eq_true c_2, i10, ↓reduceIte]; done) | (simp only [mCount, mT, eq_false c_1, eq_true c_2, i10, ↓reduceIte]; rfl) | rfl)⟩ (Nat.le_refl _) (Nat.le_refl _) d_M_count_24
    · refine lv_iconst (v := (-1)) hx hb d_M_count_14 (by decide) ?_
      refine lv_goto (tgt := 24) hx hb d_M_count_15 (by decide) ?_
      exact g_reti S hr hlk G ⟨by first | (simp only [mCount, mT, eq_false c_1, eq_false c_2, i10, ↓reduceIte]; done) | (simp only [mCount, mT, eq_false c_1, eq_false c_2, i10, ↓reduceIte]; rfl) | rfl, congrArg (wM cA a) (by first | (simp only [mCount, mT, eq_false c_1, eq_false c_2, i10, ↓reduceIte]; done) | (simp only [mCount, mT, eq_false c_1, eq_false c_2, i10, ↓reduceIte]; rfl) | rfl)⟩ (Nat.le_refl _) (Nat.le_refl _) d_M_count_24

abbrev rm_M_get : Room := { frames := 1, cells := 0, slots := 0, locals := 22 }
set_option maxHeartbeats 1000000 in
set_option maxRecDepth 100000 in
theorem c_M_get (l : Launch) (D : va_G) (cA : ClassId) (a : Nat → Nat) (τ : St) (t p : Int32)  : Ci l y_M_get w_M_get rm_M_get D vwCl [(cA, .int)] [.ref (a 0), .int t, .int p] (wM cA a τ) 0 0 (fun r0 w0 => r0 = mGet τ t p ∧ w0 = wM cA a (mT τ)) := by
  refine Ci.of (Ts := lw_g) (own := "WireSlaveModel") (cc := b_M_get) (maxL := 3) (ret := (some .int)) (lv := [(0, .ref (a 0)), (1, .int t), (2, .int p)]) (by decide) rfl rfl (fun w h => List.mem_cons_of_mem _ h) (Nat.le_of_ble_eq_true rfl) rfl ?_
  intro pp ee ss mm args below meth cx AA S hr hlk G ls hl
  have hx := S.1
  have hb := S.2.1
  refine lv_aload_n hx hb d_M_get_0 rfl (lv_at hl 0 rfl) ?_
  refine lv_iconst (v := 0) hx hb d_M_get_1 (by decide) ?_
  refine g_put S G in_M ft_M tok_M nm_M 0 rfl rfl 0 (by decide) fl_M_35 rfl rfl rfl (Nat.le_of_ble_eq_true rfl) (wM cA a (sU τ 0 0 0)) (wm_pthrown cA a _ _) d_M_get_2 (fun H locs G => ?_)
  refine lv_aload_n hx hb d_M_get_5 rfl (lv_at hl 0 rfl) ?_
  refine lv_iload_n hx hb d_M_get_6 rfl (lv_at hl 1 rfl) ?_
  refine lv_iload_n hx hb d_M_get_7 rfl (lv_at hl 2 rfl) ?_
  refine g_cVi (rest := []) S G (c_M_noPlace l D cA a (sU τ 0 0 0) t p) (cwV 2 S.2.2.2.2 ml_M_95 rfl rfl rfl (by decide +kernel) ⟨Nat.le_of_ble_eq_true rfl, Nat.le_of_ble_eq_true rfl⟩) [0, 1, 2, 3, 4, 5, 6, 7] [] rfl rfl rfl rfl (by decide) 0 rfl rfl rfl hl.1 rfl (Nat.le_of_ble_eq_true rfl) d_M_get_8 ⟨Nat.le_of_ble_eq_true rfl, Nat.le_of_ble_eq_true rfl⟩ (fun rp_1 wp_1 H locs hp_1 G => ?_)
  obtain ⟨ep_1, rfl⟩ := hp_1
  replace ep_1 := ep_1.symm
  subst ep_1
  have G : Gw D vwCl [(cA, .int)] AA ss ss.heap H locs (wM cA a (sU τ 0 0 0)) := G
  refine lv_if_eq (tgt := 18) hx hb d_M_get_11 (by decide) (fun c_2 => ?_) (fun c_2 => ?_)
  · refine lv_aload_n hx hb d_M_get_18 rfl (lv_at hl 0 rfl) ?_
    refine lv_iload_n hx hb d_M_get_19 rfl (lv_at hl 1 rfl) ?_
    refine g_cVq (rest := []) S G (c_M_byNumber l D cA a (sU τ 0 0 0) t) (cwV 1 S.2.2.2.2 ml_M_99 rfl rfl rfl (by decide +kernel) ⟨Nat.le_of_ble_eq_true rfl, Nat.le_of_ble_eq_true rfl⟩) [0, 1, 2, 3, 4, 5, 6, 7] [] rfl rfl rfl rfl (by decide) 0 rfl rfl rfl hl.1 rfl (Nat.le_of_ble_eq_true rfl) d_M_get_20 ⟨Nat.le_of_ble_eq_true rfl, Nat.le_of_ble_eq_true rfl⟩ (fun rp_3 wp_3 H locs hp_3 G => ?_)
    obtain ⟨rfl, rfl⟩ := hp_3
    have G : Gw D vwCl [(cA, .int)] AA ss ss.heap H locs (wM cA a (sU τ 0 0 0)) := G
    rcases mNum_cases t with hk | hk | hk | hk
    · rw [hk]
      refine W.eq (g2 := F0 mm 23 ls [.ref (a 1)]) rfl ?_
      refine lv_iload_n hx hb d_M_get_23 rfl (lv_at hl 2 rfl) ?_
      refine g_ialdj S G 1 0 (τ 1) rfl rfl p.toNatClampNeg rfl (mNo_lo c_2 (Or.inl hk)) d_M_get_24 ?_
      exact g_reti S hr hlk G ⟨by first | (simp only [mGet, mT, eq_true c_2, hk, i10, ↓reduceIte]; done) | (simp only [mGet, mT, eq_true c_2, hk, i10, ↓reduceIte]; rfl), congrArg (wM cA a) (by first | rfl | first | (simp only [mGet, mT, eq_true c_2, hk, i10, ↓reduceIte]; done) | (simp only [mGet, mT, eq_true c_2, hk, i10, ↓reduceIte]; rfl))⟩ (Nat.le_refl _) (Nat.le_refl _) d_M_get_25
    · rw [hk]
      refine W.eq (g2 := F0 mm 23 ls [.ref (a 2)]) rfl ?_
      refine lv_iload_n hx hb d_M_get_23 rfl (lv_at hl 2 rfl) ?_
      refine g_ialdj S G 2 0 (τ 2) rfl rfl p.toNatClampNeg rfl (mNo_lo c_2 (Or.inr hk)) d_M_get_24 ?_
      exact g_reti S hr hlk G ⟨by first | (simp only [mGet, mT, eq_true c_2, hk, i10, ↓reduceIte]; done) | (simp only [mGet, mT, eq_true c_2, hk, i10, ↓reduceIte]; rfl), congrArg (wM cA a) (by first | rfl | first | (simp only [mGet, mT, eq_true c_2, hk, i10, ↓reduceIte]; done) | (simp only [mGet, mT, eq_true c_2, hk, i10, ↓reduceIte]; rfl))⟩ (Nat.le_refl _) (Nat.le_refl _) d_M_get_25
    · rw [hk]
      refine W.eq (g2 := F0 mm 23 ls [.ref (a 3)]) rfl ?_
      refine lv_iload_n hx hb d_M_get_23 rfl (lv_at hl 2 rfl) ?_
      refine g_ialdj S G 3 0 (τ 3) rfl rfl p.toNatClampNeg rfl (mNo_hi c_2 (Or.inl hk)) d_M_get_24 ?_
      exact g_reti S hr hlk G ⟨by first | (simp only [mGet, mT, eq_true c_2, hk, i10, ↓reduceIte]; done) | (simp only [mGet, mT, eq_true c_2, hk, i10, ↓reduceIte]; rfl), congrArg (wM cA a) (by first | rfl | first | (simp only [mGet, mT, eq_true c_2, hk, i10, ↓reduceIte]; done) | (simp only [mGet, mT, eq_true c_2, hk, i10, ↓reduceIte]; rfl))⟩ (Nat.le_refl _) (Nat.le_refl _) d_M_get_25
    · rw [hk]
      refine W.eq (g2 := F0 mm 23 ls [.ref (a 4)]) rfl ?_
      refine lv_iload_n hx hb d_M_get_23 rfl (lv_at hl 2 rfl) ?_
      refine g_ialdj S G 4 0 (τ 4) rfl rfl p.toNatClampNeg rfl (mNo_hi c_2 (Or.inr hk)) d_M_get_24 ?_
      exact g_reti S hr hlk G ⟨by first | (simp only [mGet, mT, eq_true c_2, hk, i10, ↓reduceIte]; done) | (simp only [mGet, mT, eq_true c_2, hk, i10, ↓reduceIte]; rfl), congrArg (wM cA a) (by first | rfl | first | (simp only [mGet, mT, eq_true c_2, hk, i10, ↓reduceIte]; done) | (simp only [mGet, mT, eq_true c_2, hk, i10, ↓reduceIte]; rfl))⟩ (Nat.le_refl _) (Nat.le_refl _) d_M_get_25
  · refine lv_iconst (v := (-1)) hx hb d_M_get_14 (by decide) ?_
    refine lv_goto (tgt := 25) hx hb d_M_get_15 (by decide) ?_
    exact g_reti S hr hlk G ⟨by first | (simp only [mGet, mT, eq_false c_2, i10, ↓reduceIte]; done) | (simp only [mGet, mT, eq_false c_2, i10, ↓reduceIte]; rfl), congrArg (wM cA a) (by first | rfl | first | (simp only [mGet, mT, eq_false c_2, i10, ↓reduceIte]; done) | (simp only [mGet, mT, eq_false c_2, i10, ↓reduceIte]; rfl))⟩ (Nat.le_refl _) (Nat.le_refl _) d_M_get_25

abbrev rm_M_set : Room := { frames := 1, cells := 0, slots := 0, locals := 22 }
set_option maxHeartbeats 1000000 in
set_option maxRecDepth 100000 in
theorem c_M_set (l : Launch) (D : va_G) (cA : ClassId) (a : Nat → Nat) (τ : St) (t p v : Int32)  : Ci l y_M_set w_M_set rm_M_set D vwCl [(cA, .int)] [.ref (a 0), .int t, .int p, .int v] (wM cA a τ) 0 0 (fun r0 w0 => r0 = mSetR τ t p v ∧ w0 = wM cA a (mSet τ t p v)) := by
  refine Ci.of (Ts := lw_g) (own := "WireSlaveModel") (cc := b_M_set) (maxL := 5) (ret := (some .int)) (lv := [(0, .ref (a 0)), (1, .int t), (2, .int p), (3, .int v)]) (by decide) rfl rfl (fun w h => List.mem_cons_of_mem _ h) (Nat.le_of_ble_eq_true rfl) rfl ?_
  intro pp ee ss mm args below meth cx AA S hr hlk G ls hl
  have hx := S.1
  have hb := S.2.1
  refine lv_aload_n hx hb d_M_set_0 rfl (lv_at hl 0 rfl) ?_
  refine lv_iconst (v := 0) hx hb d_M_set_1 (by decide) ?_
  refine g_put S G in_M ft_M tok_M nm_M 0 rfl rfl 0 (by decide) fl_M_35 rfl rfl rfl (Nat.le_of_ble_eq_true rfl) (wM cA a (sU τ 0 0 0)) (wm_pthrown cA a _ _) d_M_set_2 (fun H locs G => ?_)
  refine lv_aload_n hx hb d_M_set_5 rfl (lv_at hl 0 rfl) ?_
  refine lv_iload_n hx hb d_M_set_6 rfl (lv_at hl 1 rfl) ?_
  refine lv_iload_n hx hb d_M_set_7 rfl (lv_at hl 2 rfl) ?_
  refine g_cVi (rest := []) S G (c_M_noPlace l D cA a (sU τ 0 0 0) t p) (cwV 2 S.2.2.2.2 ml_M_95 rfl rfl rfl (by decide +kernel) ⟨Nat.le_of_ble_eq_true rfl, Nat.le_of_ble_eq_true rfl⟩) [0, 1, 2, 3, 4, 5, 6, 7] [] rfl rfl rfl rfl (by decide) 0 rfl rfl rfl hl.1 rfl (Nat.le_of_ble_eq_true rfl) d_M_set_8 ⟨Nat.le_of_ble_eq_true rfl, Nat.le_of_ble_eq_true rfl⟩ (fun rp_1 wp_1 H locs hp_1 G => ?_)
  obtain ⟨ep_1, rfl⟩ := hp_1
  replace ep_1 := ep_1.symm
  subst ep_1
  have G : Gw D vwCl [(cA, .int)] AA ss ss.heap H locs (wM cA a (sU τ 0 0 0)) := G
  refine lv_if_ne (tgt := 33) hx hb d_M_set_11 (by decide) (fun c_2 => ?_) (fun c_2 => ?_)
  · refine lv_iconst (v := (-1)) hx hb d_M_set_33 (by decide) ?_
    exact g_reti S hr hlk G ⟨by first | (simp only [mSetR, mSet, mSetOk, mT, eq_false c_2, i10, ↓reduceIte]; done) | (simp only [mSetR, mSet, mSetOk, mT, eq_false c_2, i10, ↓reduceIte]; rfl), congrArg (wM cA a) (by first | rfl | first | (simp only [mSetR, mSet, mSetOk, mT, eq_false c_2, i10, ↓reduceIte]; done) | (simp only [mSetR, mSet, mSetOk, mT, eq_false c_2, i10, ↓reduceIte]; rfl))⟩ (Nat.le_refl _) (Nat.le_refl _) d_M_set_34
  · refine lv_iload_n hx hb d_M_set_14 rfl (lv_at hl 3 rfl) ?_
    refine lv_if_lt (tgt := 33) hx hb d_M_set_15 (by decide) (fun c_3 => ?_) (fun c_3 => ?_)
    · refine lv_iconst (v := (-1)) hx hb d_M_set_33 (by decide) ?_
      exact g_reti S hr hlk G ⟨by first | (simp only [mSetR, mSet, mSetOk, mT, eq_true c_2, eq_true c_3, i10, ↓reduceIte]; done) | (simp only [mSetR, mSet, mSetOk, mT, eq_true c_2, eq_true c_3, i10, ↓reduceIte]; rfl), congrArg (wM cA a) (by first | rfl | first | (simp only [mSetR, mSet, mSetOk, mT, eq_true c_2, eq_true c_3, i10, ↓reduceIte]; done) | (simp only [mSetR, mSet, mSetOk, mT, eq_true c_2, eq_true c_3, i10, ↓reduceIte]; rfl))⟩ (Nat.le_refl _) (Nat.le_refl _) d_M_set_34
    · refine lv_iload_n hx hb d_M_set_18 rfl (lv_at hl 3 rfl) ?_
      refine lv_iload_n hx hb d_M_set_19 rfl (lv_at hl 1 rfl) ?_
      refine lv_iconst (v := 2) hx hb d_M_set_20 (by decide) ?_
      refine lv_icmp_ge (tgt := 28) hx hb d_M_set_21 (by decide) (fun c_4 => ?_) (fun c_4 => ?_)
      · refine lv_ldc (v := 65535) hx hb S.2.2.2.1 (S.2.2.2.2 _ kn_M_59) d_M_set_28 ?_
        refine lv_icmp_le (tgt := 35) hx hb d_M_set_30 (by decide) (fun c_5 => ?_) (fun c_5 => ?_)
        · refine lv_aload_n hx hb d_M_set_35 rfl (lv_at hl 0 rfl) ?_
          refine lv_iload_n hx hb d_M_set_36 rfl (lv_at hl 1 rfl) ?_
          refine g_cVq (rest := []) S G (c_M_byNumber l D cA a (sU τ 0 0 0) t) (cwV 1 S.2.2.2.2 ml_M_99 rfl rfl rfl (by decide +kernel) ⟨Nat.le_of_ble_eq_true rfl, Nat.le_of_ble_eq_true rfl⟩) [0, 1, 2, 3, 4, 5, 6, 7] [] rfl rfl rfl rfl (by decide) 0 rfl rfl rfl hl.1 rfl (Nat.le_of_ble_eq_true rfl) d_M_set_37 ⟨Nat.le_of_ble_eq_true rfl, Nat.le_of_ble_eq_true rfl⟩ (fun rp_6 wp_6 H locs hp_6 G => ?_)
          obtain ⟨rfl, rfl⟩ := hp_6
          have G : Gw D vwCl [(cA, .int)] AA ss ss.heap H locs (wM cA a (sU τ 0 0 0)) := G
          rcases mNum_cases t with hk | hk | hk | hk
          · rw [hk]
            refine W.eq (g2 := F0 mm 40 ls [.ref (a 1)]) rfl ?_
            refine lv_iload_n hx hb d_M_set_40 rfl (lv_at hl 2 rfl) ?_
            refine g_ialdj S G 1 0 (τ 1) rfl rfl p.toNatClampNeg rfl (mNo_lo c_2 (Or.inl hk)) d_M_set_41 ?_
            refine lv_istore (lv' := [(4, .int ((τ 1) p.toNatClampNeg)), (0, .ref (a 0)), (1, .int t), (2, .int p), (3, .int v)]) hx hb d_M_set_42 hl (by decide) rfl (fun ls hl => ?_)
            refine lv_aload_n hx hb d_M_set_44 rfl (lv_at hl 1 rfl) ?_
            refine lv_iload_n hx hb d_M_set_45 rfl (lv_at hl 2 rfl) ?_
            refine g_cVq (rest := []) S G (c_M_byNumber l D cA a (sU τ 0 0 0) t) (cwV 1 S.2.2.2.2 ml_M_99 rfl rfl rfl (by decide +kernel) ⟨Nat.le_of_ble_eq_true rfl, Nat.le_of_ble_eq_true rfl⟩) [0, 1, 2, 3, 4, 5, 6, 7] [] rfl rfl rfl rfl (by decide) 0 rfl rfl rfl hl.1 rfl (Nat.le_of_ble_eq_true rfl) d_M_set_46 ⟨Nat.le_of_ble_eq_true rfl, Nat.le_of_ble_eq_true rfl⟩ (fun rp_7 wp_7 H locs hp_7 G => ?_)
            obtain ⟨rfl, rfl⟩ := hp_7
            have G : Gw D vwCl [(cA, .int)] AA ss ss.heap H locs (wM cA a (sU τ 0 0 0)) := G
            rw [hk]
            refine W.eq (g2 := F0 mm 49 ls [.ref (a 1)]) rfl ?_
            refine lv_iload_n hx hb d_M_set_49 rfl (lv_at hl 3 rfl) ?_
            refine lv_iload_n hx hb d_M_set_50 rfl (lv_at hl 4 rfl) ?_
            refine g_iastj S G 1 0 rfl rfl p.toNatClampNeg rfl (mNo_lo c_2 (Or.inl hk)) (wM cA a (sU (sU τ 0 0 0) 1 p.toNatClampNeg v)) (wm_a1 cA a _ _ _) d_M_set_51 (fun H locs G => ?_)
            refine lv_iload hx hb d_M_set_52 (lv_at hl 0 rfl) ?_
            exact g_reti S hr hlk G ⟨by first | (simp only [mSetR, mSet, mSetOk, mT, eq_true c_2, eq_false c_3, eq_true c_4, eq_true c_5, hk, i10, ↓reduceIte]; done) | (simp only [mSetR, mSet, mSetOk, mT, eq_true c_2, eq_false c_3, eq_true c_4, eq_true c_5, hk, i10, ↓reduceIte]; rfl), congrArg (wM cA a) (by first | rfl | first | (simp only [mSetR, mSet, mSetOk, mT, eq_true c_2, eq_false c_3, eq_true c_4, eq_true c_5, hk, i10, ↓reduceIte]; done) | (simp only [mSetR, mSet, mSetOk, mT, eq_true c_2, eq_false c_3, eq_true c_4, eq_true c_5, hk, i10, ↓reduceIte]; rfl))⟩ (Nat.le_refl _) (Nat.le_refl _) d_M_set_54
          · rw [hk]
            refine W.eq (g2 := F0 mm 40 ls [.ref (a 2)]) rfl ?_
            refine lv_iload_n hx hb d_M_set_40 rfl (lv_at hl 2 rfl) ?_
            refine g_ialdj S G 2 0 (τ 2) rfl rfl p.toNatClampNeg rfl (mNo_lo c_2 (Or.inr hk)) d_M_set_41 ?_
            refine lv_istore (lv' := [(4, .int ((τ 2) p.toNatClampNeg)), (0, .ref (a 0)), (1, .int t), (2, .int p), (3, .int v)]) hx hb d_M_set_42 hl (by decide) rfl (fun ls hl => ?_)
            refine lv_aload_n hx hb d_M_set_44 rfl (lv_at hl 1 rfl) ?_
            refine lv_iload_n hx hb d_M_set_45 rfl (lv_at hl 2 rfl) ?_
            refine g_cVq (rest := []) S G (c_M_byNumber l D cA a (sU τ 0 0 0) t) (cwV 1 S.2.2.2.2 ml_M_99 rfl rfl rfl (by decide +kernel) ⟨Nat.le_of_ble_eq_true rfl, Nat.le_of_ble_eq_true rfl⟩) [0, 1, 2, 3, 4, 5, 6, 7] [] rfl rfl rfl rfl (by decide) 0 rfl rfl rfl hl.1 rfl (Nat.le_of_ble_eq_true rfl) d_M_set_46 ⟨Nat.le_of_ble_eq_true rfl, Nat.le_of_ble_eq_true rfl⟩ (fun rp_8 wp_8 H locs hp_8 G => ?_)
            obtain ⟨rfl, rfl⟩ := hp_8
            have G : Gw D vwCl [(cA, .int)] AA ss ss.heap H locs (wM cA a (sU τ 0 0 0)) := G
            rw [hk]
            refine W.eq (g2 := F0 mm 49 ls [.ref (a 2)]) rfl ?_
            refine lv_iload_n hx hb d_M_set_49 rfl (lv_at hl 3 rfl) ?_
            refine lv_iload_n hx hb d_M_set_50 rfl (lv_at hl 4 rfl) ?_
            refine g_iastj S G 2 0 rfl rfl p.toNatClampNeg rfl (mNo_lo c_2 (Or.inr hk)) (wM cA a (sU (sU τ 0 0 0) 2 p.toNatClampNeg v)) (wm_a2 cA a _ _ _) d_M_set_51 (fun H locs G => ?_)
            refine lv_iload hx hb d_M_set_52 (lv_at hl 0 rfl) ?_
            exact g_reti S hr hlk G ⟨by first | (simp only [mSetR, mSet, mSetOk, mT, eq_true c_2, eq_false c_3, eq_true c_4, eq_true c_5, hk, i10, ↓reduceIte]; done) | (simp only [mSetR, mSet, mSetOk, mT, eq_true c_2, eq_false c_3, eq_true c_4, eq_true c_5, hk, i10, ↓reduceIte]; rfl), congrArg (wM cA a) (by first | rfl | first | (simp only [mSetR, mSet, mSetOk, mT, eq_true c_2, eq_false c_3, eq_true c_4, eq_true c_5, hk, i10, ↓reduceIte]; done) | (simp only [mSetR, mSet, mSetOk, mT, eq_true c_2, eq_false c_3, eq_true c_4, eq_true c_5, hk, i10, ↓reduceIte]; rfl))⟩ (Nat.le_refl _) (Nat.le_refl _) d_M_set_54
          · rw [hk]
            refine W.eq (g2 := F0 mm 40 ls [.ref (a 3)]) rfl ?_
            refine lv_iload_n hx hb d_M_set_40 rfl (lv_at hl 2 rfl) ?_
            refine g_ialdj S G 3 0 (τ 3) rfl rfl p.toNatClampNeg rfl (mNo_hi c_2 (Or.inl hk)) d_M_set_41 ?_
            refine lv_istore (lv' := [(4, .int ((τ 3) p.toNatClampNeg)), (0, .ref (a 0)), (1, .int t), (2, .int p), (3, .int v)]) hx hb d_M_set_42 hl (by decide) rfl (fun ls hl => ?_)
            refine lv_aload_n hx hb d_M_set_44 rfl (lv_at hl 1 rfl) ?_
            refine lv_iload_n hx hb d_M_set_45 rfl (lv_at hl 2 rfl) ?_
            refine g_cVq (rest := []) S G (c_M_byNumber l D cA a (sU τ 0 0 0) t) (cwV 1 S.2.2.2.2 ml_M_99 rfl rfl rfl (by decide +kernel) ⟨Nat.le_of_ble_eq_true rfl, Nat.le_of_ble_eq_true rfl⟩) [0, 1, 2, 3, 4, 5, 6, 7] [] rfl rfl rfl rfl (by decide) 0 rfl rfl rfl hl.1 rfl (Nat.le_of_ble_eq_true rfl) d_M_set_46 ⟨Nat.le_of_ble_eq_true rfl, Nat.le_of_ble_eq_true rfl⟩ (fun rp_9 wp_9 H locs hp_9 G => ?_)
            obtain ⟨rfl, rfl⟩ := hp_9
            have G : Gw D vwCl [(cA, .int)] AA ss ss.heap H locs (wM cA a (sU τ 0 0 0)) := G
            rw [hk]
            refine W.eq (g2 := F0 mm 49 ls [.ref (a 3)]) rfl ?_
            refine lv_iload_n hx hb d_M_set_49 rfl (lv_at hl 3 rfl) ?_
            refine lv_iload_n hx hb d_M_set_50 rfl (lv_at hl 4 rfl) ?_
            refine g_iastj S G 3 0 rfl rfl p.toNatClampNeg rfl (mNo_hi c_2 (Or.inl hk)) (wM cA a (sU (sU τ 0 0 0) 3 p.toNatClampNeg v)) (wm_a3 cA a _ _ _) d_M_set_51 (fun H locs G => ?_)
            refine lv_iload hx hb d_M_set_52 (lv_at hl 0 rfl) ?_
            exact g_reti S hr hlk G ⟨by first | (simp only [mSetR, mSet, mSetOk, mT, eq_true c_2, eq_false c_3, eq_true c_4, eq_true c_5, hk, i10, ↓reduceIte]; done) | (simp only [mSetR, mSet, mSetOk, mT, eq_true c_2, eq_false c_3, eq_true c_4, eq_true c_5, hk, i10, ↓reduceIte]; rfl), congrArg (wM cA a) (by first | rfl | first | (simp only [mSetR, mSet, mSetOk, mT, eq_true c_2, eq_false c_3, eq_true c_4, eq_true c_5, hk, i10, ↓reduceIte]; done) | (simp only [mSetR, mSet, mSetOk, mT, eq_true c_2, eq_false c_3, eq_true c_4, eq_true c_5, hk, i10, ↓reduceIte]; rfl))⟩ (Nat.le_refl _) (Nat.le_refl _) d_M_set_54
          · rw [hk]
            refine W.eq (g2 := F0 mm 40 ls [.ref (a 4)]) rfl ?_
            refine lv_iload_n hx hb d_M_set_40 rfl (lv_at hl 2 rfl) ?_
            refine g_ialdj S G 4 0 (τ 4) rfl rfl p.toNatClampNeg rfl (mNo_hi c_2 (Or.inr hk)) d_M_set_41 ?_
            refine lv_istore (lv' := [(4, .int ((τ 4) p.toNatClampNeg)), (0, .ref (a 0)), (1, .int t), (2, .int p), (3, .int v)]) hx hb d_M_set_42 hl (by decide) rfl (fun ls hl => ?_)
            refine lv_aload_n hx hb d_M_set_44 rfl (lv_at hl 1 rfl) ?_
            refine lv_iload_n hx hb d_M_set_45 rfl (lv_at hl 2 rfl) ?_
            refine g_cVq (rest := []) S G (c_M_byNumber l D cA a (sU τ 0 0 0) t) (cwV 1 S.2.2.2.2 ml_M_99 rfl rfl rfl (by decide +kernel) ⟨Nat.le_of_ble_eq_true rfl, Nat.le_of_ble_eq_true rfl⟩) [0, 1, 2, 3, 4, 5, 6, 7] [] rfl rfl rfl rfl (by decide) 0 rfl rfl rfl hl.1 rfl (Nat.le_of_ble_eq_true rfl) d_M_set_46 ⟨Nat.le_of_ble_eq_true rfl, Nat.le_of_ble_eq_true rfl⟩ (fun rp_10 wp_10 H locs hp_10 G => ?_)
            obtain ⟨rfl, rfl⟩ := hp_10
            have G : Gw D vwCl [(cA, .int)] AA ss ss.heap H locs (wM cA a (sU τ 0 0 0)) := G
            rw [hk]
            refine W.eq (g2 := F0 mm 49 ls [.ref (a 4)]) rfl ?_
            refine lv_iload_n hx hb d_M_set_49 rfl (lv_at hl 3 rfl) ?_
            refine lv_iload_n hx hb d_M_set_50 rfl (lv_at hl 4 rfl) ?_
            refine g_iastj S G 4 0 rfl rfl p.toNatClampNeg rfl (mNo_hi c_2 (Or.inr hk)) (wM cA a (sU (sU τ 0 0 0) 4 p.toNatClampNeg v)) (wm_a4 cA a _ _ _) d_M_set_51 (fun H locs G => ?_)
            refine lv_iload hx hb d_M_set_52 (lv_at hl 0 rfl) ?_
            exact g_reti S hr hlk G ⟨by first | (simp only [mSetR, mSet, mSetOk, mT, eq_true c_2, eq_false c_3, eq_true c_4, eq_true c_5, hk, i10, ↓reduceIte]; done) | (simp only [mSetR, mSet, mSetOk, mT, eq_true c_2, eq_false c_3, eq_true c_4, eq_true c_5, hk, i10, ↓reduceIte]; rfl), congrArg (wM cA a) (by first | rfl | first | (simp only [mSetR, mSet, mSetOk, mT, eq_true c_2, eq_false c_3, eq_true c_4, eq_true c_5, hk, i10, ↓reduceIte]; done) | (simp only [mSetR, mSet, mSetOk, mT, eq_true c_2, eq_false c_3, eq_true c_4, eq_true c_5, hk, i10, ↓reduceIte]; rfl))⟩ (Nat.le_refl _) (Nat.le_refl _) d_M_set_54
        · refine lv_iconst (v := (-1)) hx hb d_M_set_33 (by decide) ?_
          exact g_reti S hr hlk G ⟨by first | (simp only [mSetR, mSet, mSetOk, mT, eq_true c_2, eq_false c_3, eq_true c_4, eq_false c_5, i10, ↓reduceIte]; done) | (simp only [mSetR, mSet, mSetOk, mT, eq_true c_2, eq_false c_3, eq_true c_4, eq_false c_5, i10, ↓reduceIte]; rfl), congrArg (wM cA a) (by first | rfl | first | (simp only [mSetR, mSet, mSetOk, mT, eq_true c_2, eq_false c_3, eq_true c_4, eq_false c_5, i10, ↓reduceIte]; done) | (simp only [mSetR, mSet, mSetOk, mT, eq_true c_2, eq_false c_3, eq_true c_4, eq_false c_5, i10, ↓reduceIte]; rfl))⟩ (Nat.le_refl _) (Nat.le_refl _) d_M_set_34
      · refine lv_iconst (v := 1) hx hb d_M_set_24 (by decide) ?_
        refine lv_goto (tgt := 30) hx hb d_M_set_25 (by decide) ?_
        refine lv_icmp_le (tgt := 35) hx hb d_M_set_30 (by decide) (fun c_11 => ?_) (fun c_11 => ?_)
        · refine lv_aload_n hx hb d_M_set_35 rfl (lv_at hl 0 rfl) ?_
          refine lv_iload_n hx hb d_M_set_36 rfl (lv_at hl 1 rfl) ?_
          refine g_cVq (rest := []) S G (c_M_byNumber l D cA a (sU τ 0 0 0) t) (cwV 1 S.2.2.2.2 ml_M_99 rfl rfl rfl (by decide +kernel) ⟨Nat.le_of_ble_eq_true rfl, Nat.le_of_ble_eq_true rfl⟩) [0, 1, 2, 3, 4, 5, 6, 7] [] rfl rfl rfl rfl (by decide) 0 rfl rfl rfl hl.1 rfl (Nat.le_of_ble_eq_true rfl) d_M_set_37 ⟨Nat.le_of_ble_eq_true rfl, Nat.le_of_ble_eq_true rfl⟩ (fun rp_12 wp_12 H locs hp_12 G => ?_)
          obtain ⟨rfl, rfl⟩ := hp_12
          have G : Gw D vwCl [(cA, .int)] AA ss ss.heap H locs (wM cA a (sU τ 0 0 0)) := G
          rcases mNum_cases t with hk | hk | hk | hk
          · rw [hk]
            refine W.eq (g2 := F0 mm 40 ls [.ref (a 1)]) rfl ?_
            refine lv_iload_n hx hb d_M_set_40 rfl (lv_at hl 2 rfl) ?_
            refine g_ialdj S G 1 0 (τ 1) rfl rfl p.toNatClampNeg rfl (mNo_lo c_2 (Or.inl hk)) d_M_set_41 ?_
            refine lv_istore (lv' := [(4, .int ((τ 1) p.toNatClampNeg)), (0, .ref (a 0)), (1, .int t), (2, .int p), (3, .int v)]) hx hb d_M_set_42 hl (by decide) rfl (fun ls hl => ?_)
            refine lv_aload_n hx hb d_M_set_44 rfl (lv_at hl 1 rfl) ?_
            refine lv_iload_n hx hb d_M_set_45 rfl (lv_at hl 2 rfl) ?_
            refine g_cVq (rest := []) S G (c_M_byNumber l D cA a (sU τ 0 0 0) t) (cwV 1 S.2.2.2.2 ml_M_99 rfl rfl rfl (by decide +kernel) ⟨Nat.le_of_ble_eq_true rfl, Nat.le_of_ble_eq_true rfl⟩) [0, 1, 2, 3, 4, 5, 6, 7] [] rfl rfl rfl rfl (by decide) 0 rfl rfl rfl hl.1 rfl (Nat.le_of_ble_eq_true rfl) d_M_set_46 ⟨Nat.le_of_ble_eq_true rfl, Nat.le_of_ble_eq_true rfl⟩ (fun rp_13 wp_13 H locs hp_13 G => ?_)
            obtain ⟨rfl, rfl⟩ := hp_13
            have G : Gw D vwCl [(cA, .int)] AA ss ss.heap H locs (wM cA a (sU τ 0 0 0)) := G
            rw [hk]
            refine W.eq (g2 := F0 mm 49 ls [.ref (a 1)]) rfl ?_
            refine lv_iload_n hx hb d_M_set_49 rfl (lv_at hl 3 rfl) ?_
            refine lv_iload_n hx hb d_M_set_50 rfl (lv_at hl 4 rfl) ?_
            refine g_iastj S G 1 0 rfl rfl p.toNatClampNeg rfl (mNo_lo c_2 (Or.inl hk)) (wM cA a (sU (sU τ 0 0 0) 1 p.toNatClampNeg v)) (wm_a1 cA a _ _ _) d_M_set_51 (fun H locs G => ?_)
            refine lv_iload hx hb d_M_set_52 (lv_at hl 0 rfl) ?_
            exact g_reti S hr hlk G ⟨by first | (simp only [mSetR, mSet, mSetOk, mT, eq_true c_2, eq_false c_3, eq_false c_4, eq_true c_11, hk, i10, ↓reduceIte]; done) | (simp only [mSetR, mSet, mSetOk, mT, eq_true c_2, eq_false c_3, eq_false c_4, eq_true c_11, hk, i10, ↓reduceIte]; rfl), congrArg (wM cA a) (by first | rfl | first | (simp only [mSetR, mSet, mSetOk, mT, eq_true c_2, eq_false c_3, eq_false c_4, eq_true c_11, hk, i10, ↓reduceIte]; done) | (simp only [mSetR, mSet, mSetOk, mT, eq_true c_2, eq_false c_3, eq_false c_4, eq_true c_11, hk, i10, ↓reduceIte]; rfl))⟩ (Nat.le_refl _) (Nat.le_refl _) d_M_set_54
          · rw [hk]
            refine W.eq (g2 := F0 mm 40 ls [.ref (a 2)]) rfl ?_
            refine lv_iload_n hx hb d_M_set_40 rfl (lv_at hl 2 rfl) ?_
            refine g_ialdj S G 2 0 (τ 2) rfl rfl p.toNatClampNeg rfl (mNo_lo c_2 (Or.inr hk)) d_M_set_41 ?_
            refine lv_istore (lv' := [(4, .int ((τ 2) p.toNatClampNeg)), (0, .ref (a 0)), (1, .int t), (2, .int p), (3, .int v)]) hx hb d_M_set_42 hl (by decide) rfl (fun ls hl => ?_)
            refine lv_aload_n hx hb d_M_set_44 rfl (lv_at hl 1 rfl) ?_
            refine lv_iload_n hx hb d_M_set_45 rfl (lv_at hl 2 rfl) ?_
            refine g_cVq (rest := []) S G (c_M_byNumber l D cA a (sU τ 0 0 0) t) (cwV 1 S.2.2.2.2 ml_M_99 rfl rfl rfl (by decide +kernel) ⟨Nat.le_of_ble_eq_true rfl, Nat.le_of_ble_eq_true rfl⟩) [0, 1, 2, 3, 4, 5, 6, 7] [] rfl rfl rfl rfl (by decide) 0 rfl rfl rfl hl.1 rfl (Nat.le_of_ble_eq_true rfl) d_M_set_46 ⟨Nat.le_of_ble_eq_true rfl, Nat.le_of_ble_eq_true rfl⟩ (fun rp_14 wp_14 H locs hp_14 G => ?_)
            obtain ⟨rfl, rfl⟩ := hp_14
            have G : Gw D vwCl [(cA, .int)] AA ss ss.heap H locs (wM cA a (sU τ 0 0 0)) := G
            rw [hk]
            refine W.eq (g2 := F0 mm 49 ls [.ref (a 2)]) rfl ?_
            refine lv_iload_n hx hb d_M_set_49 rfl (lv_at hl 3 rfl) ?_
            refine lv_iload_n hx hb d_M_set_50 rfl (lv_at hl 4 rfl) ?_
            refine g_iastj S G 2 0 rfl rfl p.toNatClampNeg rfl (mNo_lo c_2 (Or.inr hk)) (wM cA a (sU (sU τ 0 0 0) 2 p.toNatClampNeg v)) (wm_a2 cA a _ _ _) d_M_set_51 (fun H locs G => ?_)
            refine lv_iload hx hb d_M_set_52 (lv_at hl 0 rfl) ?_
            exact g_reti S hr hlk G ⟨by first | (simp only [mSetR, mSet, mSetOk, mT, eq_true c_2, eq_false c_3, eq_false c_4, eq_true c_11, hk, i10, ↓reduceIte]; done) | (simp only [mSetR, mSet, mSetOk, mT, eq_true c_2, eq_false c_3, eq_false c_4, eq_true c_11, hk, i10, ↓reduceIte]; rfl), congrArg (wM cA a) (by first | rfl | first | (simp only [mSetR, mSet, mSetOk, mT, eq_true c_2, eq_false c_3, eq_false c_4, eq_true c_11, hk, i10, ↓reduceIte]; done) | (simp only [mSetR, mSet, mSetOk, mT, eq_true c_2, eq_false c_3, eq_false c_4, eq_true c_11, hk, i10, ↓reduceIte]; rfl))⟩ (Nat.le_refl _) (Nat.le_refl _) d_M_set_54
          · rw [hk]
            refine W.eq (g2 := F0 mm 40 ls [.ref (a 3)]) rfl ?_
            refine lv_iload_n hx hb d_M_set_40 rfl (lv_at hl 2 rfl) ?_
            refine g_ialdj S G 3 0 (τ 3) rfl rfl p.toNatClampNeg rfl (mNo_hi c_2 (Or.inl hk)) d_M_set_41 ?_
            refine lv_istore (lv' := [(4, .int ((τ 3) p.toNatClampNeg)), (0, .ref (a 0)), (1, .int t), (2, .int p), (3, .int v)]) hx hb d_M_set_42 hl (by decide) rfl (fun ls hl => ?_)
            refine lv_aload_n hx hb d_M_set_44 rfl (lv_at hl 1 rfl) ?_
            refine lv_iload_n hx hb d_M_set_45 rfl (lv_at hl 2 rfl) ?_
            refine g_cVq (rest := []) S G (c_M_byNumber l D cA a (sU τ 0 0 0) t) (cwV 1 S.2.2.2.2 ml_M_99 rfl rfl rfl (by decide +kernel) ⟨Nat.le_of_ble_eq_true rfl, Nat.le_of_ble_eq_true rfl⟩) [0, 1, 2, 3, 4, 5, 6, 7] [] rfl rfl rfl rfl (by decide) 0 rfl rfl rfl hl.1 rfl (Nat.le_of_ble_eq_true rfl) d_M_set_46 ⟨Nat.le_of_ble_eq_true rfl, Nat.le_of_ble_eq_true rfl⟩ (fun rp_15 wp_15 H locs hp_15 G => ?_)
            obtain ⟨rfl, rfl⟩ := hp_15
            have G : Gw D vwCl [(cA, .int)] AA ss ss.heap H locs (wM cA a (sU τ 0 0 0)) := G
            rw [hk]
            refine W.eq (g2 := F0 mm 49 ls [.ref (a 3)]) rfl ?_
            refine lv_iload_n hx hb d_M_set_49 rfl (lv_at hl 3 rfl) ?_
            refine lv_iload_n hx hb d_M_set_50 rfl (lv_at hl 4 rfl) ?_
            refine g_iastj S G 3 0 rfl rfl p.toNatClampNeg rfl (mNo_hi c_2 (Or.inl hk)) (wM cA a (sU (sU τ 0 0 0) 3 p.toNatClampNeg v)) (wm_a3 cA a _ _ _) d_M_set_51 (fun H locs G => ?_)
            refine lv_iload hx hb d_M_set_52 (lv_at hl 0 rfl) ?_
            exact g_reti S hr hlk G ⟨by first | (simp only [mSetR, mSet, mSetOk, mT, eq_true c_2, eq_false c_3, eq_false c_4, eq_true c_11, hk, i10, ↓reduceIte]; done) | (simp only [mSetR, mSet, mSetOk, mT, eq_true c_2, eq_false c_3, eq_false c_4, eq_true c_11, hk, i10, ↓reduceIte]; rfl), congrArg (wM cA a) (by first | rfl | first | (simp only [mSetR, mSet, mSetOk, mT, eq_true c_2, eq_false c_3, eq_false c_4, eq_true c_11, hk, i10, ↓reduceIte]; done) | (simp only [mSetR, mSet, mSetOk, mT, eq_true c_2, eq_false c_3, eq_false c_4, eq_true c_11, hk, i10, ↓reduceIte]; rfl))⟩ (Nat.le_refl _) (Nat.le_refl _) d_M_set_54
          · rw [hk]
            refine W.eq (g2 := F0 mm 40 ls [.ref (a 4)]) rfl ?_
            refine lv_iload_n hx hb d_M_set_40 rfl (lv_at hl 2 rfl) ?_
            refine g_ialdj S G 4 0 (τ 4) rfl rfl p.toNatClampNeg rfl (mNo_hi c_2 (Or.inr hk)) d_M_set_41 ?_
            refine lv_istore (lv' := [(4, .int ((τ 4) p.toNatClampNeg)), (0, .ref (a 0)), (1, .int t), (2, .int p), (3, .int v)]) hx hb d_M_set_42 hl (by decide) rfl (fun ls hl => ?_)
            refine lv_aload_n hx hb d_M_set_44 rfl (lv_at hl 1 rfl) ?_
            refine lv_iload_n hx hb d_M_set_45 rfl (lv_at hl 2 rfl) ?_
            refine g_cVq (rest := []) S G (c_M_byNumber l D cA a (sU τ 0 0 0) t) (cwV 1 S.2.2.2.2 ml_M_99 rfl rfl rfl (by decide +kernel) ⟨Nat.le_of_ble_eq_true rfl, Nat.le_of_ble_eq_true rfl⟩) [0, 1, 2, 3, 4, 5, 6, 7] [] rfl rfl rfl rfl (by decide) 0 rfl rfl rfl hl.1 rfl (Nat.le_of_ble_eq_true rfl) d_M_set_46 ⟨Nat.le_of_ble_eq_true rfl, Nat.le_of_ble_eq_true rfl⟩ (fun rp_16 wp_16 H locs hp_16 G => ?_)
            obtain ⟨rfl, rfl⟩ := hp_16
            have G : Gw D vwCl [(cA, .int)] AA ss ss.heap H locs (wM cA a (sU τ 0 0 0)) := G
            rw [hk]
            refine W.eq (g2 := F0 mm 49 ls [.ref (a 4)]) rfl ?_
            refine lv_iload_n hx hb d_M_set_49 rfl (lv_at hl 3 rfl) ?_
            refine lv_iload_n hx hb d_M_set_50 rfl (lv_at hl 4 rfl) ?_
            refine g_iastj S G 4 0 rfl rfl p.toNatClampNeg rfl (mNo_hi c_2 (Or.inr hk)) (wM cA a (sU (sU τ 0 0 0) 4 p.toNatClampNeg v)) (wm_a4 cA a _ _ _) d_M_set_51 (fun H locs G => ?_)
            refine lv_iload hx hb d_M_set_52 (lv_at hl 0 rfl) ?_
            exact g_reti S hr hlk G ⟨by first | (simp only [mSetR, mSet, mSetOk, mT, eq_true c_2, eq_false c_3, eq_false c_4, eq_true c_11, hk, i10, ↓reduceIte]; done) | (simp only [mSetR, mSet, mSetOk, mT, eq_true c_2, eq_false c_3, eq_false c_4, eq_true c_11, hk, i10, ↓reduceIte]; rfl), congrArg (wM cA a) (by first | rfl | first | (simp only [mSetR, mSet, mSetOk, mT, eq_true c_2, eq_false c_3, eq_false c_4, eq_true c_11, hk, i10, ↓reduceIte]; done) | (simp only [mSetR, mSet, mSetOk, mT, eq_true c_2, eq_false c_3, eq_false c_4, eq_true c_11, hk, i10, ↓reduceIte]; rfl))⟩ (Nat.le_refl _) (Nat.le_refl _) d_M_set_54
        · refine lv_iconst (v := (-1)) hx hb d_M_set_33 (by decide) ?_
          exact g_reti S hr hlk G ⟨by first | (simp only [mSetR, mSet, mSetOk, mT, eq_true c_2, eq_false c_3, eq_false c_4, eq_false c_11, i10, ↓reduceIte]; done) | (simp only [mSetR, mSet, mSetOk, mT, eq_true c_2, eq_false c_3, eq_false c_4, eq_false c_11, i10, ↓reduceIte]; rfl), congrArg (wM cA a) (by first | rfl | first | (simp only [mSetR, mSet, mSetOk, mT, eq_true c_2, eq_false c_3, eq_false c_4, eq_false c_11, i10, ↓reduceIte]; done) | (simp only [mSetR, mSet, mSetOk, mT, eq_true c_2, eq_false c_3, eq_false c_4, eq_false c_11, i10, ↓reduceIte]; rfl))⟩ (Nat.le_refl _) (Nat.le_refl _) d_M_set_34
