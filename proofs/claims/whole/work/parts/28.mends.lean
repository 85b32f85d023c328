abbrev rm_M_ends : Room := { frames := 3, cells := 0, slots := 0, locals := 68 }
set_option maxHeartbeats 1000000 in
set_option maxRecDepth 100000 in
theorem c_M_ends (l : Launch) (D : va_G) (cA : ClassId) (a : Nat → Nat) (τ : St) (N a1 n1 : Nat) (hm : τ 0 2 = nI N) (hN : N ≤ 257) (hs : τ 0 4 = 0 → N ≤ 256) (ha : mTwo (τ 5) 0 = nI a1) (hn : mTwo (τ 5) 2 = nI n1) (HB : mWhy (τ 5) (τ 5 1) (nI N - 4) = 0 → mBd (τ 5 1) a1 n1) : Ci l y_M_ends w_M_ends rm_M_ends D vwCl [(cA, .int)] [.ref (a 0)] (wM cA a τ) 0 0 (fun r0 w0 => r0 = mEndsR τ N a1 n1 ∧ w0 = wM cA a (mEnds τ N a1 n1)) := by
  refine Ci.of (Ts := lw_g) (own := "WireSlaveModel") (cc := b_M_ends) (maxL := 4) (ret := (some .int)) (lv := [(0, .ref (a 0))]) (by decide) rfl rfl (fun w h => List.mem_cons_of_mem _ h) (Nat.le_of_ble_eq_true rfl) rfl ?_
  intro pp ee ss mm args below meth cx AA S hr hlk G ls hl
  have hx := S.1
  have hb := S.2.1
  refine lv_aload_n hx hb d_M_ends_0 rfl (lv_at hl 0 rfl) ?_
  refine lv_iconst (v := 0) hx hb d_M_ends_1 (by decide) ?_
  refine g_put S G in_M ft_M tok_M nm_M 0 rfl rfl 11 (by decide) fl_M_67 rfl rfl rfl (Nat.le_of_ble_eq_true rfl) (wM cA a (sU τ 0 5 0)) (wm_psize cA a _ _) d_M_ends_2 (fun H locs G => ?_)
  refine lv_aload_n hx hb d_M_ends_5 rfl (lv_at hl 0 rfl) ?_
  refine g_get (v := .ref (a 7)) S G in_M 0 rfl rfl 12 (by decide) fl_M_28 rfl d_M_ends_6 ?_
  refine lv_iconst (v := 0) hx hb d_M_ends_9 (by decide) ?_
  refine lv_dup2_11 hx hb d_M_ends_10 rfl rfl ?_
  refine g_ialdj S G 7 0 ((sU τ 0 5 0) 7) rfl rfl 0 (by decide) (by unfold vp_in; decide) d_M_ends_11 ?_
  refine lv_topi (fun v_1 ev_1 => ?_)
  refine lv_iconst (v := 1) hx hb d_M_ends_12 (by decide) ?_
  refine lv_iadd hx hb d_M_ends_13 ?_
  refine g_iastj S G 7 0 rfl rfl 0 (by decide) (by unfold vp_in; decide) (wM cA a (sU (sU τ 0 5 0) 7 0 (v_1 + 1))) (wm_a7 cA a _ _ _) d_M_ends_14 (fun H locs G => ?_)
  refine lv_aload_n hx hb d_M_ends_15 rfl (lv_at hl 0 rfl) ?_
  refine g_get (v := .int (τ 0 4)) S G in_M 0 rfl rfl 9 (by decide) fl_M_38 rfl d_M_ends_16 ?_
  refine lv_if_ne (tgt := 30) hx hb d_M_ends_19 (by decide) (fun c_2 => ?_) (fun c_2 => ?_)
  · refine lv_iconst (v := 0) hx hb d_M_ends_30 (by decide) ?_
    refine lv_goto (tgt := 48) hx hb d_M_ends_31 (by decide) ?_
    refine lv_istore_n (lv' := [(1, .int 0), (0, .ref (a 0))]) hx hb d_M_ends_48 rfl hl (by decide) rfl (fun ls hl => ?_)
    refine lv_aload_n hx hb d_M_ends_49 rfl (lv_at hl 1 rfl) ?_
    refine g_get (v := .int (τ 0 4)) S G in_M 0 rfl rfl 9 (by decide) fl_M_38 rfl d_M_ends_50 ?_
    refine lv_if_ne (tgt := 102) hx hb d_M_ends_53 (by decide) (fun _ => ?_) (fun h9 => absurd h9 c_2)
    refine lv_aload_n hx hb d_M_ends_102 rfl (lv_at hl 1 rfl) ?_
    refine g_get (v := .ref (a 7)) S G in_M 0 rfl rfl 12 (by decide) fl_M_28 rfl d_M_ends_103 ?_
    refine lv_iconst (v := 1) hx hb d_M_ends_106 (by decide) ?_
    refine lv_dup2_11 hx hb d_M_ends_107 rfl rfl ?_
    refine g_ialdj S G 7 0 ((sU (sU τ 0 5 0) 7 0 (v_1 + 1)) 7) rfl rfl 1 (by decide) (by unfold vp_in; decide) d_M_ends_108 ?_
    refine lv_topi (fun v_3 ev_3 => ?_)
    refine lv_iconst (v := 1) hx hb d_M_ends_109 (by decide) ?_
    refine lv_iadd hx hb d_M_ends_110 ?_
    refine g_iastj S G 7 0 rfl rfl 1 (by decide) (by unfold vp_in; decide) (wM cA a (sU (sU (sU τ 0 5 0) 7 0 (v_1 + 1)) 7 1 (v_3 + 1))) (wm_a7 cA a _ _ _) d_M_ends_111 (fun H locs G => ?_)
    refine lv_iconst (v := 0) hx hb d_M_ends_112 (by decide) ?_
    have Gz := G
    replace ev_3 := ev_3.symm
    subst ev_3
    replace ev_1 := ev_1.symm
    subst ev_1
    exact g_reti S hr hlk Gz ⟨by first | (simp only [mEndsR, mEnds, mEndGR, mEndG, mEndHR, mEndH, mR2, mR1, mX2, mX1, mDo, mE0, mCt, eq_false c_2, ↓reduceIte]; done) | (simp only [mEndsR, mEnds, mEndGR, mEndG, mEndHR, mEndH, mR2, mR1, mX2, mX1, mDo, mE0, mCt, eq_false c_2, ↓reduceIte]; rfl), congrArg (wM cA a) (by first | (simp only [mEndsR, mEnds, mEndGR, mEndG, mEndHR, mEndH, mR2, mR1, mX2, mX1, mDo, mE0, mCt, eq_false c_2, ↓reduceIte]; done) | (simp only [mEndsR, mEnds, mEndGR, mEndG, mEndHR, mEndH, mR2, mR1, mX2, mX1, mDo, mE0, mCt, eq_false c_2, ↓reduceIte]; rfl))⟩ (Nat.le_refl _) (Nat.le_refl _) d_M_ends_113
  · refine lv_aload_n hx hb d_M_ends_22 rfl (lv_at hl 0 rfl) ?_
    refine g_get (v := .int (nI N)) S G in_M 0 rfl rfl 7 (by decide) fl_M_42 (by rw [← hm]; rfl) d_M_ends_23 ?_
    refine lv_iconst (v := 4) hx hb d_M_ends_26 (by decide) ?_
    refine lv_icmp_ge (tgt := 34) hx hb d_M_ends_27 (by decide) (fun c_4 => ?_) (fun c_4 => ?_)
    · have hN4 : 4 ≤ N := (nI_leI (a := 4) (by decide) (by omega)).mp c_4
      have hN6 : N ≤ 256 := hs c_2
      refine lv_aload_n hx hb d_M_ends_34 rfl (lv_at hl 0 rfl) ?_
      refine lv_aload_n hx hb d_M_ends_35 rfl (lv_at hl 0 rfl) ?_
      refine g_get (v := .ref (a 5)) S G in_M 0 rfl rfl 6 (by decide) fl_M_22 rfl d_M_ends_36 ?_
      refine lv_aload_n hx hb d_M_ends_39 rfl (lv_at hl 0 rfl) ?_
      refine g_get (v := .int (nI N)) S G in_M 0 rfl rfl 7 (by decide) fl_M_42 (by rw [← hm]; rfl) d_M_ends_40 ?_
      refine lv_iconst (v := 2) hx hb d_M_ends_43 (by decide) ?_
      refine lv_isub hx hb d_M_ends_44 ?_
      refine g_cVi (rest := []) S G (c_M_sumOf5 l D cA a (sU (sU τ 0 5 0) 7 0 (v_1 + 1)) ((nI N) - 2) (by rw [show nI N - 2 = nI (N - 2) from pk_sub (a := N) (b := 2) (by omega), nI_clamp (by omega)]; omega)) (cwV 2 S.2.2.2.2 ml_M_70 rfl rfl rfl (by decide +kernel) ⟨Nat.le_of_ble_eq_true rfl, Nat.le_of_ble_eq_true rfl⟩) [0, 1, 2, 3, 4, 5, 6, 7] [] rfl rfl rfl rfl (by decide) 0 rfl rfl rfl hl.1 rfl (Nat.le_of_ble_eq_true rfl) d_M_ends_45 ⟨Nat.le_of_ble_eq_true rfl, Nat.le_of_ble_eq_true rfl⟩ (fun rp_5 wp_5 H locs hp_5 G => ?_)
      obtain ⟨ep_5, rfl⟩ := hp_5
      have ep_5 : rp_5 = mSum (τ 5) ((nI N) - 2) := ep_5
      have G : Gw D vwCl [(cA, .int)] AA ss ss.heap H locs (wM cA a (sU (sU τ 0 5 0) 7 0 (v_1 + 1))) := G
      refine lv_istore_n (lv' := [(1, .int rp_5), (0, .ref (a 0))]) hx hb d_M_ends_48 rfl hl (by decide) rfl (fun ls hl => ?_)
      refine lv_aload_n hx hb d_M_ends_49 rfl (lv_at hl 1 rfl) ?_
      refine g_get (v := .int (τ 0 4)) S G in_M 0 rfl rfl 9 (by decide) fl_M_38 rfl d_M_ends_50 ?_
      refine lv_if_ne (tgt := 102) hx hb d_M_ends_53 (by decide) (fun h9 => absurd c_2 h9) (fun _ => ?_)
      refine lv_aload_n hx hb d_M_ends_56 rfl (lv_at hl 1 rfl) ?_
      refine g_get (v := .int (nI N)) S G in_M 0 rfl rfl 7 (by decide) fl_M_42 (by rw [← hm]; rfl) d_M_ends_57 ?_
      refine lv_iconst (v := 4) hx hb d_M_ends_60 (by decide) ?_
      have k_6 : ¬ ((nI N) < 4) := Int32.not_lt.mpr c_4
      refine lv_icmp_lt (tgt := 102) hx hb d_M_ends_61 (by decide) (fun h9 => absurd h9 k_6) (fun _ => ?_)
      refine lv_aload_n hx hb d_M_ends_64 rfl (lv_at hl 1 rfl) ?_
      refine g_get (v := .ref (a 5)) S G in_M 0 rfl rfl 6 (by decide) fl_M_22 rfl d_M_ends_65 ?_
      refine lv_aload_n hx hb d_M_ends_68 rfl (lv_at hl 1 rfl) ?_
      refine g_get (v := .int (nI N)) S G in_M 0 rfl rfl 7 (by decide) fl_M_42 (by rw [← hm]; rfl) d_M_ends_69 ?_
      refine lv_iconst (v := 2) hx hb d_M_ends_72 (by decide) ?_
      refine lv_isub hx hb d_M_ends_73 ?_
      refine g_ialdj S G 5 0 (τ 5) rfl rfl (N - 2) (by rw [show nI N - 2 = nI (N - 2) from pk_sub (a := N) (b := 2) (by omega)]; exact nI_clamp (by omega)) (by rw [show nI N - 2 = nI (N - 2) from pk_sub (a := N) (b := 2) (by omega)]; exact vp_in_nI (by omega) (by decide)) d_M_ends_74 ?_
      refine lv_topi (fun v_7 ev_7 => ?_)
      refine lv_iload_n hx hb d_M_ends_75 rfl (lv_at hl 0 rfl) ?_
      refine lv_sipush (v := 256) hx hb d_M_ends_76 (by decide) ?_
      refine lv_irem hx hb d_M_ends_79 (by decide) ?_
      refine lv_topi (fun v_8 ev_8 => ?_)
      refine lv_icmp_ne (tgt := 102) hx hb d_M_ends_80 (by decide) (fun c_9 => ?_) (fun c_9 => ?_)
      · refine lv_aload_n hx hb d_M_ends_102 rfl (lv_at hl 1 rfl) ?_
        refine g_get (v := .ref (a 7)) S G in_M 0 rfl rfl 12 (by decide) fl_M_28 rfl d_M_ends_103 ?_
        refine lv_iconst (v := 1) hx hb d_M_ends_106 (by decide) ?_
        refine lv_dup2_11 hx hb d_M_ends_107 rfl rfl ?_
        refine g_ialdj S G 7 0 ((sU (sU τ 0 5 0) 7 0 (v_1 + 1)) 7) rfl rfl 1 (by decide) (by unfold vp_in; decide) d_M_ends_108 ?_
        refine lv_topi (fun v_10 ev_10 => ?_)
        refine lv_iconst (v := 1) hx hb d_M_ends_109 (by decide) ?_
        refine lv_iadd hx hb d_M_ends_110 ?_
        refine g_iastj S G 7 0 rfl rfl 1 (by decide) (by unfold vp_in; decide) (wM cA a (sU (sU (sU τ 0 5 0) 7 0 (v_1 + 1)) 7 1 (v_10 + 1))) (wm_a7 cA a _ _ _) d_M_ends_111 (fun H locs G => ?_)
        refine lv_iconst (v := 0) hx hb d_M_ends_112 (by decide) ?_
        have Gz := G
        replace ev_10 := ev_10.symm
        subst ev_10
        replace ev_8 := ev_8.symm
        subst ev_8
        replace ev_7 := ev_7.symm
        subst ev_7
        replace ep_5 := ep_5.symm
        subst ep_5
        replace ev_1 := ev_1.symm
        subst ev_1
        exact g_reti S hr hlk Gz ⟨by first | (simp only [mEndsR, mEnds, mEndGR, mEndG, mEndHR, mEndH, mR2, mR1, mX2, mX1, mDo, mE0, mCt, eq_true c_2, eq_true c_4, eq_false k_6, eq_false c_9, ↓reduceIte]; done) | (simp only [mEndsR, mEnds, mEndGR, mEndG, mEndHR, mEndH, mR2, mR1, mX2, mX1, mDo, mE0, mCt, eq_true c_2, eq_true c_4, eq_false k_6, eq_false c_9, ↓reduceIte]; rfl), congrArg (wM cA a) (by first | (simp only [mEndsR, mEnds, mEndGR, mEndG, mEndHR, mEndH, mR2, mR1, mX2, mX1, mDo, mE0, mCt, eq_true c_2, eq_true c_4, eq_false k_6, eq_false c_9, ↓reduceIte]; done) | (simp only [mEndsR, mEnds, mEndGR, mEndG, mEndHR, mEndH, mR2, mR1, mX2, mX1, mDo, mE0, mCt, eq_true c_2, eq_true c_4, eq_false k_6, eq_false c_9, ↓reduceIte]; rfl))⟩ (Nat.le_refl _) (Nat.le_refl _) d_M_ends_113
      · refine lv_aload_n hx hb d_M_ends_83 rfl (lv_at hl 1 rfl) ?_
        refine g_get (v := .ref (a 5)) S G in_M 0 rfl rfl 6 (by decide) fl_M_22 rfl d_M_ends_84 ?_
        refine lv_aload_n hx hb d_M_ends_87 rfl (lv_at hl 1 rfl) ?_
        refine g_get (v := .int (nI N)) S G in_M 0 rfl rfl 7 (by decide) fl_M_42 (by rw [← hm]; rfl) d_M_ends_88 ?_
        refine lv_iconst (v := 1) hx hb d_M_ends_91 (by decide) ?_
        refine lv_isub hx hb d_M_ends_92 ?_
        refine g_ialdj S G 5 0 (τ 5) rfl rfl (N - 1) (by rw [show nI N - 1 = nI (N - 1) from pk_sub (a := N) (b := 1) (by omega)]; exact nI_clamp (by omega)) (by rw [show nI N - 1 = nI (N - 1) from pk_sub (a := N) (b := 1) (by omega)]; exact vp_in_nI (by omega) (by decide)) d_M_ends_93 ?_
        refine lv_topi (fun v_11 ev_11 => ?_)
        refine lv_iload_n hx hb d_M_ends_94 rfl (lv_at hl 0 rfl) ?_
        refine lv_sipush (v := 256) hx hb d_M_ends_95 (by decide) ?_
        refine lv_idiv hx hb d_M_ends_98 (by decide) ?_
        refine lv_icmp_eq (tgt := 114) hx hb d_M_ends_99 (by decide) (fun c_12 => ?_) (fun c_12 => ?_)
        · refine lv_aload_n hx hb d_M_ends_114 rfl (lv_at hl 1 rfl) ?_
          refine g_get (v := .ref (a 5)) S G in_M 0 rfl rfl 6 (by decide) fl_M_22 rfl d_M_ends_115 ?_
          refine lv_iconst (v := 0) hx hb d_M_ends_118 (by decide) ?_
          refine g_ialdj S G 5 0 (τ 5) rfl rfl 0 (by decide) (by unfold vp_in; decide) d_M_ends_119 ?_
          refine lv_if_eq (tgt := 148) hx hb d_M_ends_120 (by decide) (fun c_13 => ?_) (fun c_13 => ?_)
          · refine lv_aload_n hx hb d_M_ends_148 rfl (lv_at hl 1 rfl) ?_
            refine lv_aload_n hx hb d_M_ends_149 rfl (lv_at hl 1 rfl) ?_
            refine g_get (v := .ref (a 5)) S G in_M 0 rfl rfl 6 (by decide) fl_M_22 rfl d_M_ends_150 ?_
            refine lv_iconst (v := 1) hx hb d_M_ends_153 (by decide) ?_
            refine g_ialdj S G 5 0 (τ 5) rfl rfl 1 (by decide) (by unfold vp_in; decide) d_M_ends_154 ?_
            refine lv_aload_n hx hb d_M_ends_155 rfl (lv_at hl 1 rfl) ?_
            refine g_get (v := .int (nI N)) S G in_M 0 rfl rfl 7 (by decide) fl_M_42 (by rw [← hm]; rfl) d_M_ends_156 ?_
            refine lv_iconst (v := 4) hx hb d_M_ends_159 (by decide) ?_
            refine lv_isub hx hb d_M_ends_160 ?_
            refine g_cVi (rest := []) S G (c_M_why l D cA a (sU (sU τ 0 5 0) 7 0 (v_1 + 1)) ((τ 5) 1) ((nI N) - 4)) (cwV 2 S.2.2.2.2 ml_M_74 rfl rfl rfl (by decide +kernel) ⟨Nat.le_of_ble_eq_true rfl, Nat.le_of_ble_eq_true rfl⟩) [0, 1, 2, 3, 4, 5, 6, 7] [] rfl rfl rfl rfl (by decide) 0 rfl rfl rfl hl.1 rfl (Nat.le_of_ble_eq_true rfl) d_M_ends_161 ⟨Nat.le_of_ble_eq_true rfl, Nat.le_of_ble_eq_true rfl⟩ (fun rp_14 wp_14 H locs hp_14 G => ?_)
            obtain ⟨ep_14, rfl⟩ := hp_14
            have ep_14 : rp_14 = mWhy (τ 5) ((τ 5) 1) ((nI N) - 4) := ep_14
            have G : Gw D vwCl [(cA, .int)] AA ss ss.heap H locs (wM cA a (sU (sU τ 0 5 0) 7 0 (v_1 + 1))) := G
            refine lv_istore_n (lv' := [(2, .int rp_14), (1, .int rp_5), (0, .ref (a 0))]) hx hb d_M_ends_164 rfl hl (by decide) rfl (fun ls hl => ?_)
            refine lv_aload_n hx hb d_M_ends_165 rfl (lv_at hl 2 rfl) ?_
            refine g_get (v := .ref (a 7)) S G in_M 0 rfl rfl 12 (by decide) fl_M_28 rfl d_M_ends_166 ?_
            refine lv_iload_n hx hb d_M_ends_169 rfl (lv_at hl 0 rfl) ?_
            refine lv_if_le (tgt := 177) hx hb d_M_ends_170 (by decide) (fun c_15 => ?_) (fun c_15 => ?_)
            · refine lv_iconst (v := 4) hx hb d_M_ends_177 (by decide) ?_
              refine lv_dup2_11 hx hb d_M_ends_178 rfl rfl ?_
              refine g_ialdj S G 7 0 ((sU (sU τ 0 5 0) 7 0 (v_1 + 1)) 7) rfl rfl 4 (by decide) (by unfold vp_in; decide) d_M_ends_179 ?_
              refine lv_topi (fun v_16 ev_16 => ?_)
              refine lv_iconst (v := 1) hx hb d_M_ends_180 (by decide) ?_
              refine lv_iadd hx hb d_M_ends_181 ?_
              refine g_iastj S G 7 0 rfl rfl 4 (by decide) (by unfold vp_in; decide) (wM cA a (sU (sU (sU τ 0 5 0) 7 0 (v_1 + 1)) 7 4 (v_16 + 1))) (wm_a7 cA a _ _ _) d_M_ends_182 (fun H locs G => ?_)
              refine lv_iload_n hx hb d_M_ends_183 rfl (lv_at hl 0 rfl) ?_
              have k_17 : rp_14 = 0 := ep_14.trans (why_le0 (ep_14 ▸ c_15))
              refine lv_if_ne (tgt := 197) hx hb d_M_ends_184 (by decide) (fun h9 => absurd k_17 h9) (fun _ => ?_)
              refine lv_aload_n hx hb d_M_ends_187 rfl (lv_at hl 2 rfl) ?_
              refine lv_aload_n hx hb d_M_ends_188 rfl (lv_at hl 2 rfl) ?_
              refine g_get (v := .ref (a 5)) S G in_M 0 rfl rfl 6 (by decide) fl_M_22 rfl d_M_ends_189 ?_
              refine lv_iconst (v := 1) hx hb d_M_ends_192 (by decide) ?_
              refine g_ialdj S G 5 0 (τ 5) rfl rfl 1 (by decide) (by unfold vp_in; decide) d_M_ends_193 ?_
              refine g_cVv (rest := []) S G (c_M_act l D cA a (sU (sU (sU τ 0 5 0) 7 0 (v_1 + 1)) 7 4 (v_16 + 1)) ((τ 5) 1) a1 n1 ha hn (HB (ep_14.symm.trans k_17)).1 (HB (ep_14.symm.trans k_17)).2.1 (HB (ep_14.symm.trans k_17)).2.2.1 (HB (ep_14.symm.trans k_17)).2.2.2.1) (cwV 1 S.2.2.2.2 ml_M_77 rfl rfl rfl (by decide +kernel) ⟨Nat.le_of_ble_eq_true rfl, Nat.le_of_ble_eq_true rfl⟩) [0, 1, 2, 3, 4, 5, 6, 7] [] rfl rfl rfl rfl (by decide) 0 rfl rfl rfl hl.1 rfl (Nat.le_of_ble_eq_true rfl) d_M_ends_194 ⟨Nat.le_of_ble_eq_true rfl, Nat.le_of_ble_eq_true rfl⟩ (fun wp_18 H locs hp_18 G => ?_)
              subst hp_18
              have G : Gw D vwCl [(cA, .int)] AA ss ss.heap H locs (wM cA a (sS (sS (sU (sU (sU τ 0 5 0) 7 0 (v_1 + 1)) 7 4 (v_16 + 1)) 1 (mActC (τ 5) ((τ 5) 1) a1 n1 (τ 1))) 3 (mActR (τ 5) ((τ 5) 1) a1 n1 (τ 3)))) := G
              refine lv_aload_n hx hb d_M_ends_197 rfl (lv_at hl 2 rfl) ?_
              refine g_get (v := .ref (a 5)) S G in_M 0 rfl rfl 6 (by decide) fl_M_22 rfl d_M_ends_198 ?_
              refine lv_iconst (v := 0) hx hb d_M_ends_201 (by decide) ?_
              refine g_ialdj S G 5 0 (τ 5) rfl rfl 0 (by decide) (by unfold vp_in; decide) d_M_ends_202 ?_
              refine lv_if_ne (tgt := 208) hx hb d_M_ends_203 (by decide) (fun h9 => absurd c_13 h9) (fun _ => ?_)
              refine lv_iconst (v := 0) hx hb d_M_ends_206 (by decide) ?_
              have Gz := G
              replace ev_16 := ev_16.symm
              subst ev_16
              replace ep_14 := ep_14.symm
              subst ep_14
              replace ev_11 := ev_11.symm
              subst ev_11
              replace ev_8 := ev_8.symm
              subst ev_8
              replace ev_7 := ev_7.symm
              subst ev_7
              replace ep_5 := ep_5.symm
              subst ep_5
              replace ev_1 := ev_1.symm
              subst ev_1
              exact g_reti S hr hlk Gz ⟨by first | (simp only [mEndsR, mEnds, mEndGR, mEndG, mEndHR, mEndH, mR2, mR1, mX2, mX1, mDo, mE0, mCt, eq_true c_2, eq_true c_4, eq_false k_6, eq_true c_9, eq_true c_12, eq_true c_13, eq_true c_15, eq_true k_17, ↓reduceIte]; done) | (simp only [mEndsR, mEnds, mEndGR, mEndG, mEndHR, mEndH, mR2, mR1, mX2, mX1, mDo, mE0, mCt, eq_true c_2, eq_true c_4, eq_false k_6, eq_true c_9, eq_true c_12, eq_true c_13, eq_true c_15, eq_true k_17, ↓reduceIte]; rfl), congrArg (wM cA a) (by first | (simp only [mEndsR, mEnds, mEndGR, mEndG, mEndHR, mEndH, mR2, mR1, mX2, mX1, mDo, mE0, mCt, eq_true c_2, eq_true c_4, eq_false k_6, eq_true c_9, eq_true c_12, eq_true c_13, eq_true c_15, eq_true k_17, ↓reduceIte]; done) | (simp only [mEndsR, mEnds, mEndGR, mEndG, mEndHR, mEndH, mR2, mR1, mX2, mX1, mDo, mE0, mCt, eq_true c_2, eq_true c_4, eq_false k_6, eq_true c_9, eq_true c_12, eq_true c_13, eq_true c_15, eq_true k_17, ↓reduceIte]; rfl))⟩ (Nat.le_refl _) (Nat.le_refl _) d_M_ends_207
            · refine lv_iconst (v := 3) hx hb d_M_ends_173 (by decide) ?_
              refine lv_goto (tgt := 178) hx hb d_M_ends_174 (by decide) ?_
              refine lv_dup2_11 hx hb d_M_ends_178 rfl rfl ?_
              refine g_ialdj S G 7 0 ((sU (sU τ 0 5 0) 7 0 (v_1 + 1)) 7) rfl rfl 3 (by decide) (by unfold vp_in; decide) d_M_ends_179 ?_
              refine lv_topi (fun v_19 ev_19 => ?_)
              refine lv_iconst (v := 1) hx hb d_M_ends_180 (by decide) ?_
              refine lv_iadd hx hb d_M_ends_181 ?_
              refine g_iastj S G 7 0 rfl rfl 3 (by decide) (by unfold vp_in; decide) (wM cA a (sU (sU (sU τ 0 5 0) 7 0 (v_1 + 1)) 7 3 (v_19 + 1))) (wm_a7 cA a _ _ _) d_M_ends_182 (fun H locs G => ?_)
              refine lv_iload_n hx hb d_M_ends_183 rfl (lv_at hl 0 rfl) ?_
              have k_20 : ¬ (rp_14 = 0) := fun q => c_15 (by rw [q]; decide)
              refine lv_if_ne (tgt := 197) hx hb d_M_ends_184 (by decide) (fun _ => ?_) (fun h9 => absurd h9 k_20)
              refine lv_aload_n hx hb d_M_ends_197 rfl (lv_at hl 2 rfl) ?_
              refine g_get (v := .ref (a 5)) S G in_M 0 rfl rfl 6 (by decide) fl_M_22 rfl d_M_ends_198 ?_
              refine lv_iconst (v := 0) hx hb d_M_ends_201 (by decide) ?_
              refine g_ialdj S G 5 0 (τ 5) rfl rfl 0 (by decide) (by unfold vp_in; decide) d_M_ends_202 ?_
              refine lv_if_ne (tgt := 208) hx hb d_M_ends_203 (by decide) (fun h9 => absurd c_13 h9) (fun _ => ?_)
              refine lv_iconst (v := 0) hx hb d_M_ends_206 (by decide) ?_
              have Gz := G
              replace ev_19 := ev_19.symm
              subst ev_19
              replace ep_14 := ep_14.symm
              subst ep_14
              replace ev_11 := ev_11.symm
              subst ev_11
              replace ev_8 := ev_8.symm
              subst ev_8
              replace ev_7 := ev_7.symm
              subst ev_7
              replace ep_5 := ep_5.symm
              subst ep_5
              replace ev_1 := ev_1.symm
              subst ev_1
              exact g_reti S hr hlk Gz ⟨by first | (simp only [mEndsR, mEnds, mEndGR, mEndG, mEndHR, mEndH, mR2, mR1, mX2, mX1, mDo, mE0, mCt, eq_true c_2, eq_true c_4, eq_false k_6, eq_true c_9, eq_true c_12, eq_true c_13, eq_false c_15, eq_false k_20, ↓reduceIte]; done) | (simp only [mEndsR, mEnds, mEndGR, mEndG, mEndHR, mEndH, mR2, mR1, mX2, mX1, mDo, mE0, mCt, eq_true c_2, eq_true c_4, eq_false k_6, eq_true c_9, eq_true c_12, eq_true c_13, eq_false c_15, eq_false k_20, ↓reduceIte]; rfl), congrArg (wM cA a) (by first | (simp only [mEndsR, mEnds, mEndGR, mEndG, mEndHR, mEndH, mR2, mR1, mX2, mX1, mDo, mE0, mCt, eq_true c_2, eq_true c_4, eq_false k_6, eq_true c_9, eq_true c_12, eq_true c_13, eq_false c_15, eq_false k_20, ↓reduceIte]; done) | (simp only [mEndsR, mEnds, mEndGR, mEndG, mEndHR, mEndH, mR2, mR1, mX2, mX1, mDo, mE0, mCt, eq_true c_2, eq_true c_4, eq_false k_6, eq_true c_9, eq_true c_12, eq_true c_13, eq_false c_15, eq_false k_20, ↓reduceIte]; rfl))⟩ (Nat.le_refl _) (Nat.le_refl _) d_M_ends_207
          · refine lv_aload_n hx hb d_M_ends_123 rfl (lv_at hl 1 rfl) ?_
            refine g_get (v := .ref (a 5)) S G in_M 0 rfl rfl 6 (by decide) fl_M_22 rfl d_M_ends_124 ?_
            refine lv_iconst (v := 0) hx hb d_M_ends_127 (by decide) ?_
            refine g_ialdj S G 5 0 (τ 5) rfl rfl 0 (by decide) (by unfold vp_in; decide) d_M_ends_128 ?_
            refine lv_aload_n hx hb d_M_ends_129 rfl (lv_at hl 1 rfl) ?_
            refine g_get (v := .int (τ 0 1)) S G in_M 0 rfl rfl 1 (by decide) fl_M_31 rfl d_M_ends_130 ?_
            refine lv_icmp_eq (tgt := 148) hx hb d_M_ends_133 (by decide) (fun c_21 => ?_) (fun c_21 => ?_)
            · refine lv_aload_n hx hb d_M_ends_148 rfl (lv_at hl 1 rfl) ?_
              refine lv_aload_n hx hb d_M_ends_149 rfl (lv_at hl 1 rfl) ?_
              refine g_get (v := .ref (a 5)) S G in_M 0 rfl rfl 6 (by decide) fl_M_22 rfl d_M_ends_150 ?_
              refine lv_iconst (v := 1) hx hb d_M_ends_153 (by decide) ?_
              refine g_ialdj S G 5 0 (τ 5) rfl rfl 1 (by decide) (by unfold vp_in; decide) d_M_ends_154 ?_
              refine lv_aload_n hx hb d_M_ends_155 rfl (lv_at hl 1 rfl) ?_
              refine g_get (v := .int (nI N)) S G in_M 0 rfl rfl 7 (by decide) fl_M_42 (by rw [← hm]; rfl) d_M_ends_156 ?_
              refine lv_iconst (v := 4) hx hb d_M_ends_159 (by decide) ?_
              refine lv_isub hx hb d_M_ends_160 ?_
              refine g_cVi (rest := []) S G (c_M_why l D cA a (sU (sU τ 0 5 0) 7 0 (v_1 + 1)) ((τ 5) 1) ((nI N) - 4)) (cwV 2 S.2.2.2.2 ml_M_74 rfl rfl rfl (by decide +kernel) ⟨Nat.le_of_ble_eq_true rfl, Nat.le_of_ble_eq_true rfl⟩) [0, 1, 2, 3, 4, 5, 6, 7] [] rfl rfl rfl rfl (by decide) 0 rfl rfl rfl hl.1 rfl (Nat.le_of_ble_eq_true rfl) d_M_ends_161 ⟨Nat.le_of_ble_eq_true rfl, Nat.le_of_ble_eq_true rfl⟩ (fun rp_22 wp_22 H locs hp_22 G => ?_)
              obtain ⟨ep_22, rfl⟩ := hp_22
              have ep_22 : rp_22 = mWhy (τ 5) ((τ 5) 1) ((nI N) - 4) := ep_22
              have G : Gw D vwCl [(cA, .int)] AA ss ss.heap H locs (wM cA a (sU (sU τ 0 5 0) 7 0 (v_1 + 1))) := G
              refine lv_istore_n (lv' := [(2, .int rp_22), (1, .int rp_5), (0, .ref (a 0))]) hx hb d_M_ends_164 rfl hl (by decide) rfl (fun ls hl => ?_)
              refine lv_aload_n hx hb d_M_ends_165 rfl (lv_at hl 2 rfl) ?_
              refine g_get (v := .ref (a 7)) S G in_M 0 rfl rfl 12 (by decide) fl_M_28 rfl d_M_ends_166 ?_
              refine lv_iload_n hx hb d_M_ends_169 rfl (lv_at hl 0 rfl) ?_
              refine lv_if_le (tgt := 177) hx hb d_M_ends_170 (by decide) (fun c_23 => ?_) (fun c_23 => ?_)
              · refine lv_iconst (v := 4) hx hb d_M_ends_177 (by decide) ?_
                refine lv_dup2_11 hx hb d_M_ends_178 rfl rfl ?_
                refine g_ialdj S G 7 0 ((sU (sU τ 0 5 0) 7 0 (v_1 + 1)) 7) rfl rfl 4 (by decide) (by unfold vp_in; decide) d_M_ends_179 ?_
                refine lv_topi (fun v_24 ev_24 => ?_)
                refine lv_iconst (v := 1) hx hb d_M_ends_180 (by decide) ?_
                refine lv_iadd hx hb d_M_ends_181 ?_
                refine g_iastj S G 7 0 rfl rfl 4 (by decide) (by unfold vp_in; decide) (wM cA a (sU (sU (sU τ 0 5 0) 7 0 (v_1 + 1)) 7 4 (v_24 + 1))) (wm_a7 cA a _ _ _) d_M_ends_182 (fun H locs G => ?_)
                refine lv_iload_n hx hb d_M_ends_183 rfl (lv_at hl 0 rfl) ?_
                have k_25 : rp_22 = 0 := ep_22.trans (why_le0 (ep_22 ▸ c_23))
                refine lv_if_ne (tgt := 197) hx hb d_M_ends_184 (by decide) (fun h9 => absurd k_25 h9) (fun _ => ?_)
                refine lv_aload_n hx hb d_M_ends_187 rfl (lv_at hl 2 rfl) ?_
                refine lv_aload_n hx hb d_M_ends_188 rfl (lv_at hl 2 rfl) ?_
                refine g_get (v := .ref (a 5)) S G in_M 0 rfl rfl 6 (by decide) fl_M_22 rfl d_M_ends_189 ?_
                refine lv_iconst (v := 1) hx hb d_M_ends_192 (by decide) ?_
                refine g_ialdj S G 5 0 (τ 5) rfl rfl 1 (by decide) (by unfold vp_in; decide) d_M_ends_193 ?_
                refine g_cVv (rest := []) S G (c_M_act l D cA a (sU (sU (sU τ 0 5 0) 7 0 (v_1 + 1)) 7 4 (v_24 + 1)) ((τ 5) 1) a1 n1 ha hn (HB (ep_22.symm.trans k_25)).1 (HB (ep_22.symm.trans k_25)).2.1 (HB (ep_22.symm.trans k_25)).2.2.1 (HB (ep_22.symm.trans k_25)).2.2.2.1) (cwV 1 S.2.2.2.2 ml_M_77 rfl rfl rfl (by decide +kernel) ⟨Nat.le_of_ble_eq_true rfl, Nat.le_of_ble_eq_true rfl⟩) [0, 1, 2, 3, 4, 5, 6, 7] [] rfl rfl rfl rfl (by decide) 0 rfl rfl rfl hl.1 rfl (Nat.le_of_ble_eq_true rfl) d_M_ends_194 ⟨Nat.le_of_ble_eq_true rfl, Nat.le_of_ble_eq_true rfl⟩ (fun wp_26 H locs hp_26 G => ?_)
                subst hp_26
                have G : Gw D vwCl [(cA, .int)] AA ss ss.heap H locs (wM cA a (sS (sS (sU (sU (sU τ 0 5 0) 7 0 (v_1 + 1)) 7 4 (v_24 + 1)) 1 (mActC (τ 5) ((τ 5) 1) a1 n1 (τ 1))) 3 (mActR (τ 5) ((τ 5) 1) a1 n1 (τ 3)))) := G
                refine lv_aload_n hx hb d_M_ends_197 rfl (lv_at hl 2 rfl) ?_
                refine g_get (v := .ref (a 5)) S G in_M 0 rfl rfl 6 (by decide) fl_M_22 rfl d_M_ends_198 ?_
                refine lv_iconst (v := 0) hx hb d_M_ends_201 (by decide) ?_
                refine g_ialdj S G 5 0 (τ 5) rfl rfl 0 (by decide) (by unfold vp_in; decide) d_M_ends_202 ?_
                refine lv_if_ne (tgt := 208) hx hb d_M_ends_203 (by decide) (fun _ => ?_) (fun h9 => absurd h9 c_13)
                refine lv_aload_n hx hb d_M_ends_208 rfl (lv_at hl 2 rfl) ?_
                refine g_get (v := .ref (a 7)) S G in_M 0 rfl rfl 12 (by decide) fl_M_28 rfl d_M_ends_209 ?_
                refine lv_iconst (v := 5) hx hb d_M_ends_212 (by decide) ?_
                refine lv_dup2_11 hx hb d_M_ends_213 rfl rfl ?_
                refine g_ialdj S G 7 0 ((sS (sS (sU (sU (sU τ 0 5 0) 7 0 (v_1 + 1)) 7 4 (v_24 + 1)) 1 (mActC (τ 5) ((τ 5) 1) a1 n1 (τ 1))) 3 (mActR (τ 5) ((τ 5) 1) a1 n1 (τ 3))) 7) rfl rfl 5 (by decide) (by unfold vp_in; decide) d_M_ends_214 ?_
                refine lv_topi (fun v_27 ev_27 => ?_)
                refine lv_iconst (v := 1) hx hb d_M_ends_215 (by decide) ?_
                refine lv_iadd hx hb d_M_ends_216 ?_
                refine g_iastj S G 7 0 rfl rfl 5 (by decide) (by unfold vp_in; decide) (wM cA a (sU (sS (sS (sU (sU (sU τ 0 5 0) 7 0 (v_1 + 1)) 7 4 (v_24 + 1)) 1 (mActC (τ 5) ((τ 5) 1) a1 n1 (τ 1))) 3 (mActR (τ 5) ((τ 5) 1) a1 n1 (τ 3))) 7 5 (v_27 + 1))) (wm_a7 cA a _ _ _) d_M_ends_217 (fun H locs G => ?_)
                obtain ⟨ρ, hρ⟩ : ∃ q : St, q = (sU (sS (sS (sU (sU (sU τ 0 5 0) 7 0 (v_1 + 1)) 7 4 (v_24 + 1)) 1 (mActC (τ 5) ((τ 5) 1) a1 n1 (τ 1))) 3 (mActR (τ 5) ((τ 5) 1) a1 n1 (τ 3))) 7 5 (v_27 + 1)) := ⟨_, rfl⟩
                have G := G.cast (congrArg (wM cA a) hρ.symm)
                have hρ5 : ρ 5 = τ 5 := by rw [hρ]; rfl
                have hρz : ρ 0 5 = nI 0 := by rw [hρ]; rfl
                have G := G.cast (congrArg (wM cA a) (sP_self hρz).symm)
                refine lv_aload_n hx hb d_M_ends_218 rfl (lv_at hl 2 rfl) ?_
                refine lv_aload_n hx hb d_M_ends_219 rfl (lv_at hl 2 rfl) ?_
                refine g_get (v := .int ((ρ) 0 1)) S G in_M 0 rfl rfl 1 (by decide) fl_M_31 rfl d_M_ends_220 ?_
                refine g_cVv (rest := []) S G (c_M_add l D cA a (ρ) (ρ 6, 0) ((ρ) 0 1) (by first | omega | (simp only [rAdd]; omega))) (cwV 1 S.2.2.2.2 ml_M_81 rfl rfl rfl (by decide +kernel) ⟨Nat.le_of_ble_eq_true rfl, Nat.le_of_ble_eq_true rfl⟩) [0, 1, 2, 3, 4, 5, 6, 7] [] rfl rfl rfl rfl (by decide) 0 rfl rfl rfl hl.1 rfl (Nat.le_of_ble_eq_true rfl) d_M_ends_223 ⟨Nat.le_of_ble_eq_true rfl, Nat.le_of_ble_eq_true rfl⟩ (fun wp_28 H locs hp_28 G => ?_)
                subst hp_28
                have G : Gw D vwCl [(cA, .int)] AA ss ss.heap H locs (wM cA a (sP (ρ) (rAdd (ρ 6, 0) ((ρ) 0 1)))) := G
                refine lv_iload_n hx hb d_M_ends_226 rfl (lv_at hl 0 rfl) ?_
                refine lv_if_le (tgt := 256) hx hb d_M_ends_227 (by decide) (fun _ => ?_) (fun h9 => absurd c_23 h9)
                refine lv_aload_n hx hb d_M_ends_256 rfl (lv_at hl 2 rfl) ?_
                refine lv_aload_n hx hb d_M_ends_257 rfl (lv_at hl 2 rfl) ?_
                refine g_get (v := .ref (a 5)) S G in_M 0 rfl rfl 6 (by decide) fl_M_22 rfl d_M_ends_258 ?_
                refine lv_iconst (v := 1) hx hb d_M_ends_261 (by decide) ?_
                refine g_ialdj S G 5 0 ((ρ) 5) rfl rfl 1 (by decide) (by unfold vp_in; decide) d_M_ends_262 ?_
                refine g_cVv (rest := []) S G (c_M_answer l D cA a (ρ) (rAdd (ρ 6, 0) ((ρ) 0 1)) (((ρ) 5) 1) a1 n1 (by rw [hρ5]; exact ha) (by rw [hρ5]; exact hn) (by simp only [rAdd]; omega) (by rw [hρ5]; exact (HB (ep_22.symm.trans k_25)).2.2.2.2)) (cwV 1 S.2.2.2.2 ml_M_84 rfl rfl rfl (by decide +kernel) ⟨Nat.le_of_ble_eq_true rfl, Nat.le_of_ble_eq_true rfl⟩) [0, 1, 2, 3, 4, 5, 6, 7] [] rfl rfl rfl rfl (by decide) 0 rfl rfl rfl hl.1 rfl (Nat.le_of_ble_eq_true rfl) d_M_ends_263 ⟨Nat.le_of_ble_eq_true rfl, Nat.le_of_ble_eq_true rfl⟩ (fun wp_29 H locs hp_29 G => ?_)
                subst hp_29
                have G : Gw D vwCl [(cA, .int)] AA ss ss.heap H locs (wM cA a (sP (ρ) (mAns ρ (((ρ) 5) 1) a1 n1 (rAdd (ρ 6, 0) ((ρ) 0 1))))) := G
                obtain ⟨x1, ex1⟩ : ∃ q : Rp, q = (mAns ρ (((ρ) 5) 1) a1 n1 (rAdd (ρ 6, 0) ((ρ) 0 1))) := ⟨_, rfl⟩
                have G := G.cast (congrArg (fun q => wM cA a (sP ρ q)) ex1.symm)
                have hx1 : x1.2 ≤ 200 := by rw [ex1]; exact Nat.le_trans (mAns_2 (by rw [hρ5]; exact (HB (ep_22.symm.trans k_25)))) (by simp only [rAdd]; omega)
                refine lv_aload_n hx hb d_M_ends_266 rfl (lv_at hl 2 rfl) ?_
                refine lv_aload_n hx hb d_M_ends_267 rfl (lv_at hl 2 rfl) ?_
                refine g_get (v := .ref (a 6)) S G in_M 0 rfl rfl 10 (by decide) fl_M_25 rfl d_M_ends_268 ?_
                refine lv_aload_n hx hb d_M_ends_271 rfl (lv_at hl 2 rfl) ?_
                refine g_get (v := .int (nI x1.2)) S G in_M 0 rfl rfl 11 (by decide) fl_M_67 rfl d_M_ends_272 ?_
                refine g_cVi (rest := []) S G (c_M_sumOf6 l D cA a (sP (ρ) x1) (nI x1.2) (by rw [nI_clamp (by omega)]; omega)) (cwV 2 S.2.2.2.2 ml_M_70 rfl rfl rfl (by decide +kernel) ⟨Nat.le_of_ble_eq_true rfl, Nat.le_of_ble_eq_true rfl⟩) [0, 1, 2, 3, 4, 5, 6, 7] [] rfl rfl rfl rfl (by decide) 0 rfl rfl rfl hl.1 rfl (Nat.le_of_ble_eq_true rfl) d_M_ends_275 ⟨Nat.le_of_ble_eq_true rfl, Nat.le_of_ble_eq_true rfl⟩ (fun rp_30 wp_30 H locs hp_30 G => ?_)
                obtain ⟨ep_30, rfl⟩ := hp_30
                have ep_30 : rp_30 = mSum x1.1 (nI x1.2) := ep_30
                have G : Gw D vwCl [(cA, .int)] AA ss ss.heap H locs (wM cA a (sP (ρ) x1)) := G
                refine lv_istore_n (lv' := [(3, .int rp_30), (2, .int rp_22), (1, .int rp_5), (0, .ref (a 0))]) hx hb d_M_ends_278 rfl hl (by decide) rfl (fun ls hl => ?_)
                refine lv_aload_n hx hb d_M_ends_279 rfl (lv_at hl 3 rfl) ?_
                refine lv_iload_n hx hb d_M_ends_280 rfl (lv_at hl 0 rfl) ?_
                refine lv_sipush (v := 256) hx hb d_M_ends_281 (by decide) ?_
                refine lv_irem hx hb d_M_ends_284 (by decide) ?_
                refine lv_topi (fun v_31 ev_31 => ?_)
                refine g_cVv (rest := []) S G (c_M_add l D cA a (ρ) x1 v_31 (by first | omega | (simp only [rAdd]; omega))) (cwV 1 S.2.2.2.2 ml_M_81 rfl rfl rfl (by decide +kernel) ⟨Nat.le_of_ble_eq_true rfl, Nat.le_of_ble_eq_true rfl⟩) [0, 1, 2, 3, 4, 5, 6, 7] [] rfl rfl rfl rfl (by decide) 0 rfl rfl rfl hl.1 rfl (Nat.le_of_ble_eq_true rfl) d_M_ends_285 ⟨Nat.le_of_ble_eq_true rfl, Nat.le_of_ble_eq_true rfl⟩ (fun wp_32 H locs hp_32 G => ?_)
                subst hp_32
                have G : Gw D vwCl [(cA, .int)] AA ss ss.heap H locs (wM cA a (sP (ρ) (rAdd x1 v_31))) := G
                refine lv_aload_n hx hb d_M_ends_288 rfl (lv_at hl 3 rfl) ?_
                refine lv_iload_n hx hb d_M_ends_289 rfl (lv_at hl 0 rfl) ?_
                refine lv_sipush (v := 256) hx hb d_M_ends_290 (by decide) ?_
                refine lv_idiv hx hb d_M_ends_293 (by decide) ?_
                refine g_cVv (rest := []) S G (c_M_add l D cA a (ρ) (rAdd x1 v_31) (rp_30 / 256) (by first | omega | (simp only [rAdd]; omega))) (cwV 1 S.2.2.2.2 ml_M_81 rfl rfl rfl (by decide +kernel) ⟨Nat.le_of_ble_eq_true rfl, Nat.le_of_ble_eq_true rfl⟩) [0, 1, 2, 3, 4, 5, 6, 7] [] rfl rfl rfl rfl (by decide) 0 rfl rfl rfl hl.1 rfl (Nat.le_of_ble_eq_true rfl) d_M_ends_294 ⟨Nat.le_of_ble_eq_true rfl, Nat.le_of_ble_eq_true rfl⟩ (fun wp_33 H locs hp_33 G => ?_)
                subst hp_33
                have G : Gw D vwCl [(cA, .int)] AA ss ss.heap H locs (wM cA a (sP (ρ) (rAdd (rAdd x1 v_31) (rp_30 / 256)))) := G
                refine lv_aload_n hx hb d_M_ends_297 rfl (lv_at hl 3 rfl) ?_
                refine g_get (v := .int (nI (rAdd (rAdd x1 v_31) (rp_30 / 256)).2)) S G in_M 0 rfl rfl 11 (by decide) fl_M_67 rfl d_M_ends_298 ?_
                have Gz := G
                replace ev_31 := ev_31.symm
                subst ev_31
                replace ep_30 := ep_30.symm
                subst ep_30
                replace ev_27 := ev_27.symm
                subst ev_27
                replace ev_24 := ev_24.symm
                subst ev_24
                replace ep_22 := ep_22.symm
                subst ep_22
                replace ev_11 := ev_11.symm
                subst ev_11
                replace ev_8 := ev_8.symm
                subst ev_8
                replace ev_7 := ev_7.symm
                subst ev_7
                replace ep_5 := ep_5.symm
                subst ep_5
                replace ev_1 := ev_1.symm
                subst ev_1
                exact g_reti S hr hlk Gz ⟨by subst ex1; subst hρ; first | (simp only [mEndsR, mEnds, mEndGR, mEndG, mEndHR, mEndH, mR2, mR1, mX2, mX1, mDo, mE0, mCt, eq_true c_2, eq_true c_4, eq_false k_6, eq_true c_9, eq_true c_12, eq_false c_13, eq_true c_21, eq_true c_23, eq_true k_25, ↓reduceIte]; done) | (simp only [mEndsR, mEnds, mEndGR, mEndG, mEndHR, mEndH, mR2, mR1, mX2, mX1, mDo, mE0, mCt, eq_true c_2, eq_true c_4, eq_false k_6, eq_true c_9, eq_true c_12, eq_false c_13, eq_true c_21, eq_true c_23, eq_true k_25, ↓reduceIte]; rfl), congrArg (wM cA a) (by subst ex1; subst hρ; first | (simp only [mEndsR, mEnds, mEndGR, mEndG, mEndHR, mEndH, mR2, mR1, mX2, mX1, mDo, mE0, mCt, eq_true c_2, eq_true c_4, eq_false k_6, eq_true c_9, eq_true c_12, eq_false c_13, eq_true c_21, eq_true c_23, eq_true k_25, ↓reduceIte]; done) | (simp only [mEndsR, mEnds, mEndGR, mEndG, mEndHR, mEndH, mR2, mR1, mX2, mX1, mDo, mE0, mCt, eq_true c_2, eq_true c_4, eq_false k_6, eq_true c_9, eq_true c_12, eq_false c_13, eq_true c_21, eq_true c_23, eq_true k_25, ↓reduceIte]; rfl))⟩ (Nat.le_refl _) (Nat.le_refl _) d_M_ends_301
              · refine lv_iconst (v := 3) hx hb d_M_ends_173 (by decide) ?_
                refine lv_goto (tgt := 178) hx hb d_M_ends_174 (by decide) ?_
                refine lv_dup2_11 hx hb d_M_ends_178 rfl rfl ?_
                refine g_ialdj S G 7 0 ((sU (sU τ 0 5 0) 7 0 (v_1 + 1)) 7) rfl rfl 3 (by decide) (by unfold vp_in; decide) d_M_ends_179 ?_
                refine lv_topi (fun v_34 ev_34 => ?_)
                refine lv_iconst (v := 1) hx hb d_M_ends_180 (by decide) ?_
                refine lv_iadd hx hb d_M_ends_181 ?_
                refine g_iastj S G 7 0 rfl rfl 3 (by decide) (by unfold vp_in; decide) (wM cA a (sU (sU (sU τ 0 5 0) 7 0 (v_1 + 1)) 7 3 (v_34 + 1))) (wm_a7 cA a _ _ _) d_M_ends_182 (fun H locs G => ?_)
                refine lv_iload_n hx hb d_M_ends_183 rfl (lv_at hl 0 rfl) ?_
                have k_35 : ¬ (rp_22 = 0) := fun q => c_23 (by rw [q]; decide)
                refine lv_if_ne (tgt := 197) hx hb d_M_ends_184 (by decide) (fun _ => ?_) (fun h9 => absurd h9 k_35)
                refine lv_aload_n hx hb d_M_ends_197 rfl (lv_at hl 2 rfl) ?_
                refine g_get (v := .ref (a 5)) S G in_M 0 rfl rfl 6 (by decide) fl_M_22 rfl d_M_ends_198 ?_
                refine lv_iconst (v := 0) hx hb d_M_ends_201 (by decide) ?_
                refine g_ialdj S G 5 0 (τ 5) rfl rfl 0 (by decide) (by unfold vp_in; decide) d_M_ends_202 ?_
                refine lv_if_ne (tgt := 208) hx hb d_M_ends_203 (by decide) (fun _ => ?_) (fun h9 => absurd h9 c_13)
                refine lv_aload_n hx hb d_M_ends_208 rfl (lv_at hl 2 rfl) ?_
                refine g_get (v := .ref (a 7)) S G in_M 0 rfl rfl 12 (by decide) fl_M_28 rfl d_M_ends_209 ?_
                refine lv_iconst (v := 5) hx hb d_M_ends_212 (by decide) ?_
                refine lv_dup2_11 hx hb d_M_ends_213 rfl rfl ?_
                refine g_ialdj S G 7 0 ((sU (sU (sU τ 0 5 0) 7 0 (v_1 + 1)) 7 3 (v_34 + 1)) 7) rfl rfl 5 (by decide) (by unfold vp_in; decide) d_M_ends_214 ?_
                refine lv_topi (fun v_36 ev_36 => ?_)
                refine lv_iconst (v := 1) hx hb d_M_ends_215 (by decide) ?_
                refine lv_iadd hx hb d_M_ends_216 ?_
                refine g_iastj S G 7 0 rfl rfl 5 (by decide) (by unfold vp_in; decide) (wM cA a (sU (sU (sU (sU τ 0 5 0) 7 0 (v_1 + 1)) 7 3 (v_34 + 1)) 7 5 (v_36 + 1))) (wm_a7 cA a _ _ _) d_M_ends_217 (fun H locs G => ?_)
                obtain ⟨ρ, hρ⟩ : ∃ q : St, q = (sU (sU (sU (sU τ 0 5 0) 7 0 (v_1 + 1)) 7 3 (v_34 + 1)) 7 5 (v_36 + 1)) := ⟨_, rfl⟩
                have G := G.cast (congrArg (wM cA a) hρ.symm)
                have hρ5 : ρ 5 = τ 5 := by rw [hρ]; rfl
                have hρz : ρ 0 5 = nI 0 := by rw [hρ]; rfl
                have G := G.cast (congrArg (wM cA a) (sP_self hρz).symm)
                refine lv_aload_n hx hb d_M_ends_218 rfl (lv_at hl 2 rfl) ?_
                refine lv_aload_n hx hb d_M_ends_219 rfl (lv_at hl 2 rfl) ?_
                refine g_get (v := .int ((ρ) 0 1)) S G in_M 0 rfl rfl 1 (by decide) fl_M_31 rfl d_M_ends_220 ?_
                refine g_cVv (rest := []) S G (c_M_add l D cA a (ρ) (ρ 6, 0) ((ρ) 0 1) (by first | omega | (simp only [rAdd]; omega))) (cwV 1 S.2.2.2.2 ml_M_81 rfl rfl rfl (by decide +kernel) ⟨Nat.le_of_ble_eq_true rfl, Nat.le_of_ble_eq_true rfl⟩) [0, 1, 2, 3, 4, 5, 6, 7] [] rfl rfl rfl rfl (by decide) 0 rfl rfl rfl hl.1 rfl (Nat.le_of_ble_eq_true rfl) d_M_ends_223 ⟨Nat.le_of_ble_eq_true rfl, Nat.le_of_ble_eq_true rfl⟩ (fun wp_37 H locs hp_37 G => ?_)
                subst hp_37
                have G : Gw D vwCl [(cA, .int)] AA ss ss.heap H locs (wM cA a (sP (ρ) (rAdd (ρ 6, 0) ((ρ) 0 1)))) := G
                refine lv_iload_n hx hb d_M_ends_226 rfl (lv_at hl 0 rfl) ?_
                refine lv_if_le (tgt := 256) hx hb d_M_ends_227 (by decide) (fun h9 => absurd h9 c_23) (fun _ => ?_)
                refine lv_aload_n hx hb d_M_ends_230 rfl (lv_at hl 2 rfl) ?_
                refine lv_aload_n hx hb d_M_ends_231 rfl (lv_at hl 2 rfl) ?_
                refine g_get (v := .ref (a 5)) S G in_M 0 rfl rfl 6 (by decide) fl_M_22 rfl d_M_ends_232 ?_
                refine lv_iconst (v := 1) hx hb d_M_ends_235 (by decide) ?_
                refine g_ialdj S G 5 0 ((ρ) 5) rfl rfl 1 (by decide) (by unfold vp_in; decide) d_M_ends_236 ?_
                refine lv_sipush (v := 128) hx hb d_M_ends_237 (by decide) ?_
                refine lv_irem hx hb d_M_ends_240 (by decide) ?_
                refine lv_topi (fun v_38 ev_38 => ?_)
                refine lv_sipush (v := 128) hx hb d_M_ends_241 (by decide) ?_
                refine lv_iadd hx hb d_M_ends_244 ?_
                refine g_cVv (rest := []) S G (c_M_add l D cA a (ρ) (rAdd (ρ 6, 0) ((ρ) 0 1)) (v_38 + 128) (by first | omega | (simp only [rAdd]; omega))) (cwV 1 S.2.2.2.2 ml_M_81 rfl rfl rfl (by decide +kernel) ⟨Nat.le_of_ble_eq_true rfl, Nat.le_of_ble_eq_true rfl⟩) [0, 1, 2, 3, 4, 5, 6, 7] [] rfl rfl rfl rfl (by decide) 0 rfl rfl rfl hl.1 rfl (Nat.le_of_ble_eq_true rfl) d_M_ends_245 ⟨Nat.le_of_ble_eq_true rfl, Nat.le_of_ble_eq_true rfl⟩ (fun wp_39 H locs hp_39 G => ?_)
                subst hp_39
                have G : Gw D vwCl [(cA, .int)] AA ss ss.heap H locs (wM cA a (sP (ρ) (rAdd (rAdd (ρ 6, 0) ((ρ) 0 1)) (v_38 + 128)))) := G
                refine lv_aload_n hx hb d_M_ends_248 rfl (lv_at hl 2 rfl) ?_
                refine lv_iload_n hx hb d_M_ends_249 rfl (lv_at hl 0 rfl) ?_
                refine g_cVv (rest := []) S G (c_M_add l D cA a (ρ) (rAdd (rAdd (ρ 6, 0) ((ρ) 0 1)) (v_38 + 128)) rp_22 (by first | omega | (simp only [rAdd]; omega))) (cwV 1 S.2.2.2.2 ml_M_81 rfl rfl rfl (by decide +kernel) ⟨Nat.le_of_ble_eq_true rfl, Nat.le_of_ble_eq_true rfl⟩) [0, 1, 2, 3, 4, 5, 6, 7] [] rfl rfl rfl rfl (by decide) 0 rfl rfl rfl hl.1 rfl (Nat.le_of_ble_eq_true rfl) d_M_ends_250 ⟨Nat.le_of_ble_eq_true rfl, Nat.le_of_ble_eq_true rfl⟩ (fun wp_40 H locs hp_40 G => ?_)
                subst hp_40
                have G : Gw D vwCl [(cA, .int)] AA ss ss.heap H locs (wM cA a (sP (ρ) (rAdd (rAdd (rAdd (ρ 6, 0) ((ρ) 0 1)) (v_38 + 128)) rp_22))) := G
                refine lv_goto (tgt := 266) hx hb d_M_ends_253 (by decide) ?_
                obtain ⟨x1, ex1⟩ : ∃ q : Rp, q = (rAdd (rAdd (rAdd (ρ 6, 0) ((ρ) 0 1)) (v_38 + 128)) rp_22) := ⟨_, rfl⟩
                have G := G.cast (congrArg (fun q => wM cA a (sP ρ q)) ex1.symm)
                have hx1 : x1.2 ≤ 200 := by rw [ex1]; simp only [rAdd]; omega
                refine lv_aload_n hx hb d_M_ends_266 rfl (lv_at hl 2 rfl) ?_
                refine lv_aload_n hx hb d_M_ends_267 rfl (lv_at hl 2 rfl) ?_
                refine g_get (v := .ref (a 6)) S G in_M 0 rfl rfl 10 (by decide) fl_M_25 rfl d_M_ends_268 ?_
                refine lv_aload_n hx hb d_M_ends_271 rfl (lv_at hl 2 rfl) ?_
                refine g_get (v := .int (nI x1.2)) S G in_M 0 rfl rfl 11 (by decide) fl_M_67 rfl d_M_ends_272 ?_
                refine g_cVi (rest := []) S G (c_M_sumOf6 l D cA a (sP (ρ) x1) (nI x1.2) (by rw [nI_clamp (by omega)]; omega)) (cwV 2 S.2.2.2.2 ml_M_70 rfl rfl rfl (by decide +kernel) ⟨Nat.le_of_ble_eq_true rfl, Nat.le_of_ble_eq_true rfl⟩) [0, 1, 2, 3, 4, 5, 6, 7] [] rfl rfl rfl rfl (by decide) 0 rfl rfl rfl hl.1 rfl (Nat.le_of_ble_eq_true rfl) d_M_ends_275 ⟨Nat.le_of_ble_eq_true rfl, Nat.le_of_ble_eq_true rfl⟩ (fun rp_41 wp_41 H locs hp_41 G => ?_)
                obtain ⟨ep_41, rfl⟩ := hp_41
                have ep_41 : rp_41 = mSum x1.1 (nI x1.2) := ep_41
                have G : Gw D vwCl [(cA, .int)] AA ss ss.heap H locs (wM cA a (sP (ρ) x1)) := G
                refine lv_istore_n (lv' := [(3, .int rp_41), (2, .int rp_22), (1, .int rp_5), (0, .ref (a 0))]) hx hb d_M_ends_278 rfl hl (by decide) rfl (fun ls hl => ?_)
                refine lv_aload_n hx hb d_M_ends_279 rfl (lv_at hl 3 rfl) ?_
                refine lv_iload_n hx hb d_M_ends_280 rfl (lv_at hl 0 rfl) ?_
                refine lv_sipush (v := 256) hx hb d_M_ends_281 (by decide) ?_
                refine lv_irem hx hb d_M_ends_284 (by decide) ?_
                refine lv_topi (fun v_42 ev_42 => ?_)
                refine g_cVv (rest := []) S G (c_M_add l D cA a (ρ) x1 v_42 (by first | omega | (simp only [rAdd]; omega))) (cwV 1 S.2.2.2.2 ml_M_81 rfl rfl rfl (by decide +kernel) ⟨Nat.le_of_ble_eq_true rfl, Nat.le_of_ble_eq_true rfl⟩) [0, 1, 2, 3, 4, 5, 6, 7] [] rfl rfl rfl rfl (by decide) 0 rfl rfl rfl hl.1 rfl (Nat.le_of_ble_eq_true rfl) d_M_ends_285 ⟨Nat.le_of_ble_eq_true rfl, Nat.le_of_ble_eq_true rfl⟩ (fun wp_43 H locs hp_43 G => ?_)
                subst hp_43
                have G : Gw D vwCl [(cA, .int)] AA ss ss.heap H locs (wM cA a (sP (ρ) (rAdd x1 v_42))) := G
                refine lv_aload_n hx hb d_M_ends_288 rfl (lv_at hl 3 rfl) ?_
                refine lv_iload_n hx hb d_M_ends_289 rfl (lv_at hl 0 rfl) ?_
                refine lv_sipush (v := 256) hx hb d_M_ends_290 (by decide) ?_
                refine lv_idiv hx hb d_M_ends_293 (by decide) ?_
                refine g_cVv (rest := []) S G (c_M_add l D cA a (ρ) (rAdd x1 v_42) (rp_41 / 256) (by first | omega | (simp only [rAdd]; omega))) (cwV 1 S.2.2.2.2 ml_M_81 rfl rfl rfl (by decide +kernel) ⟨Nat.le_of_ble_eq_true rfl, Nat.le_of_ble_eq_true rfl⟩) [0, 1, 2, 3, 4, 5, 6, 7] [] rfl rfl rfl rfl (by decide) 0 rfl rfl rfl hl.1 rfl (Nat.le_of_ble_eq_true rfl) d_M_ends_294 ⟨Nat.le_of_ble_eq_true rfl, Nat.le_of_ble_eq_true rfl⟩ (fun wp_44 H locs hp_44 G => ?_)
                subst hp_44
                have G : Gw D vwCl [(cA, .int)] AA ss ss.heap H locs (wM cA a (sP (ρ) (rAdd (rAdd x1 v_42) (rp_41 / 256)))) := G
                refine lv_aload_n hx hb d_M_ends_297 rfl (lv_at hl 3 rfl) ?_
                refine g_get (v := .int (nI (rAdd (rAdd x1 v_42) (rp_41 / 256)).2)) S G in_M 0 rfl rfl 11 (by decide) fl_M_67 rfl d_M_ends_298 ?_
                have Gz := G
                replace ev_42 := ev_42.symm
                subst ev_42
                replace ep_41 := ep_41.symm
                subst ep_41
                replace ev_38 := ev_38.symm
                subst ev_38
                replace ev_36 := ev_36.symm
                subst ev_36
                replace ev_34 := ev_34.symm
                subst ev_34
                replace ep_22 := ep_22.symm
                subst ep_22
                replace ev_11 := ev_11.symm
                subst ev_11
                replace ev_8 := ev_8.symm
                subst ev_8
                replace ev_7 := ev_7.symm
                subst ev_7
                replace ep_5 := ep_5.symm
                subst ep_5
                replace ev_1 := ev_1.symm
                subst ev_1
                exact g_reti S hr hlk Gz ⟨by subst ex1; subst hρ; first | (simp only [mEndsR, mEnds, mEndGR, mEndG, mEndHR, mEndH, mR2, mR1, mX2, mX1, mDo, mE0, mCt, eq_true c_2, eq_true c_4, eq_false k_6, eq_true c_9, eq_true c_12, eq_false c_13, eq_true c_21, eq_false c_23, eq_false k_35, ↓reduceIte]; done) | (simp only [mEndsR, mEnds, mEndGR, mEndG, mEndHR, mEndH, mR2, mR1, mX2, mX1, mDo, mE0, mCt, eq_true c_2, eq_true c_4, eq_false k_6, eq_true c_9, eq_true c_12, eq_false c_13, eq_true c_21, eq_false c_23, eq_false k_35, ↓reduceIte]; rfl), congrArg (wM cA a) (by subst ex1; subst hρ; first | (simp only [mEndsR, mEnds, mEndGR, mEndG, mEndHR, mEndH, mR2, mR1, mX2, mX1, mDo, mE0, mCt, eq_true c_2, eq_true c_4, eq_false k_6, eq_true c_9, eq_true c_12, eq_false c_13, eq_true c_21, eq_false c_23, eq_false k_35, ↓reduceIte]; done) | (simp only [mEndsR, mEnds, mEndGR, mEndG, mEndHR, mEndH, mR2, mR1, mX2, mX1, mDo, mE0, mCt, eq_true c_2, eq_true c_4, eq_false k_6, eq_true c_9, eq_true c_12, eq_false c_13, eq_true c_21, eq_false c_23, eq_false k_35, ↓reduceIte]; rfl))⟩ (Nat.le_refl _) (Nat.le_refl _) d_M_ends_301
            · refine lv_aload_n hx hb d_M_ends_136 rfl (lv_at hl 1 rfl) ?_
              refine g_get (v := .ref (a 7)) S G in_M 0 rfl rfl 12 (by decide) fl_M_28 rfl d_M_ends_137 ?_
              refine lv_iconst (v := 2) hx hb d_M_ends_140 (by decide) ?_
              refine lv_dup2_11 hx hb d_M_ends_141 rfl rfl ?_
              refine g_ialdj S G 7 0 ((sU (sU τ 0 5 0) 7 0 (v_1 + 1)) 7) rfl rfl 2 (by decide) (by unfold vp_in; decide) d_M_ends_142 ?_
              refine lv_topi (fun v_45 ev_45 => ?_)
              refine lv_iconst (v := 1) hx hb d_M_ends_143 (by decide) ?_
              refine lv_iadd hx hb d_M_ends_144 ?_
              refine g_iastj S G 7 0 rfl rfl 2 (by decide) (by unfold vp_in; decide) (wM cA a (sU (sU (sU τ 0 5 0) 7 0 (v_1 + 1)) 7 2 (v_45 + 1))) (wm_a7 cA a _ _ _) d_M_ends_145 (fun H locs G => ?_)
              refine lv_iconst (v := 0) hx hb d_M_ends_146 (by decide) ?_
              have Gz := G
              replace ev_45 := ev_45.symm
              subst ev_45
              replace ev_11 := ev_11.symm
              subst ev_11
              replace ev_8 := ev_8.symm
              subst ev_8
              replace ev_7 := ev_7.symm
              subst ev_7
              replace ep_5 := ep_5.symm
              subst ep_5
              replace ev_1 := ev_1.symm
              subst ev_1
              exact g_reti S hr hlk Gz ⟨by first | (simp only [mEndsR, mEnds, mEndGR, mEndG, mEndHR, mEndH, mR2, mR1, mX2, mX1, mDo, mE0, mCt, eq_true c_2, eq_true c_4, eq_false k_6, eq_true c_9, eq_true c_12, eq_false c_13, eq_false c_21, ↓reduceIte]; done) | (simp only [mEndsR, mEnds, mEndGR, mEndG, mEndHR, mEndH, mR2, mR1, mX2, mX1, mDo, mE0, mCt, eq_true c_2, eq_true c_4, eq_false k_6, eq_true c_9, eq_true c_12, eq_false c_13, eq_false c_21, ↓reduceIte]; rfl), congrArg (wM cA a) (by first | (simp only [mEndsR, mEnds, mEndGR, mEndG, mEndHR, mEndH, mR2, mR1, mX2, mX1, mDo, mE0, mCt, eq_true c_2, eq_true c_4, eq_false k_6, eq_true c_9, eq_true c_12, eq_false c_13, eq_false c_21, ↓reduceIte]; done) | (simp only [mEndsR, mEnds, mEndGR, mEndG, mEndHR, mEndH, mR2, mR1, mX2, mX1, mDo, mE0, mCt, eq_true c_2, eq_true c_4, eq_false k_6, eq_true c_9, eq_true c_12, eq_false c_13, eq_false c_21, ↓reduceIte]; rfl))⟩ (Nat.le_refl _) (Nat.le_refl _) d_M_ends_147
        · refine lv_aload_n hx hb d_M_ends_102 rfl (lv_at hl 1 rfl) ?_
          refine g_get (v := .ref (a 7)) S G in_M 0 rfl rfl 12 (by decide) fl_M_28 rfl d_M_ends_103 ?_
          refine lv_iconst (v := 1) hx hb d_M_ends_106 (by decide) ?_
          refine lv_dup2_11 hx hb d_M_ends_107 rfl rfl ?_
          refine g_ialdj S G 7 0 ((sU (sU τ 0 5 0) 7 0 (v_1 + 1)) 7) rfl rfl 1 (by decide) (by unfold vp_in; decide) d_M_ends_108 ?_
          refine lv_topi (fun v_46 ev_46 => ?_)
          refine lv_iconst (v := 1) hx hb d_M_ends_109 (by decide) ?_
          refine lv_iadd hx hb d_M_ends_110 ?_
          refine g_iastj S G 7 0 rfl rfl 1 (by decide) (by unfold vp_in; decide) (wM cA a (sU (sU (sU τ 0 5 0) 7 0 (v_1 + 1)) 7 1 (v_46 + 1))) (wm_a7 cA a _ _ _) d_M_ends_111 (fun H locs G => ?_)
          refine lv_iconst (v := 0) hx hb d_M_ends_112 (by decide) ?_
          have Gz := G
          replace ev_46 := ev_46.symm
          subst ev_46
          replace ev_11 := ev_11.symm
          subst ev_11
          replace ev_8 := ev_8.symm
          subst ev_8
          replace ev_7 := ev_7.symm
          subst ev_7
          replace ep_5 := ep_5.symm
          subst ep_5
          replace ev_1 := ev_1.symm
          subst ev_1
          exact g_reti S hr hlk Gz ⟨by first | (simp only [mEndsR, mEnds, mEndGR, mEndG, mEndHR, mEndH, mR2, mR1, mX2, mX1, mDo, mE0, mCt, eq_true c_2, eq_true c_4, eq_false k_6, eq_true c_9, eq_false c_12, ↓reduceIte]; done) | (simp only [mEndsR, mEnds, mEndGR, mEndG, mEndHR, mEndH, mR2, mR1, mX2, mX1, mDo, mE0, mCt, eq_true c_2, eq_true c_4, eq_false k_6, eq_true c_9, eq_false c_12, ↓reduceIte]; rfl), congrArg (wM cA a) (by first | (simp only [mEndsR, mEnds, mEndGR, mEndG, mEndHR, mEndH, mR2, mR1, mX2, mX1, mDo, mE0, mCt, eq_true c_2, eq_true c_4, eq_false k_6, eq_true c_9, eq_false c_12, ↓reduceIte]; done) | (simp only [mEndsR, mEnds, mEndGR, mEndG, mEndHR, mEndH, mR2, mR1, mX2, mX1, mDo, mE0, mCt, eq_true c_2, eq_true c_4, eq_false k_6, eq_true c_9, eq_false c_12, ↓reduceIte]; rfl))⟩ (Nat.le_refl _) (Nat.le_refl _) d_M_ends_113
    · refine lv_iconst (v := 0) hx hb d_M_ends_30 (by decide) ?_
      refine lv_goto (tgt := 48) hx hb d_M_ends_31 (by decide) ?_
      refine lv_istore_n (lv' := [(1, .int 0), (0, .ref (a 0))]) hx hb d_M_ends_48 rfl hl (by decide) rfl (fun ls hl => ?_)
      refine lv_aload_n hx hb d_M_ends_49 rfl (lv_at hl 1 rfl) ?_
      refine g_get (v := .int (τ 0 4)) S G in_M 0 rfl rfl 9 (by decide) fl_M_38 rfl d_M_ends_50 ?_
      refine lv_if_ne (tgt := 102) hx hb d_M_ends_53 (by decide) (fun h9 => absurd c_2 h9) (fun _ => ?_)
      refine lv_aload_n hx hb d_M_ends_56 rfl (lv_at hl 1 rfl) ?_
      refine g_get (v := .int (nI N)) S G in_M 0 rfl rfl 7 (by decide) fl_M_42 (by rw [← hm]; rfl) d_M_ends_57 ?_
      refine lv_iconst (v := 4) hx hb d_M_ends_60 (by decide) ?_
      have k_47 : (nI N) < 4 := Int32.not_le.mp c_4
      refine lv_icmp_lt (tgt := 102) hx hb d_M_ends_61 (by decide) (fun _ => ?_) (fun h9 => absurd k_47 h9)
      refine lv_aload_n hx hb d_M_ends_102 rfl (lv_at hl 1 rfl) ?_
      refine g_get (v := .ref (a 7)) S G in_M 0 rfl rfl 12 (by decide) fl_M_28 rfl d_M_ends_103 ?_
      refine lv_iconst (v := 1) hx hb d_M_ends_106 (by decide) ?_
      refine lv_dup2_11 hx hb d_M_ends_107 rfl rfl ?_
      refine g_ialdj S G 7 0 ((sU (sU τ 0 5 0) 7 0 (v_1 + 1)) 7) rfl rfl 1 (by decide) (by unfold vp_in; decide) d_M_ends_108 ?_
      refine lv_topi (fun v_48 ev_48 => ?_)
      refine lv_iconst (v := 1) hx hb d_M_ends_109 (by decide) ?_
      refine lv_iadd hx hb d_M_ends_110 ?_
      refine g_iastj S G 7 0 rfl rfl 1 (by decide) (by unfold vp_in; decide) (wM cA a (sU (sU (sU τ 0 5 0) 7 0 (v_1 + 1)) 7 1 (v_48 + 1))) (wm_a7 cA a _ _ _) d_M_ends_111 (fun H locs G => ?_)
      refine lv_iconst (v := 0) hx hb d_M_ends_112 (by decide) ?_
      have Gz := G
      replace ev_48 := ev_48.symm
      subst ev_48
      replace ev_1 := ev_1.symm
      subst ev_1
      exact g_reti S hr hlk Gz ⟨by first | (simp only [mEndsR, mEnds, mEndGR, mEndG, mEndHR, mEndH, mR2, mR1, mX2, mX1, mDo, mE0, mCt, eq_true c_2, eq_false c_4, eq_true k_47, ↓reduceIte]; done) | (simp only [mEndsR, mEnds, mEndGR, mEndG, mEndHR, mEndH, mR2, mR1, mX2, mX1, mDo, mE0, mCt, eq_true c_2, eq_false c_4, eq_true k_47, ↓reduceIte]; rfl), congrArg (wM cA a) (by first | (simp only [mEndsR, mEnds, mEndGR, mEndG, mEndHR, mEndH, mR2, mR1, mX2, mX1, mDo, mE0, mCt, eq_true c_2, eq_false c_4, eq_true k_47, ↓reduceIte]; done) | (simp only [mEndsR, mEnds, mEndGR, mEndG, mEndHR, mEndH, mR2, mR1, mX2, mX1, mDo, mE0, mCt, eq_true c_2, eq_false c_4, eq_true k_47, ↓reduceIte]; rfl))⟩ (Nat.le_refl _) (Nat.le_refl _) d_M_ends_113
