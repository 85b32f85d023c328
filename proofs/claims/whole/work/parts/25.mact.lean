abbrev rm_M_act : Room := { frames := 2, cells := 0, slots := 0, locals := 42 }
set_option maxHeartbeats 1000000 in
set_option maxRecDepth 100000 in
theorem c_M_act5 (l : Launch) (D : va_G) (cA : ClassId) (a : Nat → Nat) (τ : St) (a1 n1 : Nat) (ha : mTwo (τ 5) 0 = nI a1) (hn : mTwo (τ 5) 2 = nI n1) (hb : a1 < 256) : Cv l y_M_act w_M_act rm_M_act D vwCl [(cA, .int)] [.ref (a 0), .int 5] (wM cA a τ) 0 0 (fun w0 => w0 = wM cA a (sS τ 1 (upd (τ 1) a1 (if nI n1 ≤ 0 then 0 else 1)))) := by
  refine Cv.of (Ts := lw_g) (own := "WireSlaveModel") (cc := b_M_act) (maxL := 5) (ret := none) (lv := [(0, .ref (a 0)), (1, .int 5)]) (by decide) rfl rfl (fun w h => List.mem_cons_of_mem _ h) (Nat.le_of_ble_eq_true rfl) rfl ?_
  intro pp ee ss mm args below meth cx AA S hr hlk hnm G ls hl
  have hx := S.1
  have hb := S.2.1
  refine lv_aload_n hx hb d_M_act_0 rfl (lv_at hl 0 rfl) ?_
  refine lv_iconst (v := 0) hx hb d_M_act_1 (by decide) ?_
  refine g_cVi (rest := []) S G (c_M_two l D cA a τ 0 (by unfold vp_in; decide) (by unfold vp_in; decide)) (cwV 1 S.2.2.2.2 ml_M_87 rfl rfl rfl (by decide +kernel) ⟨Nat.le_of_ble_eq_true rfl, Nat.le_of_ble_eq_true rfl⟩) [0, 1, 2, 3, 4, 5, 6, 7] [] rfl rfl rfl rfl (by decide) 0 rfl rfl rfl hl.1 rfl (Nat.le_of_ble_eq_true rfl) d_M_act_2 ⟨Nat.le_of_ble_eq_true rfl, Nat.le_of_ble_eq_true rfl⟩ (fun rp_1 wp_1 H locs hp_1 G => ?_)
  obtain ⟨ep_1, rfl⟩ := hp_1
  have ep_1 : rp_1 = mTwo (τ 5) 0 := ep_1
  replace ep_1 := ep_1.trans ha
  replace ep_1 := ep_1.symm
  subst ep_1
  have G : Gw D vwCl [(cA, .int)] AA ss ss.heap H locs (wM cA a τ) := G
  refine lv_istore_n (lv' := [(2, .int (nI a1)), (0, .ref (a 0)), (1, .int 5)]) hx hb d_M_act_5 rfl hl (by decide) rfl (fun ls hl => ?_)
  refine lv_aload_n hx hb d_M_act_6 rfl (lv_at hl 1 rfl) ?_
  refine lv_iconst (v := 2) hx hb d_M_act_7 (by decide) ?_
  refine g_cVi (rest := []) S G (c_M_two l D cA a τ 2 (by unfold vp_in; decide) (by unfold vp_in; decide)) (cwV 1 S.2.2.2.2 ml_M_87 rfl rfl rfl (by decide +kernel) ⟨Nat.le_of_ble_eq_true rfl, Nat.le_of_ble_eq_true rfl⟩) [0, 1, 2, 3, 4, 5, 6, 7] [] rfl rfl rfl rfl (by decide) 0 rfl rfl rfl hl.1 rfl (Nat.le_of_ble_eq_true rfl) d_M_act_8 ⟨Nat.le_of_ble_eq_true rfl, Nat.le_of_ble_eq_true rfl⟩ (fun rp_2 wp_2 H locs hp_2 G => ?_)
  obtain ⟨ep_2, rfl⟩ := hp_2
  have ep_2 : rp_2 = mTwo (τ 5) 2 := ep_2
  replace ep_2 := ep_2.trans hn
  replace ep_2 := ep_2.symm
  subst ep_2
  have G : Gw D vwCl [(cA, .int)] AA ss ss.heap H locs (wM cA a τ) := G
  refine lv_istore_n (lv' := [(3, .int (nI n1)), (2, .int (nI a1)), (0, .ref (a 0)), (1, .int 5)]) hx hb d_M_act_11 rfl hl (by decide) rfl (fun ls hl => ?_)
  refine lv_iload_n hx hb d_M_act_12 rfl (lv_at hl 3 rfl) ?_
  refine lv_iconst (v := 5) hx hb d_M_act_13 (by decide) ?_
  have k_3 : (5 : Int32) = 5 := by decide
  refine lv_icmp_ne (tgt := 35) hx hb d_M_act_14 (by decide) (fun h9 => absurd k_3 h9) (fun _ => ?_)
  refine lv_aload_n hx hb d_M_act_17 rfl (lv_at hl 2 rfl) ?_
  refine g_get (v := .ref (a 1)) S G in_M 0 rfl rfl 2 (by decide) fl_M_7 rfl d_M_act_18 ?_
  refine lv_iload_n hx hb d_M_act_21 rfl (lv_at hl 1 rfl) ?_
  refine lv_iload_n hx hb d_M_act_22 rfl (lv_at hl 0 rfl) ?_
  refine lv_if_le (tgt := 30) hx hb d_M_act_23 (by decide) (fun c_4 => ?_) (fun c_4 => ?_)
  · refine lv_iconst (v := 0) hx hb d_M_act_30 (by decide) ?_
    refine g_iastj S G 1 0 rfl rfl a1 (nI_clamp (by omega)) (vp_in_nI (by omega) (by decide)) (wM cA a (sU τ 1 a1 0)) (wm_a1 cA a _ _ _) d_M_act_31 (fun H locs G => ?_)
    refine lv_goto (tgt := 143) hx hb d_M_act_32 (by decide) ?_
    exact g_retv S hr hlk G (congrArg (wM cA a) (by first | (simp only [eq_true k_3, eq_true c_4, i10, ↓reduceIte]; done) | (simp only [eq_true k_3, eq_true c_4, i10, ↓reduceIte]; rfl) | rfl)) (Nat.le_refl _) (Nat.le_refl _) d_M_act_143
  · refine lv_iconst (v := 1) hx hb d_M_act_26 (by decide) ?_
    refine lv_goto (tgt := 31) hx hb d_M_act_27 (by decide) ?_
    refine g_iastj S G 1 0 rfl rfl a1 (nI_clamp (by omega)) (vp_in_nI (by omega) (by decide)) (wM cA a (sU τ 1 a1 1)) (wm_a1 cA a _ _ _) d_M_act_31 (fun H locs G => ?_)
    refine lv_goto (tgt := 143) hx hb d_M_act_32 (by decide) ?_
    exact g_retv S hr hlk G (congrArg (wM cA a) (by first | (simp only [eq_true k_3, eq_false c_4, i10, ↓reduceIte]; done) | (simp only [eq_true k_3, eq_false c_4, i10, ↓reduceIte]; rfl) | rfl)) (Nat.le_refl _) (Nat.le_refl _) d_M_act_143

set_option maxHeartbeats 1000000 in
set_option maxRecDepth 100000 in
theorem c_M_act6 (l : Launch) (D : va_G) (cA : ClassId) (a : Nat → Nat) (τ : St) (a1 n1 : Nat) (ha : mTwo (τ 5) 0 = nI a1) (hn : mTwo (τ 5) 2 = nI n1) (hb : a1 < 64) : Cv l y_M_act w_M_act rm_M_act D vwCl [(cA, .int)] [.ref (a 0), .int 6] (wM cA a τ) 0 0 (fun w0 => w0 = wM cA a (sS τ 3 (upd (τ 3) a1 (nI n1)))) := by
  refine Cv.of (Ts := lw_g) (own := "WireSlaveModel") (cc := b_M_act) (maxL := 5) (ret := none) (lv := [(0, .ref (a 0)), (1, .int 6)]) (by decide) rfl rfl (fun w h => List.mem_cons_of_mem _ h) (Nat.le_of_ble_eq_true rfl) rfl ?_
  intro pp ee ss mm args below meth cx AA S hr hlk hnm G ls hl
  have hx := S.1
  have hb := S.2.1
  refine lv_aload_n hx hb d_M_act_0 rfl (lv_at hl 0 rfl) ?_
  refine lv_iconst (v := 0) hx hb d_M_act_1 (by decide) ?_
  refine g_cVi (rest := []) S G (c_M_two l D cA a τ 0 (by unfold vp_in; decide) (by unfold vp_in; decide)) (cwV 1 S.2.2.2.2 ml_M_87 rfl rfl rfl (by decide +kernel) ⟨Nat.le_of_ble_eq_true rfl, Nat.le_of_ble_eq_true rfl⟩) [0, 1, 2, 3, 4, 5, 6, 7] [] rfl rfl rfl rfl (by decide) 0 rfl rfl rfl hl.1 rfl (Nat.le_of_ble_eq_true rfl) d_M_act_2 ⟨Nat.le_of_ble_eq_true rfl, Nat.le_of_ble_eq_true rfl⟩ (fun rp_1 wp_1 H locs hp_1 G => ?_)
  obtain ⟨ep_1, rfl⟩ := hp_1
  have ep_1 : rp_1 = mTwo (τ 5) 0 := ep_1
  replace ep_1 := ep_1.trans ha
  replace ep_1 := ep_1.symm
  subst ep_1
  have G : Gw D vwCl [(cA, .int)] AA ss ss.heap H locs (wM cA a τ) := G
  refine lv_istore_n (lv' := [(2, .int (nI a1)), (0, .ref (a 0)), (1, .int 6)]) hx hb d_M_act_5 rfl hl (by decide) rfl (fun ls hl => ?_)
  refine lv_aload_n hx hb d_M_act_6 rfl (lv_at hl 1 rfl) ?_
  refine lv_iconst (v := 2) hx hb d_M_act_7 (by decide) ?_
  refine g_cVi (rest := []) S G (c_M_two l D cA a τ 2 (by unfold vp_in; decide) (by unfold vp_in; decide)) (cwV 1 S.2.2.2.2 ml_M_87 rfl rfl rfl (by decide +kernel) ⟨Nat.le_of_ble_eq_true rfl, Nat.le_of_ble_eq_true rfl⟩) [0, 1, 2, 3, 4, 5, 6, 7] [] rfl rfl rfl rfl (by decide) 0 rfl rfl rfl hl.1 rfl (Nat.le_of_ble_eq_true rfl) d_M_act_8 ⟨Nat.le_of_ble_eq_true rfl, Nat.le_of_ble_eq_true rfl⟩ (fun rp_2 wp_2 H locs hp_2 G => ?_)
  obtain ⟨ep_2, rfl⟩ := hp_2
  have ep_2 : rp_2 = mTwo (τ 5) 2 := ep_2
  replace ep_2 := ep_2.trans hn
  replace ep_2 := ep_2.symm
  subst ep_2
  have G : Gw D vwCl [(cA, .int)] AA ss ss.heap H locs (wM cA a τ) := G
  refine lv_istore_n (lv' := [(3, .int (nI n1)), (2, .int (nI a1)), (0, .ref (a 0)), (1, .int 6)]) hx hb d_M_act_11 rfl hl (by decide) rfl (fun ls hl => ?_)
  refine lv_iload_n hx hb d_M_act_12 rfl (lv_at hl 3 rfl) ?_
  refine lv_iconst (v := 5) hx hb d_M_act_13 (by decide) ?_
  have k_3 : ¬ ((6 : Int32) = 5) := by decide
  refine lv_icmp_ne (tgt := 35) hx hb d_M_act_14 (by decide) (fun _ => ?_) (fun h9 => absurd h9 k_3)
  refine lv_iload_n hx hb d_M_act_35 rfl (lv_at hl 3 rfl) ?_
  refine lv_bipush (v := 6) hx hb d_M_act_36 (by decide) ?_
  have k_4 : (6 : Int32) = 6 := by decide
  refine lv_icmp_ne (tgt := 51) hx hb d_M_act_38 (by decide) (fun h9 => absurd k_4 h9) (fun _ => ?_)
  refine lv_aload_n hx hb d_M_act_41 rfl (lv_at hl 2 rfl) ?_
  refine g_get (v := .ref (a 3)) S G in_M 0 rfl rfl 4 (by decide) fl_M_16 rfl d_M_act_42 ?_
  refine lv_iload_n hx hb d_M_act_45 rfl (lv_at hl 1 rfl) ?_
  refine lv_iload_n hx hb d_M_act_46 rfl (lv_at hl 0 rfl) ?_
  refine g_iastj S G 3 0 rfl rfl a1 (nI_clamp (by omega)) (vp_in_nI (by omega) (by decide)) (wM cA a (sU τ 3 a1 (nI n1))) (wm_a3 cA a _ _ _) d_M_act_47 (fun H locs G => ?_)
  refine lv_goto (tgt := 143) hx hb d_M_act_48 (by decide) ?_
  exact g_retv S hr hlk G (congrArg (wM cA a) (by first | (simp only [eq_false k_3, eq_true k_4, i10, ↓reduceIte]; done) | (simp only [eq_false k_3, eq_true k_4, i10, ↓reduceIte]; rfl) | rfl)) (Nat.le_refl _) (Nat.le_refl _) d_M_act_143

set_option maxHeartbeats 1000000 in
set_option maxRecDepth 100000 in
theorem c_M_act15 (l : Launch) (D : va_G) (cA : ClassId) (a : Nat → Nat) (τ : St) (a1 n1 : Nat) (ha : mTwo (τ 5) 0 = nI a1) (hn : mTwo (τ 5) 2 = nI n1) (hb : a1 + n1 ≤ 256) : Cv l y_M_act w_M_act rm_M_act D vwCl [(cA, .int)] [.ref (a 0), .int 15] (wM cA a τ) 0 0 (fun w0 => w0 = wM cA a (sS τ 1 (mWC (τ 5) a1 n1 0 (τ 1)))) := by
  refine Cv.of (Ts := lw_g) (own := "WireSlaveModel") (cc := b_M_act) (maxL := 5) (ret := none) (lv := [(0, .ref (a 0)), (1, .int 15)]) (by decide) rfl rfl (fun w h => List.mem_cons_of_mem _ h) (Nat.le_of_ble_eq_true rfl) rfl ?_
  intro pp ee ss mm args below meth cx AA S hr hlk hnm G ls hl
  have hx := S.1
  have hb := S.2.1
  refine lv_aload_n hx hb d_M_act_0 rfl (lv_at hl 0 rfl) ?_
  refine lv_iconst (v := 0) hx hb d_M_act_1 (by decide) ?_
  refine g_cVi (rest := []) S G (c_M_two l D cA a τ 0 (by unfold vp_in; decide) (by unfold vp_in; decide)) (cwV 1 S.2.2.2.2 ml_M_87 rfl rfl rfl (by decide +kernel) ⟨Nat.le_of_ble_eq_true rfl, Nat.le_of_ble_eq_true rfl⟩) [0, 1, 2, 3, 4, 5, 6, 7] [] rfl rfl rfl rfl (by decide) 0 rfl rfl rfl hl.1 rfl (Nat.le_of_ble_eq_true rfl) d_M_act_2 ⟨Nat.le_of_ble_eq_true rfl, Nat.le_of_ble_eq_true rfl⟩ (fun rp_1 wp_1 H locs hp_1 G => ?_)
  obtain ⟨ep_1, rfl⟩ := hp_1
  have ep_1 : rp_1 = mTwo (τ 5) 0 := ep_1
  replace ep_1 := ep_1.trans ha
  replace ep_1 := ep_1.symm
  subst ep_1
  have G : Gw D vwCl [(cA, .int)] AA ss ss.heap H locs (wM cA a τ) := G
  refine lv_istore_n (lv' := [(2, .int (nI a1)), (0, .ref (a 0)), (1, .int 15)]) hx hb d_M_act_5 rfl hl (by decide) rfl (fun ls hl => ?_)
  refine lv_aload_n hx hb d_M_act_6 rfl (lv_at hl 1 rfl) ?_
  refine lv_iconst (v := 2) hx hb d_M_act_7 (by decide) ?_
  refine g_cVi (rest := []) S G (c_M_two l D cA a τ 2 (by unfold vp_in; decide) (by unfold vp_in; decide)) (cwV 1 S.2.2.2.2 ml_M_87 rfl rfl rfl (by decide +kernel) ⟨Nat.le_of_ble_eq_true rfl, Nat.le_of_ble_eq_true rfl⟩) [0, 1, 2, 3, 4, 5, 6, 7] [] rfl rfl rfl rfl (by decide) 0 rfl rfl rfl hl.1 rfl (Nat.le_of_ble_eq_true rfl) d_M_act_8 ⟨Nat.le_of_ble_eq_true rfl, Nat.le_of_ble_eq_true rfl⟩ (fun rp_2 wp_2 H locs hp_2 G => ?_)
  obtain ⟨ep_2, rfl⟩ := hp_2
  have ep_2 : rp_2 = mTwo (τ 5) 2 := ep_2
  replace ep_2 := ep_2.trans hn
  replace ep_2 := ep_2.symm
  subst ep_2
  have G : Gw D vwCl [(cA, .int)] AA ss ss.heap H locs (wM cA a τ) := G
  refine lv_istore_n (lv' := [(3, .int (nI n1)), (2, .int (nI a1)), (0, .ref (a 0)), (1, .int 15)]) hx hb d_M_act_11 rfl hl (by decide) rfl (fun ls hl => ?_)
  refine lv_iload_n hx hb d_M_act_12 rfl (lv_at hl 3 rfl) ?_
  refine lv_iconst (v := 5) hx hb d_M_act_13 (by decide) ?_
  have k_3 : ¬ ((15 : Int32) = 5) := by decide
  refine lv_icmp_ne (tgt := 35) hx hb d_M_act_14 (by decide) (fun _ => ?_) (fun h9 => absurd h9 k_3)
  refine lv_iload_n hx hb d_M_act_35 rfl (lv_at hl 3 rfl) ?_
  refine lv_bipush (v := 6) hx hb d_M_act_36 (by decide) ?_
  have k_4 : ¬ ((15 : Int32) = 6) := by decide
  refine lv_icmp_ne (tgt := 51) hx hb d_M_act_38 (by decide) (fun _ => ?_) (fun h9 => absurd h9 k_4)
  refine lv_iload_n hx hb d_M_act_51 rfl (lv_at hl 3 rfl) ?_
  refine lv_bipush (v := 15) hx hb d_M_act_52 (by decide) ?_
  have k_5 : (15 : Int32) = 15 := by decide
  refine lv_icmp_ne (tgt := 103) hx hb d_M_act_54 (by decide) (fun h9 => absurd k_5 h9) (fun _ => ?_)
  refine lv_iconst (v := 0) hx hb d_M_act_57 (by decide) ?_
  refine lv_istore (lv' := [(4, .int 0), (3, .int (nI n1)), (2, .int (nI a1)), (0, .ref (a 0)), (1, .int 15)]) hx hb d_M_act_58 hl (by decide) rfl (fun ls hl => ?_)
  have lp : ∀ (n : Nat) (i : Nat) (c : Nat → Int32) (H : Heap) (locs : List Loc) (ls : Array Slot), (i + n = n1) → (mWC (τ 5) a1 n i c = mWC (τ 5) a1 n1 0 (τ 1)) → Gw D vwCl [(cA, .int)] AA ss ss.heap H locs (wM cA a (sS τ 1 c)) → lv_has ls 5 [(0, .ref (a 0)), (1, .int 15), (2, .int (nI a1)), (3, .int (nI n1)), (4, .int (nI i))] → W pp l ee rm_M_act ss mm args below meth cx H locs 0 0 (Zv D vwCl [(cA, .int)] AA ss args below 0 0 (fun w0 => w0 = wM cA a (sS τ 1 (mWC (τ 5) a1 n1 0 (τ 1))))) (F0 mm 60 ls []) := by
    intro n
    induction n with
    | zero =>
      intro i c H locs ls hi hF G hl
      refine lv_iload hx hb d_M_act_60 (lv_at hl 4 rfl) ?_
      refine lv_iload_n hx hb d_M_act_62 rfl (lv_at hl 3 rfl) ?_
      have k_6 : (nI n1) ≤ (nI i) := nI_le (by omega) (by omega)
      refine lv_icmp_ge (tgt := 100) hx hb d_M_act_63 (by decide) (fun _ => ?_) (fun h9 => absurd k_6 h9)
      refine lv_goto (tgt := 143) hx hb d_M_act_100 (by decide) ?_
      exact g_retv S hr hlk G (congrArg (fun q => wM cA a (sS τ 1 q)) hF) (Nat.le_refl _) (Nat.le_refl _) d_M_act_143
    | succ n ih =>
      intro i c H locs ls hi hF G hl
      refine lv_iload hx hb d_M_act_60 (lv_at hl 4 rfl) ?_
      refine lv_iload_n hx hb d_M_act_62 rfl (lv_at hl 3 rfl) ?_
      have k_7 : ¬ ((nI n1) ≤ (nI i)) := nI_ge (by omega) (by omega)
      refine lv_icmp_ge (tgt := 100) hx hb d_M_act_63 (by decide) (fun h9 => absurd h9 k_7) (fun _ => ?_)
      refine lv_aload_n hx hb d_M_act_66 rfl (lv_at hl 0 rfl) ?_
      refine g_get (v := .ref (a 1)) S G in_M 0 rfl rfl 2 (by decide) fl_M_7 rfl d_M_act_67 ?_
      refine lv_iload_n hx hb d_M_act_70 rfl (lv_at hl 2 rfl) ?_
      refine lv_iload hx hb d_M_act_71 (lv_at hl 4 rfl) ?_
      refine lv_iadd hx hb d_M_act_73 ?_
      refine lv_aload_n hx hb d_M_act_74 rfl (lv_at hl 0 rfl) ?_
      refine lv_iconst (v := 5) hx hb d_M_act_75 (by decide) ?_
      refine lv_iload hx hb d_M_act_76 (lv_at hl 4 rfl) ?_
      refine lv_bipush (v := 8) hx hb d_M_act_78 (by decide) ?_
      refine lv_idiv hx hb d_M_act_80 (by decide) ?_
      refine lv_iadd hx hb d_M_act_81 ?_
      refine g_cVi (rest := [.int ((nI a1) + (nI i)), .ref (a 1)]) S G (c_M_data l D cA a (sS τ 1 c) (5 + ((nI i) / 8)) (dat8 (by omega))) (cwV 1 S.2.2.2.2 ml_M_64 rfl rfl rfl (by decide +kernel) ⟨Nat.le_of_ble_eq_true rfl, Nat.le_of_ble_eq_true rfl⟩) [0, 1, 2, 3, 4, 5, 6, 7] [] rfl rfl rfl rfl (by decide) 0 rfl rfl rfl hl.1 rfl (Nat.le_of_ble_eq_true rfl) d_M_act_82 ⟨Nat.le_of_ble_eq_true rfl, Nat.le_of_ble_eq_true rfl⟩ (fun rp_8 wp_8 H locs hp_8 G => ?_)
      obtain ⟨ep_8, rfl⟩ := hp_8
      have ep_8 : rp_8 = dM (τ 5) (5 + ((nI i) / 8)) := ep_8
      replace ep_8 := ep_8.symm
      subst ep_8
      have G : Gw D vwCl [(cA, .int)] AA ss ss.heap H locs (wM cA a (sS τ 1 c)) := G
      refine lv_iload hx hb d_M_act_85 (lv_at hl 4 rfl) ?_
      refine lv_bipush (v := 8) hx hb d_M_act_87 (by decide) ?_
      refine lv_irem hx hb d_M_act_89 (by decide) ?_
      refine lv_ishr hx hb d_M_act_90 ?_
      refine lv_iconst (v := 1) hx hb d_M_act_91 (by decide) ?_
      refine lv_iand hx hb d_M_act_92 ?_
      refine g_iastj S G 1 0 rfl rfl (a1 + i) (by rw [nI_add]; exact nI_clamp (by omega)) (by rw [nI_add]; exact vp_in_nI (by omega) (by decide)) (wM cA a (sU (sS τ 1 c) 1 (a1 + i) (((dM (τ 5) (5 + ((nI i) / 8))) >>> (((nI i) - (nI i) / 8 * 8) &&& 31)) &&& 1))) (wm_a1 cA a _ _ _) d_M_act_93 (fun H locs G => ?_)
      refine lv_iinc (v := (nI i) + 1) (lv' := [(4, .int ((nI i) + 1)), (0, .ref (a 0)), (1, .int 15), (2, .int (nI a1)), (3, .int (nI n1))]) hx hb d_M_act_94 hl (k := 4) rfl rfl (by decide) rfl (fun ls hl => ?_)
      refine lv_goto (tgt := 60) hx hb d_M_act_97 (by decide) ?_
      have hl := lv_sub hl [1, 2, 3, 4, 0] rfl
      rw [nI_1] at hl
      exact ih (i + 1) _ H locs ls (by omega) hF (G.cast (congrArg (wM cA a) (sU_sS τ 1 c _ _))) hl
  exact lp n1 0 (τ 1) _ _ ls (Nat.zero_add _) rfl (G.cast (congrArg (wM cA a) (sS_self (k := 1) rfl).symm)) (lv_sub hl [3, 4, 2, 1, 0] rfl)

set_option maxHeartbeats 1000000 in
set_option maxRecDepth 100000 in
theorem c_M_act16 (l : Launch) (D : va_G) (cA : ClassId) (a : Nat → Nat) (τ : St) (a1 n1 : Nat) (ha : mTwo (τ 5) 0 = nI a1) (hn : mTwo (τ 5) 2 = nI n1) (hb : a1 + n1 ≤ 64) : Cv l y_M_act w_M_act rm_M_act D vwCl [(cA, .int)] [.ref (a 0), .int 16] (wM cA a τ) 0 0 (fun w0 => w0 = wM cA a (sS τ 3 (mWR (τ 5) a1 n1 0 (τ 3)))) := by
  refine Cv.of (Ts := lw_g) (own := "WireSlaveModel") (cc := b_M_act) (maxL := 5) (ret := none) (lv := [(0, .ref (a 0)), (1, .int 16)]) (by decide) rfl rfl (fun w h => List.mem_cons_of_mem _ h) (Nat.le_of_ble_eq_true rfl) rfl ?_
  intro pp ee ss mm args below meth cx AA S hr hlk hnm G ls hl
  have hx := S.1
  have hb := S.2.1
  refine lv_aload_n hx hb d_M_act_0 rfl (lv_at hl 0 rfl) ?_
  refine lv_iconst (v := 0) hx hb d_M_act_1 (by decide) ?_
  refine g_cVi (rest := []) S G (c_M_two l D cA a τ 0 (by unfold vp_in; decide) (by unfold vp_in; decide)) (cwV 1 S.2.2.2.2 ml_M_87 rfl rfl rfl (by decide +kernel) ⟨Nat.le_of_ble_eq_true rfl, Nat.le_of_ble_eq_true rfl⟩) [0, 1, 2, 3, 4, 5, 6, 7] [] rfl rfl rfl rfl (by decide) 0 rfl rfl rfl hl.1 rfl (Nat.le_of_ble_eq_true rfl) d_M_act_2 ⟨Nat.le_of_ble_eq_true rfl, Nat.le_of_ble_eq_true rfl⟩ (fun rp_1 wp_1 H locs hp_1 G => ?_)
  obtain ⟨ep_1, rfl⟩ := hp_1
  have ep_1 : rp_1 = mTwo (τ 5) 0 := ep_1
  replace ep_1 := ep_1.trans ha
  replace ep_1 := ep_1.symm
  subst ep_1
  have G : Gw D vwCl [(cA, .int)] AA ss ss.heap H locs (wM cA a τ) := G
  refine lv_istore_n (lv' := [(2, .int (nI a1)), (0, .ref (a 0)), (1, .int 16)]) hx hb d_M_act_5 rfl hl (by decide) rfl (fun ls hl => ?_)
  refine lv_aload_n hx hb d_M_act_6 rfl (lv_at hl 1 rfl) ?_
  refine lv_iconst (v := 2) hx hb d_M_act_7 (by decide) ?_
  refine g_cVi (rest := []) S G (c_M_two l D cA a τ 2 (by unfold vp_in; decide) (by unfold vp_in; decide)) (cwV 1 S.2.2.2.2 ml_M_87 rfl rfl rfl (by decide +kernel) ⟨Nat.le_of_ble_eq_true rfl, Nat.le_of_ble_eq_true rfl⟩) [0, 1, 2, 3, 4, 5, 6, 7] [] rfl rfl rfl rfl (by decide) 0 rfl rfl rfl hl.1 rfl (Nat.le_of_ble_eq_true rfl) d_M_act_8 ⟨Nat.le_of_ble_eq_true rfl, Nat.le_of_ble_eq_true rfl⟩ (fun rp_2 wp_2 H locs hp_2 G => ?_)
  obtain ⟨ep_2, rfl⟩ := hp_2
  have ep_2 : rp_2 = mTwo (τ 5) 2 := ep_2
  replace ep_2 := ep_2.trans hn
  replace ep_2 := ep_2.symm
  subst ep_2
  have G : Gw D vwCl [(cA, .int)] AA ss ss.heap H locs (wM cA a τ) := G
  refine lv_istore_n (lv' := [(3, .int (nI n1)), (2, .int (nI a1)), (0, .ref (a 0)), (1, .int 16)]) hx hb d_M_act_11 rfl hl (by decide) rfl (fun ls hl => ?_)
  refine lv_iload_n hx hb d_M_act_12 rfl (lv_at hl 3 rfl) ?_
  refine lv_iconst (v := 5) hx hb d_M_act_13 (by decide) ?_
  have k_3 : ¬ ((16 : Int32) = 5) := by decide
  refine lv_icmp_ne (tgt := 35) hx hb d_M_act_14 (by decide) (fun _ => ?_) (fun h9 => absurd h9 k_3)
  refine lv_iload_n hx hb d_M_act_35 rfl (lv_at hl 3 rfl) ?_
  refine lv_bipush (v := 6) hx hb d_M_act_36 (by decide) ?_
  have k_4 : ¬ ((16 : Int32) = 6) := by decide
  refine lv_icmp_ne (tgt := 51) hx hb d_M_act_38 (by decide) (fun _ => ?_) (fun h9 => absurd h9 k_4)
  refine lv_iload_n hx hb d_M_act_51 rfl (lv_at hl 3 rfl) ?_
  refine lv_bipush (v := 15) hx hb d_M_act_52 (by decide) ?_
  have k_5 : ¬ ((16 : Int32) = 15) := by decide
  refine lv_icmp_ne (tgt := 103) hx hb d_M_act_54 (by decide) (fun _ => ?_) (fun h9 => absurd h9 k_5)
  refine lv_iload_n hx hb d_M_act_103 rfl (lv_at hl 3 rfl) ?_
  refine lv_bipush (v := 16) hx hb d_M_act_104 (by decide) ?_
  have k_6 : (16 : Int32) = 16 := by decide
  refine lv_icmp_ne (tgt := 143) hx hb d_M_act_106 (by decide) (fun h9 => absurd k_6 h9) (fun _ => ?_)
  refine lv_iconst (v := 0) hx hb d_M_act_109 (by decide) ?_
  refine lv_istore (lv' := [(4, .int 0), (3, .int (nI n1)), (2, .int (nI a1)), (0, .ref (a 0)), (1, .int 16)]) hx hb d_M_act_110 hl (by decide) rfl (fun ls hl => ?_)
  have lp : ∀ (n : Nat) (i : Nat) (c : Nat → Int32) (H : Heap) (locs : List Loc) (ls : Array Slot), (i + n = n1) → (mWR (τ 5) a1 n i c = mWR (τ 5) a1 n1 0 (τ 3)) → Gw D vwCl [(cA, .int)] AA ss ss.heap H locs (wM cA a (sS τ 3 c)) → lv_has ls 5 [(0, .ref (a 0)), (1, .int 16), (2, .int (nI a1)), (3, .int (nI n1)), (4, .int (nI i))] → W pp l ee rm_M_act ss mm args below meth cx H locs 0 0 (Zv D vwCl [(cA, .int)] AA ss args below 0 0 (fun w0 => w0 = wM cA a (sS τ 3 (mWR (τ 5) a1 n1 0 (τ 3))))) (F0 mm 112 ls []) := by
    intro n
    induction n with
    | zero =>
      intro i c H locs ls hi hF G hl
      refine lv_iload hx hb d_M_act_112 (lv_at hl 4 rfl) ?_
      refine lv_iload_n hx hb d_M_act_114 rfl (lv_at hl 3 rfl) ?_
      have k_7 : (nI n1) ≤ (nI i) := nI_le (by omega) (by omega)
      refine lv_icmp_ge (tgt := 143) hx hb d_M_act_115 (by decide) (fun _ => ?_) (fun h9 => absurd k_7 h9)
      exact g_retv S hr hlk G (congrArg (fun q => wM cA a (sS τ 3 q)) hF) (Nat.le_refl _) (Nat.le_refl _) d_M_act_143
    | succ n ih =>
      intro i c H locs ls hi hF G hl
      refine lv_iload hx hb d_M_act_112 (lv_at hl 4 rfl) ?_
      refine lv_iload_n hx hb d_M_act_114 rfl (lv_at hl 3 rfl) ?_
      have k_8 : ¬ ((nI n1) ≤ (nI i)) := nI_ge (by omega) (by omega)
      refine lv_icmp_ge (tgt := 143) hx hb d_M_act_115 (by decide) (fun h9 => absurd h9 k_8) (fun _ => ?_)
      refine lv_aload_n hx hb d_M_act_118 rfl (lv_at hl 0 rfl) ?_
      refine g_get (v := .ref (a 3)) S G in_M 0 rfl rfl 4 (by decide) fl_M_16 rfl d_M_act_119 ?_
      refine lv_iload_n hx hb d_M_act_122 rfl (lv_at hl 2 rfl) ?_
      refine lv_iload hx hb d_M_act_123 (lv_at hl 4 rfl) ?_
      refine lv_iadd hx hb d_M_act_125 ?_
      refine lv_aload_n hx hb d_M_act_126 rfl (lv_at hl 0 rfl) ?_
      refine lv_iconst (v := 5) hx hb d_M_act_127 (by decide) ?_
      refine lv_iconst (v := 2) hx hb d_M_act_128 (by decide) ?_
      refine lv_iload hx hb d_M_act_129 (lv_at hl 4 rfl) ?_
      refine lv_imul hx hb d_M_act_131 ?_
      refine lv_iadd hx hb d_M_act_132 ?_
      refine g_cVi (rest := [.int ((nI a1) + (nI i)), .ref (a 3)]) S G (c_M_two l D cA a (sS τ 3 c) (5 + (2 * (nI i))) (dat2 (by omega)) (dat21 (by omega))) (cwV 1 S.2.2.2.2 ml_M_87 rfl rfl rfl (by decide +kernel) ⟨Nat.le_of_ble_eq_true rfl, Nat.le_of_ble_eq_true rfl⟩) [0, 1, 2, 3, 4, 5, 6, 7] [] rfl rfl rfl rfl (by decide) 0 rfl rfl rfl hl.1 rfl (Nat.le_of_ble_eq_true rfl) d_M_act_133 ⟨Nat.le_of_ble_eq_true rfl, Nat.le_of_ble_eq_true rfl⟩ (fun rp_9 wp_9 H locs hp_9 G => ?_)
      obtain ⟨ep_9, rfl⟩ := hp_9
      have ep_9 : rp_9 = mTwo (τ 5) (5 + (2 * (nI i))) := ep_9
      replace ep_9 := ep_9.symm
      subst ep_9
      have G : Gw D vwCl [(cA, .int)] AA ss ss.heap H locs (wM cA a (sS τ 3 c)) := G
      refine g_iastj S G 3 0 rfl rfl (a1 + i) (by rw [nI_add]; exact nI_clamp (by omega)) (by rw [nI_add]; exact vp_in_nI (by omega) (by decide)) (wM cA a (sU (sS τ 3 c) 3 (a1 + i) (mTwo (τ 5) (5 + (2 * (nI i)))))) (wm_a3 cA a _ _ _) d_M_act_136 (fun H locs G => ?_)
      refine lv_iinc (v := (nI i) + 1) (lv' := [(4, .int ((nI i) + 1)), (0, .ref (a 0)), (1, .int 16), (2, .int (nI a1)), (3, .int (nI n1))]) hx hb d_M_act_137 hl (k := 4) rfl rfl (by decide) rfl (fun ls hl => ?_)
      refine lv_goto (tgt := 112) hx hb d_M_act_140 (by decide) ?_
      have hl := lv_sub hl [1, 2, 3, 4, 0] rfl
      rw [nI_1] at hl
      exact ih (i + 1) _ H locs ls (by omega) hF (G.cast (congrArg (wM cA a) (sU_sS τ 3 c _ _))) hl
  exact lp n1 0 (τ 3) _ _ ls (Nat.zero_add _) rfl (G.cast (congrArg (wM cA a) (sS_self (k := 3) rfl).symm)) (lv_sub hl [3, 4, 2, 1, 0] rfl)

set_option maxHeartbeats 1000000 in
set_option maxRecDepth 100000 in
theorem c_M_act0 (l : Launch) (D : va_G) (cA : ClassId) (a : Nat → Nat) (τ : St) (f : Int32) (a1 n1 : Nat) (ha : mTwo (τ 5) 0 = nI a1) (hn : mTwo (τ 5) 2 = nI n1) (h5 : ¬ f = 5) (h6 : ¬ f = 6) (h15 : ¬ f = 15) (h16 : ¬ f = 16) : Cv l y_M_act w_M_act rm_M_act D vwCl [(cA, .int)] [.ref (a 0), .int f] (wM cA a τ) 0 0 (fun w0 => w0 = wM cA a τ) := by
  refine Cv.of (Ts := lw_g) (own := "WireSlaveModel") (cc := b_M_act) (maxL := 5) (ret := none) (lv := [(0, .ref (a 0)), (1, .int f)]) (by decide) rfl rfl (fun w h => List.mem_cons_of_mem _ h) (Nat.le_of_ble_eq_true rfl) rfl ?_
  intro pp ee ss mm args below meth cx AA S hr hlk hnm G ls hl
  have hx := S.1
  have hb := S.2.1
  refine lv_aload_n hx hb d_M_act_0 rfl (lv_at hl 0 rfl) ?_
  refine lv_iconst (v := 0) hx hb d_M_act_1 (by decide) ?_
  refine g_cVi (rest := []) S G (c_M_two l D cA a τ 0 (by unfold vp_in; decide) (by unfold vp_in; decide)) (cwV 1 S.2.2.2.2 ml_M_87 rfl rfl rfl (by decide +kernel) ⟨Nat.le_of_ble_eq_true rfl, Nat.le_of_ble_eq_true rfl⟩) [0, 1, 2, 3, 4, 5, 6, 7] [] rfl rfl rfl rfl (by decide) 0 rfl rfl rfl hl.1 rfl (Nat.le_of_ble_eq_true rfl) d_M_act_2 ⟨Nat.le_of_ble_eq_true rfl, Nat.le_of_ble_eq_true rfl⟩ (fun rp_1 wp_1 H locs hp_1 G => ?_)
  obtain ⟨ep_1, rfl⟩ := hp_1
  have ep_1 : rp_1 = mTwo (τ 5) 0 := ep_1
  replace ep_1 := ep_1.trans ha
  replace ep_1 := ep_1.symm
  subst ep_1
  have G : Gw D vwCl [(cA, .int)] AA ss ss.heap H locs (wM cA a τ) := G
  refine lv_istore_n (lv' := [(2, .int (nI a1)), (0, .ref (a 0)), (1, .int f)]) hx hb d_M_act_5 rfl hl (by decide) rfl (fun ls hl => ?_)
  refine lv_aload_n hx hb d_M_act_6 rfl (lv_at hl 1 rfl) ?_
  refine lv_iconst (v := 2) hx hb d_M_act_7 (by decide) ?_
  refine g_cVi (rest := []) S G (c_M_two l D cA a τ 2 (by unfold vp_in; decide) (by unfold vp_in; decide)) (cwV 1 S.2.2.2.2 ml_M_87 rfl rfl rfl (by decide +kernel) ⟨Nat.le_of_ble_eq_true rfl, Nat.le_of_ble_eq_true rfl⟩) [0, 1, 2, 3, 4, 5, 6, 7] [] rfl rfl rfl rfl (by decide) 0 rfl rfl rfl hl.1 rfl (Nat.le_of_ble_eq_true rfl) d_M_act_8 ⟨Nat.le_of_ble_eq_true rfl, Nat.le_of_ble_eq_true rfl⟩ (fun rp_2 wp_2 H locs hp_2 G => ?_)
  obtain ⟨ep_2, rfl⟩ := hp_2
  have ep_2 : rp_2 = mTwo (τ 5) 2 := ep_2
  replace ep_2 := ep_2.trans hn
  replace ep_2 := ep_2.symm
  subst ep_2
  have G : Gw D vwCl [(cA, .int)] AA ss ss.heap H locs (wM cA a τ) := G
  refine lv_istore_n (lv' := [(3, .int (nI n1)), (2, .int (nI a1)), (0, .ref (a 0)), (1, .int f)]) hx hb d_M_act_11 rfl hl (by decide) rfl (fun ls hl => ?_)
  refine lv_iload_n hx hb d_M_act_12 rfl (lv_at hl 3 rfl) ?_
  refine lv_iconst (v := 5) hx hb d_M_act_13 (by decide) ?_
  have k_3 : ¬ (f = 5) := h5
  refine lv_icmp_ne (tgt := 35) hx hb d_M_act_14 (by decide) (fun _ => ?_) (fun h9 => absurd h9 k_3)
  refine lv_iload_n hx hb d_M_act_35 rfl (lv_at hl 3 rfl) ?_
  refine lv_bipush (v := 6) hx hb d_M_act_36 (by decide) ?_
  have k_4 : ¬ (f = 6) := h6
  refine lv_icmp_ne (tgt := 51) hx hb d_M_act_38 (by decide) (fun _ => ?_) (fun h9 => absurd h9 k_4)
  refine lv_iload_n hx hb d_M_act_51 rfl (lv_at hl 3 rfl) ?_
  refine lv_bipush (v := 15) hx hb d_M_act_52 (by decide) ?_
  have k_5 : ¬ (f = 15) := h15
  refine lv_icmp_ne (tgt := 103) hx hb d_M_act_54 (by decide) (fun _ => ?_) (fun h9 => absurd h9 k_5)
  refine lv_iload_n hx hb d_M_act_103 rfl (lv_at hl 3 rfl) ?_
  refine lv_bipush (v := 16) hx hb d_M_act_104 (by decide) ?_
  have k_6 : ¬ (f = 16) := h16
  refine lv_icmp_ne (tgt := 143) hx hb d_M_act_106 (by decide) (fun _ => ?_) (fun h9 => absurd h9 k_6)
  exact g_retv S hr hlk G (congrArg (wM cA a) (by first | (simp only [eq_false k_3, eq_false k_4, eq_false k_5, eq_false k_6, i10, ↓reduceIte]; done) | (simp only [eq_false k_3, eq_false k_4, eq_false k_5, eq_false k_6, i10, ↓reduceIte]; rfl) | rfl)) (Nat.le_refl _) (Nat.le_refl _) d_M_act_143

set_option maxHeartbeats 1000000 in
theorem c_M_act (l : Launch) (D : va_G) (cA : ClassId) (a : Nat → Nat) (τ : St) (f : Int32) (a1 n1 : Nat) (ha : mTwo (τ 5) 0 = nI a1) (hn : mTwo (τ 5) 2 = nI n1) (hb5 : f = 5 → a1 < 256) (hb6 : f = 6 → a1 < 64) (hb15 : f = 15 → a1 + n1 ≤ 256) (hb16 : f = 16 → a1 + n1 ≤ 64) : Cv l y_M_act w_M_act rm_M_act D vwCl [(cA, .int)] [.ref (a 0), .int f] (wM cA a τ) 0 0 (fun w0 => w0 = wM cA a (sS (sS τ 1 (mActC (τ 5) f a1 n1 (τ 1))) 3 (mActR (τ 5) f a1 n1 (τ 3)))) := by
  by_cases h5 : f = 5
  · subst h5
    rw [sS_self (σ := sS τ 1 (mActC (τ 5) 5 a1 n1 (τ 1))) (k := 3) (f := mActR (τ 5) 5 a1 n1 (τ 3)) rfl]
    exact c_M_act5 l D cA a τ a1 n1 ha hn (hb5 rfl)
  by_cases h6 : f = 6
  · subst h6
    rw [show sS τ 1 (mActC (τ 5) 6 a1 n1 (τ 1)) = τ from sS_self rfl]
    exact c_M_act6 l D cA a τ a1 n1 ha hn (hb6 rfl)
  by_cases h15 : f = 15
  · subst h15
    rw [sS_self (σ := sS τ 1 (mActC (τ 5) 15 a1 n1 (τ 1))) (k := 3) (f := mActR (τ 5) 15 a1 n1 (τ 3)) rfl]
    exact c_M_act15 l D cA a τ a1 n1 ha hn (hb15 rfl)
  by_cases h16 : f = 16
  · subst h16
    rw [show sS τ 1 (mActC (τ 5) 16 a1 n1 (τ 1)) = τ from sS_self rfl]
    exact c_M_act16 l D cA a τ a1 n1 ha hn (hb16 rfl)
  have e1 : mActC (τ 5) f a1 n1 (τ 1) = τ 1 := by simp only [mActC, eq_false h5, eq_false h15, ↓reduceIte]
  have e3 : mActR (τ 5) f a1 n1 (τ 3) = τ 3 := by simp only [mActR, eq_false h6, eq_false h16, ↓reduceIte]
  rw [e1, e3, show sS τ 1 (τ 1) = τ from sS_self rfl, show sS τ 3 (τ 3) = τ from sS_self rfl]
  exact c_M_act0 l D cA a τ f a1 n1 ha hn h5 h6 h15 h16
