abbrev rm_M_answer : Room := { frames := 2, cells := 0, slots := 0, locals := 42 }
set_option maxHeartbeats 1000000 in
set_option maxRecDepth 100000 in
theorem c_M_answer1 (l : Launch) (D : va_G) (cA : ClassId) (a : Nat → Nat) (τ : St) (x : Rp) (a1 n1 : Nat) (ha : mTwo (τ 5) 0 = nI a1) (hn : mTwo (τ 5) 2 = nI n1) (hz : x.2 ≤ 10) (hb : a1 + n1 ≤ 256) : Cv l y_M_answer w_M_answer rm_M_answer D vwCl [(cA, .int)] [.ref (a 0), .int 1] (wM cA a (sP τ x)) 0 0 (fun w0 => w0 = wM cA a (sP τ (mAnsB (τ 1) 1 a1 n1 x))) := by
  refine Cv.of (Ts := lw_g) (own := "WireSlaveModel") (cc := b_M_answer) (maxL := 7) (ret := none) (lv := [(0, .ref (a 0)), (1, .int 1)]) (by decide) rfl rfl (fun w h => List.mem_cons_of_mem _ h) (Nat.le_of_ble_eq_true rfl) rfl ?_
  intro pp ee ss mm args below meth cx AA S hr hlk hnm G ls hl
  have hx := S.1
  have hb := S.2.1
  refine lv_aload_n hx hb d_M_answer_0 rfl (lv_at hl 0 rfl) ?_
  refine lv_iconst (v := 0) hx hb d_M_answer_1 (by decide) ?_
  refine g_cVi (rest := []) S G (c_M_two l D cA a (sP τ x) 0 (by unfold vp_in; decide) (by unfold vp_in; decide)) (cwV 1 S.2.2.2.2 ml_M_87 rfl rfl rfl (by decide +kernel) ⟨Nat.le_of_ble_eq_true rfl, Nat.le_of_ble_eq_true rfl⟩) [0, 1, 2, 3, 4, 5, 6, 7] [] rfl rfl rfl rfl (by decide) 0 rfl rfl rfl hl.1 rfl (Nat.le_of_ble_eq_true rfl) d_M_answer_2 ⟨Nat.le_of_ble_eq_true rfl, Nat.le_of_ble_eq_true rfl⟩ (fun rp_1 wp_1 H locs hp_1 G => ?_)
  obtain ⟨ep_1, rfl⟩ := hp_1
  have ep_1 : rp_1 = mTwo (τ 5) 0 := ep_1
  replace ep_1 := ep_1.trans ha
  replace ep_1 := ep_1.symm
  subst ep_1
  have G : Gw D vwCl [(cA, .int)] AA ss ss.heap H locs (wM cA a (sP τ x)) := G
  refine lv_istore_n (lv' := [(2, .int (nI a1)), (0, .ref (a 0)), (1, .int 1)]) hx hb d_M_answer_5 rfl hl (by decide) rfl (fun ls hl => ?_)
  refine lv_aload_n hx hb d_M_answer_6 rfl (lv_at hl 1 rfl) ?_
  refine lv_iconst (v := 2) hx hb d_M_answer_7 (by decide) ?_
  refine g_cVi (rest := []) S G (c_M_two l D cA a (sP τ x) 2 (by unfold vp_in; decide) (by unfold vp_in; decide)) (cwV 1 S.2.2.2.2 ml_M_87 rfl rfl rfl (by decide +kernel) ⟨Nat.le_of_ble_eq_true rfl, Nat.le_of_ble_eq_true rfl⟩) [0, 1, 2, 3, 4, 5, 6, 7] [] rfl rfl rfl rfl (by decide) 0 rfl rfl rfl hl.1 rfl (Nat.le_of_ble_eq_true rfl) d_M_answer_8 ⟨Nat.le_of_ble_eq_true rfl, Nat.le_of_ble_eq_true rfl⟩ (fun rp_2 wp_2 H locs hp_2 G => ?_)
  obtain ⟨ep_2, rfl⟩ := hp_2
  have ep_2 : rp_2 = mTwo (τ 5) 2 := ep_2
  replace ep_2 := ep_2.trans hn
  replace ep_2 := ep_2.symm
  subst ep_2
  have G : Gw D vwCl [(cA, .int)] AA ss ss.heap H locs (wM cA a (sP τ x)) := G
  refine lv_istore_n (lv' := [(3, .int (nI n1)), (2, .int (nI a1)), (0, .ref (a 0)), (1, .int 1)]) hx hb d_M_answer_11 rfl hl (by decide) rfl (fun ls hl => ?_)
  refine lv_aload_n hx hb d_M_answer_12 rfl (lv_at hl 2 rfl) ?_
  refine lv_iload_n hx hb d_M_answer_13 rfl (lv_at hl 3 rfl) ?_
  refine g_cVv (rest := []) S G (c_M_add l D cA a τ x 1 (by first | omega | (simp only [rAdd]; omega))) (cwV 1 S.2.2.2.2 ml_M_81 rfl rfl rfl (by decide +kernel) ⟨Nat.le_of_ble_eq_true rfl, Nat.le_of_ble_eq_true rfl⟩) [0, 1, 2, 3, 4, 5, 6, 7] [] rfl rfl rfl rfl (by decide) 0 rfl rfl rfl hl.1 rfl (Nat.le_of_ble_eq_true rfl) d_M_answer_14 ⟨Nat.le_of_ble_eq_true rfl, Nat.le_of_ble_eq_true rfl⟩ (fun wp_3 H locs hp_3 G => ?_)
  subst hp_3
  have G : Gw D vwCl [(cA, .int)] AA ss ss.heap H locs (wM cA a (sP τ (rAdd x 1))) := G
  refine lv_iload_n hx hb d_M_answer_17 rfl (lv_at hl 3 rfl) ?_
  refine lv_iconst (v := 3) hx hb d_M_answer_18 (by decide) ?_
  have k_4 : ¬ ((3 : Int32) ≤ 1) := by decide
  refine lv_icmp_ge (tgt := 106) hx hb d_M_answer_19 (by decide) (fun h9 => absurd h9 k_4) (fun _ => ?_)
  refine lv_aload_n hx hb d_M_answer_22 rfl (lv_at hl 2 rfl) ?_
  refine lv_iload_n hx hb d_M_answer_23 rfl (lv_at hl 0 rfl) ?_
  refine lv_bipush (v := 7) hx hb d_M_answer_24 (by decide) ?_
  refine lv_iadd hx hb d_M_answer_26 ?_
  refine lv_bipush (v := 8) hx hb d_M_answer_27 (by decide) ?_
  refine lv_idiv hx hb d_M_answer_29 (by decide) ?_
  refine g_cVv (rest := []) S G (c_M_add l D cA a τ (rAdd x 1) (((nI n1) + 7) / 8) (by first | omega | (simp only [rAdd]; omega))) (cwV 1 S.2.2.2.2 ml_M_81 rfl rfl rfl (by decide +kernel) ⟨Nat.le_of_ble_eq_true rfl, Nat.le_of_ble_eq_true rfl⟩) [0, 1, 2, 3, 4, 5, 6, 7] [] rfl rfl rfl rfl (by decide) 0 rfl rfl rfl hl.1 rfl (Nat.le_of_ble_eq_true rfl) d_M_answer_30 ⟨Nat.le_of_ble_eq_true rfl, Nat.le_of_ble_eq_true rfl⟩ (fun wp_5 H locs hp_5 G => ?_)
  subst hp_5
  have G : Gw D vwCl [(cA, .int)] AA ss ss.heap H locs (wM cA a (sP τ (rAdd (rAdd x 1) (((nI n1) + 7) / 8)))) := G
  refine lv_iconst (v := 0) hx hb d_M_answer_33 (by decide) ?_
  refine lv_istore (lv' := [(4, .int 0), (3, .int (nI n1)), (2, .int (nI a1)), (0, .ref (a 0)), (1, .int 1)]) hx hb d_M_answer_34 hl (by decide) rfl (fun ls hl => ?_)
  have lp : ∀ (n : Nat) (i : Nat) (y2 : Rp) (H : Heap) (locs : List Loc) (ls : Array Slot), (i + 8 * n = 8 * ((n1 + 7) / 8)) → (mBits (τ 1) a1 n1 n i y2 = mAnsB (τ 1) 1 a1 n1 x) → (y2.2 + n ≤ 100) → Gw D vwCl [(cA, .int)] AA ss ss.heap H locs (wM cA a (sP τ y2)) → lv_has ls 7 [(0, .ref (a 0)), (1, .int 1), (2, .int (nI a1)), (3, .int (nI n1)), (4, .int (nI i))] → W pp l ee rm_M_answer ss mm args below meth cx H locs 0 0 (Zv D vwCl [(cA, .int)] AA ss args below 0 0 (fun w0 => w0 = wM cA a (sP τ (mAnsB (τ 1) 1 a1 n1 x)))) (F0 mm 36 ls []) := by
    intro n
    induction n with
    | zero =>
      intro i y2 H locs ls hi hF hz2 G hl
      refine lv_iload hx hb d_M_answer_36 (lv_at hl 4 rfl) ?_
      refine lv_iload_n hx hb d_M_answer_38 rfl (lv_at hl 3 rfl) ?_
      have k_6 : (nI n1) ≤ (nI i) := nI_le (by omega) (by omega)
      refine lv_icmp_ge (tgt := 103) hx hb d_M_answer_39 (by decide) (fun _ => ?_) (fun h9 => absurd k_6 h9)
      refine lv_goto (tgt := 197) hx hb d_M_answer_103 (by decide) ?_
      exact g_retv S hr hlk G (congrArg (fun q => wM cA a (sP τ q)) hF) (Nat.le_refl _) (Nat.le_refl _) d_M_answer_197
    | succ n ih =>
      intro i y2 H locs ls hi hF hz2 G hl
      refine lv_iload hx hb d_M_answer_36 (lv_at hl 4 rfl) ?_
      refine lv_iload_n hx hb d_M_answer_38 rfl (lv_at hl 3 rfl) ?_
      have k_7 : ¬ ((nI n1) ≤ (nI i)) := nI_ge (by omega) (by omega)
      refine lv_icmp_ge (tgt := 103) hx hb d_M_answer_39 (by decide) (fun h9 => absurd h9 k_7) (fun _ => ?_)
      refine lv_iconst (v := 0) hx hb d_M_answer_42 (by decide) ?_
      refine lv_istore (lv' := [(5, .int 0), (0, .ref (a 0)), (1, .int 1), (2, .int (nI a1)), (3, .int (nI n1)), (4, .int (nI i))]) hx hb d_M_answer_43 hl (by decide) rfl (fun ls hl => ?_)
      refine lv_iconst (v := 0) hx hb d_M_answer_45 (by decide) ?_
      refine lv_istore (lv' := [(6, .int 0), (5, .int 0), (0, .ref (a 0)), (1, .int 1), (2, .int (nI a1)), (3, .int (nI n1)), (4, .int (nI i))]) hx hb d_M_answer_46 hl (by decide) rfl (fun ls hl => ?_)
      have lpj : ∀ (m : Nat) (j : Nat) (y : Int32) (H : Heap) (locs : List Loc) (ls : Array Slot), (j + m = min 8 (n1 - i)) → (mPk (τ 1) (a1 + i) m j y = mPk (τ 1) (a1 + i) (min 8 (n1 - i)) 0 0) → Gw D vwCl [(cA, .int)] AA ss ss.heap H locs (wM cA a (sP τ y2)) → lv_has ls 7 [(0, .ref (a 0)), (1, .int 1), (2, .int (nI a1)), (3, .int (nI n1)), (4, .int (nI i)), (5, .int y), (6, .int (nI j))] → W pp l ee rm_M_answer ss mm args below meth cx H locs 0 0 (Zv D vwCl [(cA, .int)] AA ss args below 0 0 (fun w0 => w0 = wM cA a (sP τ (mAnsB (τ 1) 1 a1 n1 x)))) (F0 mm 48 ls []) := by
        intro m
        induction m with
        | zero =>
          intro j y H locs ls hj hP G hl
          refine lv_iload hx hb d_M_answer_48 (lv_at hl 6 rfl) ?_
          refine lv_bipush (v := 8) hx hb d_M_answer_50 (by decide) ?_
          refine lv_icmp_ge (tgt := 91) hx hb d_M_answer_52 (by decide) (fun c_8 => ?_) (fun c_8 => ?_)
          · refine lv_aload_n hx hb d_M_answer_91 rfl (lv_at hl 0 rfl) ?_
            refine lv_iload hx hb d_M_answer_92 (lv_at hl 5 rfl) ?_
            refine g_cVv (rest := []) S G (c_M_add l D cA a τ y2 y (by first | omega | (simp only [rAdd]; omega))) (cwV 1 S.2.2.2.2 ml_M_81 rfl rfl rfl (by decide +kernel) ⟨Nat.le_of_ble_eq_true rfl, Nat.le_of_ble_eq_true rfl⟩) [0, 1, 2, 3, 4, 5, 6, 7] [] rfl rfl rfl rfl (by decide) 0 rfl rfl rfl hl.1 rfl (Nat.le_of_ble_eq_true rfl) d_M_answer_94 ⟨Nat.le_of_ble_eq_true rfl, Nat.le_of_ble_eq_true rfl⟩ (fun wp_9 H locs hp_9 G => ?_)
            subst hp_9
            have G : Gw D vwCl [(cA, .int)] AA ss ss.heap H locs (wM cA a (sP τ (rAdd y2 y))) := G
            refine lv_iinc (v := (nI i) + 8) (lv' := [(4, .int ((nI i) + 8)), (0, .ref (a 0)), (1, .int 1), (2, .int (nI a1)), (3, .int (nI n1)), (5, .int y), (6, .int (nI j))]) hx hb d_M_answer_97 hl (k := 4) rfl rfl (by decide) rfl (fun ls hl => ?_)
            refine lv_goto (tgt := 36) hx hb d_M_answer_100 (by decide) ?_
            have hl := lv_sub hl [1, 2, 3, 4, 0] rfl
            rw [show nI i + 8 = nI (i + 8) from nI_add i 8] at hl
            exact ih (i + 8) _ H locs ls (by omega) (by rw [show y = _ from hP]; exact hF) (by simp only [rAdd]; omega) G hl
          · refine lv_iload hx hb d_M_answer_55 (lv_at hl 4 rfl) ?_
            refine lv_iload hx hb d_M_answer_57 (lv_at hl 6 rfl) ?_
            refine lv_iadd hx hb d_M_answer_59 ?_
            refine lv_iload_n hx hb d_M_answer_60 rfl (lv_at hl 3 rfl) ?_
            have k_10 : (nI n1) ≤ ((nI i) + (nI j)) := by have h8 := lt_of_nle (n := 8) c_8 (by omega); rw [nI_add]; exact nI_le (by omega) (by omega)
            refine lv_icmp_ge (tgt := 91) hx hb d_M_answer_61 (by decide) (fun _ => ?_) (fun h9 => absurd k_10 h9)
            refine lv_aload_n hx hb d_M_answer_91 rfl (lv_at hl 0 rfl) ?_
            refine lv_iload hx hb d_M_answer_92 (lv_at hl 5 rfl) ?_
            refine g_cVv (rest := []) S G (c_M_add l D cA a τ y2 y (by first | omega | (simp only [rAdd]; omega))) (cwV 1 S.2.2.2.2 ml_M_81 rfl rfl rfl (by decide +kernel) ⟨Nat.le_of_ble_eq_true rfl, Nat.le_of_ble_eq_true rfl⟩) [0, 1, 2, 3, 4, 5, 6, 7] [] rfl rfl rfl rfl (by decide) 0 rfl rfl rfl hl.1 rfl (Nat.le_of_ble_eq_true rfl) d_M_answer_94 ⟨Nat.le_of_ble_eq_true rfl, Nat.le_of_ble_eq_true rfl⟩ (fun wp_11 H locs hp_11 G => ?_)
            subst hp_11
            have G : Gw D vwCl [(cA, .int)] AA ss ss.heap H locs (wM cA a (sP τ (rAdd y2 y))) := G
            refine lv_iinc (v := (nI i) + 8) (lv' := [(4, .int ((nI i) + 8)), (0, .ref (a 0)), (1, .int 1), (2, .int (nI a1)), (3, .int (nI n1)), (5, .int y), (6, .int (nI j))]) hx hb d_M_answer_97 hl (k := 4) rfl rfl (by decide) rfl (fun ls hl => ?_)
            refine lv_goto (tgt := 36) hx hb d_M_answer_100 (by decide) ?_
            have hl := lv_sub hl [1, 2, 3, 4, 0] rfl
            rw [show nI i + 8 = nI (i + 8) from nI_add i 8] at hl
            exact ih (i + 8) _ H locs ls (by omega) (by rw [show y = _ from hP]; exact hF) (by simp only [rAdd]; omega) G hl
        | succ m ih =>
          intro j y H locs ls hj hP G hl
          refine lv_iload hx hb d_M_answer_48 (lv_at hl 6 rfl) ?_
          refine lv_bipush (v := 8) hx hb d_M_answer_50 (by decide) ?_
          have k_12 : ¬ (8 ≤ (nI j)) := nI_ge (b := 8) (by omega) (by decide)
          refine lv_icmp_ge (tgt := 91) hx hb d_M_answer_52 (by decide) (fun h9 => absurd h9 k_12) (fun _ => ?_)
          refine lv_iload hx hb d_M_answer_55 (lv_at hl 4 rfl) ?_
          refine lv_iload hx hb d_M_answer_57 (lv_at hl 6 rfl) ?_
          refine lv_iadd hx hb d_M_answer_59 ?_
          refine lv_iload_n hx hb d_M_answer_60 rfl (lv_at hl 3 rfl) ?_
          have k_13 : ¬ ((nI n1) ≤ ((nI i) + (nI j))) := by rw [nI_add]; exact nI_ge (by omega) (by omega)
          refine lv_icmp_ge (tgt := 91) hx hb d_M_answer_61 (by decide) (fun h9 => absurd h9 k_13) (fun _ => ?_)
          refine lv_iload hx hb d_M_answer_64 (lv_at hl 5 rfl) ?_
          refine lv_aload_n hx hb d_M_answer_66 rfl (lv_at hl 0 rfl) ?_
          refine lv_iload_n hx hb d_M_answer_67 rfl (lv_at hl 1 rfl) ?_
          refine g_cVq (rest := [.int y]) S G (c_M_table l D cA a (sP τ y2) 1) (cwV 1 S.2.2.2.2 ml_M_91 rfl rfl rfl (by decide +kernel) ⟨Nat.le_of_ble_eq_true rfl, Nat.le_of_ble_eq_true rfl⟩) [0, 1, 2, 3, 4, 5, 6, 7] [] rfl rfl rfl rfl (by decide) 0 rfl rfl rfl hl.1 rfl (Nat.le_of_ble_eq_true rfl) d_M_answer_68 ⟨Nat.le_of_ble_eq_true rfl, Nat.le_of_ble_eq_true rfl⟩ (fun rp_14 wp_14 H locs hp_14 G => ?_)
          obtain ⟨rfl, rfl⟩ := hp_14
          have G : Gw D vwCl [(cA, .int)] AA ss ss.heap H locs (wM cA a (sP τ y2)) := G
          refine W.eq (g2 := F0 mm 71 ls [.ref (a 1), .int y]) rfl ?_
          refine lv_iload_n hx hb d_M_answer_71 rfl (lv_at hl 2 rfl) ?_
          refine lv_iload hx hb d_M_answer_72 (lv_at hl 4 rfl) ?_
          refine lv_iadd hx hb d_M_answer_74 ?_
          refine lv_iload hx hb d_M_answer_75 (lv_at hl 6 rfl) ?_
          refine lv_iadd hx hb d_M_answer_77 ?_
          refine g_ialdj S G 1 0 (τ 1) rfl rfl (a1 + i + j) (by rw [nI_add, nI_add]; exact nI_clamp (by omega)) (by rw [nI_add, nI_add]; exact vp_in_nI (by omega) (by decide)) d_M_answer_78 ?_
          refine lv_iload hx hb d_M_answer_79 (lv_at hl 6 rfl) ?_
          refine lv_ishl hx hb d_M_answer_81 ?_
          refine lv_iadd hx hb d_M_answer_82 ?_
          refine lv_istore (lv' := [(5, .int (y + (((τ 1) (a1 + i + j)) <<< ((nI j) &&& 31)))), (0, .ref (a 0)), (1, .int 1), (2, .int (nI a1)), (3, .int (nI n1)), (4, .int (nI i)), (6, .int (nI j))]) hx hb d_M_answer_83 hl (by decide) rfl (fun ls hl => ?_)
          refine lv_iinc (v := (nI j) + 1) (lv' := [(6, .int ((nI j) + 1)), (5, .int (y + (((τ 1) (a1 + i + j)) <<< ((nI j) &&& 31)))), (0, .ref (a 0)), (1, .int 1), (2, .int (nI a1)), (3, .int (nI n1)), (4, .int (nI i))]) hx hb d_M_answer_85 hl (k := 6) rfl rfl (by decide) rfl (fun ls hl => ?_)
          refine lv_goto (tgt := 48) hx hb d_M_answer_88 (by decide) ?_
          have hl := lv_sub hl [2, 3, 4, 5, 6, 1, 0] rfl
          rw [nI_1 j] at hl
          exact ih (j + 1) _ H locs ls (by omega) hP G hl
      exact lpj (min 8 (n1 - i)) 0 0 _ _ ls (Nat.zero_add _) rfl G (lv_sub hl [2, 3, 4, 5, 6, 1, 0] rfl)
  exact lp ((n1 + 7) / 8) 0 _ _ _ ls (by omega) rfl (by simp only [rAdd]; omega) G (lv_sub hl [3, 4, 2, 1, 0] rfl)

set_option maxHeartbeats 1000000 in
set_option maxRecDepth 100000 in
theorem c_M_answer2 (l : Launch) (D : va_G) (cA : ClassId) (a : Nat → Nat) (τ : St) (x : Rp) (a1 n1 : Nat) (ha : mTwo (τ 5) 0 = nI a1) (hn : mTwo (τ 5) 2 = nI n1) (hz : x.2 ≤ 10) (hb : a1 + n1 ≤ 256) : Cv l y_M_answer w_M_answer rm_M_answer D vwCl [(cA, .int)] [.ref (a 0), .int 2] (wM cA a (sP τ x)) 0 0 (fun w0 => w0 = wM cA a (sP τ (mAnsB (τ 2) 2 a1 n1 x))) := by
  refine Cv.of (Ts := lw_g) (own := "WireSlaveModel") (cc := b_M_answer) (maxL := 7) (ret := none) (lv := [(0, .ref (a 0)), (1, .int 2)]) (by decide) rfl rfl (fun w h => List.mem_cons_of_mem _ h) (Nat.le_of_ble_eq_true rfl) rfl ?_
  intro pp ee ss mm args below meth cx AA S hr hlk hnm G ls hl
  have hx := S.1
  have hb := S.2.1
  refine lv_aload_n hx hb d_M_answer_0 rfl (lv_at hl 0 rfl) ?_
  refine lv_iconst (v := 0) hx hb d_M_answer_1 (by decide) ?_
  refine g_cVi (rest := []) S G (c_M_two l D cA a (sP τ x) 0 (by unfold vp_in; decide) (by unfold vp_in; decide)) (cwV 1 S.2.2.2.2 ml_M_87 rfl rfl rfl (by decide +kernel) ⟨Nat.le_of_ble_eq_true rfl, Nat.le_of_ble_eq_true rfl⟩) [0, 1, 2, 3, 4, 5, 6, 7] [] rfl rfl rfl rfl (by decide) 0 rfl rfl rfl hl.1 rfl (Nat.le_of_ble_eq_true rfl) d_M_answer_2 ⟨Nat.le_of_ble_eq_true rfl, Nat.le_of_ble_eq_true rfl⟩ (fun rp_1 wp_1 H locs hp_1 G => ?_)
  obtain ⟨ep_1, rfl⟩ := hp_1
  have ep_1 : rp_1 = mTwo (τ 5) 0 := ep_1
  replace ep_1 := ep_1.trans ha
  replace ep_1 := ep_1.symm
  subst ep_1
  have G : Gw D vwCl [(cA, .int)] AA ss ss.heap H locs (wM cA a (sP τ x)) := G
  refine lv_istore_n (lv' := [(2, .int (nI a1)), (0, .ref (a 0)), (1, .int 2)]) hx hb d_M_answer_5 rfl hl (by decide) rfl (fun ls hl => ?_)
  refine lv_aload_n hx hb d_M_answer_6 rfl (lv_at hl 1 rfl) ?_
  refine lv_iconst (v := 2) hx hb d_M_answer_7 (by decide) ?_
  refine g_cVi (rest := []) S G (c_M_two l D cA a (sP τ x) 2 (by unfold vp_in; decide) (by unfold vp_in; decide)) (cwV 1 S.2.2.2.2 ml_M_87 rfl rfl rfl (by decide +kernel) ⟨Nat.le_of_ble_eq_true rfl, Nat.le_of_ble_eq_true rfl⟩) [0, 1, 2, 3, 4, 5, 6, 7] [] rfl rfl rfl rfl (by decide) 0 rfl rfl rfl hl.1 rfl (Nat.le_of_ble_eq_true rfl) d_M_answer_8 ⟨Nat.le_of_ble_eq_true rfl, Nat.le_of_ble_eq_true rfl⟩ (fun rp_2 wp_2 H locs hp_2 G => ?_)
  obtain ⟨ep_2, rfl⟩ := hp_2
  have ep_2 : rp_2 = mTwo (τ 5) 2 := ep_2
  replace ep_2 := ep_2.trans hn
  replace ep_2 := ep_2.symm
  subst ep_2
  have G : Gw D vwCl [(cA, .int)] AA ss ss.heap H locs (wM cA a (sP τ x)) := G
  refine lv_istore_n (lv' := [(3, .int (nI n1)), (2, .int (nI a1)), (0, .ref (a 0)), (1, .int 2)]) hx hb d_M_answer_11 rfl hl (by decide) rfl (fun ls hl => ?_)
  refine lv_aload_n hx hb d_M_answer_12 rfl (lv_at hl 2 rfl) ?_
  refine lv_iload_n hx hb d_M_answer_13 rfl (lv_at hl 3 rfl) ?_
  refine g_cVv (rest := []) S G (c_M_add l D cA a τ x 2 (by first | omega | (simp only [rAdd]; omega))) (cwV 1 S.2.2.2.2 ml_M_81 rfl rfl rfl (by decide +kernel) ⟨Nat.le_of_ble_eq_true rfl, Nat.le_of_ble_eq_true rfl⟩) [0, 1, 2, 3, 4, 5, 6, 7] [] rfl rfl rfl rfl (by decide) 0 rfl rfl rfl hl.1 rfl (Nat.le_of_ble_eq_true rfl) d_M_answer_14 ⟨Nat.le_of_ble_eq_true rfl, Nat.le_of_ble_eq_true rfl⟩ (fun wp_3 H locs hp_3 G => ?_)
  subst hp_3
  have G : Gw D vwCl [(cA, .int)] AA ss ss.heap H locs (wM cA a (sP τ (rAdd x 2))) := G
  refine lv_iload_n hx hb d_M_answer_17 rfl (lv_at hl 3 rfl) ?_
  refine lv_iconst (v := 3) hx hb d_M_answer_18 (by decide) ?_
  have k_4 : ¬ ((3 : Int32) ≤ 2) := by decide
  refine lv_icmp_ge (tgt := 106) hx hb d_M_answer_19 (by decide) (fun h9 => absurd h9 k_4) (fun _ => ?_)
  refine lv_aload_n hx hb d_M_answer_22 rfl (lv_at hl 2 rfl) ?_
  refine lv_iload_n hx hb d_M_answer_23 rfl (lv_at hl 0 rfl) ?_
  refine lv_bipush (v := 7) hx hb d_M_answer_24 (by decide) ?_
  refine lv_iadd hx hb d_M_answer_26 ?_
  refine lv_bipush (v := 8) hx hb d_M_answer_27 (by decide) ?_
  refine lv_idiv hx hb d_M_answer_29 (by decide) ?_
  refine g_cVv (rest := []) S G (c_M_add l D cA a τ (rAdd x 2) (((nI n1) + 7) / 8) (by first | omega | (simp only [rAdd]; omega))) (cwV 1 S.2.2.2.2 ml_M_81 rfl rfl rfl (by decide +kernel) ⟨Nat.le_of_ble_eq_true rfl, Nat.le_of_ble_eq_true rfl⟩) [0, 1, 2, 3, 4, 5, 6, 7] [] rfl rfl rfl rfl (by decide) 0 rfl rfl rfl hl.1 rfl (Nat.le_of_ble_eq_true rfl) d_M_answer_30 ⟨Nat.le_of_ble_eq_true rfl, Nat.le_of_ble_eq_true rfl⟩ (fun wp_5 H locs hp_5 G => ?_)
  subst hp_5
  have G : Gw D vwCl [(cA, .int)] AA ss ss.heap H locs (wM cA a (sP τ (rAdd (rAdd x 2) (((nI n1) + 7) / 8)))) := G
  refine lv_iconst (v := 0) hx hb d_M_answer_33 (by decide) ?_
  refine lv_istore (lv' := [(4, .int 0), (3, .int (nI n1)), (2, .int (nI a1)), (0, .ref (a 0)), (1, .int 2)]) hx hb d_M_answer_34 hl (by decide) rfl (fun ls hl => ?_)
  have lp : ∀ (n : Nat) (i : Nat) (y2 : Rp) (H : Heap) (locs : List Loc) (ls : Array Slot), (i + 8 * n = 8 * ((n1 + 7) / 8)) → (mBits (τ 2) a1 n1 n i y2 = mAnsB (τ 2) 2 a1 n1 x) → (y2.2 + n ≤ 100) → Gw D vwCl [(cA, .int)] AA ss ss.heap H locs (wM cA a (sP τ y2)) → lv_has ls 7 [(0, .ref (a 0)), (1, .int 2), (2, .int (nI a1)), (3, .int (nI n1)), (4, .int (nI i))] → W pp l ee rm_M_answer ss mm args below meth cx H locs 0 0 (Zv D vwCl [(cA, .int)] AA ss args below 0 0 (fun w0 => w0 = wM cA a (sP τ (mAnsB (τ 2) 2 a1 n1 x)))) (F0 mm 36 ls []) := by
    intro n
    induction n with
    | zero =>
      intro i y2 H locs ls hi hF hz2 G hl
      refine lv_iload hx hb d_M_answer_36 (lv_at hl 4 rfl) ?_
      refine lv_iload_n hx hb d_M_answer_38 rfl (lv_at hl 3 rfl) ?_
      have k_6 : (nI n1) ≤ (nI i) := nI_le (by omega) (by omega)
      refine lv_icmp_ge (tgt := 103) hx hb d_M_answer_39 (by decide) (fun _ => ?_) (fun h9 => absurd k_6 h9)
      refine lv_goto (tgt := 197) hx hb d_M_answer_103 (by decide) ?_
      exact g_retv S hr hlk G (congrArg (fun q => wM cA a (sP τ q)) hF) (Nat.le_refl _) (Nat.le_refl _) d_M_answer_197
    | succ n ih =>
      intro i y2 H locs ls hi hF hz2 G hl
      refine lv_iload hx hb d_M_answer_36 (lv_at hl 4 rfl) ?_
      refine lv_iload_n hx hb d_M_answer_38 rfl (lv_at hl 3 rfl) ?_
      have k_7 : ¬ ((nI n1) ≤ (nI i)) := nI_ge (by omega) (by omega)
      refine lv_icmp_ge (tgt := 103) hx hb d_M_answer_39 (by decide) (fun h9 => absurd h9 k_7) (fun _ => ?_)
      refine lv_iconst (v := 0) hx hb d_M_answer_42 (by decide) ?_
      refine lv_istore (lv' := [(5, .int 0), (0, .ref (a 0)), (1, .int 2), (2, .int (nI a1)), (3, .int (nI n1)), (4, .int (nI i))]) hx hb d_M_answer_43 hl (by decide) rfl (fun ls hl => ?_)
      refine lv_iconst (v := 0) hx hb d_M_answer_45 (by decide) ?_
      refine lv_istore (lv' := [(6, .int 0), (5, .int 0), (0, .ref (a 0)), (1, .int 2), (2, .int (nI a1)), (3, .int (nI n1)), (4, .int (nI i))]) hx hb d_M_answer_46 hl (by decide) rfl (fun ls hl => ?_)
      have lpj : ∀ (m : Nat) (j : Nat) (y : Int32) (H : Heap) (locs : List Loc) (ls : Array Slot), (j + m = min 8 (n1 - i)) → (mPk (τ 2) (a1 + i) m j y = mPk (τ 2) (a1 + i) (min 8 (n1 - i)) 0 0) → Gw D vwCl [(cA, .int)] AA ss ss.heap H locs (wM cA a (sP τ y2)) → lv_has ls 7 [(0, .ref (a 0)), (1, .int 2), (2, .int (nI a1)), (3, .int (nI n1)), (4, .int (nI i)), (5, .int y), (6, .int (nI j))] → W pp l ee rm_M_answer ss mm args below meth cx H locs 0 0 (Zv D vwCl [(cA, .int)] AA ss args below 0 0 (fun w0 => w0 = wM cA a (sP τ (mAnsB (τ 2) 2 a1 n1 x)))) (F0 mm 48 ls []) := by
        intro m
        induction m with
        | zero =>
          intro j y H locs ls hj hP G hl
          refine lv_iload hx hb d_M_answer_48 (lv_at hl 6 rfl) ?_
          refine lv_bipush (v := 8) hx hb d_M_answer_50 (by decide) ?_
          refine lv_icmp_ge (tgt := 91) hx hb d_M_answer_52 (by decide) (fun c_8 => ?_) (fun c_8 => ?_)
          · refine lv_aload_n hx hb d_M_answer_91 rfl (lv_at hl 0 rfl) ?_
            refine lv_iload hx hb d_M_answer_92 (lv_at hl 5 rfl) ?_
            refine g_cVv (rest := []) S G (c_M_add l D cA a τ y2 y (by first | omega | (simp only [rAdd]; omega))) (cwV 1 S.2.2.2.2 ml_M_81 rfl rfl rfl (by decide +kernel) ⟨Nat.le_of_ble_eq_true rfl, Nat.le_of_ble_eq_true rfl⟩) [0, 1, 2, 3, 4, 5, 6, 7] [] rfl rfl rfl rfl (by decide) 0 rfl rfl rfl hl.1 rfl (Nat.le_of_ble_eq_true rfl) d_M_answer_94 ⟨Nat.le_of_ble_eq_true rfl, Nat.le_of_ble_eq_true rfl⟩ (fun wp_9 H locs hp_9 G => ?_)
            subst hp_9
            have G : Gw D vwCl [(cA, .int)] AA ss ss.heap H locs (wM cA a (sP τ (rAdd y2 y))) := G
            refine lv_iinc (v := (nI i) + 8) (lv' := [(4, .int ((nI i) + 8)), (0, .ref (a 0)), (1, .int 2), (2, .int (nI a1)), (3, .int (nI n1)), (5, .int y), (6, .int (nI j))]) hx hb d_M_answer_97 hl (k := 4) rfl rfl (by decide) rfl (fun ls hl => ?_)
            refine lv_goto (tgt := 36) hx hb d_M_answer_100 (by decide) ?_
            have hl := lv_sub hl [1, 2, 3, 4, 0] rfl
            rw [show nI i + 8 = nI (i + 8) from nI_add i 8] at hl
            exact ih (i + 8) _ H locs ls (by omega) (by rw [show y = _ from hP]; exact hF) (by simp only [rAdd]; omega) G hl
          · refine lv_iload hx hb d_M_answer_55 (lv_at hl 4 rfl) ?_
            refine lv_iload hx hb d_M_answer_57 (lv_at hl 6 rfl) ?_
            refine lv_iadd hx hb d_M_answer_59 ?_
            refine lv_iload_n hx hb d_M_answer_60 rfl (lv_at hl 3 rfl) ?_
            have k_10 : (nI n1) ≤ ((nI i) + (nI j)) := by have h8 := lt_of_nle (n := 8) c_8 (by omega); rw [nI_add]; exact nI_le (by omega) (by omega)
            refine lv_icmp_ge (tgt := 91) hx hb d_M_answer_61 (by decide) (fun _ => ?_) (fun h9 => absurd k_10 h9)
            refine lv_aload_n hx hb d_M_answer_91 rfl (lv_at hl 0 rfl) ?_
            refine lv_iload hx hb d_M_answer_92 (lv_at hl 5 rfl) ?_
            refine g_cVv (rest := []) S G (c_M_add l D cA a τ y2 y (by first | omega | (simp only [rAdd]; omega))) (cwV 1 S.2.2.2.2 ml_M_81 rfl rfl rfl (by decide +kernel) ⟨Nat.le_of_ble_eq_true rfl, Nat.le_of_ble_eq_true rfl⟩) [0, 1, 2, 3, 4, 5, 6, 7] [] rfl rfl rfl rfl (by decide) 0 rfl rfl rfl hl.1 rfl (Nat.le_of_ble_eq_true rfl) d_M_answer_94 ⟨Nat.le_of_ble_eq_true rfl, Nat.le_of_ble_eq_true rfl⟩ (fun wp_11 H locs hp_11 G => ?_)
            subst hp_11
            have G : Gw D vwCl [(cA, .int)] AA ss ss.heap H locs (wM cA a (sP τ (rAdd y2 y))) := G
            refine lv_iinc (v := (nI i) + 8) (lv' := [(4, .int ((nI i) + 8)), (0, .ref (a 0)), (1, .int 2), (2, .int (nI a1)), (3, .int (nI n1)), (5, .int y), (6, .int (nI j))]) hx hb d_M_answer_97 hl (k := 4) rfl rfl (by decide) rfl (fun ls hl => ?_)
            refine lv_goto (tgt := 36) hx hb d_M_answer_100 (by decide) ?_
            have hl := lv_sub hl [1, 2, 3, 4, 0] rfl
            rw [show nI i + 8 = nI (i + 8) from nI_add i 8] at hl
            exact ih (i + 8) _ H locs ls (by omega) (by rw [show y = _ from hP]; exact hF) (by simp only [rAdd]; omega) G hl
        | succ m ih =>
          intro j y H locs ls hj hP G hl
          refine lv_iload hx hb d_M_answer_48 (lv_at hl 6 rfl) ?_
          refine lv_bipush (v := 8) hx hb d_M_answer_50 (by decide) ?_
          have k_12 : ¬ (8 ≤ (nI j)) := nI_ge (b := 8) (by omega) (by decide)
          refine lv_icmp_ge (tgt := 91) hx hb d_M_answer_52 (by decide) (fun h9 => absurd h9 k_12) (fun _ => ?_)
          refine lv_iload hx hb d_M_answer_55 (lv_at hl 4 rfl) ?_
          refine lv_iload hx hb d_M_answer_57 (lv_at hl 6 rfl) ?_
          refine lv_iadd hx hb d_M_answer_59 ?_
          refine lv_iload_n hx hb d_M_answer_60 rfl (lv_at hl 3 rfl) ?_
          have k_13 : ¬ ((nI n1) ≤ ((nI i) + (nI j))) := by rw [nI_add]; exact nI_ge (by omega) (by omega)
          refine lv_icmp_ge (tgt := 91) hx hb d_M_answer_61 (by decide) (fun h9 => absurd h9 k_13) (fun _ => ?_)
          refine lv_iload hx hb d_M_answer_64 (lv_at hl 5 rfl) ?_
          refine lv_aload_n hx hb d_M_answer_66 rfl (lv_at hl 0 rfl) ?_
          refine lv_iload_n hx hb d_M_answer_67 rfl (lv_at hl 1 rfl) ?_
          refine g_cVq (rest := [.int y]) S G (c_M_table l D cA a (sP τ y2) 2) (cwV 1 S.2.2.2.2 ml_M_91 rfl rfl rfl (by decide +kernel) ⟨Nat.le_of_ble_eq_true rfl, Nat.le_of_ble_eq_true rfl⟩) [0, 1, 2, 3, 4, 5, 6, 7] [] rfl rfl rfl rfl (by decide) 0 rfl rfl rfl hl.1 rfl (Nat.le_of_ble_eq_true rfl) d_M_answer_68 ⟨Nat.le_of_ble_eq_true rfl, Nat.le_of_ble_eq_true rfl⟩ (fun rp_14 wp_14 H locs hp_14 G => ?_)
          obtain ⟨rfl, rfl⟩ := hp_14
          have G : Gw D vwCl [(cA, .int)] AA ss ss.heap H locs (wM cA a (sP τ y2)) := G
          refine W.eq (g2 := F0 mm 71 ls [.ref (a 2), .int y]) rfl ?_
          refine lv_iload_n hx hb d_M_answer_71 rfl (lv_at hl 2 rfl) ?_
          refine lv_iload hx hb d_M_answer_72 (lv_at hl 4 rfl) ?_
          refine lv_iadd hx hb d_M_answer_74 ?_
          refine lv_iload hx hb d_M_answer_75 (lv_at hl 6 rfl) ?_
          refine lv_iadd hx hb d_M_answer_77 ?_
          refine g_ialdj S G 2 0 (τ 2) rfl rfl (a1 + i + j) (by rw [nI_add, nI_add]; exact nI_clamp (by omega)) (by rw [nI_add, nI_add]; exact vp_in_nI (by omega) (by decide)) d_M_answer_78 ?_
          refine lv_iload hx hb d_M_answer_79 (lv_at hl 6 rfl) ?_
          refine lv_ishl hx hb d_M_answer_81 ?_
          refine lv_iadd hx hb d_M_answer_82 ?_
          refine lv_istore (lv' := [(5, .int (y + (((τ 2) (a1 + i + j)) <<< ((nI j) &&& 31)))), (0, .ref (a 0)), (1, .int 2), (2, .int (nI a1)), (3, .int (nI n1)), (4, .int (nI i)), (6, .int (nI j))]) hx hb d_M_answer_83 hl (by decide) rfl (fun ls hl => ?_)
          refine lv_iinc (v := (nI j) + 1) (lv' := [(6, .int ((nI j) + 1)), (5, .int (y + (((τ 2) (a1 + i + j)) <<< ((nI j) &&& 31)))), (0, .ref (a 0)), (1, .int 2), (2, .int (nI a1)), (3, .int (nI n1)), (4, .int (nI i))]) hx hb d_M_answer_85 hl (k := 6) rfl rfl (by decide) rfl (fun ls hl => ?_)
          refine lv_goto (tgt := 48) hx hb d_M_answer_88 (by decide) ?_
          have hl := lv_sub hl [2, 3, 4, 5, 6, 1, 0] rfl
          rw [nI_1 j] at hl
          exact ih (j + 1) _ H locs ls (by omega) hP G hl
      exact lpj (min 8 (n1 - i)) 0 0 _ _ ls (Nat.zero_add _) rfl G (lv_sub hl [2, 3, 4, 5, 6, 1, 0] rfl)
  exact lp ((n1 + 7) / 8) 0 _ _ _ ls (by omega) rfl (by simp only [rAdd]; omega) G (lv_sub hl [3, 4, 2, 1, 0] rfl)

set_option maxHeartbeats 1000000 in
set_option maxRecDepth 100000 in
theorem c_M_answer3 (l : Launch) (D : va_G) (cA : ClassId) (a : Nat → Nat) (τ : St) (x : Rp) (a1 n1 : Nat) (ha : mTwo (τ 5) 0 = nI a1) (hn : mTwo (τ 5) 2 = nI n1) (hz : x.2 ≤ 10) (hb : a1 + n1 ≤ 64) : Cv l y_M_answer w_M_answer rm_M_answer D vwCl [(cA, .int)] [.ref (a 0), .int 3] (wM cA a (sP τ x)) 0 0 (fun w0 => w0 = wM cA a (sP τ (mAnsN (τ 3) 3 a1 n1 x))) := by
  refine Cv.of (Ts := lw_g) (own := "WireSlaveModel") (cc := b_M_answer) (maxL := 7) (ret := none) (lv := [(0, .ref (a 0)), (1, .int 3)]) (by decide) rfl rfl (fun w h => List.mem_cons_of_mem _ h) (Nat.le_of_ble_eq_true rfl) rfl ?_
  intro pp ee ss mm args below meth cx AA S hr hlk hnm G ls hl
  have hx := S.1
  have hb := S.2.1
  refine lv_aload_n hx hb d_M_answer_0 rfl (lv_at hl 0 rfl) ?_
  refine lv_iconst (v := 0) hx hb d_M_answer_1 (by decide) ?_
  refine g_cVi (rest := []) S G (c_M_two l D cA a (sP τ x) 0 (by unfold vp_in; decide) (by unfold vp_in; decide)) (cwV 1 S.2.2.2.2 ml_M_87 rfl rfl rfl (by decide +kernel) ⟨Nat.le_of_ble_eq_true rfl, Nat.le_of_ble_eq_true rfl⟩) [0, 1, 2, 3, 4, 5, 6, 7] [] rfl rfl rfl rfl (by decide) 0 rfl rfl rfl hl.1 rfl (Nat.le_of_ble_eq_true rfl) d_M_answer_2 ⟨Nat.le_of_ble_eq_true rfl, Nat.le_of_ble_eq_true rfl⟩ (fun rp_1 wp_1 H locs hp_1 G => ?_)
  obtain ⟨ep_1, rfl⟩ := hp_1
  have ep_1 : rp_1 = mTwo (τ 5) 0 := ep_1
  replace ep_1 := ep_1.trans ha
  replace ep_1 := ep_1.symm
  subst ep_1
  have G : Gw D vwCl [(cA, .int)] AA ss ss.heap H locs (wM cA a (sP τ x)) := G
  refine lv_istore_n (lv' := [(2, .int (nI a1)), (0, .ref (a 0)), (1, .int 3)]) hx hb d_M_answer_5 rfl hl (by decide) rfl (fun ls hl => ?_)
  refine lv_aload_n hx hb d_M_answer_6 rfl (lv_at hl 1 rfl) ?_
  refine lv_iconst (v := 2) hx hb d_M_answer_7 (by decide) ?_
  refine g_cVi (rest := []) S G (c_M_two l D cA a (sP τ x) 2 (by unfold vp_in; decide) (by unfold vp_in; decide)) (cwV 1 S.2.2.2.2 ml_M_87 rfl rfl rfl (by decide +kernel) ⟨Nat.le_of_ble_eq_true rfl, Nat.le_of_ble_eq_true rfl⟩) [0, 1, 2, 3, 4, 5, 6, 7] [] rfl rfl rfl rfl (by decide) 0 rfl rfl rfl hl.1 rfl (Nat.le_of_ble_eq_true rfl) d_M_answer_8 ⟨Nat.le_of_ble_eq_true rfl, Nat.le_of_ble_eq_true rfl⟩ (fun rp_2 wp_2 H locs hp_2 G => ?_)
  obtain ⟨ep_2, rfl⟩ := hp_2
  have ep_2 : rp_2 = mTwo (τ 5) 2 := ep_2
  replace ep_2 := ep_2.trans hn
  replace ep_2 := ep_2.symm
  subst ep_2
  have G : Gw D vwCl [(cA, .int)] AA ss ss.heap H locs (wM cA a (sP τ x)) := G
  refine lv_istore_n (lv' := [(3, .int (nI n1)), (2, .int (nI a1)), (0, .ref (a 0)), (1, .int 3)]) hx hb d_M_answer_11 rfl hl (by decide) rfl (fun ls hl => ?_)
  refine lv_aload_n hx hb d_M_answer_12 rfl (lv_at hl 2 rfl) ?_
  refine lv_iload_n hx hb d_M_answer_13 rfl (lv_at hl 3 rfl) ?_
  refine g_cVv (rest := []) S G (c_M_add l D cA a τ x 3 (by first | omega | (simp only [rAdd]; omega))) (cwV 1 S.2.2.2.2 ml_M_81 rfl rfl rfl (by decide +kernel) ⟨Nat.le_of_ble_eq_true rfl, Nat.le_of_ble_eq_true rfl⟩) [0, 1, 2, 3, 4, 5, 6, 7] [] rfl rfl rfl rfl (by decide) 0 rfl rfl rfl hl.1 rfl (Nat.le_of_ble_eq_true rfl) d_M_answer_14 ⟨Nat.le_of_ble_eq_true rfl, Nat.le_of_ble_eq_true rfl⟩ (fun wp_3 H locs hp_3 G => ?_)
  subst hp_3
  have G : Gw D vwCl [(cA, .int)] AA ss ss.heap H locs (wM cA a (sP τ (rAdd x 3))) := G
  refine lv_iload_n hx hb d_M_answer_17 rfl (lv_at hl 3 rfl) ?_
  refine lv_iconst (v := 3) hx hb d_M_answer_18 (by decide) ?_
  have k_4 : (3 : Int32) ≤ 3 := by decide
  refine lv_icmp_ge (tgt := 106) hx hb d_M_answer_19 (by decide) (fun _ => ?_) (fun h9 => absurd k_4 h9)
  refine lv_iload_n hx hb d_M_answer_106 rfl (lv_at hl 3 rfl) ?_
  refine lv_iconst (v := 5) hx hb d_M_answer_107 (by decide) ?_
  have k_5 : ¬ ((5 : Int32) ≤ 3) := by decide
  refine lv_icmp_ge (tgt := 172) hx hb d_M_answer_108 (by decide) (fun h9 => absurd h9 k_5) (fun _ => ?_)
  refine lv_aload_n hx hb d_M_answer_111 rfl (lv_at hl 2 rfl) ?_
  refine lv_iconst (v := 2) hx hb d_M_answer_112 (by decide) ?_
  refine lv_iload_n hx hb d_M_answer_113 rfl (lv_at hl 0 rfl) ?_
  refine lv_imul hx hb d_M_answer_114 ?_
  refine g_cVv (rest := []) S G (c_M_add l D cA a τ (rAdd x 3) (2 * (nI n1)) (by first | omega | (simp only [rAdd]; omega))) (cwV 1 S.2.2.2.2 ml_M_81 rfl rfl rfl (by decide +kernel) ⟨Nat.le_of_ble_eq_true rfl, Nat.le_of_ble_eq_true rfl⟩) [0, 1, 2, 3, 4, 5, 6, 7] [] rfl rfl rfl rfl (by decide) 0 rfl rfl rfl hl.1 rfl (Nat.le_of_ble_eq_true rfl) d_M_answer_115 ⟨Nat.le_of_ble_eq_true rfl, Nat.le_of_ble_eq_true rfl⟩ (fun wp_6 H locs hp_6 G => ?_)
  subst hp_6
  have G : Gw D vwCl [(cA, .int)] AA ss ss.heap H locs (wM cA a (sP τ (rAdd (rAdd x 3) (2 * (nI n1))))) := G
  refine lv_iconst (v := 0) hx hb d_M_answer_118 (by decide) ?_
  refine lv_istore (lv' := [(4, .int 0), (3, .int (nI n1)), (2, .int (nI a1)), (0, .ref (a 0)), (1, .int 3)]) hx hb d_M_answer_119 hl (by decide) rfl (fun ls hl => ?_)
  have lp : ∀ (n : Nat) (i : Nat) (y2 : Rp) (H : Heap) (locs : List Loc) (ls : Array Slot), (i + n = n1) → (mNums (τ 3) a1 n i y2 = mAnsN (τ 3) 3 a1 n1 x) → (y2.2 + 2 * n ≤ 200) → Gw D vwCl [(cA, .int)] AA ss ss.heap H locs (wM cA a (sP τ y2)) → lv_has ls 7 [(0, .ref (a 0)), (1, .int 3), (2, .int (nI a1)), (3, .int (nI n1)), (4, .int (nI i))] → W pp l ee rm_M_answer ss mm args below meth cx H locs 0 0 (Zv D vwCl [(cA, .int)] AA ss args below 0 0 (fun w0 => w0 = wM cA a (sP τ (mAnsN (τ 3) 3 a1 n1 x)))) (F0 mm 121 ls []) := by
    intro n
    induction n with
    | zero =>
      intro i y2 H locs ls hi hF hz2 G hl
      refine lv_iload hx hb d_M_answer_121 (lv_at hl 4 rfl) ?_
      refine lv_iload_n hx hb d_M_answer_123 rfl (lv_at hl 3 rfl) ?_
      have k_7 : (nI n1) ≤ (nI i) := nI_le (by omega) (by omega)
      refine lv_icmp_ge (tgt := 169) hx hb d_M_answer_124 (by decide) (fun _ => ?_) (fun h9 => absurd k_7 h9)
      refine lv_goto (tgt := 197) hx hb d_M_answer_169 (by decide) ?_
      exact g_retv S hr hlk G (congrArg (fun q => wM cA a (sP τ q)) hF) (Nat.le_refl _) (Nat.le_refl _) d_M_answer_197
    | succ n ih =>
      intro i y2 H locs ls hi hF hz2 G hl
      refine lv_iload hx hb d_M_answer_121 (lv_at hl 4 rfl) ?_
      refine lv_iload_n hx hb d_M_answer_123 rfl (lv_at hl 3 rfl) ?_
      have k_8 : ¬ ((nI n1) ≤ (nI i)) := nI_ge (by omega) (by omega)
      refine lv_icmp_ge (tgt := 169) hx hb d_M_answer_124 (by decide) (fun h9 => absurd h9 k_8) (fun _ => ?_)
      refine lv_aload_n hx hb d_M_answer_127 rfl (lv_at hl 0 rfl) ?_
      refine lv_aload_n hx hb d_M_answer_128 rfl (lv_at hl 0 rfl) ?_
      refine lv_iload_n hx hb d_M_answer_129 rfl (lv_at hl 1 rfl) ?_
      refine g_cVq (rest := [.ref (a 0)]) S G (c_M_table l D cA a (sP τ y2) 3) (cwV 1 S.2.2.2.2 ml_M_91 rfl rfl rfl (by decide +kernel) ⟨Nat.le_of_ble_eq_true rfl, Nat.le_of_ble_eq_true rfl⟩) [0, 1, 2, 3, 4, 5, 6, 7] [] rfl rfl rfl rfl (by decide) 0 rfl rfl rfl hl.1 rfl (Nat.le_of_ble_eq_true rfl) d_M_answer_130 ⟨Nat.le_of_ble_eq_true rfl, Nat.le_of_ble_eq_true rfl⟩ (fun rp_9 wp_9 H locs hp_9 G => ?_)
      obtain ⟨rfl, rfl⟩ := hp_9
      have G : Gw D vwCl [(cA, .int)] AA ss ss.heap H locs (wM cA a (sP τ y2)) := G
      refine W.eq (g2 := F0 mm 133 ls [.ref (a 3), .ref (a 0)]) rfl ?_
      refine lv_iload_n hx hb d_M_answer_133 rfl (lv_at hl 2 rfl) ?_
      refine lv_iload hx hb d_M_answer_134 (lv_at hl 4 rfl) ?_
      refine lv_iadd hx hb d_M_answer_136 ?_
      refine g_ialdj S G 3 0 (τ 3) rfl rfl (a1 + i) (by rw [nI_add]; exact nI_clamp (by omega)) (by rw [nI_add]; exact vp_in_nI (by omega) (by decide)) d_M_answer_137 ?_
      refine lv_sipush (v := 256) hx hb d_M_answer_138 (by decide) ?_
      refine lv_idiv hx hb d_M_answer_141 (by decide) ?_
      refine g_cVv (rest := []) S G (c_M_add l D cA a τ y2 (((τ 3) (a1 + i)) / 256) (by first | omega | (simp only [rAdd]; omega))) (cwV 1 S.2.2.2.2 ml_M_81 rfl rfl rfl (by decide +kernel) ⟨Nat.le_of_ble_eq_true rfl, Nat.le_of_ble_eq_true rfl⟩) [0, 1, 2, 3, 4, 5, 6, 7] [] rfl rfl rfl rfl (by decide) 0 rfl rfl rfl hl.1 rfl (Nat.le_of_ble_eq_true rfl) d_M_answer_142 ⟨Nat.le_of_ble_eq_true rfl, Nat.le_of_ble_eq_true rfl⟩ (fun wp_10 H locs hp_10 G => ?_)
      subst hp_10
      have G : Gw D vwCl [(cA, .int)] AA ss ss.heap H locs (wM cA a (sP τ (rAdd y2 (((τ 3) (a1 + i)) / 256)))) := G
      refine lv_aload_n hx hb d_M_answer_145 rfl (lv_at hl 0 rfl) ?_
      refine lv_aload_n hx hb d_M_answer_146 rfl (lv_at hl 0 rfl) ?_
      refine lv_iload_n hx hb d_M_answer_147 rfl (lv_at hl 1 rfl) ?_
      refine g_cVq (rest := [.ref (a 0)]) S G (c_M_table l D cA a (sP τ (rAdd y2 (((τ 3) (a1 + i)) / 256))) 3) (cwV 1 S.2.2.2.2 ml_M_91 rfl rfl rfl (by decide +kernel) ⟨Nat.le_of_ble_eq_true rfl, Nat.le_of_ble_eq_true rfl⟩) [0, 1, 2, 3, 4, 5, 6, 7] [] rfl rfl rfl rfl (by decide) 0 rfl rfl rfl hl.1 rfl (Nat.le_of_ble_eq_true rfl) d_M_answer_148 ⟨Nat.le_of_ble_eq_true rfl, Nat.le_of_ble_eq_true rfl⟩ (fun rp_11 wp_11 H locs hp_11 G => ?_)
      obtain ⟨rfl, rfl⟩ := hp_11
      have G : Gw D vwCl [(cA, .int)] AA ss ss.heap H locs (wM cA a (sP τ (rAdd y2 (((τ 3) (a1 + i)) / 256)))) := G
      refine W.eq (g2 := F0 mm 151 ls [.ref (a 3), .ref (a 0)]) rfl ?_
      refine lv_iload_n hx hb d_M_answer_151 rfl (lv_at hl 2 rfl) ?_
      refine lv_iload hx hb d_M_answer_152 (lv_at hl 4 rfl) ?_
      refine lv_iadd hx hb d_M_answer_154 ?_
      refine g_ialdj S G 3 0 (τ 3) rfl rfl (a1 + i) (by rw [nI_add]; exact nI_clamp (by omega)) (by rw [nI_add]; exact vp_in_nI (by omega) (by decide)) d_M_answer_155 ?_
      refine lv_sipush (v := 256) hx hb d_M_answer_156 (by decide) ?_
      refine lv_irem hx hb d_M_answer_159 (by decide) ?_
      refine g_cVv (rest := []) S G (c_M_add l D cA a τ (rAdd y2 (((τ 3) (a1 + i)) / 256)) (((τ 3) (a1 + i)) - ((τ 3) (a1 + i)) / 256 * 256) (by first | omega | (simp only [rAdd]; omega))) (cwV 1 S.2.2.2.2 ml_M_81 rfl rfl rfl (by decide +kernel) ⟨Nat.le_of_ble_eq_true rfl, Nat.le_of_ble_eq_true rfl⟩) [0, 1, 2, 3, 4, 5, 6, 7] [] rfl rfl rfl rfl (by decide) 0 rfl rfl rfl hl.1 rfl (Nat.le_of_ble_eq_true rfl) d_M_answer_160 ⟨Nat.le_of_ble_eq_true rfl, Nat.le_of_ble_eq_true rfl⟩ (fun wp_12 H locs hp_12 G => ?_)
      subst hp_12
      have G : Gw D vwCl [(cA, .int)] AA ss ss.heap H locs (wM cA a (sP τ (rAdd (rAdd y2 (((τ 3) (a1 + i)) / 256)) (((τ 3) (a1 + i)) - ((τ 3) (a1 + i)) / 256 * 256)))) := G
      refine lv_iinc (v := (nI i) + 1) (lv' := [(4, .int ((nI i) + 1)), (0, .ref (a 0)), (1, .int 3), (2, .int (nI a1)), (3, .int (nI n1))]) hx hb d_M_answer_163 hl (k := 4) rfl rfl (by decide) rfl (fun ls hl => ?_)
      refine lv_goto (tgt := 121) hx hb d_M_answer_166 (by decide) ?_
      have hl := lv_sub hl [1, 2, 3, 4, 0] rfl
      rw [nI_1] at hl
      exact ih (i + 1) _ H locs ls (by omega) hF (by simp only [rAdd]; omega) G hl
  exact lp n1 0 _ _ _ ls (Nat.zero_add _) rfl (by simp only [rAdd]; omega) G (lv_sub hl [3, 4, 2, 1, 0] rfl)

set_option maxHeartbeats 1000000 in
set_option maxRecDepth 100000 in
theorem c_M_answer4 (l : Launch) (D : va_G) (cA : ClassId) (a : Nat → Nat) (τ : St) (x : Rp) (a1 n1 : Nat) (ha : mTwo (τ 5) 0 = nI a1) (hn : mTwo (τ 5) 2 = nI n1) (hz : x.2 ≤ 10) (hb : a1 + n1 ≤ 64) : Cv l y_M_answer w_M_answer rm_M_answer D vwCl [(cA, .int)] [.ref (a 0), .int 4] (wM cA a (sP τ x)) 0 0 (fun w0 => w0 = wM cA a (sP τ (mAnsN (τ 4) 4 a1 n1 x))) := by
  refine Cv.of (Ts := lw_g) (own := "WireSlaveModel") (cc := b_M_answer) (maxL := 7) (ret := none) (lv := [(0, .ref (a 0)), (1, .int 4)]) (by decide) rfl rfl (fun w h => List.mem_cons_of_mem _ h) (Nat.le_of_ble_eq_true rfl) rfl ?_
  intro pp ee ss mm args below meth cx AA S hr hlk hnm G ls hl
  have hx := S.1
  have hb := S.2.1
  refine lv_aload_n hx hb d_M_answer_0 rfl (lv_at hl 0 rfl) ?_
  refine lv_iconst (v := 0) hx hb d_M_answer_1 (by decide) ?_
  refine g_cVi (rest := []) S G (c_M_two l D cA a (sP τ x) 0 (by unfold vp_in; decide) (by unfold vp_in; decide)) (cwV 1 S.2.2.2.2 ml_M_87 rfl rfl rfl (by decide +kernel) ⟨Nat.le_of_ble_eq_true rfl, Nat.le_of_ble_eq_true rfl⟩) [0, 1, 2, 3, 4, 5, 6, 7] [] rfl rfl rfl rfl (by decide) 0 rfl rfl rfl hl.1 rfl (Nat.le_of_ble_eq_true rfl) d_M_answer_2 ⟨Nat.le_of_ble_eq_true rfl, Nat.le_of_ble_eq_true rfl⟩ (fun rp_1 wp_1 H locs hp_1 G => ?_)
  obtain ⟨ep_1, rfl⟩ := hp_1
  have ep_1 : rp_1 = mTwo (τ 5) 0 := ep_1
  replace ep_1 := ep_1.trans ha
  replace ep_1 := ep_1.symm
  subst ep_1
  have G : Gw D vwCl [(cA, .int)] AA ss ss.heap H locs (wM cA a (sP τ x)) := G
  refine lv_istore_n (lv' := [(2, .int (nI a1)), (0, .ref (a 0)), (1, .int 4)]) hx hb d_M_answer_5 rfl hl (by decide) rfl (fun ls hl => ?_)
  refine lv_aload_n hx hb d_M_answer_6 rfl (lv_at hl 1 rfl) ?_
  refine lv_iconst (v := 2) hx hb d_M_answer_7 (by decide) ?_
  refine g_cVi (rest := []) S G (c_M_two l D cA a (sP τ x) 2 (by unfold vp_in; decide) (by unfold vp_in; decide)) (cwV 1 S.2.2.2.2 ml_M_87 rfl rfl rfl (by decide +kernel) ⟨Nat.le_of_ble_eq_true rfl, Nat.le_of_ble_eq_true rfl⟩) [0, 1, 2, 3, 4, 5, 6, 7] [] rfl rfl rfl rfl (by decide) 0 rfl rfl rfl hl.1 rfl (Nat.le_of_ble_eq_true rfl) d_M_answer_8 ⟨Nat.le_of_ble_eq_true rfl, Nat.le_of_ble_eq_true rfl⟩ (fun rp_2 wp_2 H locs hp_2 G => ?_)
  obtain ⟨ep_2, rfl⟩ := hp_2
  have ep_2 : rp_2 = mTwo (τ 5) 2 := ep_2
  replace ep_2 := ep_2.trans hn
  replace ep_2 := ep_2.symm
  subst ep_2
  have G : Gw D vwCl [(cA, .int)] AA ss ss.heap H locs (wM cA a (sP τ x)) := G
  refine lv_istore_n (lv' := [(3, .int (nI n1)), (2, .int (nI a1)), (0, .ref (a 0)), (1, .int 4)]) hx hb d_M_answer_11 rfl hl (by decide) rfl (fun ls hl => ?_)
  refine lv_aload_n hx hb d_M_answer_12 rfl (lv_at hl 2 rfl) ?_
  refine lv_iload_n hx hb d_M_answer_13 rfl (lv_at hl 3 rfl) ?_
  refine g_cVv (rest := []) S G (c_M_add l D cA a τ x 4 (by first | omega | (simp only [rAdd]; omega))) (cwV 1 S.2.2.2.2 ml_M_81 rfl rfl rfl (by decide +kernel) ⟨Nat.le_of_ble_eq_true rfl, Nat.le_of_ble_eq_true rfl⟩) [0, 1, 2, 3, 4, 5, 6, 7] [] rfl rfl rfl rfl (by decide) 0 rfl rfl rfl hl.1 rfl (Nat.le_of_ble_eq_true rfl) d_M_answer_14 ⟨Nat.le_of_ble_eq_true rfl, Nat.le_of_ble_eq_true rfl⟩ (fun wp_3 H locs hp_3 G => ?_)
  subst hp_3
  have G : Gw D vwCl [(cA, .int)] AA ss ss.heap H locs (wM cA a (sP τ (rAdd x 4))) := G
  refine lv_iload_n hx hb d_M_answer_17 rfl (lv_at hl 3 rfl) ?_
  refine lv_iconst (v := 3) hx hb d_M_answer_18 (by decide) ?_
  have k_4 : (3 : Int32) ≤ 4 := by decide
  refine lv_icmp_ge (tgt := 106) hx hb d_M_answer_19 (by decide) (fun _ => ?_) (fun h9 => absurd k_4 h9)
  refine lv_iload_n hx hb d_M_answer_106 rfl (lv_at hl 3 rfl) ?_
  refine lv_iconst (v := 5) hx hb d_M_answer_107 (by decide) ?_
  have k_5 : ¬ ((5 : Int32) ≤ 4) := by decide
  refine lv_icmp_ge (tgt := 172) hx hb d_M_answer_108 (by decide) (fun h9 => absurd h9 k_5) (fun _ => ?_)
  refine lv_aload_n hx hb d_M_answer_111 rfl (lv_at hl 2 rfl) ?_
  refine lv_iconst (v := 2) hx hb d_M_answer_112 (by decide) ?_
  refine lv_iload_n hx hb d_M_answer_113 rfl (lv_at hl 0 rfl) ?_
  refine lv_imul hx hb d_M_answer_114 ?_
  refine g_cVv (rest := []) S G (c_M_add l D cA a τ (rAdd x 4) (2 * (nI n1)) (by first | omega | (simp only [rAdd]; omega))) (cwV 1 S.2.2.2.2 ml_M_81 rfl rfl rfl (by decide +kernel) ⟨Nat.le_of_ble_eq_true rfl, Nat.le_of_ble_eq_true rfl⟩) [0, 1, 2, 3, 4, 5, 6, 7] [] rfl rfl rfl rfl (by decide) 0 rfl rfl rfl hl.1 rfl (Nat.le_of_ble_eq_true rfl) d_M_answer_115 ⟨Nat.le_of_ble_eq_true rfl, Nat.le_of_ble_eq_true rfl⟩ (fun wp_6 H locs hp_6 G => ?_)
  subst hp_6
  have G : Gw D vwCl [(cA, .int)] AA ss ss.heap H locs (wM cA a (sP τ (rAdd (rAdd x 4) (2 * (nI n1))))) := G
  refine lv_iconst (v := 0) hx hb d_M_answer_118 (by decide) ?_
  refine lv_istore (lv' := [(4, .int 0), (3, .int (nI n1)), (2, .int (nI a1)), (0, .ref (a 0)), (1, .int 4)]) hx hb d_M_answer_119 hl (by decide) rfl (fun ls hl => ?_)
  have lp : ∀ (n : Nat) (i : Nat) (y2 : Rp) (H : Heap) (locs : List Loc) (ls : Array Slot), (i + n = n1) → (mNums (τ 4) a1 n i y2 = mAnsN (τ 4) 4 a1 n1 x) → (y2.2 + 2 * n ≤ 200) → Gw D vwCl [(cA, .int)] AA ss ss.heap H locs (wM cA a (sP τ y2)) → lv_has ls 7 [(0, .ref (a 0)), (1, .int 4), (2, .int (nI a1)), (3, .int (nI n1)), (4, .int (nI i))] → W pp l ee rm_M_answer ss mm args below meth cx H locs 0 0 (Zv D vwCl [(cA, .int)] AA ss args below 0 0 (fun w0 => w0 = wM cA a (sP τ (mAnsN (τ 4) 4 a1 n1 x)))) (F0 mm 121 ls []) := by
    intro n
    induction n with
    | zero =>
      intro i y2 H locs ls hi hF hz2 G hl
      refine lv_iload hx hb d_M_answer_121 (lv_at hl 4 rfl) ?_
      refine lv_iload_n hx hb d_M_answer_123 rfl (lv_at hl 3 rfl) ?_
      have k_7 : (nI n1) ≤ (nI i) := nI_le (by omega) (by omega)
      refine lv_icmp_ge (tgt := 169) hx hb d_M_answer_124 (by decide) (fun _ => ?_) (fun h9 => absurd k_7 h9)
      refine lv_goto (tgt := 197) hx hb d_M_answer_169 (by decide) ?_
      exact g_retv S hr hlk G (congrArg (fun q => wM cA a (sP τ q)) hF) (Nat.le_refl _) (Nat.le_refl _) d_M_answer_197
    | succ n ih =>
      intro i y2 H locs ls hi hF hz2 G hl
      refine lv_iload hx hb d_M_answer_121 (lv_at hl 4 rfl) ?_
      refine lv_iload_n hx hb d_M_answer_123 rfl (lv_at hl 3 rfl) ?_
      have k_8 : ¬ ((nI n1) ≤ (nI i)) := nI_ge (by omega) (by omega)
      refine lv_icmp_ge (tgt := 169) hx hb d_M_answer_124 (by decide) (fun h9 => absurd h9 k_8) (fun _ => ?_)
      refine lv_aload_n hx hb d_M_answer_127 rfl (lv_at hl 0 rfl) ?_
      refine lv_aload_n hx hb d_M_answer_128 rfl (lv_at hl 0 rfl) ?_
      refine lv_iload_n hx hb d_M_answer_129 rfl (lv_at hl 1 rfl) ?_
      refine g_cVq (rest := [.ref (a 0)]) S G (c_M_table l D cA a (sP τ y2) 4) (cwV 1 S.2.2.2.2 ml_M_91 rfl rfl rfl (by decide +kernel) ⟨Nat.le_of_ble_eq_true rfl, Nat.le_of_ble_eq_true rfl⟩) [0, 1, 2, 3, 4, 5, 6, 7] [] rfl rfl rfl rfl (by decide) 0 rfl rfl rfl hl.1 rfl (Nat.le_of_ble_eq_true rfl) d_M_answer_130 ⟨Nat.le_of_ble_eq_true rfl, Nat.le_of_ble_eq_true rfl⟩ (fun rp_9 wp_9 H locs hp_9 G => ?_)
      obtain ⟨rfl, rfl⟩ := hp_9
      have G : Gw D vwCl [(cA, .int)] AA ss ss.heap H locs (wM cA a (sP τ y2)) := G
      refine W.eq (g2 := F0 mm 133 ls [.ref (a 4), .ref (a 0)]) rfl ?_
      refine lv_iload_n hx hb d_M_answer_133 rfl (lv_at hl 2 rfl) ?_
      refine lv_iload hx hb d_M_answer_134 (lv_at hl 4 rfl) ?_
      refine lv_iadd hx hb d_M_answer_136 ?_
      refine g_ialdj S G 4 0 (τ 4) rfl rfl (a1 + i) (by rw [nI_add]; exact nI_clamp (by omega)) (by rw [nI_add]; exact vp_in_nI (by omega) (by decide)) d_M_answer_137 ?_
      refine lv_sipush (v := 256) hx hb d_M_answer_138 (by decide) ?_
      refine lv_idiv hx hb d_M_answer_141 (by decide) ?_
      refine g_cVv (rest := []) S G (c_M_add l D cA a τ y2 (((τ 4) (a1 + i)) / 256) (by first | omega | (simp only [rAdd]; omega))) (cwV 1 S.2.2.2.2 ml_M_81 rfl rfl rfl (by decide +kernel) ⟨Nat.le_of_ble_eq_true rfl, Nat.le_of_ble_eq_true rfl⟩) [0, 1, 2, 3, 4, 5, 6, 7] [] rfl rfl rfl rfl (by decide) 0 rfl rfl rfl hl.1 rfl (Nat.le_of_ble_eq_true rfl) d_M_answer_142 ⟨Nat.le_of_ble_eq_true rfl, Nat.le_of_ble_eq_true rfl⟩ (fun wp_10 H locs hp_10 G => ?_)
      subst hp_10
      have G : Gw D vwCl [(cA, .int)] AA ss ss.heap H locs (wM cA a (sP τ (rAdd y2 (((τ 4) (a1 + i)) / 256)))) := G
      refine lv_aload_n hx hb d_M_answer_145 rfl (lv_at hl 0 rfl) ?_
      refine lv_aload_n hx hb d_M_answer_146 rfl (lv_at hl 0 rfl) ?_
      refine lv_iload_n hx hb d_M_answer_147 rfl (lv_at hl 1 rfl) ?_
      refine g_cVq (rest := [.ref (a 0)]) S G (c_M_table l D cA a (sP τ (rAdd y2 (((τ 4) (a1 + i)) / 256))) 4) (cwV 1 S.2.2.2.2 ml_M_91 rfl rfl rfl (by decide +kernel) ⟨Nat.le_of_ble_eq_true rfl, Nat.le_of_ble_eq_true rfl⟩) [0, 1, 2, 3, 4, 5, 6, 7] [] rfl rfl rfl rfl (by decide) 0 rfl rfl rfl hl.1 rfl (Nat.le_of_ble_eq_true rfl) d_M_answer_148 ⟨Nat.le_of_ble_eq_true rfl, Nat.le_of_ble_eq_true rfl⟩ (fun rp_11 wp_11 H locs hp_11 G => ?_)
      obtain ⟨rfl, rfl⟩ := hp_11
      have G : Gw D vwCl [(cA, .int)] AA ss ss.heap H locs (wM cA a (sP τ (rAdd y2 (((τ 4) (a1 + i)) / 256)))) := G
      refine W.eq (g2 := F0 mm 151 ls [.ref (a 4), .ref (a 0)]) rfl ?_
      refine lv_iload_n hx hb d_M_answer_151 rfl (lv_at hl 2 rfl) ?_
      refine lv_iload hx hb d_M_answer_152 (lv_at hl 4 rfl) ?_
      refine lv_iadd hx hb d_M_answer_154 ?_
      refine g_ialdj S G 4 0 (τ 4) rfl rfl (a1 + i) (by rw [nI_add]; exact nI_clamp (by omega)) (by rw [nI_add]; exact vp_in_nI (by omega) (by decide)) d_M_answer_155 ?_
      refine lv_sipush (v := 256) hx hb d_M_answer_156 (by decide) ?_
      refine lv_irem hx hb d_M_answer_159 (by decide) ?_
      refine g_cVv (rest := []) S G (c_M_add l D cA a τ (rAdd y2 (((τ 4) (a1 + i)) / 256)) (((τ 4) (a1 + i)) - ((τ 4) (a1 + i)) / 256 * 256) (by first | omega | (simp only [rAdd]; omega))) (cwV 1 S.2.2.2.2 ml_M_81 rfl rfl rfl (by decide +kernel) ⟨Nat.le_of_ble_eq_true rfl, Nat.le_of_ble_eq_true rfl⟩) [0, 1, 2, 3, 4, 5, 6, 7] [] rfl rfl rfl rfl (by decide) 0 rfl rfl rfl hl.1 rfl (Nat.le_of_ble_eq_true rfl) d_M_answer_160 ⟨Nat.le_of_ble_eq_true rfl, Nat.le_of_ble_eq_true rfl⟩ (fun wp_12 H locs hp_12 G => ?_)
      subst hp_12
      have G : Gw D vwCl [(cA, .int)] AA ss ss.heap H locs (wM cA a (sP τ (rAdd (rAdd y2 (((τ 4) (a1 + i)) / 256)) (((τ 4) (a1 + i)) - ((τ 4) (a1 + i)) / 256 * 256)))) := G
      refine lv_iinc (v := (nI i) + 1) (lv' := [(4, .int ((nI i) + 1)), (0, .ref (a 0)), (1, .int 4), (2, .int (nI a1)), (3, .int (nI n1))]) hx hb d_M_answer_163 hl (k := 4) rfl rfl (by decide) rfl (fun ls hl => ?_)
      refine lv_goto (tgt := 121) hx hb d_M_answer_166 (by decide) ?_
      have hl := lv_sub hl [1, 2, 3, 4, 0] rfl
      rw [nI_1] at hl
      exact ih (i + 1) _ H locs ls (by omega) hF (by simp only [rAdd]; omega) G hl
  exact lp n1 0 _ _ _ ls (Nat.zero_add _) rfl (by simp only [rAdd]; omega) G (lv_sub hl [3, 4, 2, 1, 0] rfl)

set_option maxHeartbeats 1000000 in
set_option maxRecDepth 100000 in
theorem c_M_answer5 (l : Launch) (D : va_G) (cA : ClassId) (a : Nat → Nat) (τ : St) (x : Rp) (f : Int32) (a1 n1 : Nat) (ha : mTwo (τ 5) 0 = nI a1) (hn : mTwo (τ 5) 2 = nI n1) (hz : x.2 ≤ 10) (h5 : 5 ≤ f) : Cv l y_M_answer w_M_answer rm_M_answer D vwCl [(cA, .int)] [.ref (a 0), .int f] (wM cA a (sP τ x)) 0 0 (fun w0 => w0 = wM cA a (sP τ (mAnsE (τ 5) f x))) := by
  refine Cv.of (Ts := lw_g) (own := "WireSlaveModel") (cc := b_M_answer) (maxL := 7) (ret := none) (lv := [(0, .ref (a 0)), (1, .int f)]) (by decide) rfl rfl (fun w h => List.mem_cons_of_mem _ h) (Nat.le_of_ble_eq_true rfl) rfl ?_
  intro pp ee ss mm args below meth cx AA S hr hlk hnm G ls hl
  have hx := S.1
  have hb := S.2.1
  refine lv_aload_n hx hb d_M_answer_0 rfl (lv_at hl 0 rfl) ?_
  refine lv_iconst (v := 0) hx hb d_M_answer_1 (by decide) ?_
  refine g_cVi (rest := []) S G (c_M_two l D cA a (sP τ x) 0 (by unfold vp_in; decide) (by unfold vp_in; decide)) (cwV 1 S.2.2.2.2 ml_M_87 rfl rfl rfl (by decide +kernel) ⟨Nat.le_of_ble_eq_true rfl, Nat.le_of_ble_eq_true rfl⟩) [0, 1, 2, 3, 4, 5, 6, 7] [] rfl rfl rfl rfl (by decide) 0 rfl rfl rfl hl.1 rfl (Nat.le_of_ble_eq_true rfl) d_M_answer_2 ⟨Nat.le_of_ble_eq_true rfl, Nat.le_of_ble_eq_true rfl⟩ (fun rp_1 wp_1 H locs hp_1 G => ?_)
  obtain ⟨ep_1, rfl⟩ := hp_1
  have ep_1 : rp_1 = mTwo (τ 5) 0 := ep_1
  replace ep_1 := ep_1.trans ha
  replace ep_1 := ep_1.symm
  subst ep_1
  have G : Gw D vwCl [(cA, .int)] AA ss ss.heap H locs (wM cA a (sP τ x)) := G
  refine lv_istore_n (lv' := [(2, .int (nI a1)), (0, .ref (a 0)), (1, .int f)]) hx hb d_M_answer_5 rfl hl (by decide) rfl (fun ls hl => ?_)
  refine lv_aload_n hx hb d_M_answer_6 rfl (lv_at hl 1 rfl) ?_
  refine lv_iconst (v := 2) hx hb d_M_answer_7 (by decide) ?_
  refine g_cVi (rest := []) S G (c_M_two l D cA a (sP τ x) 2 (by unfold vp_in; decide) (by unfold vp_in; decide)) (cwV 1 S.2.2.2.2 ml_M_87 rfl rfl rfl (by decide +kernel) ⟨Nat.le_of_ble_eq_true rfl, Nat.le_of_ble_eq_true rfl⟩) [0, 1, 2, 3, 4, 5, 6, 7] [] rfl rfl rfl rfl (by decide) 0 rfl rfl rfl hl.1 rfl (Nat.le_of_ble_eq_true rfl) d_M_answer_8 ⟨Nat.le_of_ble_eq_true rfl, Nat.le_of_ble_eq_true rfl⟩ (fun rp_2 wp_2 H locs hp_2 G => ?_)
  obtain ⟨ep_2, rfl⟩ := hp_2
  have ep_2 : rp_2 = mTwo (τ 5) 2 := ep_2
  replace ep_2 := ep_2.trans hn
  replace ep_2 := ep_2.symm
  subst ep_2
  have G : Gw D vwCl [(cA, .int)] AA ss ss.heap H locs (wM cA a (sP τ x)) := G
  refine lv_istore_n (lv' := [(3, .int (nI n1)), (2, .int (nI a1)), (0, .ref (a 0)), (1, .int f)]) hx hb d_M_answer_11 rfl hl (by decide) rfl (fun ls hl => ?_)
  refine lv_aload_n hx hb d_M_answer_12 rfl (lv_at hl 2 rfl) ?_
  refine lv_iload_n hx hb d_M_answer_13 rfl (lv_at hl 3 rfl) ?_
  refine g_cVv (rest := []) S G (c_M_add l D cA a τ x f (by first | omega | (simp only [rAdd]; omega))) (cwV 1 S.2.2.2.2 ml_M_81 rfl rfl rfl (by decide +kernel) ⟨Nat.le_of_ble_eq_true rfl, Nat.le_of_ble_eq_true rfl⟩) [0, 1, 2, 3, 4, 5, 6, 7] [] rfl rfl rfl rfl (by decide) 0 rfl rfl rfl hl.1 rfl (Nat.le_of_ble_eq_true rfl) d_M_answer_14 ⟨Nat.le_of_ble_eq_true rfl, Nat.le_of_ble_eq_true rfl⟩ (fun wp_3 H locs hp_3 G => ?_)
  subst hp_3
  have G : Gw D vwCl [(cA, .int)] AA ss ss.heap H locs (wM cA a (sP τ (rAdd x f))) := G
  refine lv_iload_n hx hb d_M_answer_17 rfl (lv_at hl 3 rfl) ?_
  refine lv_iconst (v := 3) hx hb d_M_answer_18 (by decide) ?_
  have k_4 : 3 ≤ f := nge3 h5
  refine lv_icmp_ge (tgt := 106) hx hb d_M_answer_19 (by decide) (fun _ => ?_) (fun h9 => absurd k_4 h9)
  refine lv_iload_n hx hb d_M_answer_106 rfl (lv_at hl 3 rfl) ?_
  refine lv_iconst (v := 5) hx hb d_M_answer_107 (by decide) ?_
  have k_5 : 5 ≤ f := h5
  refine lv_icmp_ge (tgt := 172) hx hb d_M_answer_108 (by decide) (fun _ => ?_) (fun h9 => absurd k_5 h9)
  refine lv_iconst (v := 0) hx hb d_M_answer_172 (by decide) ?_
  refine lv_istore (lv' := [(4, .int 0), (3, .int (nI n1)), (2, .int (nI a1)), (0, .ref (a 0)), (1, .int f)]) hx hb d_M_answer_173 hl (by decide) rfl (fun ls hl => ?_)
  have lp : ∀ (n : Nat) (i : Nat) (y2 : Rp) (H : Heap) (locs : List Loc) (ls : Array Slot), (i + n = 4) → (mEcho (τ 5) n i y2 = mAnsE (τ 5) f x) → (y2.2 + n ≤ 200) → Gw D vwCl [(cA, .int)] AA ss ss.heap H locs (wM cA a (sP τ y2)) → lv_has ls 7 [(0, .ref (a 0)), (1, .int f), (2, .int (nI a1)), (3, .int (nI n1)), (4, .int (nI i))] → W pp l ee rm_M_answer ss mm args below meth cx H locs 0 0 (Zv D vwCl [(cA, .int)] AA ss args below 0 0 (fun w0 => w0 = wM cA a (sP τ (mAnsE (τ 5) f x)))) (F0 mm 175 ls []) := by
    intro n
    induction n with
    | zero =>
      intro i y2 H locs ls hi hF hz2 G hl
      refine lv_iload hx hb d_M_answer_175 (lv_at hl 4 rfl) ?_
      refine lv_iconst (v := 4) hx hb d_M_answer_177 (by decide) ?_
      have k_6 : 4 ≤ (nI i) := nI_le (a := 4) (by omega) (by omega)
      refine lv_icmp_ge (tgt := 197) hx hb d_M_answer_178 (by decide) (fun _ => ?_) (fun h9 => absurd k_6 h9)
      exact g_retv S hr hlk G (congrArg (fun q => wM cA a (sP τ q)) hF) (Nat.le_refl _) (Nat.le_refl _) d_M_answer_197
    | succ n ih =>
      intro i y2 H locs ls hi hF hz2 G hl
      refine lv_iload hx hb d_M_answer_175 (lv_at hl 4 rfl) ?_
      refine lv_iconst (v := 4) hx hb d_M_answer_177 (by decide) ?_
      have k_7 : ¬ (4 ≤ (nI i)) := nI_ge (b := 4) (by omega) (by decide)
      refine lv_icmp_ge (tgt := 197) hx hb d_M_answer_178 (by decide) (fun h9 => absurd h9 k_7) (fun _ => ?_)
      refine lv_aload_n hx hb d_M_answer_181 rfl (lv_at hl 0 rfl) ?_
      refine lv_aload_n hx hb d_M_answer_182 rfl (lv_at hl 0 rfl) ?_
      refine lv_iload hx hb d_M_answer_183 (lv_at hl 4 rfl) ?_
      refine g_cVi (rest := [.ref (a 0)]) S G (c_M_data l D cA a (sP τ y2) (nI i) (dat0 (by omega))) (cwV 1 S.2.2.2.2 ml_M_64 rfl rfl rfl (by decide +kernel) ⟨Nat.le_of_ble_eq_true rfl, Nat.le_of_ble_eq_true rfl⟩) [0, 1, 2, 3, 4, 5, 6, 7] [] rfl rfl rfl rfl (by decide) 0 rfl rfl rfl hl.1 rfl (Nat.le_of_ble_eq_true rfl) d_M_answer_185 ⟨Nat.le_of_ble_eq_true rfl, Nat.le_of_ble_eq_true rfl⟩ (fun rp_8 wp_8 H locs hp_8 G => ?_)
      obtain ⟨ep_8, rfl⟩ := hp_8
      have ep_8 : rp_8 = dM (τ 5) (nI i) := ep_8
      replace ep_8 := ep_8.symm
      subst ep_8
      have G : Gw D vwCl [(cA, .int)] AA ss ss.heap H locs (wM cA a (sP τ y2)) := G
      refine g_cVv (rest := []) S G (c_M_add l D cA a τ y2 (dM (τ 5) (nI i)) (by first | omega | (simp only [rAdd]; omega))) (cwV 1 S.2.2.2.2 ml_M_81 rfl rfl rfl (by decide +kernel) ⟨Nat.le_of_ble_eq_true rfl, Nat.le_of_ble_eq_true rfl⟩) [0, 1, 2, 3, 4, 5, 6, 7] [] rfl rfl rfl rfl (by decide) 0 rfl rfl rfl hl.1 rfl (Nat.le_of_ble_eq_true rfl) d_M_answer_188 ⟨Nat.le_of_ble_eq_true rfl, Nat.le_of_ble_eq_true rfl⟩ (fun wp_9 H locs hp_9 G => ?_)
      subst hp_9
      have G : Gw D vwCl [(cA, .int)] AA ss ss.heap H locs (wM cA a (sP τ (rAdd y2 (dM (τ 5) (nI i))))) := G
      refine lv_iinc (v := (nI i) + 1) (lv' := [(4, .int ((nI i) + 1)), (0, .ref (a 0)), (1, .int f), (2, .int (nI a1)), (3, .int (nI n1))]) hx hb d_M_answer_191 hl (k := 4) rfl rfl (by decide) rfl (fun ls hl => ?_)
      refine lv_goto (tgt := 175) hx hb d_M_answer_194 (by decide) ?_
      have hl := lv_sub hl [1, 2, 3, 4, 0] rfl
      rw [nI_1] at hl
      exact ih (i + 1) _ H locs ls (by omega) hF (by simp only [rAdd]; omega) G hl
  exact lp 4 0 _ _ _ ls rfl rfl (by simp only [rAdd]; omega) G (lv_sub hl [3, 4, 2, 1, 0] rfl)

set_option maxHeartbeats 1000000 in
theorem c_M_answer (l : Launch) (D : va_G) (cA : ClassId) (a : Nat → Nat) (τ : St) (x : Rp) (f : Int32) (a1 n1 : Nat) (ha : mTwo (τ 5) 0 = nI a1) (hn : mTwo (τ 5) 2 = nI n1) (hz : x.2 ≤ 10) (hf : (f = 1 ∨ f = 2) ∧ a1 + n1 ≤ 256 ∨ (f = 3 ∨ f = 4) ∧ a1 + n1 ≤ 64 ∨ 5 ≤ f) : Cv l y_M_answer w_M_answer rm_M_answer D vwCl [(cA, .int)] [.ref (a 0), .int f] (wM cA a (sP τ x)) 0 0 (fun w0 => w0 = wM cA a (sP τ (mAns τ f a1 n1 x))) := by
  rcases hf with ⟨h | h, hb⟩ | ⟨h | h, hb⟩ | h
  · subst h; exact c_M_answer1 l D cA a τ x a1 n1 ha hn hz hb
  · subst h; exact c_M_answer2 l D cA a τ x a1 n1 ha hn hz hb
  · subst h; exact c_M_answer3 l D cA a τ x a1 n1 ha hn hz hb
  · subst h; exact c_M_answer4 l D cA a τ x a1 n1 ha hn hz hb
  · have e : mAns τ f a1 n1 x = mAnsE (τ 5) f x := by
      have n1' : ¬ f = 1 := fun e => by rw [e] at h; exact absurd h (by decide)
      have n2' : ¬ f = 2 := fun e => by rw [e] at h; exact absurd h (by decide)
      have n3' : ¬ f = 3 := fun e => by rw [e] at h; exact absurd h (by decide)
      have n4' : ¬ f = 4 := fun e => by rw [e] at h; exact absurd h (by decide)
      simp only [mAns, eq_false n1', eq_false n2', eq_false n3', eq_false n4', ↓reduceIte]
    rw [e]
    exact c_M_answer5 l D cA a τ x f a1 n1 ha hn hz h
