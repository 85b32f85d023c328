/-! The law. -/
set_option maxHeartbeats 1000000 in
set_option maxRecDepth 100000 in
theorem c_L_cell (l : Launch) (b L : Nat) (xs : Nat → Int32) (hL : L ≤ 2049) : Met l y_L_cell w_L_cell ({ frames := 0, cells := 0, slots := 0, locals := 0 }) (va_Pc [.ref b, .int 0] (fun U => va_X b L xs U U.heap ∧ b < U.heap.size)) (vp_Si (fun r => r = if 0 < L then xs 0 else 0)) 0 0 (fun _ => False) := by
  refine Met.ofW (cc := b_L_cell) (maxL := 2) (ret := (some .int)) (by decide) rfl ?_
  intro p e s m args below meth c s₁ B hml hv
  obtain ⟨rfl, hX, hbl⟩ := hv
  have hx := B.exec
  have hb := B.bytes
  have hr := B.returns
  have hlocks := B.notSynchronized
  have hS : va_S (fun _ => False) s.heap s.heap [] := va_S.rf
  have hbA : ¬ (fun _ : Nat => False) b := fun h => h
  have hl := lv_entry ([.ref b, .int 0]) (n := 2) (Nat.le_of_ble_eq_true rfl)
  rw [lg_entry_eq]
  generalize (lg_sl ([.ref b, .int 0]) ++ List.replicate (2 - (lg_sl ([.ref b, .int 0])).length) Slot.unset).toArray = ls at hl ⊢
  have hl : lv_has ls 2 [(0, .ref b), (1, .int 0)] := hl
  refine lv_iload_n hx hb d_L_cell_0 rfl (lv_at hl 1 rfl) ?_
  refine lv_aload_n hx hb d_L_cell_1 rfl (lv_at hl 0 rfl) ?_
  refine va_slen hx hb hX hbl hbA hS d_L_cell_2 ?_
  refine lv_icmp_ge (tgt := 12) hx hb d_L_cell_3 (by decide) (fun c_1 => ?_) (fun c_1 => ?_)
  · refine lv_iconst (v := 0) hx hb d_L_cell_12 (by decide) ?_
    refine W.iret (v := 0) hx hb hr (fun t ht hW => ⟨0, rfl, ?_, ht⟩) (fun q hq => absurd hq List.not_mem_nil) d_L_cell_13
    rw [if_neg]
    intro h0
    exact nI_nle h0 (by omega) c_1
  · have h0 : 0 < L := by
      rcases Nat.eq_zero_or_pos L with q | q
      · rw [q] at c_1; exact absurd (by decide) c_1
      · exact q
    refine lv_aload_n hx hb d_L_cell_6 rfl (lv_at hl 0 rfl) ?_
    refine lv_iload_n hx hb d_L_cell_7 rfl (lv_at hl 1 rfl) ?_
    refine va_sld hx hb hX hbl hbA hS (show vp_in 0 L from vp_in_nI (n := 0) h0 (by omega)) d_L_cell_8 ?_
    refine lv_goto (tgt := 13) hx hb d_L_cell_9 (by decide) ?_
    refine W.iret (v := xs 0) hx hb hr (fun t ht hW => ⟨xs 0, rfl, ?_, ht⟩) (fun q hq => absurd hq List.not_mem_nil) d_L_cell_13
    rw [if_pos h0]
theorem arr_known {args : Array Value} {s : State} (h : (Cond.arrayClass .int).before args s = true) : ∃ cA : ClassId, ArrOfT s cA .int ∧ va_RA s cA .int := by
  obtain ⟨cA, kA, comp, h1, h2, h3⟩ := Cond.arrayClass_spec h
  exact ⟨cA, fun n z => ⟨fun k h => (by cases h), kA, h2, comp, h3⟩, h1⟩
theorem lb_W (cA : ClassId) (a a2 : Nat → Nat) (σ τ σ2 : St) : ([8, 9, 10, 11, 12, 13, 14, 15, 16, 17, 18, 19, 20, 21, 0, 1, 2, 3, 4, 5, 6, 7] : List Nat).map (fun i => (([14, 15, 16, 17, 18, 19, 20, 21] : List Nat).filterMap (fun i => (wW cA a σ ++ wM cA a2 τ)[i]?) ++ wW cA a σ2)[i]?) = (wW cA a σ2 ++ wM cA a2 τ).map some := rfl
theorem lb_M (cA : ClassId) (a a2 : Nat → Nat) (σ τ τ2 : St) : ([0, 1, 2, 3, 4, 5, 6, 7, 8, 9, 10, 11, 12, 13, 14, 15, 16, 17, 18, 19, 20, 21] : List Nat).map (fun i => (([0, 1, 2, 3, 4, 5, 6, 7, 8, 9, 10, 11, 12, 13] : List Nat).filterMap (fun i => (wW cA a σ ++ wM cA a2 τ)[i]?) ++ wM cA a2 τ2)[i]?) = (wW cA a σ ++ wM cA a2 τ2).map some := rfl
theorem lc_W (cA : ClassId) (a a2 : Nat → Nat) (σ τ : St) : ([0, 1, 2, 3, 4, 5, 6, 7, 8, 9, 10, 11, 12, 13] : List Nat).map (fun i => (wW cA a σ ++ wM cA a2 τ)[i]?) = (wW cA a σ).map some := rfl
theorem lc_M (cA : ClassId) (a a2 : Nat → Nat) (σ τ : St) : ([14, 15, 16, 17, 18, 19, 20, 21] : List Nat).map (fun i => (wW cA a σ ++ wM cA a2 τ)[i]?) = (wM cA a2 τ).map some := rfl
theorem lr_W (cA : ClassId) (a a2 : Nat → Nat) (σ τ : St) : ([14, 15, 16, 17, 18, 19, 20, 21] : List Nat).map (fun i => (wW cA a σ ++ wM cA a2 τ)[i]?) = (([14, 15, 16, 17, 18, 19, 20, 21] : List Nat).filterMap (fun i => (wW cA a σ ++ wM cA a2 τ)[i]?)).map some := rfl
theorem lr_M (cA : ClassId) (a a2 : Nat → Nat) (σ τ : St) : ([0, 1, 2, 3, 4, 5, 6, 7, 8, 9, 10, 11, 12, 13] : List Nat).map (fun i => (wW cA a σ ++ wM cA a2 τ)[i]?) = (([0, 1, 2, 3, 4, 5, 6, 7, 8, 9, 10, 11, 12, 13] : List Nat).filterMap (fun i => (wW cA a σ ++ wM cA a2 τ)[i]?)).map some := rfl

set_option maxHeartbeats 4000000 in
set_option maxRecDepth 100000 in
/-- the law's loop: at its head the two states are related -/
theorem law_loop {pp : Program} {l : Launch} {ee : Env} {ss : State} {mm : MethodId} {below : List Frame} {meth : Method} {cx : Code} {D : va_G} {cA : ClassId} {a a2 : Nat → Nat} {b L : Nat} {xs : Nat → Int32} (hL : L ≤ 2049) (C0 : lw_At pp ss mm meth cx b L xs) :
    ∀ (n i : Nat) (σ τ : St), L ≤ i + n → i ≤ 3000 → Rl σ τ → ∀ (H : Heap) (locs : List Loc) (ls : Array Slot), Gw D vwCl [(cA, .int)] (fun q : Nat => ss.heap.size ≤ q) ss ss.heap H locs (wW cA a σ ++ wM cA a2 τ) → lv_has ls 4 [(0, .ref b), (1, .ref (a 0)), (2, .ref (a2 0)), (3, .int (nI i))] → W pp l ee room_1 ss mm #[Value.ref b] below meth cx H locs 22 2396 (lw_Z below #[Value.ref b] ss) (F0 mm 28 ls []) := by
  obtain ⟨hx, hb, hr, hml, hown, hts, hX, hbl, hlocks, hgv⟩ := C0
  have hbA : ¬ (fun q : Nat => ss.heap.size ≤ q) b := Nat.not_le.mpr hbl
  have S : CallFix pp mm cx code 4 ss #[Value.ref b] lw_g "WireSlaveLaw" := ⟨hx, hb, hml, hown, fun w h => hts w (List.mem_filter.mp h).1⟩
  have eT : ∀ (i : Nat), i ≤ 3000 → (nI L - 4 < nI i ↔ L < i + 4) := by
    intro i hi
    rw [Int32.lt_iff_toInt_lt, show (nI L - 4).toInt = (L : Int) - 4 from pk_sub_toInt (a := L) (b := 4) (by omega) (by decide), nI_toInt (by omega)]
    omega
  intro n
  induction n with
  | zero =>
    intro i σ τ hLi hi hR H locs ls G hl
    refine lv_iload_n hx hb d_L_law_28 rfl (lv_at hl 3 rfl) ?_
    refine lv_aload_n hx hb d_L_law_29 rfl (lv_at hl 0 rfl) ?_
    refine va_slen hx hb hX hbl hbA G.2.2.2.1 d_L_law_30 ?_
    refine lv_iconst (v := 4) hx hb d_L_law_31 (by decide) ?_
    refine lv_isub hx hb d_L_law_32 ?_
    refine lv_icmp_gt (tgt := 388) hx hb d_L_law_33 (by decide) (fun _ => ?_) (fun h9 => absurd ((eT i hi).mpr (by omega)) h9)
    refine lv_iconst (v := 1) hx hb d_L_law_388 (by decide) ?_
    refine va_forget (fun q hq => G.2.2.2.1.2.2 q hq) ?_
    exact lw_ret hx hb hr hlocks d_L_law_389
  | succ n ih =>
    intro i σ τ hLi hi hR H locs ls G hl
    refine lv_iload_n hx hb d_L_law_28 rfl (lv_at hl 3 rfl) ?_
    refine lv_aload_n hx hb d_L_law_29 rfl (lv_at hl 0 rfl) ?_
    refine va_slen hx hb hX hbl hbA G.2.2.2.1 d_L_law_30 ?_
    refine lv_iconst (v := 4) hx hb d_L_law_31 (by decide) ?_
    refine lv_isub hx hb d_L_law_32 ?_
    refine lv_icmp_gt (tgt := 388) hx hb d_L_law_33 (by decide) (fun c_1 => ?_) (fun c_1 => ?_)
    · refine lv_iconst (v := 1) hx hb d_L_law_388 (by decide) ?_
      refine va_forget (fun q hq => G.2.2.2.1.2.2 q hq) ?_
      exact lw_ret hx hb hr hlocks d_L_law_389
    · have hi4 : i + 4 ≤ L := Nat.not_lt.mp (fun q => c_1 ((eT i hi).mpr q))
      refine lv_aload_n hx hb d_L_law_36 rfl (lv_at hl 0 rfl) ?_
      refine lv_iload_n hx hb d_L_law_37 rfl (lv_at hl 3 rfl) ?_
      refine va_sld hx hb hX hbl hbA G.2.2.2.1 (vp_in_nI (by omega) (by omega)) d_L_law_38 ?_
      refine lv_bipush (v := 7) hx hb d_L_law_39 (by decide) ?_
      refine lv_iand hx hb d_L_law_41 ?_
      by_cases c_2 : ((xs (nI i).toNatClampNeg) &&& 7) = 0
      · refine lv_tableIn (tgt := 88) hx hb d_L_law_42 (by rw [c_2]; decide) (by rw [c_2]; decide) (by rw [c_2]; rfl) (by decide) ?_
        refine lv_aload_n hx hb d_L_law_88 rfl (lv_at hl 1 rfl) ?_
        refine lv_aload_n hx hb d_L_law_89 rfl (lv_at hl 0 rfl) ?_
        refine lv_iload_n hx hb d_L_law_90 rfl (lv_at hl 3 rfl) ?_
        refine lv_iconst (v := 1) hx hb d_L_law_91 (by decide) ?_
        refine lv_iadd hx hb d_L_law_92 ?_
        refine va_sld hx hb hX hbl hbA G.2.2.2.1 (by rw [show nI i + 1 = nI (i + 1) from nI_add i 1]; exact vp_in_nI (by omega) (by omega)) d_L_law_93 ?_
        obtain ⟨hR2, hEq⟩ := S_hear hR (xs ((nI i) + 1).toNatClampNeg)
        refine g_cVi (rest := []) S G (c_W_hear l D cA a σ (xs ((nI i) + 1).toNatClampNeg)) (cwV 1 S.2.2.2.2 ml_L_21 rfl rfl rfl (by decide +kernel) ⟨Nat.le_of_ble_eq_true rfl, Nat.le_of_ble_eq_true rfl⟩) [0, 1, 2, 3, 4, 5, 6, 7, 8, 9, 10, 11, 12, 13] [14, 15, 16, 17, 18, 19, 20, 21] (lc_W cA a a2 _ _) rfl (lr_W cA a a2 _ _) rfl (by decide) 0 rfl rfl rfl hl.1 rfl (Nat.le_of_ble_eq_true rfl) d_L_law_94 ⟨Nat.le_of_ble_eq_true rfl, Nat.le_of_ble_eq_true rfl⟩ (fun rp_3 wp_3 H locs hp_3 G => ?_)
        obtain ⟨ep_3, rfl⟩ := hp_3
        replace ep_3 := ep_3.symm
        subst ep_3
        have G := G.sub (ws' := wW cA a (wHear σ (xs ((nI i) + 1).toNatClampNeg)) ++ wM cA a2 τ) [8, 9, 10, 11, 12, 13, 14, 15, 16, 17, 18, 19, 20, 21, 0, 1, 2, 3, 4, 5, 6, 7] rfl (lb_W cA a a2 _ _ _)
        refine lv_aload_n hx hb d_L_law_97 rfl (lv_at hl 2 rfl) ?_
        refine lv_aload_n hx hb d_L_law_98 rfl (lv_at hl 0 rfl) ?_
        refine lv_iload_n hx hb d_L_law_99 rfl (lv_at hl 3 rfl) ?_
        refine lv_iconst (v := 1) hx hb d_L_law_100 (by decide) ?_
        refine lv_iadd hx hb d_L_law_101 ?_
        refine va_sld hx hb hX hbl hbA G.2.2.2.1 (by rw [show nI i + 1 = nI (i + 1) from nI_add i 1]; exact vp_in_nI (by omega) (by omega)) d_L_law_102 ?_
        refine g_cVi (rest := [.int (wHearR σ (xs ((nI i) + 1).toNatClampNeg))]) S G (c_M_hear l D cA a2 τ (xs ((nI i) + 1).toNatClampNeg) hR.nn) (cwV 1 S.2.2.2.2 ml_L_25 rfl rfl rfl (by decide +kernel) ⟨Nat.le_of_ble_eq_true rfl, Nat.le_of_ble_eq_true rfl⟩) [14, 15, 16, 17, 18, 19, 20, 21] [0, 1, 2, 3, 4, 5, 6, 7, 8, 9, 10, 11, 12, 13] (lc_M cA a a2 _ _) rfl (lr_M cA a a2 _ _) rfl (by decide) 14 rfl rfl rfl hl.1 rfl (Nat.le_of_ble_eq_true rfl) d_L_law_103 ⟨Nat.le_of_ble_eq_true rfl, Nat.le_of_ble_eq_true rfl⟩ (fun rp_4 wp_4 H locs hp_4 G => ?_)
        obtain ⟨ep_4, rfl⟩ := hp_4
        replace ep_4 := ep_4.symm
        subst ep_4
        have G := G.sub (ws' := wW cA a (wHear σ (xs ((nI i) + 1).toNatClampNeg)) ++ wM cA a2 (mHear τ (xs ((nI i) + 1).toNatClampNeg))) [0, 1, 2, 3, 4, 5, 6, 7, 8, 9, 10, 11, 12, 13, 14, 15, 16, 17, 18, 19, 20, 21] rfl (lb_M cA a a2 _ _ _)
        have k_5 : (wHearR σ (xs ((nI i) + 1).toNatClampNeg)) = (mHearR τ (xs ((nI i) + 1).toNatClampNeg)) := hEq
        refine lv_icmp_eq (tgt := 382) hx hb d_L_law_106 (by decide) (fun _ => ?_) (fun h9 => absurd k_5 h9)
        refine lv_iinc (v := (nI i) + 4) (lv' := [(3, .int ((nI i) + 4)), (0, .ref b), (1, .ref (a 0)), (2, .ref (a2 0))]) hx hb d_L_law_382 hl (k := 3) rfl rfl (by decide) rfl (fun ls hl => ?_)
        refine lv_goto (tgt := 28) hx hb d_L_law_385 (by decide) ?_
        have hl := lv_sub hl [1, 2, 3, 0] rfl
        rw [show nI i + 4 = nI (i + 4) from nI_add i 4] at hl
        exact ih (i + 4) _ _ (by omega) (by omega) hR2 _ _ ls G hl
      by_cases c_6 : ((xs (nI i).toNatClampNeg) &&& 7) = 1
      · refine lv_tableIn (tgt := 111) hx hb d_L_law_42 (by rw [c_6]; decide) (by rw [c_6]; decide) (by rw [c_6]; rfl) (by decide) ?_
        refine lv_aload_n hx hb d_L_law_111 rfl (lv_at hl 1 rfl) ?_
        refine lv_aload_n hx hb d_L_law_112 rfl (lv_at hl 0 rfl) ?_
        refine lv_iload_n hx hb d_L_law_113 rfl (lv_at hl 3 rfl) ?_
        refine lv_iconst (v := 1) hx hb d_L_law_114 (by decide) ?_
        refine lv_iadd hx hb d_L_law_115 ?_
        refine va_sld hx hb hX hbl hbA G.2.2.2.1 (by rw [show nI i + 1 = nI (i + 1) from nI_add i 1]; exact vp_in_nI (by omega) (by omega)) d_L_law_116 ?_
        refine lv_aload_n hx hb d_L_law_117 rfl (lv_at hl 0 rfl) ?_
        refine lv_iload_n hx hb d_L_law_118 rfl (lv_at hl 3 rfl) ?_
        refine lv_iconst (v := 2) hx hb d_L_law_119 (by decide) ?_
        refine lv_iadd hx hb d_L_law_120 ?_
        refine va_sld hx hb hX hbl hbA G.2.2.2.1 (by rw [show nI i + 2 = nI (i + 2) from nI_add i 2]; exact vp_in_nI (by omega) (by omega)) d_L_law_121 ?_
        refine lv_i2l (v := (xs ((nI i) + 2).toNatClampNeg).toInt64) hx hb d_L_law_122 rfl ?_
        refine lv_bipush (v := 32) hx hb d_L_law_123 (by decide) ?_
        refine lv_lshl (v := lshlL ((xs ((nI i) + 2).toNatClampNeg).toInt64) 32) hx hb d_L_law_125 rfl ?_
        refine lv_aload_n hx hb d_L_law_126 rfl (lv_at hl 0 rfl) ?_
        refine lv_iload_n hx hb d_L_law_127 rfl (lv_at hl 3 rfl) ?_
        refine lv_iconst (v := 3) hx hb d_L_law_128 (by decide) ?_
        refine lv_iadd hx hb d_L_law_129 ?_
        refine va_sld hx hb hX hbl hbA G.2.2.2.1 (by rw [show nI i + 3 = nI (i + 3) from nI_add i 3]; exact vp_in_nI (by omega) (by omega)) d_L_law_130 ?_
        refine lv_i2l (v := (xs ((nI i) + 3).toNatClampNeg).toInt64) hx hb d_L_law_131 rfl ?_
        refine lv_ldc2 (v := 4294967295) hx hb S.2.2.2.1 (S.2.2.2.2 _ kn_L_26) d_L_law_132 ?_
        refine lv_land hx hb d_L_law_135 ?_
        refine lv_lor hx hb d_L_law_136 ?_
        obtain ⟨hR2, hEq⟩ := S_lis hR (xs ((nI i) + 1).toNatClampNeg) ((lshlL ((xs ((nI i) + 2).toNatClampNeg).toInt64) 32) ||| (((xs ((nI i) + 3).toNatClampNeg).toInt64) &&& 4294967295))
        refine g_cVi (rest := []) S G (c_W_listen l D cA a σ (xs ((nI i) + 1).toNatClampNeg) ((lshlL ((xs ((nI i) + 2).toNatClampNeg).toInt64) 32) ||| (((xs ((nI i) + 3).toNatClampNeg).toInt64) &&& 4294967295))) (cwV 2 S.2.2.2.2 ml_L_28 rfl rfl rfl (by decide +kernel) ⟨Nat.le_of_ble_eq_true rfl, Nat.le_of_ble_eq_true rfl⟩) [0, 1, 2, 3, 4, 5, 6, 7, 8, 9, 10, 11, 12, 13] [14, 15, 16, 17, 18, 19, 20, 21] (lc_W cA a a2 _ _) rfl (lr_W cA a a2 _ _) rfl (by decide) 0 rfl rfl rfl hl.1 rfl (Nat.le_of_ble_eq_true rfl) d_L_law_137 ⟨Nat.le_of_ble_eq_true rfl, Nat.le_of_ble_eq_true rfl⟩ (fun rp_7 wp_7 H locs hp_7 G => ?_)
        obtain ⟨ep_7, rfl⟩ := hp_7
        replace ep_7 := ep_7.symm
        subst ep_7
        have G := G.sub (ws' := wW cA a (wLis σ (xs ((nI i) + 1).toNatClampNeg) ((lshlL ((xs ((nI i) + 2).toNatClampNeg).toInt64) 32) ||| (((xs ((nI i) + 3).toNatClampNeg).toInt64) &&& 4294967295))) ++ wM cA a2 τ) [8, 9, 10, 11, 12, 13, 14, 15, 16, 17, 18, 19, 20, 21, 0, 1, 2, 3, 4, 5, 6, 7] rfl (lb_W cA a a2 _ _ _)
        refine lv_aload_n hx hb d_L_law_140 rfl (lv_at hl 2 rfl) ?_
        refine lv_aload_n hx hb d_L_law_141 rfl (lv_at hl 0 rfl) ?_
        refine lv_iload_n hx hb d_L_law_142 rfl (lv_at hl 3 rfl) ?_
        refine lv_iconst (v := 1) hx hb d_L_law_143 (by decide) ?_
        refine lv_iadd hx hb d_L_law_144 ?_
        refine va_sld hx hb hX hbl hbA G.2.2.2.1 (by rw [show nI i + 1 = nI (i + 1) from nI_add i 1]; exact vp_in_nI (by omega) (by omega)) d_L_law_145 ?_
        refine lv_aload_n hx hb d_L_law_146 rfl (lv_at hl 0 rfl) ?_
        refine lv_iload_n hx hb d_L_law_147 rfl (lv_at hl 3 rfl) ?_
        refine lv_iconst (v := 2) hx hb d_L_law_148 (by decide) ?_
        refine lv_iadd hx hb d_L_law_149 ?_
        refine va_sld hx hb hX hbl hbA G.2.2.2.1 (by rw [show nI i + 2 = nI (i + 2) from nI_add i 2]; exact vp_in_nI (by omega) (by omega)) d_L_law_150 ?_
        refine lv_i2l (v := (xs ((nI i) + 2).toNatClampNeg).toInt64) hx hb d_L_law_151 rfl ?_
        refine lv_bipush (v := 32) hx hb d_L_law_152 (by decide) ?_
        refine lv_lshl (v := lshlL ((xs ((nI i) + 2).toNatClampNeg).toInt64) 32) hx hb d_L_law_154 rfl ?_
        refine lv_aload_n hx hb d_L_law_155 rfl (lv_at hl 0 rfl) ?_
        refine lv_iload_n hx hb d_L_law_156 rfl (lv_at hl 3 rfl) ?_
        refine lv_iconst (v := 3) hx hb d_L_law_157 (by decide) ?_
        refine lv_iadd hx hb d_L_law_158 ?_
        refine va_sld hx hb hX hbl hbA G.2.2.2.1 (by rw [show nI i + 3 = nI (i + 3) from nI_add i 3]; exact vp_in_nI (by omega) (by omega)) d_L_law_159 ?_
        refine lv_i2l (v := (xs ((nI i) + 3).toNatClampNeg).toInt64) hx hb d_L_law_160 rfl ?_
        refine lv_ldc2 (v := 4294967295) hx hb S.2.2.2.1 (S.2.2.2.2 _ kn_L_26) d_L_law_161 ?_
        refine lv_land hx hb d_L_law_164 ?_
        refine lv_lor hx hb d_L_law_165 ?_
        refine g_cVi (rest := [.int (wLisR σ (xs ((nI i) + 1).toNatClampNeg) ((lshlL ((xs ((nI i) + 2).toNatClampNeg).toInt64) 32) ||| (((xs ((nI i) + 3).toNatClampNeg).toInt64) &&& 4294967295)))]) S G (c_M_listen l D cA a2 τ (xs ((nI i) + 1).toNatClampNeg) ((lshlL ((xs ((nI i) + 2).toNatClampNeg).toInt64) 32) ||| (((xs ((nI i) + 3).toNatClampNeg).toInt64) &&& 4294967295)) hR.nn) (cwV 2 S.2.2.2.2 ml_L_32 rfl rfl rfl (by decide +kernel) ⟨Nat.le_of_ble_eq_true rfl, Nat.le_of_ble_eq_true rfl⟩) [14, 15, 16, 17, 18, 19, 20, 21] [0, 1, 2, 3, 4, 5, 6, 7, 8, 9, 10, 11, 12, 13] (lc_M cA a a2 _ _) rfl (lr_M cA a a2 _ _) rfl (by decide) 14 rfl rfl rfl hl.1 rfl (Nat.le_of_ble_eq_true rfl) d_L_law_166 ⟨Nat.le_of_ble_eq_true rfl, Nat.le_of_ble_eq_true rfl⟩ (fun rp_8 wp_8 H locs hp_8 G => ?_)
        obtain ⟨ep_8, rfl⟩ := hp_8
        replace ep_8 := ep_8.symm
        subst ep_8
        have G := G.sub (ws' := wW cA a (wLis σ (xs ((nI i) + 1).toNatClampNeg) ((lshlL ((xs ((nI i) + 2).toNatClampNeg).toInt64) 32) ||| (((xs ((nI i) + 3).toNatClampNeg).toInt64) &&& 4294967295))) ++ wM cA a2 (mLis τ (xs ((nI i) + 1).toNatClampNeg) ((lshlL ((xs ((nI i) + 2).toNatClampNeg).toInt64) 32) ||| (((xs ((nI i) + 3).toNatClampNeg).toInt64) &&& 4294967295)))) [0, 1, 2, 3, 4, 5, 6, 7, 8, 9, 10, 11, 12, 13, 14, 15, 16, 17, 18, 19, 20, 21] rfl (lb_M cA a a2 _ _ _)
        have k_9 : (wLisR σ (xs ((nI i) + 1).toNatClampNeg) ((lshlL ((xs ((nI i) + 2).toNatClampNeg).toInt64) 32) ||| (((xs ((nI i) + 3).toNatClampNeg).toInt64) &&& 4294967295))) = (mLisR τ (xs ((nI i) + 1).toNatClampNeg) ((lshlL ((xs ((nI i) + 2).toNatClampNeg).toInt64) 32) ||| (((xs ((nI i) + 3).toNatClampNeg).toInt64) &&& 4294967295))) := hEq
        refine lv_icmp_eq (tgt := 382) hx hb d_L_law_169 (by decide) (fun _ => ?_) (fun h9 => absurd k_9 h9)
        refine lv_iinc (v := (nI i) + 4) (lv' := [(3, .int ((nI i) + 4)), (0, .ref b), (1, .ref (a 0)), (2, .ref (a2 0))]) hx hb d_L_law_382 hl (k := 3) rfl rfl (by decide) rfl (fun ls hl => ?_)
        refine lv_goto (tgt := 28) hx hb d_L_law_385 (by decide) ?_
        have hl := lv_sub hl [1, 2, 3, 0] rfl
        rw [show nI i + 4 = nI (i + 4) from nI_add i 4] at hl
        exact ih (i + 4) _ _ (by omega) (by omega) hR2 _ _ ls G hl
      by_cases c_10 : ((xs (nI i).toNatClampNeg) &&& 7) = 2
      · refine lv_tableIn (tgt := 174) hx hb d_L_law_42 (by rw [c_10]; decide) (by rw [c_10]; decide) (by rw [c_10]; rfl) (by decide) ?_
        refine lv_aload_n hx hb d_L_law_174 rfl (lv_at hl 1 rfl) ?_
        refine lv_aload_n hx hb d_L_law_175 rfl (lv_at hl 0 rfl) ?_
        refine lv_iload_n hx hb d_L_law_176 rfl (lv_at hl 3 rfl) ?_
        refine lv_iconst (v := 1) hx hb d_L_law_177 (by decide) ?_
        refine lv_iadd hx hb d_L_law_178 ?_
        refine va_sld hx hb hX hbl hbA G.2.2.2.1 (by rw [show nI i + 1 = nI (i + 1) from nI_add i 1]; exact vp_in_nI (by omega) (by omega)) d_L_law_179 ?_
        obtain ⟨N, a1, n1, hH, hR2, hEq⟩ := S_rest hR (xs ((nI i) + 1).toNatClampNeg)
        refine g_cVi (rest := []) S G (c_W_rest l D cA a σ (xs ((nI i) + 1).toNatClampNeg)) (cwV 1 S.2.2.2.2 ml_L_33 rfl rfl rfl (by decide +kernel) ⟨Nat.le_of_ble_eq_true rfl, Nat.le_of_ble_eq_true rfl⟩) [0, 1, 2, 3, 4, 5, 6, 7, 8, 9, 10, 11, 12, 13] [14, 15, 16, 17, 18, 19, 20, 21] (lc_W cA a a2 _ _) rfl (lr_W cA a a2 _ _) rfl (by decide) 0 rfl rfl rfl hl.1 rfl (Nat.le_of_ble_eq_true rfl) d_L_law_180 ⟨Nat.le_of_ble_eq_true rfl, Nat.le_of_ble_eq_true rfl⟩ (fun rp_11 wp_11 H locs hp_11 G => ?_)
        obtain ⟨ep_11, rfl⟩ := hp_11
        replace ep_11 := ep_11.symm
        subst ep_11
        have G := G.sub (ws' := wW cA a (wRest σ (xs ((nI i) + 1).toNatClampNeg)) ++ wM cA a2 τ) [8, 9, 10, 11, 12, 13, 14, 15, 16, 17, 18, 19, 20, 21, 0, 1, 2, 3, 4, 5, 6, 7] rfl (lb_W cA a a2 _ _ _)
        refine lv_aload_n hx hb d_L_law_183 rfl (lv_at hl 2 rfl) ?_
        refine lv_aload_n hx hb d_L_law_184 rfl (lv_at hl 0 rfl) ?_
        refine lv_iload_n hx hb d_L_law_185 rfl (lv_at hl 3 rfl) ?_
        refine lv_iconst (v := 1) hx hb d_L_law_186 (by decide) ?_
        refine lv_iadd hx hb d_L_law_187 ?_
        refine va_sld hx hb hX hbl hbA G.2.2.2.1 (by rw [show nI i + 1 = nI (i + 1) from nI_add i 1]; exact vp_in_nI (by omega) (by omega)) d_L_law_188 ?_
        refine g_cVi (rest := [.int (wRestR σ (xs ((nI i) + 1).toNatClampNeg))]) S G (c_M_rest l D cA a2 τ (xs ((nI i) + 1).toNatClampNeg) N a1 n1 hH.1.1 hH.1.2.1 hH.1.2.2 hH.2.1 hH.2.2.1 hH.2.2.2) (cwV 1 S.2.2.2.2 ml_L_36 rfl rfl rfl (by decide +kernel) ⟨Nat.le_of_ble_eq_true rfl, Nat.le_of_ble_eq_true rfl⟩) [14, 15, 16, 17, 18, 19, 20, 21] [0, 1, 2, 3, 4, 5, 6, 7, 8, 9, 10, 11, 12, 13] (lc_M cA a a2 _ _) rfl (lr_M cA a a2 _ _) rfl (by decide) 14 rfl rfl rfl hl.1 rfl (Nat.le_of_ble_eq_true rfl) d_L_law_189 ⟨Nat.le_of_ble_eq_true rfl, Nat.le_of_ble_eq_true rfl⟩ (fun rp_12 wp_12 H locs hp_12 G => ?_)
        obtain ⟨ep_12, rfl⟩ := hp_12
        replace ep_12 := ep_12.symm
        subst ep_12
        have G := G.sub (ws' := wW cA a (wRest σ (xs ((nI i) + 1).toNatClampNeg)) ++ wM cA a2 (mRest τ (xs ((nI i) + 1).toNatClampNeg) N a1 n1)) [0, 1, 2, 3, 4, 5, 6, 7, 8, 9, 10, 11, 12, 13, 14, 15, 16, 17, 18, 19, 20, 21] rfl (lb_M cA a a2 _ _ _)
        have k_13 : (wRestR σ (xs ((nI i) + 1).toNatClampNeg)) = (mRestR τ (xs ((nI i) + 1).toNatClampNeg) N a1 n1) := hEq
        refine lv_icmp_eq (tgt := 382) hx hb d_L_law_192 (by decide) (fun _ => ?_) (fun h9 => absurd k_13 h9)
        refine lv_iinc (v := (nI i) + 4) (lv' := [(3, .int ((nI i) + 4)), (0, .ref b), (1, .ref (a 0)), (2, .ref (a2 0))]) hx hb d_L_law_382 hl (k := 3) rfl rfl (by decide) rfl (fun ls hl => ?_)
        refine lv_goto (tgt := 28) hx hb d_L_law_385 (by decide) ?_
        have hl := lv_sub hl [1, 2, 3, 0] rfl
        rw [show nI i + 4 = nI (i + 4) from nI_add i 4] at hl
        exact ih (i + 4) _ _ (by omega) (by omega) hR2 _ _ ls G hl
      by_cases c_14 : ((xs (nI i).toNatClampNeg) &&& 7) = 3
      · refine lv_tableIn (tgt := 197) hx hb d_L_law_42 (by rw [c_14]; decide) (by rw [c_14]; decide) (by rw [c_14]; rfl) (by decide) ?_
        refine lv_aload_n hx hb d_L_law_197 rfl (lv_at hl 1 rfl) ?_
        refine lv_aload_n hx hb d_L_law_198 rfl (lv_at hl 0 rfl) ?_
        refine lv_iload_n hx hb d_L_law_199 rfl (lv_at hl 3 rfl) ?_
        refine lv_iconst (v := 1) hx hb d_L_law_200 (by decide) ?_
        refine lv_iadd hx hb d_L_law_201 ?_
        refine va_sld hx hb hX hbl hbA G.2.2.2.1 (by rw [show nI i + 1 = nI (i + 1) from nI_add i 1]; exact vp_in_nI (by omega) (by omega)) d_L_law_202 ?_
        obtain ⟨hEq, hz⟩ := S_reply hR (xs ((nI i) + 1).toNatClampNeg)
        refine g_cVi (rest := []) S G (c_W_reply l D cA a σ (xs ((nI i) + 1).toNatClampNeg)) (cwV 1 S.2.2.2.2 ml_L_37 rfl rfl rfl (by decide +kernel) ⟨Nat.le_of_ble_eq_true rfl, Nat.le_of_ble_eq_true rfl⟩) [0, 1, 2, 3, 4, 5, 6, 7, 8, 9, 10, 11, 12, 13] [14, 15, 16, 17, 18, 19, 20, 21] (lc_W cA a a2 _ _) rfl (lr_W cA a a2 _ _) rfl (by decide) 0 rfl rfl rfl hl.1 rfl (Nat.le_of_ble_eq_true rfl) d_L_law_203 ⟨Nat.le_of_ble_eq_true rfl, Nat.le_of_ble_eq_true rfl⟩ (fun rp_15 wp_15 H locs hp_15 G => ?_)
        obtain ⟨ep_15, rfl⟩ := hp_15
        replace ep_15 := ep_15.symm
        subst ep_15
        have G := G.sub (ws' := wW cA a (σ) ++ wM cA a2 τ) [8, 9, 10, 11, 12, 13, 14, 15, 16, 17, 18, 19, 20, 21, 0, 1, 2, 3, 4, 5, 6, 7] rfl (lb_W cA a a2 _ _ _)
        refine lv_aload_n hx hb d_L_law_206 rfl (lv_at hl 2 rfl) ?_
        refine lv_aload_n hx hb d_L_law_207 rfl (lv_at hl 0 rfl) ?_
        refine lv_iload_n hx hb d_L_law_208 rfl (lv_at hl 3 rfl) ?_
        refine lv_iconst (v := 1) hx hb d_L_law_209 (by decide) ?_
        refine lv_iadd hx hb d_L_law_210 ?_
        refine va_sld hx hb hX hbl hbA G.2.2.2.1 (by rw [show nI i + 1 = nI (i + 1) from nI_add i 1]; exact vp_in_nI (by omega) (by omega)) d_L_law_211 ?_
        refine g_cVi (rest := [.int (bAt 256 (σ 6) (σ 0 4) (xs ((nI i) + 1).toNatClampNeg))]) S G (c_M_reply l D cA a2 τ (xs ((nI i) + 1).toNatClampNeg) hz) (cwV 1 S.2.2.2.2 ml_L_40 rfl rfl rfl (by decide +kernel) ⟨Nat.le_of_ble_eq_true rfl, Nat.le_of_ble_eq_true rfl⟩) [14, 15, 16, 17, 18, 19, 20, 21] [0, 1, 2, 3, 4, 5, 6, 7, 8, 9, 10, 11, 12, 13] (lc_M cA a a2 _ _) rfl (lr_M cA a a2 _ _) rfl (by decide) 14 rfl rfl rfl hl.1 rfl (Nat.le_of_ble_eq_true rfl) d_L_law_212 ⟨Nat.le_of_ble_eq_true rfl, Nat.le_of_ble_eq_true rfl⟩ (fun rp_16 wp_16 H locs hp_16 G => ?_)
        obtain ⟨ep_16, rfl⟩ := hp_16
        replace ep_16 := ep_16.symm
        subst ep_16
        have G := G.sub (ws' := wW cA a (σ) ++ wM cA a2 (mT τ)) [0, 1, 2, 3, 4, 5, 6, 7, 8, 9, 10, 11, 12, 13, 14, 15, 16, 17, 18, 19, 20, 21] rfl (lb_M cA a a2 _ _ _)
        have k_17 : (bAt 256 (σ 6) (σ 0 4) (xs ((nI i) + 1).toNatClampNeg)) = (mReply τ (xs ((nI i) + 1).toNatClampNeg)) := hEq
        refine lv_icmp_eq (tgt := 382) hx hb d_L_law_215 (by decide) (fun _ => ?_) (fun h9 => absurd k_17 h9)
        refine lv_iinc (v := (nI i) + 4) (lv' := [(3, .int ((nI i) + 4)), (0, .ref b), (1, .ref (a 0)), (2, .ref (a2 0))]) hx hb d_L_law_382 hl (k := 3) rfl rfl (by decide) rfl (fun ls hl => ?_)
        refine lv_goto (tgt := 28) hx hb d_L_law_385 (by decide) ?_
        have hl := lv_sub hl [1, 2, 3, 0] rfl
        rw [show nI i + 4 = nI (i + 4) from nI_add i 4] at hl
        exact ih (i + 4) _ _ (by omega) (by omega) hR.mT _ _ ls G hl
      by_cases c_18 : ((xs (nI i).toNatClampNeg) &&& 7) = 4
      · refine lv_tableIn (tgt := 220) hx hb d_L_law_42 (by rw [c_18]; decide) (by rw [c_18]; decide) (by rw [c_18]; rfl) (by decide) ?_
        refine lv_aload_n hx hb d_L_law_220 rfl (lv_at hl 1 rfl) ?_
        refine lv_aload_n hx hb d_L_law_221 rfl (lv_at hl 0 rfl) ?_
        refine lv_iload_n hx hb d_L_law_222 rfl (lv_at hl 3 rfl) ?_
        refine lv_iconst (v := 1) hx hb d_L_law_223 (by decide) ?_
        refine lv_iadd hx hb d_L_law_224 ?_
        refine va_sld hx hb hX hbl hbA G.2.2.2.1 (by rw [show nI i + 1 = nI (i + 1) from nI_add i 1]; exact vp_in_nI (by omega) (by omega)) d_L_law_225 ?_
        refine lv_aload_n hx hb d_L_law_226 rfl (lv_at hl 0 rfl) ?_
        refine lv_iload_n hx hb d_L_law_227 rfl (lv_at hl 3 rfl) ?_
        refine lv_iconst (v := 2) hx hb d_L_law_228 (by decide) ?_
        refine lv_iadd hx hb d_L_law_229 ?_
        refine va_sld hx hb hX hbl hbA G.2.2.2.1 (by rw [show nI i + 2 = nI (i + 2) from nI_add i 2]; exact vp_in_nI (by omega) (by omega)) d_L_law_230 ?_
        refine lv_aload_n hx hb d_L_law_231 rfl (lv_at hl 0 rfl) ?_
        refine lv_iload_n hx hb d_L_law_232 rfl (lv_at hl 3 rfl) ?_
        refine lv_iconst (v := 3) hx hb d_L_law_233 (by decide) ?_
        refine lv_iadd hx hb d_L_law_234 ?_
        refine va_sld hx hb hX hbl hbA G.2.2.2.1 (by rw [show nI i + 3 = nI (i + 3) from nI_add i 3]; exact vp_in_nI (by omega) (by omega)) d_L_law_235 ?_
        obtain ⟨hR2, hEq⟩ := S_set hR (xs ((nI i) + 1).toNatClampNeg) (xs ((nI i) + 2).toNatClampNeg) (xs ((nI i) + 3).toNatClampNeg)
        refine g_cVi (rest := []) S G (c_W_set l D cA a σ (xs ((nI i) + 1).toNatClampNeg) (xs ((nI i) + 2).toNatClampNeg) (xs ((nI i) + 3).toNatClampNeg)) (cwV 3 S.2.2.2.2 ml_L_41 rfl rfl rfl (by decide +kernel) ⟨Nat.le_of_ble_eq_true rfl, Nat.le_of_ble_eq_true rfl⟩) [0, 1, 2, 3, 4, 5, 6, 7, 8, 9, 10, 11, 12, 13] [14, 15, 16, 17, 18, 19, 20, 21] (lc_W cA a a2 _ _) rfl (lr_W cA a a2 _ _) rfl (by decide) 0 rfl rfl rfl hl.1 rfl (Nat.le_of_ble_eq_true rfl) d_L_law_236 ⟨Nat.le_of_ble_eq_true rfl, Nat.le_of_ble_eq_true rfl⟩ (fun rp_19 wp_19 H locs hp_19 G => ?_)
        obtain ⟨ep_19, rfl⟩ := hp_19
        replace ep_19 := ep_19.symm
        subst ep_19
        have G := G.sub (ws' := wW cA a (wSet σ (xs ((nI i) + 1).toNatClampNeg) (xs ((nI i) + 2).toNatClampNeg) (xs ((nI i) + 3).toNatClampNeg)) ++ wM cA a2 τ) [8, 9, 10, 11, 12, 13, 14, 15, 16, 17, 18, 19, 20, 21, 0, 1, 2, 3, 4, 5, 6, 7] rfl (lb_W cA a a2 _ _ _)
        refine lv_aload_n hx hb d_L_law_239 rfl (lv_at hl 2 rfl) ?_
        refine lv_aload_n hx hb d_L_law_240 rfl (lv_at hl 0 rfl) ?_
        refine lv_iload_n hx hb d_L_law_241 rfl (lv_at hl 3 rfl) ?_
        refine lv_iconst (v := 1) hx hb d_L_law_242 (by decide) ?_
        refine lv_iadd hx hb d_L_law_243 ?_
        refine va_sld hx hb hX hbl hbA G.2.2.2.1 (by rw [show nI i + 1 = nI (i + 1) from nI_add i 1]; exact vp_in_nI (by omega) (by omega)) d_L_law_244 ?_
        refine lv_aload_n hx hb d_L_law_245 rfl (lv_at hl 0 rfl) ?_
        refine lv_iload_n hx hb d_L_law_246 rfl (lv_at hl 3 rfl) ?_
        refine lv_iconst (v := 2) hx hb d_L_law_247 (by decide) ?_
        refine lv_iadd hx hb d_L_law_248 ?_
        refine va_sld hx hb hX hbl hbA G.2.2.2.1 (by rw [show nI i + 2 = nI (i + 2) from nI_add i 2]; exact vp_in_nI (by omega) (by omega)) d_L_law_249 ?_
        refine lv_aload_n hx hb d_L_law_250 rfl (lv_at hl 0 rfl) ?_
        refine lv_iload_n hx hb d_L_law_251 rfl (lv_at hl 3 rfl) ?_
        refine lv_iconst (v := 3) hx hb d_L_law_252 (by decide) ?_
        refine lv_iadd hx hb d_L_law_253 ?_
        refine va_sld hx hb hX hbl hbA G.2.2.2.1 (by rw [show nI i + 3 = nI (i + 3) from nI_add i 3]; exact vp_in_nI (by omega) (by omega)) d_L_law_254 ?_
        refine g_cVi (rest := [.int (wSetR σ (xs ((nI i) + 1).toNatClampNeg) (xs ((nI i) + 2).toNatClampNeg) (xs ((nI i) + 3).toNatClampNeg))]) S G (c_M_set l D cA a2 τ (xs ((nI i) + 1).toNatClampNeg) (xs ((nI i) + 2).toNatClampNeg) (xs ((nI i) + 3).toNatClampNeg)) (cwV 3 S.2.2.2.2 ml_L_45 rfl rfl rfl (by decide +kernel) ⟨Nat.le_of_ble_eq_true rfl, Nat.le_of_ble_eq_true rfl⟩) [14, 15, 16, 17, 18, 19, 20, 21] [0, 1, 2, 3, 4, 5, 6, 7, 8, 9, 10, 11, 12, 13] (lc_M cA a a2 _ _) rfl (lr_M cA a a2 _ _) rfl (by decide) 14 rfl rfl rfl hl.1 rfl (Nat.le_of_ble_eq_true rfl) d_L_law_255 ⟨Nat.le_of_ble_eq_true rfl, Nat.le_of_ble_eq_true rfl⟩ (fun rp_20 wp_20 H locs hp_20 G => ?_)
        obtain ⟨ep_20, rfl⟩ := hp_20
        replace ep_20 := ep_20.symm
        subst ep_20
        have G := G.sub (ws' := wW cA a (wSet σ (xs ((nI i) + 1).toNatClampNeg) (xs ((nI i) + 2).toNatClampNeg) (xs ((nI i) + 3).toNatClampNeg)) ++ wM cA a2 (mSet τ (xs ((nI i) + 1).toNatClampNeg) (xs ((nI i) + 2).toNatClampNeg) (xs ((nI i) + 3).toNatClampNeg))) [0, 1, 2, 3, 4, 5, 6, 7, 8, 9, 10, 11, 12, 13, 14, 15, 16, 17, 18, 19, 20, 21] rfl (lb_M cA a a2 _ _ _)
        have k_21 : (wSetR σ (xs ((nI i) + 1).toNatClampNeg) (xs ((nI i) + 2).toNatClampNeg) (xs ((nI i) + 3).toNatClampNeg)) = (mSetR τ (xs ((nI i) + 1).toNatClampNeg) (xs ((nI i) + 2).toNatClampNeg) (xs ((nI i) + 3).toNatClampNeg)) := hEq
        refine lv_icmp_eq (tgt := 382) hx hb d_L_law_258 (by decide) (fun _ => ?_) (fun h9 => absurd k_21 h9)
        refine lv_iinc (v := (nI i) + 4) (lv' := [(3, .int ((nI i) + 4)), (0, .ref b), (1, .ref (a 0)), (2, .ref (a2 0))]) hx hb d_L_law_382 hl (k := 3) rfl rfl (by decide) rfl (fun ls hl => ?_)
        refine lv_goto (tgt := 28) hx hb d_L_law_385 (by decide) ?_
        have hl := lv_sub hl [1, 2, 3, 0] rfl
        rw [show nI i + 4 = nI (i + 4) from nI_add i 4] at hl
        exact ih (i + 4) _ _ (by omega) (by omega) hR2 _ _ ls G hl
      by_cases c_22 : ((xs (nI i).toNatClampNeg) &&& 7) = 5
      · refine lv_tableIn (tgt := 263) hx hb d_L_law_42 (by rw [c_22]; decide) (by rw [c_22]; decide) (by rw [c_22]; rfl) (by decide) ?_
        refine lv_aload_n hx hb d_L_law_263 rfl (lv_at hl 1 rfl) ?_
        refine lv_aload_n hx hb d_L_law_264 rfl (lv_at hl 0 rfl) ?_
        refine lv_iload_n hx hb d_L_law_265 rfl (lv_at hl 3 rfl) ?_
        refine lv_iconst (v := 1) hx hb d_L_law_266 (by decide) ?_
        refine lv_iadd hx hb d_L_law_267 ?_
        refine va_sld hx hb hX hbl hbA G.2.2.2.1 (by rw [show nI i + 1 = nI (i + 1) from nI_add i 1]; exact vp_in_nI (by omega) (by omega)) d_L_law_268 ?_
        refine lv_aload_n hx hb d_L_law_269 rfl (lv_at hl 0 rfl) ?_
        refine lv_iload_n hx hb d_L_law_270 rfl (lv_at hl 3 rfl) ?_
        refine lv_iconst (v := 2) hx hb d_L_law_271 (by decide) ?_
        refine lv_iadd hx hb d_L_law_272 ?_
        refine va_sld hx hb hX hbl hbA G.2.2.2.1 (by rw [show nI i + 2 = nI (i + 2) from nI_add i 2]; exact vp_in_nI (by omega) (by omega)) d_L_law_273 ?_
        have hEq := S_get hR (xs ((nI i) + 1).toNatClampNeg) (xs ((nI i) + 2).toNatClampNeg)
        refine g_cVi (rest := []) S G (c_W_get l D cA a σ (xs ((nI i) + 1).toNatClampNeg) (xs ((nI i) + 2).toNatClampNeg)) (cwV 2 S.2.2.2.2 ml_L_46 rfl rfl rfl (by decide +kernel) ⟨Nat.le_of_ble_eq_true rfl, Nat.le_of_ble_eq_true rfl⟩) [0, 1, 2, 3, 4, 5, 6, 7, 8, 9, 10, 11, 12, 13] [14, 15, 16, 17, 18, 19, 20, 21] (lc_W cA a a2 _ _) rfl (lr_W cA a a2 _ _) rfl (by decide) 0 rfl rfl rfl hl.1 rfl (Nat.le_of_ble_eq_true rfl) d_L_law_274 ⟨Nat.le_of_ble_eq_true rfl, Nat.le_of_ble_eq_true rfl⟩ (fun rp_23 wp_23 H locs hp_23 G => ?_)
        obtain ⟨ep_23, rfl⟩ := hp_23
        replace ep_23 := ep_23.symm
        subst ep_23
        have G := G.sub (ws' := wW cA a (σ) ++ wM cA a2 τ) [8, 9, 10, 11, 12, 13, 14, 15, 16, 17, 18, 19, 20, 21, 0, 1, 2, 3, 4, 5, 6, 7] rfl (lb_W cA a a2 _ _ _)
        refine lv_aload_n hx hb d_L_law_277 rfl (lv_at hl 2 rfl) ?_
        refine lv_aload_n hx hb d_L_law_278 rfl (lv_at hl 0 rfl) ?_
        refine lv_iload_n hx hb d_L_law_279 rfl (lv_at hl 3 rfl) ?_
        refine lv_iconst (v := 1) hx hb d_L_law_280 (by decide) ?_
        refine lv_iadd hx hb d_L_law_281 ?_
        refine va_sld hx hb hX hbl hbA G.2.2.2.1 (by rw [show nI i + 1 = nI (i + 1) from nI_add i 1]; exact vp_in_nI (by omega) (by omega)) d_L_law_282 ?_
        refine lv_aload_n hx hb d_L_law_283 rfl (lv_at hl 0 rfl) ?_
        refine lv_iload_n hx hb d_L_law_284 rfl (lv_at hl 3 rfl) ?_
        refine lv_iconst (v := 2) hx hb d_L_law_285 (by decide) ?_
        refine lv_iadd hx hb d_L_law_286 ?_
        refine va_sld hx hb hX hbl hbA G.2.2.2.1 (by rw [show nI i + 2 = nI (i + 2) from nI_add i 2]; exact vp_in_nI (by omega) (by omega)) d_L_law_287 ?_
        refine g_cVi (rest := [.int (wGet σ (xs ((nI i) + 1).toNatClampNeg) (xs ((nI i) + 2).toNatClampNeg))]) S G (c_M_get l D cA a2 τ (xs ((nI i) + 1).toNatClampNeg) (xs ((nI i) + 2).toNatClampNeg)) (cwV 2 S.2.2.2.2 ml_L_50 rfl rfl rfl (by decide +kernel) ⟨Nat.le_of_ble_eq_true rfl, Nat.le_of_ble_eq_true rfl⟩) [14, 15, 16, 17, 18, 19, 20, 21] [0, 1, 2, 3, 4, 5, 6, 7, 8, 9, 10, 11, 12, 13] (lc_M cA a a2 _ _) rfl (lr_M cA a a2 _ _) rfl (by decide) 14 rfl rfl rfl hl.1 rfl (Nat.le_of_ble_eq_true rfl) d_L_law_288 ⟨Nat.le_of_ble_eq_true rfl, Nat.le_of_ble_eq_true rfl⟩ (fun rp_24 wp_24 H locs hp_24 G => ?_)
        obtain ⟨ep_24, rfl⟩ := hp_24
        replace ep_24 := ep_24.symm
        subst ep_24
        have G := G.sub (ws' := wW cA a (σ) ++ wM cA a2 (mT τ)) [0, 1, 2, 3, 4, 5, 6, 7, 8, 9, 10, 11, 12, 13, 14, 15, 16, 17, 18, 19, 20, 21] rfl (lb_M cA a a2 _ _ _)
        have k_25 : (wGet σ (xs ((nI i) + 1).toNatClampNeg) (xs ((nI i) + 2).toNatClampNeg)) = (mGet τ (xs ((nI i) + 1).toNatClampNeg) (xs ((nI i) + 2).toNatClampNeg)) := hEq
        refine lv_icmp_eq (tgt := 382) hx hb d_L_law_291 (by decide) (fun _ => ?_) (fun h9 => absurd k_25 h9)
        refine lv_iinc (v := (nI i) + 4) (lv' := [(3, .int ((nI i) + 4)), (0, .ref b), (1, .ref (a 0)), (2, .ref (a2 0))]) hx hb d_L_law_382 hl (k := 3) rfl rfl (by decide) rfl (fun ls hl => ?_)
        refine lv_goto (tgt := 28) hx hb d_L_law_385 (by decide) ?_
        have hl := lv_sub hl [1, 2, 3, 0] rfl
        rw [show nI i + 4 = nI (i + 4) from nI_add i 4] at hl
        exact ih (i + 4) _ _ (by omega) (by omega) hR.mT _ _ ls G hl
      by_cases c_26 : ((xs (nI i).toNatClampNeg) &&& 7) = 6
      · refine lv_tableIn (tgt := 296) hx hb d_L_law_42 (by rw [c_26]; decide) (by rw [c_26]; decide) (by rw [c_26]; rfl) (by decide) ?_
        refine lv_aload_n hx hb d_L_law_296 rfl (lv_at hl 1 rfl) ?_
        refine lv_aload_n hx hb d_L_law_297 rfl (lv_at hl 0 rfl) ?_
        refine lv_iload_n hx hb d_L_law_298 rfl (lv_at hl 3 rfl) ?_
        refine lv_iconst (v := 1) hx hb d_L_law_299 (by decide) ?_
        refine lv_iadd hx hb d_L_law_300 ?_
        refine va_sld hx hb hX hbl hbA G.2.2.2.1 (by rw [show nI i + 1 = nI (i + 1) from nI_add i 1]; exact vp_in_nI (by omega) (by omega)) d_L_law_301 ?_
        have hEq := S_count hR (xs ((nI i) + 1).toNatClampNeg)
        refine g_cVi (rest := []) S G (c_W_count l D cA a σ (xs ((nI i) + 1).toNatClampNeg)) (cwV 1 S.2.2.2.2 ml_L_51 rfl rfl rfl (by decide +kernel) ⟨Nat.le_of_ble_eq_true rfl, Nat.le_of_ble_eq_true rfl⟩) [0, 1, 2, 3, 4, 5, 6, 7, 8, 9, 10, 11, 12, 13] [14, 15, 16, 17, 18, 19, 20, 21] (lc_W cA a a2 _ _) rfl (lr_W cA a a2 _ _) rfl (by decide) 0 rfl rfl rfl hl.1 rfl (Nat.le_of_ble_eq_true rfl) d_L_law_302 ⟨Nat.le_of_ble_eq_true rfl, Nat.le_of_ble_eq_true rfl⟩ (fun rp_27 wp_27 H locs hp_27 G => ?_)
        obtain ⟨ep_27, rfl⟩ := hp_27
        replace ep_27 := ep_27.symm
        subst ep_27
        have G := G.sub (ws' := wW cA a (σ) ++ wM cA a2 τ) [8, 9, 10, 11, 12, 13, 14, 15, 16, 17, 18, 19, 20, 21, 0, 1, 2, 3, 4, 5, 6, 7] rfl (lb_W cA a a2 _ _ _)
        refine lv_aload_n hx hb d_L_law_305 rfl (lv_at hl 2 rfl) ?_
        refine lv_aload_n hx hb d_L_law_306 rfl (lv_at hl 0 rfl) ?_
        refine lv_iload_n hx hb d_L_law_307 rfl (lv_at hl 3 rfl) ?_
        refine lv_iconst (v := 1) hx hb d_L_law_308 (by decide) ?_
        refine lv_iadd hx hb d_L_law_309 ?_
        refine va_sld hx hb hX hbl hbA G.2.2.2.1 (by rw [show nI i + 1 = nI (i + 1) from nI_add i 1]; exact vp_in_nI (by omega) (by omega)) d_L_law_310 ?_
        refine g_cVi (rest := [.int (wCnt σ (xs ((nI i) + 1).toNatClampNeg))]) S G (c_M_count l D cA a2 τ (xs ((nI i) + 1).toNatClampNeg)) (cwV 1 S.2.2.2.2 ml_L_54 rfl rfl rfl (by decide +kernel) ⟨Nat.le_of_ble_eq_true rfl, Nat.le_of_ble_eq_true rfl⟩) [14, 15, 16, 17, 18, 19, 20, 21] [0, 1, 2, 3, 4, 5, 6, 7, 8, 9, 10, 11, 12, 13] (lc_M cA a a2 _ _) rfl (lr_M cA a a2 _ _) rfl (by decide) 14 rfl rfl rfl hl.1 rfl (Nat.le_of_ble_eq_true rfl) d_L_law_311 ⟨Nat.le_of_ble_eq_true rfl, Nat.le_of_ble_eq_true rfl⟩ (fun rp_28 wp_28 H locs hp_28 G => ?_)
        obtain ⟨ep_28, rfl⟩ := hp_28
        replace ep_28 := ep_28.symm
        subst ep_28
        have G := G.sub (ws' := wW cA a (σ) ++ wM cA a2 (mT τ)) [0, 1, 2, 3, 4, 5, 6, 7, 8, 9, 10, 11, 12, 13, 14, 15, 16, 17, 18, 19, 20, 21] rfl (lb_M cA a a2 _ _ _)
        have k_29 : (wCnt σ (xs ((nI i) + 1).toNatClampNeg)) = (mCount τ (xs ((nI i) + 1).toNatClampNeg)) := hEq
        refine lv_icmp_eq (tgt := 382) hx hb d_L_law_314 (by decide) (fun _ => ?_) (fun h9 => absurd k_29 h9)
        refine lv_iinc (v := (nI i) + 4) (lv' := [(3, .int ((nI i) + 4)), (0, .ref b), (1, .ref (a 0)), (2, .ref (a2 0))]) hx hb d_L_law_382 hl (k := 3) rfl rfl (by decide) rfl (fun ls hl => ?_)
        refine lv_goto (tgt := 28) hx hb d_L_law_385 (by decide) ?_
        have hl := lv_sub hl [1, 2, 3, 0] rfl
        rw [show nI i + 4 = nI (i + 4) from nI_add i 4] at hl
        exact ih (i + 4) _ _ (by omega) (by omega) hR.mT _ _ ls G hl
      by_cases c_30 : ((xs (nI i).toNatClampNeg) &&& 7) = 7
      · refine lv_tableIn (tgt := 319) hx hb d_L_law_42 (by rw [c_30]; decide) (by rw [c_30]; decide) (by rw [c_30]; rfl) (by decide) ?_
        refine lv_aload_n hx hb d_L_law_319 rfl (lv_at hl 1 rfl) ?_
        refine lv_aload_n hx hb d_L_law_320 rfl (lv_at hl 0 rfl) ?_
        refine lv_iload_n hx hb d_L_law_321 rfl (lv_at hl 3 rfl) ?_
        refine lv_iconst (v := 1) hx hb d_L_law_322 (by decide) ?_
        refine lv_iadd hx hb d_L_law_323 ?_
        refine va_sld hx hb hX hbl hbA G.2.2.2.1 (by rw [show nI i + 1 = nI (i + 1) from nI_add i 1]; exact vp_in_nI (by omega) (by omega)) d_L_law_324 ?_
        refine lv_aload_n hx hb d_L_law_325 rfl (lv_at hl 0 rfl) ?_
        refine lv_iload_n hx hb d_L_law_326 rfl (lv_at hl 3 rfl) ?_
        refine lv_iconst (v := 2) hx hb d_L_law_327 (by decide) ?_
        refine lv_iadd hx hb d_L_law_328 ?_
        refine va_sld hx hb hX hbl hbA G.2.2.2.1 (by rw [show nI i + 2 = nI (i + 2) from nI_add i 2]; exact vp_in_nI (by omega) (by omega)) d_L_law_329 ?_
        refine lv_i2l (v := (xs ((nI i) + 2).toNatClampNeg).toInt64) hx hb d_L_law_330 rfl ?_
        refine lv_bipush (v := 32) hx hb d_L_law_331 (by decide) ?_
        refine lv_lshl (v := lshlL ((xs ((nI i) + 2).toNatClampNeg).toInt64) 32) hx hb d_L_law_333 rfl ?_
        refine lv_aload_n hx hb d_L_law_334 rfl (lv_at hl 0 rfl) ?_
        refine lv_iload_n hx hb d_L_law_335 rfl (lv_at hl 3 rfl) ?_
        refine lv_iconst (v := 3) hx hb d_L_law_336 (by decide) ?_
        refine lv_iadd hx hb d_L_law_337 ?_
        refine va_sld hx hb hX hbl hbA G.2.2.2.1 (by rw [show nI i + 3 = nI (i + 3) from nI_add i 3]; exact vp_in_nI (by omega) (by omega)) d_L_law_338 ?_
        refine lv_i2l (v := (xs ((nI i) + 3).toNatClampNeg).toInt64) hx hb d_L_law_339 rfl ?_
        refine lv_ldc2 (v := 4294967295) hx hb S.2.2.2.1 (S.2.2.2.2 _ kn_L_26) d_L_law_340 ?_
        refine lv_land hx hb d_L_law_343 ?_
        refine lv_lor hx hb d_L_law_344 ?_
        have hEq := S_sum (xs ((nI i) + 1).toNatClampNeg) ((lshlL ((xs ((nI i) + 2).toNatClampNeg).toInt64) 32) ||| (((xs ((nI i) + 3).toNatClampNeg).toInt64) &&& 4294967295))
        refine g_cVi (rest := []) S G (c_W_sum l D cA a σ (xs ((nI i) + 1).toNatClampNeg) ((lshlL ((xs ((nI i) + 2).toNatClampNeg).toInt64) 32) ||| (((xs ((nI i) + 3).toNatClampNeg).toInt64) &&& 4294967295))) (cwV 2 S.2.2.2.2 ml_L_55 rfl rfl rfl (by decide +kernel) ⟨Nat.le_of_ble_eq_true rfl, Nat.le_of_ble_eq_true rfl⟩) [0, 1, 2, 3, 4, 5, 6, 7, 8, 9, 10, 11, 12, 13] [14, 15, 16, 17, 18, 19, 20, 21] (lc_W cA a a2 _ _) rfl (lr_W cA a a2 _ _) rfl (by decide) 0 rfl rfl rfl hl.1 rfl (Nat.le_of_ble_eq_true rfl) d_L_law_345 ⟨Nat.le_of_ble_eq_true rfl, Nat.le_of_ble_eq_true rfl⟩ (fun rp_31 wp_31 H locs hp_31 G => ?_)
        obtain ⟨ep_31, rfl⟩ := hp_31
        replace ep_31 := ep_31.symm
        subst ep_31
        have G := G.sub (ws' := wW cA a (σ) ++ wM cA a2 τ) [8, 9, 10, 11, 12, 13, 14, 15, 16, 17, 18, 19, 20, 21, 0, 1, 2, 3, 4, 5, 6, 7] rfl (lb_W cA a a2 _ _ _)
        refine lv_aload_n hx hb d_L_law_348 rfl (lv_at hl 2 rfl) ?_
        refine lv_aload_n hx hb d_L_law_349 rfl (lv_at hl 0 rfl) ?_
        refine lv_iload_n hx hb d_L_law_350 rfl (lv_at hl 3 rfl) ?_
        refine lv_iconst (v := 1) hx hb d_L_law_351 (by decide) ?_
        refine lv_iadd hx hb d_L_law_352 ?_
        refine va_sld hx hb hX hbl hbA G.2.2.2.1 (by rw [show nI i + 1 = nI (i + 1) from nI_add i 1]; exact vp_in_nI (by omega) (by omega)) d_L_law_353 ?_
        refine lv_aload_n hx hb d_L_law_354 rfl (lv_at hl 0 rfl) ?_
        refine lv_iload_n hx hb d_L_law_355 rfl (lv_at hl 3 rfl) ?_
        refine lv_iconst (v := 2) hx hb d_L_law_356 (by decide) ?_
        refine lv_iadd hx hb d_L_law_357 ?_
        refine va_sld hx hb hX hbl hbA G.2.2.2.1 (by rw [show nI i + 2 = nI (i + 2) from nI_add i 2]; exact vp_in_nI (by omega) (by omega)) d_L_law_358 ?_
        refine lv_i2l (v := (xs ((nI i) + 2).toNatClampNeg).toInt64) hx hb d_L_law_359 rfl ?_
        refine lv_bipush (v := 32) hx hb d_L_law_360 (by decide) ?_
        refine lv_lshl (v := lshlL ((xs ((nI i) + 2).toNatClampNeg).toInt64) 32) hx hb d_L_law_362 rfl ?_
        refine lv_aload_n hx hb d_L_law_363 rfl (lv_at hl 0 rfl) ?_
        refine lv_iload_n hx hb d_L_law_364 rfl (lv_at hl 3 rfl) ?_
        refine lv_iconst (v := 3) hx hb d_L_law_365 (by decide) ?_
        refine lv_iadd hx hb d_L_law_366 ?_
        refine va_sld hx hb hX hbl hbA G.2.2.2.1 (by rw [show nI i + 3 = nI (i + 3) from nI_add i 3]; exact vp_in_nI (by omega) (by omega)) d_L_law_367 ?_
        refine lv_i2l (v := (xs ((nI i) + 3).toNatClampNeg).toInt64) hx hb d_L_law_368 rfl ?_
        refine lv_ldc2 (v := 4294967295) hx hb S.2.2.2.1 (S.2.2.2.2 _ kn_L_26) d_L_law_369 ?_
        refine lv_land hx hb d_L_law_372 ?_
        refine lv_lor hx hb d_L_law_373 ?_
        refine g_cVi (rest := [.int (wSum (xs ((nI i) + 1).toNatClampNeg) ((lshlL ((xs ((nI i) + 2).toNatClampNeg).toInt64) 32) ||| (((xs ((nI i) + 3).toNatClampNeg).toInt64) &&& 4294967295)))]) S G (c_M_sum l D cA a2 τ (xs ((nI i) + 1).toNatClampNeg) ((lshlL ((xs ((nI i) + 2).toNatClampNeg).toInt64) 32) ||| (((xs ((nI i) + 3).toNatClampNeg).toInt64) &&& 4294967295))) (cwV 2 S.2.2.2.2 ml_L_58 rfl rfl rfl (by decide +kernel) ⟨Nat.le_of_ble_eq_true rfl, Nat.le_of_ble_eq_true rfl⟩) [14, 15, 16, 17, 18, 19, 20, 21] [0, 1, 2, 3, 4, 5, 6, 7, 8, 9, 10, 11, 12, 13] (lc_M cA a a2 _ _) rfl (lr_M cA a a2 _ _) rfl (by decide) 14 rfl rfl rfl hl.1 rfl (Nat.le_of_ble_eq_true rfl) d_L_law_374 ⟨Nat.le_of_ble_eq_true rfl, Nat.le_of_ble_eq_true rfl⟩ (fun rp_32 wp_32 H locs hp_32 G => ?_)
        obtain ⟨ep_32, rfl⟩ := hp_32
        replace ep_32 := ep_32.symm
        subst ep_32
        have G := G.sub (ws' := wW cA a (σ) ++ wM cA a2 (mT τ)) [0, 1, 2, 3, 4, 5, 6, 7, 8, 9, 10, 11, 12, 13, 14, 15, 16, 17, 18, 19, 20, 21] rfl (lb_M cA a a2 _ _ _)
        have k_33 : (wSum (xs ((nI i) + 1).toNatClampNeg) ((lshlL ((xs ((nI i) + 2).toNatClampNeg).toInt64) 32) ||| (((xs ((nI i) + 3).toNatClampNeg).toInt64) &&& 4294967295))) = (mSumR (xs ((nI i) + 1).toNatClampNeg) ((lshlL ((xs ((nI i) + 2).toNatClampNeg).toInt64) 32) ||| (((xs ((nI i) + 3).toNatClampNeg).toInt64) &&& 4294967295))) := hEq
        refine lv_icmp_eq (tgt := 382) hx hb d_L_law_377 (by decide) (fun _ => ?_) (fun h9 => absurd k_33 h9)
        refine lv_iinc (v := (nI i) + 4) (lv' := [(3, .int ((nI i) + 4)), (0, .ref b), (1, .ref (a 0)), (2, .ref (a2 0))]) hx hb d_L_law_382 hl (k := 3) rfl rfl (by decide) rfl (fun ls hl => ?_)
        refine lv_goto (tgt := 28) hx hb d_L_law_385 (by decide) ?_
        have hl := lv_sub hl [1, 2, 3, 0] rfl
        rw [show nI i + 4 = nI (i + 4) from nI_add i 4] at hl
        exact ih (i + 4) _ _ (by omega) (by omega) hR.mT _ _ ls G hl
      have nc_2 := lv_neT c_2 (a := 0) (by decide)
      have nc_6 := lv_neT c_6 (a := 1) (by decide)
      have nc_10 := lv_neT c_10 (a := 2) (by decide)
      have nc_14 := lv_neT c_14 (a := 3) (by decide)
      have nc_18 := lv_neT c_18 (a := 4) (by decide)
      have nc_22 := lv_neT c_22 (a := 5) (by decide)
      have nc_26 := lv_neT c_26 (a := 6) (by decide)
      have nc_30 := lv_neT c_30 (a := 7) (by decide)
      refine g_table (tgt := 382) (off := 340) hx hb d_L_law_42 ?_ (by decide) ?_
      · exact if_pos (show (((xs (nI i).toNatClampNeg) &&& 7).toInt < 0 ∨ 7 < ((xs (nI i).toNatClampNeg) &&& 7).toInt) by omega)
      refine lv_iinc (v := (nI i) + 4) (lv' := [(3, .int ((nI i) + 4)), (0, .ref b), (1, .ref (a 0)), (2, .ref (a2 0))]) hx hb d_L_law_382 hl (k := 3) rfl rfl (by decide) rfl (fun ls hl => ?_)
      refine lv_goto (tgt := 28) hx hb d_L_law_385 (by decide) ?_
      have hl := lv_sub hl [1, 2, 3, 0] rfl
      rw [show nI i + 4 = nI (i + 4) from nI_add i 4] at hl
      exact ih (i + 4) _ _ (by omega) (by omega) hR _ _ ls G hl
set_option maxHeartbeats 4000000 in
set_option maxRecDepth 100000 in
/-- the law, from its entry -/
theorem whole_start {p : Program} {e : Env} {s : State} {m : MethodId} {below : List Frame} {meth : Method} {c : Code} (l : Launch) {b L : Nat} {xs : Nat → Int32} (hL : L ≤ 2049) (C0 : lw_At p s m meth c b L xs) : W p l e room_1 s m #[Value.ref b] below meth c s.heap [] 0 0 (lw_Z below #[Value.ref b] s) (entryFrame m ([Value.ref b] : List Value).toArray 4) := by
  obtain ⟨hx, hb, hr, hml, hown, hts, hX, hbl, hlocks, hgv⟩ := id C0
  have hA : ∀ q : Nat, s.heap.size ≤ q → (fun q : Nat => s.heap.size ≤ q) q := fun _ h => h
  have hbA : ¬ (fun q : Nat => s.heap.size ≤ q) b := Nat.not_le.mpr hbl
  have S : CallFix p m c code 4 s #[Value.ref b] lw_g "WireSlaveLaw" := ⟨hx, hb, hml, hown, fun w h => hts w (List.mem_filter.mp h).1⟩
  obtain ⟨cA, hAr, hRA⟩ := arr_known (S.2.2.2.2 _ arr_I)
  obtain ⟨c0, iS0, hKn0⟩ := u_known (C := R_B) (T := F_B) (N := 2) (n := 2) S.2.2.2.2 in_B (S.2.2.2.2 _ is_B)
  obtain ⟨c1, iS1, hKn1⟩ := u_known (C := R_T) (T := F_T) (N := 2) (n := 2) S.2.2.2.2 in_T (S.2.2.2.2 _ is_T)
  obtain ⟨c2, iS2, hKn2⟩ := u_known (C := R_W) (T := F_W) (N := 10) (n := 10) S.2.2.2.2 in_W (S.2.2.2.2 _ is_W)
  obtain ⟨c3, iS3, hKn3⟩ := u_known (C := R_M) (T := F_M) (N := 13) (n := 13) S.2.2.2.2 in_M (S.2.2.2.2 _ is_M)
  obtain ⟨D, hKc⟩ : ∃ D : va_G, ∀ (k : Nat) (q : vw_C), vwCl[k]? = some q → u_Kn s q.1 q.2.1 q.2.2 (D.1 k) (D.2 k) := by
    refine ⟨(fun k => if k = 0 then c0 else if k = 1 then c1 else if k = 2 then c2 else c3, fun k => if k = 0 then iS0 else if k = 1 then iS1 else if k = 2 then iS2 else iS3), ?_⟩
    intro k q hq
    match k, hq with
    | 0, hq => cases hq; exact hKn0
    | 1, hq => cases hq; exact hKn1
    | 2, hq => cases hq; exact hKn2
    | 3, hq => cases hq; exact hKn3
    | k + 4, hq => simp [vwCl] at hq
  have hK : va_K D vwCl [(cA, .int)] s := ⟨hKc, fun k q h => by
    match k, h with
    | 0, h => cases h; exact ⟨hAr, hRA⟩
    | k + 1, h => simp at h⟩
  have G : Gw D vwCl [(cA, .int)] (fun q : Nat => s.heap.size ≤ q) s s.heap s.heap [] [] := ⟨hK, fun k q h => by simp at h, ⟨fun i j p q h => by simp at h, fun k q h => by simp at h⟩, va_S.rf, hA, va_Nw.of rfl (hts NW nl_NW)⟩
  have hl := lv_entry ([.ref b]) (n := 4) (Nat.le_of_ble_eq_true rfl)
  rw [lg_entry_eq]
  generalize (lg_sl ([.ref b]) ++ List.replicate (4 - (lg_sl ([.ref b])).length) Slot.unset).toArray = ls at hl ⊢
  have hl : lv_has ls 4 [(0, .ref b)] := hl
  refine g_new (fs := [.int 0, .null, .null, .null, .null, .null, .null, .null, .int 0, .int 0]) (ci := 2) S G in_W ft_W tok_W cl_L_7 is_W ini_W rfl (fun j hj => by rcases (show j = 0 ∨ j = 1 ∨ j = 2 ∨ j = 3 ∨ j = 4 ∨ j = 5 ∨ j = 6 ∨ j = 7 ∨ j = 8 ∨ j = 9 by omega) with rfl | rfl | rfl | rfl | rfl | rfl | rfl | rfl | rfl | rfl <;> rfl) (Nat.le_of_ble_eq_true rfl) (Nat.le_of_ble_eq_true rfl) d_L_law_0 (fun q0 H G => ?_)
  have G : Gw D vwCl [(cA, .int)] (fun q : Nat => s.heap.size ≤ q) s s.heap H _ ([(q0, .inr (2, [.int 0, .null, .null, .null, .null, .null, .null, .null, .int 0, .int 0]))] : va_W) := G
  refine lv_dup hx hb d_L_law_3 rfl ?_
  refine lv_aload_n hx hb d_L_law_4 rfl (lv_at hl 0 rfl) ?_
  refine lv_iconst (v := 0) hx hb d_L_law_5 (by decide) ?_
  refine vp_callSi (W.runS (rest := [.ref q0, .ref q0]) S (c_L_cell l b L xs hL) (va_cwS 2 S.2.2.2.2 ml_L_9 rfl rfl rfl (by decide +kernel) ⟨Nat.le_of_ble_eq_true rfl, Nat.le_of_ble_eq_true rfl⟩) ⟨fun a U g mk q => q, fun U hU hW => ⟨rfl, va_X.moved hW.alike (hX.kept (by rw [hU]; exact G.2.2.2.1.2.1 b hbl hbA)), by rw [hU]; exact Nat.lt_of_lt_of_le hbl G.2.2.2.1.1⟩⟩ rfl rfl hl.1 rfl (lv_room (Nat.le_of_ble_eq_true rfl)) d_L_law_6 ⟨Nat.le_of_ble_eq_true rfl, Nat.le_of_ble_eq_true rfl⟩) (fun r hr0 => ?_)
  replace hr0 := hr0.symm
  subst hr0
  refine g_cIv (rest := [.ref q0]) S G (c_W_init l D cA q0 (if 0 < L then xs 0 else 0)) (cwI 1 S.2.2.2.2 (goodC_ cd_W_init) rfl rfl rfl (S.2.2.2.2 _ ini_W) (S.2.2.2.2 _ ml_L_15) (S.2.2.2.2 _ mi_L_15) rfl (by decide +kernel) ⟨Nat.le_of_ble_eq_true rfl, Nat.le_of_ble_eq_true rfl⟩) [0] [] rfl rfl rfl rfl (by decide) rfl hl.1 rfl (Nat.le_of_ble_eq_true rfl) d_L_law_9 ⟨Nat.le_of_ble_eq_true rfl, Nat.le_of_ble_eq_true rfl⟩ (fun w1 H locs hw1 G => ?_)
  obtain ⟨a, ha0, rfl⟩ := hw1
  subst ha0
  have G : Gw D vwCl [(cA, .int)] (fun q : Nat => s.heap.size ≤ q) s s.heap H locs (wW cA a (wIni (if 0 < L then xs 0 else 0))) := G
  refine lv_astore_n (lv' := [(1, .ref (a 0)), (0, .ref b)]) hx hb d_L_law_12 rfl hl (by decide) rfl (fun ls hl => ?_)
  refine g_new (fs := [.int 0, .int 0, .null, .null, .null, .null, .null, .int 0, .int 0, .int 0, .null, .int 0, .null]) (ci := 3) S G in_M ft_M tok_M cl_L_18 is_M ini_M rfl (fun j hj => by rcases (show j = 0 ∨ j = 1 ∨ j = 2 ∨ j = 3 ∨ j = 4 ∨ j = 5 ∨ j = 6 ∨ j = 7 ∨ j = 8 ∨ j = 9 ∨ j = 10 ∨ j = 11 ∨ j = 12 by omega) with rfl | rfl | rfl | rfl | rfl | rfl | rfl | rfl | rfl | rfl | rfl | rfl | rfl <;> rfl) (Nat.le_of_ble_eq_true rfl) (Nat.le_of_ble_eq_true rfl) d_L_law_13 (fun q1 H G => ?_)
  refine lv_dup hx hb d_L_law_16 rfl ?_
  refine lv_aload_n hx hb d_L_law_17 rfl (lv_at hl 1 rfl) ?_
  refine lv_iconst (v := 0) hx hb d_L_law_18 (by decide) ?_
  refine vp_callSi (W.runS (rest := [.ref q1, .ref q1]) S (c_L_cell l b L xs hL) (va_cwS 2 S.2.2.2.2 ml_L_9 rfl rfl rfl (by decide +kernel) ⟨Nat.le_of_ble_eq_true rfl, Nat.le_of_ble_eq_true rfl⟩) ⟨fun a U g mk q => q, fun U hU hW => ⟨rfl, va_X.moved hW.alike (hX.kept (by rw [hU]; exact G.2.2.2.1.2.1 b hbl hbA)), by rw [hU]; exact Nat.lt_of_lt_of_le hbl G.2.2.2.1.1⟩⟩ rfl rfl hl.1 rfl (lv_room (Nat.le_of_ble_eq_true rfl)) d_L_law_19 ⟨Nat.le_of_ble_eq_true rfl, Nat.le_of_ble_eq_true rfl⟩) (fun r hr0 => ?_)
  replace hr0 := hr0.symm
  subst hr0
  refine g_cIv (rest := [.ref q1]) S G (c_M_init l D cA q1 (if 0 < L then xs 0 else 0)) (cwI 1 S.2.2.2.2 (goodC_ cd_M_init) rfl rfl rfl (S.2.2.2.2 _ ini_M) (S.2.2.2.2 _ ml_L_20) (S.2.2.2.2 _ mi_L_20) rfl (by decide +kernel) ⟨Nat.le_of_ble_eq_true rfl, Nat.le_of_ble_eq_true rfl⟩) [14] [0, 1, 2, 3, 4, 5, 6, 7, 8, 9, 10, 11, 12, 13] rfl rfl rfl rfl (by decide) rfl hl.1 rfl (Nat.le_of_ble_eq_true rfl) d_L_law_22 ⟨Nat.le_of_ble_eq_true rfl, Nat.le_of_ble_eq_true rfl⟩ (fun w2 H locs hw2 G => ?_)
  obtain ⟨a2, ha2, rfl⟩ := hw2
  subst ha2
  have G := G.sub (ws' := wW cA a (wIni (if 0 < L then xs 0 else 0)) ++ wM cA a2 (mSt0 (mIni (if 0 < L then xs 0 else 0)))) [0, 1, 2, 3, 4, 5, 6, 7, 8, 9, 10, 11, 12, 13, 14, 15, 16, 17, 18, 19, 20, 21] rfl rfl
  refine lv_astore_n (lv' := [(2, .ref (a2 0)), (1, .ref (a 0)), (0, .ref b)]) hx hb d_L_law_25 rfl hl (by decide) rfl (fun ls hl => ?_)
  refine lv_iconst (v := 1) hx hb d_L_law_26 (by decide) ?_
  refine lv_istore_n (lv' := [(3, .int 1), (2, .ref (a2 0)), (1, .ref (a 0)), (0, .ref b)]) hx hb d_L_law_27 rfl hl (by decide) rfl (fun ls hl => ?_)
  refine W.widen (k := 22) (n := 2396) (Nat.le_of_ble_eq_true rfl) (Nat.le_of_ble_eq_true rfl) ?_
  exact law_loop hL C0 L 1 _ _ (by omega) (by omega) (S_init _) _ _ ls G (lv_sub hl [3, 2, 1, 0] rfl)
