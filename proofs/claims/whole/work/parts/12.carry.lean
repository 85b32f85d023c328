abbrev rm_W_writeCoils : Room := { frames := 2, cells := 0, slots := 0, locals := 44 }
set_option maxHeartbeats 4000000 in
set_option maxRecDepth 100000 in
theorem c_W_writeCoils (l : Launch) (D : va_G) (cA : ClassId) (a : Nat → Nat) (σ : St) (a1 c0 : Int32)  : Cv l y_W_writeCoils w_W_writeCoils rm_W_writeCoils D vwCl [(cA, .int)] [.ref (a 0), .int a1, .int c0] (wW cA a σ) 0 0 (fun w0 => w0 = wW cA a (wWrC a1 c0.toNatClampNeg 0 σ)) := by
  refine Cv.of (Ts := lw_g) (own := "WireSlave") (cc := b_W_writeCoils) (maxL := 4) (ret := none) (lv := [(0, .ref (a 0)), (1, .int a1), (2, .int c0)]) (by decide) rfl rfl (fun w h => List.mem_cons_of_mem _ h) (Nat.le_of_ble_eq_true rfl) rfl ?_
  intro pp ee ss mm args below meth cx AA S hr hlk hnm G ls hl
  have hx := S.1
  have hb := S.2.1
  refine lv_iconst (v := 0) hx hb d_W_writeCoils_0 (by decide) ?_
  refine lv_istore_n (lv' := [(3, .int 0), (0, .ref (a 0)), (1, .int a1), (2, .int c0)]) hx hb d_W_writeCoils_1 rfl hl (by decide) rfl (fun ls hl => ?_)
  have lp : ∀ (n : Nat) (i : Nat) (ρ : St) (H : Heap) (locs : List Loc) (ls : Array Slot), (i + n = c0.toNatClampNeg) → (wWrC a1 n i ρ = wWrC a1 c0.toNatClampNeg 0 σ) → Gw D vwCl [(cA, .int)] AA ss ss.heap H locs (wW cA a (ρ)) → lv_has ls 4 [(0, .ref (a 0)), (1, .int a1), (2, .int c0), (3, .int (nI i))] → W pp l ee rm_W_writeCoils ss mm args below meth cx H locs 0 0 (Zv D vwCl [(cA, .int)] AA ss args below 0 0 (fun w0 => w0 = wW cA a (wWrC a1 c0.toNatClampNeg 0 σ))) (F0 mm 2 ls []) := by
    intro n
    induction n with
    | zero =>
      intro i ρ H locs ls hi hF G hl
      refine lv_iload_n hx hb d_W_writeCoils_2 rfl (lv_at hl 3 rfl) ?_
      refine lv_iload_n hx hb d_W_writeCoils_3 rfl (lv_at hl 2 rfl) ?_
      have k_1 : c0 ≤ (nI i) := by rw [show i = c0.toNatClampNeg from hi]; exact le_clamp _
      refine lv_icmp_ge (tgt := 41) hx hb d_W_writeCoils_4 (by decide) (fun _ => ?_) (fun h9 => absurd k_1 h9)
      exact g_retv S hr hlk G (congrArg (wW cA a) hF) (Nat.le_refl _) (Nat.le_refl _) d_W_writeCoils_41
    | succ n ih =>
      intro i ρ H locs ls hi hF G hl
      refine lv_iload_n hx hb d_W_writeCoils_2 rfl (lv_at hl 3 rfl) ?_
      refine lv_iload_n hx hb d_W_writeCoils_3 rfl (lv_at hl 2 rfl) ?_
      have k_2 : ¬ (c0 ≤ (nI i)) := nle_clamp (by omega)
      refine lv_icmp_ge (tgt := 41) hx hb d_W_writeCoils_4 (by decide) (fun h9 => absurd h9 k_2) (fun _ => ?_)
      refine lv_aload_n hx hb d_W_writeCoils_7 rfl (lv_at hl 0 rfl) ?_
      refine g_get S G in_W 0 rfl rfl 1 (by decide) fl_W_27 rfl d_W_writeCoils_8 ?_
      refine lv_iload_n hx hb d_W_writeCoils_11 rfl (lv_at hl 1 rfl) ?_
      refine lv_iload_n hx hb d_W_writeCoils_12 rfl (lv_at hl 3 rfl) ?_
      refine lv_iadd hx hb d_W_writeCoils_13 ?_
      refine lv_aload_n hx hb d_W_writeCoils_14 rfl (lv_at hl 0 rfl) ?_
      refine lv_iconst (v := 5) hx hb d_W_writeCoils_15 (by decide) ?_
      refine lv_iload_n hx hb d_W_writeCoils_16 rfl (lv_at hl 3 rfl) ?_
      refine lv_bipush (v := 8) hx hb d_W_writeCoils_17 (by decide) ?_
      refine lv_idiv hx hb d_W_writeCoils_19 (by decide) ?_
      refine lv_iadd hx hb d_W_writeCoils_20 ?_
      refine g_cVi (rest := [.int (a1 + (nI i)), .ref (a 1)]) S G (c_W_data l D cA a (ρ) (5 + ((nI i) / 8))) (cwV 1 S.2.2.2.2 ml_W_121 rfl rfl rfl (by decide +kernel) ⟨Nat.le_of_ble_eq_true rfl, Nat.le_of_ble_eq_true rfl⟩) [0, 1, 2, 3, 4, 5, 6, 7, 8, 9, 10, 11, 12, 13] [] rfl rfl rfl rfl (by decide) 0 rfl rfl rfl hl.1 rfl (Nat.le_of_ble_eq_true rfl) d_W_writeCoils_21 ⟨Nat.le_of_ble_eq_true rfl, Nat.le_of_ble_eq_true rfl⟩ (fun rp_3 wp_3 H locs hp_3 G => ?_)
      obtain ⟨rfl, rfl⟩ := hp_3
      have G : Gw D vwCl [(cA, .int)] AA ss ss.heap H locs (wW cA a (ρ)) := G
      refine lv_iload_n hx hb d_W_writeCoils_24 rfl (lv_at hl 3 rfl) ?_
      refine lv_bipush (v := 8) hx hb d_W_writeCoils_25 (by decide) ?_
      refine lv_irem hx hb d_W_writeCoils_27 (by decide) ?_
      refine lv_iushr (v := ush (dAt (ρ) (5 + ((nI i) / 8))) ((nI i) - (nI i) / 8 * 8)) hx hb d_W_writeCoils_28 rfl ?_
      refine lv_iconst (v := 1) hx hb d_W_writeCoils_29 (by decide) ?_
      refine lv_iand hx hb d_W_writeCoils_30 ?_
      refine g_cVi (rest := []) S G (c_T_replace l D cA (a 1) (a 2) 256 ((ρ) 1) 1 (a1 + (nI i)) ((ush (dAt (ρ) (5 + ((nI i) / 8))) ((nI i) - (nI i) / 8 * 8)) &&& 1) (by decide)) (cwV 2 S.2.2.2.2 ml_W_87 rfl rfl rfl (by decide +kernel) ⟨Nat.le_of_ble_eq_true rfl, Nat.le_of_ble_eq_true rfl⟩) [1, 2] [0, 3, 4, 5, 6, 7, 8, 9, 10, 11, 12, 13] rfl rfl rfl rfl (by decide) 1 rfl rfl rfl hl.1 rfl (Nat.le_of_ble_eq_true rfl) d_W_writeCoils_31 ⟨Nat.le_of_ble_eq_true rfl, Nat.le_of_ble_eq_true rfl⟩ (fun rp_4 wp_4 H locs hp_4 G => ?_)
      obtain ⟨rfl, rfl⟩ := hp_4
      have G := G.sub (ws' := wW cA a (sS (ρ) 1 (tRepF 256 ((ρ) 1) 1 (a1 + (nI i)) ((ush (dAt (ρ) (5 + ((nI i) / 8))) ((nI i) - (nI i) / 8 * 8)) &&& 1)))) [0, 12, 13, 1, 2, 3, 4, 5, 6, 7, 8, 9, 10, 11] rfl (ww_sT1 cA a _ _)
      refine lv_pop hx hb d_W_writeCoils_34 rfl ?_
      refine lv_iinc (v := (nI i) + 1) (lv' := [(3, .int ((nI i) + 1)), (0, .ref (a 0)), (1, .int a1), (2, .int c0)]) hx hb d_W_writeCoils_35 hl (k := 3) rfl rfl (by decide) rfl (fun ls hl => ?_)
      refine lv_goto (tgt := 2) hx hb d_W_writeCoils_38 (by decide) ?_
      have hl := lv_sub hl [1, 2, 3, 0] rfl
      rw [nI_1] at hl
      exact ih (i + 1) _ H locs ls (by omega) hF G hl
  exact lp c0.toNatClampNeg 0 σ _ _ ls (Nat.zero_add _) rfl G (lv_sub hl [1, 2, 3, 0] rfl)

abbrev rm_W_writeRegisters : Room := { frames := 3, cells := 0, slots := 0, locals := 63 }
set_option maxHeartbeats 4000000 in
set_option maxRecDepth 100000 in
theorem c_W_writeRegisters (l : Launch) (D : va_G) (cA : ClassId) (a : Nat → Nat) (σ : St) (a1 c0 : Int32)  : Cv l y_W_writeRegisters w_W_writeRegisters rm_W_writeRegisters D vwCl [(cA, .int)] [.ref (a 0), .int a1, .int c0] (wW cA a σ) 0 0 (fun w0 => w0 = wW cA a (wWrR a1 c0.toNatClampNeg 0 σ)) := by
  refine Cv.of (Ts := lw_g) (own := "WireSlave") (cc := b_W_writeRegisters) (maxL := 4) (ret := none) (lv := [(0, .ref (a 0)), (1, .int a1), (2, .int c0)]) (by decide) rfl rfl (fun w h => List.mem_cons_of_mem _ h) (Nat.le_of_ble_eq_true rfl) rfl ?_
  intro pp ee ss mm args below meth cx AA S hr hlk hnm G ls hl
  have hx := S.1
  have hb := S.2.1
  refine lv_iconst (v := 0) hx hb d_W_writeRegisters_0 (by decide) ?_
  refine lv_istore_n (lv' := [(3, .int 0), (0, .ref (a 0)), (1, .int a1), (2, .int c0)]) hx hb d_W_writeRegisters_1 rfl hl (by decide) rfl (fun ls hl => ?_)
  have lp : ∀ (n : Nat) (i : Nat) (ρ : St) (H : Heap) (locs : List Loc) (ls : Array Slot), (i + n = c0.toNatClampNeg) → (wWrR a1 n i ρ = wWrR a1 c0.toNatClampNeg 0 σ) → Gw D vwCl [(cA, .int)] AA ss ss.heap H locs (wW cA a (ρ)) → lv_has ls 4 [(0, .ref (a 0)), (1, .int a1), (2, .int c0), (3, .int (nI i))] → W pp l ee rm_W_writeRegisters ss mm args below meth cx H locs 0 0 (Zv D vwCl [(cA, .int)] AA ss args below 0 0 (fun w0 => w0 = wW cA a (wWrR a1 c0.toNatClampNeg 0 σ))) (F0 mm 2 ls []) := by
    intro n
    induction n with
    | zero =>
      intro i ρ H locs ls hi hF G hl
      refine lv_iload_n hx hb d_W_writeRegisters_2 rfl (lv_at hl 3 rfl) ?_
      refine lv_iload_n hx hb d_W_writeRegisters_3 rfl (lv_at hl 2 rfl) ?_
      have k_1 : c0 ≤ (nI i) := by rw [show i = c0.toNatClampNeg from hi]; exact le_clamp _
      refine lv_icmp_ge (tgt := 33) hx hb d_W_writeRegisters_4 (by decide) (fun _ => ?_) (fun h9 => absurd k_1 h9)
      exact g_retv S hr hlk G (congrArg (wW cA a) hF) (Nat.le_refl _) (Nat.le_refl _) d_W_writeRegisters_33
    | succ n ih =>
      intro i ρ H locs ls hi hF G hl
      refine lv_iload_n hx hb d_W_writeRegisters_2 rfl (lv_at hl 3 rfl) ?_
      refine lv_iload_n hx hb d_W_writeRegisters_3 rfl (lv_at hl 2 rfl) ?_
      have k_2 : ¬ (c0 ≤ (nI i)) := nle_clamp (by omega)
      refine lv_icmp_ge (tgt := 33) hx hb d_W_writeRegisters_4 (by decide) (fun h9 => absurd h9 k_2) (fun _ => ?_)
      refine lv_aload_n hx hb d_W_writeRegisters_7 rfl (lv_at hl 0 rfl) ?_
      refine g_get S G in_W 0 rfl rfl 3 (by decide) fl_W_35 rfl d_W_writeRegisters_8 ?_
      refine lv_iload_n hx hb d_W_writeRegisters_11 rfl (lv_at hl 1 rfl) ?_
      refine lv_iload_n hx hb d_W_writeRegisters_12 rfl (lv_at hl 3 rfl) ?_
      refine lv_iadd hx hb d_W_writeRegisters_13 ?_
      refine lv_aload_n hx hb d_W_writeRegisters_14 rfl (lv_at hl 0 rfl) ?_
      refine lv_iconst (v := 5) hx hb d_W_writeRegisters_15 (by decide) ?_
      refine lv_iconst (v := 2) hx hb d_W_writeRegisters_16 (by decide) ?_
      refine lv_iload_n hx hb d_W_writeRegisters_17 rfl (lv_at hl 3 rfl) ?_
      refine lv_imul hx hb d_W_writeRegisters_18 ?_
      refine lv_iadd hx hb d_W_writeRegisters_19 ?_
      refine g_cVi (rest := [.int (a1 + (nI i)), .ref (a 5)]) S G (c_W_dataNumber l D cA a (ρ) (5 + (2 * (nI i)))) (cwV 1 S.2.2.2.2 ml_W_124 rfl rfl rfl (by decide +kernel) ⟨Nat.le_of_ble_eq_true rfl, Nat.le_of_ble_eq_true rfl⟩) [0, 1, 2, 3, 4, 5, 6, 7, 8, 9, 10, 11, 12, 13] [] rfl rfl rfl rfl (by decide) 0 rfl rfl rfl hl.1 rfl (Nat.le_of_ble_eq_true rfl) d_W_writeRegisters_20 ⟨Nat.le_of_ble_eq_true rfl, Nat.le_of_ble_eq_true rfl⟩ (fun rp_3 wp_3 H locs hp_3 G => ?_)
      obtain ⟨rfl, rfl⟩ := hp_3
      have G : Gw D vwCl [(cA, .int)] AA ss ss.heap H locs (wW cA a (ρ)) := G
      refine g_cVi (rest := []) S G (c_T_replace l D cA (a 5) (a 6) 64 ((ρ) 3) 65535 (a1 + (nI i)) (dNum (ρ) (5 + (2 * (nI i)))) (by decide)) (cwV 2 S.2.2.2.2 ml_W_87 rfl rfl rfl (by decide +kernel) ⟨Nat.le_of_ble_eq_true rfl, Nat.le_of_ble_eq_true rfl⟩) [5, 6] [0, 1, 2, 3, 4, 7, 8, 9, 10, 11, 12, 13] rfl rfl rfl rfl (by decide) 5 rfl rfl rfl hl.1 rfl (Nat.le_of_ble_eq_true rfl) d_W_writeRegisters_23 ⟨Nat.le_of_ble_eq_true rfl, Nat.le_of_ble_eq_true rfl⟩ (fun rp_4 wp_4 H locs hp_4 G => ?_)
      obtain ⟨rfl, rfl⟩ := hp_4
      have G := G.sub (ws' := wW cA a (sS (ρ) 3 (tRepF 64 ((ρ) 3) 65535 (a1 + (nI i)) (dNum (ρ) (5 + (2 * (nI i))))))) [0, 1, 2, 3, 4, 12, 13, 5, 6, 7, 8, 9, 10, 11] rfl (ww_sT5 cA a _ _)
      refine lv_pop hx hb d_W_writeRegisters_26 rfl ?_
      refine lv_iinc (v := (nI i) + 1) (lv' := [(3, .int ((nI i) + 1)), (0, .ref (a 0)), (1, .int a1), (2, .int c0)]) hx hb d_W_writeRegisters_27 hl (k := 3) rfl rfl (by decide) rfl (fun ls hl => ?_)
      refine lv_goto (tgt := 2) hx hb d_W_writeRegisters_30 (by decide) ?_
      have hl := lv_sub hl [1, 2, 3, 0] rfl
      rw [nI_1] at hl
      exact ih (i + 1) _ H locs ls (by omega) hF G hl
  exact lp c0.toNatClampNeg 0 σ _ _ ls (Nat.zero_add _) rfl G (lv_sub hl [1, 2, 3, 0] rfl)

abbrev rm_W_carryOut : Room := { frames := 4, cells := 0, slots := 0, locals := 86 }
set_option maxHeartbeats 4000000 in
set_option maxRecDepth 100000 in
theorem c_W_carryOut (l : Launch) (D : va_G) (cA : ClassId) (a : Nat → Nat) (σ : St) (f a1 n : Int32)  : Cv l y_W_carryOut w_W_carryOut rm_W_carryOut D vwCl [(cA, .int)] [.ref (a 0), .int f, .int a1, .int n] (wW cA a σ) 0 0 (fun w0 => w0 = wW cA a (wCar σ f a1 n)) := by
  refine Cv.of (Ts := lw_g) (own := "WireSlave") (cc := b_W_carryOut) (maxL := 4) (ret := none) (lv := [(0, .ref (a 0)), (1, .int f), (2, .int a1), (3, .int n)]) (by decide) rfl rfl (fun w h => List.mem_cons_of_mem _ h) (Nat.le_of_ble_eq_true rfl) rfl ?_
  intro pp ee ss mm args below meth cx AA S hr hlk hnm G ls hl
  have hx := S.1
  have hb := S.2.1
  refine lv_iload_n hx hb d_W_carryOut_0 rfl (lv_at hl 1 rfl) ?_
  by_cases c_1 : f = 5
  · refine lv_lookup (tgt := 44) hx hb d_W_carryOut_1 (by decide) (by first | (rw [c_1]; done) | (rw [c_1]; rfl)) (by decide) ?_
    refine lv_aload_n hx hb d_W_carryOut_44 rfl (lv_at hl 0 rfl) ?_
    refine g_get S G in_W 0 rfl rfl 1 (by decide) fl_W_27 rfl d_W_carryOut_45 ?_
    refine lv_iload_n hx hb d_W_carryOut_48 rfl (lv_at hl 2 rfl) ?_
    refine lv_iload_n hx hb d_W_carryOut_49 rfl (lv_at hl 3 rfl) ?_
    refine lv_if_ne (tgt := 57) hx hb d_W_carryOut_50 (by decide) (fun c_2 => ?_) (fun c_2 => ?_)
    · refine lv_iconst (v := 1) hx hb d_W_carryOut_57 (by decide) ?_
      refine g_cVi (rest := []) S G (c_T_replace l D cA (a 1) (a 2) 256 (σ 1) 1 a1 1 (by decide)) (cwV 2 S.2.2.2.2 ml_W_87 rfl rfl rfl (by decide +kernel) ⟨Nat.le_of_ble_eq_true rfl, Nat.le_of_ble_eq_true rfl⟩) [1, 2] [0, 3, 4, 5, 6, 7, 8, 9, 10, 11, 12, 13] rfl rfl rfl rfl (by decide) 1 rfl rfl rfl hl.1 rfl (Nat.le_of_ble_eq_true rfl) d_W_carryOut_58 ⟨Nat.le_of_ble_eq_true rfl, Nat.le_of_ble_eq_true rfl⟩ (fun rp_3 wp_3 H locs hp_3 G => ?_)
      obtain ⟨rfl, rfl⟩ := hp_3
      have G := G.sub (ws' := wW cA a (sS σ 1 (tRepF 256 (σ 1) 1 a1 1))) [0, 12, 13, 1, 2, 3, 4, 5, 6, 7, 8, 9, 10, 11] rfl (ww_sT1 cA a _ _)
      refine lv_pop hx hb d_W_carryOut_61 rfl ?_
      refine lv_goto (tgt := 96) hx hb d_W_carryOut_62 (by decide) ?_
      exact g_retv S hr hlk G (by first | rfl | (simp only [wCar, eq_true c_1, eq_false c_2, ↓reduceIte]; done) | (simp only [wCar, eq_true c_1, eq_false c_2, ↓reduceIte]; rfl)) (Nat.le_refl _) (Nat.le_refl _) d_W_carryOut_96
    · refine lv_iconst (v := 0) hx hb d_W_carryOut_53 (by decide) ?_
      refine lv_goto (tgt := 58) hx hb d_W_carryOut_54 (by decide) ?_
      refine g_cVi (rest := []) S G (c_T_replace l D cA (a 1) (a 2) 256 (σ 1) 1 a1 0 (by decide)) (cwV 2 S.2.2.2.2 ml_W_87 rfl rfl rfl (by decide +kernel) ⟨Nat.le_of_ble_eq_true rfl, Nat.le_of_ble_eq_true rfl⟩) [1, 2] [0, 3, 4, 5, 6, 7, 8, 9, 10, 11, 12, 13] rfl rfl rfl rfl (by decide) 1 rfl rfl rfl hl.1 rfl (Nat.le_of_ble_eq_true rfl) d_W_carryOut_58 ⟨Nat.le_of_ble_eq_true rfl, Nat.le_of_ble_eq_true rfl⟩ (fun rp_4 wp_4 H locs hp_4 G => ?_)
      obtain ⟨rfl, rfl⟩ := hp_4
      have G := G.sub (ws' := wW cA a (sS σ 1 (tRepF 256 (σ 1) 1 a1 0))) [0, 12, 13, 1, 2, 3, 4, 5, 6, 7, 8, 9, 10, 11] rfl (ww_sT1 cA a _ _)
      refine lv_pop hx hb d_W_carryOut_61 rfl ?_
      refine lv_goto (tgt := 96) hx hb d_W_carryOut_62 (by decide) ?_
      exact g_retv S hr hlk G (by first | rfl | (simp only [wCar, eq_true c_1, eq_true c_2, ↓reduceIte]; done) | (simp only [wCar, eq_true c_1, eq_true c_2, ↓reduceIte]; rfl)) (Nat.le_refl _) (Nat.le_refl _) d_W_carryOut_96
  by_cases c_5 : f = 6
  · refine lv_lookup (tgt := 65) hx hb d_W_carryOut_1 (by decide) (by first | (rw [c_5]; done) | (rw [c_5]; rfl)) (by decide) ?_
    refine lv_aload_n hx hb d_W_carryOut_65 rfl (lv_at hl 0 rfl) ?_
    refine g_get S G in_W 0 rfl rfl 3 (by decide) fl_W_35 rfl d_W_carryOut_66 ?_
    refine lv_iload_n hx hb d_W_carryOut_69 rfl (lv_at hl 2 rfl) ?_
    refine lv_iload_n hx hb d_W_carryOut_70 rfl (lv_at hl 3 rfl) ?_
    refine g_cVi (rest := []) S G (c_T_replace l D cA (a 5) (a 6) 64 (σ 3) 65535 a1 n (by decide)) (cwV 2 S.2.2.2.2 ml_W_87 rfl rfl rfl (by decide +kernel) ⟨Nat.le_of_ble_eq_true rfl, Nat.le_of_ble_eq_true rfl⟩) [5, 6] [0, 1, 2, 3, 4, 7, 8, 9, 10, 11, 12, 13] rfl rfl rfl rfl (by decide) 5 rfl rfl rfl hl.1 rfl (Nat.le_of_ble_eq_true rfl) d_W_carryOut_71 ⟨Nat.le_of_ble_eq_true rfl, Nat.le_of_ble_eq_true rfl⟩ (fun rp_6 wp_6 H locs hp_6 G => ?_)
    obtain ⟨rfl, rfl⟩ := hp_6
    have G := G.sub (ws' := wW cA a (sS σ 3 (tRepF 64 (σ 3) 65535 a1 n))) [0, 1, 2, 3, 4, 12, 13, 5, 6, 7, 8, 9, 10, 11] rfl (ww_sT5 cA a _ _)
    refine lv_pop hx hb d_W_carryOut_74 rfl ?_
    refine lv_goto (tgt := 96) hx hb d_W_carryOut_75 (by decide) ?_
    exact g_retv S hr hlk G (by first | rfl | (simp only [wCar, eq_false c_1, eq_true c_5, ↓reduceIte]; done) | (simp only [wCar, eq_false c_1, eq_true c_5, ↓reduceIte]; rfl)) (Nat.le_refl _) (Nat.le_refl _) d_W_carryOut_96
  by_cases c_7 : f = 15
  · refine lv_lookup (tgt := 78) hx hb d_W_carryOut_1 (by decide) (by first | (rw [c_7]; done) | (rw [c_7]; rfl)) (by decide) ?_
    refine lv_aload_n hx hb d_W_carryOut_78 rfl (lv_at hl 0 rfl) ?_
    refine lv_iload_n hx hb d_W_carryOut_79 rfl (lv_at hl 2 rfl) ?_
    refine lv_iload_n hx hb d_W_carryOut_80 rfl (lv_at hl 3 rfl) ?_
    refine g_cVv (rest := []) S G (c_W_writeCoils l D cA a σ a1 n) (cwV 2 S.2.2.2.2 ml_W_162 rfl rfl rfl (by decide +kernel) ⟨Nat.le_of_ble_eq_true rfl, Nat.le_of_ble_eq_true rfl⟩) [0, 1, 2, 3, 4, 5, 6, 7, 8, 9, 10, 11, 12, 13] [] rfl rfl rfl rfl (by decide) 0 rfl rfl rfl hl.1 rfl (Nat.le_of_ble_eq_true rfl) d_W_carryOut_81 ⟨Nat.le_of_ble_eq_true rfl, Nat.le_of_ble_eq_true rfl⟩ (fun wp_8 H locs hp_8 G => ?_)
    subst hp_8
    have G : Gw D vwCl [(cA, .int)] AA ss ss.heap H locs (wW cA a (wWrC a1 n.toNatClampNeg 0 σ)) := G
    refine lv_goto (tgt := 96) hx hb d_W_carryOut_84 (by decide) ?_
    exact g_retv S hr hlk G (by first | rfl | (simp only [wCar, eq_false c_1, eq_false c_5, eq_true c_7, ↓reduceIte]; done) | (simp only [wCar, eq_false c_1, eq_false c_5, eq_true c_7, ↓reduceIte]; rfl)) (Nat.le_refl _) (Nat.le_refl _) d_W_carryOut_96
  by_cases c_9 : f = 16
  · refine lv_lookup (tgt := 87) hx hb d_W_carryOut_1 (by decide) (by first | (rw [c_9]; done) | (rw [c_9]; rfl)) (by decide) ?_
    refine lv_aload_n hx hb d_W_carryOut_87 rfl (lv_at hl 0 rfl) ?_
    refine lv_iload_n hx hb d_W_carryOut_88 rfl (lv_at hl 2 rfl) ?_
    refine lv_iload_n hx hb d_W_carryOut_89 rfl (lv_at hl 3 rfl) ?_
    refine g_cVv (rest := []) S G (c_W_writeRegisters l D cA a σ a1 n) (cwV 2 S.2.2.2.2 ml_W_166 rfl rfl rfl (by decide +kernel) ⟨Nat.le_of_ble_eq_true rfl, Nat.le_of_ble_eq_true rfl⟩) [0, 1, 2, 3, 4, 5, 6, 7, 8, 9, 10, 11, 12, 13] [] rfl rfl rfl rfl (by decide) 0 rfl rfl rfl hl.1 rfl (Nat.le_of_ble_eq_true rfl) d_W_carryOut_90 ⟨Nat.le_of_ble_eq_true rfl, Nat.le_of_ble_eq_true rfl⟩ (fun wp_10 H locs hp_10 G => ?_)
    subst hp_10
    have G : Gw D vwCl [(cA, .int)] AA ss ss.heap H locs (wW cA a (wWrR a1 n.toNatClampNeg 0 σ)) := G
    refine lv_goto (tgt := 96) hx hb d_W_carryOut_93 (by decide) ?_
    exact g_retv S hr hlk G (by first | rfl | (simp only [wCar, eq_false c_1, eq_false c_5, eq_false c_7, eq_true c_9, ↓reduceIte]; done) | (simp only [wCar, eq_false c_1, eq_false c_5, eq_false c_7, eq_true c_9, ↓reduceIte]; rfl)) (Nat.le_refl _) (Nat.le_refl _) d_W_carryOut_96
  refine lv_lookup (tgt := 96) (off := 95) hx hb d_W_carryOut_1 (by decide) ((lv_osw c_1 (by decide)).trans ((lv_osw c_5 (by decide)).trans ((lv_osw c_7 (by decide)).trans ((lv_osw c_9 (by decide)).trans (rfl))))) (by decide) ?_
  exact g_retv S hr hlk G (by first | rfl | (simp only [wCar, eq_false c_1, eq_false c_5, eq_false c_7, eq_false c_9, ↓reduceIte]; done) | (simp only [wCar, eq_false c_1, eq_false c_5, eq_false c_7, eq_false c_9, ↓reduceIte]; rfl)) (Nat.le_refl _) (Nat.le_refl _) d_W_carryOut_96
