section
-- ===== PART A: goes FIRST, ahead of the names: the tables' words, and 'selects' of the private methods out of them =====
/-- a private method of a class that the tables say can be made, by its rows of tables_1 -/
def lw_okq (q : MethodName × Nat) : Prop := (q.1.cls ≠ "java/lang/invoke/MethodHandle" ∧ q.1.cls ≠ "java/lang/invoke/VarHandle") ∧ Cond.instantiable q.1.cls q.2 ∈ tables_1 ∧ Cond.privateMethod q.1 ∈ tables_1 ∧ Cond.instanceMethod q.1 ∈ tables_1
theorem lw_p0 : lw_okq (⟨"WireSlave", "takeByte", "(I)V"⟩, 10) := ⟨⟨by decide +kernel, by decide +kernel⟩, List.mem_of_getElem? (i := 7) (by decide +kernel), List.mem_of_getElem? (i := 84) (by decide +kernel), List.mem_of_getElem? (i := 85) (by decide +kernel)⟩
theorem lw_p1 : lw_okq (⟨"WireSlave", "endFrame", "()V"⟩, 10) := ⟨⟨by decide +kernel, by decide +kernel⟩, List.mem_of_getElem? (i := 7) (by decide +kernel), List.mem_of_getElem? (i := 107) (by decide +kernel), List.mem_of_getElem? (i := 108) (by decide +kernel)⟩
theorem lw_p2 : lw_okq (⟨"WireSlave", "tally", "(I)V"⟩, 10) := ⟨⟨by decide +kernel, by decide +kernel⟩, List.mem_of_getElem? (i := 7) (by decide +kernel), List.mem_of_getElem? (i := 115) (by decide +kernel), List.mem_of_getElem? (i := 116) (by decide +kernel)⟩
theorem lw_p3 : lw_okq (⟨"WireSlave", "isThrownAway", "()Z"⟩, 10) := ⟨⟨by decide +kernel, by decide +kernel⟩, List.mem_of_getElem? (i := 7) (by decide +kernel), List.mem_of_getElem? (i := 119) (by decide +kernel), List.mem_of_getElem? (i := 120) (by decide +kernel)⟩
theorem lw_p4 : lw_okq (⟨"WireSlave$Bytes", "sumOfFirst", "(I)I"⟩, 2) := ⟨⟨by decide +kernel, by decide +kernel⟩, List.mem_of_getElem? (i := 36) (by decide +kernel), List.mem_of_getElem? (i := 130) (by decide +kernel), List.mem_of_getElem? (i := 131) (by decide +kernel)⟩
theorem lw_p5 : lw_okq (⟨"WireSlave", "isForOthers", "()Z"⟩, 10) := ⟨⟨by decide +kernel, by decide +kernel⟩, List.mem_of_getElem? (i := 7) (by decide +kernel), List.mem_of_getElem? (i := 143) (by decide +kernel), List.mem_of_getElem? (i := 144) (by decide +kernel)⟩
theorem lw_p6 : lw_okq (⟨"WireSlave", "answerRequest", "()V"⟩, 10) := ⟨⟨by decide +kernel, by decide +kernel⟩, List.mem_of_getElem? (i := 7) (by decide +kernel), List.mem_of_getElem? (i := 148) (by decide +kernel), List.mem_of_getElem? (i := 149) (by decide +kernel)⟩
theorem lw_p7 : lw_okq (⟨"WireSlave", "dataNumber", "(I)I"⟩, 10) := ⟨⟨by decide +kernel, by decide +kernel⟩, List.mem_of_getElem? (i := 7) (by decide +kernel), List.mem_of_getElem? (i := 152) (by decide +kernel), List.mem_of_getElem? (i := 153) (by decide +kernel)⟩
theorem lw_p8 : lw_okq (⟨"WireSlave", "data", "(I)I"⟩, 10) := ⟨⟨by decide +kernel, by decide +kernel⟩, List.mem_of_getElem? (i := 7) (by decide +kernel), List.mem_of_getElem? (i := 156) (by decide +kernel), List.mem_of_getElem? (i := 157) (by decide +kernel)⟩
theorem lw_p9 : lw_okq (⟨"WireSlave", "refusalOf", "(III)I"⟩, 10) := ⟨⟨by decide +kernel, by decide +kernel⟩, List.mem_of_getElem? (i := 7) (by decide +kernel), List.mem_of_getElem? (i := 160) (by decide +kernel), List.mem_of_getElem? (i := 161) (by decide +kernel)⟩
theorem lw_p10 : lw_okq (⟨"WireSlave", "tableOfFunction", "(I)LWireSlave$Table;"⟩, 10) := ⟨⟨by decide +kernel, by decide +kernel⟩, List.mem_of_getElem? (i := 7) (by decide +kernel), List.mem_of_getElem? (i := 164) (by decide +kernel), List.mem_of_getElem? (i := 165) (by decide +kernel)⟩
theorem lw_p11 : lw_okq (⟨"WireSlave", "isDueSize", "(I)Z"⟩, 10) := ⟨⟨by decide +kernel, by decide +kernel⟩, List.mem_of_getElem? (i := 7) (by decide +kernel), List.mem_of_getElem? (i := 168) (by decide +kernel), List.mem_of_getElem? (i := 169) (by decide +kernel)⟩
theorem lw_p12 : lw_okq (⟨"WireSlave", "dataSize", "()I"⟩, 10) := ⟨⟨by decide +kernel, by decide +kernel⟩, List.mem_of_getElem? (i := 7) (by decide +kernel), List.mem_of_getElem? (i := 172) (by decide +kernel), List.mem_of_getElem? (i := 173) (by decide +kernel)⟩
theorem lw_p13 : lw_okq (⟨"WireSlave", "isDueAmount", "(II)Z"⟩, 10) := ⟨⟨by decide +kernel, by decide +kernel⟩, List.mem_of_getElem? (i := 7) (by decide +kernel), List.mem_of_getElem? (i := 176) (by decide +kernel), List.mem_of_getElem? (i := 177) (by decide +kernel)⟩
theorem lw_p14 : lw_okq (⟨"WireSlave", "carryOut", "(III)V"⟩, 10) := ⟨⟨by decide +kernel, by decide +kernel⟩, List.mem_of_getElem? (i := 7) (by decide +kernel), List.mem_of_getElem? (i := 188) (by decide +kernel), List.mem_of_getElem? (i := 189) (by decide +kernel)⟩
theorem lw_p15 : lw_okq (⟨"WireSlave", "writeCoils", "(II)V"⟩, 10) := ⟨⟨by decide +kernel, by decide +kernel⟩, List.mem_of_getElem? (i := 7) (by decide +kernel), List.mem_of_getElem? (i := 197) (by decide +kernel), List.mem_of_getElem? (i := 198) (by decide +kernel)⟩
def lw_privs_1 : List (MethodName × Nat) := [(⟨"WireSlave", "takeByte", "(I)V"⟩, 10), (⟨"WireSlave", "endFrame", "()V"⟩, 10), (⟨"WireSlave", "tally", "(I)V"⟩, 10), (⟨"WireSlave", "isThrownAway", "()Z"⟩, 10), (⟨"WireSlave$Bytes", "sumOfFirst", "(I)I"⟩, 2), (⟨"WireSlave", "isForOthers", "()Z"⟩, 10), (⟨"WireSlave", "answerRequest", "()V"⟩, 10), (⟨"WireSlave", "dataNumber", "(I)I"⟩, 10), (⟨"WireSlave", "data", "(I)I"⟩, 10), (⟨"WireSlave", "refusalOf", "(III)I"⟩, 10), (⟨"WireSlave", "tableOfFunction", "(I)LWireSlave$Table;"⟩, 10), (⟨"WireSlave", "isDueSize", "(I)Z"⟩, 10), (⟨"WireSlave", "dataSize", "()I"⟩, 10), (⟨"WireSlave", "isDueAmount", "(II)Z"⟩, 10), (⟨"WireSlave", "carryOut", "(III)V"⟩, 10), (⟨"WireSlave", "writeCoils", "(II)V"⟩, 10)]
theorem lw_r1 : ∀ q ∈ lw_privs_1, lw_okq q := List.forall_mem_cons.mpr ⟨lw_p0, List.forall_mem_cons.mpr ⟨lw_p1, List.forall_mem_cons.mpr ⟨lw_p2, List.forall_mem_cons.mpr ⟨lw_p3, List.forall_mem_cons.mpr ⟨lw_p4, List.forall_mem_cons.mpr ⟨lw_p5, List.forall_mem_cons.mpr ⟨lw_p6, List.forall_mem_cons.mpr ⟨lw_p7, List.forall_mem_cons.mpr ⟨lw_p8, List.forall_mem_cons.mpr ⟨lw_p9, List.forall_mem_cons.mpr ⟨lw_p10, List.forall_mem_cons.mpr ⟨lw_p11, List.forall_mem_cons.mpr ⟨lw_p12, List.forall_mem_cons.mpr ⟨lw_p13, List.forall_mem_cons.mpr ⟨lw_p14, List.forall_mem_cons.mpr ⟨lw_p15, fun _ h => absurd h List.not_mem_nil⟩⟩⟩⟩⟩⟩⟩⟩⟩⟩⟩⟩⟩⟩⟩⟩
theorem lw_p16 : lw_okq (⟨"WireSlave", "writeRegisters", "(II)V"⟩, 10) := ⟨⟨by decide +kernel, by decide +kernel⟩, List.mem_of_getElem? (i := 7) (by decide +kernel), List.mem_of_getElem? (i := 201) (by decide +kernel), List.mem_of_getElem? (i := 202) (by decide +kernel)⟩
theorem lw_p17 : lw_okq (⟨"WireSlave", "appendResult", "(III)V"⟩, 10) := ⟨⟨by decide +kernel, by decide +kernel⟩, List.mem_of_getElem? (i := 7) (by decide +kernel), List.mem_of_getElem? (i := 205) (by decide +kernel), List.mem_of_getElem? (i := 206) (by decide +kernel)⟩
theorem lw_p18 : lw_okq (⟨"WireSlave", "appendBits", "(LWireSlave$Table;II)V"⟩, 10) := ⟨⟨by decide +kernel, by decide +kernel⟩, List.mem_of_getElem? (i := 7) (by decide +kernel), List.mem_of_getElem? (i := 209) (by decide +kernel), List.mem_of_getElem? (i := 210) (by decide +kernel)⟩
theorem lw_p19 : lw_okq (⟨"WireSlave", "appendNumbers", "(LWireSlave$Table;II)V"⟩, 10) := ⟨⟨by decide +kernel, by decide +kernel⟩, List.mem_of_getElem? (i := 7) (by decide +kernel), List.mem_of_getElem? (i := 220) (by decide +kernel), List.mem_of_getElem? (i := 221) (by decide +kernel)⟩
theorem lw_p20 : lw_okq (⟨"WireSlave", "appendEcho", "()V"⟩, 10) := ⟨⟨by decide +kernel, by decide +kernel⟩, List.mem_of_getElem? (i := 7) (by decide +kernel), List.mem_of_getElem? (i := 224) (by decide +kernel), List.mem_of_getElem? (i := 225) (by decide +kernel)⟩
theorem lw_p21 : lw_okq (⟨"WireSlave", "tableNumbered", "(I)LWireSlave$Table;"⟩, 10) := ⟨⟨by decide +kernel, by decide +kernel⟩, List.mem_of_getElem? (i := 7) (by decide +kernel), List.mem_of_getElem? (i := 241) (by decide +kernel), List.mem_of_getElem? (i := 242) (by decide +kernel)⟩
theorem lw_p22 : lw_okq (⟨"WireSlaveModel", "ends", "()I"⟩, 13) := ⟨⟨by decide +kernel, by decide +kernel⟩, List.mem_of_getElem? (i := 261) (by decide +kernel), List.mem_of_getElem? (i := 321) (by decide +kernel), List.mem_of_getElem? (i := 322) (by decide +kernel)⟩
theorem lw_p23 : lw_okq (⟨"WireSlaveModel", "sumOf", "([II)I"⟩, 13) := ⟨⟨by decide +kernel, by decide +kernel⟩, List.mem_of_getElem? (i := 261) (by decide +kernel), List.mem_of_getElem? (i := 325) (by decide +kernel), List.mem_of_getElem? (i := 326) (by decide +kernel)⟩
theorem lw_p24 : lw_okq (⟨"WireSlaveModel", "with", "(II)I"⟩, 13) := ⟨⟨by decide +kernel, by decide +kernel⟩, List.mem_of_getElem? (i := 261) (by decide +kernel), List.mem_of_getElem? (i := 330) (by decide +kernel), List.mem_of_getElem? (i := 331) (by decide +kernel)⟩
theorem lw_p25 : lw_okq (⟨"WireSlaveModel", "why", "(II)I"⟩, 13) := ⟨⟨by decide +kernel, by decide +kernel⟩, List.mem_of_getElem? (i := 261) (by decide +kernel), List.mem_of_getElem? (i := 335) (by decide +kernel), List.mem_of_getElem? (i := 336) (by decide +kernel)⟩
theorem lw_p26 : lw_okq (⟨"WireSlaveModel", "data", "(I)I"⟩, 13) := ⟨⟨by decide +kernel, by decide +kernel⟩, List.mem_of_getElem? (i := 261) (by decide +kernel), List.mem_of_getElem? (i := 339) (by decide +kernel), List.mem_of_getElem? (i := 340) (by decide +kernel)⟩
theorem lw_p27 : lw_okq (⟨"WireSlaveModel", "two", "(I)I"⟩, 13) := ⟨⟨by decide +kernel, by decide +kernel⟩, List.mem_of_getElem? (i := 261) (by decide +kernel), List.mem_of_getElem? (i := 343) (by decide +kernel), List.mem_of_getElem? (i := 344) (by decide +kernel)⟩
theorem lw_p28 : lw_okq (⟨"WireSlaveModel", "table", "(I)[I"⟩, 13) := ⟨⟨by decide +kernel, by decide +kernel⟩, List.mem_of_getElem? (i := 261) (by decide +kernel), List.mem_of_getElem? (i := 348) (by decide +kernel), List.mem_of_getElem? (i := 349) (by decide +kernel)⟩
theorem lw_p29 : lw_okq (⟨"WireSlaveModel", "act", "(I)V"⟩, 13) := ⟨⟨by decide +kernel, by decide +kernel⟩, List.mem_of_getElem? (i := 261) (by decide +kernel), List.mem_of_getElem? (i := 352) (by decide +kernel), List.mem_of_getElem? (i := 353) (by decide +kernel)⟩
theorem lw_p30 : lw_okq (⟨"WireSlaveModel", "add", "(I)V"⟩, 13) := ⟨⟨by decide +kernel, by decide +kernel⟩, List.mem_of_getElem? (i := 261) (by decide +kernel), List.mem_of_getElem? (i := 356) (by decide +kernel), List.mem_of_getElem? (i := 357) (by decide +kernel)⟩
theorem lw_p31 : lw_okq (⟨"WireSlaveModel", "answer", "(I)V"⟩, 13) := ⟨⟨by decide +kernel, by decide +kernel⟩, List.mem_of_getElem? (i := 261) (by decide +kernel), List.mem_of_getElem? (i := 360) (by decide +kernel), List.mem_of_getElem? (i := 361) (by decide +kernel)⟩
def lw_privs_2 : List (MethodName × Nat) := [(⟨"WireSlave", "writeRegisters", "(II)V"⟩, 10), (⟨"WireSlave", "appendResult", "(III)V"⟩, 10), (⟨"WireSlave", "appendBits", "(LWireSlave$Table;II)V"⟩, 10), (⟨"WireSlave", "appendNumbers", "(LWireSlave$Table;II)V"⟩, 10), (⟨"WireSlave", "appendEcho", "()V"⟩, 10), (⟨"WireSlave", "tableNumbered", "(I)LWireSlave$Table;"⟩, 10), (⟨"WireSlaveModel", "ends", "()I"⟩, 13), (⟨"WireSlaveModel", "sumOf", "([II)I"⟩, 13), (⟨"WireSlaveModel", "with", "(II)I"⟩, 13), (⟨"WireSlaveModel", "why", "(II)I"⟩, 13), (⟨"WireSlaveModel", "data", "(I)I"⟩, 13), (⟨"WireSlaveModel", "two", "(I)I"⟩, 13), (⟨"WireSlaveModel", "table", "(I)[I"⟩, 13), (⟨"WireSlaveModel", "act", "(I)V"⟩, 13), (⟨"WireSlaveModel", "add", "(I)V"⟩, 13), (⟨"WireSlaveModel", "answer", "(I)V"⟩, 13)]
theorem lw_r2 : ∀ q ∈ lw_privs_2, lw_okq q := List.forall_mem_cons.mpr ⟨lw_p16, List.forall_mem_cons.mpr ⟨lw_p17, List.forall_mem_cons.mpr ⟨lw_p18, List.forall_mem_cons.mpr ⟨lw_p19, List.forall_mem_cons.mpr ⟨lw_p20, List.forall_mem_cons.mpr ⟨lw_p21, List.forall_mem_cons.mpr ⟨lw_p22, List.forall_mem_cons.mpr ⟨lw_p23, List.forall_mem_cons.mpr ⟨lw_p24, List.forall_mem_cons.mpr ⟨lw_p25, List.forall_mem_cons.mpr ⟨lw_p26, List.forall_mem_cons.mpr ⟨lw_p27, List.forall_mem_cons.mpr ⟨lw_p28, List.forall_mem_cons.mpr ⟨lw_p29, List.forall_mem_cons.mpr ⟨lw_p30, List.forall_mem_cons.mpr ⟨lw_p31, fun _ h => absurd h List.not_mem_nil⟩⟩⟩⟩⟩⟩⟩⟩⟩⟩⟩⟩⟩⟩⟩⟩
theorem lw_p32 : lw_okq (⟨"WireSlaveModel", "noPlace", "(II)Z"⟩, 13) := ⟨⟨by decide +kernel, by decide +kernel⟩, List.mem_of_getElem? (i := 261) (by decide +kernel), List.mem_of_getElem? (i := 376) (by decide +kernel), List.mem_of_getElem? (i := 377) (by decide +kernel)⟩
theorem lw_p33 : lw_okq (⟨"WireSlaveModel", "byNumber", "(I)[I"⟩, 13) := ⟨⟨by decide +kernel, by decide +kernel⟩, List.mem_of_getElem? (i := 261) (by decide +kernel), List.mem_of_getElem? (i := 380) (by decide +kernel), List.mem_of_getElem? (i := 381) (by decide +kernel)⟩
def lw_privs_3 : List (MethodName × Nat) := [(⟨"WireSlaveModel", "noPlace", "(II)Z"⟩, 13), (⟨"WireSlaveModel", "byNumber", "(I)[I"⟩, 13)]
theorem lw_r3 : ∀ q ∈ lw_privs_3, lw_okq q := List.forall_mem_cons.mpr ⟨lw_p32, List.forall_mem_cons.mpr ⟨lw_p33, fun _ h => absurd h List.not_mem_nil⟩⟩
def lw_privs : List (MethodName × Nat) := lw_privs_1 ++ (lw_privs_2 ++ (lw_privs_3))
def lw_tbl : List Cond := k2_sels lw_privs ++ tables_1
theorem lw_privs_ok : ∀ q ∈ lw_privs, lw_okq q := by
  show ∀ q ∈ lw_privs_1 ++ (lw_privs_2 ++ (lw_privs_3)), lw_okq q
  exact List.forall_mem_append.mpr ⟨lw_r1, List.forall_mem_append.mpr ⟨lw_r2, lw_r3⟩⟩
end
section
/-! Names, fields, words, decode rows: written by wip/names.py out of the claim. Every method's words: its code, then all of lw_tbl. -/
def lw_g : List Cond := lw_tbl.filter goodWord
theorem gm_ {w : Cond} (h : w ∈ lw_tbl) (g : goodWord w = true) : w ∈ lw_g := List.mem_filter.mpr ⟨h, g⟩
theorem goodIn_sb {big : List Cond} (h : big.all goodWord = true) : GoodIn big big := fun w hw => ⟨hw, good_of_word (List.all_eq_true.mp h w hw)⟩
def R_B : String := "WireSlave$Bytes"
def F_B : u_T := fun k => match k with
  | 0 => ("WireSlave$Bytes", "row", "[I", true)
  | _ => ("WireSlave$Bytes", "size", "I", false)
def ft_B : Nat → FieldType := fun k => match k with
  | 0 => .array .int
  | _ => .int
theorem nm_B : ∀ a, a < 2 → ∀ b, b < 2 → a ≠ b → (F_B a).2.1 ≠ (F_B b).2.1 := by decide +kernel
theorem tok_B : ∀ k, k < 2 → parseFieldDescriptor (F_B k).2.2.1 = some (ft_B k) := by decide +kernel
theorem in0_B : ∀ w ∈ u_ws R_B F_B 2, w ∈ lw_tbl := by decide +kernel
theorem ig0_B : (u_ws R_B F_B 2).all goodWord = true := by decide +kernel
theorem in_B : ∀ w ∈ u_ws R_B F_B 2, w ∈ lw_g := fun w h => gm_ (in0_B w h) (List.all_eq_true.mp ig0_B w h)
def R_T : String := "WireSlave$Table"
def F_T : u_T := fun k => match k with
  | 0 => ("WireSlave$Table", "places", "[I", true)
  | _ => ("WireSlave$Table", "most", "I", true)
def ft_T : Nat → FieldType := fun k => match k with
  | 0 => .array .int
  | _ => .int
theorem nm_T : ∀ a, a < 2 → ∀ b, b < 2 → a ≠ b → (F_T a).2.1 ≠ (F_T b).2.1 := by decide +kernel
theorem tok_T : ∀ k, k < 2 → parseFieldDescriptor (F_T k).2.2.1 = some (ft_T k) := by decide +kernel
theorem in0_T : ∀ w ∈ u_ws R_T F_T 2, w ∈ lw_tbl := by decide +kernel
theorem ig0_T : (u_ws R_T F_T 2).all goodWord = true := by decide +kernel
theorem in_T : ∀ w ∈ u_ws R_T F_T 2, w ∈ lw_g := fun w h => gm_ (in0_T w h) (List.all_eq_true.mp ig0_T w h)
def R_W : String := "WireSlave"
def F_W : u_T := fun k => match k with
  | 0 => ("WireSlave", "address", "I", true)
  | 1 => ("WireSlave", "coils", "LWireSlave$Table;", true)
  | 2 => ("WireSlave", "switches", "LWireSlave$Table;", true)
  | 3 => ("WireSlave", "registers", "LWireSlave$Table;", true)
  | 4 => ("WireSlave", "meters", "LWireSlave$Table;", true)
  | 5 => ("WireSlave", "frame", "LWireSlave$Bytes;", true)
  | 6 => ("WireSlave", "answer", "LWireSlave$Bytes;", true)
  | 7 => ("WireSlave", "counts", "[I", true)
  | 8 => ("WireSlave", "gap", "I", false)
  | _ => ("WireSlave", "spoilt", "Z", false)
def ft_W : Nat → FieldType := fun k => match k with
  | 0 => .int
  | 1 => .object "WireSlave$Table"
  | 2 => .object "WireSlave$Table"
  | 3 => .object "WireSlave$Table"
  | 4 => .object "WireSlave$Table"
  | 5 => .object "WireSlave$Bytes"
  | 6 => .object "WireSlave$Bytes"
  | 7 => .array .int
  | 8 => .int
  | _ => .boolean
theorem nm_W : ∀ a, a < 10 → ∀ b, b < 10 → a ≠ b → (F_W a).2.1 ≠ (F_W b).2.1 := by decide +kernel
theorem tok_W : ∀ k, k < 10 → parseFieldDescriptor (F_W k).2.2.1 = some (ft_W k) := by decide +kernel
theorem in0_W : ∀ w ∈ u_ws R_W F_W 10, w ∈ lw_tbl := by decide +kernel
theorem ig0_W : (u_ws R_W F_W 10).all goodWord = true := by decide +kernel
theorem in_W : ∀ w ∈ u_ws R_W F_W 10, w ∈ lw_g := fun w h => gm_ (in0_W w h) (List.all_eq_true.mp ig0_W w h)
def R_M : String := "WireSlaveModel"
def F_M : u_T := fun k => match k with
  | 0 => ("WireSlaveModel", "thrown", "I", false)
  | 1 => ("WireSlaveModel", "own", "I", true)
  | 2 => ("WireSlaveModel", "coils", "[I", true)
  | 3 => ("WireSlaveModel", "switches", "[I", true)
  | 4 => ("WireSlaveModel", "registers", "[I", true)
  | 5 => ("WireSlaveModel", "meters", "[I", true)
  | 6 => ("WireSlaveModel", "frame", "[I", true)
  | 7 => ("WireSlaveModel", "many", "I", false)
  | 8 => ("WireSlaveModel", "gap", "I", false)
  | 9 => ("WireSlaveModel", "spoilt", "Z", false)
  | 10 => ("WireSlaveModel", "reply", "[I", true)
  | 11 => ("WireSlaveModel", "size", "I", false)
  | _ => ("WireSlaveModel", "counts", "[I", true)
def ft_M : Nat → FieldType := fun k => match k with
  | 0 => .int
  | 1 => .int
  | 2 => .array .int
  | 3 => .array .int
  | 4 => .array .int
  | 5 => .array .int
  | 6 => .array .int
  | 7 => .int
  | 8 => .int
  | 9 => .boolean
  | 10 => .array .int
  | 11 => .int
  | _ => .array .int
theorem nm_M : ∀ a, a < 13 → ∀ b, b < 13 → a ≠ b → (F_M a).2.1 ≠ (F_M b).2.1 := by decide +kernel
theorem tok_M : ∀ k, k < 13 → parseFieldDescriptor (F_M k).2.2.1 = some (ft_M k) := by decide +kernel
theorem in0_M : ∀ w ∈ u_ws R_M F_M 13, w ∈ lw_tbl := by decide +kernel
theorem ig0_M : (u_ws R_M F_M 13).all goodWord = true := by decide +kernel
theorem in_M : ∀ w ∈ u_ws R_M F_M 13, w ∈ lw_g := fun w h => gm_ (in0_M w h) (List.all_eq_true.mp ig0_M w h)
abbrev vwCl : List vw_C := [(R_B, F_B, 2), (R_T, F_T, 2), (R_W, F_W, 10), (R_M, F_M, 13)]
theorem lw_good : GoodIn lw_g lw_g := goodIn_sb (List.all_eq_true.mpr (fun w h => (List.mem_filter.mp h).2))
theorem goodC_ {c : Cond} (h : c ∈ lw_g) : GoodIn lw_g (c :: lw_g) := fun w hw => (List.mem_cons.mp hw).elim (fun e => by rw [e]; exact lw_good c h) (lw_good w)
theorem goodA_ {as bs : List Cond} (ha : ∀ w ∈ as, w ∈ lw_g) (hb : GoodIn lw_g bs) : GoodIn lw_g (as ++ bs) := fun w hw => (List.mem_append.mp hw).elim (fun h => lw_good w (ha w h)) (hb w)
theorem goodV_ {own C : String} {i mL : Nat} {y : MethodName} {cc : ByteArray} {rt : Option FieldType} (h1 : Cond.methodLink own i y ∈ lw_g) (h2 : Cond.instanceMethod y ∈ lw_g) (h3 : Cond.selects C y y ∈ lw_g) (h4 : Cond.initialized C ∈ lw_g) (h5 : Cond.code y cc mL rt ∈ lw_g) : GoodIn lw_g (wsV own i C y (Cond.code y cc mL rt :: lw_g)) := goodA_ (fun w hw => by
  rcases List.mem_cons.mp hw with rfl | hw
  · exact h1
  rcases List.mem_cons.mp hw with rfl | hw
  · exact h2
  rcases List.mem_cons.mp hw with rfl | hw
  · exact h3
  rcases List.mem_cons.mp hw with rfl | hw
  · exact h4
  exact absurd hw List.not_mem_nil) (goodC_ h5)
theorem goodS_ {own : String} {i mL : Nat} {y : MethodName} {cc : ByteArray} {rt : Option FieldType} (h1 : Cond.methodLink own i y ∈ lw_g) (h2 : Cond.static y ∈ lw_g) (h3 : Cond.initialized y.cls ∈ lw_g) (h5 : Cond.code y cc mL rt ∈ lw_g) : GoodIn lw_g (va_wsS own i y (Cond.code y cc mL rt :: lw_g)) := goodA_ (fun w hw => by
  rcases List.mem_cons.mp hw with rfl | hw
  · exact h1
  rcases List.mem_cons.mp hw with rfl | hw
  · exact h2
  rcases List.mem_cons.mp hw with rfl | hw
  · exact h3
  exact absurd hw List.not_mem_nil) (goodC_ h5)
def y_W_init : MethodName := ⟨"WireSlave", "<init>", "(I)V"⟩
abbrev b_W_init : ByteArray := prog_1_method_1_code
theorem cd_W_init : Cond.code y_W_init b_W_init 2 none ∈ lw_g := gm_ (List.mem_of_getElem? (i := 44) rfl) rfl
abbrev w_W_init : List Cond := Cond.code y_W_init b_W_init 2 none :: lw_g
def y_W_hear : MethodName := ⟨"WireSlave", "hear", "(I)I"⟩
abbrev b_W_hear : ByteArray := prog_1_method_2_code
theorem cd_W_hear : Cond.code y_W_hear b_W_hear 2 (some .int) ∈ lw_g := gm_ (List.mem_of_getElem? (i := 116) rfl) rfl
abbrev w_W_hear : List Cond := Cond.code y_W_hear b_W_hear 2 (some .int) :: lw_g
def y_W_listen : MethodName := ⟨"WireSlave", "listen", "(IJ)I"⟩
abbrev b_W_listen : ByteArray := prog_1_method_3_code
theorem cd_W_listen : Cond.code y_W_listen b_W_listen 5 (some .int) ∈ lw_g := gm_ (List.mem_of_getElem? (i := 132) rfl) rfl
abbrev w_W_listen : List Cond := Cond.code y_W_listen b_W_listen 5 (some .int) :: lw_g
def y_W_rest : MethodName := ⟨"WireSlave", "rest", "(I)I"⟩
abbrev b_W_rest : ByteArray := prog_1_method_4_code
theorem cd_W_rest : Cond.code y_W_rest b_W_rest 2 (some .int) ∈ lw_g := gm_ (List.mem_of_getElem? (i := 139) rfl) rfl
abbrev w_W_rest : List Cond := Cond.code y_W_rest b_W_rest 2 (some .int) :: lw_g
def y_W_reply : MethodName := ⟨"WireSlave", "reply", "(I)I"⟩
abbrev b_W_reply : ByteArray := prog_1_method_5_code
theorem cd_W_reply : Cond.code y_W_reply b_W_reply 2 (some .int) ∈ lw_g := gm_ (List.mem_of_getElem? (i := 269) rfl) rfl
abbrev w_W_reply : List Cond := Cond.code y_W_reply b_W_reply 2 (some .int) :: lw_g
def y_W_set : MethodName := ⟨"WireSlave", "set", "(III)I"⟩
abbrev b_W_set : ByteArray := prog_1_method_6_code
theorem cd_W_set : Cond.code y_W_set b_W_set 5 (some .int) ∈ lw_g := gm_ (List.mem_of_getElem? (i := 273) rfl) rfl
abbrev w_W_set : List Cond := Cond.code y_W_set b_W_set 5 (some .int) :: lw_g
def y_W_get : MethodName := ⟨"WireSlave", "get", "(II)I"⟩
abbrev b_W_get : ByteArray := prog_1_method_7_code
theorem cd_W_get : Cond.code y_W_get b_W_get 4 (some .int) ∈ lw_g := gm_ (List.mem_of_getElem? (i := 281) rfl) rfl
abbrev w_W_get : List Cond := Cond.code y_W_get b_W_get 4 (some .int) :: lw_g
def y_W_count : MethodName := ⟨"WireSlave", "count", "(I)I"⟩
abbrev b_W_count : ByteArray := prog_1_method_8_code
theorem cd_W_count : Cond.code y_W_count b_W_count 2 (some .int) ∈ lw_g := gm_ (List.mem_of_getElem? (i := 285) rfl) rfl
abbrev w_W_count : List Cond := Cond.code y_W_count b_W_count 2 (some .int) :: lw_g
def y_W_sum : MethodName := ⟨"WireSlave", "sum", "(IJ)I"⟩
abbrev b_W_sum : ByteArray := prog_1_method_9_code
theorem cd_W_sum : Cond.code y_W_sum b_W_sum 6 (some .int) ∈ lw_g := gm_ (List.mem_of_getElem? (i := 289) rfl) rfl
abbrev w_W_sum : List Cond := Cond.code y_W_sum b_W_sum 6 (some .int) :: lw_g
def y_W_byteOf : MethodName := ⟨"WireSlave", "byteOf", "(JI)I"⟩
abbrev b_W_byteOf : ByteArray := prog_1_method_10_code
theorem cd_W_byteOf : Cond.code y_W_byteOf b_W_byteOf 3 (some .int) ∈ lw_g := gm_ (List.mem_of_getElem? (i := 135) rfl) rfl
abbrev w_W_byteOf : List Cond := Cond.code y_W_byteOf b_W_byteOf 3 (some .int) :: lw_g
def y_W_sumWith : MethodName := ⟨"WireSlave", "sumWith", "(II)I"⟩
abbrev b_W_sumWith : ByteArray := prog_1_method_11_code
theorem cd_W_sumWith : Cond.code y_W_sumWith b_W_sumWith 5 (some .int) ∈ lw_g := gm_ (List.mem_of_getElem? (i := 174) rfl) rfl
abbrev w_W_sumWith : List Cond := Cond.code y_W_sumWith b_W_sumWith 5 (some .int) :: lw_g
def y_W_isFromTo : MethodName := ⟨"WireSlave", "isFromTo", "(III)Z"⟩
abbrev b_W_isFromTo : ByteArray := prog_1_method_12_code
theorem cd_W_isFromTo : Cond.code y_W_isFromTo b_W_isFromTo 3 (some .boolean) ∈ lw_g := gm_ (List.mem_of_getElem? (i := 158) rfl) rfl
abbrev w_W_isFromTo : List Cond := Cond.code y_W_isFromTo b_W_isFromTo 3 (some .boolean) :: lw_g
def y_W_bytesForBits : MethodName := ⟨"WireSlave", "bytesForBits", "(I)I"⟩
abbrev b_W_bytesForBits : ByteArray := prog_1_method_13_code
theorem cd_W_bytesForBits : Cond.code y_W_bytesForBits b_W_bytesForBits 1 (some .int) ∈ lw_g := gm_ (List.mem_of_getElem? (i := 216) rfl) rfl
abbrev w_W_bytesForBits : List Cond := Cond.code y_W_bytesForBits b_W_bytesForBits 1 (some .int) :: lw_g
def y_W_tableNumbered : MethodName := ⟨"WireSlave", "tableNumbered", "(I)LWireSlave$Table;"⟩
abbrev b_W_tableNumbered : ByteArray := prog_1_method_14_code
theorem cd_W_tableNumbered : Cond.code y_W_tableNumbered b_W_tableNumbered 2 (some (.object "WireSlave$Table")) ∈ lw_g := gm_ (List.mem_of_getElem? (i := 277) rfl) rfl
abbrev w_W_tableNumbered : List Cond := Cond.code y_W_tableNumbered b_W_tableNumbered 2 (some (.object "WireSlave$Table")) :: lw_g
def y_W_tableOfFunction : MethodName := ⟨"WireSlave", "tableOfFunction", "(I)LWireSlave$Table;"⟩
abbrev b_W_tableOfFunction : ByteArray := prog_1_method_15_code
theorem cd_W_tableOfFunction : Cond.code y_W_tableOfFunction b_W_tableOfFunction 2 (some (.object "WireSlave$Table")) ∈ lw_g := gm_ (List.mem_of_getElem? (i := 200) rfl) rfl
abbrev w_W_tableOfFunction : List Cond := Cond.code y_W_tableOfFunction b_W_tableOfFunction 2 (some (.object "WireSlave$Table")) :: lw_g
def y_W_tally : MethodName := ⟨"WireSlave", "tally", "(I)V"⟩
abbrev b_W_tally : ByteArray := prog_1_method_16_code
theorem cd_W_tally : Cond.code y_W_tally b_W_tally 2 none ∈ lw_g := gm_ (List.mem_of_getElem? (i := 151) rfl) rfl
abbrev w_W_tally : List Cond := Cond.code y_W_tally b_W_tally 2 none :: lw_g
def y_W_takeByte : MethodName := ⟨"WireSlave", "takeByte", "(I)V"⟩
abbrev b_W_takeByte : ByteArray := prog_1_method_17_code
theorem cd_W_takeByte : Cond.code y_W_takeByte b_W_takeByte 2 none ∈ lw_g := gm_ (List.mem_of_getElem? (i := 120) rfl) rfl
abbrev w_W_takeByte : List Cond := Cond.code y_W_takeByte b_W_takeByte 2 none :: lw_g
def y_W_endFrame : MethodName := ⟨"WireSlave", "endFrame", "()V"⟩
abbrev b_W_endFrame : ByteArray := prog_1_method_18_code
theorem cd_W_endFrame : Cond.code y_W_endFrame b_W_endFrame 1 none ∈ lw_g := gm_ (List.mem_of_getElem? (i := 143) rfl) rfl
abbrev w_W_endFrame : List Cond := Cond.code y_W_endFrame b_W_endFrame 1 none :: lw_g
def y_W_isThrownAway : MethodName := ⟨"WireSlave", "isThrownAway", "()Z"⟩
abbrev b_W_isThrownAway : ByteArray := prog_1_method_19_code
theorem cd_W_isThrownAway : Cond.code y_W_isThrownAway b_W_isThrownAway 1 (some .boolean) ∈ lw_g := gm_ (List.mem_of_getElem? (i := 155) rfl) rfl
abbrev w_W_isThrownAway : List Cond := Cond.code y_W_isThrownAway b_W_isThrownAway 1 (some .boolean) :: lw_g
def y_W_isForOthers : MethodName := ⟨"WireSlave", "isForOthers", "()Z"⟩
abbrev b_W_isForOthers : ByteArray := prog_1_method_20_code
theorem cd_W_isForOthers : Cond.code y_W_isForOthers b_W_isForOthers 2 (some .boolean) ∈ lw_g := gm_ (List.mem_of_getElem? (i := 179) rfl) rfl
abbrev w_W_isForOthers : List Cond := Cond.code y_W_isForOthers b_W_isForOthers 2 (some .boolean) :: lw_g
def y_W_dataSize : MethodName := ⟨"WireSlave", "dataSize", "()I"⟩
abbrev b_W_dataSize : ByteArray := prog_1_method_21_code
theorem cd_W_dataSize : Cond.code y_W_dataSize b_W_dataSize 1 (some .int) ∈ lw_g := gm_ (List.mem_of_getElem? (i := 208) rfl) rfl
abbrev w_W_dataSize : List Cond := Cond.code y_W_dataSize b_W_dataSize 1 (some .int) :: lw_g
def y_W_data : MethodName := ⟨"WireSlave", "data", "(I)I"⟩
abbrev b_W_data : ByteArray := prog_1_method_22_code
theorem cd_W_data : Cond.code y_W_data b_W_data 2 (some .int) ∈ lw_g := gm_ (List.mem_of_getElem? (i := 192) rfl) rfl
abbrev w_W_data : List Cond := Cond.code y_W_data b_W_data 2 (some .int) :: lw_g
def y_W_dataNumber : MethodName := ⟨"WireSlave", "dataNumber", "(I)I"⟩
abbrev b_W_dataNumber : ByteArray := prog_1_method_23_code
theorem cd_W_dataNumber : Cond.code y_W_dataNumber b_W_dataNumber 2 (some .int) ∈ lw_g := gm_ (List.mem_of_getElem? (i := 188) rfl) rfl
abbrev w_W_dataNumber : List Cond := Cond.code y_W_dataNumber b_W_dataNumber 2 (some .int) :: lw_g
def y_W_answerRequest : MethodName := ⟨"WireSlave", "answerRequest", "()V"⟩
abbrev b_W_answerRequest : ByteArray := prog_1_method_24_code
theorem cd_W_answerRequest : Cond.code y_W_answerRequest b_W_answerRequest 5 none ∈ lw_g := gm_ (List.mem_of_getElem? (i := 184) rfl) rfl
abbrev w_W_answerRequest : List Cond := Cond.code y_W_answerRequest b_W_answerRequest 5 none :: lw_g
def y_W_refusalOf : MethodName := ⟨"WireSlave", "refusalOf", "(III)I"⟩
abbrev b_W_refusalOf : ByteArray := prog_1_method_25_code
theorem cd_W_refusalOf : Cond.code y_W_refusalOf b_W_refusalOf 7 (some .int) ∈ lw_g := gm_ (List.mem_of_getElem? (i := 196) rfl) rfl
abbrev w_W_refusalOf : List Cond := Cond.code y_W_refusalOf b_W_refusalOf 7 (some .int) :: lw_g
def y_W_isDueSize : MethodName := ⟨"WireSlave", "isDueSize", "(I)Z"⟩
abbrev b_W_isDueSize : ByteArray := prog_1_method_26_code
theorem cd_W_isDueSize : Cond.code y_W_isDueSize b_W_isDueSize 2 (some .boolean) ∈ lw_g := gm_ (List.mem_of_getElem? (i := 204) rfl) rfl
abbrev w_W_isDueSize : List Cond := Cond.code y_W_isDueSize b_W_isDueSize 2 (some .boolean) :: lw_g
def y_W_isDueAmount : MethodName := ⟨"WireSlave", "isDueAmount", "(II)Z"⟩
abbrev b_W_isDueAmount : ByteArray := prog_1_method_27_code
theorem cd_W_isDueAmount : Cond.code y_W_isDueAmount b_W_isDueAmount 3 (some .boolean) ∈ lw_g := gm_ (List.mem_of_getElem? (i := 212) rfl) rfl
abbrev w_W_isDueAmount : List Cond := Cond.code y_W_isDueAmount b_W_isDueAmount 3 (some .boolean) :: lw_g
def y_W_carryOut : MethodName := ⟨"WireSlave", "carryOut", "(III)V"⟩
abbrev b_W_carryOut : ByteArray := prog_1_method_28_code
theorem cd_W_carryOut : Cond.code y_W_carryOut b_W_carryOut 4 none ∈ lw_g := gm_ (List.mem_of_getElem? (i := 224) rfl) rfl
abbrev w_W_carryOut : List Cond := Cond.code y_W_carryOut b_W_carryOut 4 none :: lw_g
def y_W_writeCoils : MethodName := ⟨"WireSlave", "writeCoils", "(II)V"⟩
abbrev b_W_writeCoils : ByteArray := prog_1_method_29_code
theorem cd_W_writeCoils : Cond.code y_W_writeCoils b_W_writeCoils 4 none ∈ lw_g := gm_ (List.mem_of_getElem? (i := 233) rfl) rfl
abbrev w_W_writeCoils : List Cond := Cond.code y_W_writeCoils b_W_writeCoils 4 none :: lw_g
def y_W_writeRegisters : MethodName := ⟨"WireSlave", "writeRegisters", "(II)V"⟩
abbrev b_W_writeRegisters : ByteArray := prog_1_method_30_code
theorem cd_W_writeRegisters : Cond.code y_W_writeRegisters b_W_writeRegisters 4 none ∈ lw_g := gm_ (List.mem_of_getElem? (i := 237) rfl) rfl
abbrev w_W_writeRegisters : List Cond := Cond.code y_W_writeRegisters b_W_writeRegisters 4 none :: lw_g
def y_W_appendResult : MethodName := ⟨"WireSlave", "appendResult", "(III)V"⟩
abbrev b_W_appendResult : ByteArray := prog_1_method_31_code
theorem cd_W_appendResult : Cond.code y_W_appendResult b_W_appendResult 4 none ∈ lw_g := gm_ (List.mem_of_getElem? (i := 241) rfl) rfl
abbrev w_W_appendResult : List Cond := Cond.code y_W_appendResult b_W_appendResult 4 none :: lw_g
def y_W_appendBits : MethodName := ⟨"WireSlave", "appendBits", "(LWireSlave$Table;II)V"⟩
abbrev b_W_appendBits : ByteArray := prog_1_method_32_code
theorem cd_W_appendBits : Cond.code y_W_appendBits b_W_appendBits 5 none ∈ lw_g := gm_ (List.mem_of_getElem? (i := 245) rfl) rfl
abbrev w_W_appendBits : List Cond := Cond.code y_W_appendBits b_W_appendBits 5 none :: lw_g
def y_W_packedBits : MethodName := ⟨"WireSlave", "packedBits", "(LWireSlave$Table;II)I"⟩
abbrev b_W_packedBits : ByteArray := prog_1_method_33_code
theorem cd_W_packedBits : Cond.code y_W_packedBits b_W_packedBits 5 (some .int) ∈ lw_g := gm_ (List.mem_of_getElem? (i := 248) rfl) rfl
abbrev w_W_packedBits : List Cond := Cond.code y_W_packedBits b_W_packedBits 5 (some .int) :: lw_g
def y_W_appendNumbers : MethodName := ⟨"WireSlave", "appendNumbers", "(LWireSlave$Table;II)V"⟩
abbrev b_W_appendNumbers : ByteArray := prog_1_method_34_code
theorem cd_W_appendNumbers : Cond.code y_W_appendNumbers b_W_appendNumbers 6 none ∈ lw_g := gm_ (List.mem_of_getElem? (i := 256) rfl) rfl
abbrev w_W_appendNumbers : List Cond := Cond.code y_W_appendNumbers b_W_appendNumbers 6 none :: lw_g
def y_W_appendEcho : MethodName := ⟨"WireSlave", "appendEcho", "()V"⟩
abbrev b_W_appendEcho : ByteArray := prog_1_method_35_code
theorem cd_W_appendEcho : Cond.code y_W_appendEcho b_W_appendEcho 2 none ∈ lw_g := gm_ (List.mem_of_getElem? (i := 260) rfl) rfl
abbrev w_W_appendEcho : List Cond := Cond.code y_W_appendEcho b_W_appendEcho 2 none :: lw_g
def y_M_init : MethodName := ⟨"WireSlaveModel", "<init>", "(I)V"⟩
abbrev b_M_init : ByteArray := prog_5_method_1_code
theorem cd_M_init : Cond.code y_M_init b_M_init 2 none ∈ lw_g := gm_ (List.mem_of_getElem? (i := 298) rfl) rfl
abbrev w_M_init : List Cond := Cond.code y_M_init b_M_init 2 none :: lw_g
def y_M_hear : MethodName := ⟨"WireSlaveModel", "hear", "(I)I"⟩
abbrev b_M_hear : ByteArray := prog_5_method_3_code
theorem cd_M_hear : Cond.code y_M_hear b_M_hear 2 (some .int) ∈ lw_g := gm_ (List.mem_of_getElem? (i := 343) rfl) rfl
abbrev w_M_hear : List Cond := Cond.code y_M_hear b_M_hear 2 (some .int) :: lw_g
def y_M_listen : MethodName := ⟨"WireSlaveModel", "listen", "(IJ)I"⟩
abbrev b_M_listen : ByteArray := prog_5_method_4_code
theorem cd_M_listen : Cond.code y_M_listen b_M_listen 6 (some .int) ∈ lw_g := gm_ (List.mem_of_getElem? (i := 347) rfl) rfl
abbrev w_M_listen : List Cond := Cond.code y_M_listen b_M_listen 6 (some .int) :: lw_g
def y_M_rest : MethodName := ⟨"WireSlaveModel", "rest", "(I)I"⟩
abbrev b_M_rest : ByteArray := prog_5_method_5_code
theorem cd_M_rest : Cond.code y_M_rest b_M_rest 3 (some .int) ∈ lw_g := gm_ (List.mem_of_getElem? (i := 353) rfl) rfl
abbrev w_M_rest : List Cond := Cond.code y_M_rest b_M_rest 3 (some .int) :: lw_g
def y_M_with : MethodName := ⟨"WireSlaveModel", "with", "(II)I"⟩
abbrev b_M_with : ByteArray := prog_5_method_6_code
theorem cd_M_with : Cond.code y_M_with b_M_with 5 (some .int) ∈ lw_g := gm_ (List.mem_of_getElem? (i := 366) rfl) rfl
abbrev w_M_with : List Cond := Cond.code y_M_with b_M_with 5 (some .int) :: lw_g
def y_M_sumOf : MethodName := ⟨"WireSlaveModel", "sumOf", "([II)I"⟩
abbrev b_M_sumOf : ByteArray := prog_5_method_7_code
theorem cd_M_sumOf : Cond.code y_M_sumOf b_M_sumOf 5 (some .int) ∈ lw_g := gm_ (List.mem_of_getElem? (i := 361) rfl) rfl
abbrev w_M_sumOf : List Cond := Cond.code y_M_sumOf b_M_sumOf 5 (some .int) :: lw_g
def y_M_sum : MethodName := ⟨"WireSlaveModel", "sum", "(IJ)I"⟩
abbrev b_M_sum : ByteArray := prog_5_method_8_code
theorem cd_M_sum : Cond.code y_M_sum b_M_sum 6 (some .int) ∈ lw_g := gm_ (List.mem_of_getElem? (i := 400) rfl) rfl
abbrev w_M_sum : List Cond := Cond.code y_M_sum b_M_sum 6 (some .int) :: lw_g
def y_M_data : MethodName := ⟨"WireSlaveModel", "data", "(I)I"⟩
abbrev b_M_data : ByteArray := prog_5_method_9_code
theorem cd_M_data : Cond.code y_M_data b_M_data 2 (some .int) ∈ lw_g := gm_ (List.mem_of_getElem? (i := 375) rfl) rfl
abbrev w_M_data : List Cond := Cond.code y_M_data b_M_data 2 (some .int) :: lw_g
def y_M_two : MethodName := ⟨"WireSlaveModel", "two", "(I)I"⟩
abbrev b_M_two : ByteArray := prog_5_method_10_code
theorem cd_M_two : Cond.code y_M_two b_M_two 2 (some .int) ∈ lw_g := gm_ (List.mem_of_getElem? (i := 379) rfl) rfl
abbrev w_M_two : List Cond := Cond.code y_M_two b_M_two 2 (some .int) :: lw_g
def y_M_ends : MethodName := ⟨"WireSlaveModel", "ends", "()I"⟩
abbrev b_M_ends : ByteArray := prog_5_method_11_code
theorem cd_M_ends : Cond.code y_M_ends b_M_ends 4 (some .int) ∈ lw_g := gm_ (List.mem_of_getElem? (i := 357) rfl) rfl
abbrev w_M_ends : List Cond := Cond.code y_M_ends b_M_ends 4 (some .int) :: lw_g
def y_M_add : MethodName := ⟨"WireSlaveModel", "add", "(I)V"⟩
abbrev b_M_add : ByteArray := prog_5_method_12_code
theorem cd_M_add : Cond.code y_M_add b_M_add 2 none ∈ lw_g := gm_ (List.mem_of_getElem? (i := 392) rfl) rfl
abbrev w_M_add : List Cond := Cond.code y_M_add b_M_add 2 none :: lw_g
def y_M_table : MethodName := ⟨"WireSlaveModel", "table", "(I)[I"⟩
abbrev b_M_table : ByteArray := prog_5_method_13_code
theorem cd_M_table : Cond.code y_M_table b_M_table 2 (some (.array .int)) ∈ lw_g := gm_ (List.mem_of_getElem? (i := 384) rfl) rfl
abbrev w_M_table : List Cond := Cond.code y_M_table b_M_table 2 (some (.array .int)) :: lw_g
def y_M_why : MethodName := ⟨"WireSlaveModel", "why", "(II)I"⟩
abbrev b_M_why : ByteArray := prog_5_method_14_code
theorem cd_M_why : Cond.code y_M_why b_M_why 7 (some .int) ∈ lw_g := gm_ (List.mem_of_getElem? (i := 371) rfl) rfl
abbrev w_M_why : List Cond := Cond.code y_M_why b_M_why 7 (some .int) :: lw_g
def y_M_act : MethodName := ⟨"WireSlaveModel", "act", "(I)V"⟩
abbrev b_M_act : ByteArray := prog_5_method_15_code
theorem cd_M_act : Cond.code y_M_act b_M_act 5 none ∈ lw_g := gm_ (List.mem_of_getElem? (i := 388) rfl) rfl
abbrev w_M_act : List Cond := Cond.code y_M_act b_M_act 5 none :: lw_g
def y_M_answer : MethodName := ⟨"WireSlaveModel", "answer", "(I)V"⟩
abbrev b_M_answer : ByteArray := prog_5_method_16_code
theorem cd_M_answer : Cond.code y_M_answer b_M_answer 7 none ∈ lw_g := gm_ (List.mem_of_getElem? (i := 396) rfl) rfl
abbrev w_M_answer : List Cond := Cond.code y_M_answer b_M_answer 7 none :: lw_g
def y_M_reply : MethodName := ⟨"WireSlaveModel", "reply", "(I)I"⟩
abbrev b_M_reply : ByteArray := prog_5_method_17_code
theorem cd_M_reply : Cond.code y_M_reply b_M_reply 2 (some .int) ∈ lw_g := gm_ (List.mem_of_getElem? (i := 404) rfl) rfl
abbrev w_M_reply : List Cond := Cond.code y_M_reply b_M_reply 2 (some .int) :: lw_g
def y_M_noPlace : MethodName := ⟨"WireSlaveModel", "noPlace", "(II)Z"⟩
abbrev b_M_noPlace : ByteArray := prog_5_method_18_code
theorem cd_M_noPlace : Cond.code y_M_noPlace b_M_noPlace 3 (some .boolean) ∈ lw_g := gm_ (List.mem_of_getElem? (i := 412) rfl) rfl
abbrev w_M_noPlace : List Cond := Cond.code y_M_noPlace b_M_noPlace 3 (some .boolean) :: lw_g
def y_M_byNumber : MethodName := ⟨"WireSlaveModel", "byNumber", "(I)[I"⟩
abbrev b_M_byNumber : ByteArray := prog_5_method_19_code
theorem cd_M_byNumber : Cond.code y_M_byNumber b_M_byNumber 2 (some (.array .int)) ∈ lw_g := gm_ (List.mem_of_getElem? (i := 416) rfl) rfl
abbrev w_M_byNumber : List Cond := Cond.code y_M_byNumber b_M_byNumber 2 (some (.array .int)) :: lw_g
def y_M_set : MethodName := ⟨"WireSlaveModel", "set", "(III)I"⟩
abbrev b_M_set : ByteArray := prog_5_method_20_code
theorem cd_M_set : Cond.code y_M_set b_M_set 5 (some .int) ∈ lw_g := gm_ (List.mem_of_getElem? (i := 408) rfl) rfl
abbrev w_M_set : List Cond := Cond.code y_M_set b_M_set 5 (some .int) :: lw_g
def y_M_get : MethodName := ⟨"WireSlaveModel", "get", "(II)I"⟩
abbrev b_M_get : ByteArray := prog_5_method_21_code
theorem cd_M_get : Cond.code y_M_get b_M_get 3 (some .int) ∈ lw_g := gm_ (List.mem_of_getElem? (i := 420) rfl) rfl
abbrev w_M_get : List Cond := Cond.code y_M_get b_M_get 3 (some .int) :: lw_g
def y_M_count : MethodName := ⟨"WireSlaveModel", "count", "(I)I"⟩
abbrev b_M_count : ByteArray := prog_5_method_22_code
theorem cd_M_count : Cond.code y_M_count b_M_count 2 (some .int) ∈ lw_g := gm_ (List.mem_of_getElem? (i := 424) rfl) rfl
abbrev w_M_count : List Cond := Cond.code y_M_count b_M_count 2 (some .int) :: lw_g
def y_B_init : MethodName := ⟨"WireSlave$Bytes", "<init>", "([I)V"⟩
abbrev b_B_init : ByteArray := prog_2_method_1_code
theorem cd_B_init : Cond.code y_B_init b_B_init 2 none ∈ lw_g := gm_ (List.mem_of_getElem? (i := 73) rfl) rfl
abbrev w_B_init : List Cond := Cond.code y_B_init b_B_init 2 none :: lw_g
def y_B_size : MethodName := ⟨"WireSlave$Bytes", "size", "()I"⟩
abbrev b_B_size : ByteArray := prog_2_method_2_code
theorem cd_B_size : Cond.code y_B_size b_B_size 1 (some .int) ∈ lw_g := gm_ (List.mem_of_getElem? (i := 124) rfl) rfl
abbrev w_B_size : List Cond := Cond.code y_B_size b_B_size 1 (some .int) :: lw_g
def y_B_clear : MethodName := ⟨"WireSlave$Bytes", "clear", "()V"⟩
abbrev b_B_clear : ByteArray := prog_2_method_3_code
theorem cd_B_clear : Cond.code y_B_clear b_B_clear 1 none ∈ lw_g := gm_ (List.mem_of_getElem? (i := 147) rfl) rfl
abbrev w_B_clear : List Cond := Cond.code y_B_clear b_B_clear 1 none :: lw_g
def y_B_append : MethodName := ⟨"WireSlave$Bytes", "append", "(I)V"⟩
abbrev b_B_append : ByteArray := prog_2_method_4_code
theorem cd_B_append : Cond.code y_B_append b_B_append 2 none ∈ lw_g := gm_ (List.mem_of_getElem? (i := 128) rfl) rfl
abbrev w_B_append : List Cond := Cond.code y_B_append b_B_append 2 none :: lw_g
def y_B_at : MethodName := ⟨"WireSlave$Bytes", "at", "(I)I"⟩
abbrev b_B_at : ByteArray := prog_2_method_5_code
theorem cd_B_at : Cond.code y_B_at b_B_at 2 (some .int) ∈ lw_g := gm_ (List.mem_of_getElem? (i := 171) rfl) rfl
abbrev w_B_at : List Cond := Cond.code y_B_at b_B_at 2 (some .int) :: lw_g
def y_B_sumOfFirst : MethodName := ⟨"WireSlave$Bytes", "sumOfFirst", "(I)I"⟩
abbrev b_B_sumOfFirst : ByteArray := prog_2_method_6_code
theorem cd_B_sumOfFirst : Cond.code y_B_sumOfFirst b_B_sumOfFirst 4 (some .int) ∈ lw_g := gm_ (List.mem_of_getElem? (i := 166) rfl) rfl
abbrev w_B_sumOfFirst : List Cond := Cond.code y_B_sumOfFirst b_B_sumOfFirst 4 (some .int) :: lw_g
def y_B_endsWithItsSum : MethodName := ⟨"WireSlave$Bytes", "endsWithItsSum", "()Z"⟩
abbrev b_B_endsWithItsSum : ByteArray := prog_2_method_7_code
theorem cd_B_endsWithItsSum : Cond.code y_B_endsWithItsSum b_B_endsWithItsSum 2 (some .boolean) ∈ lw_g := gm_ (List.mem_of_getElem? (i := 162) rfl) rfl
abbrev w_B_endsWithItsSum : List Cond := Cond.code y_B_endsWithItsSum b_B_endsWithItsSum 2 (some .boolean) :: lw_g
def y_B_appendItsSum : MethodName := ⟨"WireSlave$Bytes", "appendItsSum", "()V"⟩
abbrev b_B_appendItsSum : ByteArray := prog_2_method_8_code
theorem cd_B_appendItsSum : Cond.code y_B_appendItsSum b_B_appendItsSum 2 none ∈ lw_g := gm_ (List.mem_of_getElem? (i := 264) rfl) rfl
abbrev w_B_appendItsSum : List Cond := Cond.code y_B_appendItsSum b_B_appendItsSum 2 none :: lw_g
def y_T_init : MethodName := ⟨"WireSlave$Table", "<init>", "([II)V"⟩
abbrev b_T_init : ByteArray := prog_3_method_1_code
theorem cd_T_init : Cond.code y_T_init b_T_init 3 none ∈ lw_g := gm_ (List.mem_of_getElem? (i := 58) rfl) rfl
abbrev w_T_init : List Cond := Cond.code y_T_init b_T_init 3 none :: lw_g
def y_T_has : MethodName := ⟨"WireSlave$Table", "has", "(I)Z"⟩
abbrev b_T_has : ByteArray := prog_3_method_2_code
theorem cd_T_has : Cond.code y_T_has b_T_has 2 (some .boolean) ∈ lw_g := gm_ (List.mem_of_getElem? (i := 220) rfl) rfl
abbrev w_T_has : List Cond := Cond.code y_T_has b_T_has 2 (some .boolean) :: lw_g
def y_T_at : MethodName := ⟨"WireSlave$Table", "at", "(I)I"⟩
abbrev b_T_at : ByteArray := prog_3_method_3_code
theorem cd_T_at : Cond.code y_T_at b_T_at 2 (some .int) ∈ lw_g := gm_ (List.mem_of_getElem? (i := 252) rfl) rfl
abbrev w_T_at : List Cond := Cond.code y_T_at b_T_at 2 (some .int) :: lw_g
def y_T_replace : MethodName := ⟨"WireSlave$Table", "replace", "(II)I"⟩
abbrev b_T_replace : ByteArray := prog_3_method_4_code
theorem cd_T_replace : Cond.code y_T_replace b_T_replace 4 (some .int) ∈ lw_g := gm_ (List.mem_of_getElem? (i := 228) rfl) rfl
abbrev w_T_replace : List Cond := Cond.code y_T_replace b_T_replace 4 (some .int) :: lw_g
def y_L_cell : MethodName := ⟨"WireSlaveLaw", "cell", "([II)I"⟩
abbrev b_L_cell : ByteArray := method_2_code
theorem cd_L_cell : Cond.code y_L_cell b_L_cell 2 (some .int) ∈ lw_g := gm_ (List.mem_of_getElem? (i := 293) rfl) rfl
abbrev w_L_cell : List Cond := Cond.code y_L_cell b_L_cell 2 (some .int) :: lw_g
def y_L_law : MethodName := ⟨"WireSlaveLaw", "law", "([I)Z"⟩
abbrev b_L_law : ByteArray := code
theorem fl_W_18 : Cond.fieldLink "WireSlave" 18 "WireSlave" "address" "I" ∈ lw_g := gm_ (List.mem_of_getElem? (i := 82) (by decide +kernel)) rfl
theorem fl_W_27 : Cond.fieldLink "WireSlave" 27 "WireSlave" "coils" "LWireSlave$Table;" ∈ lw_g := gm_ (List.mem_of_getElem? (i := 83) (by decide +kernel)) rfl
theorem fl_W_31 : Cond.fieldLink "WireSlave" 31 "WireSlave" "switches" "LWireSlave$Table;" ∈ lw_g := gm_ (List.mem_of_getElem? (i := 84) (by decide +kernel)) rfl
theorem fl_W_35 : Cond.fieldLink "WireSlave" 35 "WireSlave" "registers" "LWireSlave$Table;" ∈ lw_g := gm_ (List.mem_of_getElem? (i := 85) (by decide +kernel)) rfl
theorem fl_W_38 : Cond.fieldLink "WireSlave" 38 "WireSlave" "meters" "LWireSlave$Table;" ∈ lw_g := gm_ (List.mem_of_getElem? (i := 86) (by decide +kernel)) rfl
theorem fl_W_46 : Cond.fieldLink "WireSlave" 46 "WireSlave" "frame" "LWireSlave$Bytes;" ∈ lw_g := gm_ (List.mem_of_getElem? (i := 87) (by decide +kernel)) rfl
theorem fl_W_50 : Cond.fieldLink "WireSlave" 50 "WireSlave" "answer" "LWireSlave$Bytes;" ∈ lw_g := gm_ (List.mem_of_getElem? (i := 88) (by decide +kernel)) rfl
theorem fl_W_53 : Cond.fieldLink "WireSlave" 53 "WireSlave" "counts" "[I" ∈ lw_g := gm_ (List.mem_of_getElem? (i := 89) (by decide +kernel)) rfl
theorem fl_W_57 : Cond.fieldLink "WireSlave" 57 "WireSlave" "gap" "I" ∈ lw_g := gm_ (List.mem_of_getElem? (i := 90) (by decide +kernel)) rfl
theorem fl_W_60 : Cond.fieldLink "WireSlave" 60 "WireSlave" "spoilt" "Z" ∈ lw_g := gm_ (List.mem_of_getElem? (i := 91) (by decide +kernel)) rfl
theorem fl_B_9 : Cond.fieldLink "WireSlave$Bytes" 9 "WireSlave$Bytes" "row" "[I" ∈ lw_g := gm_ (List.mem_of_getElem? (i := 75) (by decide +kernel)) rfl
theorem fl_B_15 : Cond.fieldLink "WireSlave$Bytes" 15 "WireSlave$Bytes" "size" "I" ∈ lw_g := gm_ (List.mem_of_getElem? (i := 76) (by decide +kernel)) rfl
theorem fl_T_9 : Cond.fieldLink "WireSlave$Table" 9 "WireSlave$Table" "places" "[I" ∈ lw_g := gm_ (List.mem_of_getElem? (i := 60) (by decide +kernel)) rfl
theorem fl_T_15 : Cond.fieldLink "WireSlave$Table" 15 "WireSlave$Table" "most" "I" ∈ lw_g := gm_ (List.mem_of_getElem? (i := 61) (by decide +kernel)) rfl
theorem fl_M_7 : Cond.fieldLink "WireSlaveModel" 7 "WireSlaveModel" "coils" "[I" ∈ lw_g := gm_ (List.mem_of_getElem? (i := 302) (by decide +kernel)) rfl
theorem fl_M_13 : Cond.fieldLink "WireSlaveModel" 13 "WireSlaveModel" "switches" "[I" ∈ lw_g := gm_ (List.mem_of_getElem? (i := 303) (by decide +kernel)) rfl
theorem fl_M_16 : Cond.fieldLink "WireSlaveModel" 16 "WireSlaveModel" "registers" "[I" ∈ lw_g := gm_ (List.mem_of_getElem? (i := 304) (by decide +kernel)) rfl
theorem fl_M_19 : Cond.fieldLink "WireSlaveModel" 19 "WireSlaveModel" "meters" "[I" ∈ lw_g := gm_ (List.mem_of_getElem? (i := 305) (by decide +kernel)) rfl
theorem fl_M_22 : Cond.fieldLink "WireSlaveModel" 22 "WireSlaveModel" "frame" "[I" ∈ lw_g := gm_ (List.mem_of_getElem? (i := 306) (by decide +kernel)) rfl
theorem fl_M_25 : Cond.fieldLink "WireSlaveModel" 25 "WireSlaveModel" "reply" "[I" ∈ lw_g := gm_ (List.mem_of_getElem? (i := 310) (by decide +kernel)) rfl
theorem fl_M_28 : Cond.fieldLink "WireSlaveModel" 28 "WireSlaveModel" "counts" "[I" ∈ lw_g := gm_ (List.mem_of_getElem? (i := 312) (by decide +kernel)) rfl
theorem fl_M_31 : Cond.fieldLink "WireSlaveModel" 31 "WireSlaveModel" "own" "I" ∈ lw_g := gm_ (List.mem_of_getElem? (i := 301) (by decide +kernel)) rfl
theorem fl_M_35 : Cond.fieldLink "WireSlaveModel" 35 "WireSlaveModel" "thrown" "I" ∈ lw_g := gm_ (List.mem_of_getElem? (i := 300) (by decide +kernel)) rfl
theorem fl_M_38 : Cond.fieldLink "WireSlaveModel" 38 "WireSlaveModel" "spoilt" "Z" ∈ lw_g := gm_ (List.mem_of_getElem? (i := 309) (by decide +kernel)) rfl
theorem fl_M_42 : Cond.fieldLink "WireSlaveModel" 42 "WireSlaveModel" "many" "I" ∈ lw_g := gm_ (List.mem_of_getElem? (i := 307) (by decide +kernel)) rfl
theorem fl_M_45 : Cond.fieldLink "WireSlaveModel" 45 "WireSlaveModel" "gap" "I" ∈ lw_g := gm_ (List.mem_of_getElem? (i := 308) (by decide +kernel)) rfl
theorem fl_M_67 : Cond.fieldLink "WireSlaveModel" 67 "WireSlaveModel" "size" "I" ∈ lw_g := gm_ (List.mem_of_getElem? (i := 311) (by decide +kernel)) rfl
theorem kn_W_34 : Cond.constant "WireSlave" 34 65535 ∈ lw_g := gm_ (List.mem_of_getElem? (i := 68) (by decide +kernel)) rfl
theorem kn_W_94 : Cond.constant "WireSlave" 94 40961 ∈ lw_g := gm_ (List.mem_of_getElem? (i := 175) (by decide +kernel)) rfl
theorem kn_W_158 : Cond.constant "WireSlave" 158 65280 ∈ lw_g := gm_ (List.mem_of_getElem? (i := 213) (by decide +kernel)) rfl
theorem kn_B_19 : Cond.constant "WireSlave$Bytes" 19 65535 ∈ lw_g := gm_ (List.mem_of_getElem? (i := 167) (by decide +kernel)) rfl
theorem kn_L_26 : Cond.constantLong "WireSlaveLaw" 26 4294967295 ∈ lw_g := gm_ (List.mem_of_getElem? (i := 425) (by decide +kernel)) rfl
theorem kn_M_48 : Cond.constantLong "WireSlaveModel" 48 255 ∈ lw_g := gm_ (List.mem_of_getElem? (i := 348) (by decide +kernel)) rfl
theorem kn_M_58 : Cond.constant "WireSlaveModel" 58 40961 ∈ lw_g := gm_ (List.mem_of_getElem? (i := 367) (by decide +kernel)) rfl
theorem kn_M_59 : Cond.constant "WireSlaveModel" 59 65535 ∈ lw_g := gm_ (List.mem_of_getElem? (i := 362) (by decide +kernel)) rfl
theorem kn_M_90 : Cond.constant "WireSlaveModel" 90 65280 ∈ lw_g := gm_ (List.mem_of_getElem? (i := 380) (by decide +kernel)) rfl
theorem cl_W_22 : Cond.classLink "WireSlave" 22 "WireSlave$Table" ∈ lw_g := gm_ (List.mem_of_getElem? (i := 54) (by decide +kernel)) rfl
theorem cl_W_41 : Cond.classLink "WireSlave" 41 "WireSlave$Bytes" ∈ lw_g := gm_ (List.mem_of_getElem? (i := 69) (by decide +kernel)) rfl
theorem cl_L_7 : Cond.classLink "WireSlaveLaw" 7 "WireSlave" ∈ lw_g := gm_ (List.mem_of_getElem? (i := 40) (by decide +kernel)) rfl
theorem cl_L_18 : Cond.classLink "WireSlaveLaw" 18 "WireSlaveModel" ∈ lw_g := gm_ (List.mem_of_getElem? (i := 294) (by decide +kernel)) rfl
theorem is_W : Cond.instantiable "WireSlave" 10 ∈ lw_g := gm_ (List.mem_of_getElem? (i := 41) (by decide +kernel)) rfl
theorem is_T : Cond.instantiable "WireSlave$Table" 2 ∈ lw_g := gm_ (List.mem_of_getElem? (i := 55) (by decide +kernel)) rfl
theorem is_B : Cond.instantiable "WireSlave$Bytes" 2 ∈ lw_g := gm_ (List.mem_of_getElem? (i := 70) (by decide +kernel)) rfl
theorem is_M : Cond.instantiable "WireSlaveModel" 13 ∈ lw_g := gm_ (List.mem_of_getElem? (i := 295) (by decide +kernel)) rfl
theorem ini_L : Cond.initialized "WireSlaveLaw" ∈ lw_g := gm_ (List.mem_of_getElem? (i := 34) (by decide +kernel)) rfl
theorem ini_W : Cond.initialized "WireSlave" ∈ lw_g := gm_ (List.mem_of_getElem? (i := 35) (by decide +kernel)) rfl
theorem ini_T : Cond.initialized "WireSlave$Table" ∈ lw_g := gm_ (List.mem_of_getElem? (i := 37) (by decide +kernel)) rfl
theorem ini_B : Cond.initialized "WireSlave$Bytes" ∈ lw_g := gm_ (List.mem_of_getElem? (i := 38) (by decide +kernel)) rfl
theorem ini_M : Cond.initialized "WireSlaveModel" ∈ lw_g := gm_ (List.mem_of_getElem? (i := 39) (by decide +kernel)) rfl
theorem arr_I : Cond.arrayClass .int ∈ lw_g := gm_ (List.mem_of_getElem? (i := 67) (by decide +kernel)) rfl
theorem ml_W_24 : Cond.methodLink "WireSlave" 24 y_T_init ∈ lw_g := gm_ (List.mem_of_getElem? (i := 56) (by decide +kernel)) rfl
theorem mi_W_24 : Cond.instanceMethod y_T_init ∈ lw_g := gm_ (List.mem_of_getElem? (i := 57) (by decide +kernel)) rfl
theorem ml_W_43 : Cond.methodLink "WireSlave" 43 y_B_init ∈ lw_g := gm_ (List.mem_of_getElem? (i := 71) (by decide +kernel)) rfl
theorem mi_W_43 : Cond.instanceMethod y_B_init ∈ lw_g := gm_ (List.mem_of_getElem? (i := 72) (by decide +kernel)) rfl
theorem ml_W_64 : GoodIn lw_g (wsV "WireSlave" 64 "WireSlave" y_W_takeByte w_W_takeByte) := goodV_ (gm_ (List.mem_of_getElem? (i := 117) (by decide +kernel)) rfl) (gm_ (List.mem_of_getElem? (i := 119) (by decide +kernel)) rfl) (gm_ (List.mem_of_getElem? (i := 0) (by decide +kernel)) rfl) (ini_W) cd_W_takeByte
theorem ml_W_68 : GoodIn lw_g (wsV "WireSlave" 68 "WireSlave$Bytes" y_B_size w_B_size) := goodV_ (gm_ (List.mem_of_getElem? (i := 121) (by decide +kernel)) rfl) (gm_ (List.mem_of_getElem? (i := 122) (by decide +kernel)) rfl) (gm_ (List.mem_of_getElem? (i := 123) (by decide +kernel)) rfl) (ini_B) cd_B_size
theorem ml_W_72 : GoodIn lw_g (va_wsS "WireSlave" 72 y_W_byteOf w_W_byteOf) := goodS_ (gm_ (List.mem_of_getElem? (i := 133) (by decide +kernel)) rfl) (gm_ (List.mem_of_getElem? (i := 134) (by decide +kernel)) rfl) (ini_W) cd_W_byteOf
theorem ml_W_76 : GoodIn lw_g (wsV "WireSlave" 76 "WireSlave" y_W_endFrame w_W_endFrame) := goodV_ (gm_ (List.mem_of_getElem? (i := 140) (by decide +kernel)) rfl) (gm_ (List.mem_of_getElem? (i := 142) (by decide +kernel)) rfl) (gm_ (List.mem_of_getElem? (i := 1) (by decide +kernel)) rfl) (ini_W) cd_W_endFrame
theorem ml_W_79 : GoodIn lw_g (wsV "WireSlave" 79 "WireSlave$Bytes" y_B_at w_B_at) := goodV_ (gm_ (List.mem_of_getElem? (i := 180) (by decide +kernel)) rfl) (gm_ (List.mem_of_getElem? (i := 169) (by decide +kernel)) rfl) (gm_ (List.mem_of_getElem? (i := 170) (by decide +kernel)) rfl) (ini_B) cd_B_at
theorem ml_W_83 : GoodIn lw_g (wsV "WireSlave" 83 "WireSlave" y_W_tableNumbered w_W_tableNumbered) := goodV_ (gm_ (List.mem_of_getElem? (i := 274) (by decide +kernel)) rfl) (gm_ (List.mem_of_getElem? (i := 276) (by decide +kernel)) rfl) (gm_ (List.mem_of_getElem? (i := 21) (by decide +kernel)) rfl) (ini_W) cd_W_tableNumbered
theorem ml_W_87 : GoodIn lw_g (wsV "WireSlave" 87 "WireSlave$Table" y_T_replace w_T_replace) := goodV_ (gm_ (List.mem_of_getElem? (i := 225) (by decide +kernel)) rfl) (gm_ (List.mem_of_getElem? (i := 226) (by decide +kernel)) rfl) (gm_ (List.mem_of_getElem? (i := 227) (by decide +kernel)) rfl) (ini_T) cd_T_replace
theorem ml_W_90 : GoodIn lw_g (wsV "WireSlave" 90 "WireSlave$Table" y_T_at w_T_at) := goodV_ (gm_ (List.mem_of_getElem? (i := 249) (by decide +kernel)) rfl) (gm_ (List.mem_of_getElem? (i := 250) (by decide +kernel)) rfl) (gm_ (List.mem_of_getElem? (i := 251) (by decide +kernel)) rfl) (ini_T) cd_T_at
theorem ml_W_91 : GoodIn lw_g (va_wsS "WireSlave" 91 y_W_sumWith w_W_sumWith) := goodS_ (gm_ (List.mem_of_getElem? (i := 290) (by decide +kernel)) rfl) (gm_ (List.mem_of_getElem? (i := 173) (by decide +kernel)) rfl) (ini_W) cd_W_sumWith
theorem ml_W_95 : GoodIn lw_g (wsV "WireSlave" 95 "WireSlave$Bytes" y_B_append w_B_append) := goodV_ (gm_ (List.mem_of_getElem? (i := 125) (by decide +kernel)) rfl) (gm_ (List.mem_of_getElem? (i := 126) (by decide +kernel)) rfl) (gm_ (List.mem_of_getElem? (i := 127) (by decide +kernel)) rfl) (ini_B) cd_B_append
theorem ml_W_98 : GoodIn lw_g (wsV "WireSlave" 98 "WireSlave$Bytes" y_B_clear w_B_clear) := goodV_ (gm_ (List.mem_of_getElem? (i := 144) (by decide +kernel)) rfl) (gm_ (List.mem_of_getElem? (i := 145) (by decide +kernel)) rfl) (gm_ (List.mem_of_getElem? (i := 146) (by decide +kernel)) rfl) (ini_B) cd_B_clear
theorem ml_W_101 : GoodIn lw_g (wsV "WireSlave" 101 "WireSlave" y_W_tally w_W_tally) := goodV_ (gm_ (List.mem_of_getElem? (i := 148) (by decide +kernel)) rfl) (gm_ (List.mem_of_getElem? (i := 150) (by decide +kernel)) rfl) (gm_ (List.mem_of_getElem? (i := 2) (by decide +kernel)) rfl) (ini_W) cd_W_tally
theorem ml_W_104 : GoodIn lw_g (wsV "WireSlave" 104 "WireSlave" y_W_isThrownAway w_W_isThrownAway) := goodV_ (gm_ (List.mem_of_getElem? (i := 152) (by decide +kernel)) rfl) (gm_ (List.mem_of_getElem? (i := 154) (by decide +kernel)) rfl) (gm_ (List.mem_of_getElem? (i := 3) (by decide +kernel)) rfl) (ini_W) cd_W_isThrownAway
theorem ml_W_108 : GoodIn lw_g (wsV "WireSlave" 108 "WireSlave" y_W_isForOthers w_W_isForOthers) := goodV_ (gm_ (List.mem_of_getElem? (i := 176) (by decide +kernel)) rfl) (gm_ (List.mem_of_getElem? (i := 178) (by decide +kernel)) rfl) (gm_ (List.mem_of_getElem? (i := 5) (by decide +kernel)) rfl) (ini_W) cd_W_isForOthers
theorem ml_W_111 : GoodIn lw_g (wsV "WireSlave" 111 "WireSlave" y_W_answerRequest w_W_answerRequest) := goodV_ (gm_ (List.mem_of_getElem? (i := 181) (by decide +kernel)) rfl) (gm_ (List.mem_of_getElem? (i := 183) (by decide +kernel)) rfl) (gm_ (List.mem_of_getElem? (i := 6) (by decide +kernel)) rfl) (ini_W) cd_W_answerRequest
theorem ml_W_114 : GoodIn lw_g (va_wsS "WireSlave" 114 y_W_isFromTo w_W_isFromTo) := goodS_ (gm_ (List.mem_of_getElem? (i := 156) (by decide +kernel)) rfl) (gm_ (List.mem_of_getElem? (i := 157) (by decide +kernel)) rfl) (ini_W) cd_W_isFromTo
theorem ml_W_118 : GoodIn lw_g (wsV "WireSlave" 118 "WireSlave$Bytes" y_B_endsWithItsSum w_B_endsWithItsSum) := goodV_ (gm_ (List.mem_of_getElem? (i := 159) (by decide +kernel)) rfl) (gm_ (List.mem_of_getElem? (i := 160) (by decide +kernel)) rfl) (gm_ (List.mem_of_getElem? (i := 161) (by decide +kernel)) rfl) (ini_B) cd_B_endsWithItsSum
theorem ml_W_121 : GoodIn lw_g (wsV "WireSlave" 121 "WireSlave" y_W_data w_W_data) := goodV_ (gm_ (List.mem_of_getElem? (i := 189) (by decide +kernel)) rfl) (gm_ (List.mem_of_getElem? (i := 191) (by decide +kernel)) rfl) (gm_ (List.mem_of_getElem? (i := 8) (by decide +kernel)) rfl) (ini_W) cd_W_data
theorem ml_W_124 : GoodIn lw_g (wsV "WireSlave" 124 "WireSlave" y_W_dataNumber w_W_dataNumber) := goodV_ (gm_ (List.mem_of_getElem? (i := 185) (by decide +kernel)) rfl) (gm_ (List.mem_of_getElem? (i := 187) (by decide +kernel)) rfl) (gm_ (List.mem_of_getElem? (i := 7) (by decide +kernel)) rfl) (ini_W) cd_W_dataNumber
theorem ml_W_127 : GoodIn lw_g (wsV "WireSlave" 127 "WireSlave" y_W_refusalOf w_W_refusalOf) := goodV_ (gm_ (List.mem_of_getElem? (i := 193) (by decide +kernel)) rfl) (gm_ (List.mem_of_getElem? (i := 195) (by decide +kernel)) rfl) (gm_ (List.mem_of_getElem? (i := 9) (by decide +kernel)) rfl) (ini_W) cd_W_refusalOf
theorem ml_W_131 : GoodIn lw_g (wsV "WireSlave" 131 "WireSlave" y_W_carryOut w_W_carryOut) := goodV_ (gm_ (List.mem_of_getElem? (i := 221) (by decide +kernel)) rfl) (gm_ (List.mem_of_getElem? (i := 223) (by decide +kernel)) rfl) (gm_ (List.mem_of_getElem? (i := 14) (by decide +kernel)) rfl) (ini_W) cd_W_carryOut
theorem ml_W_135 : GoodIn lw_g (wsV "WireSlave" 135 "WireSlave" y_W_appendResult w_W_appendResult) := goodV_ (gm_ (List.mem_of_getElem? (i := 238) (by decide +kernel)) rfl) (gm_ (List.mem_of_getElem? (i := 240) (by decide +kernel)) rfl) (gm_ (List.mem_of_getElem? (i := 17) (by decide +kernel)) rfl) (ini_W) cd_W_appendResult
theorem ml_W_138 : GoodIn lw_g (wsV "WireSlave" 138 "WireSlave$Bytes" y_B_appendItsSum w_B_appendItsSum) := goodV_ (gm_ (List.mem_of_getElem? (i := 261) (by decide +kernel)) rfl) (gm_ (List.mem_of_getElem? (i := 262) (by decide +kernel)) rfl) (gm_ (List.mem_of_getElem? (i := 263) (by decide +kernel)) rfl) (ini_B) cd_B_appendItsSum
theorem ml_W_141 : GoodIn lw_g (wsV "WireSlave" 141 "WireSlave" y_W_tableOfFunction w_W_tableOfFunction) := goodV_ (gm_ (List.mem_of_getElem? (i := 197) (by decide +kernel)) rfl) (gm_ (List.mem_of_getElem? (i := 199) (by decide +kernel)) rfl) (gm_ (List.mem_of_getElem? (i := 10) (by decide +kernel)) rfl) (ini_W) cd_W_tableOfFunction
theorem ml_W_144 : GoodIn lw_g (wsV "WireSlave" 144 "WireSlave" y_W_isDueSize w_W_isDueSize) := goodV_ (gm_ (List.mem_of_getElem? (i := 201) (by decide +kernel)) rfl) (gm_ (List.mem_of_getElem? (i := 203) (by decide +kernel)) rfl) (gm_ (List.mem_of_getElem? (i := 11) (by decide +kernel)) rfl) (ini_W) cd_W_isDueSize
theorem ml_W_148 : GoodIn lw_g (wsV "WireSlave" 148 "WireSlave" y_W_isDueAmount w_W_isDueAmount) := goodV_ (gm_ (List.mem_of_getElem? (i := 209) (by decide +kernel)) rfl) (gm_ (List.mem_of_getElem? (i := 211) (by decide +kernel)) rfl) (gm_ (List.mem_of_getElem? (i := 13) (by decide +kernel)) rfl) (ini_W) cd_W_isDueAmount
theorem ml_W_152 : GoodIn lw_g (wsV "WireSlave" 152 "WireSlave$Table" y_T_has w_T_has) := goodV_ (gm_ (List.mem_of_getElem? (i := 217) (by decide +kernel)) rfl) (gm_ (List.mem_of_getElem? (i := 218) (by decide +kernel)) rfl) (gm_ (List.mem_of_getElem? (i := 219) (by decide +kernel)) rfl) (ini_T) cd_T_has
theorem ml_W_155 : GoodIn lw_g (wsV "WireSlave" 155 "WireSlave" y_W_dataSize w_W_dataSize) := goodV_ (gm_ (List.mem_of_getElem? (i := 205) (by decide +kernel)) rfl) (gm_ (List.mem_of_getElem? (i := 207) (by decide +kernel)) rfl) (gm_ (List.mem_of_getElem? (i := 12) (by decide +kernel)) rfl) (ini_W) cd_W_dataSize
theorem ml_W_159 : GoodIn lw_g (va_wsS "WireSlave" 159 y_W_bytesForBits w_W_bytesForBits) := goodS_ (gm_ (List.mem_of_getElem? (i := 214) (by decide +kernel)) rfl) (gm_ (List.mem_of_getElem? (i := 215) (by decide +kernel)) rfl) (ini_W) cd_W_bytesForBits
theorem ml_W_162 : GoodIn lw_g (wsV "WireSlave" 162 "WireSlave" y_W_writeCoils w_W_writeCoils) := goodV_ (gm_ (List.mem_of_getElem? (i := 230) (by decide +kernel)) rfl) (gm_ (List.mem_of_getElem? (i := 232) (by decide +kernel)) rfl) (gm_ (List.mem_of_getElem? (i := 15) (by decide +kernel)) rfl) (ini_W) cd_W_writeCoils
theorem ml_W_166 : GoodIn lw_g (wsV "WireSlave" 166 "WireSlave" y_W_writeRegisters w_W_writeRegisters) := goodV_ (gm_ (List.mem_of_getElem? (i := 234) (by decide +kernel)) rfl) (gm_ (List.mem_of_getElem? (i := 236) (by decide +kernel)) rfl) (gm_ (List.mem_of_getElem? (i := 16) (by decide +kernel)) rfl) (ini_W) cd_W_writeRegisters
theorem ml_W_169 : GoodIn lw_g (wsV "WireSlave" 169 "WireSlave" y_W_appendBits w_W_appendBits) := goodV_ (gm_ (List.mem_of_getElem? (i := 242) (by decide +kernel)) rfl) (gm_ (List.mem_of_getElem? (i := 244) (by decide +kernel)) rfl) (gm_ (List.mem_of_getElem? (i := 18) (by decide +kernel)) rfl) (ini_W) cd_W_appendBits
theorem ml_W_173 : GoodIn lw_g (wsV "WireSlave" 173 "WireSlave" y_W_appendNumbers w_W_appendNumbers) := goodV_ (gm_ (List.mem_of_getElem? (i := 253) (by decide +kernel)) rfl) (gm_ (List.mem_of_getElem? (i := 255) (by decide +kernel)) rfl) (gm_ (List.mem_of_getElem? (i := 19) (by decide +kernel)) rfl) (ini_W) cd_W_appendNumbers
theorem ml_W_176 : GoodIn lw_g (wsV "WireSlave" 176 "WireSlave" y_W_appendEcho w_W_appendEcho) := goodV_ (gm_ (List.mem_of_getElem? (i := 257) (by decide +kernel)) rfl) (gm_ (List.mem_of_getElem? (i := 259) (by decide +kernel)) rfl) (gm_ (List.mem_of_getElem? (i := 20) (by decide +kernel)) rfl) (ini_W) cd_W_appendEcho
theorem ml_W_179 : GoodIn lw_g (va_wsS "WireSlave" 179 y_W_packedBits w_W_packedBits) := goodS_ (gm_ (List.mem_of_getElem? (i := 246) (by decide +kernel)) rfl) (gm_ (List.mem_of_getElem? (i := 247) (by decide +kernel)) rfl) (ini_W) cd_W_packedBits
theorem ml_B_20 : GoodIn lw_g (wsV "WireSlave$Bytes" 20 "WireSlave$Bytes" y_B_at w_B_at) := goodV_ (gm_ (List.mem_of_getElem? (i := 168) (by decide +kernel)) rfl) (gm_ (List.mem_of_getElem? (i := 169) (by decide +kernel)) rfl) (gm_ (List.mem_of_getElem? (i := 170) (by decide +kernel)) rfl) (ini_B) cd_B_at
theorem ml_B_28 : GoodIn lw_g (wsV "WireSlave$Bytes" 28 "WireSlave$Bytes" y_B_sumOfFirst w_B_sumOfFirst) := goodV_ (gm_ (List.mem_of_getElem? (i := 163) (by decide +kernel)) rfl) (gm_ (List.mem_of_getElem? (i := 165) (by decide +kernel)) rfl) (gm_ (List.mem_of_getElem? (i := 4) (by decide +kernel)) rfl) (ini_B) cd_B_sumOfFirst
theorem ml_B_31 : GoodIn lw_g (wsV "WireSlave$Bytes" 31 "WireSlave$Bytes" y_B_append w_B_append) := goodV_ (gm_ (List.mem_of_getElem? (i := 265) (by decide +kernel)) rfl) (gm_ (List.mem_of_getElem? (i := 126) (by decide +kernel)) rfl) (gm_ (List.mem_of_getElem? (i := 127) (by decide +kernel)) rfl) (ini_B) cd_B_append
theorem ml_T_19 : GoodIn lw_g (wsV "WireSlave$Table" 19 "WireSlave$Table" y_T_has w_T_has) := goodV_ (gm_ (List.mem_of_getElem? (i := 229) (by decide +kernel)) rfl) (gm_ (List.mem_of_getElem? (i := 218) (by decide +kernel)) rfl) (gm_ (List.mem_of_getElem? (i := 219) (by decide +kernel)) rfl) (ini_T) cd_T_has
theorem ml_L_9 : GoodIn lw_g (va_wsS "WireSlaveLaw" 9 y_L_cell w_L_cell) := goodS_ (gm_ (List.mem_of_getElem? (i := 291) (by decide +kernel)) rfl) (gm_ (List.mem_of_getElem? (i := 292) (by decide +kernel)) rfl) (ini_L) cd_L_cell
theorem ml_L_15 : Cond.methodLink "WireSlaveLaw" 15 y_W_init ∈ lw_g := gm_ (List.mem_of_getElem? (i := 42) (by decide +kernel)) rfl
theorem mi_L_15 : Cond.instanceMethod y_W_init ∈ lw_g := gm_ (List.mem_of_getElem? (i := 43) (by decide +kernel)) rfl
theorem ml_L_20 : Cond.methodLink "WireSlaveLaw" 20 y_M_init ∈ lw_g := gm_ (List.mem_of_getElem? (i := 296) (by decide +kernel)) rfl
theorem mi_L_20 : Cond.instanceMethod y_M_init ∈ lw_g := gm_ (List.mem_of_getElem? (i := 297) (by decide +kernel)) rfl
theorem ml_L_21 : GoodIn lw_g (wsV "WireSlaveLaw" 21 "WireSlave" y_W_hear w_W_hear) := goodV_ (gm_ (List.mem_of_getElem? (i := 113) (by decide +kernel)) rfl) (gm_ (List.mem_of_getElem? (i := 114) (by decide +kernel)) rfl) (gm_ (List.mem_of_getElem? (i := 115) (by decide +kernel)) rfl) (ini_W) cd_W_hear
theorem ml_L_25 : GoodIn lw_g (wsV "WireSlaveLaw" 25 "WireSlaveModel" y_M_hear w_M_hear) := goodV_ (gm_ (List.mem_of_getElem? (i := 340) (by decide +kernel)) rfl) (gm_ (List.mem_of_getElem? (i := 341) (by decide +kernel)) rfl) (gm_ (List.mem_of_getElem? (i := 342) (by decide +kernel)) rfl) (ini_M) cd_M_hear
theorem ml_L_28 : GoodIn lw_g (wsV "WireSlaveLaw" 28 "WireSlave" y_W_listen w_W_listen) := goodV_ (gm_ (List.mem_of_getElem? (i := 129) (by decide +kernel)) rfl) (gm_ (List.mem_of_getElem? (i := 130) (by decide +kernel)) rfl) (gm_ (List.mem_of_getElem? (i := 131) (by decide +kernel)) rfl) (ini_W) cd_W_listen
theorem ml_L_32 : GoodIn lw_g (wsV "WireSlaveLaw" 32 "WireSlaveModel" y_M_listen w_M_listen) := goodV_ (gm_ (List.mem_of_getElem? (i := 344) (by decide +kernel)) rfl) (gm_ (List.mem_of_getElem? (i := 345) (by decide +kernel)) rfl) (gm_ (List.mem_of_getElem? (i := 346) (by decide +kernel)) rfl) (ini_M) cd_M_listen
theorem ml_L_33 : GoodIn lw_g (wsV "WireSlaveLaw" 33 "WireSlave" y_W_rest w_W_rest) := goodV_ (gm_ (List.mem_of_getElem? (i := 136) (by decide +kernel)) rfl) (gm_ (List.mem_of_getElem? (i := 137) (by decide +kernel)) rfl) (gm_ (List.mem_of_getElem? (i := 138) (by decide +kernel)) rfl) (ini_W) cd_W_rest
theorem ml_L_36 : GoodIn lw_g (wsV "WireSlaveLaw" 36 "WireSlaveModel" y_M_rest w_M_rest) := goodV_ (gm_ (List.mem_of_getElem? (i := 350) (by decide +kernel)) rfl) (gm_ (List.mem_of_getElem? (i := 351) (by decide +kernel)) rfl) (gm_ (List.mem_of_getElem? (i := 352) (by decide +kernel)) rfl) (ini_M) cd_M_rest
theorem ml_L_37 : GoodIn lw_g (wsV "WireSlaveLaw" 37 "WireSlave" y_W_reply w_W_reply) := goodV_ (gm_ (List.mem_of_getElem? (i := 266) (by decide +kernel)) rfl) (gm_ (List.mem_of_getElem? (i := 267) (by decide +kernel)) rfl) (gm_ (List.mem_of_getElem? (i := 268) (by decide +kernel)) rfl) (ini_W) cd_W_reply
theorem ml_L_40 : GoodIn lw_g (wsV "WireSlaveLaw" 40 "WireSlaveModel" y_M_reply w_M_reply) := goodV_ (gm_ (List.mem_of_getElem? (i := 401) (by decide +kernel)) rfl) (gm_ (List.mem_of_getElem? (i := 402) (by decide +kernel)) rfl) (gm_ (List.mem_of_getElem? (i := 403) (by decide +kernel)) rfl) (ini_M) cd_M_reply
theorem ml_L_41 : GoodIn lw_g (wsV "WireSlaveLaw" 41 "WireSlave" y_W_set w_W_set) := goodV_ (gm_ (List.mem_of_getElem? (i := 270) (by decide +kernel)) rfl) (gm_ (List.mem_of_getElem? (i := 271) (by decide +kernel)) rfl) (gm_ (List.mem_of_getElem? (i := 272) (by decide +kernel)) rfl) (ini_W) cd_W_set
theorem ml_L_45 : GoodIn lw_g (wsV "WireSlaveLaw" 45 "WireSlaveModel" y_M_set w_M_set) := goodV_ (gm_ (List.mem_of_getElem? (i := 405) (by decide +kernel)) rfl) (gm_ (List.mem_of_getElem? (i := 406) (by decide +kernel)) rfl) (gm_ (List.mem_of_getElem? (i := 407) (by decide +kernel)) rfl) (ini_M) cd_M_set
theorem ml_L_46 : GoodIn lw_g (wsV "WireSlaveLaw" 46 "WireSlave" y_W_get w_W_get) := goodV_ (gm_ (List.mem_of_getElem? (i := 278) (by decide +kernel)) rfl) (gm_ (List.mem_of_getElem? (i := 279) (by decide +kernel)) rfl) (gm_ (List.mem_of_getElem? (i := 280) (by decide +kernel)) rfl) (ini_W) cd_W_get
theorem ml_L_50 : GoodIn lw_g (wsV "WireSlaveLaw" 50 "WireSlaveModel" y_M_get w_M_get) := goodV_ (gm_ (List.mem_of_getElem? (i := 417) (by decide +kernel)) rfl) (gm_ (List.mem_of_getElem? (i := 418) (by decide +kernel)) rfl) (gm_ (List.mem_of_getElem? (i := 419) (by decide +kernel)) rfl) (ini_M) cd_M_get
theorem ml_L_51 : GoodIn lw_g (wsV "WireSlaveLaw" 51 "WireSlave" y_W_count w_W_count) := goodV_ (gm_ (List.mem_of_getElem? (i := 282) (by decide +kernel)) rfl) (gm_ (List.mem_of_getElem? (i := 283) (by decide +kernel)) rfl) (gm_ (List.mem_of_getElem? (i := 284) (by decide +kernel)) rfl) (ini_W) cd_W_count
theorem ml_L_54 : GoodIn lw_g (wsV "WireSlaveLaw" 54 "WireSlaveModel" y_M_count w_M_count) := goodV_ (gm_ (List.mem_of_getElem? (i := 421) (by decide +kernel)) rfl) (gm_ (List.mem_of_getElem? (i := 422) (by decide +kernel)) rfl) (gm_ (List.mem_of_getElem? (i := 423) (by decide +kernel)) rfl) (ini_M) cd_M_count
theorem ml_L_55 : GoodIn lw_g (wsV "WireSlaveLaw" 55 "WireSlave" y_W_sum w_W_sum) := goodV_ (gm_ (List.mem_of_getElem? (i := 286) (by decide +kernel)) rfl) (gm_ (List.mem_of_getElem? (i := 287) (by decide +kernel)) rfl) (gm_ (List.mem_of_getElem? (i := 288) (by decide +kernel)) rfl) (ini_W) cd_W_sum
theorem ml_L_58 : GoodIn lw_g (wsV "WireSlaveLaw" 58 "WireSlaveModel" y_M_sum w_M_sum) := goodV_ (gm_ (List.mem_of_getElem? (i := 397) (by decide +kernel)) rfl) (gm_ (List.mem_of_getElem? (i := 398) (by decide +kernel)) rfl) (gm_ (List.mem_of_getElem? (i := 399) (by decide +kernel)) rfl) (ini_M) cd_M_sum
theorem ml_M_50 : GoodIn lw_g (wsV "WireSlaveModel" 50 "WireSlaveModel" y_M_hear w_M_hear) := goodV_ (gm_ (List.mem_of_getElem? (i := 349) (by decide +kernel)) rfl) (gm_ (List.mem_of_getElem? (i := 341) (by decide +kernel)) rfl) (gm_ (List.mem_of_getElem? (i := 342) (by decide +kernel)) rfl) (ini_M) cd_M_hear
theorem ml_M_54 : GoodIn lw_g (wsV "WireSlaveModel" 54 "WireSlaveModel" y_M_ends w_M_ends) := goodV_ (gm_ (List.mem_of_getElem? (i := 354) (by decide +kernel)) rfl) (gm_ (List.mem_of_getElem? (i := 356) (by decide +kernel)) rfl) (gm_ (List.mem_of_getElem? (i := 22) (by decide +kernel)) rfl) (ini_M) cd_M_ends
theorem ml_M_60 : GoodIn lw_g (wsV "WireSlaveModel" 60 "WireSlaveModel" y_M_with w_M_with) := goodV_ (gm_ (List.mem_of_getElem? (i := 363) (by decide +kernel)) rfl) (gm_ (List.mem_of_getElem? (i := 365) (by decide +kernel)) rfl) (gm_ (List.mem_of_getElem? (i := 24) (by decide +kernel)) rfl) (ini_M) cd_M_with
theorem ml_M_64 : GoodIn lw_g (wsV "WireSlaveModel" 64 "WireSlaveModel" y_M_data w_M_data) := goodV_ (gm_ (List.mem_of_getElem? (i := 372) (by decide +kernel)) rfl) (gm_ (List.mem_of_getElem? (i := 374) (by decide +kernel)) rfl) (gm_ (List.mem_of_getElem? (i := 26) (by decide +kernel)) rfl) (ini_M) cd_M_data
theorem ml_M_70 : GoodIn lw_g (wsV "WireSlaveModel" 70 "WireSlaveModel" y_M_sumOf w_M_sumOf) := goodV_ (gm_ (List.mem_of_getElem? (i := 358) (by decide +kernel)) rfl) (gm_ (List.mem_of_getElem? (i := 360) (by decide +kernel)) rfl) (gm_ (List.mem_of_getElem? (i := 23) (by decide +kernel)) rfl) (ini_M) cd_M_sumOf
theorem ml_M_74 : GoodIn lw_g (wsV "WireSlaveModel" 74 "WireSlaveModel" y_M_why w_M_why) := goodV_ (gm_ (List.mem_of_getElem? (i := 368) (by decide +kernel)) rfl) (gm_ (List.mem_of_getElem? (i := 370) (by decide +kernel)) rfl) (gm_ (List.mem_of_getElem? (i := 25) (by decide +kernel)) rfl) (ini_M) cd_M_why
theorem ml_M_77 : GoodIn lw_g (wsV "WireSlaveModel" 77 "WireSlaveModel" y_M_act w_M_act) := goodV_ (gm_ (List.mem_of_getElem? (i := 385) (by decide +kernel)) rfl) (gm_ (List.mem_of_getElem? (i := 387) (by decide +kernel)) rfl) (gm_ (List.mem_of_getElem? (i := 29) (by decide +kernel)) rfl) (ini_M) cd_M_act
theorem ml_M_81 : GoodIn lw_g (wsV "WireSlaveModel" 81 "WireSlaveModel" y_M_add w_M_add) := goodV_ (gm_ (List.mem_of_getElem? (i := 389) (by decide +kernel)) rfl) (gm_ (List.mem_of_getElem? (i := 391) (by decide +kernel)) rfl) (gm_ (List.mem_of_getElem? (i := 30) (by decide +kernel)) rfl) (ini_M) cd_M_add
theorem ml_M_84 : GoodIn lw_g (wsV "WireSlaveModel" 84 "WireSlaveModel" y_M_answer w_M_answer) := goodV_ (gm_ (List.mem_of_getElem? (i := 393) (by decide +kernel)) rfl) (gm_ (List.mem_of_getElem? (i := 395) (by decide +kernel)) rfl) (gm_ (List.mem_of_getElem? (i := 31) (by decide +kernel)) rfl) (ini_M) cd_M_answer
theorem ml_M_87 : GoodIn lw_g (wsV "WireSlaveModel" 87 "WireSlaveModel" y_M_two w_M_two) := goodV_ (gm_ (List.mem_of_getElem? (i := 376) (by decide +kernel)) rfl) (gm_ (List.mem_of_getElem? (i := 378) (by decide +kernel)) rfl) (gm_ (List.mem_of_getElem? (i := 27) (by decide +kernel)) rfl) (ini_M) cd_M_two
theorem ml_M_91 : GoodIn lw_g (wsV "WireSlaveModel" 91 "WireSlaveModel" y_M_table w_M_table) := goodV_ (gm_ (List.mem_of_getElem? (i := 381) (by decide +kernel)) rfl) (gm_ (List.mem_of_getElem? (i := 383) (by decide +kernel)) rfl) (gm_ (List.mem_of_getElem? (i := 28) (by decide +kernel)) rfl) (ini_M) cd_M_table
theorem ml_M_95 : GoodIn lw_g (wsV "WireSlaveModel" 95 "WireSlaveModel" y_M_noPlace w_M_noPlace) := goodV_ (gm_ (List.mem_of_getElem? (i := 409) (by decide +kernel)) rfl) (gm_ (List.mem_of_getElem? (i := 411) (by decide +kernel)) rfl) (gm_ (List.mem_of_getElem? (i := 32) (by decide +kernel)) rfl) (ini_M) cd_M_noPlace
theorem ml_M_99 : GoodIn lw_g (wsV "WireSlaveModel" 99 "WireSlaveModel" y_M_byNumber w_M_byNumber) := goodV_ (gm_ (List.mem_of_getElem? (i := 413) (by decide +kernel)) rfl) (gm_ (List.mem_of_getElem? (i := 415) (by decide +kernel)) rfl) (gm_ (List.mem_of_getElem? (i := 33) (by decide +kernel)) rfl) (ini_M) cd_M_byNumber
theorem mo_W_1 : Cond.methodLink "WireSlave" 1 objectInit ∈ lw_g := gm_ (List.mem_of_getElem? (i := 45) (by decide +kernel)) rfl
theorem mj_W_9 : Cond.methodLink "WireSlave" 9 Lib.Math.min.name ∈ lw_g := gm_ (List.mem_of_getElem? (i := 48) (by decide +kernel)) rfl
theorem mj_W_15 : Cond.methodLink "WireSlave" 15 Lib.Math.max.name ∈ lw_g := gm_ (List.mem_of_getElem? (i := 51) (by decide +kernel)) rfl
theorem mo_B_3 : Cond.methodLink "WireSlave$Bytes" 3 objectInit ∈ lw_g := gm_ (List.mem_of_getElem? (i := 74) (by decide +kernel)) rfl
theorem mo_T_3 : Cond.methodLink "WireSlave$Table" 3 objectInit ∈ lw_g := gm_ (List.mem_of_getElem? (i := 59) (by decide +kernel)) rfl
theorem mo_M_1 : Cond.methodLink "WireSlaveModel" 1 objectInit ∈ lw_g := gm_ (List.mem_of_getElem? (i := 299) (by decide +kernel)) rfl
theorem io_ : Cond.instanceMethod objectInit ∈ lw_g := gm_ (List.mem_of_getElem? (i := 46) (by decide +kernel)) rfl
theorem co_ : Cond.code objectInit ⟨#[0xb1]⟩ 1 none ∈ lw_g := gm_ (List.mem_of_getElem? (i := 47) rfl) rfl
theorem cj_min : Cond.code Lib.Math.min.name Lib.Math.min.code 2 (some .int) ∈ lw_g := gm_ (List.mem_of_getElem? (i := 50) rfl) rfl
theorem sj_min : Cond.static Lib.Math.min.name ∈ lw_g := gm_ (List.mem_of_getElem? (i := 49) (by decide +kernel)) rfl
theorem cj_max : Cond.code Lib.Math.max.name Lib.Math.max.code 2 (some .int) ∈ lw_g := gm_ (List.mem_of_getElem? (i := 53) rfl) rfl
theorem sj_max : Cond.static Lib.Math.max.name ∈ lw_g := gm_ (List.mem_of_getElem? (i := 52) (by decide +kernel)) rfl
theorem ij_ : Cond.initialized "java/lang/Math" ∈ lw_g := gm_ (List.mem_of_getElem? (i := 36) (by decide +kernel)) rfl
abbrev NW : Cond := Cond.methodLinkNest "WireSlave$Bytes" 24 y_W_sumWith "WireSlave"
theorem nl_NW : NW ∈ lw_tbl := List.mem_of_getElem? (i := 172) (by decide +kernel)
theorem ns_B_24 : Cond.static y_W_sumWith ∈ lw_g := gm_ (List.mem_of_getElem? (i := 173) (by decide +kernel)) rfl
end
section
theorem d_W_init_0 : decode b_W_init 0 = .ok (.aload_n 0, 1) := by decide +kernel
theorem d_W_init_1 : decode b_W_init 1 = .ok (.invokespecial 1, 3) := by decide +kernel
theorem d_W_init_4 : decode b_W_init 4 = .ok (.aload_n 0, 1) := by decide +kernel
theorem d_W_init_5 : decode b_W_init 5 = .ok (.iconst 1, 1) := by decide +kernel
theorem d_W_init_6 : decode b_W_init 6 = .ok (.sipush 247, 3) := by decide +kernel
theorem d_W_init_9 : decode b_W_init 9 = .ok (.iload_n 1, 1) := by decide +kernel
theorem d_W_init_10 : decode b_W_init 10 = .ok (.invokestatic 9, 3) := by decide +kernel
theorem d_W_init_13 : decode b_W_init 13 = .ok (.invokestatic 15, 3) := by decide +kernel
theorem d_W_init_16 : decode b_W_init 16 = .ok (.putfield 18, 3) := by decide +kernel
theorem d_W_init_19 : decode b_W_init 19 = .ok (.aload_n 0, 1) := by decide +kernel
theorem d_W_init_20 : decode b_W_init 20 = .ok (.new 22, 3) := by decide +kernel
theorem d_W_init_23 : decode b_W_init 23 = .ok (.dup, 1) := by decide +kernel
theorem d_W_init_24 : decode b_W_init 24 = .ok (.sipush 256, 3) := by decide +kernel
theorem d_W_init_27 : decode b_W_init 27 = .ok (.newarray .int, 2) := by decide +kernel
theorem d_W_init_29 : decode b_W_init 29 = .ok (.iconst 1, 1) := by decide +kernel
theorem d_W_init_30 : decode b_W_init 30 = .ok (.invokespecial 24, 3) := by decide +kernel
theorem d_W_init_33 : decode b_W_init 33 = .ok (.putfield 27, 3) := by decide +kernel
theorem d_W_init_36 : decode b_W_init 36 = .ok (.aload_n 0, 1) := by decide +kernel
theorem d_W_init_37 : decode b_W_init 37 = .ok (.new 22, 3) := by decide +kernel
theorem d_W_init_40 : decode b_W_init 40 = .ok (.dup, 1) := by decide +kernel
theorem d_W_init_41 : decode b_W_init 41 = .ok (.sipush 256, 3) := by decide +kernel
theorem d_W_init_44 : decode b_W_init 44 = .ok (.newarray .int, 2) := by decide +kernel
theorem d_W_init_46 : decode b_W_init 46 = .ok (.iconst 1, 1) := by decide +kernel
theorem d_W_init_47 : decode b_W_init 47 = .ok (.invokespecial 24, 3) := by decide +kernel
theorem d_W_init_50 : decode b_W_init 50 = .ok (.putfield 31, 3) := by decide +kernel
theorem d_W_init_53 : decode b_W_init 53 = .ok (.aload_n 0, 1) := by decide +kernel
theorem d_W_init_54 : decode b_W_init 54 = .ok (.new 22, 3) := by decide +kernel
theorem d_W_init_57 : decode b_W_init 57 = .ok (.dup, 1) := by decide +kernel
theorem d_W_init_58 : decode b_W_init 58 = .ok (.bipush 64, 2) := by decide +kernel
theorem d_W_init_60 : decode b_W_init 60 = .ok (.newarray .int, 2) := by decide +kernel
theorem d_W_init_62 : decode b_W_init 62 = .ok (.ldc 34, 2) := by decide +kernel
theorem d_W_init_64 : decode b_W_init 64 = .ok (.invokespecial 24, 3) := by decide +kernel
theorem d_W_init_67 : decode b_W_init 67 = .ok (.putfield 35, 3) := by decide +kernel
theorem d_W_init_70 : decode b_W_init 70 = .ok (.aload_n 0, 1) := by decide +kernel
theorem d_W_init_71 : decode b_W_init 71 = .ok (.new 22, 3) := by decide +kernel
theorem d_W_init_74 : decode b_W_init 74 = .ok (.dup, 1) := by decide +kernel
theorem d_W_init_75 : decode b_W_init 75 = .ok (.bipush 64, 2) := by decide +kernel
theorem d_W_init_77 : decode b_W_init 77 = .ok (.newarray .int, 2) := by decide +kernel
theorem d_W_init_79 : decode b_W_init 79 = .ok (.ldc 34, 2) := by decide +kernel
theorem d_W_init_81 : decode b_W_init 81 = .ok (.invokespecial 24, 3) := by decide +kernel
theorem d_W_init_84 : decode b_W_init 84 = .ok (.putfield 38, 3) := by decide +kernel
theorem d_W_init_87 : decode b_W_init 87 = .ok (.aload_n 0, 1) := by decide +kernel
theorem d_W_init_88 : decode b_W_init 88 = .ok (.new 41, 3) := by decide +kernel
theorem d_W_init_91 : decode b_W_init 91 = .ok (.dup, 1) := by decide +kernel
theorem d_W_init_92 : decode b_W_init 92 = .ok (.sipush 257, 3) := by decide +kernel
theorem d_W_init_95 : decode b_W_init 95 = .ok (.newarray .int, 2) := by decide +kernel
theorem d_W_init_97 : decode b_W_init 97 = .ok (.invokespecial 43, 3) := by decide +kernel
theorem d_W_init_100 : decode b_W_init 100 = .ok (.putfield 46, 3) := by decide +kernel
theorem d_W_init_103 : decode b_W_init 103 = .ok (.aload_n 0, 1) := by decide +kernel
theorem d_W_init_104 : decode b_W_init 104 = .ok (.new 41, 3) := by decide +kernel
theorem d_W_init_107 : decode b_W_init 107 = .ok (.dup, 1) := by decide +kernel
theorem d_W_init_108 : decode b_W_init 108 = .ok (.sipush 256, 3) := by decide +kernel
theorem d_W_init_111 : decode b_W_init 111 = .ok (.newarray .int, 2) := by decide +kernel
theorem d_W_init_113 : decode b_W_init 113 = .ok (.invokespecial 43, 3) := by decide +kernel
theorem d_W_init_116 : decode b_W_init 116 = .ok (.putfield 50, 3) := by decide +kernel
theorem d_W_init_119 : decode b_W_init 119 = .ok (.aload_n 0, 1) := by decide +kernel
theorem d_W_init_120 : decode b_W_init 120 = .ok (.bipush 6, 2) := by decide +kernel
theorem d_W_init_122 : decode b_W_init 122 = .ok (.newarray .int, 2) := by decide +kernel
theorem d_W_init_124 : decode b_W_init 124 = .ok (.putfield 53, 3) := by decide +kernel
theorem d_W_init_127 : decode b_W_init 127 = .ok (.aload_n 0, 1) := by decide +kernel
theorem d_W_init_128 : decode b_W_init 128 = .ok (.iconst 0, 1) := by decide +kernel
theorem d_W_init_129 : decode b_W_init 129 = .ok (.putfield 57, 3) := by decide +kernel
theorem d_W_init_132 : decode b_W_init 132 = .ok (.aload_n 0, 1) := by decide +kernel
theorem d_W_init_133 : decode b_W_init 133 = .ok (.iconst 0, 1) := by decide +kernel
theorem d_W_init_134 : decode b_W_init 134 = .ok (.putfield 60, 3) := by decide +kernel
theorem d_W_init_137 : decode b_W_init 137 = .ok (.return_, 1) := by decide +kernel
theorem d_W_hear_0 : decode b_W_hear 0 = .ok (.iload_n 1, 1) := by decide +kernel
theorem d_W_hear_1 : decode b_W_hear 1 = .ok (.ifCond .lt 10, 3) := by decide +kernel
theorem d_W_hear_4 : decode b_W_hear 4 = .ok (.iload_n 1, 1) := by decide +kernel
theorem d_W_hear_5 : decode b_W_hear 5 = .ok (.sipush 255, 3) := by decide +kernel
theorem d_W_hear_8 : decode b_W_hear 8 = .ok (.if_icmp .le 5, 3) := by decide +kernel
theorem d_W_hear_11 : decode b_W_hear 11 = .ok (.iconst (-1), 1) := by decide +kernel
theorem d_W_hear_12 : decode b_W_hear 12 = .ok (.ireturn, 1) := by decide +kernel
theorem d_W_hear_13 : decode b_W_hear 13 = .ok (.aload_n 0, 1) := by decide +kernel
theorem d_W_hear_14 : decode b_W_hear 14 = .ok (.iload_n 1, 1) := by decide +kernel
theorem d_W_hear_15 : decode b_W_hear 15 = .ok (.invokevirtual 64, 3) := by decide +kernel
theorem d_W_hear_18 : decode b_W_hear 18 = .ok (.aload_n 0, 1) := by decide +kernel
theorem d_W_hear_19 : decode b_W_hear 19 = .ok (.getfield 46, 3) := by decide +kernel
theorem d_W_hear_22 : decode b_W_hear 22 = .ok (.invokevirtual 68, 3) := by decide +kernel
theorem d_W_hear_25 : decode b_W_hear 25 = .ok (.ireturn, 1) := by decide +kernel
theorem d_W_listen_0 : decode b_W_listen 0 = .ok (.iload_n 1, 1) := by decide +kernel
theorem d_W_listen_1 : decode b_W_listen 1 = .ok (.iconst 1, 1) := by decide +kernel
theorem d_W_listen_2 : decode b_W_listen 2 = .ok (.if_icmp .lt 9, 3) := by decide +kernel
theorem d_W_listen_5 : decode b_W_listen 5 = .ok (.iload_n 1, 1) := by decide +kernel
theorem d_W_listen_6 : decode b_W_listen 6 = .ok (.bipush 8, 2) := by decide +kernel
theorem d_W_listen_8 : decode b_W_listen 8 = .ok (.if_icmp .le 5, 3) := by decide +kernel
theorem d_W_listen_11 : decode b_W_listen 11 = .ok (.iconst (-1), 1) := by decide +kernel
theorem d_W_listen_12 : decode b_W_listen 12 = .ok (.ireturn, 1) := by decide +kernel
theorem d_W_listen_13 : decode b_W_listen 13 = .ok (.iload_n 1, 1) := by decide +kernel
theorem d_W_listen_14 : decode b_W_listen 14 = .ok (.iconst 1, 1) := by decide +kernel
theorem d_W_listen_15 : decode b_W_listen 15 = .ok (.isub, 1) := by decide +kernel
theorem d_W_listen_16 : decode b_W_listen 16 = .ok (.istore 4, 2) := by decide +kernel
theorem d_W_listen_18 : decode b_W_listen 18 = .ok (.iload 4, 2) := by decide +kernel
theorem d_W_listen_20 : decode b_W_listen 20 = .ok (.ifCond .lt 19, 3) := by decide +kernel
theorem d_W_listen_23 : decode b_W_listen 23 = .ok (.aload_n 0, 1) := by decide +kernel
theorem d_W_listen_24 : decode b_W_listen 24 = .ok (.lload_n 2, 1) := by decide +kernel
theorem d_W_listen_25 : decode b_W_listen 25 = .ok (.iload 4, 2) := by decide +kernel
theorem d_W_listen_27 : decode b_W_listen 27 = .ok (.invokestatic 72, 3) := by decide +kernel
theorem d_W_listen_30 : decode b_W_listen 30 = .ok (.invokevirtual 64, 3) := by decide +kernel
theorem d_W_listen_33 : decode b_W_listen 33 = .ok (.iinc 4 (-1), 3) := by decide +kernel
theorem d_W_listen_36 : decode b_W_listen 36 = .ok (.goto (-18), 3) := by decide +kernel
theorem d_W_listen_39 : decode b_W_listen 39 = .ok (.aload_n 0, 1) := by decide +kernel
theorem d_W_listen_40 : decode b_W_listen 40 = .ok (.getfield 46, 3) := by decide +kernel
theorem d_W_listen_43 : decode b_W_listen 43 = .ok (.invokevirtual 68, 3) := by decide +kernel
theorem d_W_listen_46 : decode b_W_listen 46 = .ok (.ireturn, 1) := by decide +kernel
theorem d_W_rest_0 : decode b_W_rest 0 = .ok (.iload_n 1, 1) := by decide +kernel
theorem d_W_rest_1 : decode b_W_rest 1 = .ok (.ifCond .lt 10, 3) := by decide +kernel
theorem d_W_rest_4 : decode b_W_rest 4 = .ok (.iload_n 1, 1) := by decide +kernel
theorem d_W_rest_5 : decode b_W_rest 5 = .ok (.sipush 1000, 3) := by decide +kernel
theorem d_W_rest_8 : decode b_W_rest 8 = .ok (.if_icmp .le 5, 3) := by decide +kernel
theorem d_W_rest_11 : decode b_W_rest 11 = .ok (.iconst (-1), 1) := by decide +kernel
theorem d_W_rest_12 : decode b_W_rest 12 = .ok (.ireturn, 1) := by decide +kernel
theorem d_W_rest_13 : decode b_W_rest 13 = .ok (.aload_n 0, 1) := by decide +kernel
theorem d_W_rest_14 : decode b_W_rest 14 = .ok (.getfield 46, 3) := by decide +kernel
theorem d_W_rest_17 : decode b_W_rest 17 = .ok (.invokevirtual 68, 3) := by decide +kernel
theorem d_W_rest_20 : decode b_W_rest 20 = .ok (.ifCond .ne 6, 3) := by decide +kernel
theorem d_W_rest_23 : decode b_W_rest 23 = .ok (.bipush (-2), 2) := by decide +kernel
theorem d_W_rest_25 : decode b_W_rest 25 = .ok (.ireturn, 1) := by decide +kernel
theorem d_W_rest_26 : decode b_W_rest 26 = .ok (.aload_n 0, 1) := by decide +kernel
theorem d_W_rest_27 : decode b_W_rest 27 = .ok (.dup, 1) := by decide +kernel
theorem d_W_rest_28 : decode b_W_rest 28 = .ok (.getfield 57, 3) := by decide +kernel
theorem d_W_rest_31 : decode b_W_rest 31 = .ok (.iload_n 1, 1) := by decide +kernel
theorem d_W_rest_32 : decode b_W_rest 32 = .ok (.iadd, 1) := by decide +kernel
theorem d_W_rest_33 : decode b_W_rest 33 = .ok (.putfield 57, 3) := by decide +kernel
theorem d_W_rest_36 : decode b_W_rest 36 = .ok (.aload_n 0, 1) := by decide +kernel
theorem d_W_rest_37 : decode b_W_rest 37 = .ok (.getfield 57, 3) := by decide +kernel
theorem d_W_rest_40 : decode b_W_rest 40 = .ok (.bipush 14, 2) := by decide +kernel
theorem d_W_rest_42 : decode b_W_rest 42 = .ok (.if_icmp .ge 6, 3) := by decide +kernel
theorem d_W_rest_45 : decode b_W_rest 45 = .ok (.bipush (-2), 2) := by decide +kernel
theorem d_W_rest_47 : decode b_W_rest 47 = .ok (.ireturn, 1) := by decide +kernel
theorem d_W_rest_48 : decode b_W_rest 48 = .ok (.aload_n 0, 1) := by decide +kernel
theorem d_W_rest_49 : decode b_W_rest 49 = .ok (.invokevirtual 76, 3) := by decide +kernel
theorem d_W_rest_52 : decode b_W_rest 52 = .ok (.aload_n 0, 1) := by decide +kernel
theorem d_W_rest_53 : decode b_W_rest 53 = .ok (.getfield 50, 3) := by decide +kernel
theorem d_W_rest_56 : decode b_W_rest 56 = .ok (.invokevirtual 68, 3) := by decide +kernel
theorem d_W_rest_59 : decode b_W_rest 59 = .ok (.ireturn, 1) := by decide +kernel
theorem d_W_reply_0 : decode b_W_reply 0 = .ok (.aload_n 0, 1) := by decide +kernel
theorem d_W_reply_1 : decode b_W_reply 1 = .ok (.getfield 50, 3) := by decide +kernel
theorem d_W_reply_4 : decode b_W_reply 4 = .ok (.iload_n 1, 1) := by decide +kernel
theorem d_W_reply_5 : decode b_W_reply 5 = .ok (.invokevirtual 79, 3) := by decide +kernel
theorem d_W_reply_8 : decode b_W_reply 8 = .ok (.ireturn, 1) := by decide +kernel
theorem d_W_set_0 : decode b_W_set 0 = .ok (.aload_n 0, 1) := by decide +kernel
theorem d_W_set_1 : decode b_W_set 1 = .ok (.iload_n 1, 1) := by decide +kernel
theorem d_W_set_2 : decode b_W_set 2 = .ok (.invokevirtual 83, 3) := by decide +kernel
theorem d_W_set_5 : decode b_W_set 5 = .ok (.astore 4, 2) := by decide +kernel
theorem d_W_set_7 : decode b_W_set 7 = .ok (.aload 4, 2) := by decide +kernel
theorem d_W_set_9 : decode b_W_set 9 = .ok (.ifnonnull 7, 3) := by decide +kernel
theorem d_W_set_12 : decode b_W_set 12 = .ok (.iconst (-1), 1) := by decide +kernel
theorem d_W_set_13 : decode b_W_set 13 = .ok (.goto 10, 3) := by decide +kernel
theorem d_W_set_16 : decode b_W_set 16 = .ok (.aload 4, 2) := by decide +kernel
theorem d_W_set_18 : decode b_W_set 18 = .ok (.iload_n 2, 1) := by decide +kernel
theorem d_W_set_19 : decode b_W_set 19 = .ok (.iload_n 3, 1) := by decide +kernel
theorem d_W_set_20 : decode b_W_set 20 = .ok (.invokevirtual 87, 3) := by decide +kernel
theorem d_W_set_23 : decode b_W_set 23 = .ok (.ireturn, 1) := by decide +kernel
theorem d_W_get_0 : decode b_W_get 0 = .ok (.aload_n 0, 1) := by decide +kernel
theorem d_W_get_1 : decode b_W_get 1 = .ok (.iload_n 1, 1) := by decide +kernel
theorem d_W_get_2 : decode b_W_get 2 = .ok (.invokevirtual 83, 3) := by decide +kernel
theorem d_W_get_5 : decode b_W_get 5 = .ok (.astore_n 3, 1) := by decide +kernel
theorem d_W_get_6 : decode b_W_get 6 = .ok (.aload_n 3, 1) := by decide +kernel
theorem d_W_get_7 : decode b_W_get 7 = .ok (.ifnonnull 7, 3) := by decide +kernel
theorem d_W_get_10 : decode b_W_get 10 = .ok (.iconst (-1), 1) := by decide +kernel
theorem d_W_get_11 : decode b_W_get 11 = .ok (.goto 8, 3) := by decide +kernel
theorem d_W_get_14 : decode b_W_get 14 = .ok (.aload_n 3, 1) := by decide +kernel
theorem d_W_get_15 : decode b_W_get 15 = .ok (.iload_n 2, 1) := by decide +kernel
theorem d_W_get_16 : decode b_W_get 16 = .ok (.invokevirtual 90, 3) := by decide +kernel
theorem d_W_get_19 : decode b_W_get 19 = .ok (.ireturn, 1) := by decide +kernel
theorem d_W_count_0 : decode b_W_count 0 = .ok (.iload_n 1, 1) := by decide +kernel
theorem d_W_count_1 : decode b_W_count 1 = .ok (.ifCond .lt 12, 3) := by decide +kernel
theorem d_W_count_4 : decode b_W_count 4 = .ok (.iload_n 1, 1) := by decide +kernel
theorem d_W_count_5 : decode b_W_count 5 = .ok (.aload_n 0, 1) := by decide +kernel
theorem d_W_count_6 : decode b_W_count 6 = .ok (.getfield 53, 3) := by decide +kernel
theorem d_W_count_9 : decode b_W_count 9 = .ok (.arraylength, 1) := by decide +kernel
theorem d_W_count_10 : decode b_W_count 10 = .ok (.if_icmp .lt 7, 3) := by decide +kernel
theorem d_W_count_13 : decode b_W_count 13 = .ok (.iconst (-1), 1) := by decide +kernel
theorem d_W_count_14 : decode b_W_count 14 = .ok (.goto 9, 3) := by decide +kernel
theorem d_W_count_17 : decode b_W_count 17 = .ok (.aload_n 0, 1) := by decide +kernel
theorem d_W_count_18 : decode b_W_count 18 = .ok (.getfield 53, 3) := by decide +kernel
theorem d_W_count_21 : decode b_W_count 21 = .ok (.iload_n 1, 1) := by decide +kernel
theorem d_W_count_22 : decode b_W_count 22 = .ok (.iaload, 1) := by decide +kernel
theorem d_W_count_23 : decode b_W_count 23 = .ok (.ireturn, 1) := by decide +kernel
theorem d_W_sum_0 : decode b_W_sum 0 = .ok (.iload_n 1, 1) := by decide +kernel
theorem d_W_sum_1 : decode b_W_sum 1 = .ok (.ifCond .lt 9, 3) := by decide +kernel
theorem d_W_sum_4 : decode b_W_sum 4 = .ok (.iload_n 1, 1) := by decide +kernel
theorem d_W_sum_5 : decode b_W_sum 5 = .ok (.bipush 8, 2) := by decide +kernel
theorem d_W_sum_7 : decode b_W_sum 7 = .ok (.if_icmp .le 5, 3) := by decide +kernel
theorem d_W_sum_10 : decode b_W_sum 10 = .ok (.iconst (-1), 1) := by decide +kernel
theorem d_W_sum_11 : decode b_W_sum 11 = .ok (.ireturn, 1) := by decide +kernel
theorem d_W_sum_12 : decode b_W_sum 12 = .ok (.ldc 34, 2) := by decide +kernel
theorem d_W_sum_14 : decode b_W_sum 14 = .ok (.istore 4, 2) := by decide +kernel
theorem d_W_sum_16 : decode b_W_sum 16 = .ok (.iload_n 1, 1) := by decide +kernel
theorem d_W_sum_17 : decode b_W_sum 17 = .ok (.iconst 1, 1) := by decide +kernel
theorem d_W_sum_18 : decode b_W_sum 18 = .ok (.isub, 1) := by decide +kernel
theorem d_W_sum_19 : decode b_W_sum 19 = .ok (.istore 5, 2) := by decide +kernel
theorem d_W_sum_21 : decode b_W_sum 21 = .ok (.iload 5, 2) := by decide +kernel
theorem d_W_sum_23 : decode b_W_sum 23 = .ok (.ifCond .lt 22, 3) := by decide +kernel
theorem d_W_sum_26 : decode b_W_sum 26 = .ok (.iload 4, 2) := by decide +kernel
theorem d_W_sum_28 : decode b_W_sum 28 = .ok (.lload_n 2, 1) := by decide +kernel
theorem d_W_sum_29 : decode b_W_sum 29 = .ok (.iload 5, 2) := by decide +kernel
theorem d_W_sum_31 : decode b_W_sum 31 = .ok (.invokestatic 72, 3) := by decide +kernel
theorem d_W_sum_34 : decode b_W_sum 34 = .ok (.invokestatic 91, 3) := by decide +kernel
theorem d_W_sum_37 : decode b_W_sum 37 = .ok (.istore 4, 2) := by decide +kernel
theorem d_W_sum_39 : decode b_W_sum 39 = .ok (.iinc 5 (-1), 3) := by decide +kernel
theorem d_W_sum_42 : decode b_W_sum 42 = .ok (.goto (-21), 3) := by decide +kernel
theorem d_W_sum_45 : decode b_W_sum 45 = .ok (.iload 4, 2) := by decide +kernel
theorem d_W_sum_47 : decode b_W_sum 47 = .ok (.ireturn, 1) := by decide +kernel
theorem d_W_byteOf_0 : decode b_W_byteOf 0 = .ok (.lload_n 0, 1) := by decide +kernel
theorem d_W_byteOf_1 : decode b_W_byteOf 1 = .ok (.bipush 8, 2) := by decide +kernel
theorem d_W_byteOf_3 : decode b_W_byteOf 3 = .ok (.iload_n 2, 1) := by decide +kernel
theorem d_W_byteOf_4 : decode b_W_byteOf 4 = .ok (.imul, 1) := by decide +kernel
theorem d_W_byteOf_5 : decode b_W_byteOf 5 = .ok (.lushr, 1) := by decide +kernel
theorem d_W_byteOf_6 : decode b_W_byteOf 6 = .ok (.l2i, 1) := by decide +kernel
theorem d_W_byteOf_7 : decode b_W_byteOf 7 = .ok (.sipush 255, 3) := by decide +kernel
theorem d_W_byteOf_10 : decode b_W_byteOf 10 = .ok (.iand, 1) := by decide +kernel
theorem d_W_byteOf_11 : decode b_W_byteOf 11 = .ok (.ireturn, 1) := by decide +kernel
theorem d_W_sumWith_0 : decode b_W_sumWith 0 = .ok (.iload_n 0, 1) := by decide +kernel
theorem d_W_sumWith_1 : decode b_W_sumWith 1 = .ok (.iload_n 1, 1) := by decide +kernel
theorem d_W_sumWith_2 : decode b_W_sumWith 2 = .ok (.ixor, 1) := by decide +kernel
theorem d_W_sumWith_3 : decode b_W_sumWith 3 = .ok (.istore_n 2, 1) := by decide +kernel
theorem d_W_sumWith_4 : decode b_W_sumWith 4 = .ok (.iconst 0, 1) := by decide +kernel
theorem d_W_sumWith_5 : decode b_W_sumWith 5 = .ok (.istore_n 3, 1) := by decide +kernel
theorem d_W_sumWith_6 : decode b_W_sumWith 6 = .ok (.iload_n 3, 1) := by decide +kernel
theorem d_W_sumWith_7 : decode b_W_sumWith 7 = .ok (.bipush 8, 2) := by decide +kernel
theorem d_W_sumWith_9 : decode b_W_sumWith 9 = .ok (.if_icmp .ge 36, 3) := by decide +kernel
theorem d_W_sumWith_12 : decode b_W_sumWith 12 = .ok (.iload_n 2, 1) := by decide +kernel
theorem d_W_sumWith_13 : decode b_W_sumWith 13 = .ok (.iconst 1, 1) := by decide +kernel
theorem d_W_sumWith_14 : decode b_W_sumWith 14 = .ok (.iand, 1) := by decide +kernel
theorem d_W_sumWith_15 : decode b_W_sumWith 15 = .ok (.ifCond .eq 7, 3) := by decide +kernel
theorem d_W_sumWith_18 : decode b_W_sumWith 18 = .ok (.iconst 1, 1) := by decide +kernel
theorem d_W_sumWith_19 : decode b_W_sumWith 19 = .ok (.goto 4, 3) := by decide +kernel
theorem d_W_sumWith_22 : decode b_W_sumWith 22 = .ok (.iconst 0, 1) := by decide +kernel
theorem d_W_sumWith_23 : decode b_W_sumWith 23 = .ok (.istore 4, 2) := by decide +kernel
theorem d_W_sumWith_25 : decode b_W_sumWith 25 = .ok (.iload_n 2, 1) := by decide +kernel
theorem d_W_sumWith_26 : decode b_W_sumWith 26 = .ok (.iconst 1, 1) := by decide +kernel
theorem d_W_sumWith_27 : decode b_W_sumWith 27 = .ok (.iushr, 1) := by decide +kernel
theorem d_W_sumWith_28 : decode b_W_sumWith 28 = .ok (.istore_n 2, 1) := by decide +kernel
theorem d_W_sumWith_29 : decode b_W_sumWith 29 = .ok (.iload 4, 2) := by decide +kernel
theorem d_W_sumWith_31 : decode b_W_sumWith 31 = .ok (.ifCond .eq 8, 3) := by decide +kernel
theorem d_W_sumWith_34 : decode b_W_sumWith 34 = .ok (.iload_n 2, 1) := by decide +kernel
theorem d_W_sumWith_35 : decode b_W_sumWith 35 = .ok (.ldc 94, 2) := by decide +kernel
theorem d_W_sumWith_37 : decode b_W_sumWith 37 = .ok (.ixor, 1) := by decide +kernel
theorem d_W_sumWith_38 : decode b_W_sumWith 38 = .ok (.istore_n 2, 1) := by decide +kernel
theorem d_W_sumWith_39 : decode b_W_sumWith 39 = .ok (.iinc 3 1, 3) := by decide +kernel
theorem d_W_sumWith_42 : decode b_W_sumWith 42 = .ok (.goto (-36), 3) := by decide +kernel
theorem d_W_sumWith_45 : decode b_W_sumWith 45 = .ok (.iload_n 2, 1) := by decide +kernel
theorem d_W_sumWith_46 : decode b_W_sumWith 46 = .ok (.ireturn, 1) := by decide +kernel
theorem d_W_isFromTo_0 : decode b_W_isFromTo 0 = .ok (.iload_n 0, 1) := by decide +kernel
theorem d_W_isFromTo_1 : decode b_W_isFromTo 1 = .ok (.iload_n 1, 1) := by decide +kernel
theorem d_W_isFromTo_2 : decode b_W_isFromTo 2 = .ok (.if_icmp .lt 12, 3) := by decide +kernel
theorem d_W_isFromTo_5 : decode b_W_isFromTo 5 = .ok (.iload_n 0, 1) := by decide +kernel
theorem d_W_isFromTo_6 : decode b_W_isFromTo 6 = .ok (.iload_n 2, 1) := by decide +kernel
theorem d_W_isFromTo_7 : decode b_W_isFromTo 7 = .ok (.if_icmp .gt 7, 3) := by decide +kernel
theorem d_W_isFromTo_10 : decode b_W_isFromTo 10 = .ok (.iconst 1, 1) := by decide +kernel
theorem d_W_isFromTo_11 : decode b_W_isFromTo 11 = .ok (.goto 4, 3) := by decide +kernel
theorem d_W_isFromTo_14 : decode b_W_isFromTo 14 = .ok (.iconst 0, 1) := by decide +kernel
theorem d_W_isFromTo_15 : decode b_W_isFromTo 15 = .ok (.ireturn, 1) := by decide +kernel
theorem d_W_bytesForBits_0 : decode b_W_bytesForBits 0 = .ok (.iload_n 0, 1) := by decide +kernel
theorem d_W_bytesForBits_1 : decode b_W_bytesForBits 1 = .ok (.bipush 7, 2) := by decide +kernel
theorem d_W_bytesForBits_3 : decode b_W_bytesForBits 3 = .ok (.iadd, 1) := by decide +kernel
theorem d_W_bytesForBits_4 : decode b_W_bytesForBits 4 = .ok (.bipush 8, 2) := by decide +kernel
theorem d_W_bytesForBits_6 : decode b_W_bytesForBits 6 = .ok (.idiv, 1) := by decide +kernel
theorem d_W_bytesForBits_7 : decode b_W_bytesForBits 7 = .ok (.ireturn, 1) := by decide +kernel
theorem d_W_tableNumbered_0 : decode b_W_tableNumbered 0 = .ok (.iload_n 1, 1) := by decide +kernel
theorem d_W_tableNumbered_1 : decode b_W_tableNumbered 1 = .ok (.tableswitch 51 0 3 #[31, 36, 41, 46], 31) := by decide +kernel
theorem d_W_tableNumbered_32 : decode b_W_tableNumbered 32 = .ok (.aload_n 0, 1) := by decide +kernel
theorem d_W_tableNumbered_33 : decode b_W_tableNumbered 33 = .ok (.getfield 27, 3) := by decide +kernel
theorem d_W_tableNumbered_36 : decode b_W_tableNumbered 36 = .ok (.areturn, 1) := by decide +kernel
theorem d_W_tableNumbered_37 : decode b_W_tableNumbered 37 = .ok (.aload_n 0, 1) := by decide +kernel
theorem d_W_tableNumbered_38 : decode b_W_tableNumbered 38 = .ok (.getfield 31, 3) := by decide +kernel
theorem d_W_tableNumbered_41 : decode b_W_tableNumbered 41 = .ok (.areturn, 1) := by decide +kernel
theorem d_W_tableNumbered_42 : decode b_W_tableNumbered 42 = .ok (.aload_n 0, 1) := by decide +kernel
theorem d_W_tableNumbered_43 : decode b_W_tableNumbered 43 = .ok (.getfield 35, 3) := by decide +kernel
theorem d_W_tableNumbered_46 : decode b_W_tableNumbered 46 = .ok (.areturn, 1) := by decide +kernel
theorem d_W_tableNumbered_47 : decode b_W_tableNumbered 47 = .ok (.aload_n 0, 1) := by decide +kernel
theorem d_W_tableNumbered_48 : decode b_W_tableNumbered 48 = .ok (.getfield 38, 3) := by decide +kernel
theorem d_W_tableNumbered_51 : decode b_W_tableNumbered 51 = .ok (.areturn, 1) := by decide +kernel
theorem d_W_tableNumbered_52 : decode b_W_tableNumbered 52 = .ok (.aconst_null, 1) := by decide +kernel
theorem d_W_tableNumbered_53 : decode b_W_tableNumbered 53 = .ok (.areturn, 1) := by decide +kernel
theorem d_W_tableOfFunction_0 : decode b_W_tableOfFunction 0 = .ok (.iload_n 1, 1) := by decide +kernel
theorem d_W_tableOfFunction_1 : decode b_W_tableOfFunction 1 = .ok (.tableswitch 99 1 16 #[79, 84, 89, 94, 79, 89, 99, 99, 99, 99, 99, 99, 99, 99, 79, 89], 79) := by decide +kernel
theorem d_W_tableOfFunction_80 : decode b_W_tableOfFunction 80 = .ok (.aload_n 0, 1) := by decide +kernel
theorem d_W_tableOfFunction_81 : decode b_W_tableOfFunction 81 = .ok (.getfield 27, 3) := by decide +kernel
theorem d_W_tableOfFunction_84 : decode b_W_tableOfFunction 84 = .ok (.areturn, 1) := by decide +kernel
theorem d_W_tableOfFunction_85 : decode b_W_tableOfFunction 85 = .ok (.aload_n 0, 1) := by decide +kernel
theorem d_W_tableOfFunction_86 : decode b_W_tableOfFunction 86 = .ok (.getfield 31, 3) := by decide +kernel
theorem d_W_tableOfFunction_89 : decode b_W_tableOfFunction 89 = .ok (.areturn, 1) := by decide +kernel
theorem d_W_tableOfFunction_90 : decode b_W_tableOfFunction 90 = .ok (.aload_n 0, 1) := by decide +kernel
theorem d_W_tableOfFunction_91 : decode b_W_tableOfFunction 91 = .ok (.getfield 35, 3) := by decide +kernel
theorem d_W_tableOfFunction_94 : decode b_W_tableOfFunction 94 = .ok (.areturn, 1) := by decide +kernel
theorem d_W_tableOfFunction_95 : decode b_W_tableOfFunction 95 = .ok (.aload_n 0, 1) := by decide +kernel
theorem d_W_tableOfFunction_96 : decode b_W_tableOfFunction 96 = .ok (.getfield 38, 3) := by decide +kernel
theorem d_W_tableOfFunction_99 : decode b_W_tableOfFunction 99 = .ok (.areturn, 1) := by decide +kernel
theorem d_W_tableOfFunction_100 : decode b_W_tableOfFunction 100 = .ok (.aconst_null, 1) := by decide +kernel
theorem d_W_tableOfFunction_101 : decode b_W_tableOfFunction 101 = .ok (.areturn, 1) := by decide +kernel
theorem d_W_tally_0 : decode b_W_tally 0 = .ok (.iload_n 1, 1) := by decide +kernel
theorem d_W_tally_1 : decode b_W_tally 1 = .ok (.ifCond .lt 22, 3) := by decide +kernel
theorem d_W_tally_4 : decode b_W_tally 4 = .ok (.iload_n 1, 1) := by decide +kernel
theorem d_W_tally_5 : decode b_W_tally 5 = .ok (.aload_n 0, 1) := by decide +kernel
theorem d_W_tally_6 : decode b_W_tally 6 = .ok (.getfield 53, 3) := by decide +kernel
theorem d_W_tally_9 : decode b_W_tally 9 = .ok (.arraylength, 1) := by decide +kernel
theorem d_W_tally_10 : decode b_W_tally 10 = .ok (.if_icmp .ge 13, 3) := by decide +kernel
theorem d_W_tally_13 : decode b_W_tally 13 = .ok (.aload_n 0, 1) := by decide +kernel
theorem d_W_tally_14 : decode b_W_tally 14 = .ok (.getfield 53, 3) := by decide +kernel
theorem d_W_tally_17 : decode b_W_tally 17 = .ok (.iload_n 1, 1) := by decide +kernel
theorem d_W_tally_18 : decode b_W_tally 18 = .ok (.dup2, 1) := by decide +kernel
theorem d_W_tally_19 : decode b_W_tally 19 = .ok (.iaload, 1) := by decide +kernel
theorem d_W_tally_20 : decode b_W_tally 20 = .ok (.iconst 1, 1) := by decide +kernel
theorem d_W_tally_21 : decode b_W_tally 21 = .ok (.iadd, 1) := by decide +kernel
theorem d_W_tally_22 : decode b_W_tally 22 = .ok (.iastore, 1) := by decide +kernel
theorem d_W_tally_23 : decode b_W_tally 23 = .ok (.return_, 1) := by decide +kernel
theorem d_W_takeByte_0 : decode b_W_takeByte 0 = .ok (.aload_n 0, 1) := by decide +kernel
theorem d_W_takeByte_1 : decode b_W_takeByte 1 = .ok (.getfield 46, 3) := by decide +kernel
theorem d_W_takeByte_4 : decode b_W_takeByte 4 = .ok (.invokevirtual 68, 3) := by decide +kernel
theorem d_W_takeByte_7 : decode b_W_takeByte 7 = .ok (.ifCond .le 17, 3) := by decide +kernel
theorem d_W_takeByte_10 : decode b_W_takeByte 10 = .ok (.aload_n 0, 1) := by decide +kernel
theorem d_W_takeByte_11 : decode b_W_takeByte 11 = .ok (.getfield 57, 3) := by decide +kernel
theorem d_W_takeByte_14 : decode b_W_takeByte 14 = .ok (.bipush 7, 2) := by decide +kernel
theorem d_W_takeByte_16 : decode b_W_takeByte 16 = .ok (.if_icmp .lt 8, 3) := by decide +kernel
theorem d_W_takeByte_19 : decode b_W_takeByte 19 = .ok (.aload_n 0, 1) := by decide +kernel
theorem d_W_takeByte_20 : decode b_W_takeByte 20 = .ok (.iconst 1, 1) := by decide +kernel
theorem d_W_takeByte_21 : decode b_W_takeByte 21 = .ok (.putfield 60, 3) := by decide +kernel
theorem d_W_takeByte_24 : decode b_W_takeByte 24 = .ok (.aload_n 0, 1) := by decide +kernel
theorem d_W_takeByte_25 : decode b_W_takeByte 25 = .ok (.iconst 0, 1) := by decide +kernel
theorem d_W_takeByte_26 : decode b_W_takeByte 26 = .ok (.putfield 57, 3) := by decide +kernel
theorem d_W_takeByte_29 : decode b_W_takeByte 29 = .ok (.aload_n 0, 1) := by decide +kernel
theorem d_W_takeByte_30 : decode b_W_takeByte 30 = .ok (.getfield 46, 3) := by decide +kernel
theorem d_W_takeByte_33 : decode b_W_takeByte 33 = .ok (.iload_n 1, 1) := by decide +kernel
theorem d_W_takeByte_34 : decode b_W_takeByte 34 = .ok (.invokevirtual 95, 3) := by decide +kernel
theorem d_W_takeByte_37 : decode b_W_takeByte 37 = .ok (.return_, 1) := by decide +kernel
theorem d_W_endFrame_0 : decode b_W_endFrame 0 = .ok (.aload_n 0, 1) := by decide +kernel
theorem d_W_endFrame_1 : decode b_W_endFrame 1 = .ok (.getfield 50, 3) := by decide +kernel
theorem d_W_endFrame_4 : decode b_W_endFrame 4 = .ok (.invokevirtual 98, 3) := by decide +kernel
theorem d_W_endFrame_7 : decode b_W_endFrame 7 = .ok (.aload_n 0, 1) := by decide +kernel
theorem d_W_endFrame_8 : decode b_W_endFrame 8 = .ok (.iconst 0, 1) := by decide +kernel
theorem d_W_endFrame_9 : decode b_W_endFrame 9 = .ok (.invokevirtual 101, 3) := by decide +kernel
theorem d_W_endFrame_12 : decode b_W_endFrame 12 = .ok (.aload_n 0, 1) := by decide +kernel
theorem d_W_endFrame_13 : decode b_W_endFrame 13 = .ok (.invokevirtual 104, 3) := by decide +kernel
theorem d_W_endFrame_16 : decode b_W_endFrame 16 = .ok (.ifCond .eq 11, 3) := by decide +kernel
theorem d_W_endFrame_19 : decode b_W_endFrame 19 = .ok (.aload_n 0, 1) := by decide +kernel
theorem d_W_endFrame_20 : decode b_W_endFrame 20 = .ok (.iconst 1, 1) := by decide +kernel
theorem d_W_endFrame_21 : decode b_W_endFrame 21 = .ok (.invokevirtual 101, 3) := by decide +kernel
theorem d_W_endFrame_24 : decode b_W_endFrame 24 = .ok (.goto 22, 3) := by decide +kernel
theorem d_W_endFrame_27 : decode b_W_endFrame 27 = .ok (.aload_n 0, 1) := by decide +kernel
theorem d_W_endFrame_28 : decode b_W_endFrame 28 = .ok (.invokevirtual 108, 3) := by decide +kernel
theorem d_W_endFrame_31 : decode b_W_endFrame 31 = .ok (.ifCond .eq 11, 3) := by decide +kernel
theorem d_W_endFrame_34 : decode b_W_endFrame 34 = .ok (.aload_n 0, 1) := by decide +kernel
theorem d_W_endFrame_35 : decode b_W_endFrame 35 = .ok (.iconst 2, 1) := by decide +kernel
theorem d_W_endFrame_36 : decode b_W_endFrame 36 = .ok (.invokevirtual 101, 3) := by decide +kernel
theorem d_W_endFrame_39 : decode b_W_endFrame 39 = .ok (.goto 7, 3) := by decide +kernel
theorem d_W_endFrame_42 : decode b_W_endFrame 42 = .ok (.aload_n 0, 1) := by decide +kernel
theorem d_W_endFrame_43 : decode b_W_endFrame 43 = .ok (.invokevirtual 111, 3) := by decide +kernel
theorem d_W_endFrame_46 : decode b_W_endFrame 46 = .ok (.aload_n 0, 1) := by decide +kernel
theorem d_W_endFrame_47 : decode b_W_endFrame 47 = .ok (.getfield 46, 3) := by decide +kernel
theorem d_W_endFrame_50 : decode b_W_endFrame 50 = .ok (.invokevirtual 98, 3) := by decide +kernel
theorem d_W_endFrame_53 : decode b_W_endFrame 53 = .ok (.aload_n 0, 1) := by decide +kernel
theorem d_W_endFrame_54 : decode b_W_endFrame 54 = .ok (.iconst 0, 1) := by decide +kernel
theorem d_W_endFrame_55 : decode b_W_endFrame 55 = .ok (.putfield 60, 3) := by decide +kernel
theorem d_W_endFrame_58 : decode b_W_endFrame 58 = .ok (.return_, 1) := by decide +kernel
theorem d_W_isThrownAway_0 : decode b_W_isThrownAway 0 = .ok (.aload_n 0, 1) := by decide +kernel
theorem d_W_isThrownAway_1 : decode b_W_isThrownAway 1 = .ok (.getfield 60, 3) := by decide +kernel
theorem d_W_isThrownAway_4 : decode b_W_isThrownAway 4 = .ok (.ifCond .ne 30, 3) := by decide +kernel
theorem d_W_isThrownAway_7 : decode b_W_isThrownAway 7 = .ok (.aload_n 0, 1) := by decide +kernel
theorem d_W_isThrownAway_8 : decode b_W_isThrownAway 8 = .ok (.getfield 46, 3) := by decide +kernel
theorem d_W_isThrownAway_11 : decode b_W_isThrownAway 11 = .ok (.invokevirtual 68, 3) := by decide +kernel
theorem d_W_isThrownAway_14 : decode b_W_isThrownAway 14 = .ok (.iconst 4, 1) := by decide +kernel
theorem d_W_isThrownAway_15 : decode b_W_isThrownAway 15 = .ok (.sipush 256, 3) := by decide +kernel
theorem d_W_isThrownAway_18 : decode b_W_isThrownAway 18 = .ok (.invokestatic 114, 3) := by decide +kernel
theorem d_W_isThrownAway_21 : decode b_W_isThrownAway 21 = .ok (.ifCond .eq 13, 3) := by decide +kernel
theorem d_W_isThrownAway_24 : decode b_W_isThrownAway 24 = .ok (.aload_n 0, 1) := by decide +kernel
theorem d_W_isThrownAway_25 : decode b_W_isThrownAway 25 = .ok (.getfield 46, 3) := by decide +kernel
theorem d_W_isThrownAway_28 : decode b_W_isThrownAway 28 = .ok (.invokevirtual 118, 3) := by decide +kernel
theorem d_W_isThrownAway_31 : decode b_W_isThrownAway 31 = .ok (.ifCond .ne 7, 3) := by decide +kernel
theorem d_W_isThrownAway_34 : decode b_W_isThrownAway 34 = .ok (.iconst 1, 1) := by decide +kernel
theorem d_W_isThrownAway_35 : decode b_W_isThrownAway 35 = .ok (.goto 4, 3) := by decide +kernel
theorem d_W_isThrownAway_38 : decode b_W_isThrownAway 38 = .ok (.iconst 0, 1) := by decide +kernel
theorem d_W_isThrownAway_39 : decode b_W_isThrownAway 39 = .ok (.ireturn, 1) := by decide +kernel
theorem d_W_isForOthers_0 : decode b_W_isForOthers 0 = .ok (.aload_n 0, 1) := by decide +kernel
theorem d_W_isForOthers_1 : decode b_W_isForOthers 1 = .ok (.getfield 46, 3) := by decide +kernel
theorem d_W_isForOthers_4 : decode b_W_isForOthers 4 = .ok (.iconst 0, 1) := by decide +kernel
theorem d_W_isForOthers_5 : decode b_W_isForOthers 5 = .ok (.invokevirtual 79, 3) := by decide +kernel
theorem d_W_isForOthers_8 : decode b_W_isForOthers 8 = .ok (.istore_n 1, 1) := by decide +kernel
theorem d_W_isForOthers_9 : decode b_W_isForOthers 9 = .ok (.iload_n 1, 1) := by decide +kernel
theorem d_W_isForOthers_10 : decode b_W_isForOthers 10 = .ok (.ifCond .eq 15, 3) := by decide +kernel
theorem d_W_isForOthers_13 : decode b_W_isForOthers 13 = .ok (.iload_n 1, 1) := by decide +kernel
theorem d_W_isForOthers_14 : decode b_W_isForOthers 14 = .ok (.aload_n 0, 1) := by decide +kernel
theorem d_W_isForOthers_15 : decode b_W_isForOthers 15 = .ok (.getfield 18, 3) := by decide +kernel
theorem d_W_isForOthers_18 : decode b_W_isForOthers 18 = .ok (.if_icmp .eq 7, 3) := by decide +kernel
theorem d_W_isForOthers_21 : decode b_W_isForOthers 21 = .ok (.iconst 1, 1) := by decide +kernel
theorem d_W_isForOthers_22 : decode b_W_isForOthers 22 = .ok (.goto 4, 3) := by decide +kernel
theorem d_W_isForOthers_25 : decode b_W_isForOthers 25 = .ok (.iconst 0, 1) := by decide +kernel
theorem d_W_isForOthers_26 : decode b_W_isForOthers 26 = .ok (.ireturn, 1) := by decide +kernel
theorem d_W_dataSize_0 : decode b_W_dataSize 0 = .ok (.aload_n 0, 1) := by decide +kernel
theorem d_W_dataSize_1 : decode b_W_dataSize 1 = .ok (.getfield 46, 3) := by decide +kernel
theorem d_W_dataSize_4 : decode b_W_dataSize 4 = .ok (.invokevirtual 68, 3) := by decide +kernel
theorem d_W_dataSize_7 : decode b_W_dataSize 7 = .ok (.iconst 4, 1) := by decide +kernel
theorem d_W_dataSize_8 : decode b_W_dataSize 8 = .ok (.isub, 1) := by decide +kernel
theorem d_W_dataSize_9 : decode b_W_dataSize 9 = .ok (.ireturn, 1) := by decide +kernel
theorem d_W_data_0 : decode b_W_data 0 = .ok (.aload_n 0, 1) := by decide +kernel
theorem d_W_data_1 : decode b_W_data 1 = .ok (.getfield 46, 3) := by decide +kernel
theorem d_W_data_4 : decode b_W_data 4 = .ok (.iconst 2, 1) := by decide +kernel
theorem d_W_data_5 : decode b_W_data 5 = .ok (.iload_n 1, 1) := by decide +kernel
theorem d_W_data_6 : decode b_W_data 6 = .ok (.iadd, 1) := by decide +kernel
theorem d_W_data_7 : decode b_W_data 7 = .ok (.invokevirtual 79, 3) := by decide +kernel
theorem d_W_data_10 : decode b_W_data 10 = .ok (.ireturn, 1) := by decide +kernel
theorem d_W_dataNumber_0 : decode b_W_dataNumber 0 = .ok (.aload_n 0, 1) := by decide +kernel
theorem d_W_dataNumber_1 : decode b_W_dataNumber 1 = .ok (.iload_n 1, 1) := by decide +kernel
theorem d_W_dataNumber_2 : decode b_W_dataNumber 2 = .ok (.invokevirtual 121, 3) := by decide +kernel
theorem d_W_dataNumber_5 : decode b_W_dataNumber 5 = .ok (.sipush 256, 3) := by decide +kernel
theorem d_W_dataNumber_8 : decode b_W_dataNumber 8 = .ok (.imul, 1) := by decide +kernel
theorem d_W_dataNumber_9 : decode b_W_dataNumber 9 = .ok (.aload_n 0, 1) := by decide +kernel
theorem d_W_dataNumber_10 : decode b_W_dataNumber 10 = .ok (.iload_n 1, 1) := by decide +kernel
theorem d_W_dataNumber_11 : decode b_W_dataNumber 11 = .ok (.iconst 1, 1) := by decide +kernel
theorem d_W_dataNumber_12 : decode b_W_dataNumber 12 = .ok (.iadd, 1) := by decide +kernel
theorem d_W_dataNumber_13 : decode b_W_dataNumber 13 = .ok (.invokevirtual 121, 3) := by decide +kernel
theorem d_W_dataNumber_16 : decode b_W_dataNumber 16 = .ok (.iadd, 1) := by decide +kernel
theorem d_W_dataNumber_17 : decode b_W_dataNumber 17 = .ok (.ireturn, 1) := by decide +kernel
theorem d_W_answerRequest_0 : decode b_W_answerRequest 0 = .ok (.aload_n 0, 1) := by decide +kernel
theorem d_W_answerRequest_1 : decode b_W_answerRequest 1 = .ok (.getfield 46, 3) := by decide +kernel
theorem d_W_answerRequest_4 : decode b_W_answerRequest 4 = .ok (.iconst 1, 1) := by decide +kernel
theorem d_W_answerRequest_5 : decode b_W_answerRequest 5 = .ok (.invokevirtual 79, 3) := by decide +kernel
theorem d_W_answerRequest_8 : decode b_W_answerRequest 8 = .ok (.istore_n 1, 1) := by decide +kernel
theorem d_W_answerRequest_9 : decode b_W_answerRequest 9 = .ok (.aload_n 0, 1) := by decide +kernel
theorem d_W_answerRequest_10 : decode b_W_answerRequest 10 = .ok (.iconst 0, 1) := by decide +kernel
theorem d_W_answerRequest_11 : decode b_W_answerRequest 11 = .ok (.invokevirtual 124, 3) := by decide +kernel
theorem d_W_answerRequest_14 : decode b_W_answerRequest 14 = .ok (.istore_n 2, 1) := by decide +kernel
theorem d_W_answerRequest_15 : decode b_W_answerRequest 15 = .ok (.aload_n 0, 1) := by decide +kernel
theorem d_W_answerRequest_16 : decode b_W_answerRequest 16 = .ok (.iconst 2, 1) := by decide +kernel
theorem d_W_answerRequest_17 : decode b_W_answerRequest 17 = .ok (.invokevirtual 124, 3) := by decide +kernel
theorem d_W_answerRequest_20 : decode b_W_answerRequest 20 = .ok (.istore_n 3, 1) := by decide +kernel
theorem d_W_answerRequest_21 : decode b_W_answerRequest 21 = .ok (.aload_n 0, 1) := by decide +kernel
theorem d_W_answerRequest_22 : decode b_W_answerRequest 22 = .ok (.iload_n 1, 1) := by decide +kernel
theorem d_W_answerRequest_23 : decode b_W_answerRequest 23 = .ok (.iload_n 2, 1) := by decide +kernel
theorem d_W_answerRequest_24 : decode b_W_answerRequest 24 = .ok (.iload_n 3, 1) := by decide +kernel
theorem d_W_answerRequest_25 : decode b_W_answerRequest 25 = .ok (.invokevirtual 127, 3) := by decide +kernel
theorem d_W_answerRequest_28 : decode b_W_answerRequest 28 = .ok (.istore 4, 2) := by decide +kernel
theorem d_W_answerRequest_30 : decode b_W_answerRequest 30 = .ok (.aload_n 0, 1) := by decide +kernel
theorem d_W_answerRequest_31 : decode b_W_answerRequest 31 = .ok (.iload 4, 2) := by decide +kernel
theorem d_W_answerRequest_33 : decode b_W_answerRequest 33 = .ok (.ifCond .ne 7, 3) := by decide +kernel
theorem d_W_answerRequest_36 : decode b_W_answerRequest 36 = .ok (.iconst 4, 1) := by decide +kernel
theorem d_W_answerRequest_37 : decode b_W_answerRequest 37 = .ok (.goto 4, 3) := by decide +kernel
theorem d_W_answerRequest_40 : decode b_W_answerRequest 40 = .ok (.iconst 3, 1) := by decide +kernel
theorem d_W_answerRequest_41 : decode b_W_answerRequest 41 = .ok (.invokevirtual 101, 3) := by decide +kernel
theorem d_W_answerRequest_44 : decode b_W_answerRequest 44 = .ok (.iload 4, 2) := by decide +kernel
theorem d_W_answerRequest_46 : decode b_W_answerRequest 46 = .ok (.ifCond .ne 10, 3) := by decide +kernel
theorem d_W_answerRequest_49 : decode b_W_answerRequest 49 = .ok (.aload_n 0, 1) := by decide +kernel
theorem d_W_answerRequest_50 : decode b_W_answerRequest 50 = .ok (.iload_n 1, 1) := by decide +kernel
theorem d_W_answerRequest_51 : decode b_W_answerRequest 51 = .ok (.iload_n 2, 1) := by decide +kernel
theorem d_W_answerRequest_52 : decode b_W_answerRequest 52 = .ok (.iload_n 3, 1) := by decide +kernel
theorem d_W_answerRequest_53 : decode b_W_answerRequest 53 = .ok (.invokevirtual 131, 3) := by decide +kernel
theorem d_W_answerRequest_56 : decode b_W_answerRequest 56 = .ok (.aload_n 0, 1) := by decide +kernel
theorem d_W_answerRequest_57 : decode b_W_answerRequest 57 = .ok (.getfield 46, 3) := by decide +kernel
theorem d_W_answerRequest_60 : decode b_W_answerRequest 60 = .ok (.iconst 0, 1) := by decide +kernel
theorem d_W_answerRequest_61 : decode b_W_answerRequest 61 = .ok (.invokevirtual 79, 3) := by decide +kernel
theorem d_W_answerRequest_64 : decode b_W_answerRequest 64 = .ok (.ifCond .ne 4, 3) := by decide +kernel
theorem d_W_answerRequest_67 : decode b_W_answerRequest 67 = .ok (.return_, 1) := by decide +kernel
theorem d_W_answerRequest_68 : decode b_W_answerRequest 68 = .ok (.aload_n 0, 1) := by decide +kernel
theorem d_W_answerRequest_69 : decode b_W_answerRequest 69 = .ok (.getfield 50, 3) := by decide +kernel
theorem d_W_answerRequest_72 : decode b_W_answerRequest 72 = .ok (.aload_n 0, 1) := by decide +kernel
theorem d_W_answerRequest_73 : decode b_W_answerRequest 73 = .ok (.getfield 18, 3) := by decide +kernel
theorem d_W_answerRequest_76 : decode b_W_answerRequest 76 = .ok (.invokevirtual 95, 3) := by decide +kernel
theorem d_W_answerRequest_79 : decode b_W_answerRequest 79 = .ok (.iload 4, 2) := by decide +kernel
theorem d_W_answerRequest_81 : decode b_W_answerRequest 81 = .ok (.ifCond .ne 21, 3) := by decide +kernel
theorem d_W_answerRequest_84 : decode b_W_answerRequest 84 = .ok (.aload_n 0, 1) := by decide +kernel
theorem d_W_answerRequest_85 : decode b_W_answerRequest 85 = .ok (.getfield 50, 3) := by decide +kernel
theorem d_W_answerRequest_88 : decode b_W_answerRequest 88 = .ok (.iload_n 1, 1) := by decide +kernel
theorem d_W_answerRequest_89 : decode b_W_answerRequest 89 = .ok (.invokevirtual 95, 3) := by decide +kernel
theorem d_W_answerRequest_92 : decode b_W_answerRequest 92 = .ok (.aload_n 0, 1) := by decide +kernel
theorem d_W_answerRequest_93 : decode b_W_answerRequest 93 = .ok (.iload_n 1, 1) := by decide +kernel
theorem d_W_answerRequest_94 : decode b_W_answerRequest 94 = .ok (.iload_n 2, 1) := by decide +kernel
theorem d_W_answerRequest_95 : decode b_W_answerRequest 95 = .ok (.iload_n 3, 1) := by decide +kernel
theorem d_W_answerRequest_96 : decode b_W_answerRequest 96 = .ok (.invokevirtual 135, 3) := by decide +kernel
theorem d_W_answerRequest_99 : decode b_W_answerRequest 99 = .ok (.goto 24, 3) := by decide +kernel
theorem d_W_answerRequest_102 : decode b_W_answerRequest 102 = .ok (.aload_n 0, 1) := by decide +kernel
theorem d_W_answerRequest_103 : decode b_W_answerRequest 103 = .ok (.getfield 50, 3) := by decide +kernel
theorem d_W_answerRequest_106 : decode b_W_answerRequest 106 = .ok (.iload_n 1, 1) := by decide +kernel
theorem d_W_answerRequest_107 : decode b_W_answerRequest 107 = .ok (.sipush 128, 3) := by decide +kernel
theorem d_W_answerRequest_110 : decode b_W_answerRequest 110 = .ok (.ior, 1) := by decide +kernel
theorem d_W_answerRequest_111 : decode b_W_answerRequest 111 = .ok (.invokevirtual 95, 3) := by decide +kernel
theorem d_W_answerRequest_114 : decode b_W_answerRequest 114 = .ok (.aload_n 0, 1) := by decide +kernel
theorem d_W_answerRequest_115 : decode b_W_answerRequest 115 = .ok (.getfield 50, 3) := by decide +kernel
theorem d_W_answerRequest_118 : decode b_W_answerRequest 118 = .ok (.iload 4, 2) := by decide +kernel
theorem d_W_answerRequest_120 : decode b_W_answerRequest 120 = .ok (.invokevirtual 95, 3) := by decide +kernel
theorem d_W_answerRequest_123 : decode b_W_answerRequest 123 = .ok (.aload_n 0, 1) := by decide +kernel
theorem d_W_answerRequest_124 : decode b_W_answerRequest 124 = .ok (.getfield 50, 3) := by decide +kernel
theorem d_W_answerRequest_127 : decode b_W_answerRequest 127 = .ok (.invokevirtual 138, 3) := by decide +kernel
theorem d_W_answerRequest_130 : decode b_W_answerRequest 130 = .ok (.aload_n 0, 1) := by decide +kernel
theorem d_W_answerRequest_131 : decode b_W_answerRequest 131 = .ok (.iconst 5, 1) := by decide +kernel
theorem d_W_answerRequest_132 : decode b_W_answerRequest 132 = .ok (.invokevirtual 101, 3) := by decide +kernel
theorem d_W_answerRequest_135 : decode b_W_answerRequest 135 = .ok (.return_, 1) := by decide +kernel
theorem d_W_refusalOf_0 : decode b_W_refusalOf 0 = .ok (.aload_n 0, 1) := by decide +kernel
theorem d_W_refusalOf_1 : decode b_W_refusalOf 1 = .ok (.iload_n 1, 1) := by decide +kernel
theorem d_W_refusalOf_2 : decode b_W_refusalOf 2 = .ok (.invokevirtual 141, 3) := by decide +kernel
theorem d_W_refusalOf_5 : decode b_W_refusalOf 5 = .ok (.astore 4, 2) := by decide +kernel
theorem d_W_refusalOf_7 : decode b_W_refusalOf 7 = .ok (.aload 4, 2) := by decide +kernel
theorem d_W_refusalOf_9 : decode b_W_refusalOf 9 = .ok (.ifnonnull 5, 3) := by decide +kernel
theorem d_W_refusalOf_12 : decode b_W_refusalOf 12 = .ok (.iconst 1, 1) := by decide +kernel
theorem d_W_refusalOf_13 : decode b_W_refusalOf 13 = .ok (.ireturn, 1) := by decide +kernel
theorem d_W_refusalOf_14 : decode b_W_refusalOf 14 = .ok (.aload_n 0, 1) := by decide +kernel
theorem d_W_refusalOf_15 : decode b_W_refusalOf 15 = .ok (.iload_n 1, 1) := by decide +kernel
theorem d_W_refusalOf_16 : decode b_W_refusalOf 16 = .ok (.invokevirtual 144, 3) := by decide +kernel
theorem d_W_refusalOf_19 : decode b_W_refusalOf 19 = .ok (.ifCond .eq 12, 3) := by decide +kernel
theorem d_W_refusalOf_22 : decode b_W_refusalOf 22 = .ok (.aload_n 0, 1) := by decide +kernel
theorem d_W_refusalOf_23 : decode b_W_refusalOf 23 = .ok (.iload_n 1, 1) := by decide +kernel
theorem d_W_refusalOf_24 : decode b_W_refusalOf 24 = .ok (.iload_n 3, 1) := by decide +kernel
theorem d_W_refusalOf_25 : decode b_W_refusalOf 25 = .ok (.invokevirtual 148, 3) := by decide +kernel
theorem d_W_refusalOf_28 : decode b_W_refusalOf 28 = .ok (.ifCond .ne 5, 3) := by decide +kernel
theorem d_W_refusalOf_31 : decode b_W_refusalOf 31 = .ok (.iconst 3, 1) := by decide +kernel
theorem d_W_refusalOf_32 : decode b_W_refusalOf 32 = .ok (.ireturn, 1) := by decide +kernel
theorem d_W_refusalOf_33 : decode b_W_refusalOf 33 = .ok (.iload_n 1, 1) := by decide +kernel
theorem d_W_refusalOf_34 : decode b_W_refusalOf 34 = .ok (.iconst 5, 1) := by decide +kernel
theorem d_W_refusalOf_35 : decode b_W_refusalOf 35 = .ok (.if_icmp .eq 9, 3) := by decide +kernel
theorem d_W_refusalOf_38 : decode b_W_refusalOf 38 = .ok (.iload_n 1, 1) := by decide +kernel
theorem d_W_refusalOf_39 : decode b_W_refusalOf 39 = .ok (.bipush 6, 2) := by decide +kernel
theorem d_W_refusalOf_41 : decode b_W_refusalOf 41 = .ok (.if_icmp .ne 7, 3) := by decide +kernel
theorem d_W_refusalOf_44 : decode b_W_refusalOf 44 = .ok (.iconst 1, 1) := by decide +kernel
theorem d_W_refusalOf_45 : decode b_W_refusalOf 45 = .ok (.goto 4, 3) := by decide +kernel
theorem d_W_refusalOf_48 : decode b_W_refusalOf 48 = .ok (.iconst 0, 1) := by decide +kernel
theorem d_W_refusalOf_49 : decode b_W_refusalOf 49 = .ok (.istore 5, 2) := by decide +kernel
theorem d_W_refusalOf_51 : decode b_W_refusalOf 51 = .ok (.iload 5, 2) := by decide +kernel
theorem d_W_refusalOf_53 : decode b_W_refusalOf 53 = .ok (.ifCond .eq 7, 3) := by decide +kernel
theorem d_W_refusalOf_56 : decode b_W_refusalOf 56 = .ok (.iload_n 2, 1) := by decide +kernel
theorem d_W_refusalOf_57 : decode b_W_refusalOf 57 = .ok (.goto 8, 3) := by decide +kernel
theorem d_W_refusalOf_60 : decode b_W_refusalOf 60 = .ok (.iload_n 2, 1) := by decide +kernel
theorem d_W_refusalOf_61 : decode b_W_refusalOf 61 = .ok (.iload_n 3, 1) := by decide +kernel
theorem d_W_refusalOf_62 : decode b_W_refusalOf 62 = .ok (.iadd, 1) := by decide +kernel
theorem d_W_refusalOf_63 : decode b_W_refusalOf 63 = .ok (.iconst 1, 1) := by decide +kernel
theorem d_W_refusalOf_64 : decode b_W_refusalOf 64 = .ok (.isub, 1) := by decide +kernel
theorem d_W_refusalOf_65 : decode b_W_refusalOf 65 = .ok (.istore 6, 2) := by decide +kernel
theorem d_W_refusalOf_67 : decode b_W_refusalOf 67 = .ok (.aload 4, 2) := by decide +kernel
theorem d_W_refusalOf_69 : decode b_W_refusalOf 69 = .ok (.iload_n 2, 1) := by decide +kernel
theorem d_W_refusalOf_70 : decode b_W_refusalOf 70 = .ok (.invokevirtual 152, 3) := by decide +kernel
theorem d_W_refusalOf_73 : decode b_W_refusalOf 73 = .ok (.ifCond .eq 17, 3) := by decide +kernel
theorem d_W_refusalOf_76 : decode b_W_refusalOf 76 = .ok (.aload 4, 2) := by decide +kernel
theorem d_W_refusalOf_78 : decode b_W_refusalOf 78 = .ok (.iload 6, 2) := by decide +kernel
theorem d_W_refusalOf_80 : decode b_W_refusalOf 80 = .ok (.invokevirtual 152, 3) := by decide +kernel
theorem d_W_refusalOf_83 : decode b_W_refusalOf 83 = .ok (.ifCond .eq 7, 3) := by decide +kernel
theorem d_W_refusalOf_86 : decode b_W_refusalOf 86 = .ok (.iconst 0, 1) := by decide +kernel
theorem d_W_refusalOf_87 : decode b_W_refusalOf 87 = .ok (.goto 4, 3) := by decide +kernel
theorem d_W_refusalOf_90 : decode b_W_refusalOf 90 = .ok (.iconst 2, 1) := by decide +kernel
theorem d_W_refusalOf_91 : decode b_W_refusalOf 91 = .ok (.ireturn, 1) := by decide +kernel
theorem d_W_isDueSize_0 : decode b_W_isDueSize 0 = .ok (.iload_n 1, 1) := by decide +kernel
theorem d_W_isDueSize_1 : decode b_W_isDueSize 1 = .ok (.bipush 15, 2) := by decide +kernel
theorem d_W_isDueSize_3 : decode b_W_isDueSize 3 = .ok (.if_icmp .eq 9, 3) := by decide +kernel
theorem d_W_isDueSize_6 : decode b_W_isDueSize 6 = .ok (.iload_n 1, 1) := by decide +kernel
theorem d_W_isDueSize_7 : decode b_W_isDueSize 7 = .ok (.bipush 16, 2) := by decide +kernel
theorem d_W_isDueSize_9 : decode b_W_isDueSize 9 = .ok (.if_icmp .ne 32, 3) := by decide +kernel
theorem d_W_isDueSize_12 : decode b_W_isDueSize 12 = .ok (.aload_n 0, 1) := by decide +kernel
theorem d_W_isDueSize_13 : decode b_W_isDueSize 13 = .ok (.invokevirtual 155, 3) := by decide +kernel
theorem d_W_isDueSize_16 : decode b_W_isDueSize 16 = .ok (.bipush 6, 2) := by decide +kernel
theorem d_W_isDueSize_18 : decode b_W_isDueSize 18 = .ok (.if_icmp .lt 21, 3) := by decide +kernel
theorem d_W_isDueSize_21 : decode b_W_isDueSize 21 = .ok (.aload_n 0, 1) := by decide +kernel
theorem d_W_isDueSize_22 : decode b_W_isDueSize 22 = .ok (.invokevirtual 155, 3) := by decide +kernel
theorem d_W_isDueSize_25 : decode b_W_isDueSize 25 = .ok (.iconst 5, 1) := by decide +kernel
theorem d_W_isDueSize_26 : decode b_W_isDueSize 26 = .ok (.aload_n 0, 1) := by decide +kernel
theorem d_W_isDueSize_27 : decode b_W_isDueSize 27 = .ok (.iconst 4, 1) := by decide +kernel
theorem d_W_isDueSize_28 : decode b_W_isDueSize 28 = .ok (.invokevirtual 121, 3) := by decide +kernel
theorem d_W_isDueSize_31 : decode b_W_isDueSize 31 = .ok (.iadd, 1) := by decide +kernel
theorem d_W_isDueSize_32 : decode b_W_isDueSize 32 = .ok (.if_icmp .ne 7, 3) := by decide +kernel
theorem d_W_isDueSize_35 : decode b_W_isDueSize 35 = .ok (.iconst 1, 1) := by decide +kernel
theorem d_W_isDueSize_36 : decode b_W_isDueSize 36 = .ok (.goto 4, 3) := by decide +kernel
theorem d_W_isDueSize_39 : decode b_W_isDueSize 39 = .ok (.iconst 0, 1) := by decide +kernel
theorem d_W_isDueSize_40 : decode b_W_isDueSize 40 = .ok (.ireturn, 1) := by decide +kernel
theorem d_W_isDueSize_41 : decode b_W_isDueSize 41 = .ok (.aload_n 0, 1) := by decide +kernel
theorem d_W_isDueSize_42 : decode b_W_isDueSize 42 = .ok (.invokevirtual 155, 3) := by decide +kernel
theorem d_W_isDueSize_45 : decode b_W_isDueSize 45 = .ok (.iconst 4, 1) := by decide +kernel
theorem d_W_isDueSize_46 : decode b_W_isDueSize 46 = .ok (.if_icmp .ne 7, 3) := by decide +kernel
theorem d_W_isDueSize_49 : decode b_W_isDueSize 49 = .ok (.iconst 1, 1) := by decide +kernel
theorem d_W_isDueSize_50 : decode b_W_isDueSize 50 = .ok (.goto 4, 3) := by decide +kernel
theorem d_W_isDueSize_53 : decode b_W_isDueSize 53 = .ok (.iconst 0, 1) := by decide +kernel
theorem d_W_isDueSize_54 : decode b_W_isDueSize 54 = .ok (.ireturn, 1) := by decide +kernel
theorem d_W_isDueAmount_0 : decode b_W_isDueAmount 0 = .ok (.iload_n 1, 1) := by decide +kernel
theorem d_W_isDueAmount_1 : decode b_W_isDueAmount 1 = .ok (.tableswitch 170 1 16 #[79, 79, 88, 88, 96, 112, 170, 170, 170, 170, 170, 170, 170, 170, 114, 143], 79) := by decide +kernel
theorem d_W_isDueAmount_80 : decode b_W_isDueAmount 80 = .ok (.iload_n 2, 1) := by decide +kernel
theorem d_W_isDueAmount_81 : decode b_W_isDueAmount 81 = .ok (.iconst 1, 1) := by decide +kernel
theorem d_W_isDueAmount_82 : decode b_W_isDueAmount 82 = .ok (.sipush 2000, 3) := by decide +kernel
theorem d_W_isDueAmount_85 : decode b_W_isDueAmount 85 = .ok (.invokestatic 114, 3) := by decide +kernel
theorem d_W_isDueAmount_88 : decode b_W_isDueAmount 88 = .ok (.ireturn, 1) := by decide +kernel
theorem d_W_isDueAmount_89 : decode b_W_isDueAmount 89 = .ok (.iload_n 2, 1) := by decide +kernel
theorem d_W_isDueAmount_90 : decode b_W_isDueAmount 90 = .ok (.iconst 1, 1) := by decide +kernel
theorem d_W_isDueAmount_91 : decode b_W_isDueAmount 91 = .ok (.bipush 125, 2) := by decide +kernel
theorem d_W_isDueAmount_93 : decode b_W_isDueAmount 93 = .ok (.invokestatic 114, 3) := by decide +kernel
theorem d_W_isDueAmount_96 : decode b_W_isDueAmount 96 = .ok (.ireturn, 1) := by decide +kernel
theorem d_W_isDueAmount_97 : decode b_W_isDueAmount 97 = .ok (.iload_n 2, 1) := by decide +kernel
theorem d_W_isDueAmount_98 : decode b_W_isDueAmount 98 = .ok (.ifCond .eq 9, 3) := by decide +kernel
theorem d_W_isDueAmount_101 : decode b_W_isDueAmount 101 = .ok (.iload_n 2, 1) := by decide +kernel
theorem d_W_isDueAmount_102 : decode b_W_isDueAmount 102 = .ok (.ldc 158, 2) := by decide +kernel
theorem d_W_isDueAmount_104 : decode b_W_isDueAmount 104 = .ok (.if_icmp .ne 7, 3) := by decide +kernel
theorem d_W_isDueAmount_107 : decode b_W_isDueAmount 107 = .ok (.iconst 1, 1) := by decide +kernel
theorem d_W_isDueAmount_108 : decode b_W_isDueAmount 108 = .ok (.goto 4, 3) := by decide +kernel
theorem d_W_isDueAmount_111 : decode b_W_isDueAmount 111 = .ok (.iconst 0, 1) := by decide +kernel
theorem d_W_isDueAmount_112 : decode b_W_isDueAmount 112 = .ok (.ireturn, 1) := by decide +kernel
theorem d_W_isDueAmount_113 : decode b_W_isDueAmount 113 = .ok (.iconst 1, 1) := by decide +kernel
theorem d_W_isDueAmount_114 : decode b_W_isDueAmount 114 = .ok (.ireturn, 1) := by decide +kernel
theorem d_W_isDueAmount_115 : decode b_W_isDueAmount 115 = .ok (.iload_n 2, 1) := by decide +kernel
theorem d_W_isDueAmount_116 : decode b_W_isDueAmount 116 = .ok (.iconst 1, 1) := by decide +kernel
theorem d_W_isDueAmount_117 : decode b_W_isDueAmount 117 = .ok (.sipush 1968, 3) := by decide +kernel
theorem d_W_isDueAmount_120 : decode b_W_isDueAmount 120 = .ok (.invokestatic 114, 3) := by decide +kernel
theorem d_W_isDueAmount_123 : decode b_W_isDueAmount 123 = .ok (.ifCond .eq 19, 3) := by decide +kernel
theorem d_W_isDueAmount_126 : decode b_W_isDueAmount 126 = .ok (.aload_n 0, 1) := by decide +kernel
theorem d_W_isDueAmount_127 : decode b_W_isDueAmount 127 = .ok (.iconst 4, 1) := by decide +kernel
theorem d_W_isDueAmount_128 : decode b_W_isDueAmount 128 = .ok (.invokevirtual 121, 3) := by decide +kernel
theorem d_W_isDueAmount_131 : decode b_W_isDueAmount 131 = .ok (.iload_n 2, 1) := by decide +kernel
theorem d_W_isDueAmount_132 : decode b_W_isDueAmount 132 = .ok (.invokestatic 159, 3) := by decide +kernel
theorem d_W_isDueAmount_135 : decode b_W_isDueAmount 135 = .ok (.if_icmp .ne 7, 3) := by decide +kernel
theorem d_W_isDueAmount_138 : decode b_W_isDueAmount 138 = .ok (.iconst 1, 1) := by decide +kernel
theorem d_W_isDueAmount_139 : decode b_W_isDueAmount 139 = .ok (.goto 4, 3) := by decide +kernel
theorem d_W_isDueAmount_142 : decode b_W_isDueAmount 142 = .ok (.iconst 0, 1) := by decide +kernel
theorem d_W_isDueAmount_143 : decode b_W_isDueAmount 143 = .ok (.ireturn, 1) := by decide +kernel
theorem d_W_isDueAmount_144 : decode b_W_isDueAmount 144 = .ok (.iload_n 2, 1) := by decide +kernel
theorem d_W_isDueAmount_145 : decode b_W_isDueAmount 145 = .ok (.iconst 1, 1) := by decide +kernel
theorem d_W_isDueAmount_146 : decode b_W_isDueAmount 146 = .ok (.bipush 123, 2) := by decide +kernel
theorem d_W_isDueAmount_148 : decode b_W_isDueAmount 148 = .ok (.invokestatic 114, 3) := by decide +kernel
theorem d_W_isDueAmount_151 : decode b_W_isDueAmount 151 = .ok (.ifCond .eq 18, 3) := by decide +kernel
theorem d_W_isDueAmount_154 : decode b_W_isDueAmount 154 = .ok (.aload_n 0, 1) := by decide +kernel
theorem d_W_isDueAmount_155 : decode b_W_isDueAmount 155 = .ok (.iconst 4, 1) := by decide +kernel
theorem d_W_isDueAmount_156 : decode b_W_isDueAmount 156 = .ok (.invokevirtual 121, 3) := by decide +kernel
theorem d_W_isDueAmount_159 : decode b_W_isDueAmount 159 = .ok (.iconst 2, 1) := by decide +kernel
theorem d_W_isDueAmount_160 : decode b_W_isDueAmount 160 = .ok (.iload_n 2, 1) := by decide +kernel
theorem d_W_isDueAmount_161 : decode b_W_isDueAmount 161 = .ok (.imul, 1) := by decide +kernel
theorem d_W_isDueAmount_162 : decode b_W_isDueAmount 162 = .ok (.if_icmp .ne 7, 3) := by decide +kernel
theorem d_W_isDueAmount_165 : decode b_W_isDueAmount 165 = .ok (.iconst 1, 1) := by decide +kernel
theorem d_W_isDueAmount_166 : decode b_W_isDueAmount 166 = .ok (.goto 4, 3) := by decide +kernel
theorem d_W_isDueAmount_169 : decode b_W_isDueAmount 169 = .ok (.iconst 0, 1) := by decide +kernel
theorem d_W_isDueAmount_170 : decode b_W_isDueAmount 170 = .ok (.ireturn, 1) := by decide +kernel
theorem d_W_isDueAmount_171 : decode b_W_isDueAmount 171 = .ok (.iconst 0, 1) := by decide +kernel
theorem d_W_isDueAmount_172 : decode b_W_isDueAmount 172 = .ok (.ireturn, 1) := by decide +kernel
theorem d_W_carryOut_0 : decode b_W_carryOut 0 = .ok (.iload_n 1, 1) := by decide +kernel
theorem d_W_carryOut_1 : decode b_W_carryOut 1 = .ok (.lookupswitch 95 #[(5, 43), (6, 64), (15, 77), (16, 86)], 43) := by decide +kernel
theorem d_W_carryOut_44 : decode b_W_carryOut 44 = .ok (.aload_n 0, 1) := by decide +kernel
theorem d_W_carryOut_45 : decode b_W_carryOut 45 = .ok (.getfield 27, 3) := by decide +kernel
theorem d_W_carryOut_48 : decode b_W_carryOut 48 = .ok (.iload_n 2, 1) := by decide +kernel
theorem d_W_carryOut_49 : decode b_W_carryOut 49 = .ok (.iload_n 3, 1) := by decide +kernel
theorem d_W_carryOut_50 : decode b_W_carryOut 50 = .ok (.ifCond .ne 7, 3) := by decide +kernel
theorem d_W_carryOut_53 : decode b_W_carryOut 53 = .ok (.iconst 0, 1) := by decide +kernel
theorem d_W_carryOut_54 : decode b_W_carryOut 54 = .ok (.goto 4, 3) := by decide +kernel
theorem d_W_carryOut_57 : decode b_W_carryOut 57 = .ok (.iconst 1, 1) := by decide +kernel
theorem d_W_carryOut_58 : decode b_W_carryOut 58 = .ok (.invokevirtual 87, 3) := by decide +kernel
theorem d_W_carryOut_61 : decode b_W_carryOut 61 = .ok (.pop, 1) := by decide +kernel
theorem d_W_carryOut_62 : decode b_W_carryOut 62 = .ok (.goto 34, 3) := by decide +kernel
theorem d_W_carryOut_65 : decode b_W_carryOut 65 = .ok (.aload_n 0, 1) := by decide +kernel
theorem d_W_carryOut_66 : decode b_W_carryOut 66 = .ok (.getfield 35, 3) := by decide +kernel
theorem d_W_carryOut_69 : decode b_W_carryOut 69 = .ok (.iload_n 2, 1) := by decide +kernel
theorem d_W_carryOut_70 : decode b_W_carryOut 70 = .ok (.iload_n 3, 1) := by decide +kernel
theorem d_W_carryOut_71 : decode b_W_carryOut 71 = .ok (.invokevirtual 87, 3) := by decide +kernel
theorem d_W_carryOut_74 : decode b_W_carryOut 74 = .ok (.pop, 1) := by decide +kernel
theorem d_W_carryOut_75 : decode b_W_carryOut 75 = .ok (.goto 21, 3) := by decide +kernel
theorem d_W_carryOut_78 : decode b_W_carryOut 78 = .ok (.aload_n 0, 1) := by decide +kernel
theorem d_W_carryOut_79 : decode b_W_carryOut 79 = .ok (.iload_n 2, 1) := by decide +kernel
theorem d_W_carryOut_80 : decode b_W_carryOut 80 = .ok (.iload_n 3, 1) := by decide +kernel
theorem d_W_carryOut_81 : decode b_W_carryOut 81 = .ok (.invokevirtual 162, 3) := by decide +kernel
theorem d_W_carryOut_84 : decode b_W_carryOut 84 = .ok (.goto 12, 3) := by decide +kernel
theorem d_W_carryOut_87 : decode b_W_carryOut 87 = .ok (.aload_n 0, 1) := by decide +kernel
theorem d_W_carryOut_88 : decode b_W_carryOut 88 = .ok (.iload_n 2, 1) := by decide +kernel
theorem d_W_carryOut_89 : decode b_W_carryOut 89 = .ok (.iload_n 3, 1) := by decide +kernel
theorem d_W_carryOut_90 : decode b_W_carryOut 90 = .ok (.invokevirtual 166, 3) := by decide +kernel
theorem d_W_carryOut_93 : decode b_W_carryOut 93 = .ok (.goto 3, 3) := by decide +kernel
theorem d_W_carryOut_96 : decode b_W_carryOut 96 = .ok (.return_, 1) := by decide +kernel
theorem d_W_writeCoils_0 : decode b_W_writeCoils 0 = .ok (.iconst 0, 1) := by decide +kernel
theorem d_W_writeCoils_1 : decode b_W_writeCoils 1 = .ok (.istore_n 3, 1) := by decide +kernel
theorem d_W_writeCoils_2 : decode b_W_writeCoils 2 = .ok (.iload_n 3, 1) := by decide +kernel
theorem d_W_writeCoils_3 : decode b_W_writeCoils 3 = .ok (.iload_n 2, 1) := by decide +kernel
theorem d_W_writeCoils_4 : decode b_W_writeCoils 4 = .ok (.if_icmp .ge 37, 3) := by decide +kernel
theorem d_W_writeCoils_7 : decode b_W_writeCoils 7 = .ok (.aload_n 0, 1) := by decide +kernel
theorem d_W_writeCoils_8 : decode b_W_writeCoils 8 = .ok (.getfield 27, 3) := by decide +kernel
theorem d_W_writeCoils_11 : decode b_W_writeCoils 11 = .ok (.iload_n 1, 1) := by decide +kernel
theorem d_W_writeCoils_12 : decode b_W_writeCoils 12 = .ok (.iload_n 3, 1) := by decide +kernel
theorem d_W_writeCoils_13 : decode b_W_writeCoils 13 = .ok (.iadd, 1) := by decide +kernel
theorem d_W_writeCoils_14 : decode b_W_writeCoils 14 = .ok (.aload_n 0, 1) := by decide +kernel
theorem d_W_writeCoils_15 : decode b_W_writeCoils 15 = .ok (.iconst 5, 1) := by decide +kernel
theorem d_W_writeCoils_16 : decode b_W_writeCoils 16 = .ok (.iload_n 3, 1) := by decide +kernel
theorem d_W_writeCoils_17 : decode b_W_writeCoils 17 = .ok (.bipush 8, 2) := by decide +kernel
theorem d_W_writeCoils_19 : decode b_W_writeCoils 19 = .ok (.idiv, 1) := by decide +kernel
theorem d_W_writeCoils_20 : decode b_W_writeCoils 20 = .ok (.iadd, 1) := by decide +kernel
theorem d_W_writeCoils_21 : decode b_W_writeCoils 21 = .ok (.invokevirtual 121, 3) := by decide +kernel
theorem d_W_writeCoils_24 : decode b_W_writeCoils 24 = .ok (.iload_n 3, 1) := by decide +kernel
theorem d_W_writeCoils_25 : decode b_W_writeCoils 25 = .ok (.bipush 8, 2) := by decide +kernel
theorem d_W_writeCoils_27 : decode b_W_writeCoils 27 = .ok (.irem, 1) := by decide +kernel
theorem d_W_writeCoils_28 : decode b_W_writeCoils 28 = .ok (.iushr, 1) := by decide +kernel
theorem d_W_writeCoils_29 : decode b_W_writeCoils 29 = .ok (.iconst 1, 1) := by decide +kernel
theorem d_W_writeCoils_30 : decode b_W_writeCoils 30 = .ok (.iand, 1) := by decide +kernel
theorem d_W_writeCoils_31 : decode b_W_writeCoils 31 = .ok (.invokevirtual 87, 3) := by decide +kernel
theorem d_W_writeCoils_34 : decode b_W_writeCoils 34 = .ok (.pop, 1) := by decide +kernel
theorem d_W_writeCoils_35 : decode b_W_writeCoils 35 = .ok (.iinc 3 1, 3) := by decide +kernel
theorem d_W_writeCoils_38 : decode b_W_writeCoils 38 = .ok (.goto (-36), 3) := by decide +kernel
theorem d_W_writeCoils_41 : decode b_W_writeCoils 41 = .ok (.return_, 1) := by decide +kernel
theorem d_W_writeRegisters_0 : decode b_W_writeRegisters 0 = .ok (.iconst 0, 1) := by decide +kernel
theorem d_W_writeRegisters_1 : decode b_W_writeRegisters 1 = .ok (.istore_n 3, 1) := by decide +kernel
theorem d_W_writeRegisters_2 : decode b_W_writeRegisters 2 = .ok (.iload_n 3, 1) := by decide +kernel
theorem d_W_writeRegisters_3 : decode b_W_writeRegisters 3 = .ok (.iload_n 2, 1) := by decide +kernel
theorem d_W_writeRegisters_4 : decode b_W_writeRegisters 4 = .ok (.if_icmp .ge 29, 3) := by decide +kernel
theorem d_W_writeRegisters_7 : decode b_W_writeRegisters 7 = .ok (.aload_n 0, 1) := by decide +kernel
theorem d_W_writeRegisters_8 : decode b_W_writeRegisters 8 = .ok (.getfield 35, 3) := by decide +kernel
theorem d_W_writeRegisters_11 : decode b_W_writeRegisters 11 = .ok (.iload_n 1, 1) := by decide +kernel
theorem d_W_writeRegisters_12 : decode b_W_writeRegisters 12 = .ok (.iload_n 3, 1) := by decide +kernel
theorem d_W_writeRegisters_13 : decode b_W_writeRegisters 13 = .ok (.iadd, 1) := by decide +kernel
theorem d_W_writeRegisters_14 : decode b_W_writeRegisters 14 = .ok (.aload_n 0, 1) := by decide +kernel
theorem d_W_writeRegisters_15 : decode b_W_writeRegisters 15 = .ok (.iconst 5, 1) := by decide +kernel
theorem d_W_writeRegisters_16 : decode b_W_writeRegisters 16 = .ok (.iconst 2, 1) := by decide +kernel
theorem d_W_writeRegisters_17 : decode b_W_writeRegisters 17 = .ok (.iload_n 3, 1) := by decide +kernel
theorem d_W_writeRegisters_18 : decode b_W_writeRegisters 18 = .ok (.imul, 1) := by decide +kernel
theorem d_W_writeRegisters_19 : decode b_W_writeRegisters 19 = .ok (.iadd, 1) := by decide +kernel
theorem d_W_writeRegisters_20 : decode b_W_writeRegisters 20 = .ok (.invokevirtual 124, 3) := by decide +kernel
theorem d_W_writeRegisters_23 : decode b_W_writeRegisters 23 = .ok (.invokevirtual 87, 3) := by decide +kernel
theorem d_W_writeRegisters_26 : decode b_W_writeRegisters 26 = .ok (.pop, 1) := by decide +kernel
theorem d_W_writeRegisters_27 : decode b_W_writeRegisters 27 = .ok (.iinc 3 1, 3) := by decide +kernel
theorem d_W_writeRegisters_30 : decode b_W_writeRegisters 30 = .ok (.goto (-28), 3) := by decide +kernel
theorem d_W_writeRegisters_33 : decode b_W_writeRegisters 33 = .ok (.return_, 1) := by decide +kernel
theorem d_W_appendResult_0 : decode b_W_appendResult 0 = .ok (.iload_n 1, 1) := by decide +kernel
theorem d_W_appendResult_1 : decode b_W_appendResult 1 = .ok (.tableswitch 83 1 4 #[31, 44, 57, 70], 31) := by decide +kernel
theorem d_W_appendResult_32 : decode b_W_appendResult 32 = .ok (.aload_n 0, 1) := by decide +kernel
theorem d_W_appendResult_33 : decode b_W_appendResult 33 = .ok (.aload_n 0, 1) := by decide +kernel
theorem d_W_appendResult_34 : decode b_W_appendResult 34 = .ok (.getfield 27, 3) := by decide +kernel
theorem d_W_appendResult_37 : decode b_W_appendResult 37 = .ok (.iload_n 2, 1) := by decide +kernel
theorem d_W_appendResult_38 : decode b_W_appendResult 38 = .ok (.iload_n 3, 1) := by decide +kernel
theorem d_W_appendResult_39 : decode b_W_appendResult 39 = .ok (.invokevirtual 169, 3) := by decide +kernel
theorem d_W_appendResult_42 : decode b_W_appendResult 42 = .ok (.goto 46, 3) := by decide +kernel
theorem d_W_appendResult_45 : decode b_W_appendResult 45 = .ok (.aload_n 0, 1) := by decide +kernel
theorem d_W_appendResult_46 : decode b_W_appendResult 46 = .ok (.aload_n 0, 1) := by decide +kernel
theorem d_W_appendResult_47 : decode b_W_appendResult 47 = .ok (.getfield 31, 3) := by decide +kernel
theorem d_W_appendResult_50 : decode b_W_appendResult 50 = .ok (.iload_n 2, 1) := by decide +kernel
theorem d_W_appendResult_51 : decode b_W_appendResult 51 = .ok (.iload_n 3, 1) := by decide +kernel
theorem d_W_appendResult_52 : decode b_W_appendResult 52 = .ok (.invokevirtual 169, 3) := by decide +kernel
theorem d_W_appendResult_55 : decode b_W_appendResult 55 = .ok (.goto 33, 3) := by decide +kernel
theorem d_W_appendResult_58 : decode b_W_appendResult 58 = .ok (.aload_n 0, 1) := by decide +kernel
theorem d_W_appendResult_59 : decode b_W_appendResult 59 = .ok (.aload_n 0, 1) := by decide +kernel
theorem d_W_appendResult_60 : decode b_W_appendResult 60 = .ok (.getfield 35, 3) := by decide +kernel
theorem d_W_appendResult_63 : decode b_W_appendResult 63 = .ok (.iload_n 2, 1) := by decide +kernel
theorem d_W_appendResult_64 : decode b_W_appendResult 64 = .ok (.iload_n 3, 1) := by decide +kernel
theorem d_W_appendResult_65 : decode b_W_appendResult 65 = .ok (.invokevirtual 173, 3) := by decide +kernel
theorem d_W_appendResult_68 : decode b_W_appendResult 68 = .ok (.goto 20, 3) := by decide +kernel
theorem d_W_appendResult_71 : decode b_W_appendResult 71 = .ok (.aload_n 0, 1) := by decide +kernel
theorem d_W_appendResult_72 : decode b_W_appendResult 72 = .ok (.aload_n 0, 1) := by decide +kernel
theorem d_W_appendResult_73 : decode b_W_appendResult 73 = .ok (.getfield 38, 3) := by decide +kernel
theorem d_W_appendResult_76 : decode b_W_appendResult 76 = .ok (.iload_n 2, 1) := by decide +kernel
theorem d_W_appendResult_77 : decode b_W_appendResult 77 = .ok (.iload_n 3, 1) := by decide +kernel
theorem d_W_appendResult_78 : decode b_W_appendResult 78 = .ok (.invokevirtual 173, 3) := by decide +kernel
theorem d_W_appendResult_81 : decode b_W_appendResult 81 = .ok (.goto 7, 3) := by decide +kernel
theorem d_W_appendResult_84 : decode b_W_appendResult 84 = .ok (.aload_n 0, 1) := by decide +kernel
theorem d_W_appendResult_85 : decode b_W_appendResult 85 = .ok (.invokevirtual 176, 3) := by decide +kernel
theorem d_W_appendResult_88 : decode b_W_appendResult 88 = .ok (.return_, 1) := by decide +kernel
theorem d_W_appendBits_0 : decode b_W_appendBits 0 = .ok (.aload_n 0, 1) := by decide +kernel
theorem d_W_appendBits_1 : decode b_W_appendBits 1 = .ok (.getfield 50, 3) := by decide +kernel
theorem d_W_appendBits_4 : decode b_W_appendBits 4 = .ok (.iload_n 3, 1) := by decide +kernel
theorem d_W_appendBits_5 : decode b_W_appendBits 5 = .ok (.invokestatic 159, 3) := by decide +kernel
theorem d_W_appendBits_8 : decode b_W_appendBits 8 = .ok (.invokevirtual 95, 3) := by decide +kernel
theorem d_W_appendBits_11 : decode b_W_appendBits 11 = .ok (.iconst 0, 1) := by decide +kernel
theorem d_W_appendBits_12 : decode b_W_appendBits 12 = .ok (.istore 4, 2) := by decide +kernel
theorem d_W_appendBits_14 : decode b_W_appendBits 14 = .ok (.iload 4, 2) := by decide +kernel
theorem d_W_appendBits_16 : decode b_W_appendBits 16 = .ok (.iload_n 3, 1) := by decide +kernel
theorem d_W_appendBits_17 : decode b_W_appendBits 17 = .ok (.if_icmp .ge 33, 3) := by decide +kernel
theorem d_W_appendBits_20 : decode b_W_appendBits 20 = .ok (.aload_n 0, 1) := by decide +kernel
theorem d_W_appendBits_21 : decode b_W_appendBits 21 = .ok (.getfield 50, 3) := by decide +kernel
theorem d_W_appendBits_24 : decode b_W_appendBits 24 = .ok (.aload_n 1, 1) := by decide +kernel
theorem d_W_appendBits_25 : decode b_W_appendBits 25 = .ok (.iload_n 2, 1) := by decide +kernel
theorem d_W_appendBits_26 : decode b_W_appendBits 26 = .ok (.iload 4, 2) := by decide +kernel
theorem d_W_appendBits_28 : decode b_W_appendBits 28 = .ok (.iadd, 1) := by decide +kernel
theorem d_W_appendBits_29 : decode b_W_appendBits 29 = .ok (.bipush 8, 2) := by decide +kernel
theorem d_W_appendBits_31 : decode b_W_appendBits 31 = .ok (.iload_n 3, 1) := by decide +kernel
theorem d_W_appendBits_32 : decode b_W_appendBits 32 = .ok (.iload 4, 2) := by decide +kernel
theorem d_W_appendBits_34 : decode b_W_appendBits 34 = .ok (.isub, 1) := by decide +kernel
theorem d_W_appendBits_35 : decode b_W_appendBits 35 = .ok (.invokestatic 9, 3) := by decide +kernel
theorem d_W_appendBits_38 : decode b_W_appendBits 38 = .ok (.invokestatic 179, 3) := by decide +kernel
theorem d_W_appendBits_41 : decode b_W_appendBits 41 = .ok (.invokevirtual 95, 3) := by decide +kernel
theorem d_W_appendBits_44 : decode b_W_appendBits 44 = .ok (.iinc 4 8, 3) := by decide +kernel
theorem d_W_appendBits_47 : decode b_W_appendBits 47 = .ok (.goto (-33), 3) := by decide +kernel
theorem d_W_appendBits_50 : decode b_W_appendBits 50 = .ok (.return_, 1) := by decide +kernel
theorem d_W_packedBits_0 : decode b_W_packedBits 0 = .ok (.iconst 0, 1) := by decide +kernel
theorem d_W_packedBits_1 : decode b_W_packedBits 1 = .ok (.istore_n 3, 1) := by decide +kernel
theorem d_W_packedBits_2 : decode b_W_packedBits 2 = .ok (.iconst 0, 1) := by decide +kernel
theorem d_W_packedBits_3 : decode b_W_packedBits 3 = .ok (.istore 4, 2) := by decide +kernel
theorem d_W_packedBits_5 : decode b_W_packedBits 5 = .ok (.iload 4, 2) := by decide +kernel
theorem d_W_packedBits_7 : decode b_W_packedBits 7 = .ok (.iload_n 2, 1) := by decide +kernel
theorem d_W_packedBits_8 : decode b_W_packedBits 8 = .ok (.if_icmp .ge 23, 3) := by decide +kernel
theorem d_W_packedBits_11 : decode b_W_packedBits 11 = .ok (.iload_n 3, 1) := by decide +kernel
theorem d_W_packedBits_12 : decode b_W_packedBits 12 = .ok (.aload_n 0, 1) := by decide +kernel
theorem d_W_packedBits_13 : decode b_W_packedBits 13 = .ok (.iload_n 1, 1) := by decide +kernel
theorem d_W_packedBits_14 : decode b_W_packedBits 14 = .ok (.iload 4, 2) := by decide +kernel
theorem d_W_packedBits_16 : decode b_W_packedBits 16 = .ok (.iadd, 1) := by decide +kernel
theorem d_W_packedBits_17 : decode b_W_packedBits 17 = .ok (.invokevirtual 90, 3) := by decide +kernel
theorem d_W_packedBits_20 : decode b_W_packedBits 20 = .ok (.iload 4, 2) := by decide +kernel
theorem d_W_packedBits_22 : decode b_W_packedBits 22 = .ok (.ishl, 1) := by decide +kernel
theorem d_W_packedBits_23 : decode b_W_packedBits 23 = .ok (.ior, 1) := by decide +kernel
theorem d_W_packedBits_24 : decode b_W_packedBits 24 = .ok (.istore_n 3, 1) := by decide +kernel
theorem d_W_packedBits_25 : decode b_W_packedBits 25 = .ok (.iinc 4 1, 3) := by decide +kernel
theorem d_W_packedBits_28 : decode b_W_packedBits 28 = .ok (.goto (-23), 3) := by decide +kernel
theorem d_W_packedBits_31 : decode b_W_packedBits 31 = .ok (.iload_n 3, 1) := by decide +kernel
theorem d_W_packedBits_32 : decode b_W_packedBits 32 = .ok (.ireturn, 1) := by decide +kernel
theorem d_W_appendNumbers_0 : decode b_W_appendNumbers 0 = .ok (.aload_n 0, 1) := by decide +kernel
theorem d_W_appendNumbers_1 : decode b_W_appendNumbers 1 = .ok (.getfield 50, 3) := by decide +kernel
theorem d_W_appendNumbers_4 : decode b_W_appendNumbers 4 = .ok (.iconst 2, 1) := by decide +kernel
theorem d_W_appendNumbers_5 : decode b_W_appendNumbers 5 = .ok (.iload_n 3, 1) := by decide +kernel
theorem d_W_appendNumbers_6 : decode b_W_appendNumbers 6 = .ok (.imul, 1) := by decide +kernel
theorem d_W_appendNumbers_7 : decode b_W_appendNumbers 7 = .ok (.invokevirtual 95, 3) := by decide +kernel
theorem d_W_appendNumbers_10 : decode b_W_appendNumbers 10 = .ok (.iconst 0, 1) := by decide +kernel
theorem d_W_appendNumbers_11 : decode b_W_appendNumbers 11 = .ok (.istore 4, 2) := by decide +kernel
theorem d_W_appendNumbers_13 : decode b_W_appendNumbers 13 = .ok (.iload 4, 2) := by decide +kernel
theorem d_W_appendNumbers_15 : decode b_W_appendNumbers 15 = .ok (.iload_n 3, 1) := by decide +kernel
theorem d_W_appendNumbers_16 : decode b_W_appendNumbers 16 = .ok (.if_icmp .ge 44, 3) := by decide +kernel
theorem d_W_appendNumbers_19 : decode b_W_appendNumbers 19 = .ok (.aload_n 1, 1) := by decide +kernel
theorem d_W_appendNumbers_20 : decode b_W_appendNumbers 20 = .ok (.iload_n 2, 1) := by decide +kernel
theorem d_W_appendNumbers_21 : decode b_W_appendNumbers 21 = .ok (.iload 4, 2) := by decide +kernel
theorem d_W_appendNumbers_23 : decode b_W_appendNumbers 23 = .ok (.iadd, 1) := by decide +kernel
theorem d_W_appendNumbers_24 : decode b_W_appendNumbers 24 = .ok (.invokevirtual 90, 3) := by decide +kernel
theorem d_W_appendNumbers_27 : decode b_W_appendNumbers 27 = .ok (.istore 5, 2) := by decide +kernel
theorem d_W_appendNumbers_29 : decode b_W_appendNumbers 29 = .ok (.aload_n 0, 1) := by decide +kernel
theorem d_W_appendNumbers_30 : decode b_W_appendNumbers 30 = .ok (.getfield 50, 3) := by decide +kernel
theorem d_W_appendNumbers_33 : decode b_W_appendNumbers 33 = .ok (.iload 5, 2) := by decide +kernel
theorem d_W_appendNumbers_35 : decode b_W_appendNumbers 35 = .ok (.bipush 8, 2) := by decide +kernel
theorem d_W_appendNumbers_37 : decode b_W_appendNumbers 37 = .ok (.iushr, 1) := by decide +kernel
theorem d_W_appendNumbers_38 : decode b_W_appendNumbers 38 = .ok (.invokevirtual 95, 3) := by decide +kernel
theorem d_W_appendNumbers_41 : decode b_W_appendNumbers 41 = .ok (.aload_n 0, 1) := by decide +kernel
theorem d_W_appendNumbers_42 : decode b_W_appendNumbers 42 = .ok (.getfield 50, 3) := by decide +kernel
theorem d_W_appendNumbers_45 : decode b_W_appendNumbers 45 = .ok (.iload 5, 2) := by decide +kernel
theorem d_W_appendNumbers_47 : decode b_W_appendNumbers 47 = .ok (.sipush 255, 3) := by decide +kernel
theorem d_W_appendNumbers_50 : decode b_W_appendNumbers 50 = .ok (.iand, 1) := by decide +kernel
theorem d_W_appendNumbers_51 : decode b_W_appendNumbers 51 = .ok (.invokevirtual 95, 3) := by decide +kernel
theorem d_W_appendNumbers_54 : decode b_W_appendNumbers 54 = .ok (.iinc 4 1, 3) := by decide +kernel
theorem d_W_appendNumbers_57 : decode b_W_appendNumbers 57 = .ok (.goto (-44), 3) := by decide +kernel
theorem d_W_appendNumbers_60 : decode b_W_appendNumbers 60 = .ok (.return_, 1) := by decide +kernel
theorem d_W_appendEcho_0 : decode b_W_appendEcho 0 = .ok (.iconst 0, 1) := by decide +kernel
theorem d_W_appendEcho_1 : decode b_W_appendEcho 1 = .ok (.istore_n 1, 1) := by decide +kernel
theorem d_W_appendEcho_2 : decode b_W_appendEcho 2 = .ok (.iload_n 1, 1) := by decide +kernel
theorem d_W_appendEcho_3 : decode b_W_appendEcho 3 = .ok (.iconst 4, 1) := by decide +kernel
theorem d_W_appendEcho_4 : decode b_W_appendEcho 4 = .ok (.if_icmp .ge 21, 3) := by decide +kernel
theorem d_W_appendEcho_7 : decode b_W_appendEcho 7 = .ok (.aload_n 0, 1) := by decide +kernel
theorem d_W_appendEcho_8 : decode b_W_appendEcho 8 = .ok (.getfield 50, 3) := by decide +kernel
theorem d_W_appendEcho_11 : decode b_W_appendEcho 11 = .ok (.aload_n 0, 1) := by decide +kernel
theorem d_W_appendEcho_12 : decode b_W_appendEcho 12 = .ok (.iload_n 1, 1) := by decide +kernel
theorem d_W_appendEcho_13 : decode b_W_appendEcho 13 = .ok (.invokevirtual 121, 3) := by decide +kernel
theorem d_W_appendEcho_16 : decode b_W_appendEcho 16 = .ok (.invokevirtual 95, 3) := by decide +kernel
theorem d_W_appendEcho_19 : decode b_W_appendEcho 19 = .ok (.iinc 1 1, 3) := by decide +kernel
theorem d_W_appendEcho_22 : decode b_W_appendEcho 22 = .ok (.goto (-20), 3) := by decide +kernel
theorem d_W_appendEcho_25 : decode b_W_appendEcho 25 = .ok (.return_, 1) := by decide +kernel
theorem d_B_init_0 : decode b_B_init 0 = .ok (.aload_n 0, 1) := by decide +kernel
theorem d_B_init_1 : decode b_B_init 1 = .ok (.invokespecial 3, 3) := by decide +kernel
theorem d_B_init_4 : decode b_B_init 4 = .ok (.aload_n 0, 1) := by decide +kernel
theorem d_B_init_5 : decode b_B_init 5 = .ok (.aload_n 1, 1) := by decide +kernel
theorem d_B_init_6 : decode b_B_init 6 = .ok (.putfield 9, 3) := by decide +kernel
theorem d_B_init_9 : decode b_B_init 9 = .ok (.aload_n 0, 1) := by decide +kernel
theorem d_B_init_10 : decode b_B_init 10 = .ok (.iconst 0, 1) := by decide +kernel
theorem d_B_init_11 : decode b_B_init 11 = .ok (.putfield 15, 3) := by decide +kernel
theorem d_B_init_14 : decode b_B_init 14 = .ok (.return_, 1) := by decide +kernel
theorem d_B_size_0 : decode b_B_size 0 = .ok (.aload_n 0, 1) := by decide +kernel
theorem d_B_size_1 : decode b_B_size 1 = .ok (.getfield 15, 3) := by decide +kernel
theorem d_B_size_4 : decode b_B_size 4 = .ok (.ireturn, 1) := by decide +kernel
theorem d_B_clear_0 : decode b_B_clear 0 = .ok (.aload_n 0, 1) := by decide +kernel
theorem d_B_clear_1 : decode b_B_clear 1 = .ok (.iconst 0, 1) := by decide +kernel
theorem d_B_clear_2 : decode b_B_clear 2 = .ok (.putfield 15, 3) := by decide +kernel
theorem d_B_clear_5 : decode b_B_clear 5 = .ok (.return_, 1) := by decide +kernel
theorem d_B_append_0 : decode b_B_append 0 = .ok (.aload_n 0, 1) := by decide +kernel
theorem d_B_append_1 : decode b_B_append 1 = .ok (.getfield 15, 3) := by decide +kernel
theorem d_B_append_4 : decode b_B_append 4 = .ok (.ifCond .lt 35, 3) := by decide +kernel
theorem d_B_append_7 : decode b_B_append 7 = .ok (.aload_n 0, 1) := by decide +kernel
theorem d_B_append_8 : decode b_B_append 8 = .ok (.getfield 15, 3) := by decide +kernel
theorem d_B_append_11 : decode b_B_append 11 = .ok (.aload_n 0, 1) := by decide +kernel
theorem d_B_append_12 : decode b_B_append 12 = .ok (.getfield 9, 3) := by decide +kernel
theorem d_B_append_15 : decode b_B_append 15 = .ok (.arraylength, 1) := by decide +kernel
theorem d_B_append_16 : decode b_B_append 16 = .ok (.if_icmp .ge 23, 3) := by decide +kernel
theorem d_B_append_19 : decode b_B_append 19 = .ok (.aload_n 0, 1) := by decide +kernel
theorem d_B_append_20 : decode b_B_append 20 = .ok (.getfield 9, 3) := by decide +kernel
theorem d_B_append_23 : decode b_B_append 23 = .ok (.aload_n 0, 1) := by decide +kernel
theorem d_B_append_24 : decode b_B_append 24 = .ok (.getfield 15, 3) := by decide +kernel
theorem d_B_append_27 : decode b_B_append 27 = .ok (.iload_n 1, 1) := by decide +kernel
theorem d_B_append_28 : decode b_B_append 28 = .ok (.iastore, 1) := by decide +kernel
theorem d_B_append_29 : decode b_B_append 29 = .ok (.aload_n 0, 1) := by decide +kernel
theorem d_B_append_30 : decode b_B_append 30 = .ok (.dup, 1) := by decide +kernel
theorem d_B_append_31 : decode b_B_append 31 = .ok (.getfield 15, 3) := by decide +kernel
theorem d_B_append_34 : decode b_B_append 34 = .ok (.iconst 1, 1) := by decide +kernel
theorem d_B_append_35 : decode b_B_append 35 = .ok (.iadd, 1) := by decide +kernel
theorem d_B_append_36 : decode b_B_append 36 = .ok (.putfield 15, 3) := by decide +kernel
theorem d_B_append_39 : decode b_B_append 39 = .ok (.return_, 1) := by decide +kernel
theorem d_B_at_0 : decode b_B_at 0 = .ok (.iload_n 1, 1) := by decide +kernel
theorem d_B_at_1 : decode b_B_at 1 = .ok (.ifCond .lt 29, 3) := by decide +kernel
theorem d_B_at_4 : decode b_B_at 4 = .ok (.iload_n 1, 1) := by decide +kernel
theorem d_B_at_5 : decode b_B_at 5 = .ok (.aload_n 0, 1) := by decide +kernel
theorem d_B_at_6 : decode b_B_at 6 = .ok (.getfield 15, 3) := by decide +kernel
theorem d_B_at_9 : decode b_B_at 9 = .ok (.if_icmp .ge 21, 3) := by decide +kernel
theorem d_B_at_12 : decode b_B_at 12 = .ok (.iload_n 1, 1) := by decide +kernel
theorem d_B_at_13 : decode b_B_at 13 = .ok (.aload_n 0, 1) := by decide +kernel
theorem d_B_at_14 : decode b_B_at 14 = .ok (.getfield 9, 3) := by decide +kernel
theorem d_B_at_17 : decode b_B_at 17 = .ok (.arraylength, 1) := by decide +kernel
theorem d_B_at_18 : decode b_B_at 18 = .ok (.if_icmp .ge 12, 3) := by decide +kernel
theorem d_B_at_21 : decode b_B_at 21 = .ok (.aload_n 0, 1) := by decide +kernel
theorem d_B_at_22 : decode b_B_at 22 = .ok (.getfield 9, 3) := by decide +kernel
theorem d_B_at_25 : decode b_B_at 25 = .ok (.iload_n 1, 1) := by decide +kernel
theorem d_B_at_26 : decode b_B_at 26 = .ok (.iaload, 1) := by decide +kernel
theorem d_B_at_27 : decode b_B_at 27 = .ok (.goto 4, 3) := by decide +kernel
theorem d_B_at_30 : decode b_B_at 30 = .ok (.iconst (-1), 1) := by decide +kernel
theorem d_B_at_31 : decode b_B_at 31 = .ok (.ireturn, 1) := by decide +kernel
theorem d_B_sumOfFirst_0 : decode b_B_sumOfFirst 0 = .ok (.ldc 19, 2) := by decide +kernel
theorem d_B_sumOfFirst_2 : decode b_B_sumOfFirst 2 = .ok (.istore_n 2, 1) := by decide +kernel
theorem d_B_sumOfFirst_3 : decode b_B_sumOfFirst 3 = .ok (.iconst 0, 1) := by decide +kernel
theorem d_B_sumOfFirst_4 : decode b_B_sumOfFirst 4 = .ok (.istore_n 3, 1) := by decide +kernel
theorem d_B_sumOfFirst_5 : decode b_B_sumOfFirst 5 = .ok (.iload_n 3, 1) := by decide +kernel
theorem d_B_sumOfFirst_6 : decode b_B_sumOfFirst 6 = .ok (.iload_n 1, 1) := by decide +kernel
theorem d_B_sumOfFirst_7 : decode b_B_sumOfFirst 7 = .ok (.if_icmp .ge 19, 3) := by decide +kernel
theorem d_B_sumOfFirst_10 : decode b_B_sumOfFirst 10 = .ok (.iload_n 2, 1) := by decide +kernel
theorem d_B_sumOfFirst_11 : decode b_B_sumOfFirst 11 = .ok (.aload_n 0, 1) := by decide +kernel
theorem d_B_sumOfFirst_12 : decode b_B_sumOfFirst 12 = .ok (.iload_n 3, 1) := by decide +kernel
theorem d_B_sumOfFirst_13 : decode b_B_sumOfFirst 13 = .ok (.invokevirtual 20, 3) := by decide +kernel
theorem d_B_sumOfFirst_16 : decode b_B_sumOfFirst 16 = .ok (.invokestatic 24, 3) := by decide +kernel
theorem d_B_sumOfFirst_19 : decode b_B_sumOfFirst 19 = .ok (.istore_n 2, 1) := by decide +kernel
theorem d_B_sumOfFirst_20 : decode b_B_sumOfFirst 20 = .ok (.iinc 3 1, 3) := by decide +kernel
theorem d_B_sumOfFirst_23 : decode b_B_sumOfFirst 23 = .ok (.goto (-18), 3) := by decide +kernel
theorem d_B_sumOfFirst_26 : decode b_B_sumOfFirst 26 = .ok (.iload_n 2, 1) := by decide +kernel
theorem d_B_sumOfFirst_27 : decode b_B_sumOfFirst 27 = .ok (.ireturn, 1) := by decide +kernel
theorem d_B_endsWithItsSum_0 : decode b_B_endsWithItsSum 0 = .ok (.aload_n 0, 1) := by decide +kernel
theorem d_B_endsWithItsSum_1 : decode b_B_endsWithItsSum 1 = .ok (.aload_n 0, 1) := by decide +kernel
theorem d_B_endsWithItsSum_2 : decode b_B_endsWithItsSum 2 = .ok (.getfield 15, 3) := by decide +kernel
theorem d_B_endsWithItsSum_5 : decode b_B_endsWithItsSum 5 = .ok (.iconst 2, 1) := by decide +kernel
theorem d_B_endsWithItsSum_6 : decode b_B_endsWithItsSum 6 = .ok (.isub, 1) := by decide +kernel
theorem d_B_endsWithItsSum_7 : decode b_B_endsWithItsSum 7 = .ok (.invokevirtual 28, 3) := by decide +kernel
theorem d_B_endsWithItsSum_10 : decode b_B_endsWithItsSum 10 = .ok (.istore_n 1, 1) := by decide +kernel
theorem d_B_endsWithItsSum_11 : decode b_B_endsWithItsSum 11 = .ok (.aload_n 0, 1) := by decide +kernel
theorem d_B_endsWithItsSum_12 : decode b_B_endsWithItsSum 12 = .ok (.aload_n 0, 1) := by decide +kernel
theorem d_B_endsWithItsSum_13 : decode b_B_endsWithItsSum 13 = .ok (.getfield 15, 3) := by decide +kernel
theorem d_B_endsWithItsSum_16 : decode b_B_endsWithItsSum 16 = .ok (.iconst 2, 1) := by decide +kernel
theorem d_B_endsWithItsSum_17 : decode b_B_endsWithItsSum 17 = .ok (.isub, 1) := by decide +kernel
theorem d_B_endsWithItsSum_18 : decode b_B_endsWithItsSum 18 = .ok (.invokevirtual 20, 3) := by decide +kernel
theorem d_B_endsWithItsSum_21 : decode b_B_endsWithItsSum 21 = .ok (.iload_n 1, 1) := by decide +kernel
theorem d_B_endsWithItsSum_22 : decode b_B_endsWithItsSum 22 = .ok (.sipush 255, 3) := by decide +kernel
theorem d_B_endsWithItsSum_25 : decode b_B_endsWithItsSum 25 = .ok (.iand, 1) := by decide +kernel
theorem d_B_endsWithItsSum_26 : decode b_B_endsWithItsSum 26 = .ok (.if_icmp .ne 24, 3) := by decide +kernel
theorem d_B_endsWithItsSum_29 : decode b_B_endsWithItsSum 29 = .ok (.aload_n 0, 1) := by decide +kernel
theorem d_B_endsWithItsSum_30 : decode b_B_endsWithItsSum 30 = .ok (.aload_n 0, 1) := by decide +kernel
theorem d_B_endsWithItsSum_31 : decode b_B_endsWithItsSum 31 = .ok (.getfield 15, 3) := by decide +kernel
theorem d_B_endsWithItsSum_34 : decode b_B_endsWithItsSum 34 = .ok (.iconst 1, 1) := by decide +kernel
theorem d_B_endsWithItsSum_35 : decode b_B_endsWithItsSum 35 = .ok (.isub, 1) := by decide +kernel
theorem d_B_endsWithItsSum_36 : decode b_B_endsWithItsSum 36 = .ok (.invokevirtual 20, 3) := by decide +kernel
theorem d_B_endsWithItsSum_39 : decode b_B_endsWithItsSum 39 = .ok (.iload_n 1, 1) := by decide +kernel
theorem d_B_endsWithItsSum_40 : decode b_B_endsWithItsSum 40 = .ok (.bipush 8, 2) := by decide +kernel
theorem d_B_endsWithItsSum_42 : decode b_B_endsWithItsSum 42 = .ok (.iushr, 1) := by decide +kernel
theorem d_B_endsWithItsSum_43 : decode b_B_endsWithItsSum 43 = .ok (.if_icmp .ne 7, 3) := by decide +kernel
theorem d_B_endsWithItsSum_46 : decode b_B_endsWithItsSum 46 = .ok (.iconst 1, 1) := by decide +kernel
theorem d_B_endsWithItsSum_47 : decode b_B_endsWithItsSum 47 = .ok (.goto 4, 3) := by decide +kernel
theorem d_B_endsWithItsSum_50 : decode b_B_endsWithItsSum 50 = .ok (.iconst 0, 1) := by decide +kernel
theorem d_B_endsWithItsSum_51 : decode b_B_endsWithItsSum 51 = .ok (.ireturn, 1) := by decide +kernel
theorem d_B_appendItsSum_0 : decode b_B_appendItsSum 0 = .ok (.aload_n 0, 1) := by decide +kernel
theorem d_B_appendItsSum_1 : decode b_B_appendItsSum 1 = .ok (.aload_n 0, 1) := by decide +kernel
theorem d_B_appendItsSum_2 : decode b_B_appendItsSum 2 = .ok (.getfield 15, 3) := by decide +kernel
theorem d_B_appendItsSum_5 : decode b_B_appendItsSum 5 = .ok (.invokevirtual 28, 3) := by decide +kernel
theorem d_B_appendItsSum_8 : decode b_B_appendItsSum 8 = .ok (.istore_n 1, 1) := by decide +kernel
theorem d_B_appendItsSum_9 : decode b_B_appendItsSum 9 = .ok (.aload_n 0, 1) := by decide +kernel
theorem d_B_appendItsSum_10 : decode b_B_appendItsSum 10 = .ok (.iload_n 1, 1) := by decide +kernel
theorem d_B_appendItsSum_11 : decode b_B_appendItsSum 11 = .ok (.sipush 255, 3) := by decide +kernel
theorem d_B_appendItsSum_14 : decode b_B_appendItsSum 14 = .ok (.iand, 1) := by decide +kernel
theorem d_B_appendItsSum_15 : decode b_B_appendItsSum 15 = .ok (.invokevirtual 31, 3) := by decide +kernel
theorem d_B_appendItsSum_18 : decode b_B_appendItsSum 18 = .ok (.aload_n 0, 1) := by decide +kernel
theorem d_B_appendItsSum_19 : decode b_B_appendItsSum 19 = .ok (.iload_n 1, 1) := by decide +kernel
theorem d_B_appendItsSum_20 : decode b_B_appendItsSum 20 = .ok (.bipush 8, 2) := by decide +kernel
theorem d_B_appendItsSum_22 : decode b_B_appendItsSum 22 = .ok (.iushr, 1) := by decide +kernel
theorem d_B_appendItsSum_23 : decode b_B_appendItsSum 23 = .ok (.invokevirtual 31, 3) := by decide +kernel
theorem d_B_appendItsSum_26 : decode b_B_appendItsSum 26 = .ok (.return_, 1) := by decide +kernel
theorem d_T_init_0 : decode b_T_init 0 = .ok (.aload_n 0, 1) := by decide +kernel
theorem d_T_init_1 : decode b_T_init 1 = .ok (.invokespecial 3, 3) := by decide +kernel
theorem d_T_init_4 : decode b_T_init 4 = .ok (.aload_n 0, 1) := by decide +kernel
theorem d_T_init_5 : decode b_T_init 5 = .ok (.aload_n 1, 1) := by decide +kernel
theorem d_T_init_6 : decode b_T_init 6 = .ok (.putfield 9, 3) := by decide +kernel
theorem d_T_init_9 : decode b_T_init 9 = .ok (.aload_n 0, 1) := by decide +kernel
theorem d_T_init_10 : decode b_T_init 10 = .ok (.iload_n 2, 1) := by decide +kernel
theorem d_T_init_11 : decode b_T_init 11 = .ok (.putfield 15, 3) := by decide +kernel
theorem d_T_init_14 : decode b_T_init 14 = .ok (.return_, 1) := by decide +kernel
theorem d_T_has_0 : decode b_T_has 0 = .ok (.iload_n 1, 1) := by decide +kernel
theorem d_T_has_1 : decode b_T_has 1 = .ok (.ifCond .lt 16, 3) := by decide +kernel
theorem d_T_has_4 : decode b_T_has 4 = .ok (.iload_n 1, 1) := by decide +kernel
theorem d_T_has_5 : decode b_T_has 5 = .ok (.aload_n 0, 1) := by decide +kernel
theorem d_T_has_6 : decode b_T_has 6 = .ok (.getfield 9, 3) := by decide +kernel
theorem d_T_has_9 : decode b_T_has 9 = .ok (.arraylength, 1) := by decide +kernel
theorem d_T_has_10 : decode b_T_has 10 = .ok (.if_icmp .ge 7, 3) := by decide +kernel
theorem d_T_has_13 : decode b_T_has 13 = .ok (.iconst 1, 1) := by decide +kernel
theorem d_T_has_14 : decode b_T_has 14 = .ok (.goto 4, 3) := by decide +kernel
theorem d_T_has_17 : decode b_T_has 17 = .ok (.iconst 0, 1) := by decide +kernel
theorem d_T_has_18 : decode b_T_has 18 = .ok (.ireturn, 1) := by decide +kernel
theorem d_T_at_0 : decode b_T_at 0 = .ok (.aload_n 0, 1) := by decide +kernel
theorem d_T_at_1 : decode b_T_at 1 = .ok (.iload_n 1, 1) := by decide +kernel
theorem d_T_at_2 : decode b_T_at 2 = .ok (.invokevirtual 19, 3) := by decide +kernel
theorem d_T_at_5 : decode b_T_at 5 = .ok (.ifCond .eq 12, 3) := by decide +kernel
theorem d_T_at_8 : decode b_T_at 8 = .ok (.aload_n 0, 1) := by decide +kernel
theorem d_T_at_9 : decode b_T_at 9 = .ok (.getfield 9, 3) := by decide +kernel
theorem d_T_at_12 : decode b_T_at 12 = .ok (.iload_n 1, 1) := by decide +kernel
theorem d_T_at_13 : decode b_T_at 13 = .ok (.iaload, 1) := by decide +kernel
theorem d_T_at_14 : decode b_T_at 14 = .ok (.goto 4, 3) := by decide +kernel
theorem d_T_at_17 : decode b_T_at 17 = .ok (.iconst (-1), 1) := by decide +kernel
theorem d_T_at_18 : decode b_T_at 18 = .ok (.ireturn, 1) := by decide +kernel
theorem d_T_replace_0 : decode b_T_replace 0 = .ok (.aload_n 0, 1) := by decide +kernel
theorem d_T_replace_1 : decode b_T_replace 1 = .ok (.iload_n 1, 1) := by decide +kernel
theorem d_T_replace_2 : decode b_T_replace 2 = .ok (.invokevirtual 19, 3) := by decide +kernel
theorem d_T_replace_5 : decode b_T_replace 5 = .ok (.ifCond .eq 15, 3) := by decide +kernel
theorem d_T_replace_8 : decode b_T_replace 8 = .ok (.iload_n 2, 1) := by decide +kernel
theorem d_T_replace_9 : decode b_T_replace 9 = .ok (.ifCond .lt 11, 3) := by decide +kernel
theorem d_T_replace_12 : decode b_T_replace 12 = .ok (.iload_n 2, 1) := by decide +kernel
theorem d_T_replace_13 : decode b_T_replace 13 = .ok (.aload_n 0, 1) := by decide +kernel
theorem d_T_replace_14 : decode b_T_replace 14 = .ok (.getfield 15, 3) := by decide +kernel
theorem d_T_replace_17 : decode b_T_replace 17 = .ok (.if_icmp .le 5, 3) := by decide +kernel
theorem d_T_replace_20 : decode b_T_replace 20 = .ok (.iconst (-1), 1) := by decide +kernel
theorem d_T_replace_21 : decode b_T_replace 21 = .ok (.ireturn, 1) := by decide +kernel
theorem d_T_replace_22 : decode b_T_replace 22 = .ok (.aload_n 0, 1) := by decide +kernel
theorem d_T_replace_23 : decode b_T_replace 23 = .ok (.getfield 9, 3) := by decide +kernel
theorem d_T_replace_26 : decode b_T_replace 26 = .ok (.iload_n 1, 1) := by decide +kernel
theorem d_T_replace_27 : decode b_T_replace 27 = .ok (.iaload, 1) := by decide +kernel
theorem d_T_replace_28 : decode b_T_replace 28 = .ok (.istore_n 3, 1) := by decide +kernel
theorem d_T_replace_29 : decode b_T_replace 29 = .ok (.aload_n 0, 1) := by decide +kernel
theorem d_T_replace_30 : decode b_T_replace 30 = .ok (.getfield 9, 3) := by decide +kernel
theorem d_T_replace_33 : decode b_T_replace 33 = .ok (.iload_n 1, 1) := by decide +kernel
theorem d_T_replace_34 : decode b_T_replace 34 = .ok (.iload_n 2, 1) := by decide +kernel
theorem d_T_replace_35 : decode b_T_replace 35 = .ok (.iastore, 1) := by decide +kernel
theorem d_T_replace_36 : decode b_T_replace 36 = .ok (.iload_n 3, 1) := by decide +kernel
theorem d_T_replace_37 : decode b_T_replace 37 = .ok (.ireturn, 1) := by decide +kernel
end
section
theorem d_M_init_0 : decode b_M_init 0 = .ok (.aload_n 0, 1) := by decide +kernel
theorem d_M_init_1 : decode b_M_init 1 = .ok (.invokespecial 1, 3) := by decide +kernel
theorem d_M_init_4 : decode b_M_init 4 = .ok (.aload_n 0, 1) := by decide +kernel
theorem d_M_init_5 : decode b_M_init 5 = .ok (.sipush 256, 3) := by decide +kernel
theorem d_M_init_8 : decode b_M_init 8 = .ok (.newarray .int, 2) := by decide +kernel
theorem d_M_init_10 : decode b_M_init 10 = .ok (.putfield 7, 3) := by decide +kernel
theorem d_M_init_13 : decode b_M_init 13 = .ok (.aload_n 0, 1) := by decide +kernel
theorem d_M_init_14 : decode b_M_init 14 = .ok (.sipush 256, 3) := by decide +kernel
theorem d_M_init_17 : decode b_M_init 17 = .ok (.newarray .int, 2) := by decide +kernel
theorem d_M_init_19 : decode b_M_init 19 = .ok (.putfield 13, 3) := by decide +kernel
theorem d_M_init_22 : decode b_M_init 22 = .ok (.aload_n 0, 1) := by decide +kernel
theorem d_M_init_23 : decode b_M_init 23 = .ok (.bipush 64, 2) := by decide +kernel
theorem d_M_init_25 : decode b_M_init 25 = .ok (.newarray .int, 2) := by decide +kernel
theorem d_M_init_27 : decode b_M_init 27 = .ok (.putfield 16, 3) := by decide +kernel
theorem d_M_init_30 : decode b_M_init 30 = .ok (.aload_n 0, 1) := by decide +kernel
theorem d_M_init_31 : decode b_M_init 31 = .ok (.bipush 64, 2) := by decide +kernel
theorem d_M_init_33 : decode b_M_init 33 = .ok (.newarray .int, 2) := by decide +kernel
theorem d_M_init_35 : decode b_M_init 35 = .ok (.putfield 19, 3) := by decide +kernel
theorem d_M_init_38 : decode b_M_init 38 = .ok (.aload_n 0, 1) := by decide +kernel
theorem d_M_init_39 : decode b_M_init 39 = .ok (.sipush 256, 3) := by decide +kernel
theorem d_M_init_42 : decode b_M_init 42 = .ok (.newarray .int, 2) := by decide +kernel
theorem d_M_init_44 : decode b_M_init 44 = .ok (.putfield 22, 3) := by decide +kernel
theorem d_M_init_47 : decode b_M_init 47 = .ok (.aload_n 0, 1) := by decide +kernel
theorem d_M_init_48 : decode b_M_init 48 = .ok (.sipush 300, 3) := by decide +kernel
theorem d_M_init_51 : decode b_M_init 51 = .ok (.newarray .int, 2) := by decide +kernel
theorem d_M_init_53 : decode b_M_init 53 = .ok (.putfield 25, 3) := by decide +kernel
theorem d_M_init_56 : decode b_M_init 56 = .ok (.aload_n 0, 1) := by decide +kernel
theorem d_M_init_57 : decode b_M_init 57 = .ok (.bipush 6, 2) := by decide +kernel
theorem d_M_init_59 : decode b_M_init 59 = .ok (.newarray .int, 2) := by decide +kernel
theorem d_M_init_61 : decode b_M_init 61 = .ok (.putfield 28, 3) := by decide +kernel
theorem d_M_init_64 : decode b_M_init 64 = .ok (.aload_n 0, 1) := by decide +kernel
theorem d_M_init_65 : decode b_M_init 65 = .ok (.iload_n 1, 1) := by decide +kernel
theorem d_M_init_66 : decode b_M_init 66 = .ok (.iconst 1, 1) := by decide +kernel
theorem d_M_init_67 : decode b_M_init 67 = .ok (.if_icmp .ge 7, 3) := by decide +kernel
theorem d_M_init_70 : decode b_M_init 70 = .ok (.iconst 1, 1) := by decide +kernel
theorem d_M_init_71 : decode b_M_init 71 = .ok (.goto 17, 3) := by decide +kernel
theorem d_M_init_74 : decode b_M_init 74 = .ok (.iload_n 1, 1) := by decide +kernel
theorem d_M_init_75 : decode b_M_init 75 = .ok (.sipush 247, 3) := by decide +kernel
theorem d_M_init_78 : decode b_M_init 78 = .ok (.if_icmp .le 9, 3) := by decide +kernel
theorem d_M_init_81 : decode b_M_init 81 = .ok (.sipush 247, 3) := by decide +kernel
theorem d_M_init_84 : decode b_M_init 84 = .ok (.goto 4, 3) := by decide +kernel
theorem d_M_init_87 : decode b_M_init 87 = .ok (.iload_n 1, 1) := by decide +kernel
theorem d_M_init_88 : decode b_M_init 88 = .ok (.putfield 31, 3) := by decide +kernel
theorem d_M_init_91 : decode b_M_init 91 = .ok (.return_, 1) := by decide +kernel
theorem d_M_hear_0 : decode b_M_hear 0 = .ok (.aload_n 0, 1) := by decide +kernel
theorem d_M_hear_1 : decode b_M_hear 1 = .ok (.iconst 0, 1) := by decide +kernel
theorem d_M_hear_2 : decode b_M_hear 2 = .ok (.putfield 35, 3) := by decide +kernel
theorem d_M_hear_5 : decode b_M_hear 5 = .ok (.iload_n 1, 1) := by decide +kernel
theorem d_M_hear_6 : decode b_M_hear 6 = .ok (.ifCond .lt 10, 3) := by decide +kernel
theorem d_M_hear_9 : decode b_M_hear 9 = .ok (.iload_n 1, 1) := by decide +kernel
theorem d_M_hear_10 : decode b_M_hear 10 = .ok (.sipush 255, 3) := by decide +kernel
theorem d_M_hear_13 : decode b_M_hear 13 = .ok (.if_icmp .le 5, 3) := by decide +kernel
theorem d_M_hear_16 : decode b_M_hear 16 = .ok (.iconst (-1), 1) := by decide +kernel
theorem d_M_hear_17 : decode b_M_hear 17 = .ok (.ireturn, 1) := by decide +kernel
theorem d_M_hear_18 : decode b_M_hear 18 = .ok (.aload_n 0, 1) := by decide +kernel
theorem d_M_hear_19 : decode b_M_hear 19 = .ok (.aload_n 0, 1) := by decide +kernel
theorem d_M_hear_20 : decode b_M_hear 20 = .ok (.getfield 38, 3) := by decide +kernel
theorem d_M_hear_23 : decode b_M_hear 23 = .ok (.ifCond .ne 29, 3) := by decide +kernel
theorem d_M_hear_26 : decode b_M_hear 26 = .ok (.aload_n 0, 1) := by decide +kernel
theorem d_M_hear_27 : decode b_M_hear 27 = .ok (.getfield 42, 3) := by decide +kernel
theorem d_M_hear_30 : decode b_M_hear 30 = .ok (.ifCond .le 12, 3) := by decide +kernel
theorem d_M_hear_33 : decode b_M_hear 33 = .ok (.aload_n 0, 1) := by decide +kernel
theorem d_M_hear_34 : decode b_M_hear 34 = .ok (.getfield 45, 3) := by decide +kernel
theorem d_M_hear_37 : decode b_M_hear 37 = .ok (.bipush 7, 2) := by decide +kernel
theorem d_M_hear_39 : decode b_M_hear 39 = .ok (.if_icmp .ge 13, 3) := by decide +kernel
theorem d_M_hear_42 : decode b_M_hear 42 = .ok (.aload_n 0, 1) := by decide +kernel
theorem d_M_hear_43 : decode b_M_hear 43 = .ok (.getfield 42, 3) := by decide +kernel
theorem d_M_hear_46 : decode b_M_hear 46 = .ok (.sipush 256, 3) := by decide +kernel
theorem d_M_hear_49 : decode b_M_hear 49 = .ok (.if_icmp .lt 7, 3) := by decide +kernel
theorem d_M_hear_52 : decode b_M_hear 52 = .ok (.iconst 1, 1) := by decide +kernel
theorem d_M_hear_53 : decode b_M_hear 53 = .ok (.goto 4, 3) := by decide +kernel
theorem d_M_hear_56 : decode b_M_hear 56 = .ok (.iconst 0, 1) := by decide +kernel
theorem d_M_hear_57 : decode b_M_hear 57 = .ok (.putfield 38, 3) := by decide +kernel
theorem d_M_hear_60 : decode b_M_hear 60 = .ok (.aload_n 0, 1) := by decide +kernel
theorem d_M_hear_61 : decode b_M_hear 61 = .ok (.iconst 0, 1) := by decide +kernel
theorem d_M_hear_62 : decode b_M_hear 62 = .ok (.putfield 45, 3) := by decide +kernel
theorem d_M_hear_65 : decode b_M_hear 65 = .ok (.aload_n 0, 1) := by decide +kernel
theorem d_M_hear_66 : decode b_M_hear 66 = .ok (.getfield 42, 3) := by decide +kernel
theorem d_M_hear_69 : decode b_M_hear 69 = .ok (.sipush 256, 3) := by decide +kernel
theorem d_M_hear_72 : decode b_M_hear 72 = .ok (.if_icmp .ge 13, 3) := by decide +kernel
theorem d_M_hear_75 : decode b_M_hear 75 = .ok (.aload_n 0, 1) := by decide +kernel
theorem d_M_hear_76 : decode b_M_hear 76 = .ok (.getfield 22, 3) := by decide +kernel
theorem d_M_hear_79 : decode b_M_hear 79 = .ok (.aload_n 0, 1) := by decide +kernel
theorem d_M_hear_80 : decode b_M_hear 80 = .ok (.getfield 42, 3) := by decide +kernel
theorem d_M_hear_83 : decode b_M_hear 83 = .ok (.iload_n 1, 1) := by decide +kernel
theorem d_M_hear_84 : decode b_M_hear 84 = .ok (.iastore, 1) := by decide +kernel
theorem d_M_hear_85 : decode b_M_hear 85 = .ok (.aload_n 0, 1) := by decide +kernel
theorem d_M_hear_86 : decode b_M_hear 86 = .ok (.aload_n 0, 1) := by decide +kernel
theorem d_M_hear_87 : decode b_M_hear 87 = .ok (.getfield 42, 3) := by decide +kernel
theorem d_M_hear_90 : decode b_M_hear 90 = .ok (.sipush 256, 3) := by decide +kernel
theorem d_M_hear_93 : decode b_M_hear 93 = .ok (.if_icmp .le 10, 3) := by decide +kernel
theorem d_M_hear_96 : decode b_M_hear 96 = .ok (.aload_n 0, 1) := by decide +kernel
theorem d_M_hear_97 : decode b_M_hear 97 = .ok (.getfield 42, 3) := by decide +kernel
theorem d_M_hear_100 : decode b_M_hear 100 = .ok (.goto 9, 3) := by decide +kernel
theorem d_M_hear_103 : decode b_M_hear 103 = .ok (.aload_n 0, 1) := by decide +kernel
theorem d_M_hear_104 : decode b_M_hear 104 = .ok (.getfield 42, 3) := by decide +kernel
theorem d_M_hear_107 : decode b_M_hear 107 = .ok (.iconst 1, 1) := by decide +kernel
theorem d_M_hear_108 : decode b_M_hear 108 = .ok (.iadd, 1) := by decide +kernel
theorem d_M_hear_109 : decode b_M_hear 109 = .ok (.putfield 42, 3) := by decide +kernel
theorem d_M_hear_112 : decode b_M_hear 112 = .ok (.aload_n 0, 1) := by decide +kernel
theorem d_M_hear_113 : decode b_M_hear 113 = .ok (.getfield 42, 3) := by decide +kernel
theorem d_M_hear_116 : decode b_M_hear 116 = .ok (.ireturn, 1) := by decide +kernel
theorem d_M_listen_0 : decode b_M_listen 0 = .ok (.aload_n 0, 1) := by decide +kernel
theorem d_M_listen_1 : decode b_M_listen 1 = .ok (.iconst 0, 1) := by decide +kernel
theorem d_M_listen_2 : decode b_M_listen 2 = .ok (.putfield 35, 3) := by decide +kernel
theorem d_M_listen_5 : decode b_M_listen 5 = .ok (.iload_n 1, 1) := by decide +kernel
theorem d_M_listen_6 : decode b_M_listen 6 = .ok (.iconst 1, 1) := by decide +kernel
theorem d_M_listen_7 : decode b_M_listen 7 = .ok (.if_icmp .lt 9, 3) := by decide +kernel
theorem d_M_listen_10 : decode b_M_listen 10 = .ok (.iload_n 1, 1) := by decide +kernel
theorem d_M_listen_11 : decode b_M_listen 11 = .ok (.bipush 8, 2) := by decide +kernel
theorem d_M_listen_13 : decode b_M_listen 13 = .ok (.if_icmp .le 5, 3) := by decide +kernel
theorem d_M_listen_16 : decode b_M_listen 16 = .ok (.iconst (-1), 1) := by decide +kernel
theorem d_M_listen_17 : decode b_M_listen 17 = .ok (.ireturn, 1) := by decide +kernel
theorem d_M_listen_18 : decode b_M_listen 18 = .ok (.iconst 0, 1) := by decide +kernel
theorem d_M_listen_19 : decode b_M_listen 19 = .ok (.istore 4, 2) := by decide +kernel
theorem d_M_listen_21 : decode b_M_listen 21 = .ok (.iload_n 1, 1) := by decide +kernel
theorem d_M_listen_22 : decode b_M_listen 22 = .ok (.iconst 1, 1) := by decide +kernel
theorem d_M_listen_23 : decode b_M_listen 23 = .ok (.isub, 1) := by decide +kernel
theorem d_M_listen_24 : decode b_M_listen 24 = .ok (.istore 5, 2) := by decide +kernel
theorem d_M_listen_26 : decode b_M_listen 26 = .ok (.iload 5, 2) := by decide +kernel
theorem d_M_listen_28 : decode b_M_listen 28 = .ok (.ifCond .lt 27, 3) := by decide +kernel
theorem d_M_listen_31 : decode b_M_listen 31 = .ok (.aload_n 0, 1) := by decide +kernel
theorem d_M_listen_32 : decode b_M_listen 32 = .ok (.lload_n 2, 1) := by decide +kernel
theorem d_M_listen_33 : decode b_M_listen 33 = .ok (.bipush 8, 2) := by decide +kernel
theorem d_M_listen_35 : decode b_M_listen 35 = .ok (.iload 5, 2) := by decide +kernel
theorem d_M_listen_37 : decode b_M_listen 37 = .ok (.imul, 1) := by decide +kernel
theorem d_M_listen_38 : decode b_M_listen 38 = .ok (.lshr, 1) := by decide +kernel
theorem d_M_listen_39 : decode b_M_listen 39 = .ok (.ldc2_w 48, 3) := by decide +kernel
theorem d_M_listen_42 : decode b_M_listen 42 = .ok (.land, 1) := by decide +kernel
theorem d_M_listen_43 : decode b_M_listen 43 = .ok (.l2i, 1) := by decide +kernel
theorem d_M_listen_44 : decode b_M_listen 44 = .ok (.invokevirtual 50, 3) := by decide +kernel
theorem d_M_listen_47 : decode b_M_listen 47 = .ok (.istore 4, 2) := by decide +kernel
theorem d_M_listen_49 : decode b_M_listen 49 = .ok (.iinc 5 (-1), 3) := by decide +kernel
theorem d_M_listen_52 : decode b_M_listen 52 = .ok (.goto (-26), 3) := by decide +kernel
theorem d_M_listen_55 : decode b_M_listen 55 = .ok (.iload 4, 2) := by decide +kernel
theorem d_M_listen_57 : decode b_M_listen 57 = .ok (.ireturn, 1) := by decide +kernel
theorem d_M_rest_0 : decode b_M_rest 0 = .ok (.aload_n 0, 1) := by decide +kernel
theorem d_M_rest_1 : decode b_M_rest 1 = .ok (.iconst 0, 1) := by decide +kernel
theorem d_M_rest_2 : decode b_M_rest 2 = .ok (.putfield 35, 3) := by decide +kernel
theorem d_M_rest_5 : decode b_M_rest 5 = .ok (.iload_n 1, 1) := by decide +kernel
theorem d_M_rest_6 : decode b_M_rest 6 = .ok (.ifCond .lt 10, 3) := by decide +kernel
theorem d_M_rest_9 : decode b_M_rest 9 = .ok (.iload_n 1, 1) := by decide +kernel
theorem d_M_rest_10 : decode b_M_rest 10 = .ok (.sipush 1000, 3) := by decide +kernel
theorem d_M_rest_13 : decode b_M_rest 13 = .ok (.if_icmp .le 5, 3) := by decide +kernel
theorem d_M_rest_16 : decode b_M_rest 16 = .ok (.iconst (-1), 1) := by decide +kernel
theorem d_M_rest_17 : decode b_M_rest 17 = .ok (.ireturn, 1) := by decide +kernel
theorem d_M_rest_18 : decode b_M_rest 18 = .ok (.aload_n 0, 1) := by decide +kernel
theorem d_M_rest_19 : decode b_M_rest 19 = .ok (.dup, 1) := by decide +kernel
theorem d_M_rest_20 : decode b_M_rest 20 = .ok (.getfield 45, 3) := by decide +kernel
theorem d_M_rest_23 : decode b_M_rest 23 = .ok (.iload_n 1, 1) := by decide +kernel
theorem d_M_rest_24 : decode b_M_rest 24 = .ok (.iadd, 1) := by decide +kernel
theorem d_M_rest_25 : decode b_M_rest 25 = .ok (.putfield 45, 3) := by decide +kernel
theorem d_M_rest_28 : decode b_M_rest 28 = .ok (.aload_n 0, 1) := by decide +kernel
theorem d_M_rest_29 : decode b_M_rest 29 = .ok (.getfield 42, 3) := by decide +kernel
theorem d_M_rest_32 : decode b_M_rest 32 = .ok (.ifCond .eq 12, 3) := by decide +kernel
theorem d_M_rest_35 : decode b_M_rest 35 = .ok (.aload_n 0, 1) := by decide +kernel
theorem d_M_rest_36 : decode b_M_rest 36 = .ok (.getfield 45, 3) := by decide +kernel
theorem d_M_rest_39 : decode b_M_rest 39 = .ok (.bipush 14, 2) := by decide +kernel
theorem d_M_rest_41 : decode b_M_rest 41 = .ok (.if_icmp .ge 25, 3) := by decide +kernel
theorem d_M_rest_44 : decode b_M_rest 44 = .ok (.aload_n 0, 1) := by decide +kernel
theorem d_M_rest_45 : decode b_M_rest 45 = .ok (.aload_n 0, 1) := by decide +kernel
theorem d_M_rest_46 : decode b_M_rest 46 = .ok (.getfield 42, 3) := by decide +kernel
theorem d_M_rest_49 : decode b_M_rest 49 = .ok (.ifCond .ne 7, 3) := by decide +kernel
theorem d_M_rest_52 : decode b_M_rest 52 = .ok (.iconst 0, 1) := by decide +kernel
theorem d_M_rest_53 : decode b_M_rest 53 = .ok (.goto 7, 3) := by decide +kernel
theorem d_M_rest_56 : decode b_M_rest 56 = .ok (.aload_n 0, 1) := by decide +kernel
theorem d_M_rest_57 : decode b_M_rest 57 = .ok (.getfield 45, 3) := by decide +kernel
theorem d_M_rest_60 : decode b_M_rest 60 = .ok (.putfield 45, 3) := by decide +kernel
theorem d_M_rest_63 : decode b_M_rest 63 = .ok (.bipush (-2), 2) := by decide +kernel
theorem d_M_rest_65 : decode b_M_rest 65 = .ok (.ireturn, 1) := by decide +kernel
theorem d_M_rest_66 : decode b_M_rest 66 = .ok (.aload_n 0, 1) := by decide +kernel
theorem d_M_rest_67 : decode b_M_rest 67 = .ok (.invokevirtual 54, 3) := by decide +kernel
theorem d_M_rest_70 : decode b_M_rest 70 = .ok (.istore_n 2, 1) := by decide +kernel
theorem d_M_rest_71 : decode b_M_rest 71 = .ok (.aload_n 0, 1) := by decide +kernel
theorem d_M_rest_72 : decode b_M_rest 72 = .ok (.iconst 0, 1) := by decide +kernel
theorem d_M_rest_73 : decode b_M_rest 73 = .ok (.putfield 42, 3) := by decide +kernel
theorem d_M_rest_76 : decode b_M_rest 76 = .ok (.aload_n 0, 1) := by decide +kernel
theorem d_M_rest_77 : decode b_M_rest 77 = .ok (.iconst 0, 1) := by decide +kernel
theorem d_M_rest_78 : decode b_M_rest 78 = .ok (.putfield 45, 3) := by decide +kernel
theorem d_M_rest_81 : decode b_M_rest 81 = .ok (.aload_n 0, 1) := by decide +kernel
theorem d_M_rest_82 : decode b_M_rest 82 = .ok (.iconst 0, 1) := by decide +kernel
theorem d_M_rest_83 : decode b_M_rest 83 = .ok (.putfield 38, 3) := by decide +kernel
theorem d_M_rest_86 : decode b_M_rest 86 = .ok (.iload_n 2, 1) := by decide +kernel
theorem d_M_rest_87 : decode b_M_rest 87 = .ok (.ireturn, 1) := by decide +kernel
theorem d_M_with_0 : decode b_M_with 0 = .ok (.iload_n 1, 1) := by decide +kernel
theorem d_M_with_1 : decode b_M_with 1 = .ok (.iload_n 2, 1) := by decide +kernel
theorem d_M_with_2 : decode b_M_with 2 = .ok (.ixor, 1) := by decide +kernel
theorem d_M_with_3 : decode b_M_with 3 = .ok (.istore_n 3, 1) := by decide +kernel
theorem d_M_with_4 : decode b_M_with 4 = .ok (.iconst 0, 1) := by decide +kernel
theorem d_M_with_5 : decode b_M_with 5 = .ok (.istore 4, 2) := by decide +kernel
theorem d_M_with_7 : decode b_M_with 7 = .ok (.iload 4, 2) := by decide +kernel
theorem d_M_with_9 : decode b_M_with 9 = .ok (.bipush 8, 2) := by decide +kernel
theorem d_M_with_11 : decode b_M_with 11 = .ok (.if_icmp .ge 29, 3) := by decide +kernel
theorem d_M_with_14 : decode b_M_with 14 = .ok (.iload_n 3, 1) := by decide +kernel
theorem d_M_with_15 : decode b_M_with 15 = .ok (.iconst 2, 1) := by decide +kernel
theorem d_M_with_16 : decode b_M_with 16 = .ok (.irem, 1) := by decide +kernel
theorem d_M_with_17 : decode b_M_with 17 = .ok (.iconst 1, 1) := by decide +kernel
theorem d_M_with_18 : decode b_M_with 18 = .ok (.if_icmp .ne 12, 3) := by decide +kernel
theorem d_M_with_21 : decode b_M_with 21 = .ok (.iload_n 3, 1) := by decide +kernel
theorem d_M_with_22 : decode b_M_with 22 = .ok (.iconst 2, 1) := by decide +kernel
theorem d_M_with_23 : decode b_M_with 23 = .ok (.idiv, 1) := by decide +kernel
theorem d_M_with_24 : decode b_M_with 24 = .ok (.ldc 58, 2) := by decide +kernel
theorem d_M_with_26 : decode b_M_with 26 = .ok (.ixor, 1) := by decide +kernel
theorem d_M_with_27 : decode b_M_with 27 = .ok (.goto 6, 3) := by decide +kernel
theorem d_M_with_30 : decode b_M_with 30 = .ok (.iload_n 3, 1) := by decide +kernel
theorem d_M_with_31 : decode b_M_with 31 = .ok (.iconst 2, 1) := by decide +kernel
theorem d_M_with_32 : decode b_M_with 32 = .ok (.idiv, 1) := by decide +kernel
theorem d_M_with_33 : decode b_M_with 33 = .ok (.istore_n 3, 1) := by decide +kernel
theorem d_M_with_34 : decode b_M_with 34 = .ok (.iinc 4 1, 3) := by decide +kernel
theorem d_M_with_37 : decode b_M_with 37 = .ok (.goto (-30), 3) := by decide +kernel
theorem d_M_with_40 : decode b_M_with 40 = .ok (.iload_n 3, 1) := by decide +kernel
theorem d_M_with_41 : decode b_M_with 41 = .ok (.ireturn, 1) := by decide +kernel
theorem d_M_sumOf_0 : decode b_M_sumOf 0 = .ok (.ldc 59, 2) := by decide +kernel
theorem d_M_sumOf_2 : decode b_M_sumOf 2 = .ok (.istore_n 3, 1) := by decide +kernel
theorem d_M_sumOf_3 : decode b_M_sumOf 3 = .ok (.iconst 0, 1) := by decide +kernel
theorem d_M_sumOf_4 : decode b_M_sumOf 4 = .ok (.istore 4, 2) := by decide +kernel
theorem d_M_sumOf_6 : decode b_M_sumOf 6 = .ok (.iload 4, 2) := by decide +kernel
theorem d_M_sumOf_8 : decode b_M_sumOf 8 = .ok (.iload_n 2, 1) := by decide +kernel
theorem d_M_sumOf_9 : decode b_M_sumOf 9 = .ok (.if_icmp .ge 19, 3) := by decide +kernel
theorem d_M_sumOf_12 : decode b_M_sumOf 12 = .ok (.aload_n 0, 1) := by decide +kernel
theorem d_M_sumOf_13 : decode b_M_sumOf 13 = .ok (.iload_n 3, 1) := by decide +kernel
theorem d_M_sumOf_14 : decode b_M_sumOf 14 = .ok (.aload_n 1, 1) := by decide +kernel
theorem d_M_sumOf_15 : decode b_M_sumOf 15 = .ok (.iload 4, 2) := by decide +kernel
theorem d_M_sumOf_17 : decode b_M_sumOf 17 = .ok (.iaload, 1) := by decide +kernel
theorem d_M_sumOf_18 : decode b_M_sumOf 18 = .ok (.invokevirtual 60, 3) := by decide +kernel
theorem d_M_sumOf_21 : decode b_M_sumOf 21 = .ok (.istore_n 3, 1) := by decide +kernel
theorem d_M_sumOf_22 : decode b_M_sumOf 22 = .ok (.iinc 4 1, 3) := by decide +kernel
theorem d_M_sumOf_25 : decode b_M_sumOf 25 = .ok (.goto (-19), 3) := by decide +kernel
theorem d_M_sumOf_28 : decode b_M_sumOf 28 = .ok (.iload_n 3, 1) := by decide +kernel
theorem d_M_sumOf_29 : decode b_M_sumOf 29 = .ok (.ireturn, 1) := by decide +kernel
theorem d_M_sum_0 : decode b_M_sum 0 = .ok (.aload_n 0, 1) := by decide +kernel
theorem d_M_sum_1 : decode b_M_sum 1 = .ok (.iconst 0, 1) := by decide +kernel
theorem d_M_sum_2 : decode b_M_sum 2 = .ok (.putfield 35, 3) := by decide +kernel
theorem d_M_sum_5 : decode b_M_sum 5 = .ok (.iload_n 1, 1) := by decide +kernel
theorem d_M_sum_6 : decode b_M_sum 6 = .ok (.ifCond .lt 9, 3) := by decide +kernel
theorem d_M_sum_9 : decode b_M_sum 9 = .ok (.iload_n 1, 1) := by decide +kernel
theorem d_M_sum_10 : decode b_M_sum 10 = .ok (.bipush 8, 2) := by decide +kernel
theorem d_M_sum_12 : decode b_M_sum 12 = .ok (.if_icmp .le 5, 3) := by decide +kernel
theorem d_M_sum_15 : decode b_M_sum 15 = .ok (.iconst (-1), 1) := by decide +kernel
theorem d_M_sum_16 : decode b_M_sum 16 = .ok (.ireturn, 1) := by decide +kernel
theorem d_M_sum_17 : decode b_M_sum 17 = .ok (.ldc 59, 2) := by decide +kernel
theorem d_M_sum_19 : decode b_M_sum 19 = .ok (.istore 4, 2) := by decide +kernel
theorem d_M_sum_21 : decode b_M_sum 21 = .ok (.iload_n 1, 1) := by decide +kernel
theorem d_M_sum_22 : decode b_M_sum 22 = .ok (.iconst 1, 1) := by decide +kernel
theorem d_M_sum_23 : decode b_M_sum 23 = .ok (.isub, 1) := by decide +kernel
theorem d_M_sum_24 : decode b_M_sum 24 = .ok (.istore 5, 2) := by decide +kernel
theorem d_M_sum_26 : decode b_M_sum 26 = .ok (.iload 5, 2) := by decide +kernel
theorem d_M_sum_28 : decode b_M_sum 28 = .ok (.ifCond .lt 29, 3) := by decide +kernel
theorem d_M_sum_31 : decode b_M_sum 31 = .ok (.aload_n 0, 1) := by decide +kernel
theorem d_M_sum_32 : decode b_M_sum 32 = .ok (.iload 4, 2) := by decide +kernel
theorem d_M_sum_34 : decode b_M_sum 34 = .ok (.lload_n 2, 1) := by decide +kernel
theorem d_M_sum_35 : decode b_M_sum 35 = .ok (.bipush 8, 2) := by decide +kernel
theorem d_M_sum_37 : decode b_M_sum 37 = .ok (.iload 5, 2) := by decide +kernel
theorem d_M_sum_39 : decode b_M_sum 39 = .ok (.imul, 1) := by decide +kernel
theorem d_M_sum_40 : decode b_M_sum 40 = .ok (.lshr, 1) := by decide +kernel
theorem d_M_sum_41 : decode b_M_sum 41 = .ok (.ldc2_w 48, 3) := by decide +kernel
theorem d_M_sum_44 : decode b_M_sum 44 = .ok (.land, 1) := by decide +kernel
theorem d_M_sum_45 : decode b_M_sum 45 = .ok (.l2i, 1) := by decide +kernel
theorem d_M_sum_46 : decode b_M_sum 46 = .ok (.invokevirtual 60, 3) := by decide +kernel
theorem d_M_sum_49 : decode b_M_sum 49 = .ok (.istore 4, 2) := by decide +kernel
theorem d_M_sum_51 : decode b_M_sum 51 = .ok (.iinc 5 (-1), 3) := by decide +kernel
theorem d_M_sum_54 : decode b_M_sum 54 = .ok (.goto (-28), 3) := by decide +kernel
theorem d_M_sum_57 : decode b_M_sum 57 = .ok (.iload 4, 2) := by decide +kernel
theorem d_M_sum_59 : decode b_M_sum 59 = .ok (.ireturn, 1) := by decide +kernel
theorem d_M_data_0 : decode b_M_data 0 = .ok (.aload_n 0, 1) := by decide +kernel
theorem d_M_data_1 : decode b_M_data 1 = .ok (.getfield 22, 3) := by decide +kernel
theorem d_M_data_4 : decode b_M_data 4 = .ok (.iconst 2, 1) := by decide +kernel
theorem d_M_data_5 : decode b_M_data 5 = .ok (.iload_n 1, 1) := by decide +kernel
theorem d_M_data_6 : decode b_M_data 6 = .ok (.iadd, 1) := by decide +kernel
theorem d_M_data_7 : decode b_M_data 7 = .ok (.iaload, 1) := by decide +kernel
theorem d_M_data_8 : decode b_M_data 8 = .ok (.ireturn, 1) := by decide +kernel
theorem d_M_two_0 : decode b_M_two 0 = .ok (.sipush 256, 3) := by decide +kernel
theorem d_M_two_3 : decode b_M_two 3 = .ok (.aload_n 0, 1) := by decide +kernel
theorem d_M_two_4 : decode b_M_two 4 = .ok (.iload_n 1, 1) := by decide +kernel
theorem d_M_two_5 : decode b_M_two 5 = .ok (.invokevirtual 64, 3) := by decide +kernel
theorem d_M_two_8 : decode b_M_two 8 = .ok (.imul, 1) := by decide +kernel
theorem d_M_two_9 : decode b_M_two 9 = .ok (.aload_n 0, 1) := by decide +kernel
theorem d_M_two_10 : decode b_M_two 10 = .ok (.iload_n 1, 1) := by decide +kernel
theorem d_M_two_11 : decode b_M_two 11 = .ok (.iconst 1, 1) := by decide +kernel
theorem d_M_two_12 : decode b_M_two 12 = .ok (.iadd, 1) := by decide +kernel
theorem d_M_two_13 : decode b_M_two 13 = .ok (.invokevirtual 64, 3) := by decide +kernel
theorem d_M_two_16 : decode b_M_two 16 = .ok (.iadd, 1) := by decide +kernel
theorem d_M_two_17 : decode b_M_two 17 = .ok (.ireturn, 1) := by decide +kernel
theorem d_M_ends_0 : decode b_M_ends 0 = .ok (.aload_n 0, 1) := by decide +kernel
theorem d_M_ends_1 : decode b_M_ends 1 = .ok (.iconst 0, 1) := by decide +kernel
theorem d_M_ends_2 : decode b_M_ends 2 = .ok (.putfield 67, 3) := by decide +kernel
theorem d_M_ends_5 : decode b_M_ends 5 = .ok (.aload_n 0, 1) := by decide +kernel
theorem d_M_ends_6 : decode b_M_ends 6 = .ok (.getfield 28, 3) := by decide +kernel
theorem d_M_ends_9 : decode b_M_ends 9 = .ok (.iconst 0, 1) := by decide +kernel
theorem d_M_ends_10 : decode b_M_ends 10 = .ok (.dup2, 1) := by decide +kernel
theorem d_M_ends_11 : decode b_M_ends 11 = .ok (.iaload, 1) := by decide +kernel
theorem d_M_ends_12 : decode b_M_ends 12 = .ok (.iconst 1, 1) := by decide +kernel
theorem d_M_ends_13 : decode b_M_ends 13 = .ok (.iadd, 1) := by decide +kernel
theorem d_M_ends_14 : decode b_M_ends 14 = .ok (.iastore, 1) := by decide +kernel
theorem d_M_ends_15 : decode b_M_ends 15 = .ok (.aload_n 0, 1) := by decide +kernel
theorem d_M_ends_16 : decode b_M_ends 16 = .ok (.getfield 38, 3) := by decide +kernel
theorem d_M_ends_19 : decode b_M_ends 19 = .ok (.ifCond .ne 11, 3) := by decide +kernel
theorem d_M_ends_22 : decode b_M_ends 22 = .ok (.aload_n 0, 1) := by decide +kernel
theorem d_M_ends_23 : decode b_M_ends 23 = .ok (.getfield 42, 3) := by decide +kernel
theorem d_M_ends_26 : decode b_M_ends 26 = .ok (.iconst 4, 1) := by decide +kernel
theorem d_M_ends_27 : decode b_M_ends 27 = .ok (.if_icmp .ge 7, 3) := by decide +kernel
theorem d_M_ends_30 : decode b_M_ends 30 = .ok (.iconst 0, 1) := by decide +kernel
theorem d_M_ends_31 : decode b_M_ends 31 = .ok (.goto 17, 3) := by decide +kernel
theorem d_M_ends_34 : decode b_M_ends 34 = .ok (.aload_n 0, 1) := by decide +kernel
theorem d_M_ends_35 : decode b_M_ends 35 = .ok (.aload_n 0, 1) := by decide +kernel
theorem d_M_ends_36 : decode b_M_ends 36 = .ok (.getfield 22, 3) := by decide +kernel
theorem d_M_ends_39 : decode b_M_ends 39 = .ok (.aload_n 0, 1) := by decide +kernel
theorem d_M_ends_40 : decode b_M_ends 40 = .ok (.getfield 42, 3) := by decide +kernel
theorem d_M_ends_43 : decode b_M_ends 43 = .ok (.iconst 2, 1) := by decide +kernel
theorem d_M_ends_44 : decode b_M_ends 44 = .ok (.isub, 1) := by decide +kernel
theorem d_M_ends_45 : decode b_M_ends 45 = .ok (.invokevirtual 70, 3) := by decide +kernel
theorem d_M_ends_48 : decode b_M_ends 48 = .ok (.istore_n 1, 1) := by decide +kernel
theorem d_M_ends_49 : decode b_M_ends 49 = .ok (.aload_n 0, 1) := by decide +kernel
theorem d_M_ends_50 : decode b_M_ends 50 = .ok (.getfield 38, 3) := by decide +kernel
theorem d_M_ends_53 : decode b_M_ends 53 = .ok (.ifCond .ne 49, 3) := by decide +kernel
theorem d_M_ends_56 : decode b_M_ends 56 = .ok (.aload_n 0, 1) := by decide +kernel
theorem d_M_ends_57 : decode b_M_ends 57 = .ok (.getfield 42, 3) := by decide +kernel
theorem d_M_ends_60 : decode b_M_ends 60 = .ok (.iconst 4, 1) := by decide +kernel
theorem d_M_ends_61 : decode b_M_ends 61 = .ok (.if_icmp .lt 41, 3) := by decide +kernel
theorem d_M_ends_64 : decode b_M_ends 64 = .ok (.aload_n 0, 1) := by decide +kernel
theorem d_M_ends_65 : decode b_M_ends 65 = .ok (.getfield 22, 3) := by decide +kernel
theorem d_M_ends_68 : decode b_M_ends 68 = .ok (.aload_n 0, 1) := by decide +kernel
theorem d_M_ends_69 : decode b_M_ends 69 = .ok (.getfield 42, 3) := by decide +kernel
theorem d_M_ends_72 : decode b_M_ends 72 = .ok (.iconst 2, 1) := by decide +kernel
theorem d_M_ends_73 : decode b_M_ends 73 = .ok (.isub, 1) := by decide +kernel
theorem d_M_ends_74 : decode b_M_ends 74 = .ok (.iaload, 1) := by decide +kernel
theorem d_M_ends_75 : decode b_M_ends 75 = .ok (.iload_n 1, 1) := by decide +kernel
theorem d_M_ends_76 : decode b_M_ends 76 = .ok (.sipush 256, 3) := by decide +kernel
theorem d_M_ends_79 : decode b_M_ends 79 = .ok (.irem, 1) := by decide +kernel
theorem d_M_ends_80 : decode b_M_ends 80 = .ok (.if_icmp .ne 22, 3) := by decide +kernel
theorem d_M_ends_83 : decode b_M_ends 83 = .ok (.aload_n 0, 1) := by decide +kernel
theorem d_M_ends_84 : decode b_M_ends 84 = .ok (.getfield 22, 3) := by decide +kernel
theorem d_M_ends_87 : decode b_M_ends 87 = .ok (.aload_n 0, 1) := by decide +kernel
theorem d_M_ends_88 : decode b_M_ends 88 = .ok (.getfield 42, 3) := by decide +kernel
theorem d_M_ends_91 : decode b_M_ends 91 = .ok (.iconst 1, 1) := by decide +kernel
theorem d_M_ends_92 : decode b_M_ends 92 = .ok (.isub, 1) := by decide +kernel
theorem d_M_ends_93 : decode b_M_ends 93 = .ok (.iaload, 1) := by decide +kernel
theorem d_M_ends_94 : decode b_M_ends 94 = .ok (.iload_n 1, 1) := by decide +kernel
theorem d_M_ends_95 : decode b_M_ends 95 = .ok (.sipush 256, 3) := by decide +kernel
theorem d_M_ends_98 : decode b_M_ends 98 = .ok (.idiv, 1) := by decide +kernel
theorem d_M_ends_99 : decode b_M_ends 99 = .ok (.if_icmp .eq 15, 3) := by decide +kernel
theorem d_M_ends_102 : decode b_M_ends 102 = .ok (.aload_n 0, 1) := by decide +kernel
theorem d_M_ends_103 : decode b_M_ends 103 = .ok (.getfield 28, 3) := by decide +kernel
theorem d_M_ends_106 : decode b_M_ends 106 = .ok (.iconst 1, 1) := by decide +kernel
theorem d_M_ends_107 : decode b_M_ends 107 = .ok (.dup2, 1) := by decide +kernel
theorem d_M_ends_108 : decode b_M_ends 108 = .ok (.iaload, 1) := by decide +kernel
theorem d_M_ends_109 : decode b_M_ends 109 = .ok (.iconst 1, 1) := by decide +kernel
theorem d_M_ends_110 : decode b_M_ends 110 = .ok (.iadd, 1) := by decide +kernel
theorem d_M_ends_111 : decode b_M_ends 111 = .ok (.iastore, 1) := by decide +kernel
theorem d_M_ends_112 : decode b_M_ends 112 = .ok (.iconst 0, 1) := by decide +kernel
theorem d_M_ends_113 : decode b_M_ends 113 = .ok (.ireturn, 1) := by decide +kernel
theorem d_M_ends_114 : decode b_M_ends 114 = .ok (.aload_n 0, 1) := by decide +kernel
theorem d_M_ends_115 : decode b_M_ends 115 = .ok (.getfield 22, 3) := by decide +kernel
theorem d_M_ends_118 : decode b_M_ends 118 = .ok (.iconst 0, 1) := by decide +kernel
theorem d_M_ends_119 : decode b_M_ends 119 = .ok (.iaload, 1) := by decide +kernel
theorem d_M_ends_120 : decode b_M_ends 120 = .ok (.ifCond .eq 28, 3) := by decide +kernel
theorem d_M_ends_123 : decode b_M_ends 123 = .ok (.aload_n 0, 1) := by decide +kernel
theorem d_M_ends_124 : decode b_M_ends 124 = .ok (.getfield 22, 3) := by decide +kernel
theorem d_M_ends_127 : decode b_M_ends 127 = .ok (.iconst 0, 1) := by decide +kernel
theorem d_M_ends_128 : decode b_M_ends 128 = .ok (.iaload, 1) := by decide +kernel
theorem d_M_ends_129 : decode b_M_ends 129 = .ok (.aload_n 0, 1) := by decide +kernel
theorem d_M_ends_130 : decode b_M_ends 130 = .ok (.getfield 31, 3) := by decide +kernel
theorem d_M_ends_133 : decode b_M_ends 133 = .ok (.if_icmp .eq 15, 3) := by decide +kernel
theorem d_M_ends_136 : decode b_M_ends 136 = .ok (.aload_n 0, 1) := by decide +kernel
theorem d_M_ends_137 : decode b_M_ends 137 = .ok (.getfield 28, 3) := by decide +kernel
theorem d_M_ends_140 : decode b_M_ends 140 = .ok (.iconst 2, 1) := by decide +kernel
theorem d_M_ends_141 : decode b_M_ends 141 = .ok (.dup2, 1) := by decide +kernel
theorem d_M_ends_142 : decode b_M_ends 142 = .ok (.iaload, 1) := by decide +kernel
theorem d_M_ends_143 : decode b_M_ends 143 = .ok (.iconst 1, 1) := by decide +kernel
theorem d_M_ends_144 : decode b_M_ends 144 = .ok (.iadd, 1) := by decide +kernel
theorem d_M_ends_145 : decode b_M_ends 145 = .ok (.iastore, 1) := by decide +kernel
theorem d_M_ends_146 : decode b_M_ends 146 = .ok (.iconst 0, 1) := by decide +kernel
theorem d_M_ends_147 : decode b_M_ends 147 = .ok (.ireturn, 1) := by decide +kernel
theorem d_M_ends_148 : decode b_M_ends 148 = .ok (.aload_n 0, 1) := by decide +kernel
theorem d_M_ends_149 : decode b_M_ends 149 = .ok (.aload_n 0, 1) := by decide +kernel
theorem d_M_ends_150 : decode b_M_ends 150 = .ok (.getfield 22, 3) := by decide +kernel
theorem d_M_ends_153 : decode b_M_ends 153 = .ok (.iconst 1, 1) := by decide +kernel
theorem d_M_ends_154 : decode b_M_ends 154 = .ok (.iaload, 1) := by decide +kernel
theorem d_M_ends_155 : decode b_M_ends 155 = .ok (.aload_n 0, 1) := by decide +kernel
theorem d_M_ends_156 : decode b_M_ends 156 = .ok (.getfield 42, 3) := by decide +kernel
theorem d_M_ends_159 : decode b_M_ends 159 = .ok (.iconst 4, 1) := by decide +kernel
theorem d_M_ends_160 : decode b_M_ends 160 = .ok (.isub, 1) := by decide +kernel
theorem d_M_ends_161 : decode b_M_ends 161 = .ok (.invokevirtual 74, 3) := by decide +kernel
theorem d_M_ends_164 : decode b_M_ends 164 = .ok (.istore_n 2, 1) := by decide +kernel
theorem d_M_ends_165 : decode b_M_ends 165 = .ok (.aload_n 0, 1) := by decide +kernel
theorem d_M_ends_166 : decode b_M_ends 166 = .ok (.getfield 28, 3) := by decide +kernel
theorem d_M_ends_169 : decode b_M_ends 169 = .ok (.iload_n 2, 1) := by decide +kernel
theorem d_M_ends_170 : decode b_M_ends 170 = .ok (.ifCond .le 7, 3) := by decide +kernel
theorem d_M_ends_173 : decode b_M_ends 173 = .ok (.iconst 3, 1) := by decide +kernel
theorem d_M_ends_174 : decode b_M_ends 174 = .ok (.goto 4, 3) := by decide +kernel
theorem d_M_ends_177 : decode b_M_ends 177 = .ok (.iconst 4, 1) := by decide +kernel
theorem d_M_ends_178 : decode b_M_ends 178 = .ok (.dup2, 1) := by decide +kernel
theorem d_M_ends_179 : decode b_M_ends 179 = .ok (.iaload, 1) := by decide +kernel
theorem d_M_ends_180 : decode b_M_ends 180 = .ok (.iconst 1, 1) := by decide +kernel
theorem d_M_ends_181 : decode b_M_ends 181 = .ok (.iadd, 1) := by decide +kernel
theorem d_M_ends_182 : decode b_M_ends 182 = .ok (.iastore, 1) := by decide +kernel
theorem d_M_ends_183 : decode b_M_ends 183 = .ok (.iload_n 2, 1) := by decide +kernel
theorem d_M_ends_184 : decode b_M_ends 184 = .ok (.ifCond .ne 13, 3) := by decide +kernel
theorem d_M_ends_187 : decode b_M_ends 187 = .ok (.aload_n 0, 1) := by decide +kernel
theorem d_M_ends_188 : decode b_M_ends 188 = .ok (.aload_n 0, 1) := by decide +kernel
theorem d_M_ends_189 : decode b_M_ends 189 = .ok (.getfield 22, 3) := by decide +kernel
theorem d_M_ends_192 : decode b_M_ends 192 = .ok (.iconst 1, 1) := by decide +kernel
theorem d_M_ends_193 : decode b_M_ends 193 = .ok (.iaload, 1) := by decide +kernel
theorem d_M_ends_194 : decode b_M_ends 194 = .ok (.invokevirtual 77, 3) := by decide +kernel
theorem d_M_ends_197 : decode b_M_ends 197 = .ok (.aload_n 0, 1) := by decide +kernel
theorem d_M_ends_198 : decode b_M_ends 198 = .ok (.getfield 22, 3) := by decide +kernel
theorem d_M_ends_201 : decode b_M_ends 201 = .ok (.iconst 0, 1) := by decide +kernel
theorem d_M_ends_202 : decode b_M_ends 202 = .ok (.iaload, 1) := by decide +kernel
theorem d_M_ends_203 : decode b_M_ends 203 = .ok (.ifCond .ne 5, 3) := by decide +kernel
theorem d_M_ends_206 : decode b_M_ends 206 = .ok (.iconst 0, 1) := by decide +kernel
theorem d_M_ends_207 : decode b_M_ends 207 = .ok (.ireturn, 1) := by decide +kernel
theorem d_M_ends_208 : decode b_M_ends 208 = .ok (.aload_n 0, 1) := by decide +kernel
theorem d_M_ends_209 : decode b_M_ends 209 = .ok (.getfield 28, 3) := by decide +kernel
theorem d_M_ends_212 : decode b_M_ends 212 = .ok (.iconst 5, 1) := by decide +kernel
theorem d_M_ends_213 : decode b_M_ends 213 = .ok (.dup2, 1) := by decide +kernel
theorem d_M_ends_214 : decode b_M_ends 214 = .ok (.iaload, 1) := by decide +kernel
theorem d_M_ends_215 : decode b_M_ends 215 = .ok (.iconst 1, 1) := by decide +kernel
theorem d_M_ends_216 : decode b_M_ends 216 = .ok (.iadd, 1) := by decide +kernel
theorem d_M_ends_217 : decode b_M_ends 217 = .ok (.iastore, 1) := by decide +kernel
theorem d_M_ends_218 : decode b_M_ends 218 = .ok (.aload_n 0, 1) := by decide +kernel
theorem d_M_ends_219 : decode b_M_ends 219 = .ok (.aload_n 0, 1) := by decide +kernel
theorem d_M_ends_220 : decode b_M_ends 220 = .ok (.getfield 31, 3) := by decide +kernel
theorem d_M_ends_223 : decode b_M_ends 223 = .ok (.invokevirtual 81, 3) := by decide +kernel
theorem d_M_ends_226 : decode b_M_ends 226 = .ok (.iload_n 2, 1) := by decide +kernel
theorem d_M_ends_227 : decode b_M_ends 227 = .ok (.ifCond .le 29, 3) := by decide +kernel
theorem d_M_ends_230 : decode b_M_ends 230 = .ok (.aload_n 0, 1) := by decide +kernel
theorem d_M_ends_231 : decode b_M_ends 231 = .ok (.aload_n 0, 1) := by decide +kernel
theorem d_M_ends_232 : decode b_M_ends 232 = .ok (.getfield 22, 3) := by decide +kernel
theorem d_M_ends_235 : decode b_M_ends 235 = .ok (.iconst 1, 1) := by decide +kernel
theorem d_M_ends_236 : decode b_M_ends 236 = .ok (.iaload, 1) := by decide +kernel
theorem d_M_ends_237 : decode b_M_ends 237 = .ok (.sipush 128, 3) := by decide +kernel
theorem d_M_ends_240 : decode b_M_ends 240 = .ok (.irem, 1) := by decide +kernel
theorem d_M_ends_241 : decode b_M_ends 241 = .ok (.sipush 128, 3) := by decide +kernel
theorem d_M_ends_244 : decode b_M_ends 244 = .ok (.iadd, 1) := by decide +kernel
theorem d_M_ends_245 : decode b_M_ends 245 = .ok (.invokevirtual 81, 3) := by decide +kernel
theorem d_M_ends_248 : decode b_M_ends 248 = .ok (.aload_n 0, 1) := by decide +kernel
theorem d_M_ends_249 : decode b_M_ends 249 = .ok (.iload_n 2, 1) := by decide +kernel
theorem d_M_ends_250 : decode b_M_ends 250 = .ok (.invokevirtual 81, 3) := by decide +kernel
theorem d_M_ends_253 : decode b_M_ends 253 = .ok (.goto 13, 3) := by decide +kernel
theorem d_M_ends_256 : decode b_M_ends 256 = .ok (.aload_n 0, 1) := by decide +kernel
theorem d_M_ends_257 : decode b_M_ends 257 = .ok (.aload_n 0, 1) := by decide +kernel
theorem d_M_ends_258 : decode b_M_ends 258 = .ok (.getfield 22, 3) := by decide +kernel
theorem d_M_ends_261 : decode b_M_ends 261 = .ok (.iconst 1, 1) := by decide +kernel
theorem d_M_ends_262 : decode b_M_ends 262 = .ok (.iaload, 1) := by decide +kernel
theorem d_M_ends_263 : decode b_M_ends 263 = .ok (.invokevirtual 84, 3) := by decide +kernel
theorem d_M_ends_266 : decode b_M_ends 266 = .ok (.aload_n 0, 1) := by decide +kernel
theorem d_M_ends_267 : decode b_M_ends 267 = .ok (.aload_n 0, 1) := by decide +kernel
theorem d_M_ends_268 : decode b_M_ends 268 = .ok (.getfield 25, 3) := by decide +kernel
theorem d_M_ends_271 : decode b_M_ends 271 = .ok (.aload_n 0, 1) := by decide +kernel
theorem d_M_ends_272 : decode b_M_ends 272 = .ok (.getfield 67, 3) := by decide +kernel
theorem d_M_ends_275 : decode b_M_ends 275 = .ok (.invokevirtual 70, 3) := by decide +kernel
theorem d_M_ends_278 : decode b_M_ends 278 = .ok (.istore_n 3, 1) := by decide +kernel
theorem d_M_ends_279 : decode b_M_ends 279 = .ok (.aload_n 0, 1) := by decide +kernel
theorem d_M_ends_280 : decode b_M_ends 280 = .ok (.iload_n 3, 1) := by decide +kernel
theorem d_M_ends_281 : decode b_M_ends 281 = .ok (.sipush 256, 3) := by decide +kernel
theorem d_M_ends_284 : decode b_M_ends 284 = .ok (.irem, 1) := by decide +kernel
theorem d_M_ends_285 : decode b_M_ends 285 = .ok (.invokevirtual 81, 3) := by decide +kernel
theorem d_M_ends_288 : decode b_M_ends 288 = .ok (.aload_n 0, 1) := by decide +kernel
theorem d_M_ends_289 : decode b_M_ends 289 = .ok (.iload_n 3, 1) := by decide +kernel
theorem d_M_ends_290 : decode b_M_ends 290 = .ok (.sipush 256, 3) := by decide +kernel
theorem d_M_ends_293 : decode b_M_ends 293 = .ok (.idiv, 1) := by decide +kernel
theorem d_M_ends_294 : decode b_M_ends 294 = .ok (.invokevirtual 81, 3) := by decide +kernel
theorem d_M_ends_297 : decode b_M_ends 297 = .ok (.aload_n 0, 1) := by decide +kernel
theorem d_M_ends_298 : decode b_M_ends 298 = .ok (.getfield 67, 3) := by decide +kernel
theorem d_M_ends_301 : decode b_M_ends 301 = .ok (.ireturn, 1) := by decide +kernel
theorem d_M_add_0 : decode b_M_add 0 = .ok (.aload_n 0, 1) := by decide +kernel
theorem d_M_add_1 : decode b_M_add 1 = .ok (.getfield 25, 3) := by decide +kernel
theorem d_M_add_4 : decode b_M_add 4 = .ok (.aload_n 0, 1) := by decide +kernel
theorem d_M_add_5 : decode b_M_add 5 = .ok (.getfield 67, 3) := by decide +kernel
theorem d_M_add_8 : decode b_M_add 8 = .ok (.iload_n 1, 1) := by decide +kernel
theorem d_M_add_9 : decode b_M_add 9 = .ok (.iastore, 1) := by decide +kernel
theorem d_M_add_10 : decode b_M_add 10 = .ok (.aload_n 0, 1) := by decide +kernel
theorem d_M_add_11 : decode b_M_add 11 = .ok (.dup, 1) := by decide +kernel
theorem d_M_add_12 : decode b_M_add 12 = .ok (.getfield 67, 3) := by decide +kernel
theorem d_M_add_15 : decode b_M_add 15 = .ok (.iconst 1, 1) := by decide +kernel
theorem d_M_add_16 : decode b_M_add 16 = .ok (.iadd, 1) := by decide +kernel
theorem d_M_add_17 : decode b_M_add 17 = .ok (.putfield 67, 3) := by decide +kernel
theorem d_M_add_20 : decode b_M_add 20 = .ok (.return_, 1) := by decide +kernel
theorem d_M_table_0 : decode b_M_table 0 = .ok (.iload_n 1, 1) := by decide +kernel
theorem d_M_table_1 : decode b_M_table 1 = .ok (.iconst 2, 1) := by decide +kernel
theorem d_M_table_2 : decode b_M_table 2 = .ok (.if_icmp .ne 10, 3) := by decide +kernel
theorem d_M_table_5 : decode b_M_table 5 = .ok (.aload_n 0, 1) := by decide +kernel
theorem d_M_table_6 : decode b_M_table 6 = .ok (.getfield 13, 3) := by decide +kernel
theorem d_M_table_9 : decode b_M_table 9 = .ok (.goto 42, 3) := by decide +kernel
theorem d_M_table_12 : decode b_M_table 12 = .ok (.iload_n 1, 1) := by decide +kernel
theorem d_M_table_13 : decode b_M_table 13 = .ok (.iconst 4, 1) := by decide +kernel
theorem d_M_table_14 : decode b_M_table 14 = .ok (.if_icmp .ne 10, 3) := by decide +kernel
theorem d_M_table_17 : decode b_M_table 17 = .ok (.aload_n 0, 1) := by decide +kernel
theorem d_M_table_18 : decode b_M_table 18 = .ok (.getfield 19, 3) := by decide +kernel
theorem d_M_table_21 : decode b_M_table 21 = .ok (.goto 30, 3) := by decide +kernel
theorem d_M_table_24 : decode b_M_table 24 = .ok (.iload_n 1, 1) := by decide +kernel
theorem d_M_table_25 : decode b_M_table 25 = .ok (.iconst 1, 1) := by decide +kernel
theorem d_M_table_26 : decode b_M_table 26 = .ok (.if_icmp .eq 14, 3) := by decide +kernel
theorem d_M_table_29 : decode b_M_table 29 = .ok (.iload_n 1, 1) := by decide +kernel
theorem d_M_table_30 : decode b_M_table 30 = .ok (.iconst 5, 1) := by decide +kernel
theorem d_M_table_31 : decode b_M_table 31 = .ok (.if_icmp .eq 9, 3) := by decide +kernel
theorem d_M_table_34 : decode b_M_table 34 = .ok (.iload_n 1, 1) := by decide +kernel
theorem d_M_table_35 : decode b_M_table 35 = .ok (.bipush 15, 2) := by decide +kernel
theorem d_M_table_37 : decode b_M_table 37 = .ok (.if_icmp .ne 10, 3) := by decide +kernel
theorem d_M_table_40 : decode b_M_table 40 = .ok (.aload_n 0, 1) := by decide +kernel
theorem d_M_table_41 : decode b_M_table 41 = .ok (.getfield 7, 3) := by decide +kernel
theorem d_M_table_44 : decode b_M_table 44 = .ok (.goto 7, 3) := by decide +kernel
theorem d_M_table_47 : decode b_M_table 47 = .ok (.aload_n 0, 1) := by decide +kernel
theorem d_M_table_48 : decode b_M_table 48 = .ok (.getfield 16, 3) := by decide +kernel
theorem d_M_table_51 : decode b_M_table 51 = .ok (.areturn, 1) := by decide +kernel
theorem d_M_why_0 : decode b_M_why 0 = .ok (.iload_n 1, 1) := by decide +kernel
theorem d_M_why_1 : decode b_M_why 1 = .ok (.iconst 1, 1) := by decide +kernel
theorem d_M_why_2 : decode b_M_why 2 = .ok (.if_icmp .lt 9, 3) := by decide +kernel
theorem d_M_why_5 : decode b_M_why 5 = .ok (.iload_n 1, 1) := by decide +kernel
theorem d_M_why_6 : decode b_M_why 6 = .ok (.bipush 6, 2) := by decide +kernel
theorem d_M_why_8 : decode b_M_why 8 = .ok (.if_icmp .le 15, 3) := by decide +kernel
theorem d_M_why_11 : decode b_M_why 11 = .ok (.iload_n 1, 1) := by decide +kernel
theorem d_M_why_12 : decode b_M_why 12 = .ok (.bipush 15, 2) := by decide +kernel
theorem d_M_why_14 : decode b_M_why 14 = .ok (.if_icmp .eq 9, 3) := by decide +kernel
theorem d_M_why_17 : decode b_M_why 17 = .ok (.iload_n 1, 1) := by decide +kernel
theorem d_M_why_18 : decode b_M_why 18 = .ok (.bipush 16, 2) := by decide +kernel
theorem d_M_why_20 : decode b_M_why 20 = .ok (.if_icmp .ne 7, 3) := by decide +kernel
theorem d_M_why_23 : decode b_M_why 23 = .ok (.iconst 1, 1) := by decide +kernel
theorem d_M_why_24 : decode b_M_why 24 = .ok (.goto 4, 3) := by decide +kernel
theorem d_M_why_27 : decode b_M_why 27 = .ok (.iconst 0, 1) := by decide +kernel
theorem d_M_why_28 : decode b_M_why 28 = .ok (.istore_n 3, 1) := by decide +kernel
theorem d_M_why_29 : decode b_M_why 29 = .ok (.iload_n 3, 1) := by decide +kernel
theorem d_M_why_30 : decode b_M_why 30 = .ok (.ifCond .ne 5, 3) := by decide +kernel
theorem d_M_why_33 : decode b_M_why 33 = .ok (.iconst 1, 1) := by decide +kernel
theorem d_M_why_34 : decode b_M_why 34 = .ok (.ireturn, 1) := by decide +kernel
theorem d_M_why_35 : decode b_M_why 35 = .ok (.iload_n 1, 1) := by decide +kernel
theorem d_M_why_36 : decode b_M_why 36 = .ok (.bipush 7, 2) := by decide +kernel
theorem d_M_why_38 : decode b_M_why 38 = .ok (.if_icmp .ge 11, 3) := by decide +kernel
theorem d_M_why_41 : decode b_M_why 41 = .ok (.iload_n 2, 1) := by decide +kernel
theorem d_M_why_42 : decode b_M_why 42 = .ok (.iconst 4, 1) := by decide +kernel
theorem d_M_why_43 : decode b_M_why 43 = .ok (.if_icmp .eq 25, 3) := by decide +kernel
theorem d_M_why_46 : decode b_M_why 46 = .ok (.goto 20, 3) := by decide +kernel
theorem d_M_why_49 : decode b_M_why 49 = .ok (.iload_n 2, 1) := by decide +kernel
theorem d_M_why_50 : decode b_M_why 50 = .ok (.bipush 6, 2) := by decide +kernel
theorem d_M_why_52 : decode b_M_why 52 = .ok (.if_icmp .lt 14, 3) := by decide +kernel
theorem d_M_why_55 : decode b_M_why 55 = .ok (.iload_n 2, 1) := by decide +kernel
theorem d_M_why_56 : decode b_M_why 56 = .ok (.iconst 5, 1) := by decide +kernel
theorem d_M_why_57 : decode b_M_why 57 = .ok (.aload_n 0, 1) := by decide +kernel
theorem d_M_why_58 : decode b_M_why 58 = .ok (.iconst 4, 1) := by decide +kernel
theorem d_M_why_59 : decode b_M_why 59 = .ok (.invokevirtual 64, 3) := by decide +kernel
theorem d_M_why_62 : decode b_M_why 62 = .ok (.iadd, 1) := by decide +kernel
theorem d_M_why_63 : decode b_M_why 63 = .ok (.if_icmp .eq 5, 3) := by decide +kernel
theorem d_M_why_66 : decode b_M_why 66 = .ok (.iconst 3, 1) := by decide +kernel
theorem d_M_why_67 : decode b_M_why 67 = .ok (.ireturn, 1) := by decide +kernel
theorem d_M_why_68 : decode b_M_why 68 = .ok (.aload_n 0, 1) := by decide +kernel
theorem d_M_why_69 : decode b_M_why 69 = .ok (.iconst 2, 1) := by decide +kernel
theorem d_M_why_70 : decode b_M_why 70 = .ok (.invokevirtual 87, 3) := by decide +kernel
theorem d_M_why_73 : decode b_M_why 73 = .ok (.istore 4, 2) := by decide +kernel
theorem d_M_why_75 : decode b_M_why 75 = .ok (.iload_n 1, 1) := by decide +kernel
theorem d_M_why_76 : decode b_M_why 76 = .ok (.tableswitch 224 1 16 #[80, 80, 104, 104, 127, 224, 224, 224, 224, 224, 224, 224, 224, 224, 149, 189], 80) := by decide +kernel
theorem d_M_why_156 : decode b_M_why 156 = .ok (.iload 4, 2) := by decide +kernel
theorem d_M_why_158 : decode b_M_why 158 = .ok (.iconst 1, 1) := by decide +kernel
theorem d_M_why_159 : decode b_M_why 159 = .ok (.if_icmp .lt 11, 3) := by decide +kernel
theorem d_M_why_162 : decode b_M_why 162 = .ok (.iload 4, 2) := by decide +kernel
theorem d_M_why_164 : decode b_M_why 164 = .ok (.sipush 2000, 3) := by decide +kernel
theorem d_M_why_167 : decode b_M_why 167 = .ok (.if_icmp .le 7, 3) := by decide +kernel
theorem d_M_why_170 : decode b_M_why 170 = .ok (.iconst 1, 1) := by decide +kernel
theorem d_M_why_171 : decode b_M_why 171 = .ok (.goto 4, 3) := by decide +kernel
theorem d_M_why_174 : decode b_M_why 174 = .ok (.iconst 0, 1) := by decide +kernel
theorem d_M_why_175 : decode b_M_why 175 = .ok (.istore 5, 2) := by decide +kernel
theorem d_M_why_177 : decode b_M_why 177 = .ok (.goto 126, 3) := by decide +kernel
theorem d_M_why_180 : decode b_M_why 180 = .ok (.iload 4, 2) := by decide +kernel
theorem d_M_why_182 : decode b_M_why 182 = .ok (.iconst 1, 1) := by decide +kernel
theorem d_M_why_183 : decode b_M_why 183 = .ok (.if_icmp .lt 10, 3) := by decide +kernel
theorem d_M_why_186 : decode b_M_why 186 = .ok (.iload 4, 2) := by decide +kernel
theorem d_M_why_188 : decode b_M_why 188 = .ok (.bipush 125, 2) := by decide +kernel
theorem d_M_why_190 : decode b_M_why 190 = .ok (.if_icmp .le 7, 3) := by decide +kernel
theorem d_M_why_193 : decode b_M_why 193 = .ok (.iconst 1, 1) := by decide +kernel
theorem d_M_why_194 : decode b_M_why 194 = .ok (.goto 4, 3) := by decide +kernel
theorem d_M_why_197 : decode b_M_why 197 = .ok (.iconst 0, 1) := by decide +kernel
theorem d_M_why_198 : decode b_M_why 198 = .ok (.istore 5, 2) := by decide +kernel
theorem d_M_why_200 : decode b_M_why 200 = .ok (.goto 103, 3) := by decide +kernel
theorem d_M_why_203 : decode b_M_why 203 = .ok (.iload 4, 2) := by decide +kernel
theorem d_M_why_205 : decode b_M_why 205 = .ok (.ifCond .eq 14, 3) := by decide +kernel
theorem d_M_why_208 : decode b_M_why 208 = .ok (.iload 4, 2) := by decide +kernel
theorem d_M_why_210 : decode b_M_why 210 = .ok (.ldc 90, 2) := by decide +kernel
theorem d_M_why_212 : decode b_M_why 212 = .ok (.if_icmp .eq 7, 3) := by decide +kernel
theorem d_M_why_215 : decode b_M_why 215 = .ok (.iconst 1, 1) := by decide +kernel
theorem d_M_why_216 : decode b_M_why 216 = .ok (.goto 4, 3) := by decide +kernel
theorem d_M_why_219 : decode b_M_why 219 = .ok (.iconst 0, 1) := by decide +kernel
theorem d_M_why_220 : decode b_M_why 220 = .ok (.istore 5, 2) := by decide +kernel
theorem d_M_why_222 : decode b_M_why 222 = .ok (.goto 81, 3) := by decide +kernel
theorem d_M_why_225 : decode b_M_why 225 = .ok (.iload 4, 2) := by decide +kernel
theorem d_M_why_227 : decode b_M_why 227 = .ok (.iconst 1, 1) := by decide +kernel
theorem d_M_why_228 : decode b_M_why 228 = .ok (.if_icmp .lt 27, 3) := by decide +kernel
theorem d_M_why_231 : decode b_M_why 231 = .ok (.iload 4, 2) := by decide +kernel
theorem d_M_why_233 : decode b_M_why 233 = .ok (.sipush 1968, 3) := by decide +kernel
theorem d_M_why_236 : decode b_M_why 236 = .ok (.if_icmp .gt 19, 3) := by decide +kernel
theorem d_M_why_239 : decode b_M_why 239 = .ok (.aload_n 0, 1) := by decide +kernel
theorem d_M_why_240 : decode b_M_why 240 = .ok (.iconst 4, 1) := by decide +kernel
theorem d_M_why_241 : decode b_M_why 241 = .ok (.invokevirtual 64, 3) := by decide +kernel
theorem d_M_why_244 : decode b_M_why 244 = .ok (.iload 4, 2) := by decide +kernel
theorem d_M_why_246 : decode b_M_why 246 = .ok (.bipush 7, 2) := by decide +kernel
theorem d_M_why_248 : decode b_M_why 248 = .ok (.iadd, 1) := by decide +kernel
theorem d_M_why_249 : decode b_M_why 249 = .ok (.bipush 8, 2) := by decide +kernel
theorem d_M_why_251 : decode b_M_why 251 = .ok (.idiv, 1) := by decide +kernel
theorem d_M_why_252 : decode b_M_why 252 = .ok (.if_icmp .eq 7, 3) := by decide +kernel
theorem d_M_why_255 : decode b_M_why 255 = .ok (.iconst 1, 1) := by decide +kernel
theorem d_M_why_256 : decode b_M_why 256 = .ok (.goto 4, 3) := by decide +kernel
theorem d_M_why_259 : decode b_M_why 259 = .ok (.iconst 0, 1) := by decide +kernel
theorem d_M_why_260 : decode b_M_why 260 = .ok (.istore 5, 2) := by decide +kernel
theorem d_M_why_262 : decode b_M_why 262 = .ok (.goto 41, 3) := by decide +kernel
theorem d_M_why_265 : decode b_M_why 265 = .ok (.iload 4, 2) := by decide +kernel
theorem d_M_why_267 : decode b_M_why 267 = .ok (.iconst 1, 1) := by decide +kernel
theorem d_M_why_268 : decode b_M_why 268 = .ok (.if_icmp .lt 22, 3) := by decide +kernel
theorem d_M_why_271 : decode b_M_why 271 = .ok (.iload 4, 2) := by decide +kernel
theorem d_M_why_273 : decode b_M_why 273 = .ok (.bipush 123, 2) := by decide +kernel
theorem d_M_why_275 : decode b_M_why 275 = .ok (.if_icmp .gt 15, 3) := by decide +kernel
theorem d_M_why_278 : decode b_M_why 278 = .ok (.aload_n 0, 1) := by decide +kernel
theorem d_M_why_279 : decode b_M_why 279 = .ok (.iconst 4, 1) := by decide +kernel
theorem d_M_why_280 : decode b_M_why 280 = .ok (.invokevirtual 64, 3) := by decide +kernel
theorem d_M_why_283 : decode b_M_why 283 = .ok (.iconst 2, 1) := by decide +kernel
theorem d_M_why_284 : decode b_M_why 284 = .ok (.iload 4, 2) := by decide +kernel
theorem d_M_why_286 : decode b_M_why 286 = .ok (.imul, 1) := by decide +kernel
theorem d_M_why_287 : decode b_M_why 287 = .ok (.if_icmp .eq 7, 3) := by decide +kernel
theorem d_M_why_290 : decode b_M_why 290 = .ok (.iconst 1, 1) := by decide +kernel
theorem d_M_why_291 : decode b_M_why 291 = .ok (.goto 4, 3) := by decide +kernel
theorem d_M_why_294 : decode b_M_why 294 = .ok (.iconst 0, 1) := by decide +kernel
theorem d_M_why_295 : decode b_M_why 295 = .ok (.istore 5, 2) := by decide +kernel
theorem d_M_why_297 : decode b_M_why 297 = .ok (.goto 6, 3) := by decide +kernel
theorem d_M_why_300 : decode b_M_why 300 = .ok (.iconst 0, 1) := by decide +kernel
theorem d_M_why_301 : decode b_M_why 301 = .ok (.istore 5, 2) := by decide +kernel
theorem d_M_why_303 : decode b_M_why 303 = .ok (.iload 5, 2) := by decide +kernel
theorem d_M_why_305 : decode b_M_why 305 = .ok (.ifCond .eq 5, 3) := by decide +kernel
theorem d_M_why_308 : decode b_M_why 308 = .ok (.iconst 3, 1) := by decide +kernel
theorem d_M_why_309 : decode b_M_why 309 = .ok (.ireturn, 1) := by decide +kernel
theorem d_M_why_310 : decode b_M_why 310 = .ok (.iload_n 1, 1) := by decide +kernel
theorem d_M_why_311 : decode b_M_why 311 = .ok (.iconst 5, 1) := by decide +kernel
theorem d_M_why_312 : decode b_M_why 312 = .ok (.if_icmp .eq 9, 3) := by decide +kernel
theorem d_M_why_315 : decode b_M_why 315 = .ok (.iload_n 1, 1) := by decide +kernel
theorem d_M_why_316 : decode b_M_why 316 = .ok (.bipush 6, 2) := by decide +kernel
theorem d_M_why_318 : decode b_M_why 318 = .ok (.if_icmp .ne 7, 3) := by decide +kernel
theorem d_M_why_321 : decode b_M_why 321 = .ok (.iconst 1, 1) := by decide +kernel
theorem d_M_why_322 : decode b_M_why 322 = .ok (.goto 5, 3) := by decide +kernel
theorem d_M_why_325 : decode b_M_why 325 = .ok (.iload 4, 2) := by decide +kernel
theorem d_M_why_327 : decode b_M_why 327 = .ok (.istore 6, 2) := by decide +kernel
theorem d_M_why_329 : decode b_M_why 329 = .ok (.aload_n 0, 1) := by decide +kernel
theorem d_M_why_330 : decode b_M_why 330 = .ok (.iconst 0, 1) := by decide +kernel
theorem d_M_why_331 : decode b_M_why 331 = .ok (.invokevirtual 87, 3) := by decide +kernel
theorem d_M_why_334 : decode b_M_why 334 = .ok (.iload 6, 2) := by decide +kernel
theorem d_M_why_336 : decode b_M_why 336 = .ok (.iadd, 1) := by decide +kernel
theorem d_M_why_337 : decode b_M_why 337 = .ok (.aload_n 0, 1) := by decide +kernel
theorem d_M_why_338 : decode b_M_why 338 = .ok (.iload_n 1, 1) := by decide +kernel
theorem d_M_why_339 : decode b_M_why 339 = .ok (.invokevirtual 91, 3) := by decide +kernel
theorem d_M_why_342 : decode b_M_why 342 = .ok (.arraylength, 1) := by decide +kernel
theorem d_M_why_343 : decode b_M_why 343 = .ok (.if_icmp .le 7, 3) := by decide +kernel
theorem d_M_why_346 : decode b_M_why 346 = .ok (.iconst 2, 1) := by decide +kernel
theorem d_M_why_347 : decode b_M_why 347 = .ok (.goto 4, 3) := by decide +kernel
theorem d_M_why_350 : decode b_M_why 350 = .ok (.iconst 0, 1) := by decide +kernel
theorem d_M_why_351 : decode b_M_why 351 = .ok (.ireturn, 1) := by decide +kernel
theorem d_M_act_0 : decode b_M_act 0 = .ok (.aload_n 0, 1) := by decide +kernel
theorem d_M_act_1 : decode b_M_act 1 = .ok (.iconst 0, 1) := by decide +kernel
theorem d_M_act_2 : decode b_M_act 2 = .ok (.invokevirtual 87, 3) := by decide +kernel
theorem d_M_act_5 : decode b_M_act 5 = .ok (.istore_n 2, 1) := by decide +kernel
theorem d_M_act_6 : decode b_M_act 6 = .ok (.aload_n 0, 1) := by decide +kernel
theorem d_M_act_7 : decode b_M_act 7 = .ok (.iconst 2, 1) := by decide +kernel
theorem d_M_act_8 : decode b_M_act 8 = .ok (.invokevirtual 87, 3) := by decide +kernel
theorem d_M_act_11 : decode b_M_act 11 = .ok (.istore_n 3, 1) := by decide +kernel
theorem d_M_act_12 : decode b_M_act 12 = .ok (.iload_n 1, 1) := by decide +kernel
theorem d_M_act_13 : decode b_M_act 13 = .ok (.iconst 5, 1) := by decide +kernel
theorem d_M_act_14 : decode b_M_act 14 = .ok (.if_icmp .ne 21, 3) := by decide +kernel
theorem d_M_act_17 : decode b_M_act 17 = .ok (.aload_n 0, 1) := by decide +kernel
theorem d_M_act_18 : decode b_M_act 18 = .ok (.getfield 7, 3) := by decide +kernel
theorem d_M_act_21 : decode b_M_act 21 = .ok (.iload_n 2, 1) := by decide +kernel
theorem d_M_act_22 : decode b_M_act 22 = .ok (.iload_n 3, 1) := by decide +kernel
theorem d_M_act_23 : decode b_M_act 23 = .ok (.ifCond .le 7, 3) := by decide +kernel
theorem d_M_act_26 : decode b_M_act 26 = .ok (.iconst 1, 1) := by decide +kernel
theorem d_M_act_27 : decode b_M_act 27 = .ok (.goto 4, 3) := by decide +kernel
theorem d_M_act_30 : decode b_M_act 30 = .ok (.iconst 0, 1) := by decide +kernel
theorem d_M_act_31 : decode b_M_act 31 = .ok (.iastore, 1) := by decide +kernel
theorem d_M_act_32 : decode b_M_act 32 = .ok (.goto 111, 3) := by decide +kernel
theorem d_M_act_35 : decode b_M_act 35 = .ok (.iload_n 1, 1) := by decide +kernel
theorem d_M_act_36 : decode b_M_act 36 = .ok (.bipush 6, 2) := by decide +kernel
theorem d_M_act_38 : decode b_M_act 38 = .ok (.if_icmp .ne 13, 3) := by decide +kernel
theorem d_M_act_41 : decode b_M_act 41 = .ok (.aload_n 0, 1) := by decide +kernel
theorem d_M_act_42 : decode b_M_act 42 = .ok (.getfield 16, 3) := by decide +kernel
theorem d_M_act_45 : decode b_M_act 45 = .ok (.iload_n 2, 1) := by decide +kernel
theorem d_M_act_46 : decode b_M_act 46 = .ok (.iload_n 3, 1) := by decide +kernel
theorem d_M_act_47 : decode b_M_act 47 = .ok (.iastore, 1) := by decide +kernel
theorem d_M_act_48 : decode b_M_act 48 = .ok (.goto 95, 3) := by decide +kernel
theorem d_M_act_51 : decode b_M_act 51 = .ok (.iload_n 1, 1) := by decide +kernel
theorem d_M_act_52 : decode b_M_act 52 = .ok (.bipush 15, 2) := by decide +kernel
theorem d_M_act_54 : decode b_M_act 54 = .ok (.if_icmp .ne 49, 3) := by decide +kernel
theorem d_M_act_57 : decode b_M_act 57 = .ok (.iconst 0, 1) := by decide +kernel
theorem d_M_act_58 : decode b_M_act 58 = .ok (.istore 4, 2) := by decide +kernel
theorem d_M_act_60 : decode b_M_act 60 = .ok (.iload 4, 2) := by decide +kernel
theorem d_M_act_62 : decode b_M_act 62 = .ok (.iload_n 3, 1) := by decide +kernel
theorem d_M_act_63 : decode b_M_act 63 = .ok (.if_icmp .ge 37, 3) := by decide +kernel
theorem d_M_act_66 : decode b_M_act 66 = .ok (.aload_n 0, 1) := by decide +kernel
theorem d_M_act_67 : decode b_M_act 67 = .ok (.getfield 7, 3) := by decide +kernel
theorem d_M_act_70 : decode b_M_act 70 = .ok (.iload_n 2, 1) := by decide +kernel
theorem d_M_act_71 : decode b_M_act 71 = .ok (.iload 4, 2) := by decide +kernel
theorem d_M_act_73 : decode b_M_act 73 = .ok (.iadd, 1) := by decide +kernel
theorem d_M_act_74 : decode b_M_act 74 = .ok (.aload_n 0, 1) := by decide +kernel
theorem d_M_act_75 : decode b_M_act 75 = .ok (.iconst 5, 1) := by decide +kernel
theorem d_M_act_76 : decode b_M_act 76 = .ok (.iload 4, 2) := by decide +kernel
theorem d_M_act_78 : decode b_M_act 78 = .ok (.bipush 8, 2) := by decide +kernel
theorem d_M_act_80 : decode b_M_act 80 = .ok (.idiv, 1) := by decide +kernel
theorem d_M_act_81 : decode b_M_act 81 = .ok (.iadd, 1) := by decide +kernel
theorem d_M_act_82 : decode b_M_act 82 = .ok (.invokevirtual 64, 3) := by decide +kernel
theorem d_M_act_85 : decode b_M_act 85 = .ok (.iload 4, 2) := by decide +kernel
theorem d_M_act_87 : decode b_M_act 87 = .ok (.bipush 8, 2) := by decide +kernel
theorem d_M_act_89 : decode b_M_act 89 = .ok (.irem, 1) := by decide +kernel
theorem d_M_act_90 : decode b_M_act 90 = .ok (.ishr, 1) := by decide +kernel
theorem d_M_act_91 : decode b_M_act 91 = .ok (.iconst 1, 1) := by decide +kernel
theorem d_M_act_92 : decode b_M_act 92 = .ok (.iand, 1) := by decide +kernel
theorem d_M_act_93 : decode b_M_act 93 = .ok (.iastore, 1) := by decide +kernel
theorem d_M_act_94 : decode b_M_act 94 = .ok (.iinc 4 1, 3) := by decide +kernel
theorem d_M_act_97 : decode b_M_act 97 = .ok (.goto (-37), 3) := by decide +kernel
theorem d_M_act_100 : decode b_M_act 100 = .ok (.goto 43, 3) := by decide +kernel
theorem d_M_act_103 : decode b_M_act 103 = .ok (.iload_n 1, 1) := by decide +kernel
theorem d_M_act_104 : decode b_M_act 104 = .ok (.bipush 16, 2) := by decide +kernel
theorem d_M_act_106 : decode b_M_act 106 = .ok (.if_icmp .ne 37, 3) := by decide +kernel
theorem d_M_act_109 : decode b_M_act 109 = .ok (.iconst 0, 1) := by decide +kernel
theorem d_M_act_110 : decode b_M_act 110 = .ok (.istore 4, 2) := by decide +kernel
theorem d_M_act_112 : decode b_M_act 112 = .ok (.iload 4, 2) := by decide +kernel
theorem d_M_act_114 : decode b_M_act 114 = .ok (.iload_n 3, 1) := by decide +kernel
theorem d_M_act_115 : decode b_M_act 115 = .ok (.if_icmp .ge 28, 3) := by decide +kernel
theorem d_M_act_118 : decode b_M_act 118 = .ok (.aload_n 0, 1) := by decide +kernel
theorem d_M_act_119 : decode b_M_act 119 = .ok (.getfield 16, 3) := by decide +kernel
theorem d_M_act_122 : decode b_M_act 122 = .ok (.iload_n 2, 1) := by decide +kernel
theorem d_M_act_123 : decode b_M_act 123 = .ok (.iload 4, 2) := by decide +kernel
theorem d_M_act_125 : decode b_M_act 125 = .ok (.iadd, 1) := by decide +kernel
theorem d_M_act_126 : decode b_M_act 126 = .ok (.aload_n 0, 1) := by decide +kernel
theorem d_M_act_127 : decode b_M_act 127 = .ok (.iconst 5, 1) := by decide +kernel
theorem d_M_act_128 : decode b_M_act 128 = .ok (.iconst 2, 1) := by decide +kernel
theorem d_M_act_129 : decode b_M_act 129 = .ok (.iload 4, 2) := by decide +kernel
theorem d_M_act_131 : decode b_M_act 131 = .ok (.imul, 1) := by decide +kernel
theorem d_M_act_132 : decode b_M_act 132 = .ok (.iadd, 1) := by decide +kernel
theorem d_M_act_133 : decode b_M_act 133 = .ok (.invokevirtual 87, 3) := by decide +kernel
theorem d_M_act_136 : decode b_M_act 136 = .ok (.iastore, 1) := by decide +kernel
theorem d_M_act_137 : decode b_M_act 137 = .ok (.iinc 4 1, 3) := by decide +kernel
theorem d_M_act_140 : decode b_M_act 140 = .ok (.goto (-28), 3) := by decide +kernel
theorem d_M_act_143 : decode b_M_act 143 = .ok (.return_, 1) := by decide +kernel
theorem d_M_answer_0 : decode b_M_answer 0 = .ok (.aload_n 0, 1) := by decide +kernel
theorem d_M_answer_1 : decode b_M_answer 1 = .ok (.iconst 0, 1) := by decide +kernel
theorem d_M_answer_2 : decode b_M_answer 2 = .ok (.invokevirtual 87, 3) := by decide +kernel
theorem d_M_answer_5 : decode b_M_answer 5 = .ok (.istore_n 2, 1) := by decide +kernel
theorem d_M_answer_6 : decode b_M_answer 6 = .ok (.aload_n 0, 1) := by decide +kernel
theorem d_M_answer_7 : decode b_M_answer 7 = .ok (.iconst 2, 1) := by decide +kernel
theorem d_M_answer_8 : decode b_M_answer 8 = .ok (.invokevirtual 87, 3) := by decide +kernel
theorem d_M_answer_11 : decode b_M_answer 11 = .ok (.istore_n 3, 1) := by decide +kernel
theorem d_M_answer_12 : decode b_M_answer 12 = .ok (.aload_n 0, 1) := by decide +kernel
theorem d_M_answer_13 : decode b_M_answer 13 = .ok (.iload_n 1, 1) := by decide +kernel
theorem d_M_answer_14 : decode b_M_answer 14 = .ok (.invokevirtual 81, 3) := by decide +kernel
theorem d_M_answer_17 : decode b_M_answer 17 = .ok (.iload_n 1, 1) := by decide +kernel
theorem d_M_answer_18 : decode b_M_answer 18 = .ok (.iconst 3, 1) := by decide +kernel
theorem d_M_answer_19 : decode b_M_answer 19 = .ok (.if_icmp .ge 87, 3) := by decide +kernel
theorem d_M_answer_22 : decode b_M_answer 22 = .ok (.aload_n 0, 1) := by decide +kernel
theorem d_M_answer_23 : decode b_M_answer 23 = .ok (.iload_n 3, 1) := by decide +kernel
theorem d_M_answer_24 : decode b_M_answer 24 = .ok (.bipush 7, 2) := by decide +kernel
theorem d_M_answer_26 : decode b_M_answer 26 = .ok (.iadd, 1) := by decide +kernel
theorem d_M_answer_27 : decode b_M_answer 27 = .ok (.bipush 8, 2) := by decide +kernel
theorem d_M_answer_29 : decode b_M_answer 29 = .ok (.idiv, 1) := by decide +kernel
theorem d_M_answer_30 : decode b_M_answer 30 = .ok (.invokevirtual 81, 3) := by decide +kernel
theorem d_M_answer_33 : decode b_M_answer 33 = .ok (.iconst 0, 1) := by decide +kernel
theorem d_M_answer_34 : decode b_M_answer 34 = .ok (.istore 4, 2) := by decide +kernel
theorem d_M_answer_36 : decode b_M_answer 36 = .ok (.iload 4, 2) := by decide +kernel
theorem d_M_answer_38 : decode b_M_answer 38 = .ok (.iload_n 3, 1) := by decide +kernel
theorem d_M_answer_39 : decode b_M_answer 39 = .ok (.if_icmp .ge 64, 3) := by decide +kernel
theorem d_M_answer_42 : decode b_M_answer 42 = .ok (.iconst 0, 1) := by decide +kernel
theorem d_M_answer_43 : decode b_M_answer 43 = .ok (.istore 5, 2) := by decide +kernel
theorem d_M_answer_45 : decode b_M_answer 45 = .ok (.iconst 0, 1) := by decide +kernel
theorem d_M_answer_46 : decode b_M_answer 46 = .ok (.istore 6, 2) := by decide +kernel
theorem d_M_answer_48 : decode b_M_answer 48 = .ok (.iload 6, 2) := by decide +kernel
theorem d_M_answer_50 : decode b_M_answer 50 = .ok (.bipush 8, 2) := by decide +kernel
theorem d_M_answer_52 : decode b_M_answer 52 = .ok (.if_icmp .ge 39, 3) := by decide +kernel
theorem d_M_answer_55 : decode b_M_answer 55 = .ok (.iload 4, 2) := by decide +kernel
theorem d_M_answer_57 : decode b_M_answer 57 = .ok (.iload 6, 2) := by decide +kernel
theorem d_M_answer_59 : decode b_M_answer 59 = .ok (.iadd, 1) := by decide +kernel
theorem d_M_answer_60 : decode b_M_answer 60 = .ok (.iload_n 3, 1) := by decide +kernel
theorem d_M_answer_61 : decode b_M_answer 61 = .ok (.if_icmp .ge 30, 3) := by decide +kernel
theorem d_M_answer_64 : decode b_M_answer 64 = .ok (.iload 5, 2) := by decide +kernel
theorem d_M_answer_66 : decode b_M_answer 66 = .ok (.aload_n 0, 1) := by decide +kernel
theorem d_M_answer_67 : decode b_M_answer 67 = .ok (.iload_n 1, 1) := by decide +kernel
theorem d_M_answer_68 : decode b_M_answer 68 = .ok (.invokevirtual 91, 3) := by decide +kernel
theorem d_M_answer_71 : decode b_M_answer 71 = .ok (.iload_n 2, 1) := by decide +kernel
theorem d_M_answer_72 : decode b_M_answer 72 = .ok (.iload 4, 2) := by decide +kernel
theorem d_M_answer_74 : decode b_M_answer 74 = .ok (.iadd, 1) := by decide +kernel
theorem d_M_answer_75 : decode b_M_answer 75 = .ok (.iload 6, 2) := by decide +kernel
theorem d_M_answer_77 : decode b_M_answer 77 = .ok (.iadd, 1) := by decide +kernel
theorem d_M_answer_78 : decode b_M_answer 78 = .ok (.iaload, 1) := by decide +kernel
theorem d_M_answer_79 : decode b_M_answer 79 = .ok (.iload 6, 2) := by decide +kernel
theorem d_M_answer_81 : decode b_M_answer 81 = .ok (.ishl, 1) := by decide +kernel
theorem d_M_answer_82 : decode b_M_answer 82 = .ok (.iadd, 1) := by decide +kernel
theorem d_M_answer_83 : decode b_M_answer 83 = .ok (.istore 5, 2) := by decide +kernel
theorem d_M_answer_85 : decode b_M_answer 85 = .ok (.iinc 6 1, 3) := by decide +kernel
theorem d_M_answer_88 : decode b_M_answer 88 = .ok (.goto (-40), 3) := by decide +kernel
theorem d_M_answer_91 : decode b_M_answer 91 = .ok (.aload_n 0, 1) := by decide +kernel
theorem d_M_answer_92 : decode b_M_answer 92 = .ok (.iload 5, 2) := by decide +kernel
theorem d_M_answer_94 : decode b_M_answer 94 = .ok (.invokevirtual 81, 3) := by decide +kernel
theorem d_M_answer_97 : decode b_M_answer 97 = .ok (.iinc 4 8, 3) := by decide +kernel
theorem d_M_answer_100 : decode b_M_answer 100 = .ok (.goto (-64), 3) := by decide +kernel
theorem d_M_answer_103 : decode b_M_answer 103 = .ok (.goto 94, 3) := by decide +kernel
theorem d_M_answer_106 : decode b_M_answer 106 = .ok (.iload_n 1, 1) := by decide +kernel
theorem d_M_answer_107 : decode b_M_answer 107 = .ok (.iconst 5, 1) := by decide +kernel
theorem d_M_answer_108 : decode b_M_answer 108 = .ok (.if_icmp .ge 64, 3) := by decide +kernel
theorem d_M_answer_111 : decode b_M_answer 111 = .ok (.aload_n 0, 1) := by decide +kernel
theorem d_M_answer_112 : decode b_M_answer 112 = .ok (.iconst 2, 1) := by decide +kernel
theorem d_M_answer_113 : decode b_M_answer 113 = .ok (.iload_n 3, 1) := by decide +kernel
theorem d_M_answer_114 : decode b_M_answer 114 = .ok (.imul, 1) := by decide +kernel
theorem d_M_answer_115 : decode b_M_answer 115 = .ok (.invokevirtual 81, 3) := by decide +kernel
theorem d_M_answer_118 : decode b_M_answer 118 = .ok (.iconst 0, 1) := by decide +kernel
theorem d_M_answer_119 : decode b_M_answer 119 = .ok (.istore 4, 2) := by decide +kernel
theorem d_M_answer_121 : decode b_M_answer 121 = .ok (.iload 4, 2) := by decide +kernel
theorem d_M_answer_123 : decode b_M_answer 123 = .ok (.iload_n 3, 1) := by decide +kernel
theorem d_M_answer_124 : decode b_M_answer 124 = .ok (.if_icmp .ge 45, 3) := by decide +kernel
theorem d_M_answer_127 : decode b_M_answer 127 = .ok (.aload_n 0, 1) := by decide +kernel
theorem d_M_answer_128 : decode b_M_answer 128 = .ok (.aload_n 0, 1) := by decide +kernel
theorem d_M_answer_129 : decode b_M_answer 129 = .ok (.iload_n 1, 1) := by decide +kernel
theorem d_M_answer_130 : decode b_M_answer 130 = .ok (.invokevirtual 91, 3) := by decide +kernel
theorem d_M_answer_133 : decode b_M_answer 133 = .ok (.iload_n 2, 1) := by decide +kernel
theorem d_M_answer_134 : decode b_M_answer 134 = .ok (.iload 4, 2) := by decide +kernel
theorem d_M_answer_136 : decode b_M_answer 136 = .ok (.iadd, 1) := by decide +kernel
theorem d_M_answer_137 : decode b_M_answer 137 = .ok (.iaload, 1) := by decide +kernel
theorem d_M_answer_138 : decode b_M_answer 138 = .ok (.sipush 256, 3) := by decide +kernel
theorem d_M_answer_141 : decode b_M_answer 141 = .ok (.idiv, 1) := by decide +kernel
theorem d_M_answer_142 : decode b_M_answer 142 = .ok (.invokevirtual 81, 3) := by decide +kernel
theorem d_M_answer_145 : decode b_M_answer 145 = .ok (.aload_n 0, 1) := by decide +kernel
theorem d_M_answer_146 : decode b_M_answer 146 = .ok (.aload_n 0, 1) := by decide +kernel
theorem d_M_answer_147 : decode b_M_answer 147 = .ok (.iload_n 1, 1) := by decide +kernel
theorem d_M_answer_148 : decode b_M_answer 148 = .ok (.invokevirtual 91, 3) := by decide +kernel
theorem d_M_answer_151 : decode b_M_answer 151 = .ok (.iload_n 2, 1) := by decide +kernel
theorem d_M_answer_152 : decode b_M_answer 152 = .ok (.iload 4, 2) := by decide +kernel
theorem d_M_answer_154 : decode b_M_answer 154 = .ok (.iadd, 1) := by decide +kernel
theorem d_M_answer_155 : decode b_M_answer 155 = .ok (.iaload, 1) := by decide +kernel
theorem d_M_answer_156 : decode b_M_answer 156 = .ok (.sipush 256, 3) := by decide +kernel
theorem d_M_answer_159 : decode b_M_answer 159 = .ok (.irem, 1) := by decide +kernel
theorem d_M_answer_160 : decode b_M_answer 160 = .ok (.invokevirtual 81, 3) := by decide +kernel
theorem d_M_answer_163 : decode b_M_answer 163 = .ok (.iinc 4 1, 3) := by decide +kernel
theorem d_M_answer_166 : decode b_M_answer 166 = .ok (.goto (-45), 3) := by decide +kernel
theorem d_M_answer_169 : decode b_M_answer 169 = .ok (.goto 28, 3) := by decide +kernel
theorem d_M_answer_172 : decode b_M_answer 172 = .ok (.iconst 0, 1) := by decide +kernel
theorem d_M_answer_173 : decode b_M_answer 173 = .ok (.istore 4, 2) := by decide +kernel
theorem d_M_answer_175 : decode b_M_answer 175 = .ok (.iload 4, 2) := by decide +kernel
theorem d_M_answer_177 : decode b_M_answer 177 = .ok (.iconst 4, 1) := by decide +kernel
theorem d_M_answer_178 : decode b_M_answer 178 = .ok (.if_icmp .ge 19, 3) := by decide +kernel
theorem d_M_answer_181 : decode b_M_answer 181 = .ok (.aload_n 0, 1) := by decide +kernel
theorem d_M_answer_182 : decode b_M_answer 182 = .ok (.aload_n 0, 1) := by decide +kernel
theorem d_M_answer_183 : decode b_M_answer 183 = .ok (.iload 4, 2) := by decide +kernel
theorem d_M_answer_185 : decode b_M_answer 185 = .ok (.invokevirtual 64, 3) := by decide +kernel
theorem d_M_answer_188 : decode b_M_answer 188 = .ok (.invokevirtual 81, 3) := by decide +kernel
theorem d_M_answer_191 : decode b_M_answer 191 = .ok (.iinc 4 1, 3) := by decide +kernel
theorem d_M_answer_194 : decode b_M_answer 194 = .ok (.goto (-19), 3) := by decide +kernel
theorem d_M_answer_197 : decode b_M_answer 197 = .ok (.return_, 1) := by decide +kernel
theorem d_M_reply_0 : decode b_M_reply 0 = .ok (.aload_n 0, 1) := by decide +kernel
theorem d_M_reply_1 : decode b_M_reply 1 = .ok (.iconst 0, 1) := by decide +kernel
theorem d_M_reply_2 : decode b_M_reply 2 = .ok (.putfield 35, 3) := by decide +kernel
theorem d_M_reply_5 : decode b_M_reply 5 = .ok (.iload_n 1, 1) := by decide +kernel
theorem d_M_reply_6 : decode b_M_reply 6 = .ok (.ifCond .lt 11, 3) := by decide +kernel
theorem d_M_reply_9 : decode b_M_reply 9 = .ok (.iload_n 1, 1) := by decide +kernel
theorem d_M_reply_10 : decode b_M_reply 10 = .ok (.aload_n 0, 1) := by decide +kernel
theorem d_M_reply_11 : decode b_M_reply 11 = .ok (.getfield 67, 3) := by decide +kernel
theorem d_M_reply_14 : decode b_M_reply 14 = .ok (.if_icmp .lt 7, 3) := by decide +kernel
theorem d_M_reply_17 : decode b_M_reply 17 = .ok (.iconst (-1), 1) := by decide +kernel
theorem d_M_reply_18 : decode b_M_reply 18 = .ok (.goto 9, 3) := by decide +kernel
theorem d_M_reply_21 : decode b_M_reply 21 = .ok (.aload_n 0, 1) := by decide +kernel
theorem d_M_reply_22 : decode b_M_reply 22 = .ok (.getfield 25, 3) := by decide +kernel
theorem d_M_reply_25 : decode b_M_reply 25 = .ok (.iload_n 1, 1) := by decide +kernel
theorem d_M_reply_26 : decode b_M_reply 26 = .ok (.iaload, 1) := by decide +kernel
theorem d_M_reply_27 : decode b_M_reply 27 = .ok (.ireturn, 1) := by decide +kernel
theorem d_M_noPlace_0 : decode b_M_noPlace 0 = .ok (.iload_n 1, 1) := by decide +kernel
theorem d_M_noPlace_1 : decode b_M_noPlace 1 = .ok (.ifCond .lt 29, 3) := by decide +kernel
theorem d_M_noPlace_4 : decode b_M_noPlace 4 = .ok (.iload_n 1, 1) := by decide +kernel
theorem d_M_noPlace_5 : decode b_M_noPlace 5 = .ok (.iconst 3, 1) := by decide +kernel
theorem d_M_noPlace_6 : decode b_M_noPlace 6 = .ok (.if_icmp .gt 24, 3) := by decide +kernel
theorem d_M_noPlace_9 : decode b_M_noPlace 9 = .ok (.iload_n 2, 1) := by decide +kernel
theorem d_M_noPlace_10 : decode b_M_noPlace 10 = .ok (.ifCond .lt 20, 3) := by decide +kernel
theorem d_M_noPlace_13 : decode b_M_noPlace 13 = .ok (.iload_n 2, 1) := by decide +kernel
theorem d_M_noPlace_14 : decode b_M_noPlace 14 = .ok (.iload_n 1, 1) := by decide +kernel
theorem d_M_noPlace_15 : decode b_M_noPlace 15 = .ok (.iconst 2, 1) := by decide +kernel
theorem d_M_noPlace_16 : decode b_M_noPlace 16 = .ok (.if_icmp .ge 9, 3) := by decide +kernel
theorem d_M_noPlace_19 : decode b_M_noPlace 19 = .ok (.sipush 256, 3) := by decide +kernel
theorem d_M_noPlace_22 : decode b_M_noPlace 22 = .ok (.goto 5, 3) := by decide +kernel
theorem d_M_noPlace_25 : decode b_M_noPlace 25 = .ok (.bipush 64, 2) := by decide +kernel
theorem d_M_noPlace_27 : decode b_M_noPlace 27 = .ok (.if_icmp .lt 7, 3) := by decide +kernel
theorem d_M_noPlace_30 : decode b_M_noPlace 30 = .ok (.iconst 1, 1) := by decide +kernel
theorem d_M_noPlace_31 : decode b_M_noPlace 31 = .ok (.goto 4, 3) := by decide +kernel
theorem d_M_noPlace_34 : decode b_M_noPlace 34 = .ok (.iconst 0, 1) := by decide +kernel
theorem d_M_noPlace_35 : decode b_M_noPlace 35 = .ok (.ireturn, 1) := by decide +kernel
theorem d_M_byNumber_0 : decode b_M_byNumber 0 = .ok (.iload_n 1, 1) := by decide +kernel
theorem d_M_byNumber_1 : decode b_M_byNumber 1 = .ok (.ifCond .ne 10, 3) := by decide +kernel
theorem d_M_byNumber_4 : decode b_M_byNumber 4 = .ok (.aload_n 0, 1) := by decide +kernel
theorem d_M_byNumber_5 : decode b_M_byNumber 5 = .ok (.getfield 7, 3) := by decide +kernel
theorem d_M_byNumber_8 : decode b_M_byNumber 8 = .ok (.goto 31, 3) := by decide +kernel
theorem d_M_byNumber_11 : decode b_M_byNumber 11 = .ok (.iload_n 1, 1) := by decide +kernel
theorem d_M_byNumber_12 : decode b_M_byNumber 12 = .ok (.iconst 1, 1) := by decide +kernel
theorem d_M_byNumber_13 : decode b_M_byNumber 13 = .ok (.if_icmp .ne 10, 3) := by decide +kernel
theorem d_M_byNumber_16 : decode b_M_byNumber 16 = .ok (.aload_n 0, 1) := by decide +kernel
theorem d_M_byNumber_17 : decode b_M_byNumber 17 = .ok (.getfield 13, 3) := by decide +kernel
theorem d_M_byNumber_20 : decode b_M_byNumber 20 = .ok (.goto 19, 3) := by decide +kernel
theorem d_M_byNumber_23 : decode b_M_byNumber 23 = .ok (.iload_n 1, 1) := by decide +kernel
theorem d_M_byNumber_24 : decode b_M_byNumber 24 = .ok (.iconst 2, 1) := by decide +kernel
theorem d_M_byNumber_25 : decode b_M_byNumber 25 = .ok (.if_icmp .ne 10, 3) := by decide +kernel
theorem d_M_byNumber_28 : decode b_M_byNumber 28 = .ok (.aload_n 0, 1) := by decide +kernel
theorem d_M_byNumber_29 : decode b_M_byNumber 29 = .ok (.getfield 16, 3) := by decide +kernel
theorem d_M_byNumber_32 : decode b_M_byNumber 32 = .ok (.goto 7, 3) := by decide +kernel
theorem d_M_byNumber_35 : decode b_M_byNumber 35 = .ok (.aload_n 0, 1) := by decide +kernel
theorem d_M_byNumber_36 : decode b_M_byNumber 36 = .ok (.getfield 19, 3) := by decide +kernel
theorem d_M_byNumber_39 : decode b_M_byNumber 39 = .ok (.areturn, 1) := by decide +kernel
theorem d_M_set_0 : decode b_M_set 0 = .ok (.aload_n 0, 1) := by decide +kernel
theorem d_M_set_1 : decode b_M_set 1 = .ok (.iconst 0, 1) := by decide +kernel
theorem d_M_set_2 : decode b_M_set 2 = .ok (.putfield 35, 3) := by decide +kernel
theorem d_M_set_5 : decode b_M_set 5 = .ok (.aload_n 0, 1) := by decide +kernel
theorem d_M_set_6 : decode b_M_set 6 = .ok (.iload_n 1, 1) := by decide +kernel
theorem d_M_set_7 : decode b_M_set 7 = .ok (.iload_n 2, 1) := by decide +kernel
theorem d_M_set_8 : decode b_M_set 8 = .ok (.invokevirtual 95, 3) := by decide +kernel
theorem d_M_set_11 : decode b_M_set 11 = .ok (.ifCond .ne 22, 3) := by decide +kernel
theorem d_M_set_14 : decode b_M_set 14 = .ok (.iload_n 3, 1) := by decide +kernel
theorem d_M_set_15 : decode b_M_set 15 = .ok (.ifCond .lt 18, 3) := by decide +kernel
theorem d_M_set_18 : decode b_M_set 18 = .ok (.iload_n 3, 1) := by decide +kernel
theorem d_M_set_19 : decode b_M_set 19 = .ok (.iload_n 1, 1) := by decide +kernel
theorem d_M_set_20 : decode b_M_set 20 = .ok (.iconst 2, 1) := by decide +kernel
theorem d_M_set_21 : decode b_M_set 21 = .ok (.if_icmp .ge 7, 3) := by decide +kernel
theorem d_M_set_24 : decode b_M_set 24 = .ok (.iconst 1, 1) := by decide +kernel
theorem d_M_set_25 : decode b_M_set 25 = .ok (.goto 5, 3) := by decide +kernel
theorem d_M_set_28 : decode b_M_set 28 = .ok (.ldc 59, 2) := by decide +kernel
theorem d_M_set_30 : decode b_M_set 30 = .ok (.if_icmp .le 5, 3) := by decide +kernel
theorem d_M_set_33 : decode b_M_set 33 = .ok (.iconst (-1), 1) := by decide +kernel
theorem d_M_set_34 : decode b_M_set 34 = .ok (.ireturn, 1) := by decide +kernel
theorem d_M_set_35 : decode b_M_set 35 = .ok (.aload_n 0, 1) := by decide +kernel
theorem d_M_set_36 : decode b_M_set 36 = .ok (.iload_n 1, 1) := by decide +kernel
theorem d_M_set_37 : decode b_M_set 37 = .ok (.invokevirtual 99, 3) := by decide +kernel
theorem d_M_set_40 : decode b_M_set 40 = .ok (.iload_n 2, 1) := by decide +kernel
theorem d_M_set_41 : decode b_M_set 41 = .ok (.iaload, 1) := by decide +kernel
theorem d_M_set_42 : decode b_M_set 42 = .ok (.istore 4, 2) := by decide +kernel
theorem d_M_set_44 : decode b_M_set 44 = .ok (.aload_n 0, 1) := by decide +kernel
theorem d_M_set_45 : decode b_M_set 45 = .ok (.iload_n 1, 1) := by decide +kernel
theorem d_M_set_46 : decode b_M_set 46 = .ok (.invokevirtual 99, 3) := by decide +kernel
theorem d_M_set_49 : decode b_M_set 49 = .ok (.iload_n 2, 1) := by decide +kernel
theorem d_M_set_50 : decode b_M_set 50 = .ok (.iload_n 3, 1) := by decide +kernel
theorem d_M_set_51 : decode b_M_set 51 = .ok (.iastore, 1) := by decide +kernel
theorem d_M_set_52 : decode b_M_set 52 = .ok (.iload 4, 2) := by decide +kernel
theorem d_M_set_54 : decode b_M_set 54 = .ok (.ireturn, 1) := by decide +kernel
theorem d_M_get_0 : decode b_M_get 0 = .ok (.aload_n 0, 1) := by decide +kernel
theorem d_M_get_1 : decode b_M_get 1 = .ok (.iconst 0, 1) := by decide +kernel
theorem d_M_get_2 : decode b_M_get 2 = .ok (.putfield 35, 3) := by decide +kernel
theorem d_M_get_5 : decode b_M_get 5 = .ok (.aload_n 0, 1) := by decide +kernel
theorem d_M_get_6 : decode b_M_get 6 = .ok (.iload_n 1, 1) := by decide +kernel
theorem d_M_get_7 : decode b_M_get 7 = .ok (.iload_n 2, 1) := by decide +kernel
theorem d_M_get_8 : decode b_M_get 8 = .ok (.invokevirtual 95, 3) := by decide +kernel
theorem d_M_get_11 : decode b_M_get 11 = .ok (.ifCond .eq 7, 3) := by decide +kernel
theorem d_M_get_14 : decode b_M_get 14 = .ok (.iconst (-1), 1) := by decide +kernel
theorem d_M_get_15 : decode b_M_get 15 = .ok (.goto 10, 3) := by decide +kernel
theorem d_M_get_18 : decode b_M_get 18 = .ok (.aload_n 0, 1) := by decide +kernel
theorem d_M_get_19 : decode b_M_get 19 = .ok (.iload_n 1, 1) := by decide +kernel
theorem d_M_get_20 : decode b_M_get 20 = .ok (.invokevirtual 99, 3) := by decide +kernel
theorem d_M_get_23 : decode b_M_get 23 = .ok (.iload_n 2, 1) := by decide +kernel
theorem d_M_get_24 : decode b_M_get 24 = .ok (.iaload, 1) := by decide +kernel
theorem d_M_get_25 : decode b_M_get 25 = .ok (.ireturn, 1) := by decide +kernel
theorem d_M_count_0 : decode b_M_count 0 = .ok (.aload_n 0, 1) := by decide +kernel
theorem d_M_count_1 : decode b_M_count 1 = .ok (.iconst 0, 1) := by decide +kernel
theorem d_M_count_2 : decode b_M_count 2 = .ok (.putfield 35, 3) := by decide +kernel
theorem d_M_count_5 : decode b_M_count 5 = .ok (.iload_n 1, 1) := by decide +kernel
theorem d_M_count_6 : decode b_M_count 6 = .ok (.ifCond .lt 8, 3) := by decide +kernel
theorem d_M_count_9 : decode b_M_count 9 = .ok (.iload_n 1, 1) := by decide +kernel
theorem d_M_count_10 : decode b_M_count 10 = .ok (.iconst 5, 1) := by decide +kernel
theorem d_M_count_11 : decode b_M_count 11 = .ok (.if_icmp .le 7, 3) := by decide +kernel
theorem d_M_count_14 : decode b_M_count 14 = .ok (.iconst (-1), 1) := by decide +kernel
theorem d_M_count_15 : decode b_M_count 15 = .ok (.goto 9, 3) := by decide +kernel
theorem d_M_count_18 : decode b_M_count 18 = .ok (.aload_n 0, 1) := by decide +kernel
theorem d_M_count_19 : decode b_M_count 19 = .ok (.getfield 28, 3) := by decide +kernel
theorem d_M_count_22 : decode b_M_count 22 = .ok (.iload_n 1, 1) := by decide +kernel
theorem d_M_count_23 : decode b_M_count 23 = .ok (.iaload, 1) := by decide +kernel
theorem d_M_count_24 : decode b_M_count 24 = .ok (.ireturn, 1) := by decide +kernel
end
section
theorem d_L_cell_0 : decode b_L_cell 0 = .ok (.iload_n 1, 1) := by decide +kernel
theorem d_L_cell_1 : decode b_L_cell 1 = .ok (.aload_n 0, 1) := by decide +kernel
theorem d_L_cell_2 : decode b_L_cell 2 = .ok (.arraylength, 1) := by decide +kernel
theorem d_L_cell_3 : decode b_L_cell 3 = .ok (.if_icmp .ge 9, 3) := by decide +kernel
theorem d_L_cell_6 : decode b_L_cell 6 = .ok (.aload_n 0, 1) := by decide +kernel
theorem d_L_cell_7 : decode b_L_cell 7 = .ok (.iload_n 1, 1) := by decide +kernel
theorem d_L_cell_8 : decode b_L_cell 8 = .ok (.iaload, 1) := by decide +kernel
theorem d_L_cell_9 : decode b_L_cell 9 = .ok (.goto 4, 3) := by decide +kernel
theorem d_L_cell_12 : decode b_L_cell 12 = .ok (.iconst 0, 1) := by decide +kernel
theorem d_L_cell_13 : decode b_L_cell 13 = .ok (.ireturn, 1) := by decide +kernel
theorem d_L_law_0 : decode b_L_law 0 = .ok (.new 7, 3) := by decide +kernel
theorem d_L_law_3 : decode b_L_law 3 = .ok (.dup, 1) := by decide +kernel
theorem d_L_law_4 : decode b_L_law 4 = .ok (.aload_n 0, 1) := by decide +kernel
theorem d_L_law_5 : decode b_L_law 5 = .ok (.iconst 0, 1) := by decide +kernel
theorem d_L_law_6 : decode b_L_law 6 = .ok (.invokestatic 9, 3) := by decide +kernel
theorem d_L_law_9 : decode b_L_law 9 = .ok (.invokespecial 15, 3) := by decide +kernel
theorem d_L_law_12 : decode b_L_law 12 = .ok (.astore_n 1, 1) := by decide +kernel
theorem d_L_law_13 : decode b_L_law 13 = .ok (.new 18, 3) := by decide +kernel
theorem d_L_law_16 : decode b_L_law 16 = .ok (.dup, 1) := by decide +kernel
theorem d_L_law_17 : decode b_L_law 17 = .ok (.aload_n 0, 1) := by decide +kernel
theorem d_L_law_18 : decode b_L_law 18 = .ok (.iconst 0, 1) := by decide +kernel
theorem d_L_law_19 : decode b_L_law 19 = .ok (.invokestatic 9, 3) := by decide +kernel
theorem d_L_law_22 : decode b_L_law 22 = .ok (.invokespecial 20, 3) := by decide +kernel
theorem d_L_law_25 : decode b_L_law 25 = .ok (.astore_n 2, 1) := by decide +kernel
theorem d_L_law_26 : decode b_L_law 26 = .ok (.iconst 1, 1) := by decide +kernel
theorem d_L_law_27 : decode b_L_law 27 = .ok (.istore_n 3, 1) := by decide +kernel
theorem d_L_law_28 : decode b_L_law 28 = .ok (.iload_n 3, 1) := by decide +kernel
theorem d_L_law_29 : decode b_L_law 29 = .ok (.aload_n 0, 1) := by decide +kernel
theorem d_L_law_30 : decode b_L_law 30 = .ok (.arraylength, 1) := by decide +kernel
theorem d_L_law_31 : decode b_L_law 31 = .ok (.iconst 4, 1) := by decide +kernel
theorem d_L_law_32 : decode b_L_law 32 = .ok (.isub, 1) := by decide +kernel
theorem d_L_law_33 : decode b_L_law 33 = .ok (.if_icmp .gt 355, 3) := by decide +kernel
theorem d_L_law_36 : decode b_L_law 36 = .ok (.aload_n 0, 1) := by decide +kernel
theorem d_L_law_37 : decode b_L_law 37 = .ok (.iload_n 3, 1) := by decide +kernel
theorem d_L_law_38 : decode b_L_law 38 = .ok (.iaload, 1) := by decide +kernel
theorem d_L_law_39 : decode b_L_law 39 = .ok (.bipush 7, 2) := by decide +kernel
theorem d_L_law_41 : decode b_L_law 41 = .ok (.iand, 1) := by decide +kernel
theorem d_L_law_42 : decode b_L_law 42 = .ok (.tableswitch 340 0 7 #[46, 69, 132, 155, 178, 221, 254, 277], 46) := by decide +kernel
theorem d_L_law_88 : decode b_L_law 88 = .ok (.aload_n 1, 1) := by decide +kernel
theorem d_L_law_89 : decode b_L_law 89 = .ok (.aload_n 0, 1) := by decide +kernel
theorem d_L_law_90 : decode b_L_law 90 = .ok (.iload_n 3, 1) := by decide +kernel
theorem d_L_law_91 : decode b_L_law 91 = .ok (.iconst 1, 1) := by decide +kernel
theorem d_L_law_92 : decode b_L_law 92 = .ok (.iadd, 1) := by decide +kernel
theorem d_L_law_93 : decode b_L_law 93 = .ok (.iaload, 1) := by decide +kernel
theorem d_L_law_94 : decode b_L_law 94 = .ok (.invokevirtual 21, 3) := by decide +kernel
theorem d_L_law_97 : decode b_L_law 97 = .ok (.aload_n 2, 1) := by decide +kernel
theorem d_L_law_98 : decode b_L_law 98 = .ok (.aload_n 0, 1) := by decide +kernel
theorem d_L_law_99 : decode b_L_law 99 = .ok (.iload_n 3, 1) := by decide +kernel
theorem d_L_law_100 : decode b_L_law 100 = .ok (.iconst 1, 1) := by decide +kernel
theorem d_L_law_101 : decode b_L_law 101 = .ok (.iadd, 1) := by decide +kernel
theorem d_L_law_102 : decode b_L_law 102 = .ok (.iaload, 1) := by decide +kernel
theorem d_L_law_103 : decode b_L_law 103 = .ok (.invokevirtual 25, 3) := by decide +kernel
theorem d_L_law_106 : decode b_L_law 106 = .ok (.if_icmp .eq 276, 3) := by decide +kernel
theorem d_L_law_109 : decode b_L_law 109 = .ok (.iconst 0, 1) := by decide +kernel
theorem d_L_law_110 : decode b_L_law 110 = .ok (.ireturn, 1) := by decide +kernel
theorem d_L_law_111 : decode b_L_law 111 = .ok (.aload_n 1, 1) := by decide +kernel
theorem d_L_law_112 : decode b_L_law 112 = .ok (.aload_n 0, 1) := by decide +kernel
theorem d_L_law_113 : decode b_L_law 113 = .ok (.iload_n 3, 1) := by decide +kernel
theorem d_L_law_114 : decode b_L_law 114 = .ok (.iconst 1, 1) := by decide +kernel
theorem d_L_law_115 : decode b_L_law 115 = .ok (.iadd, 1) := by decide +kernel
theorem d_L_law_116 : decode b_L_law 116 = .ok (.iaload, 1) := by decide +kernel
theorem d_L_law_117 : decode b_L_law 117 = .ok (.aload_n 0, 1) := by decide +kernel
theorem d_L_law_118 : decode b_L_law 118 = .ok (.iload_n 3, 1) := by decide +kernel
theorem d_L_law_119 : decode b_L_law 119 = .ok (.iconst 2, 1) := by decide +kernel
theorem d_L_law_120 : decode b_L_law 120 = .ok (.iadd, 1) := by decide +kernel
theorem d_L_law_121 : decode b_L_law 121 = .ok (.iaload, 1) := by decide +kernel
theorem d_L_law_122 : decode b_L_law 122 = .ok (.i2l, 1) := by decide +kernel
theorem d_L_law_123 : decode b_L_law 123 = .ok (.bipush 32, 2) := by decide +kernel
theorem d_L_law_125 : decode b_L_law 125 = .ok (.lshl, 1) := by decide +kernel
theorem d_L_law_126 : decode b_L_law 126 = .ok (.aload_n 0, 1) := by decide +kernel
theorem d_L_law_127 : decode b_L_law 127 = .ok (.iload_n 3, 1) := by decide +kernel
theorem d_L_law_128 : decode b_L_law 128 = .ok (.iconst 3, 1) := by decide +kernel
theorem d_L_law_129 : decode b_L_law 129 = .ok (.iadd, 1) := by decide +kernel
theorem d_L_law_130 : decode b_L_law 130 = .ok (.iaload, 1) := by decide +kernel
theorem d_L_law_131 : decode b_L_law 131 = .ok (.i2l, 1) := by decide +kernel
theorem d_L_law_132 : decode b_L_law 132 = .ok (.ldc2_w 26, 3) := by decide +kernel
theorem d_L_law_135 : decode b_L_law 135 = .ok (.land, 1) := by decide +kernel
theorem d_L_law_136 : decode b_L_law 136 = .ok (.lor, 1) := by decide +kernel
theorem d_L_law_137 : decode b_L_law 137 = .ok (.invokevirtual 28, 3) := by decide +kernel
theorem d_L_law_140 : decode b_L_law 140 = .ok (.aload_n 2, 1) := by decide +kernel
theorem d_L_law_141 : decode b_L_law 141 = .ok (.aload_n 0, 1) := by decide +kernel
theorem d_L_law_142 : decode b_L_law 142 = .ok (.iload_n 3, 1) := by decide +kernel
theorem d_L_law_143 : decode b_L_law 143 = .ok (.iconst 1, 1) := by decide +kernel
theorem d_L_law_144 : decode b_L_law 144 = .ok (.iadd, 1) := by decide +kernel
theorem d_L_law_145 : decode b_L_law 145 = .ok (.iaload, 1) := by decide +kernel
theorem d_L_law_146 : decode b_L_law 146 = .ok (.aload_n 0, 1) := by decide +kernel
theorem d_L_law_147 : decode b_L_law 147 = .ok (.iload_n 3, 1) := by decide +kernel
theorem d_L_law_148 : decode b_L_law 148 = .ok (.iconst 2, 1) := by decide +kernel
theorem d_L_law_149 : decode b_L_law 149 = .ok (.iadd, 1) := by decide +kernel
theorem d_L_law_150 : decode b_L_law 150 = .ok (.iaload, 1) := by decide +kernel
theorem d_L_law_151 : decode b_L_law 151 = .ok (.i2l, 1) := by decide +kernel
theorem d_L_law_152 : decode b_L_law 152 = .ok (.bipush 32, 2) := by decide +kernel
theorem d_L_law_154 : decode b_L_law 154 = .ok (.lshl, 1) := by decide +kernel
theorem d_L_law_155 : decode b_L_law 155 = .ok (.aload_n 0, 1) := by decide +kernel
theorem d_L_law_156 : decode b_L_law 156 = .ok (.iload_n 3, 1) := by decide +kernel
theorem d_L_law_157 : decode b_L_law 157 = .ok (.iconst 3, 1) := by decide +kernel
theorem d_L_law_158 : decode b_L_law 158 = .ok (.iadd, 1) := by decide +kernel
theorem d_L_law_159 : decode b_L_law 159 = .ok (.iaload, 1) := by decide +kernel
theorem d_L_law_160 : decode b_L_law 160 = .ok (.i2l, 1) := by decide +kernel
theorem d_L_law_161 : decode b_L_law 161 = .ok (.ldc2_w 26, 3) := by decide +kernel
theorem d_L_law_164 : decode b_L_law 164 = .ok (.land, 1) := by decide +kernel
theorem d_L_law_165 : decode b_L_law 165 = .ok (.lor, 1) := by decide +kernel
theorem d_L_law_166 : decode b_L_law 166 = .ok (.invokevirtual 32, 3) := by decide +kernel
theorem d_L_law_169 : decode b_L_law 169 = .ok (.if_icmp .eq 213, 3) := by decide +kernel
theorem d_L_law_172 : decode b_L_law 172 = .ok (.iconst 0, 1) := by decide +kernel
theorem d_L_law_173 : decode b_L_law 173 = .ok (.ireturn, 1) := by decide +kernel
theorem d_L_law_174 : decode b_L_law 174 = .ok (.aload_n 1, 1) := by decide +kernel
theorem d_L_law_175 : decode b_L_law 175 = .ok (.aload_n 0, 1) := by decide +kernel
theorem d_L_law_176 : decode b_L_law 176 = .ok (.iload_n 3, 1) := by decide +kernel
theorem d_L_law_177 : decode b_L_law 177 = .ok (.iconst 1, 1) := by decide +kernel
theorem d_L_law_178 : decode b_L_law 178 = .ok (.iadd, 1) := by decide +kernel
theorem d_L_law_179 : decode b_L_law 179 = .ok (.iaload, 1) := by decide +kernel
theorem d_L_law_180 : decode b_L_law 180 = .ok (.invokevirtual 33, 3) := by decide +kernel
theorem d_L_law_183 : decode b_L_law 183 = .ok (.aload_n 2, 1) := by decide +kernel
theorem d_L_law_184 : decode b_L_law 184 = .ok (.aload_n 0, 1) := by decide +kernel
theorem d_L_law_185 : decode b_L_law 185 = .ok (.iload_n 3, 1) := by decide +kernel
theorem d_L_law_186 : decode b_L_law 186 = .ok (.iconst 1, 1) := by decide +kernel
theorem d_L_law_187 : decode b_L_law 187 = .ok (.iadd, 1) := by decide +kernel
theorem d_L_law_188 : decode b_L_law 188 = .ok (.iaload, 1) := by decide +kernel
theorem d_L_law_189 : decode b_L_law 189 = .ok (.invokevirtual 36, 3) := by decide +kernel
theorem d_L_law_192 : decode b_L_law 192 = .ok (.if_icmp .eq 190, 3) := by decide +kernel
theorem d_L_law_195 : decode b_L_law 195 = .ok (.iconst 0, 1) := by decide +kernel
theorem d_L_law_196 : decode b_L_law 196 = .ok (.ireturn, 1) := by decide +kernel
theorem d_L_law_197 : decode b_L_law 197 = .ok (.aload_n 1, 1) := by decide +kernel
theorem d_L_law_198 : decode b_L_law 198 = .ok (.aload_n 0, 1) := by decide +kernel
theorem d_L_law_199 : decode b_L_law 199 = .ok (.iload_n 3, 1) := by decide +kernel
theorem d_L_law_200 : decode b_L_law 200 = .ok (.iconst 1, 1) := by decide +kernel
theorem d_L_law_201 : decode b_L_law 201 = .ok (.iadd, 1) := by decide +kernel
theorem d_L_law_202 : decode b_L_law 202 = .ok (.iaload, 1) := by decide +kernel
theorem d_L_law_203 : decode b_L_law 203 = .ok (.invokevirtual 37, 3) := by decide +kernel
theorem d_L_law_206 : decode b_L_law 206 = .ok (.aload_n 2, 1) := by decide +kernel
theorem d_L_law_207 : decode b_L_law 207 = .ok (.aload_n 0, 1) := by decide +kernel
theorem d_L_law_208 : decode b_L_law 208 = .ok (.iload_n 3, 1) := by decide +kernel
theorem d_L_law_209 : decode b_L_law 209 = .ok (.iconst 1, 1) := by decide +kernel
theorem d_L_law_210 : decode b_L_law 210 = .ok (.iadd, 1) := by decide +kernel
theorem d_L_law_211 : decode b_L_law 211 = .ok (.iaload, 1) := by decide +kernel
theorem d_L_law_212 : decode b_L_law 212 = .ok (.invokevirtual 40, 3) := by decide +kernel
theorem d_L_law_215 : decode b_L_law 215 = .ok (.if_icmp .eq 167, 3) := by decide +kernel
theorem d_L_law_218 : decode b_L_law 218 = .ok (.iconst 0, 1) := by decide +kernel
theorem d_L_law_219 : decode b_L_law 219 = .ok (.ireturn, 1) := by decide +kernel
theorem d_L_law_220 : decode b_L_law 220 = .ok (.aload_n 1, 1) := by decide +kernel
theorem d_L_law_221 : decode b_L_law 221 = .ok (.aload_n 0, 1) := by decide +kernel
theorem d_L_law_222 : decode b_L_law 222 = .ok (.iload_n 3, 1) := by decide +kernel
theorem d_L_law_223 : decode b_L_law 223 = .ok (.iconst 1, 1) := by decide +kernel
theorem d_L_law_224 : decode b_L_law 224 = .ok (.iadd, 1) := by decide +kernel
theorem d_L_law_225 : decode b_L_law 225 = .ok (.iaload, 1) := by decide +kernel
theorem d_L_law_226 : decode b_L_law 226 = .ok (.aload_n 0, 1) := by decide +kernel
theorem d_L_law_227 : decode b_L_law 227 = .ok (.iload_n 3, 1) := by decide +kernel
theorem d_L_law_228 : decode b_L_law 228 = .ok (.iconst 2, 1) := by decide +kernel
theorem d_L_law_229 : decode b_L_law 229 = .ok (.iadd, 1) := by decide +kernel
theorem d_L_law_230 : decode b_L_law 230 = .ok (.iaload, 1) := by decide +kernel
theorem d_L_law_231 : decode b_L_law 231 = .ok (.aload_n 0, 1) := by decide +kernel
theorem d_L_law_232 : decode b_L_law 232 = .ok (.iload_n 3, 1) := by decide +kernel
theorem d_L_law_233 : decode b_L_law 233 = .ok (.iconst 3, 1) := by decide +kernel
theorem d_L_law_234 : decode b_L_law 234 = .ok (.iadd, 1) := by decide +kernel
theorem d_L_law_235 : decode b_L_law 235 = .ok (.iaload, 1) := by decide +kernel
theorem d_L_law_236 : decode b_L_law 236 = .ok (.invokevirtual 41, 3) := by decide +kernel
theorem d_L_law_239 : decode b_L_law 239 = .ok (.aload_n 2, 1) := by decide +kernel
theorem d_L_law_240 : decode b_L_law 240 = .ok (.aload_n 0, 1) := by decide +kernel
theorem d_L_law_241 : decode b_L_law 241 = .ok (.iload_n 3, 1) := by decide +kernel
theorem d_L_law_242 : decode b_L_law 242 = .ok (.iconst 1, 1) := by decide +kernel
theorem d_L_law_243 : decode b_L_law 243 = .ok (.iadd, 1) := by decide +kernel
theorem d_L_law_244 : decode b_L_law 244 = .ok (.iaload, 1) := by decide +kernel
theorem d_L_law_245 : decode b_L_law 245 = .ok (.aload_n 0, 1) := by decide +kernel
theorem d_L_law_246 : decode b_L_law 246 = .ok (.iload_n 3, 1) := by decide +kernel
theorem d_L_law_247 : decode b_L_law 247 = .ok (.iconst 2, 1) := by decide +kernel
theorem d_L_law_248 : decode b_L_law 248 = .ok (.iadd, 1) := by decide +kernel
theorem d_L_law_249 : decode b_L_law 249 = .ok (.iaload, 1) := by decide +kernel
theorem d_L_law_250 : decode b_L_law 250 = .ok (.aload_n 0, 1) := by decide +kernel
theorem d_L_law_251 : decode b_L_law 251 = .ok (.iload_n 3, 1) := by decide +kernel
theorem d_L_law_252 : decode b_L_law 252 = .ok (.iconst 3, 1) := by decide +kernel
theorem d_L_law_253 : decode b_L_law 253 = .ok (.iadd, 1) := by decide +kernel
theorem d_L_law_254 : decode b_L_law 254 = .ok (.iaload, 1) := by decide +kernel
theorem d_L_law_255 : decode b_L_law 255 = .ok (.invokevirtual 45, 3) := by decide +kernel
theorem d_L_law_258 : decode b_L_law 258 = .ok (.if_icmp .eq 124, 3) := by decide +kernel
theorem d_L_law_261 : decode b_L_law 261 = .ok (.iconst 0, 1) := by decide +kernel
theorem d_L_law_262 : decode b_L_law 262 = .ok (.ireturn, 1) := by decide +kernel
theorem d_L_law_263 : decode b_L_law 263 = .ok (.aload_n 1, 1) := by decide +kernel
theorem d_L_law_264 : decode b_L_law 264 = .ok (.aload_n 0, 1) := by decide +kernel
theorem d_L_law_265 : decode b_L_law 265 = .ok (.iload_n 3, 1) := by decide +kernel
theorem d_L_law_266 : decode b_L_law 266 = .ok (.iconst 1, 1) := by decide +kernel
theorem d_L_law_267 : decode b_L_law 267 = .ok (.iadd, 1) := by decide +kernel
theorem d_L_law_268 : decode b_L_law 268 = .ok (.iaload, 1) := by decide +kernel
theorem d_L_law_269 : decode b_L_law 269 = .ok (.aload_n 0, 1) := by decide +kernel
theorem d_L_law_270 : decode b_L_law 270 = .ok (.iload_n 3, 1) := by decide +kernel
theorem d_L_law_271 : decode b_L_law 271 = .ok (.iconst 2, 1) := by decide +kernel
theorem d_L_law_272 : decode b_L_law 272 = .ok (.iadd, 1) := by decide +kernel
theorem d_L_law_273 : decode b_L_law 273 = .ok (.iaload, 1) := by decide +kernel
theorem d_L_law_274 : decode b_L_law 274 = .ok (.invokevirtual 46, 3) := by decide +kernel
theorem d_L_law_277 : decode b_L_law 277 = .ok (.aload_n 2, 1) := by decide +kernel
theorem d_L_law_278 : decode b_L_law 278 = .ok (.aload_n 0, 1) := by decide +kernel
theorem d_L_law_279 : decode b_L_law 279 = .ok (.iload_n 3, 1) := by decide +kernel
theorem d_L_law_280 : decode b_L_law 280 = .ok (.iconst 1, 1) := by decide +kernel
theorem d_L_law_281 : decode b_L_law 281 = .ok (.iadd, 1) := by decide +kernel
theorem d_L_law_282 : decode b_L_law 282 = .ok (.iaload, 1) := by decide +kernel
theorem d_L_law_283 : decode b_L_law 283 = .ok (.aload_n 0, 1) := by decide +kernel
theorem d_L_law_284 : decode b_L_law 284 = .ok (.iload_n 3, 1) := by decide +kernel
theorem d_L_law_285 : decode b_L_law 285 = .ok (.iconst 2, 1) := by decide +kernel
theorem d_L_law_286 : decode b_L_law 286 = .ok (.iadd, 1) := by decide +kernel
theorem d_L_law_287 : decode b_L_law 287 = .ok (.iaload, 1) := by decide +kernel
theorem d_L_law_288 : decode b_L_law 288 = .ok (.invokevirtual 50, 3) := by decide +kernel
theorem d_L_law_291 : decode b_L_law 291 = .ok (.if_icmp .eq 91, 3) := by decide +kernel
theorem d_L_law_294 : decode b_L_law 294 = .ok (.iconst 0, 1) := by decide +kernel
theorem d_L_law_295 : decode b_L_law 295 = .ok (.ireturn, 1) := by decide +kernel
theorem d_L_law_296 : decode b_L_law 296 = .ok (.aload_n 1, 1) := by decide +kernel
theorem d_L_law_297 : decode b_L_law 297 = .ok (.aload_n 0, 1) := by decide +kernel
theorem d_L_law_298 : decode b_L_law 298 = .ok (.iload_n 3, 1) := by decide +kernel
theorem d_L_law_299 : decode b_L_law 299 = .ok (.iconst 1, 1) := by decide +kernel
theorem d_L_law_300 : decode b_L_law 300 = .ok (.iadd, 1) := by decide +kernel
theorem d_L_law_301 : decode b_L_law 301 = .ok (.iaload, 1) := by decide +kernel
theorem d_L_law_302 : decode b_L_law 302 = .ok (.invokevirtual 51, 3) := by decide +kernel
theorem d_L_law_305 : decode b_L_law 305 = .ok (.aload_n 2, 1) := by decide +kernel
theorem d_L_law_306 : decode b_L_law 306 = .ok (.aload_n 0, 1) := by decide +kernel
theorem d_L_law_307 : decode b_L_law 307 = .ok (.iload_n 3, 1) := by decide +kernel
theorem d_L_law_308 : decode b_L_law 308 = .ok (.iconst 1, 1) := by decide +kernel
theorem d_L_law_309 : decode b_L_law 309 = .ok (.iadd, 1) := by decide +kernel
theorem d_L_law_310 : decode b_L_law 310 = .ok (.iaload, 1) := by decide +kernel
theorem d_L_law_311 : decode b_L_law 311 = .ok (.invokevirtual 54, 3) := by decide +kernel
theorem d_L_law_314 : decode b_L_law 314 = .ok (.if_icmp .eq 68, 3) := by decide +kernel
theorem d_L_law_317 : decode b_L_law 317 = .ok (.iconst 0, 1) := by decide +kernel
theorem d_L_law_318 : decode b_L_law 318 = .ok (.ireturn, 1) := by decide +kernel
theorem d_L_law_319 : decode b_L_law 319 = .ok (.aload_n 1, 1) := by decide +kernel
theorem d_L_law_320 : decode b_L_law 320 = .ok (.aload_n 0, 1) := by decide +kernel
theorem d_L_law_321 : decode b_L_law 321 = .ok (.iload_n 3, 1) := by decide +kernel
theorem d_L_law_322 : decode b_L_law 322 = .ok (.iconst 1, 1) := by decide +kernel
theorem d_L_law_323 : decode b_L_law 323 = .ok (.iadd, 1) := by decide +kernel
theorem d_L_law_324 : decode b_L_law 324 = .ok (.iaload, 1) := by decide +kernel
theorem d_L_law_325 : decode b_L_law 325 = .ok (.aload_n 0, 1) := by decide +kernel
theorem d_L_law_326 : decode b_L_law 326 = .ok (.iload_n 3, 1) := by decide +kernel
theorem d_L_law_327 : decode b_L_law 327 = .ok (.iconst 2, 1) := by decide +kernel
theorem d_L_law_328 : decode b_L_law 328 = .ok (.iadd, 1) := by decide +kernel
theorem d_L_law_329 : decode b_L_law 329 = .ok (.iaload, 1) := by decide +kernel
theorem d_L_law_330 : decode b_L_law 330 = .ok (.i2l, 1) := by decide +kernel
theorem d_L_law_331 : decode b_L_law 331 = .ok (.bipush 32, 2) := by decide +kernel
theorem d_L_law_333 : decode b_L_law 333 = .ok (.lshl, 1) := by decide +kernel
theorem d_L_law_334 : decode b_L_law 334 = .ok (.aload_n 0, 1) := by decide +kernel
theorem d_L_law_335 : decode b_L_law 335 = .ok (.iload_n 3, 1) := by decide +kernel
theorem d_L_law_336 : decode b_L_law 336 = .ok (.iconst 3, 1) := by decide +kernel
theorem d_L_law_337 : decode b_L_law 337 = .ok (.iadd, 1) := by decide +kernel
theorem d_L_law_338 : decode b_L_law 338 = .ok (.iaload, 1) := by decide +kernel
theorem d_L_law_339 : decode b_L_law 339 = .ok (.i2l, 1) := by decide +kernel
theorem d_L_law_340 : decode b_L_law 340 = .ok (.ldc2_w 26, 3) := by decide +kernel
theorem d_L_law_343 : decode b_L_law 343 = .ok (.land, 1) := by decide +kernel
theorem d_L_law_344 : decode b_L_law 344 = .ok (.lor, 1) := by decide +kernel
theorem d_L_law_345 : decode b_L_law 345 = .ok (.invokevirtual 55, 3) := by decide +kernel
theorem d_L_law_348 : decode b_L_law 348 = .ok (.aload_n 2, 1) := by decide +kernel
theorem d_L_law_349 : decode b_L_law 349 = .ok (.aload_n 0, 1) := by decide +kernel
theorem d_L_law_350 : decode b_L_law 350 = .ok (.iload_n 3, 1) := by decide +kernel
theorem d_L_law_351 : decode b_L_law 351 = .ok (.iconst 1, 1) := by decide +kernel
theorem d_L_law_352 : decode b_L_law 352 = .ok (.iadd, 1) := by decide +kernel
theorem d_L_law_353 : decode b_L_law 353 = .ok (.iaload, 1) := by decide +kernel
theorem d_L_law_354 : decode b_L_law 354 = .ok (.aload_n 0, 1) := by decide +kernel
theorem d_L_law_355 : decode b_L_law 355 = .ok (.iload_n 3, 1) := by decide +kernel
theorem d_L_law_356 : decode b_L_law 356 = .ok (.iconst 2, 1) := by decide +kernel
theorem d_L_law_357 : decode b_L_law 357 = .ok (.iadd, 1) := by decide +kernel
theorem d_L_law_358 : decode b_L_law 358 = .ok (.iaload, 1) := by decide +kernel
theorem d_L_law_359 : decode b_L_law 359 = .ok (.i2l, 1) := by decide +kernel
theorem d_L_law_360 : decode b_L_law 360 = .ok (.bipush 32, 2) := by decide +kernel
theorem d_L_law_362 : decode b_L_law 362 = .ok (.lshl, 1) := by decide +kernel
theorem d_L_law_363 : decode b_L_law 363 = .ok (.aload_n 0, 1) := by decide +kernel
theorem d_L_law_364 : decode b_L_law 364 = .ok (.iload_n 3, 1) := by decide +kernel
theorem d_L_law_365 : decode b_L_law 365 = .ok (.iconst 3, 1) := by decide +kernel
theorem d_L_law_366 : decode b_L_law 366 = .ok (.iadd, 1) := by decide +kernel
theorem d_L_law_367 : decode b_L_law 367 = .ok (.iaload, 1) := by decide +kernel
theorem d_L_law_368 : decode b_L_law 368 = .ok (.i2l, 1) := by decide +kernel
theorem d_L_law_369 : decode b_L_law 369 = .ok (.ldc2_w 26, 3) := by decide +kernel
theorem d_L_law_372 : decode b_L_law 372 = .ok (.land, 1) := by decide +kernel
theorem d_L_law_373 : decode b_L_law 373 = .ok (.lor, 1) := by decide +kernel
theorem d_L_law_374 : decode b_L_law 374 = .ok (.invokevirtual 58, 3) := by decide +kernel
theorem d_L_law_377 : decode b_L_law 377 = .ok (.if_icmp .eq 5, 3) := by decide +kernel
theorem d_L_law_380 : decode b_L_law 380 = .ok (.iconst 0, 1) := by decide +kernel
theorem d_L_law_381 : decode b_L_law 381 = .ok (.ireturn, 1) := by decide +kernel
theorem d_L_law_382 : decode b_L_law 382 = .ok (.iinc 3 4, 3) := by decide +kernel
theorem d_L_law_385 : decode b_L_law 385 = .ok (.goto (-357), 3) := by decide +kernel
theorem d_L_law_388 : decode b_L_law 388 = .ok (.iconst 1, 1) := by decide +kernel
theorem d_L_law_389 : decode b_L_law 389 = .ok (.ireturn, 1) := by decide +kernel
end
section
/-! My own layer over the kit's rows: a world with its frame in one word (Gw), contracts of one shape (Ci, Cv, Cq), entry, call and return rows for them. -/
theorem bw_fm {α β : Type} (f : α → Option β) : ∀ (is : List α) (ws : List β), is.map f = ws.map some → is.filterMap f = ws := by
  intro is
  induction is with
  | nil =>
    intro ws h
    cases ws with
    | nil => rfl
    | cons _ _ => simp at h
  | cons i is ih =>
    intro ws h
    cases ws with
    | nil => simp at h
    | cons w ws =>
      simp only [List.map_cons, List.cons.injEq] at h
      rw [List.filterMap_cons_some h.1, ih ws h.2]
/-- the world: kinds known, cells there, apart, nothing else changed, new cells are ours -/
def Gw (D : va_G) (cl : List vw_C) (tys : List (ClassId × FieldType)) (A : Nat → Prop) (s : State) (H0 H : Heap) (locs : List Loc) (ws : va_W) : Prop :=
  va_K D cl tys s ∧ va_P D cl ws H ∧ va_D A ws ∧ va_S A H0 H locs ∧ (∀ q : Nat, H0.size ≤ q → A q) ∧ va_Nw NW s
theorem Gw.sub {D : va_G} {cl : List vw_C} {tys : List (ClassId × FieldType)} {A : Nat → Prop} {s : State} {H0 H : Heap} {locs : List Loc} {ws ws' : va_W} (h : Gw D cl tys A s H0 H locs ws) (is : List Nat) (hn : va_nd is = true) (hs : is.map (fun i => ws[i]?) = ws'.map some) : Gw D cl tys A s H0 H locs ws' :=
  ⟨h.1, h.2.1.sub is (bw_fm _ is ws' hs), h.2.2.1.sub is hn hs, h.2.2.2⟩
theorem Gw.cast {D : va_G} {cl : List vw_C} {tys : List (ClassId × FieldType)} {A : Nat → Prop} {s : State} {H0 H : Heap} {locs : List Loc} {ws ws' : va_W} (h : Gw D cl tys A s H0 H locs ws) (e : ws = ws') : Gw D cl tys A s H0 H locs ws' := e ▸ h
def Pz (D : va_G) (cl : List vw_C) (tys : List (ClassId × FieldType)) (ws : va_W) (sz : Nat) : State → Prop := fun U => U.heap.size = sz ∧ va_P D cl ws U.heap ∧ va_K D cl tys U ∧ va_D (fun _ => True) ws ∧ va_Nw NW U
def Bz (D : va_G) (cl : List vw_C) (tys : List (ClassId × FieldType)) (A : Nat → Prop) (w : va_W) (t : State) : Prop := va_P D cl w t.heap ∧ va_K D cl tys t ∧ va_D A w
/-- contracts: an int (or a truth value), nothing, a reference or null -/
def Ci (l : Launch) (y : MethodName) (wds : List Cond) (rm : Room) (D : va_G) (cl : List vw_C) (tys : List (ClassId × FieldType)) (av : List Value) (ws : va_W) (mc ms : Nat) (post : Int32 → va_W → Prop) : Prop :=
  ∀ sz : Nat, Met l y wds rm (va_Pc av (Pz D cl tys ws sz)) (va_Qi post (Bz D cl tys (va_A ws sz)) (va_A ws sz)) mc ms (va_A ws sz)
def Cv (l : Launch) (y : MethodName) (wds : List Cond) (rm : Room) (D : va_G) (cl : List vw_C) (tys : List (ClassId × FieldType)) (av : List Value) (ws : va_W) (mc ms : Nat) (post : va_W → Prop) : Prop :=
  ∀ sz : Nat, Met l y wds rm (va_Pc av (Pz D cl tys ws sz)) (va_Qv post (Bz D cl tys (va_A ws sz)) (va_A ws sz)) mc ms (va_A ws sz)
def Cq (l : Launch) (y : MethodName) (wds : List Cond) (rm : Room) (D : va_G) (cl : List vw_C) (tys : List (ClassId × FieldType)) (av : List Value) (ws : va_W) (mc ms : Nat) (post : Option Nat → va_W → Prop) : Prop :=
  ∀ sz : Nat, Met l y wds rm (va_Pc av (Pz D cl tys ws sz)) (va_Qq post (Bz D cl tys (va_A ws sz)) (va_A ws sz)) mc ms (va_A ws sz)
def Zi (D : va_G) (cl : List vw_C) (tys : List (ClassId × FieldType)) (A : Nat → Prop) (s : State) (args : Array Value) (below : List Frame) (mc ms : Nat) (post : Int32 → va_W → Prop) : State → Prop := MQ below (va_Qi post (Bz D cl tys A) A) args s mc ms A
def Zv (D : va_G) (cl : List vw_C) (tys : List (ClassId × FieldType)) (A : Nat → Prop) (s : State) (args : Array Value) (below : List Frame) (mc ms : Nat) (post : va_W → Prop) : State → Prop := MQ below (va_Qv post (Bz D cl tys A) A) args s mc ms A
def Zq (D : va_G) (cl : List vw_C) (tys : List (ClassId × FieldType)) (A : Nat → Prop) (s : State) (args : Array Value) (below : List Frame) (mc ms : Nat) (post : Option Nat → va_W → Prop) : State → Prop := MQ below (va_Qq post (Bz D cl tys A) A) args s mc ms A
section BE
variable {l : Launch} {y : MethodName} {wds wds' Ts : List Cond} {rm : Room} {D : va_G} {cl : List vw_C} {tys : List (ClassId × FieldType)} {av : List Value} {ws : va_W} {mc ms : Nat} {cc : ByteArray} {maxL : Nat} {ret : Option FieldType} {own : String} {lv : List (Nat × Value)}
theorem Ci.of {post : Int32 → va_W → Prop} (hy : plainName y.cls = true) (hw : wds = Cond.code y cc maxL ret :: wds') (ho : y.cls = own) (hTs : ∀ w ∈ Ts, w ∈ wds) (hav : (lg_sl av).length ≤ maxL) (hlv : lv_args 0 av = lv)
    (body : ∀ (p : Program) (e : Env) (s : State) (m : MethodId) (args : Array Value) (below : List Frame) (meth : Method) (c : Code) (A : Nat → Prop), CallFix p m c cc maxL s args Ts own → meth.sig.returnType = ret → meth.locks = false → Gw D cl tys A s s.heap s.heap [] ws → ∀ ls : Array Slot, lv_has ls maxL lv → W p l e rm s m args below meth c s.heap [] 0 0 (Zi D cl tys A s args below mc ms post) (F0 m 0 ls [])) : Ci l y wds rm D cl tys av ws mc ms post := by
  intro sz
  refine Met.ofW (cc := cc) (maxL := maxL) (ret := ret) hy hw ?_
  intro p e s m args below meth c s₁ B hml hv
  obtain ⟨rfl, hsz, hP, hK, hD0, hNW⟩ := hv
  subst hsz
  subst ho
  subst hlv
  have hts := atoms_spec (ws := wds) B.pre
  rw [lg_entry_eq]
  exact body p e s m _ below meth c (va_A ws s.heap.size) ⟨B.exec, B.bytes, hml, findClass_of_methodNamed B.named, fun w h => hts w (hTs w h)⟩ B.returns B.notSynchronized ⟨hK, hP, hD0.self, va_S.rf, fun q h => Or.inr h, hNW⟩ _ (lv_entry av hav)
theorem Cv.of {post : va_W → Prop} (hy : plainName y.cls = true) (hw : wds = Cond.code y cc maxL ret :: wds') (ho : y.cls = own) (hTs : ∀ w ∈ Ts, w ∈ wds) (hav : (lg_sl av).length ≤ maxL) (hlv : lv_args 0 av = lv)
    (body : ∀ (p : Program) (e : Env) (s : State) (m : MethodId) (args : Array Value) (below : List Frame) (meth : Method) (c : Code) (A : Nat → Prop), CallFix p m c cc maxL s args Ts own → meth.sig.returnType = ret → meth.locks = false → meth.name = y.name → Gw D cl tys A s s.heap s.heap [] ws → ∀ ls : Array Slot, lv_has ls maxL lv → W p l e rm s m args below meth c s.heap [] 0 0 (Zv D cl tys A s args below mc ms post) (F0 m 0 ls [])) : Cv l y wds rm D cl tys av ws mc ms post := by
  intro sz
  refine Met.ofW (cc := cc) (maxL := maxL) (ret := ret) hy hw ?_
  intro p e s m args below meth c s₁ B hml hv
  obtain ⟨rfl, hsz, hP, hK, hD0, hNW⟩ := hv
  subst hsz
  subst ho
  subst hlv
  have hts := atoms_spec (ws := wds) B.pre
  rw [lg_entry_eq]
  exact body p e s m _ below meth c (va_A ws s.heap.size) ⟨B.exec, B.bytes, hml, findClass_of_methodNamed B.named, fun w h => hts w (hTs w h)⟩ B.returns B.notSynchronized (name_of_methodNamed B.named B.method).1 ⟨hK, hP, hD0.self, va_S.rf, fun q h => Or.inr h, hNW⟩ _ (lv_entry av hav)
theorem Cq.of {post : Option Nat → va_W → Prop} (hy : plainName y.cls = true) (hw : wds = Cond.code y cc maxL ret :: wds') (ho : y.cls = own) (hTs : ∀ w ∈ Ts, w ∈ wds) (hav : (lg_sl av).length ≤ maxL) (hlv : lv_args 0 av = lv)
    (body : ∀ (p : Program) (e : Env) (s : State) (m : MethodId) (args : Array Value) (below : List Frame) (meth : Method) (c : Code) (A : Nat → Prop), CallFix p m c cc maxL s args Ts own → meth.sig.returnType = ret → meth.locks = false → Gw D cl tys A s s.heap s.heap [] ws → ∀ ls : Array Slot, lv_has ls maxL lv → W p l e rm s m args below meth c s.heap [] 0 0 (Zq D cl tys A s args below mc ms post) (F0 m 0 ls [])) : Cq l y wds rm D cl tys av ws mc ms post := by
  intro sz
  refine Met.ofW (cc := cc) (maxL := maxL) (ret := ret) hy hw ?_
  intro p e s m args below meth c s₁ B hml hv
  obtain ⟨rfl, hsz, hP, hK, hD0, hNW⟩ := hv
  subst hsz
  subst ho
  subst hlv
  have hts := atoms_spec (ws := wds) B.pre
  rw [lg_entry_eq]
  exact body p e s m _ below meth c (va_A ws s.heap.size) ⟨B.exec, B.bytes, hml, findClass_of_methodNamed B.named, fun w h => hts w (hTs w h)⟩ B.returns B.notSynchronized ⟨hK, hP, hD0.self, va_S.rf, fun q h => Or.inr h, hNW⟩ _ (lv_entry av hav)
end BE
section BS
variable {p : Program} {l : Launch} {e : Env} {R : Room} {s : State} {m : MethodId} {args : Array Value} {below : List Frame} {meth : Method} {c : Code} {H : Heap} {locs : List Loc} {cells slots : Nat} {Q : State → Prop}
variable {cc : ByteArray} {pc nL : Nat} {ls : Array Slot} {rest : List Value} {D : va_G} {cl : List vw_C} {A : Nat → Prop} {a : Nat} {tys : List (ClassId × FieldType)} {ws : va_W} {H0 : Heap} {Ts : List Cond} {own : String}
theorem g_reti {w : va_W} {mc ms : Nat} {post : Int32 → va_W → Prop} {v : Int32} (S : CallFix p m c cc nL s args Ts own) (hr : meth.sig.returnType = some .int) (hlk : meth.locks = false) (G : Gw D cl tys A s s.heap H locs w) (hp : post v w) (hc : cells ≤ mc) (hs : slots ≤ ms) (hdg : decode cc pc = .ok (.ireturn, 1)) : W p l e R s m args below meth c H locs cells slots (Zi D cl tys A s args below mc ms post) (F0 m pc ls [.int v]) := by
  refine W.widen hc hs ?_
  exact W.iret (v := v) S.1 S.2.1 hr (fun t ht hW => ⟨⟨v, w, rfl, hp, by rw [ht]; exact G.2.1, va_K.moved hW.alike G.1, G.2.2.1⟩, G.2.2.2.1.F ht⟩) G.2.2.2.1.2.2 hdg hlk
theorem g_retz {w : va_W} {mc ms : Nat} {post : Int32 → va_W → Prop} {v : Int32} {ty : FieldType} (S : CallFix p m c cc nL s args Ts own) (hr : meth.sig.returnType = some ty) (hlk : meth.locks = false) (hn : narrow ty (.int v) = .int v) (G : Gw D cl tys A s s.heap H locs w) (hp : post v w) (hc : cells ≤ mc) (hs : slots ≤ ms) (hdg : decode cc pc = .ok (.ireturn, 1)) : W p l e R s m args below meth c H locs cells slots (Zi D cl tys A s args below mc ms post) (F0 m pc ls [.int v]) := by
  refine W.widen hc hs ?_
  exact W.zret (v := v) S.1 S.2.1 hr hn (fun t ht hW => ⟨⟨v, w, rfl, hp, by rw [ht]; exact G.2.1, va_K.moved hW.alike G.1, G.2.2.1⟩, G.2.2.2.1.F ht⟩) G.2.2.2.1.2.2 hdg hlk
theorem g_retv {w : va_W} {mc ms : Nat} {post : va_W → Prop} (S : CallFix p m c cc nL s args Ts own) (hr : meth.sig.returnType = none) (hlk : meth.locks = false) (G : Gw D cl tys A s s.heap H locs w) (hp : post w) (hc : cells ≤ mc) (hs : slots ≤ ms) (hdg : decode cc pc = .ok (.return_, 1)) : W p l e R s m args below meth c H locs cells slots (Zv D cl tys A s args below mc ms post) (F0 m pc ls []) := by
  refine W.widen hc hs ?_
  exact W.vret S.1 S.2.1 hr (fun t ht hW => ⟨⟨w, rfl, hp, by rw [ht]; exact G.2.1, va_K.moved hW.alike G.1, G.2.2.1⟩, G.2.2.2.1.F ht⟩) G.2.2.2.1.2.2 hdg hlk
theorem g_retq {w : va_W} {mc ms : Nat} {post : Option Nat → va_W → Prop} {cn : String} (S : CallFix p m c cc nL s args Ts own) (hr : meth.sig.returnType = some (.object cn)) (hlk : meth.locks = false) (v : Option Nat) (G : Gw D cl tys A s s.heap H locs w) (hp : post v w) (hc : cells ≤ mc) (hs : slots ≤ ms) (hdg : decode cc pc = .ok (.areturn, 1)) : W p l e R s m args below meth c H locs cells slots (Zq D cl tys A s args below mc ms post) (F0 m pc ls [va_rf v]) := by
  refine W.widen hc hs ?_
  exact W.aret (v := va_rf v) S.1 S.2.1 hr (Or.inl ⟨_, rfl⟩) (by cases v with | none => exact Or.inl rfl | some q => exact Or.inr ⟨q, rfl⟩) (fun t ht hW => ⟨⟨v, w, rfl, hp, by rw [ht]; exact G.2.1, va_K.moved hW.alike G.1, G.2.2.1⟩, G.2.2.2.1.F ht⟩) G.2.2.2.1.2.2 hdg hlk
theorem g_get (S : CallFix p m c cc nL s args Ts own) (G : Gw D cl tys A s H0 H locs ws) {C : String} {T : u_T} {N ci index : Nat} (hin : ∀ w ∈ u_ws C T N, w ∈ Ts) (q0 : Nat) {fs : List Value} (he : ws[q0]? = some (a, .inr (ci, fs))) (hc : cl[ci]? = some (C, T, N)) (k : Nat) (hk : k < N) (hlink : Cond.fieldLink own index (T k).1 (T k).2.1 (T k).2.2.1 ∈ Ts) {v : Value} (hv : fs[k]? = some v) (hdg : decode cc pc = .ok (.getfield index, 3))
    (kk : W p l e R s m args below meth c H locs cells slots Q (F0 m (pc + 3) ls (v :: rest))) : W p l e R s m args below meth c H locs cells slots Q (F0 m pc ls (.ref a :: rest)) :=
  va_get S.1 S.2.1 S.2.2.2.2 hin S.2.2.2.1 G.1 G.2.1 q0 he hc k hk (S.2.2.2.2 _ hlink) (fun _ h => h) hv hdg kk
theorem g_put (S : CallFix p m c cc nL s args Ts own) (G : Gw D cl tys A s H0 H locs ws) {C : String} {T : u_T} {N ci index : Nat} (hin : ∀ w ∈ u_ws C T N, w ∈ Ts) (ty0 : Nat → FieldType) (hty : ∀ k, k < N → parseFieldDescriptor (T k).2.2.1 = some (ty0 k)) (hnm : ∀ a, a < N → ∀ b, b < N → a ≠ b → (T a).2.1 ≠ (T b).2.1) (q0 : Nat) {fs : List Value} (he : ws[q0]? = some (a, .inr (ci, fs))) (hc : cl[ci]? = some (C, T, N)) (k : Nat) (hk : k < N) (hlink : Cond.fieldLink own index (T k).1 (T k).2.1 (T k).2.2.1 ∈ Ts) (hfin : (T k).2.2.2 = false) {v : Value} (hn : narrow (ty0 k) v = v) (hfit : fits (ty0 k) v = true) (hl : k < fs.length) (ws' : va_W) (hws : ws.set q0 (a, .inr (ci, fs.set k v)) = ws') (hdg : decode cc pc = .ok (.putfield index, 3))
    (kk : ∀ (H : Heap) (locs : List Loc), Gw D cl tys A s H0 H locs ws' → W p l e R s m args below meth c H locs cells slots Q (F0 m (pc + 3) ls rest)) : W p l e R s m args below meth c H locs cells slots Q (F0 m pc ls (v :: .ref a :: rest)) := by
  subst hws
  exact va_put S.1 S.2.1 S.2.2.2.2 hin ty0 hty hnm S.2.2.2.1 G.1 G.2.1 G.2.2.1 G.2.2.2.1 q0 he hc k hk (S.2.2.2.2 _ hlink) (fun _ h => h) hfin (hty k hk) hn hfit hl hdg (fun H1 l1 a1 a2 a3 => kk H1 l1 ⟨G.1, a1, a2, a3, G.2.2.2.2⟩)
theorem g_putF (S : CallFix p m c cc nL s args Ts own) (G : Gw D cl tys A s H0 H locs ws) {C : String} {T : u_T} {N ci index : Nat} (hin : ∀ w ∈ u_ws C T N, w ∈ Ts) (ty0 : Nat → FieldType) (hty : ∀ k, k < N → parseFieldDescriptor (T k).2.2.1 = some (ty0 k)) (hnm : ∀ a, a < N → ∀ b, b < N → a ≠ b → (T a).2.1 ≠ (T b).2.1) (q0 : Nat) {fs : List Value} (he : ws[q0]? = some (a, .inr (ci, fs))) (hc : cl[ci]? = some (C, T, N)) (k : Nat) (hk : k < N) (hlink : Cond.fieldLink own index (T k).1 (T k).2.1 (T k).2.2.1 ∈ Ts) (hfin : (T k).2.2.2 = true) (hin2 : meth.name = "<init>") (hdecl : (T k).1 = own) {v : Value} (hn : narrow (ty0 k) v = v) (hfit : fits (ty0 k) v = true) (hl : k < fs.length) (ws' : va_W) (hws : ws.set q0 (a, .inr (ci, fs.set k v)) = ws') (hdg : decode cc pc = .ok (.putfield index, 3))
    (kk : ∀ (H : Heap) (locs : List Loc), Gw D cl tys A s H0 H locs ws' → W p l e R s m args below meth c H locs cells slots Q (F0 m (pc + 3) ls rest)) : W p l e R s m args below meth c H locs cells slots Q (F0 m pc ls (v :: .ref a :: rest)) := by
  subst hws
  exact va_putF S.1 S.2.1 S.2.2.2.2 hin ty0 hty hnm S.2.2.2.1 G.1 G.2.1 G.2.2.1 G.2.2.2.1 q0 he hc k hk (S.2.2.2.2 _ hlink) (fun _ h => h) hfin hin2 hdecl (hty k hk) hn hfit hl hdg (fun H1 l1 a1 a2 a3 => kk H1 l1 ⟨G.1, a1, a2, a3, G.2.2.2.2⟩)
theorem g_iald (S : CallFix p m c cc nL s args Ts own) (G : Gw D cl tys A s H0 H locs ws) (q0 t0 : Nat) {cA : ClassId} {n : Nat} {f : Nat → Int32} (ha : ws[q0]? = some (a, .inl (cA, n, .inl f))) (ht : tys[t0]? = some (cA, .int)) {i : Int32} (hin : vp_in i n) (hdg : decode cc pc = .ok (.iaload, 1))
    (kk : W p l e R s m args below meth c H locs cells slots Q (F0 m (pc + 1) ls (.int (f i.toNatClampNeg) :: rest))) : W p l e R s m args below meth c H locs cells slots Q (F0 m pc ls (.int i :: .ref a :: rest)) :=
  va_iald S.1 S.2.1 G.1 G.2.1 q0 t0 ha ht hin hdg kk
theorem g_iast (S : CallFix p m c cc nL s args Ts own) (G : Gw D cl tys A s H0 H locs ws) (q0 t0 : Nat) {cA : ClassId} {n : Nat} {f : Nat → Int32} (ha : ws[q0]? = some (a, .inl (cA, n, .inl f))) (ht : tys[t0]? = some (cA, .int)) {i x : Int32} (hin : vp_in i n) (ws' : va_W) (hws : ws.set q0 (a, .inl (cA, n, .inl (upd f i.toNatClampNeg x))) = ws') (hdg : decode cc pc = .ok (.iastore, 1))
    (kk : ∀ (H : Heap) (locs : List Loc), Gw D cl tys A s H0 H locs ws' → W p l e R s m args below meth c H locs cells slots Q (F0 m (pc + 1) ls rest)) : W p l e R s m args below meth c H locs cells slots Q (F0 m pc ls (.int x :: .int i :: .ref a :: rest)) := by
  subst hws
  exact va_iast S.1 S.2.1 G.1 G.2.1 G.2.2.1 G.2.2.2.1 q0 t0 ha ht hin hdg (fun H1 l1 a1 a2 a3 => kk H1 l1 ⟨G.1, a1, a2, a3, G.2.2.2.2⟩)
theorem g_alen (S : CallFix p m c cc nL s args Ts own) (G : Gw D cl tys A s H0 H locs ws) (q0 t0 : Nat) {cA : ClassId} {x : vp_A} (ha : ws[q0]? = some (a, .inl (cA, x))) {ty : FieldType} (ht : tys[t0]? = some (cA, ty)) (v : Int32) (hv : Int32.ofNat x.1 = v) (hdg : decode cc pc = .ok (.arraylength, 1))
    (kk : W p l e R s m args below meth c H locs cells slots Q (F0 m (pc + 1) ls (.int v :: rest))) : W p l e R s m args below meth c H locs cells slots Q (F0 m pc ls (.ref a :: rest)) :=
  va_alen S.1 S.2.1 G.1 G.2.1 q0 t0 ha ht hv hdg kk
/-- a new array of ints, of the kind that is known already -/
theorem g_newa (S : CallFix p m c cc nL s args Ts own) (G : Gw D cl tys A s H0 H locs ws) (harr : Cond.arrayClass .int ∈ Ts) {cA : ClassId} (ht : tys = [(cA, .int)]) {n : Int32} (N : Nat) (hn : ¬ n < 0) (hN : n.toNatClampNeg = N) (hbytes : N * componentBytes .int ≤ 536870912) (hcells : cells + 1 ≤ R.cells) (hslots : slots + N ≤ R.slots) (hdg : decode cc pc = .ok (.newarray .int, 2))
    (kk : ∀ (q : Nat) (H : Heap), Gw D cl tys A s H0 H locs (ws ++ [(q, .inl (cA, N, .inl (fun _ => 0)))]) → W p l e R s m args below meth c H locs (cells + 1) (slots + N) Q (F0 m (pc + 2) ls (.ref q :: rest))) : W p l e R s m args below meth c H locs cells slots Q (F0 m pc ls (.int n :: rest)) := by
  refine va_newa (atype := .int) (ty := .int) (a0 := (N, .inl (fun _ => 0))) S.1 S.2.1 (S.2.2.2.2 _ harr) rfl G.1 G.2.1 G.2.2.1 G.2.2.2.1 G.2.2.2.2.1 (fun _ => rfl) hn hN hbytes hcells hslots hdg (fun q cB H1 hK a1 a2 a3 => ?_)
  subst ht
  have e : cB = cA := by
    have h1 := (hK.2 0 (cA, .int) rfl).2
    have h2 := (hK.2 1 (cB, .int) rfl).2
    exact Option.some.inj (h2.symm.trans h1)
  subst e
  exact kk q H1 ⟨G.1, a1, a2, a3, G.2.2.2.2⟩
theorem g_new (S : CallFix p m c cc nL s args Ts own) (G : Gw D cl tys A s H0 H locs ws) {C : String} {T : u_T} {N ci index : Nat} (hin : ∀ w ∈ u_ws C T N, w ∈ Ts) (ty : Nat → FieldType) (hty : ∀ k, k < N → parseFieldDescriptor (T k).2.2.1 = some (ty k)) (hcl : Cond.classLink own index C ∈ Ts) (hinst : Cond.instantiable C N ∈ Ts) (hini : Cond.initialized C ∈ Ts) (hc : cl[ci]? = some (C, T, N)) {fs : List Value} (hfs : ∀ j, j < N → defaultValue (ty j) = vp_V fs j) (hcells : cells + 1 ≤ R.cells) (hslots : slots + N ≤ R.slots) (hdg : decode cc pc = .ok (.new index, 3))
    (kk : ∀ (q : Nat) (H : Heap), Gw D cl tys A s H0 H locs (ws ++ [(q, .inr (ci, fs))]) → W p l e R s m args below meth c H locs (cells + 1) (slots + N) Q (F0 m (pc + 3) ls (.ref q :: rest))) : W p l e R s m args below meth c H locs cells slots Q (F0 m pc ls rest) :=
  va_new S.1 S.2.1 S.2.2.2.2 hin ty hty S.2.2.2.1 (S.2.2.2.2 _ hcl) (S.2.2.2.2 _ hinst) (S.2.2.2.2 _ hini) G.1 G.2.1 G.2.2.1 G.2.2.2.1 G.2.2.2.2.1 hc hfs hcells hslots hdg (fun q H1 a1 a2 a3 => kk q H1 ⟨G.1, a1, a2, a3, G.2.2.2.2⟩)
end BS
section BT
variable {p : Program} {l : Launch} {e : Env} {R : Room} {s : State} {m : MethodId} {args : Array Value} {below : List Frame} {meth : Method} {c : Code} {H : Heap} {locs : List Loc} {cells slots : Nat} {Q : State → Prop} {cc : ByteArray} {pc : Nat} {ls : Array Slot} {rest : List Value}
theorem g_table (hexec : p.tables.exec = Jvm.exec) (hb : c.code = cc) {dflt lo hi : Int} {offs : Array Int} {len : Nat} {x : Int32} {off : Int} {tgt : Nat} (hdg : decode cc pc = .ok (.tableswitch dflt lo hi offs, len)) (ho : (if x.toInt < lo ∨ hi < x.toInt then some dflt else offs[(x.toInt - lo).toNat]?) = some off) (ht : (pc : Int) + off = (tgt : Int))
    (k : W p l e R s m args below meth c H locs cells slots Q (F0 m tgt ls rest)) : W p l e R s m args below meth c H locs cells slots Q (F0 m pc ls (.int x :: rest)) := by
  by_cases h : x.toInt < lo ∨ hi < x.toInt
  · rw [if_pos h] at ho
    cases ho
    exact lv_tableOut hexec hb hdg h ht k
  · rw [if_neg h] at ho
    exact lv_tableIn hexec hb hdg (fun q => h (Or.inl q)) (fun q => h (Or.inr q)) ho ht k
end BT
end
section
section BC
variable {p : Program} {l : Launch} {e : Env} {R : Room} {s : State} {m : MethodId} {args : Array Value} {below : List Frame} {meth : Method} {c : Code} {H : Heap} {locs : List Loc} {cells slots : Nat} {Q : State → Prop}
variable {cc : ByteArray} {pc nL : Nat} {ls : Array Slot} {rest st0 : List Value} {D : va_G} {cl : List vw_C} {A : Nat → Prop} {tys : List (ClassId × FieldType)} {ws : va_W} {H0 : Heap} {Ts : List Cond} {own : String}
variable {y : MethodName} {wds : List Cond} {rm : Room} {bytes : ByteArray} {maxL mc ms n index : Nat} {ret : Option FieldType} {As av : List Value} {wc : va_W} {host : String}
theorem g_blind {D : va_G} {cl : List vw_C} {tys : List (ClassId × FieldType)} {av : List Value} {wc : va_W} {sz : Nat} : FrameBlind (va_Pc av (Pz D cl tys wc sz)) := fun a U g mk q => by
  obtain ⟨q0, q1, qP, qK, qD, qN⟩ := q
  exact ⟨q0, q1, qP, va_K.moved (u := U) (U := U.calling g mk a) (Vm.Alike.refl U.vm) qK, qD, va_Nw.same (u := U) rfl rfl qN⟩
theorem g_preS (G : Gw D cl tys A s H0 H locs ws) (isC : List Nat) (hC : isC.map (fun i => ws[i]?) = wc.map some) (hnC : va_nd isC = true) : PreS s H (va_Pc av (Pz D cl tys wc H.size)) av :=
  ⟨g_blind, fun U hU hW => ⟨rfl, by rw [hU], by rw [hU]; exact G.2.1.sub isC (bw_fm _ isC wc hC), va_K.moved hW.alike G.1, (G.2.2.1.sub isC hnC hC).weaken (fun _ _ _ _ => trivial), va_Nw.warmM hW G.2.2.2.2.2⟩⟩
theorem g_preV {C : String} {T : u_T} {N ci b : Nat} {fs : List Value} (G : Gw D cl tys A s H0 H locs ws) (isC : List Nat) (hC : isC.map (fun i => ws[i]?) = wc.map some) (hnC : va_nd isC = true) (q0 : Nat) (he : ws[q0]? = some (b, .inr (ci, fs))) (hc : cl[ci]? = some (C, T, N)) : PreV s H C b (va_Pc (.ref b :: As) (Pz D cl tys wc H.size)) As :=
  ⟨g_blind, va_recv G.1 G.2.1 hc he, fun U hU hW => ⟨rfl, by rw [hU], by rw [hU]; exact G.2.1.sub isC (bw_fm _ isC wc hC), va_K.moved hW.alike G.1, (G.2.2.1.sub isC hnC hC).weaken (fun _ _ _ _ => trivial), va_Nw.warmM hW G.2.2.2.2.2⟩⟩
theorem g_join (G : Gw D cl tys A s H0 H locs ws) {H1 : Heap} {locs1 : List Loc} {t : State} {w : va_W} (isC isR : List Nat) (hC : isC.map (fun i => ws[i]?) = wc.map some) (hR : isR.map (fun i => ws[i]?) = (isR.filterMap (fun i => ws[i]?)).map some) (hn : va_nd isR = true) (hdis : ∀ i ∈ isR, i ∉ isC) (ht : t.heap = H1) (hB : Bz D cl tys (va_A wc H.size) w t) (hk : ∀ q : Nat, q < H.size → ¬ va_A wc H.size q → H1[q]? = H[q]?) (hS : va_S A H0 H1 locs1) : Gw D cl tys A s H0 H1 locs1 (isR.filterMap (fun i => ws[i]?) ++ w) := by
  have hF := va_free (wc := wc) G.2.2.1 G.2.2.2.1 G.2.2.2.2.1 isC hC
  obtain ⟨hP1, hK1, hD1⟩ := hB
  rw [ht] at hP1
  obtain ⟨hP, hD⟩ := va_join G.2.1 G.2.2.1 isC isR hC hR hn hdis hk hF hP1 hD1
  exact ⟨G.1, hP, hD, hS, G.2.2.2.2⟩
theorem g_cVi {C : String} {T : u_T} {N ci b : Nat} {fs : List Value} {post : Int32 → va_W → Prop} (S : CallFix p m c cc nL s args Ts own) (G : Gw D cl tys A s H0 H locs ws) (hM : Ci l y wds rm D cl tys (.ref b :: As) wc mc ms post) (cw : CallW R s args own C index y bytes maxL ret wds rm mc ms n) (isC isR : List Nat) (hC : isC.map (fun i => ws[i]?) = wc.map some) (hnC : va_nd isC = true) (hR : isR.map (fun i => ws[i]?) = (isR.filterMap (fun i => ws[i]?)).map some) (hn : va_nd isR = true) (hdis : ∀ i ∈ isR, i ∉ isC) (q0 : Nat) (he : ws[q0]? = some (b, .inr (ci, fs))) (hc : cl[ci]? = some (C, T, N)) (hl : As.length = n) (hsize : ls.size = nL) (hst : st0 = As.reverse ++ .ref b :: rest) (hW : (rest.map fun v => v.category).sum ≤ 8) (hdg : decode cc pc = .ok (.invokevirtual index, 3)) (hf : cells + mc ≤ R.cells ∧ slots + ms ≤ R.slots)
    (kk : ∀ (r : Int32) (w : va_W) (H : Heap) (locs : List Loc), post r w → Gw D cl tys A s H0 H locs (isR.filterMap (fun i => ws[i]?) ++ w) → W p l e R s m args below meth c H locs (cells + mc) (slots + ms) Q (F0 m (pc + 3) ls (.int r :: rest))) : W p l e R s m args below meth c H locs cells slots Q (F0 m pc ls st0) := by
  have hF := va_free (wc := wc) G.2.2.1 G.2.2.2.1 G.2.2.2.2.1 isC hC
  exact va_calli (va_runV S (hM H.size) cw (g_preV G isC hC hnC q0 he hc) rfl hl hsize hst (lv_room hW) hdg hf) G.2.2.2.1 (fun q _ h => hF q h) hF (fun r u t H1 locs1 ht hvm hw hB hz1 hk1 hS => kk r u H1 locs1 hw (g_join G isC isR hC hR hn hdis ht hB hk1 hS))
theorem g_cVv {C : String} {T : u_T} {N ci b : Nat} {fs : List Value} {post : va_W → Prop} (S : CallFix p m c cc nL s args Ts own) (G : Gw D cl tys A s H0 H locs ws) (hM : Cv l y wds rm D cl tys (.ref b :: As) wc mc ms post) (cw : CallW R s args own C index y bytes maxL ret wds rm mc ms n) (isC isR : List Nat) (hC : isC.map (fun i => ws[i]?) = wc.map some) (hnC : va_nd isC = true) (hR : isR.map (fun i => ws[i]?) = (isR.filterMap (fun i => ws[i]?)).map some) (hn : va_nd isR = true) (hdis : ∀ i ∈ isR, i ∉ isC) (q0 : Nat) (he : ws[q0]? = some (b, .inr (ci, fs))) (hc : cl[ci]? = some (C, T, N)) (hl : As.length = n) (hsize : ls.size = nL) (hst : st0 = As.reverse ++ .ref b :: rest) (hW : (rest.map fun v => v.category).sum ≤ 8) (hdg : decode cc pc = .ok (.invokevirtual index, 3)) (hf : cells + mc ≤ R.cells ∧ slots + ms ≤ R.slots)
    (kk : ∀ (w : va_W) (H : Heap) (locs : List Loc), post w → Gw D cl tys A s H0 H locs (isR.filterMap (fun i => ws[i]?) ++ w) → W p l e R s m args below meth c H locs (cells + mc) (slots + ms) Q (F0 m (pc + 3) ls (rest))) : W p l e R s m args below meth c H locs cells slots Q (F0 m pc ls st0) := by
  have hF := va_free (wc := wc) G.2.2.1 G.2.2.2.1 G.2.2.2.2.1 isC hC
  exact va_callv (va_runV S (hM H.size) cw (g_preV G isC hC hnC q0 he hc) rfl hl hsize hst (lv_room hW) hdg hf) G.2.2.2.1 (fun q _ h => hF q h) hF (fun u t H1 locs1 ht hvm hw hB hz1 hk1 hS => kk u H1 locs1 hw (g_join G isC isR hC hR hn hdis ht hB hk1 hS))
theorem g_cVq {C : String} {T : u_T} {N ci b : Nat} {fs : List Value} {post : Option Nat → va_W → Prop} (S : CallFix p m c cc nL s args Ts own) (G : Gw D cl tys A s H0 H locs ws) (hM : Cq l y wds rm D cl tys (.ref b :: As) wc mc ms post) (cw : CallW R s args own C index y bytes maxL ret wds rm mc ms n) (isC isR : List Nat) (hC : isC.map (fun i => ws[i]?) = wc.map some) (hnC : va_nd isC = true) (hR : isR.map (fun i => ws[i]?) = (isR.filterMap (fun i => ws[i]?)).map some) (hn : va_nd isR = true) (hdis : ∀ i ∈ isR, i ∉ isC) (q0 : Nat) (he : ws[q0]? = some (b, .inr (ci, fs))) (hc : cl[ci]? = some (C, T, N)) (hl : As.length = n) (hsize : ls.size = nL) (hst : st0 = As.reverse ++ .ref b :: rest) (hW : (rest.map fun v => v.category).sum ≤ 8) (hdg : decode cc pc = .ok (.invokevirtual index, 3)) (hf : cells + mc ≤ R.cells ∧ slots + ms ≤ R.slots)
    (kk : ∀ (r : Option Nat) (w : va_W) (H : Heap) (locs : List Loc), post r w → Gw D cl tys A s H0 H locs (isR.filterMap (fun i => ws[i]?) ++ w) → W p l e R s m args below meth c H locs (cells + mc) (slots + ms) Q (F0 m (pc + 3) ls (va_rf r :: rest))) : W p l e R s m args below meth c H locs cells slots Q (F0 m pc ls st0) := by
  have hF := va_free (wc := wc) G.2.2.1 G.2.2.2.1 G.2.2.2.2.1 isC hC
  exact va_callq (va_runV S (hM H.size) cw (g_preV G isC hC hnC q0 he hc) rfl hl hsize hst (lv_room hW) hdg hf) G.2.2.2.1 (fun q _ h => hF q h) hF (fun r u t H1 locs1 ht hvm hw hB hz1 hk1 hS => kk r u H1 locs1 hw (g_join G isC isR hC hR hn hdis ht hB hk1 hS))
theorem g_cSi {post : Int32 → va_W → Prop} (S : CallFix p m c cc nL s args Ts own) (G : Gw D cl tys A s H0 H locs ws) (hM : Ci l y wds rm D cl tys As wc mc ms post) (cw : CallB R s args own index y bytes maxL ret wds rm mc ms n ∧ (Cond.static y).before args s = true) (isC isR : List Nat) (hC : isC.map (fun i => ws[i]?) = wc.map some) (hnC : va_nd isC = true) (hR : isR.map (fun i => ws[i]?) = (isR.filterMap (fun i => ws[i]?)).map some) (hn : va_nd isR = true) (hdis : ∀ i ∈ isR, i ∉ isC) (hl : As.length = n) (hsize : ls.size = nL) (hst : st0 = As.reverse ++ rest) (hW : (rest.map fun v => v.category).sum ≤ 8) (hdg : decode cc pc = .ok (.invokestatic index, 3)) (hf : cells + mc ≤ R.cells ∧ slots + ms ≤ R.slots)
    (kk : ∀ (r : Int32) (w : va_W) (H : Heap) (locs : List Loc), post r w → Gw D cl tys A s H0 H locs (isR.filterMap (fun i => ws[i]?) ++ w) → W p l e R s m args below meth c H locs (cells + mc) (slots + ms) Q (F0 m (pc + 3) ls (.int r :: rest))) : W p l e R s m args below meth c H locs cells slots Q (F0 m pc ls st0) := by
  have hF := va_free (wc := wc) G.2.2.1 G.2.2.2.1 G.2.2.2.2.1 isC hC
  exact va_calli (va_runS S (hM H.size) cw (g_preS G isC hC hnC) rfl hl hsize hst (lv_room hW) hdg hf) G.2.2.2.1 (fun q _ h => hF q h) hF (fun r u t H1 locs1 ht hvm hw hB hz1 hk1 hS => kk r u H1 locs1 hw (g_join G isC isR hC hR hn hdis ht hB hk1 hS))
theorem g_cSv {post : va_W → Prop} (S : CallFix p m c cc nL s args Ts own) (G : Gw D cl tys A s H0 H locs ws) (hM : Cv l y wds rm D cl tys As wc mc ms post) (cw : CallB R s args own index y bytes maxL ret wds rm mc ms n ∧ (Cond.static y).before args s = true) (isC isR : List Nat) (hC : isC.map (fun i => ws[i]?) = wc.map some) (hnC : va_nd isC = true) (hR : isR.map (fun i => ws[i]?) = (isR.filterMap (fun i => ws[i]?)).map some) (hn : va_nd isR = true) (hdis : ∀ i ∈ isR, i ∉ isC) (hl : As.length = n) (hsize : ls.size = nL) (hst : st0 = As.reverse ++ rest) (hW : (rest.map fun v => v.category).sum ≤ 8) (hdg : decode cc pc = .ok (.invokestatic index, 3)) (hf : cells + mc ≤ R.cells ∧ slots + ms ≤ R.slots)
    (kk : ∀ (w : va_W) (H : Heap) (locs : List Loc), post w → Gw D cl tys A s H0 H locs (isR.filterMap (fun i => ws[i]?) ++ w) → W p l e R s m args below meth c H locs (cells + mc) (slots + ms) Q (F0 m (pc + 3) ls (rest))) : W p l e R s m args below meth c H locs cells slots Q (F0 m pc ls st0) := by
  have hF := va_free (wc := wc) G.2.2.1 G.2.2.2.1 G.2.2.2.2.1 isC hC
  exact va_callv (va_runS S (hM H.size) cw (g_preS G isC hC hnC) rfl hl hsize hst (lv_room hW) hdg hf) G.2.2.2.1 (fun q _ h => hF q h) hF (fun u t H1 locs1 ht hvm hw hB hz1 hk1 hS => kk u H1 locs1 hw (g_join G isC isR hC hR hn hdis ht hB hk1 hS))
theorem g_cSq {post : Option Nat → va_W → Prop} (S : CallFix p m c cc nL s args Ts own) (G : Gw D cl tys A s H0 H locs ws) (hM : Cq l y wds rm D cl tys As wc mc ms post) (cw : CallB R s args own index y bytes maxL ret wds rm mc ms n ∧ (Cond.static y).before args s = true) (isC isR : List Nat) (hC : isC.map (fun i => ws[i]?) = wc.map some) (hnC : va_nd isC = true) (hR : isR.map (fun i => ws[i]?) = (isR.filterMap (fun i => ws[i]?)).map some) (hn : va_nd isR = true) (hdis : ∀ i ∈ isR, i ∉ isC) (hl : As.length = n) (hsize : ls.size = nL) (hst : st0 = As.reverse ++ rest) (hW : (rest.map fun v => v.category).sum ≤ 8) (hdg : decode cc pc = .ok (.invokestatic index, 3)) (hf : cells + mc ≤ R.cells ∧ slots + ms ≤ R.slots)
    (kk : ∀ (r : Option Nat) (w : va_W) (H : Heap) (locs : List Loc), post r w → Gw D cl tys A s H0 H locs (isR.filterMap (fun i => ws[i]?) ++ w) → W p l e R s m args below meth c H locs (cells + mc) (slots + ms) Q (F0 m (pc + 3) ls (va_rf r :: rest))) : W p l e R s m args below meth c H locs cells slots Q (F0 m pc ls st0) := by
  have hF := va_free (wc := wc) G.2.2.1 G.2.2.2.1 G.2.2.2.2.1 isC hC
  exact va_callq (va_runS S (hM H.size) cw (g_preS G isC hC hnC) rfl hl hsize hst (lv_room hW) hdg hf) G.2.2.2.1 (fun q _ h => hF q h) hF (fun r u t H1 locs1 ht hvm hw hB hz1 hk1 hS => kk r u H1 locs1 hw (g_join G isC isR hC hR hn hdis ht hB hk1 hS))
theorem g_cNi {post : Int32 → va_W → Prop} (S : CallFix p m c cc nL s args Ts own) (G : Gw D cl tys A s H0 H locs ws) (hM : Ci l y wds rm D cl tys As wc mc ms post) (cw : va_CN R s args own index y host bytes maxL ret wds rm mc ms n ∧ (Cond.static y).before args s = true ∧ True) (isC isR : List Nat) (hC : isC.map (fun i => ws[i]?) = wc.map some) (hnC : va_nd isC = true) (hR : isR.map (fun i => ws[i]?) = (isR.filterMap (fun i => ws[i]?)).map some) (hn : va_nd isR = true) (hdis : ∀ i ∈ isR, i ∉ isC) (hl : As.length = n) (hsize : ls.size = nL) (hst : st0 = As.reverse ++ rest) (hW : (rest.map fun v => v.category).sum ≤ 8) (hdg : decode cc pc = .ok (.invokestatic index, 3)) (hf : cells + mc ≤ R.cells ∧ slots + ms ≤ R.slots)
    (kk : ∀ (r : Int32) (w : va_W) (H : Heap) (locs : List Loc), post r w → Gw D cl tys A s H0 H locs (isR.filterMap (fun i => ws[i]?) ++ w) → W p l e R s m args below meth c H locs (cells + mc) (slots + ms) Q (F0 m (pc + 3) ls (.int r :: rest))) : W p l e R s m args below meth c H locs cells slots Q (F0 m pc ls st0) := by
  have hF := va_free (wc := wc) G.2.2.1 G.2.2.2.1 G.2.2.2.2.1 isC hC
  exact va_calli (va_runSN S (hM H.size) cw (g_preS G isC hC hnC) rfl hl hsize hst (lv_room hW) hdg hf) G.2.2.2.1 (fun q _ h => hF q h) hF (fun r u t H1 locs1 ht hvm hw hB hz1 hk1 hS => kk r u H1 locs1 hw (g_join G isC isR hC hR hn hdis ht hB hk1 hS))
theorem g_cNv {post : va_W → Prop} (S : CallFix p m c cc nL s args Ts own) (G : Gw D cl tys A s H0 H locs ws) (hM : Cv l y wds rm D cl tys As wc mc ms post) (cw : va_CN R s args own index y host bytes maxL ret wds rm mc ms n ∧ (Cond.static y).before args s = true ∧ True) (isC isR : List Nat) (hC : isC.map (fun i => ws[i]?) = wc.map some) (hnC : va_nd isC = true) (hR : isR.map (fun i => ws[i]?) = (isR.filterMap (fun i => ws[i]?)).map some) (hn : va_nd isR = true) (hdis : ∀ i ∈ isR, i ∉ isC) (hl : As.length = n) (hsize : ls.size = nL) (hst : st0 = As.reverse ++ rest) (hW : (rest.map fun v => v.category).sum ≤ 8) (hdg : decode cc pc = .ok (.invokestatic index, 3)) (hf : cells + mc ≤ R.cells ∧ slots + ms ≤ R.slots)
    (kk : ∀ (w : va_W) (H : Heap) (locs : List Loc), post w → Gw D cl tys A s H0 H locs (isR.filterMap (fun i => ws[i]?) ++ w) → W p l e R s m args below meth c H locs (cells + mc) (slots + ms) Q (F0 m (pc + 3) ls (rest))) : W p l e R s m args below meth c H locs cells slots Q (F0 m pc ls st0) := by
  have hF := va_free (wc := wc) G.2.2.1 G.2.2.2.1 G.2.2.2.2.1 isC hC
  exact va_callv (va_runSN S (hM H.size) cw (g_preS G isC hC hnC) rfl hl hsize hst (lv_room hW) hdg hf) G.2.2.2.1 (fun q _ h => hF q h) hF (fun u t H1 locs1 ht hvm hw hB hz1 hk1 hS => kk u H1 locs1 hw (g_join G isC isR hC hR hn hdis ht hB hk1 hS))
theorem g_cNq {post : Option Nat → va_W → Prop} (S : CallFix p m c cc nL s args Ts own) (G : Gw D cl tys A s H0 H locs ws) (hM : Cq l y wds rm D cl tys As wc mc ms post) (cw : va_CN R s args own index y host bytes maxL ret wds rm mc ms n ∧ (Cond.static y).before args s = true ∧ True) (isC isR : List Nat) (hC : isC.map (fun i => ws[i]?) = wc.map some) (hnC : va_nd isC = true) (hR : isR.map (fun i => ws[i]?) = (isR.filterMap (fun i => ws[i]?)).map some) (hn : va_nd isR = true) (hdis : ∀ i ∈ isR, i ∉ isC) (hl : As.length = n) (hsize : ls.size = nL) (hst : st0 = As.reverse ++ rest) (hW : (rest.map fun v => v.category).sum ≤ 8) (hdg : decode cc pc = .ok (.invokestatic index, 3)) (hf : cells + mc ≤ R.cells ∧ slots + ms ≤ R.slots)
    (kk : ∀ (r : Option Nat) (w : va_W) (H : Heap) (locs : List Loc), post r w → Gw D cl tys A s H0 H locs (isR.filterMap (fun i => ws[i]?) ++ w) → W p l e R s m args below meth c H locs (cells + mc) (slots + ms) Q (F0 m (pc + 3) ls (va_rf r :: rest))) : W p l e R s m args below meth c H locs cells slots Q (F0 m pc ls st0) := by
  have hF := va_free (wc := wc) G.2.2.1 G.2.2.2.1 G.2.2.2.2.1 isC hC
  exact va_callq (va_runSN S (hM H.size) cw (g_preS G isC hC hnC) rfl hl hsize hst (lv_room hW) hdg hf) G.2.2.2.1 (fun q _ h => hF q h) hF (fun r u t H1 locs1 ht hvm hw hB hz1 hk1 hS => kk r u H1 locs1 hw (g_join G isC isR hC hR hn hdis ht hB hk1 hS))
theorem g_cIv {b : Nat} {post : va_W → Prop} (S : CallFix p m c cc nL s args Ts own) (G : Gw D cl tys A s H0 H locs ws) (hM : Cv l y wds rm D cl tys (.ref b :: As) wc mc ms post) (cw : CallB R s args own index y bytes maxL none wds rm mc ms n ∧ y.name = "<init>" ∧ (Cond.instanceMethod y).before args s = true) (isC isR : List Nat) (hC : isC.map (fun i => ws[i]?) = wc.map some) (hnC : va_nd isC = true) (hR : isR.map (fun i => ws[i]?) = (isR.filterMap (fun i => ws[i]?)).map some) (hn : va_nd isR = true) (hdis : ∀ i ∈ isR, i ∉ isC) (hl : As.length = n) (hsize : ls.size = nL) (hst : st0 = As.reverse ++ .ref b :: rest) (hW : (rest.map fun v => v.category).sum ≤ 8) (hdg : decode cc pc = .ok (.invokespecial index, 3)) (hf : cells + mc ≤ R.cells ∧ slots + ms ≤ R.slots)
    (kk : ∀ (w : va_W) (H : Heap) (locs : List Loc), post w → Gw D cl tys A s H0 H locs (isR.filterMap (fun i => ws[i]?) ++ w) → W p l e R s m args below meth c H locs (cells + mc) (slots + ms) Q (F0 m (pc + 3) ls (rest))) : W p l e R s m args below meth c H locs cells slots Q (F0 m pc ls st0) := by
  have hF := va_free (wc := wc) G.2.2.1 G.2.2.2.1 G.2.2.2.2.1 isC hC
  exact va_callv (va_runI S (hM H.size) cw (g_preS G isC hC hnC) rfl hl hsize hst (lv_room hW) hdg hf) G.2.2.2.1 (fun q _ h => hF q h) hF (fun u t H1 locs1 ht hvm hw hB hz1 hk1 hS => kk u H1 locs1 hw (g_join G isC isR hC hR hn hdis ht hB hk1 hS))
theorem g_cJv {b : Nat} {post : va_W → Prop} (S : CallFix p m c cc nL s args Ts own) (G : Gw D cl tys A s H0 H locs ws) (hM : Cv l y wds rm D cl tys (.ref b :: As) wc mc ms post) (cw : va_CN R s args own index y host bytes maxL none wds rm mc ms n ∧ y.name = "<init>" ∧ (Cond.instanceMethod y).before args s = true) (isC isR : List Nat) (hC : isC.map (fun i => ws[i]?) = wc.map some) (hnC : va_nd isC = true) (hR : isR.map (fun i => ws[i]?) = (isR.filterMap (fun i => ws[i]?)).map some) (hn : va_nd isR = true) (hdis : ∀ i ∈ isR, i ∉ isC) (hl : As.length = n) (hsize : ls.size = nL) (hst : st0 = As.reverse ++ .ref b :: rest) (hW : (rest.map fun v => v.category).sum ≤ 8) (hdg : decode cc pc = .ok (.invokespecial index, 3)) (hf : cells + mc ≤ R.cells ∧ slots + ms ≤ R.slots)
    (kk : ∀ (w : va_W) (H : Heap) (locs : List Loc), post w → Gw D cl tys A s H0 H locs (isR.filterMap (fun i => ws[i]?) ++ w) → W p l e R s m args below meth c H locs (cells + mc) (slots + ms) Q (F0 m (pc + 3) ls (rest))) : W p l e R s m args below meth c H locs cells slots Q (F0 m pc ls st0) := by
  have hF := va_free (wc := wc) G.2.2.1 G.2.2.2.1 G.2.2.2.2.1 isC hC
  exact va_callv (va_runIN S (hM H.size) cw (g_preS G isC hC hnC) rfl hl hsize hst (lv_room hW) hdg hf) G.2.2.2.1 (fun q _ h => hF q h) hF (fun u t H1 locs1 ht hvm hw hB hz1 hk1 hS => kk u H1 locs1 hw (g_join G isC isR hC hR hn hdis ht hB hk1 hS))
theorem g_cMi {C : String} {T : u_T} {N ci b : Nat} {fs : List Value} {post : Int32 → va_W → Prop} (S : CallFix p m c cc nL s args Ts own) (G : Gw D cl tys A s H0 H locs ws) (hM : Ci l y wds rm D cl tys (.ref b :: As) wc mc ms post) (cw : va_CN R s args own index y host bytes maxL ret wds rm mc ms n ∧ (Cond.instanceMethod y).before args s = true ∧ (Cond.selects C y y).before args s = true) (isC isR : List Nat) (hC : isC.map (fun i => ws[i]?) = wc.map some) (hnC : va_nd isC = true) (hR : isR.map (fun i => ws[i]?) = (isR.filterMap (fun i => ws[i]?)).map some) (hn : va_nd isR = true) (hdis : ∀ i ∈ isR, i ∉ isC) (q0 : Nat) (he : ws[q0]? = some (b, .inr (ci, fs))) (hc : cl[ci]? = some (C, T, N)) (hl : As.length = n) (hsize : ls.size = nL) (hst : st0 = As.reverse ++ .ref b :: rest) (hW : (rest.map fun v => v.category).sum ≤ 8) (hdg : decode cc pc = .ok (.invokevirtual index, 3)) (hf : cells + mc ≤ R.cells ∧ slots + ms ≤ R.slots)
    (kk : ∀ (r : Int32) (w : va_W) (H : Heap) (locs : List Loc), post r w → Gw D cl tys A s H0 H locs (isR.filterMap (fun i => ws[i]?) ++ w) → W p l e R s m args below meth c H locs (cells + mc) (slots + ms) Q (F0 m (pc + 3) ls (.int r :: rest))) : W p l e R s m args below meth c H locs cells slots Q (F0 m pc ls st0) := by
  have hF := va_free (wc := wc) G.2.2.1 G.2.2.2.1 G.2.2.2.2.1 isC hC
  exact va_calli (va_runVN S (hM H.size) cw (g_preV G isC hC hnC q0 he hc) rfl hl hsize hst (lv_room hW) hdg hf) G.2.2.2.1 (fun q _ h => hF q h) hF (fun r u t H1 locs1 ht hvm hw hB hz1 hk1 hS => kk r u H1 locs1 hw (g_join G isC isR hC hR hn hdis ht hB hk1 hS))
theorem g_cMv {C : String} {T : u_T} {N ci b : Nat} {fs : List Value} {post : va_W → Prop} (S : CallFix p m c cc nL s args Ts own) (G : Gw D cl tys A s H0 H locs ws) (hM : Cv l y wds rm D cl tys (.ref b :: As) wc mc ms post) (cw : va_CN R s args own index y host bytes maxL ret wds rm mc ms n ∧ (Cond.instanceMethod y).before args s = true ∧ (Cond.selects C y y).before args s = true) (isC isR : List Nat) (hC : isC.map (fun i => ws[i]?) = wc.map some) (hnC : va_nd isC = true) (hR : isR.map (fun i => ws[i]?) = (isR.filterMap (fun i => ws[i]?)).map some) (hn : va_nd isR = true) (hdis : ∀ i ∈ isR, i ∉ isC) (q0 : Nat) (he : ws[q0]? = some (b, .inr (ci, fs))) (hc : cl[ci]? = some (C, T, N)) (hl : As.length = n) (hsize : ls.size = nL) (hst : st0 = As.reverse ++ .ref b :: rest) (hW : (rest.map fun v => v.category).sum ≤ 8) (hdg : decode cc pc = .ok (.invokevirtual index, 3)) (hf : cells + mc ≤ R.cells ∧ slots + ms ≤ R.slots)
    (kk : ∀ (w : va_W) (H : Heap) (locs : List Loc), post w → Gw D cl tys A s H0 H locs (isR.filterMap (fun i => ws[i]?) ++ w) → W p l e R s m args below meth c H locs (cells + mc) (slots + ms) Q (F0 m (pc + 3) ls (rest))) : W p l e R s m args below meth c H locs cells slots Q (F0 m pc ls st0) := by
  have hF := va_free (wc := wc) G.2.2.1 G.2.2.2.1 G.2.2.2.2.1 isC hC
  exact va_callv (va_runVN S (hM H.size) cw (g_preV G isC hC hnC q0 he hc) rfl hl hsize hst (lv_room hW) hdg hf) G.2.2.2.1 (fun q _ h => hF q h) hF (fun u t H1 locs1 ht hvm hw hB hz1 hk1 hS => kk u H1 locs1 hw (g_join G isC isR hC hR hn hdis ht hB hk1 hS))
theorem g_cMq {C : String} {T : u_T} {N ci b : Nat} {fs : List Value} {post : Option Nat → va_W → Prop} (S : CallFix p m c cc nL s args Ts own) (G : Gw D cl tys A s H0 H locs ws) (hM : Cq l y wds rm D cl tys (.ref b :: As) wc mc ms post) (cw : va_CN R s args own index y host bytes maxL ret wds rm mc ms n ∧ (Cond.instanceMethod y).before args s = true ∧ (Cond.selects C y y).before args s = true) (isC isR : List Nat) (hC : isC.map (fun i => ws[i]?) = wc.map some) (hnC : va_nd isC = true) (hR : isR.map (fun i => ws[i]?) = (isR.filterMap (fun i => ws[i]?)).map some) (hn : va_nd isR = true) (hdis : ∀ i ∈ isR, i ∉ isC) (q0 : Nat) (he : ws[q0]? = some (b, .inr (ci, fs))) (hc : cl[ci]? = some (C, T, N)) (hl : As.length = n) (hsize : ls.size = nL) (hst : st0 = As.reverse ++ .ref b :: rest) (hW : (rest.map fun v => v.category).sum ≤ 8) (hdg : decode cc pc = .ok (.invokevirtual index, 3)) (hf : cells + mc ≤ R.cells ∧ slots + ms ≤ R.slots)
    (kk : ∀ (r : Option Nat) (w : va_W) (H : Heap) (locs : List Loc), post r w → Gw D cl tys A s H0 H locs (isR.filterMap (fun i => ws[i]?) ++ w) → W p l e R s m args below meth c H locs (cells + mc) (slots + ms) Q (F0 m (pc + 3) ls (va_rf r :: rest))) : W p l e R s m args below meth c H locs cells slots Q (F0 m pc ls st0) := by
  have hF := va_free (wc := wc) G.2.2.1 G.2.2.2.1 G.2.2.2.2.1 isC hC
  exact va_callq (va_runVN S (hM H.size) cw (g_preV G isC hC hnC q0 he hc) rfl hl hsize hst (lv_room hW) hdg hf) G.2.2.2.1 (fun q _ h => hF q h) hF (fun r u t H1 locs1 ht hvm hw hB hz1 hk1 hS => kk r u H1 locs1 hw (g_join G isC isR hC hR hn hdis ht hB hk1 hS))
end BC
end
section
/-! The component's methods as pure functions over its state, branch by branch as the code has them. A state: rows of numbers. Row 0: own address, gap, spoilt, frame's size, answer's size; rows 1 to 4 the tables; 5 the frame; 6 the answer; 7 the counts. -/
abbrev St : Type := Nat → Nat → Int32
def sU (σ : St) (k i : Nat) (v : Int32) : St := fun j => if j = k then upd (σ k) i v else σ j
def sS (σ : St) (k : Nat) (f : Nat → Int32) : St := fun j => if j = k then f else σ j
def sB (σ : St) (k j : Nat) (f : Nat → Int32) (z : Int32) : St := fun x => if x = k then f else if x = 0 then upd (σ 0) j z else σ x
def ush (x y : Int32) : Int32 := (x.toUInt32 >>> (y.toUInt32 &&& Int32.toUInt32 31)).toInt32
def lush (x : Int64) (y : Int32) : Int64 := (x.toUInt64 >>> (y.toInt64.toUInt64 &&& Int64.toUInt64 63)).toInt64
def lshlL (x : Int64) (y : Int32) : Int64 := x <<< (y.toInt64 &&& 63)
-- a table: n places f, the highest number most
def tHas (n : Nat) (p : Int32) : Int32 := if p < 0 then 0 else if nI n ≤ p then 0 else 1
def tAt (n : Nat) (f : Nat → Int32) (p : Int32) : Int32 := if tHas n p = 0 then -1 else f p.toNatClampNeg
def tRepR (n : Nat) (f : Nat → Int32) (most p v : Int32) : Int32 := if tHas n p = 0 then -1 else if v < 0 then -1 else if v ≤ most then f p.toNatClampNeg else -1
def tRepF (n : Nat) (f : Nat → Int32) (most p v : Int32) : Nat → Int32 := if tHas n p = 0 then f else if v < 0 then f else if v ≤ most then upd f p.toNatClampNeg v else f
-- a row of bytes: n places f, z of them filled
def apF (n : Nat) (f : Nat → Int32) (z b : Int32) : Nat → Int32 := if z < 0 then f else if nI n ≤ z then f else upd f z.toNatClampNeg b
def apZ (n : Nat) (z : Int32) : Int32 := if z < 0 then z else if nI n ≤ z then z else z + 1
def bAt (n : Nat) (f : Nat → Int32) (z i : Int32) : Int32 := if i < 0 then -1 else if z ≤ i then -1 else if nI n ≤ i then -1 else f i.toNatClampNeg
-- the check sum
def crcS (s : Int32) : Int32 := if s &&& 1 = 0 then ush s 1 else ush s 1 ^^^ 40961
def crcN : Nat → Int32 → Int32
  | 0, s => s
  | k + 1, s => crcN k (crcS s)
def sumW (s b : Int32) : Int32 := crcN 8 (s ^^^ b)
def byteOf (v : Int64) (i : Int32) : Int32 := (lush v (8 * i)).toInt32 &&& 255
def isFT (x a b : Int32) : Int32 := if x < a then 0 else if b < x then 0 else 1
def bfb (n : Int32) : Int32 := (n + 7) / 8
/-- the sum of the bytes i, i + 1 ..: k of them -/
def sFst (n : Nat) (f : Nat → Int32) (z : Int32) : Nat → Nat → Int32 → Int32
  | 0, _, s => s
  | k + 1, i, s => sFst n f z k (i + 1) (sumW s (bAt n f z (nI i)))
def bSum (n : Nat) (f : Nat → Int32) (z c : Int32) : Int32 := sFst n f z c.toNatClampNeg 0 65535
def bEnd (n : Nat) (f : Nat → Int32) (z : Int32) : Int32 := if bAt n f z (z - 2) = bSum n f z (z - 2) &&& 255 then (if bAt n f z (z - 1) = ush (bSum n f z (z - 2)) 8 then 1 else 0) else 0
-- frame and answer of the slave
def wApF (σ : St) (b : Int32) : St := sB σ 5 3 (apF 257 (σ 5) (σ 0 3) b) (apZ 257 (σ 0 3))
def wApA (σ : St) (b : Int32) : St := sB σ 6 4 (apF 256 (σ 6) (σ 0 4) b) (apZ 256 (σ 0 4))
def fAt (σ : St) (i : Int32) : Int32 := bAt 257 (σ 5) (σ 0 3) i
def wTake (σ : St) (b : Int32) : St := wApF (sU (if σ 0 3 ≤ 0 then σ else if σ 0 1 < 7 then σ else sU σ 0 2 1) 0 1 0) b
def wHear (σ : St) (b : Int32) : St := if b < 0 then σ else if b ≤ 255 then wTake σ b else σ
def wHearR (σ : St) (b : Int32) : Int32 := if b < 0 then -1 else if b ≤ 255 then wTake σ b 0 3 else -1
def wLisL (v : Int64) : Nat → St → St
  | 0, σ => σ
  | k + 1, σ => wLisL v k (wTake σ (byteOf v (nI k)))
def wLis (σ : St) (n : Int32) (v : Int64) : St := if n < 1 then σ else if n ≤ 8 then wLisL v n.toNatClampNeg σ else σ
def wLisR (σ : St) (n : Int32) (v : Int64) : Int32 := if n < 1 then -1 else if n ≤ 8 then wLisL v n.toNatClampNeg σ 0 3 else -1
def wSumL (v : Int64) : Nat → Int32 → Int32
  | 0, s => s
  | k + 1, s => wSumL v k (sumW s (byteOf v (nI k)))
def wSum (n : Int32) (v : Int64) : Int32 := if n < 0 then -1 else if n ≤ 8 then wSumL v n.toNatClampNeg 65535 else -1
def wTal (σ : St) (w : Int32) : St := if w < 0 then σ else if 6 ≤ w then σ else sU σ 7 w.toNatClampNeg (σ 7 w.toNatClampNeg + 1)
def wCnt (σ : St) (w : Int32) : Int32 := if w < 0 then -1 else if w < 6 then σ 7 w.toNatClampNeg else -1
def tNum (t : Int32) : Nat := if t = 0 then 1 else if t = 1 then 2 else if t = 2 then 3 else if t = 3 then 4 else 0
def wGetK (σ : St) (p : Int32) : Nat → Int32
  | 1 => tAt 256 (σ 1) p
  | 2 => tAt 256 (σ 2) p
  | 3 => tAt 64 (σ 3) p
  | 4 => tAt 64 (σ 4) p
  | _ => -1
def wGet (σ : St) (t p : Int32) : Int32 := wGetK σ p (tNum t)
def wSetRK (σ : St) (p v : Int32) : Nat → Int32
  | 1 => tRepR 256 (σ 1) 1 p v
  | 2 => tRepR 256 (σ 2) 1 p v
  | 3 => tRepR 64 (σ 3) 65535 p v
  | 4 => tRepR 64 (σ 4) 65535 p v
  | _ => -1
def wSetR (σ : St) (t p v : Int32) : Int32 := wSetRK σ p v (tNum t)
def wSetK (σ : St) (p v : Int32) : Nat → St
  | 1 => sS σ 1 (tRepF 256 (σ 1) 1 p v)
  | 2 => sS σ 2 (tRepF 256 (σ 2) 1 p v)
  | 3 => sS σ 3 (tRepF 64 (σ 3) 65535 p v)
  | 4 => sS σ 4 (tRepF 64 (σ 4) 65535 p v)
  | _ => σ
def wSet (σ : St) (t p v : Int32) : St := wSetK σ p v (tNum t)
def wThr (σ : St) : Int32 := if σ 0 2 = 0 then (if isFT (σ 0 3) 4 256 = 0 then 1 else if bEnd 257 (σ 5) (σ 0 3) = 0 then 1 else 0) else 1
def wOth (σ : St) : Int32 := if fAt σ 0 = 0 then 0 else if fAt σ 0 = σ 0 0 then 0 else 1
def dSz (σ : St) : Int32 := σ 0 3 - 4
def dAt (σ : St) (i : Int32) : Int32 := fAt σ (2 + i)
def dNum (σ : St) (i : Int32) : Int32 := dAt σ i * 256 + dAt σ (i + 1)
/-- which table a function works on: 1 to 4, 0 for none -/
def fTab (f : Int32) : Nat := if f = 1 then 1 else if f = 2 then 2 else if f = 3 then 3 else if f = 4 then 4 else if f = 5 then 1 else if f = 6 then 3 else if f = 15 then 1 else if f = 16 then 3 else 0
def tRef (a : Nat → Nat) : Nat → Option Nat
  | 1 => some (a 1)
  | 2 => some (a 3)
  | 3 => some (a 5)
  | 4 => some (a 7)
  | _ => none
theorem tNum_cases (t : Int32) : tNum t = 0 ∨ tNum t = 1 ∨ tNum t = 2 ∨ tNum t = 3 ∨ tNum t = 4 := by
  unfold tNum
  repeat' split
  all_goals simp
theorem fTab_cases (t : Int32) : fTab t = 0 ∨ fTab t = 1 ∨ fTab t = 2 ∨ fTab t = 3 ∨ fTab t = 4 := by
  unfold fTab
  repeat' split
  all_goals simp
def dueS (σ : St) (f : Int32) : Int32 := if f = 15 then (if dSz σ < 6 then 0 else if dSz σ = 5 + dAt σ 4 then 1 else 0) else if f = 16 then (if dSz σ < 6 then 0 else if dSz σ = 5 + dAt σ 4 then 1 else 0) else if dSz σ = 4 then 1 else 0
def dueA (σ : St) (f n : Int32) : Int32 := if f = 1 then isFT n 1 2000 else if f = 2 then isFT n 1 2000 else if f = 3 then isFT n 1 125 else if f = 4 then isFT n 1 125
  else if f = 5 then (if n = 0 then 1 else if n = 65280 then 1 else 0) else if f = 6 then 1
  else if f = 15 then (if isFT n 1 1968 = 0 then 0 else if dAt σ 4 = bfb n then 1 else 0) else if f = 16 then (if isFT n 1 123 = 0 then 0 else if dAt σ 4 = 2 * n then 1 else 0) else 0
def lastP (f a n : Int32) : Int32 := if f = 5 then a else if f = 6 then a else a + n - 1
def refP (N : Nat) (a z : Int32) : Int32 := if tHas N a = 0 then 2 else if tHas N z = 0 then 2 else 0
def wRefD (σ : St) (f a n : Int32) (N : Nat) : Int32 := if dueS σ f = 0 then 3 else if dueA σ f n = 0 then 3 else refP N a (lastP f a n)
def wRefK (σ : St) (f a n : Int32) : Nat → Int32
  | 0 => 1
  | 1 => wRefD σ f a n 256
  | 2 => wRefD σ f a n 256
  | 3 => wRefD σ f a n 64
  | _ => wRefD σ f a n 64
def wRef (σ : St) (f a n : Int32) : Int32 := wRefK σ f a n (fTab f)
def wWrC (a : Int32) : Nat → Nat → St → St
  | 0, _, σ => σ
  | k + 1, i, σ => wWrC a k (i + 1) (sS σ 1 (tRepF 256 (σ 1) 1 (a + nI i) (ush (dAt σ (5 + nI i / 8)) (nI i - nI i / 8 * 8) &&& 1)))
def wWrR (a : Int32) : Nat → Nat → St → St
  | 0, _, σ => σ
  | k + 1, i, σ => wWrR a k (i + 1) (sS σ 3 (tRepF 64 (σ 3) 65535 (a + nI i) (dNum σ (5 + 2 * nI i))))
def wCar (σ : St) (f a n : Int32) : St := if f = 5 then sS σ 1 (tRepF 256 (σ 1) 1 a (if n = 0 then 0 else 1)) else if f = 6 then sS σ 3 (tRepF 64 (σ 3) 65535 a n) else if f = 15 then wWrC a n.toNatClampNeg 0 σ else if f = 16 then wWrR a n.toNatClampNeg 0 σ else σ
def pkB (n : Nat) (f : Nat → Int32) (a : Int32) : Nat → Nat → Int32 → Int32
  | 0, _, w => w
  | k + 1, i, w => pkB n f a k (i + 1) (w ||| (tAt n f (a + nI i) <<< (nI i &&& 31)))
def packB (n : Nat) (f : Nat → Int32) (a c : Int32) : Int32 := pkB n f a c.toNatClampNeg 0 0
def minI (x y : Int32) : Int32 := if y < x then y else x
/-- the packed bytes from place i on of row k, which has n places: as many as the counter says -/
def apB (n k : Nat) (a c : Int32) : Nat → Nat → St → St
  | 0, _, σ => σ
  | m + 1, i, σ => apB n k a c m (i + 8) (wApA σ (packB n (σ k) (a + nI i) (minI 8 (c - nI i))))
def cnt8 (c : Int32) : Nat := (c.toNatClampNeg + 7) / 8
def wBits (σ : St) (n k : Nat) (a c : Int32) : St := apB n k a c (cnt8 c) 0 (wApA σ (bfb c))
def apN (n k : Nat) (a : Int32) : Nat → Nat → St → St
  | 0, _, σ => σ
  | m + 1, i, σ => apN n k a m (i + 1) (wApA (wApA σ (ush (tAt n (σ k) (a + nI i)) 8)) (tAt n (σ k) (a + nI i) &&& 255))
def wNums (σ : St) (n k : Nat) (a c : Int32) : St := apN n k a c.toNatClampNeg 0 (wApA σ (2 * c))
def wEcho : Nat → Nat → St → St
  | 0, _, σ => σ
  | k + 1, i, σ => wEcho k (i + 1) (wApA σ (dAt σ (nI i)))
def wRes (σ : St) (f a n : Int32) : St := if f = 1 then wBits σ 256 1 a n else if f = 2 then wBits σ 256 2 a n else if f = 3 then wNums σ 64 3 a n else if f = 4 then wNums σ 64 4 a n else wEcho 4 0 σ
def ansSum (σ : St) : Int32 := bSum 256 (σ 6) (σ 0 4) (σ 0 4)
def wApS (σ : St) : St := wApA (wApA σ (ansSum σ &&& 255)) (ush (ansSum σ) 8)
def wAnsG (σ : St) (f a n r : Int32) : St := if fAt σ 0 = 0 then σ else wTal (wApS (if r = 0 then wRes (wApA (wApA σ (σ 0 0)) f) f a n else wApA (wApA (wApA σ (σ 0 0)) (f ||| 128)) r)) 5
def wAns (σ : St) : St := wAnsG (if wRef σ (fAt σ 1) (dNum σ 0) (dNum σ 2) = 0 then wCar (wTal σ 4) (fAt σ 1) (dNum σ 0) (dNum σ 2) else wTal σ 3) (fAt σ 1) (dNum σ 0) (dNum σ 2) (wRef σ (fAt σ 1) (dNum σ 0) (dNum σ 2))
def wEndB (σ : St) : St := if wThr σ = 0 then (if wOth σ = 0 then wAns σ else wTal σ 2) else wTal σ 1
def wEnd (σ : St) : St := sU (sU (wEndB (wTal (sU σ 0 4 0) 0)) 0 3 0) 0 2 0
def wRestS (σ : St) (q : Int32) : St := sU σ 0 1 (σ 0 1 + q)
def wRest (σ : St) (q : Int32) : St := if q < 0 then σ else if q ≤ 1000 then (if σ 0 3 = 0 then σ else if 14 ≤ wRestS σ q 0 1 then wEnd (wRestS σ q) else wRestS σ q) else σ
def wRestR (σ : St) (q : Int32) : Int32 := if q < 0 then -1 else if q ≤ 1000 then (if σ 0 3 = 0 then -2 else if 14 ≤ wRestS σ q 0 1 then wEnd (wRestS σ q) 0 4 else -2) else -1
-- what the walks need of these
theorem tHas_in {n : Nat} {p : Int32} (h : ¬ tHas n p = 0) (hn : n < 2 ^ 31) : vp_in p n := by
  unfold tHas at h
  by_cases h1 : p < 0
  · rw [if_pos h1] at h; exact absurd rfl h
  · rw [if_neg h1] at h
    by_cases h2 : nI n ≤ p
    · rw [if_pos h2] at h; exact absurd rfl h
    · rcases pk_ix p hn with q | q | ⟨j, hj, rfl⟩
      · exact absurd q h1
      · exact absurd q h2
      · exact vp_in_nI hj hn
theorem vin_lt {n : Nat} {p : Int32} (h1 : ¬ p < 0) (h2 : p < nI n) (hn : n < 2 ^ 31) : vp_in p n := by
  rcases pk_ix p hn with q | q | ⟨j, hj, rfl⟩
  · exact absurd q h1
  · rw [Int32.lt_iff_toInt_lt] at h2; rw [Int32.le_iff_toInt_le] at q; omega
  · exact vp_in_nI hj hn
theorem vin_ge {n : Nat} {p : Int32} (h1 : ¬ p < 0) (h2 : ¬ nI n ≤ p) (hn : n < 2 ^ 31) : vp_in p n := by
  rcases pk_ix p hn with q | q | ⟨j, hj, rfl⟩
  · exact absurd q h1
  · exact absurd q h2
  · exact vp_in_nI hj hn
theorem nI_self {x : Int32} (h : ¬ x < 0) : x = nI x.toNatClampNeg := by
  obtain ⟨j, hj, rfl⟩ := nI_of h
  rw [nI_clamp hj]
theorem clamp_neg {x : Int32} (h : x < 0) : x.toNatClampNeg = 0 := by
  rw [Int32.lt_iff_toInt_lt, Int32.toInt_zero] at h
  have : x.toNatClampNeg = x.toInt.toNat := rfl
  omega
theorem le_clamp (c : Int32) : c ≤ nI c.toNatClampNeg := by
  by_cases h : c < 0
  · rw [clamp_neg h, nI_0, Int32.le_iff_toInt_le]
    rw [Int32.lt_iff_toInt_lt] at h
    omega
  · rw [← nI_self h]
    exact Int32.le_refl c
theorem clamp_lt (c : Int32) : c.toNatClampNeg < 2 ^ 31 := by
  by_cases h : c < 0
  · rw [clamp_neg h]; decide
  · obtain ⟨j, hj, rfl⟩ := nI_of h
    rw [nI_clamp hj]; exact hj
theorem nle_clamp {c : Int32} {i : Nat} (h : i < c.toNatClampNeg) : ¬ c ≤ nI i := by
  by_cases h0 : c < 0
  · rw [clamp_neg h0] at h
    exact absurd h (Nat.not_lt_zero i)
  · obtain ⟨j, hj, rfl⟩ := nI_of h0
    rw [nI_clamp hj] at h
    exact nI_ge h hj
theorem le_clampU {c : Int32} {i : Nat} (h : c.toNatClampNeg ≤ i) (hi : i < 2 ^ 31) : c ≤ nI i := by
  by_cases h0 : c < 0
  · rw [Int32.le_iff_toInt_le, nI_toInt hi]
    rw [Int32.lt_iff_toInt_lt, Int32.toInt_zero] at h0
    omega
  · obtain ⟨j, hj, rfl⟩ := nI_of h0
    rw [nI_clamp hj] at h
    exact nI_le h hi
theorem clamp_le {c : Int32} {n : Nat} (h : c ≤ nI n) (hn : n < 2 ^ 31) : c.toNatClampNeg ≤ n := by
  rw [Int32.le_iff_toInt_le, nI_toInt hn] at h
  have : c.toNatClampNeg = c.toInt.toNat := rfl
  omega
theorem m1_ (x : Int32) : x + (-1) = x - 1 := by
  rw [Int32.sub_eq_add_neg]
end
section
/-! The cells of a table, of a row of bytes, of the slave, of the reference. -/
def wT (cA : ClassId) (t r n : Nat) (f : Nat → Int32) (most : Int32) : va_W := [(t, .inr (1, [.ref r, .int most])), (r, .inl (cA, n, .inl f))]
def wB (cA : ClassId) (t r n : Nat) (f : Nat → Int32) (z : Int32) : va_W := [(t, .inr (0, [.ref r, .int z])), (r, .inl (cA, n, .inl f))]
def wW (cA : ClassId) (a : Nat → Nat) (σ : St) : va_W :=
  [(a 0, .inr (2, [.int (σ 0 0), .ref (a 1), .ref (a 3), .ref (a 5), .ref (a 7), .ref (a 9), .ref (a 11), .ref (a 13), .int (σ 0 1), .int (σ 0 2)])),
   (a 1, .inr (1, [.ref (a 2), .int 1])), (a 2, .inl (cA, 256, .inl (σ 1))),
   (a 3, .inr (1, [.ref (a 4), .int 1])), (a 4, .inl (cA, 256, .inl (σ 2))),
   (a 5, .inr (1, [.ref (a 6), .int 65535])), (a 6, .inl (cA, 64, .inl (σ 3))),
   (a 7, .inr (1, [.ref (a 8), .int 65535])), (a 8, .inl (cA, 64, .inl (σ 4))),
   (a 9, .inr (0, [.ref (a 10), .int (σ 0 3)])), (a 10, .inl (cA, 257, .inl (σ 5))),
   (a 11, .inr (0, [.ref (a 12), .int (σ 0 4)])), (a 12, .inl (cA, 256, .inl (σ 6))),
   (a 13, .inl (cA, 6, .inl (σ 7)))]
/-- the reference's rows. Row 0: thrown, own, many, gap, spoilt, size; 1 to 4 the tables; 5 frame; 6 reply; 7 counts -/
def wM (cA : ClassId) (a : Nat → Nat) (τ : St) : va_W :=
  [(a 0, .inr (3, [.int (τ 0 0), .int (τ 0 1), .ref (a 1), .ref (a 2), .ref (a 3), .ref (a 4), .ref (a 5), .int (τ 0 2), .int (τ 0 3), .int (τ 0 4), .ref (a 6), .int (τ 0 5), .ref (a 7)])),
   (a 1, .inl (cA, 256, .inl (τ 1))), (a 2, .inl (cA, 256, .inl (τ 2))), (a 3, .inl (cA, 64, .inl (τ 3))), (a 4, .inl (cA, 64, .inl (τ 4))),
   (a 5, .inl (cA, 256, .inl (τ 5))), (a 6, .inl (cA, 300, .inl (τ 6))), (a 7, .inl (cA, 6, .inl (τ 7)))]
theorem nxt8 (n : Nat) (h : n + 1 ≤ 8) : nI (8 - (n + 1)) + 1 = nI (8 - n) := by
  rw [nI_1, show 8 - (n + 1) + 1 = 8 - n by omega]
theorem pos_of1 {x : Int32} (h : ¬ x < 1) : ¬ x < 0 := by
  intro q
  apply h
  rw [Int32.lt_iff_toInt_lt] at q ⊢
  have e0 : (0 : Int32).toInt = 0 := rfl
  have e1 : (1 : Int32).toInt = 1 := rfl
  omega
theorem isFT_nar (x a b : Int32) : narrow .boolean (.int (isFT x a b)) = .int (isFT x a b) := by
  unfold isFT
  split
  · rfl
  · split <;> rfl
theorem isFT_le {x a b : Int32} (h : ¬ isFT x a b = 0) : ¬ x < a ∧ ¬ b < x := by
  unfold isFT at h
  by_cases h1 : x < a
  · rw [if_pos h1] at h; exact absurd rfl h
  · rw [if_neg h1] at h
    by_cases h2 : b < x
    · rw [if_pos h2] at h; exact absurd rfl h
    · exact ⟨h1, h2⟩
theorem wRef_bound {σ : St} {f a n : Int32} (h : wRef σ f a n = 0) (hf : f = 1 ∨ f = 2) : n.toNatClampNeg ≤ 1073741824 := by
  have e : wRef σ f a n = wRefD σ f a n 256 := by
    rcases hf with rfl | rfl <;> rfl
  have e2 : dueA σ f n = isFT n 1 2000 := by
    rcases hf with rfl | rfl <;> rfl
  rw [e] at h
  unfold wRefD at h
  by_cases h1 : dueS σ f = 0
  · rw [if_pos h1] at h; exact absurd h (by decide)
  · rw [if_neg h1] at h
    by_cases h2 : dueA σ f n = 0
    · rw [if_pos h2] at h; exact absurd h (by decide)
    · rw [e2] at h2
      have h3 := (isFT_le h2).2
      rw [Int32.lt_iff_toInt_lt] at h3
      have e3 : (2000 : Int32).toInt = 2000 := rfl
      have : n.toNatClampNeg = n.toInt.toNat := rfl
      omega
def maxI (x y : Int32) : Int32 := if x < y then y else x
def wIni (ad : Int32) : St := fun k i => if k = 0 then (if i = 0 then maxI 1 (minI 247 ad) else 0) else 0
end
section
/-! A changed cell put back into the whole world, for any state: written by wip/mkww.py. -/
theorem ww_id (cA : ClassId) (a : Nat → Nat) (σ : St) : ([0, 1, 2, 3, 4, 5, 6, 7, 8, 9, 10, 11, 12, 13] : List Nat).map (fun i => (([0, 1, 2, 3, 4, 5, 6, 7, 8, 9, 10, 11, 12, 13] : List Nat).filterMap (fun i => (wW cA a σ)[i]?) ++ ([] : va_W))[i]?) = (wW cA a σ).map some := rfl
theorem ww_T1 (cA : ClassId) (a : Nat → Nat) (σ : St) : ([0, 12, 13, 1, 2, 3, 4, 5, 6, 7, 8, 9, 10, 11] : List Nat).map (fun i => (([0, 3, 4, 5, 6, 7, 8, 9, 10, 11, 12, 13] : List Nat).filterMap (fun i => (wW cA a σ)[i]?) ++ wT cA (a 1) (a 2) 256 (σ 1) 1)[i]?) = (wW cA a σ).map some := rfl
theorem ww_sT1 (cA : ClassId) (a : Nat → Nat) (σ : St) (f : Nat → Int32) : ([0, 12, 13, 1, 2, 3, 4, 5, 6, 7, 8, 9, 10, 11] : List Nat).map (fun i => (([0, 3, 4, 5, 6, 7, 8, 9, 10, 11, 12, 13] : List Nat).filterMap (fun i => (wW cA a σ)[i]?) ++ wT cA (a 1) (a 2) 256 f 1)[i]?) = (wW cA a (sS σ 1 f)).map some := rfl
theorem ww_T3 (cA : ClassId) (a : Nat → Nat) (σ : St) : ([0, 1, 2, 12, 13, 3, 4, 5, 6, 7, 8, 9, 10, 11] : List Nat).map (fun i => (([0, 1, 2, 5, 6, 7, 8, 9, 10, 11, 12, 13] : List Nat).filterMap (fun i => (wW cA a σ)[i]?) ++ wT cA (a 3) (a 4) 256 (σ 2) 1)[i]?) = (wW cA a σ).map some := rfl
theorem ww_sT3 (cA : ClassId) (a : Nat → Nat) (σ : St) (f : Nat → Int32) : ([0, 1, 2, 12, 13, 3, 4, 5, 6, 7, 8, 9, 10, 11] : List Nat).map (fun i => (([0, 1, 2, 5, 6, 7, 8, 9, 10, 11, 12, 13] : List Nat).filterMap (fun i => (wW cA a σ)[i]?) ++ wT cA (a 3) (a 4) 256 f 1)[i]?) = (wW cA a (sS σ 2 f)).map some := rfl
theorem ww_T5 (cA : ClassId) (a : Nat → Nat) (σ : St) : ([0, 1, 2, 3, 4, 12, 13, 5, 6, 7, 8, 9, 10, 11] : List Nat).map (fun i => (([0, 1, 2, 3, 4, 7, 8, 9, 10, 11, 12, 13] : List Nat).filterMap (fun i => (wW cA a σ)[i]?) ++ wT cA (a 5) (a 6) 64 (σ 3) 65535)[i]?) = (wW cA a σ).map some := rfl
theorem ww_sT5 (cA : ClassId) (a : Nat → Nat) (σ : St) (f : Nat → Int32) : ([0, 1, 2, 3, 4, 12, 13, 5, 6, 7, 8, 9, 10, 11] : List Nat).map (fun i => (([0, 1, 2, 3, 4, 7, 8, 9, 10, 11, 12, 13] : List Nat).filterMap (fun i => (wW cA a σ)[i]?) ++ wT cA (a 5) (a 6) 64 f 65535)[i]?) = (wW cA a (sS σ 3 f)).map some := rfl
theorem ww_T7 (cA : ClassId) (a : Nat → Nat) (σ : St) : ([0, 1, 2, 3, 4, 5, 6, 12, 13, 7, 8, 9, 10, 11] : List Nat).map (fun i => (([0, 1, 2, 3, 4, 5, 6, 9, 10, 11, 12, 13] : List Nat).filterMap (fun i => (wW cA a σ)[i]?) ++ wT cA (a 7) (a 8) 64 (σ 4) 65535)[i]?) = (wW cA a σ).map some := rfl
theorem ww_sT7 (cA : ClassId) (a : Nat → Nat) (σ : St) (f : Nat → Int32) : ([0, 1, 2, 3, 4, 5, 6, 12, 13, 7, 8, 9, 10, 11] : List Nat).map (fun i => (([0, 1, 2, 3, 4, 5, 6, 9, 10, 11, 12, 13] : List Nat).filterMap (fun i => (wW cA a σ)[i]?) ++ wT cA (a 7) (a 8) 64 f 65535)[i]?) = (wW cA a (sS σ 4 f)).map some := rfl
theorem ww_B9 (cA : ClassId) (a : Nat → Nat) (σ : St) : ([0, 1, 2, 3, 4, 5, 6, 7, 8, 12, 13, 9, 10, 11] : List Nat).map (fun i => (([0, 1, 2, 3, 4, 5, 6, 7, 8, 11, 12, 13] : List Nat).filterMap (fun i => (wW cA a σ)[i]?) ++ wB cA (a 9) (a 10) 257 (σ 5) (σ 0 3))[i]?) = (wW cA a σ).map some := rfl
theorem ww_sB9 (cA : ClassId) (a : Nat → Nat) (σ : St) (f : Nat → Int32) (z : Int32) : ([0, 1, 2, 3, 4, 5, 6, 7, 8, 12, 13, 9, 10, 11] : List Nat).map (fun i => (([0, 1, 2, 3, 4, 5, 6, 7, 8, 11, 12, 13] : List Nat).filterMap (fun i => (wW cA a σ)[i]?) ++ wB cA (a 9) (a 10) 257 f z)[i]?) = (wW cA a (sB σ 5 3 f z)).map some := rfl
theorem ww_cB9 (cA : ClassId) (a : Nat → Nat) (σ : St) : ([0, 1, 2, 3, 4, 5, 6, 7, 8, 12, 13, 9, 10, 11] : List Nat).map (fun i => (([0, 1, 2, 3, 4, 5, 6, 7, 8, 11, 12, 13] : List Nat).filterMap (fun i => (wW cA a σ)[i]?) ++ wB cA (a 9) (a 10) 257 (σ 5) 0)[i]?) = (wW cA a (sU σ 0 3 0)).map some := rfl
theorem ww_aB9 (cA : ClassId) (a : Nat → Nat) (σ : St) (b : Int32) : ([0, 1, 2, 3, 4, 5, 6, 7, 8, 12, 13, 9, 10, 11] : List Nat).map (fun i => (([0, 1, 2, 3, 4, 5, 6, 7, 8, 11, 12, 13] : List Nat).filterMap (fun i => (wW cA a σ)[i]?) ++ wB cA (a 9) (a 10) 257 (apF 257 (σ 5) (σ 0 3) b) (apZ 257 (σ 0 3)))[i]?) = (wW cA a (wApF σ b)).map some := rfl
theorem ww_B11 (cA : ClassId) (a : Nat → Nat) (σ : St) : ([0, 1, 2, 3, 4, 5, 6, 7, 8, 9, 10, 12, 13, 11] : List Nat).map (fun i => (([0, 1, 2, 3, 4, 5, 6, 7, 8, 9, 10, 13] : List Nat).filterMap (fun i => (wW cA a σ)[i]?) ++ wB cA (a 11) (a 12) 256 (σ 6) (σ 0 4))[i]?) = (wW cA a σ).map some := rfl
theorem ww_sB11 (cA : ClassId) (a : Nat → Nat) (σ : St) (f : Nat → Int32) (z : Int32) : ([0, 1, 2, 3, 4, 5, 6, 7, 8, 9, 10, 12, 13, 11] : List Nat).map (fun i => (([0, 1, 2, 3, 4, 5, 6, 7, 8, 9, 10, 13] : List Nat).filterMap (fun i => (wW cA a σ)[i]?) ++ wB cA (a 11) (a 12) 256 f z)[i]?) = (wW cA a (sB σ 6 4 f z)).map some := rfl
theorem ww_cB11 (cA : ClassId) (a : Nat → Nat) (σ : St) : ([0, 1, 2, 3, 4, 5, 6, 7, 8, 9, 10, 12, 13, 11] : List Nat).map (fun i => (([0, 1, 2, 3, 4, 5, 6, 7, 8, 9, 10, 13] : List Nat).filterMap (fun i => (wW cA a σ)[i]?) ++ wB cA (a 11) (a 12) 256 (σ 6) 0)[i]?) = (wW cA a (sU σ 0 4 0)).map some := rfl
theorem ww_aB11 (cA : ClassId) (a : Nat → Nat) (σ : St) (b : Int32) : ([0, 1, 2, 3, 4, 5, 6, 7, 8, 9, 10, 12, 13, 11] : List Nat).map (fun i => (([0, 1, 2, 3, 4, 5, 6, 7, 8, 9, 10, 13] : List Nat).filterMap (fun i => (wW cA a σ)[i]?) ++ wB cA (a 11) (a 12) 256 (apF 256 (σ 6) (σ 0 4) b) (apZ 256 (σ 0 4)))[i]?) = (wW cA a (wApA σ b)).map some := rfl
theorem ww_zB11 (cA : ClassId) (a : Nat → Nat) (σ : St) : ([0, 1, 2, 3, 4, 5, 6, 7, 8, 9, 10, 12, 13, 11] : List Nat).map (fun i => (([0, 1, 2, 3, 4, 5, 6, 7, 8, 9, 10, 13] : List Nat).filterMap (fun i => (wW cA a σ)[i]?) ++ wB cA (a 11) (a 12) 256 (apF 256 (apF 256 (σ 6) (σ 0 4) ((bSum 256 (σ 6) (σ 0 4) (σ 0 4)) &&& 255)) (apZ 256 (σ 0 4)) (ush (bSum 256 (σ 6) (σ 0 4) (σ 0 4)) 8)) (apZ 256 (apZ 256 (σ 0 4))))[i]?) = (wW cA a (wApS σ)).map some := rfl
theorem ww_pgap (cA : ClassId) (a : Nat → Nat) (σ : St) (v : Int32) : (wW cA a σ).set 0 (a 0, .inr (2, ([.int (σ 0 0), .ref (a 1), .ref (a 3), .ref (a 5), .ref (a 7), .ref (a 9), .ref (a 11), .ref (a 13), .int (σ 0 1), .int (σ 0 2)] : List Value).set 8 (.int v))) = wW cA a (sU σ 0 1 v) := rfl
theorem ww_pspoilt (cA : ClassId) (a : Nat → Nat) (σ : St) (v : Int32) : (wW cA a σ).set 0 (a 0, .inr (2, ([.int (σ 0 0), .ref (a 1), .ref (a 3), .ref (a 5), .ref (a 7), .ref (a 9), .ref (a 11), .ref (a 13), .int (σ 0 1), .int (σ 0 2)] : List Value).set 9 (.int v))) = wW cA a (sU σ 0 2 v) := rfl
theorem ww_cnt (cA : ClassId) (a : Nat → Nat) (σ : St) (i : Nat) (v : Int32) : (wW cA a σ).set 13 (a 13, .inl (cA, 6, .inl (upd (σ 7) i v))) = wW cA a (sU σ 7 i v) := rfl
theorem wm_pthrown (cA : ClassId) (a : Nat → Nat) (τ : St) (v : Int32) : (wM cA a τ).set 0 (a 0, .inr (3, ([.int (τ 0 0), .int (τ 0 1), .ref (a 1), .ref (a 2), .ref (a 3), .ref (a 4), .ref (a 5), .int (τ 0 2), .int (τ 0 3), .int (τ 0 4), .ref (a 6), .int (τ 0 5), .ref (a 7)] : List Value).set 0 (.int v))) = wM cA a (sU τ 0 0 v) := rfl
theorem wm_pown (cA : ClassId) (a : Nat → Nat) (τ : St) (v : Int32) : (wM cA a τ).set 0 (a 0, .inr (3, ([.int (τ 0 0), .int (τ 0 1), .ref (a 1), .ref (a 2), .ref (a 3), .ref (a 4), .ref (a 5), .int (τ 0 2), .int (τ 0 3), .int (τ 0 4), .ref (a 6), .int (τ 0 5), .ref (a 7)] : List Value).set 1 (.int v))) = wM cA a (sU τ 0 1 v) := rfl
theorem wm_pmany (cA : ClassId) (a : Nat → Nat) (τ : St) (v : Int32) : (wM cA a τ).set 0 (a 0, .inr (3, ([.int (τ 0 0), .int (τ 0 1), .ref (a 1), .ref (a 2), .ref (a 3), .ref (a 4), .ref (a 5), .int (τ 0 2), .int (τ 0 3), .int (τ 0 4), .ref (a 6), .int (τ 0 5), .ref (a 7)] : List Value).set 7 (.int v))) = wM cA a (sU τ 0 2 v) := rfl
theorem wm_pgap (cA : ClassId) (a : Nat → Nat) (τ : St) (v : Int32) : (wM cA a τ).set 0 (a 0, .inr (3, ([.int (τ 0 0), .int (τ 0 1), .ref (a 1), .ref (a 2), .ref (a 3), .ref (a 4), .ref (a 5), .int (τ 0 2), .int (τ 0 3), .int (τ 0 4), .ref (a 6), .int (τ 0 5), .ref (a 7)] : List Value).set 8 (.int v))) = wM cA a (sU τ 0 3 v) := rfl
theorem wm_pspoilt (cA : ClassId) (a : Nat → Nat) (τ : St) (v : Int32) : (wM cA a τ).set 0 (a 0, .inr (3, ([.int (τ 0 0), .int (τ 0 1), .ref (a 1), .ref (a 2), .ref (a 3), .ref (a 4), .ref (a 5), .int (τ 0 2), .int (τ 0 3), .int (τ 0 4), .ref (a 6), .int (τ 0 5), .ref (a 7)] : List Value).set 9 (.int v))) = wM cA a (sU τ 0 4 v) := rfl
theorem wm_psize (cA : ClassId) (a : Nat → Nat) (τ : St) (v : Int32) : (wM cA a τ).set 0 (a 0, .inr (3, ([.int (τ 0 0), .int (τ 0 1), .ref (a 1), .ref (a 2), .ref (a 3), .ref (a 4), .ref (a 5), .int (τ 0 2), .int (τ 0 3), .int (τ 0 4), .ref (a 6), .int (τ 0 5), .ref (a 7)] : List Value).set 11 (.int v))) = wM cA a (sU τ 0 5 v) := rfl
theorem wm_a1 (cA : ClassId) (a : Nat → Nat) (τ : St) (i : Nat) (v : Int32) : (wM cA a τ).set 1 (a 1, .inl (cA, 256, .inl (upd (τ 1) i v))) = wM cA a (sU τ 1 i v) := rfl
theorem wm_a2 (cA : ClassId) (a : Nat → Nat) (τ : St) (i : Nat) (v : Int32) : (wM cA a τ).set 2 (a 2, .inl (cA, 256, .inl (upd (τ 2) i v))) = wM cA a (sU τ 2 i v) := rfl
theorem wm_a3 (cA : ClassId) (a : Nat → Nat) (τ : St) (i : Nat) (v : Int32) : (wM cA a τ).set 3 (a 3, .inl (cA, 64, .inl (upd (τ 3) i v))) = wM cA a (sU τ 3 i v) := rfl
theorem wm_a4 (cA : ClassId) (a : Nat → Nat) (τ : St) (i : Nat) (v : Int32) : (wM cA a τ).set 4 (a 4, .inl (cA, 64, .inl (upd (τ 4) i v))) = wM cA a (sU τ 4 i v) := rfl
theorem wm_a5 (cA : ClassId) (a : Nat → Nat) (τ : St) (i : Nat) (v : Int32) : (wM cA a τ).set 5 (a 5, .inl (cA, 256, .inl (upd (τ 5) i v))) = wM cA a (sU τ 5 i v) := rfl
theorem wm_a6 (cA : ClassId) (a : Nat → Nat) (τ : St) (i : Nat) (v : Int32) : (wM cA a τ).set 6 (a 6, .inl (cA, 300, .inl (upd (τ 6) i v))) = wM cA a (sU τ 6 i v) := rfl
theorem wm_a7 (cA : ClassId) (a : Nat → Nat) (τ : St) (i : Nat) (v : Int32) : (wM cA a τ).set 7 (a 7, .inl (cA, 6, .inl (upd (τ 7) i v))) = wM cA a (sU τ 7 i v) := rfl
end
section
abbrev rm_T_has : Room := { frames := 0, cells := 0, slots := 0, locals := 0 }
set_option maxHeartbeats 4000000 in
set_option maxRecDepth 100000 in
theorem c_T_has (l : Launch) (D : va_G) (cA : ClassId) (t r n : Nat) (f : Nat → Int32) (most p : Int32)  : Ci l y_T_has w_T_has rm_T_has D vwCl [(cA, .int)] [.ref t, .int p] (wT cA t r n f most) 0 0 (fun r0 w0 => r0 = tHas n p ∧ w0 = wT cA t r n f most) := by
  refine Ci.of (Ts := lw_g) (own := "WireSlave$Table") (cc := b_T_has) (maxL := 2) (ret := (some .boolean)) (lv := [(0, .ref t), (1, .int p)]) (by decide) rfl rfl (fun w h => List.mem_cons_of_mem _ h) (Nat.le_of_ble_eq_true rfl) rfl ?_
  intro pp ee ss mm args below meth cx AA S hr hlk G ls hl
  have hx := S.1
  have hb := S.2.1
  refine lv_iload_n hx hb d_T_has_0 rfl (lv_at hl 1 rfl) ?_
  refine lv_if_lt (tgt := 17) hx hb d_T_has_1 (by decide) (fun c_1 => ?_) (fun c_1 => ?_)
  · refine lv_iconst (v := 0) hx hb d_T_has_17 (by decide) ?_
    exact g_retz S hr hlk rfl G ⟨by first | rfl | (simp only [tHas, eq_true c_1, ↓reduceIte]; done) | (simp only [tHas, eq_true c_1, ↓reduceIte]; rfl), by first | rfl | (simp only [tHas, eq_true c_1, ↓reduceIte]; done) | (simp only [tHas, eq_true c_1, ↓reduceIte]; rfl)⟩ (Nat.le_refl _) (Nat.le_refl _) d_T_has_18
  · refine lv_iload_n hx hb d_T_has_4 rfl (lv_at hl 1 rfl) ?_
    refine lv_aload_n hx hb d_T_has_5 rfl (lv_at hl 0 rfl) ?_
    refine g_get S G in_T 0 rfl rfl 0 (by decide) fl_T_9 rfl d_T_has_6 ?_
    refine g_alen S G 1 0 rfl rfl (nI n) rfl d_T_has_9 ?_
    refine lv_icmp_ge (tgt := 17) hx hb d_T_has_10 (by decide) (fun c_2 => ?_) (fun c_2 => ?_)
    · refine lv_iconst (v := 0) hx hb d_T_has_17 (by decide) ?_
      exact g_retz S hr hlk rfl G ⟨by first | rfl | (simp only [tHas, eq_false c_1, eq_true c_2, ↓reduceIte]; done) | (simp only [tHas, eq_false c_1, eq_true c_2, ↓reduceIte]; rfl), by first | rfl | (simp only [tHas, eq_false c_1, eq_true c_2, ↓reduceIte]; done) | (simp only [tHas, eq_false c_1, eq_true c_2, ↓reduceIte]; rfl)⟩ (Nat.le_refl _) (Nat.le_refl _) d_T_has_18
    · refine lv_iconst (v := 1) hx hb d_T_has_13 (by decide) ?_
      refine lv_goto (tgt := 18) hx hb d_T_has_14 (by decide) ?_
      exact g_retz S hr hlk rfl G ⟨by first | rfl | (simp only [tHas, eq_false c_1, eq_false c_2, ↓reduceIte]; done) | (simp only [tHas, eq_false c_1, eq_false c_2, ↓reduceIte]; rfl), by first | rfl | (simp only [tHas, eq_false c_1, eq_false c_2, ↓reduceIte]; done) | (simp only [tHas, eq_false c_1, eq_false c_2, ↓reduceIte]; rfl)⟩ (Nat.le_refl _) (Nat.le_refl _) d_T_has_18

abbrev rm_T_at : Room := { frames := 1, cells := 0, slots := 0, locals := 21 }
set_option maxHeartbeats 4000000 in
set_option maxRecDepth 100000 in
theorem c_T_at (l : Launch) (D : va_G) (cA : ClassId) (t r n : Nat) (f : Nat → Int32) (most p : Int32) (hn : n < 2 ^ 31) : Ci l y_T_at w_T_at rm_T_at D vwCl [(cA, .int)] [.ref t, .int p] (wT cA t r n f most) 0 0 (fun r0 w0 => r0 = tAt n f p ∧ w0 = wT cA t r n f most) := by
  refine Ci.of (Ts := lw_g) (own := "WireSlave$Table") (cc := b_T_at) (maxL := 2) (ret := (some .int)) (lv := [(0, .ref t), (1, .int p)]) (by decide) rfl rfl (fun w h => List.mem_cons_of_mem _ h) (Nat.le_of_ble_eq_true rfl) rfl ?_
  intro pp ee ss mm args below meth cx AA S hr hlk G ls hl
  have hx := S.1
  have hb := S.2.1
  refine lv_aload_n hx hb d_T_at_0 rfl (lv_at hl 0 rfl) ?_
  refine lv_iload_n hx hb d_T_at_1 rfl (lv_at hl 1 rfl) ?_
  refine g_cVi (rest := []) S G (c_T_has l D cA t r n f most p) (cwV 1 S.2.2.2.2 ml_T_19 rfl rfl rfl (by decide +kernel) ⟨Nat.le_of_ble_eq_true rfl, Nat.le_of_ble_eq_true rfl⟩) [0, 1] [] rfl rfl rfl rfl (by decide) 0 rfl rfl rfl hl.1 rfl (Nat.le_of_ble_eq_true rfl) d_T_at_2 ⟨Nat.le_of_ble_eq_true rfl, Nat.le_of_ble_eq_true rfl⟩ (fun rp_1 wp_1 H locs hp_1 G => ?_)
  obtain ⟨rfl, rfl⟩ := hp_1
  have G : Gw D vwCl [(cA, .int)] AA ss ss.heap H locs (wT cA t r n f most) := G
  refine lv_if_eq (tgt := 17) hx hb d_T_at_5 (by decide) (fun c_2 => ?_) (fun c_2 => ?_)
  · refine lv_iconst (v := (-1)) hx hb d_T_at_17 (by decide) ?_
    exact g_reti S hr hlk G ⟨by first | rfl | (simp only [tAt, eq_true c_2, ↓reduceIte]; done) | (simp only [tAt, eq_true c_2, ↓reduceIte]; rfl), by first | rfl | (simp only [tAt, eq_true c_2, ↓reduceIte]; done) | (simp only [tAt, eq_true c_2, ↓reduceIte]; rfl)⟩ (Nat.le_refl _) (Nat.le_refl _) d_T_at_18
  · refine lv_aload_n hx hb d_T_at_8 rfl (lv_at hl 0 rfl) ?_
    refine g_get S G in_T 0 rfl rfl 0 (by decide) fl_T_9 rfl d_T_at_9 ?_
    refine lv_iload_n hx hb d_T_at_12 rfl (lv_at hl 1 rfl) ?_
    refine g_iald S G 1 0 rfl rfl (tHas_in c_2 hn) d_T_at_13 ?_
    refine lv_goto (tgt := 18) hx hb d_T_at_14 (by decide) ?_
    exact g_reti S hr hlk G ⟨by first | rfl | (simp only [tAt, eq_false c_2, ↓reduceIte]; done) | (simp only [tAt, eq_false c_2, ↓reduceIte]; rfl), by first | rfl | (simp only [tAt, eq_false c_2, ↓reduceIte]; done) | (simp only [tAt, eq_false c_2, ↓reduceIte]; rfl)⟩ (Nat.le_refl _) (Nat.le_refl _) d_T_at_18

abbrev rm_T_replace : Room := { frames := 1, cells := 0, slots := 0, locals := 21 }
set_option maxHeartbeats 4000000 in
set_option maxRecDepth 100000 in
theorem c_T_replace (l : Launch) (D : va_G) (cA : ClassId) (t r n : Nat) (f : Nat → Int32) (most p v : Int32) (hn : n < 2 ^ 31) : Ci l y_T_replace w_T_replace rm_T_replace D vwCl [(cA, .int)] [.ref t, .int p, .int v] (wT cA t r n f most) 0 0 (fun r0 w0 => r0 = tRepR n f most p v ∧ w0 = wT cA t r n (tRepF n f most p v) most) := by
  refine Ci.of (Ts := lw_g) (own := "WireSlave$Table") (cc := b_T_replace) (maxL := 4) (ret := (some .int)) (lv := [(0, .ref t), (1, .int p), (2, .int v)]) (by decide) rfl rfl (fun w h => List.mem_cons_of_mem _ h) (Nat.le_of_ble_eq_true rfl) rfl ?_
  intro pp ee ss mm args below meth cx AA S hr hlk G ls hl
  have hx := S.1
  have hb := S.2.1
  refine lv_aload_n hx hb d_T_replace_0 rfl (lv_at hl 0 rfl) ?_
  refine lv_iload_n hx hb d_T_replace_1 rfl (lv_at hl 1 rfl) ?_
  refine g_cVi (rest := []) S G (c_T_has l D cA t r n f most p) (cwV 1 S.2.2.2.2 ml_T_19 rfl rfl rfl (by decide +kernel) ⟨Nat.le_of_ble_eq_true rfl, Nat.le_of_ble_eq_true rfl⟩) [0, 1] [] rfl rfl rfl rfl (by decide) 0 rfl rfl rfl hl.1 rfl (Nat.le_of_ble_eq_true rfl) d_T_replace_2 ⟨Nat.le_of_ble_eq_true rfl, Nat.le_of_ble_eq_true rfl⟩ (fun rp_1 wp_1 H locs hp_1 G => ?_)
  obtain ⟨rfl, rfl⟩ := hp_1
  have G : Gw D vwCl [(cA, .int)] AA ss ss.heap H locs (wT cA t r n f most) := G
  refine lv_if_eq (tgt := 20) hx hb d_T_replace_5 (by decide) (fun c_2 => ?_) (fun c_2 => ?_)
  · refine lv_iconst (v := (-1)) hx hb d_T_replace_20 (by decide) ?_
    exact g_reti S hr hlk G ⟨by first | rfl | (simp only [tRepR, tRepF, eq_true c_2, ↓reduceIte]; done) | (simp only [tRepR, tRepF, eq_true c_2, ↓reduceIte]; rfl), by first | rfl | (simp only [tRepR, tRepF, eq_true c_2, ↓reduceIte]; done) | (simp only [tRepR, tRepF, eq_true c_2, ↓reduceIte]; rfl)⟩ (Nat.le_refl _) (Nat.le_refl _) d_T_replace_21
  · refine lv_iload_n hx hb d_T_replace_8 rfl (lv_at hl 2 rfl) ?_
    refine lv_if_lt (tgt := 20) hx hb d_T_replace_9 (by decide) (fun c_3 => ?_) (fun c_3 => ?_)
    · refine lv_iconst (v := (-1)) hx hb d_T_replace_20 (by decide) ?_
      exact g_reti S hr hlk G ⟨by first | rfl | (simp only [tRepR, tRepF, eq_false c_2, eq_true c_3, ↓reduceIte]; done) | (simp only [tRepR, tRepF, eq_false c_2, eq_true c_3, ↓reduceIte]; rfl), by first | rfl | (simp only [tRepR, tRepF, eq_false c_2, eq_true c_3, ↓reduceIte]; done) | (simp only [tRepR, tRepF, eq_false c_2, eq_true c_3, ↓reduceIte]; rfl)⟩ (Nat.le_refl _) (Nat.le_refl _) d_T_replace_21
    · refine lv_iload_n hx hb d_T_replace_12 rfl (lv_at hl 2 rfl) ?_
      refine lv_aload_n hx hb d_T_replace_13 rfl (lv_at hl 0 rfl) ?_
      refine g_get S G in_T 0 rfl rfl 1 (by decide) fl_T_15 rfl d_T_replace_14 ?_
      refine lv_icmp_le (tgt := 22) hx hb d_T_replace_17 (by decide) (fun c_4 => ?_) (fun c_4 => ?_)
      · refine lv_aload_n hx hb d_T_replace_22 rfl (lv_at hl 0 rfl) ?_
        refine g_get S G in_T 0 rfl rfl 0 (by decide) fl_T_9 rfl d_T_replace_23 ?_
        refine lv_iload_n hx hb d_T_replace_26 rfl (lv_at hl 1 rfl) ?_
        refine g_iald S G 1 0 rfl rfl (tHas_in c_2 hn) d_T_replace_27 ?_
        refine lv_istore_n (lv' := [(3, .int (f p.toNatClampNeg)), (0, .ref t), (1, .int p), (2, .int v)]) hx hb d_T_replace_28 rfl hl (by decide) rfl (fun ls hl => ?_)
        refine lv_aload_n hx hb d_T_replace_29 rfl (lv_at hl 1 rfl) ?_
        refine g_get S G in_T 0 rfl rfl 0 (by decide) fl_T_9 rfl d_T_replace_30 ?_
        refine lv_iload_n hx hb d_T_replace_33 rfl (lv_at hl 2 rfl) ?_
        refine lv_iload_n hx hb d_T_replace_34 rfl (lv_at hl 3 rfl) ?_
        refine g_iast S G 1 0 rfl rfl (tHas_in c_2 hn) (wT cA t r n (upd f p.toNatClampNeg v) most) rfl d_T_replace_35 (fun H locs G => ?_)
        refine lv_iload_n hx hb d_T_replace_36 rfl (lv_at hl 0 rfl) ?_
        exact g_reti S hr hlk G ⟨by first | rfl | (simp only [tRepR, tRepF, eq_false c_2, eq_false c_3, eq_true c_4, ↓reduceIte]; done) | (simp only [tRepR, tRepF, eq_false c_2, eq_false c_3, eq_true c_4, ↓reduceIte]; rfl), by first | rfl | (simp only [tRepR, tRepF, eq_false c_2, eq_false c_3, eq_true c_4, ↓reduceIte]; done) | (simp only [tRepR, tRepF, eq_false c_2, eq_false c_3, eq_true c_4, ↓reduceIte]; rfl)⟩ (Nat.le_refl _) (Nat.le_refl _) d_T_replace_37
      · refine lv_iconst (v := (-1)) hx hb d_T_replace_20 (by decide) ?_
        exact g_reti S hr hlk G ⟨by first | rfl | (simp only [tRepR, tRepF, eq_false c_2, eq_false c_3, eq_false c_4, ↓reduceIte]; done) | (simp only [tRepR, tRepF, eq_false c_2, eq_false c_3, eq_false c_4, ↓reduceIte]; rfl), by first | rfl | (simp only [tRepR, tRepF, eq_false c_2, eq_false c_3, eq_false c_4, ↓reduceIte]; done) | (simp only [tRepR, tRepF, eq_false c_2, eq_false c_3, eq_false c_4, ↓reduceIte]; rfl)⟩ (Nat.le_refl _) (Nat.le_refl _) d_T_replace_21
end
section
abbrev rm_W_byteOf : Room := { frames := 0, cells := 0, slots := 0, locals := 0 }
set_option maxHeartbeats 4000000 in
set_option maxRecDepth 100000 in
theorem c_W_byteOf (l : Launch) (D : va_G) (cA : ClassId) (v : Int64) (i : Int32)  : Ci l y_W_byteOf w_W_byteOf rm_W_byteOf D vwCl [(cA, .int)] [.long v, .int i] (([] : va_W)) 0 0 (fun r0 w0 => r0 = byteOf v i ∧ w0 = ([] : va_W)) := by
  refine Ci.of (Ts := lw_g) (own := "WireSlave") (cc := b_W_byteOf) (maxL := 3) (ret := (some .int)) (lv := [(0, .long v), (2, .int i)]) (by decide) rfl rfl (fun w h => List.mem_cons_of_mem _ h) (Nat.le_of_ble_eq_true rfl) rfl ?_
  intro pp ee ss mm args below meth cx AA S hr hlk G ls hl
  have hx := S.1
  have hb := S.2.1
  refine lv_lload_n hx hb d_W_byteOf_0 rfl (lv_at hl 0 rfl) ?_
  refine lv_bipush (v := 8) hx hb d_W_byteOf_1 (by decide) ?_
  refine lv_iload_n hx hb d_W_byteOf_3 rfl (lv_at hl 1 rfl) ?_
  refine lv_imul hx hb d_W_byteOf_4 ?_
  refine lv_lushr (v := lush v (8 * i)) hx hb d_W_byteOf_5 rfl ?_
  refine lv_l2i (v := (lush v (8 * i)).toInt32) hx hb d_W_byteOf_6 rfl ?_
  refine lv_sipush (v := 255) hx hb d_W_byteOf_7 (by decide) ?_
  refine lv_iand hx hb d_W_byteOf_10 ?_
  exact g_reti S hr hlk G ⟨by first | rfl | (simp only [byteOf, ↓reduceIte]; done) | (simp only [byteOf, ↓reduceIte]; rfl), by first | rfl | (simp only [byteOf, ↓reduceIte]; done) | (simp only [byteOf, ↓reduceIte]; rfl)⟩ (Nat.le_refl _) (Nat.le_refl _) d_W_byteOf_11

abbrev rm_W_sumWith : Room := { frames := 0, cells := 0, slots := 0, locals := 0 }
set_option maxHeartbeats 4000000 in
set_option maxRecDepth 100000 in
theorem c_W_sumWith (l : Launch) (D : va_G) (cA : ClassId) (x b : Int32)  : Ci l y_W_sumWith w_W_sumWith rm_W_sumWith D vwCl [(cA, .int)] [.int x, .int b] (([] : va_W)) 0 0 (fun r0 w0 => r0 = sumW x b ∧ w0 = ([] : va_W)) := by
  refine Ci.of (Ts := lw_g) (own := "WireSlave") (cc := b_W_sumWith) (maxL := 5) (ret := (some .int)) (lv := [(0, .int x), (1, .int b)]) (by decide) rfl rfl (fun w h => List.mem_cons_of_mem _ h) (Nat.le_of_ble_eq_true rfl) rfl ?_
  intro pp ee ss mm args below meth cx AA S hr hlk G ls hl
  have hx := S.1
  have hb := S.2.1
  refine lv_iload_n hx hb d_W_sumWith_0 rfl (lv_at hl 0 rfl) ?_
  refine lv_iload_n hx hb d_W_sumWith_1 rfl (lv_at hl 1 rfl) ?_
  refine lv_ixor hx hb d_W_sumWith_2 ?_
  refine lv_istore_n (lv' := [(2, .int (x ^^^ b)), (0, .int x), (1, .int b)]) hx hb d_W_sumWith_3 rfl hl (by decide) rfl (fun ls hl => ?_)
  refine lv_iconst (v := 0) hx hb d_W_sumWith_4 (by decide) ?_
  refine lv_istore_n (lv' := [(3, .int 0), (2, .int (x ^^^ b)), (0, .int x), (1, .int b)]) hx hb d_W_sumWith_5 rfl hl (by decide) rfl (fun ls hl => ?_)
  have lp : ∀ (n : Nat) (k y : Int32) (H : Heap) (locs : List Loc) (ls : Array Slot), (k = nI (8 - n)) → (n ≤ 8) → (crcN n y = crcN 8 (x ^^^ b)) → Gw D vwCl [(cA, .int)] AA ss ss.heap H locs ([] : va_W) → lv_has ls 5 [(0, .int x), (1, .int b), (2, .int y), (3, .int k)] → W pp l ee rm_W_sumWith ss mm args below meth cx H locs 0 0 (Zi D vwCl [(cA, .int)] AA ss args below 0 0 (fun r0 w0 => r0 = sumW x b ∧ w0 = ([] : va_W))) (F0 mm 6 ls []) := by
    intro n
    induction n with
    | zero =>
      intro k y H locs ls hk hn8 hF G hl
      refine lv_iload_n hx hb d_W_sumWith_6 rfl (lv_at hl 3 rfl) ?_
      refine lv_bipush (v := 8) hx hb d_W_sumWith_7 (by decide) ?_
      have k_1 : 8 ≤ k := by rw [hk]; decide
      refine lv_icmp_ge (tgt := 45) hx hb d_W_sumWith_9 (by decide) (fun _ => ?_) (fun h9 => absurd k_1 h9)
      refine lv_iload_n hx hb d_W_sumWith_45 rfl (lv_at hl 2 rfl) ?_
      exact g_reti S hr hlk G ⟨hF, rfl⟩ (Nat.le_refl _) (Nat.le_refl _) d_W_sumWith_46
    | succ n ih =>
      intro k y H locs ls hk hn8 hF G hl
      refine lv_iload_n hx hb d_W_sumWith_6 rfl (lv_at hl 3 rfl) ?_
      refine lv_bipush (v := 8) hx hb d_W_sumWith_7 (by decide) ?_
      have k_2 : ¬ (8 ≤ k) := by rw [hk]; exact nI_ge (b := 8) (by omega) (by decide)
      refine lv_icmp_ge (tgt := 45) hx hb d_W_sumWith_9 (by decide) (fun h9 => absurd h9 k_2) (fun _ => ?_)
      refine lv_iload_n hx hb d_W_sumWith_12 rfl (lv_at hl 2 rfl) ?_
      refine lv_iconst (v := 1) hx hb d_W_sumWith_13 (by decide) ?_
      refine lv_iand hx hb d_W_sumWith_14 ?_
      refine lv_if_eq (tgt := 22) hx hb d_W_sumWith_15 (by decide) (fun c_3 => ?_) (fun c_3 => ?_)
      · refine lv_iconst (v := 0) hx hb d_W_sumWith_22 (by decide) ?_
        refine lv_istore (lv' := [(4, .int 0), (0, .int x), (1, .int b), (2, .int y), (3, .int k)]) hx hb d_W_sumWith_23 hl (by decide) rfl (fun ls hl => ?_)
        refine lv_iload_n hx hb d_W_sumWith_25 rfl (lv_at hl 3 rfl) ?_
        refine lv_iconst (v := 1) hx hb d_W_sumWith_26 (by decide) ?_
        refine lv_iushr (v := ush y 1) hx hb d_W_sumWith_27 rfl ?_
        refine lv_istore_n (lv' := [(2, .int (ush y 1)), (4, .int 0), (0, .int x), (1, .int b), (3, .int k)]) hx hb d_W_sumWith_28 rfl hl (by decide) rfl (fun ls hl => ?_)
        refine lv_iload hx hb d_W_sumWith_29 (lv_at hl 1 rfl) ?_
        have k_4 : (0 : Int32) = 0 := by decide
        refine lv_if_eq (tgt := 39) hx hb d_W_sumWith_31 (by decide) (fun _ => ?_) (fun h9 => absurd k_4 h9)
        refine lv_iinc (v := k + 1) (lv' := [(3, .int (k + 1)), (2, .int (ush y 1)), (4, .int 0), (0, .int x), (1, .int b)]) hx hb d_W_sumWith_39 hl (k := 4) rfl rfl (by decide) rfl (fun ls hl => ?_)
        refine lv_goto (tgt := 6) hx hb d_W_sumWith_42 (by decide) ?_
        exact ih _ _ H locs ls (by rw [hk]; exact nxt8 n hn8) (by omega) (by rw [← hF]; simp only [crcN, crcS, eq_false k_2, eq_true c_3, eq_true k_4, ↓reduceIte]) G (lv_sub hl [3, 4, 1, 0] rfl)
      · refine lv_iconst (v := 1) hx hb d_W_sumWith_18 (by decide) ?_
        refine lv_goto (tgt := 23) hx hb d_W_sumWith_19 (by decide) ?_
        refine lv_istore (lv' := [(4, .int 1), (0, .int x), (1, .int b), (2, .int y), (3, .int k)]) hx hb d_W_sumWith_23 hl (by decide) rfl (fun ls hl => ?_)
        refine lv_iload_n hx hb d_W_sumWith_25 rfl (lv_at hl 3 rfl) ?_
        refine lv_iconst (v := 1) hx hb d_W_sumWith_26 (by decide) ?_
        refine lv_iushr (v := ush y 1) hx hb d_W_sumWith_27 rfl ?_
        refine lv_istore_n (lv' := [(2, .int (ush y 1)), (4, .int 1), (0, .int x), (1, .int b), (3, .int k)]) hx hb d_W_sumWith_28 rfl hl (by decide) rfl (fun ls hl => ?_)
        refine lv_iload hx hb d_W_sumWith_29 (lv_at hl 1 rfl) ?_
        have k_5 : ¬ ((1 : Int32) = 0) := by decide
        refine lv_if_eq (tgt := 39) hx hb d_W_sumWith_31 (by decide) (fun h9 => absurd h9 k_5) (fun _ => ?_)
        refine lv_iload_n hx hb d_W_sumWith_34 rfl (lv_at hl 0 rfl) ?_
        refine lv_ldc (v := 40961) hx hb S.2.2.2.1 (S.2.2.2.2 _ kn_W_94) d_W_sumWith_35 ?_
        refine lv_ixor hx hb d_W_sumWith_37 ?_
        refine lv_istore_n (lv' := [(2, .int ((ush y 1) ^^^ 40961)), (4, .int 1), (0, .int x), (1, .int b), (3, .int k)]) hx hb d_W_sumWith_38 rfl hl (by decide) rfl (fun ls hl => ?_)
        refine lv_iinc (v := k + 1) (lv' := [(3, .int (k + 1)), (2, .int ((ush y 1) ^^^ 40961)), (4, .int 1), (0, .int x), (1, .int b)]) hx hb d_W_sumWith_39 hl (k := 4) rfl rfl (by decide) rfl (fun ls hl => ?_)
        refine lv_goto (tgt := 6) hx hb d_W_sumWith_42 (by decide) ?_
        exact ih _ _ H locs ls (by rw [hk]; exact nxt8 n hn8) (by omega) (by rw [← hF]; simp only [crcN, crcS, eq_false k_2, eq_false c_3, eq_false k_5, ↓reduceIte]) G (lv_sub hl [3, 4, 1, 0] rfl)
  exact lp 8 0 (x ^^^ b) _ _ ls rfl (Nat.le_refl 8) rfl G (lv_sub hl [2, 3, 1, 0] rfl)

abbrev rm_W_isFromTo : Room := { frames := 0, cells := 0, slots := 0, locals := 0 }
set_option maxHeartbeats 4000000 in
set_option maxRecDepth 100000 in
theorem c_W_isFromTo (l : Launch) (D : va_G) (cA : ClassId) (x a b : Int32)  : Ci l y_W_isFromTo w_W_isFromTo rm_W_isFromTo D vwCl [(cA, .int)] [.int x, .int a, .int b] (([] : va_W)) 0 0 (fun r0 w0 => r0 = isFT x a b ∧ w0 = ([] : va_W)) := by
  refine Ci.of (Ts := lw_g) (own := "WireSlave") (cc := b_W_isFromTo) (maxL := 3) (ret := (some .boolean)) (lv := [(0, .int x), (1, .int a), (2, .int b)]) (by decide) rfl rfl (fun w h => List.mem_cons_of_mem _ h) (Nat.le_of_ble_eq_true rfl) rfl ?_
  intro pp ee ss mm args below meth cx AA S hr hlk G ls hl
  have hx := S.1
  have hb := S.2.1
  refine lv_iload_n hx hb d_W_isFromTo_0 rfl (lv_at hl 0 rfl) ?_
  refine lv_iload_n hx hb d_W_isFromTo_1 rfl (lv_at hl 1 rfl) ?_
  refine lv_icmp_lt (tgt := 14) hx hb d_W_isFromTo_2 (by decide) (fun c_1 => ?_) (fun c_1 => ?_)
  · refine lv_iconst (v := 0) hx hb d_W_isFromTo_14 (by decide) ?_
    exact g_retz S hr hlk rfl G ⟨by first | rfl | (simp only [isFT, eq_true c_1, ↓reduceIte]; done) | (simp only [isFT, eq_true c_1, ↓reduceIte]; rfl), by first | rfl | (simp only [isFT, eq_true c_1, ↓reduceIte]; done) | (simp only [isFT, eq_true c_1, ↓reduceIte]; rfl)⟩ (Nat.le_refl _) (Nat.le_refl _) d_W_isFromTo_15
  · refine lv_iload_n hx hb d_W_isFromTo_5 rfl (lv_at hl 0 rfl) ?_
    refine lv_iload_n hx hb d_W_isFromTo_6 rfl (lv_at hl 2 rfl) ?_
    refine lv_icmp_gt (tgt := 14) hx hb d_W_isFromTo_7 (by decide) (fun c_2 => ?_) (fun c_2 => ?_)
    · refine lv_iconst (v := 0) hx hb d_W_isFromTo_14 (by decide) ?_
      exact g_retz S hr hlk rfl G ⟨by first | rfl | (simp only [isFT, eq_false c_1, eq_true c_2, ↓reduceIte]; done) | (simp only [isFT, eq_false c_1, eq_true c_2, ↓reduceIte]; rfl), by first | rfl | (simp only [isFT, eq_false c_1, eq_true c_2, ↓reduceIte]; done) | (simp only [isFT, eq_false c_1, eq_true c_2, ↓reduceIte]; rfl)⟩ (Nat.le_refl _) (Nat.le_refl _) d_W_isFromTo_15
    · refine lv_iconst (v := 1) hx hb d_W_isFromTo_10 (by decide) ?_
      refine lv_goto (tgt := 15) hx hb d_W_isFromTo_11 (by decide) ?_
      exact g_retz S hr hlk rfl G ⟨by first | rfl | (simp only [isFT, eq_false c_1, eq_false c_2, ↓reduceIte]; done) | (simp only [isFT, eq_false c_1, eq_false c_2, ↓reduceIte]; rfl), by first | rfl | (simp only [isFT, eq_false c_1, eq_false c_2, ↓reduceIte]; done) | (simp only [isFT, eq_false c_1, eq_false c_2, ↓reduceIte]; rfl)⟩ (Nat.le_refl _) (Nat.le_refl _) d_W_isFromTo_15

abbrev rm_W_bytesForBits : Room := { frames := 0, cells := 0, slots := 0, locals := 0 }
set_option maxHeartbeats 4000000 in
set_option maxRecDepth 100000 in
theorem c_W_bytesForBits (l : Launch) (D : va_G) (cA : ClassId) (n : Int32)  : Ci l y_W_bytesForBits w_W_bytesForBits rm_W_bytesForBits D vwCl [(cA, .int)] [.int n] (([] : va_W)) 0 0 (fun r0 w0 => r0 = bfb n ∧ w0 = ([] : va_W)) := by
  refine Ci.of (Ts := lw_g) (own := "WireSlave") (cc := b_W_bytesForBits) (maxL := 1) (ret := (some .int)) (lv := [(0, .int n)]) (by decide) rfl rfl (fun w h => List.mem_cons_of_mem _ h) (Nat.le_of_ble_eq_true rfl) rfl ?_
  intro pp ee ss mm args below meth cx AA S hr hlk G ls hl
  have hx := S.1
  have hb := S.2.1
  refine lv_iload_n hx hb d_W_bytesForBits_0 rfl (lv_at hl 0 rfl) ?_
  refine lv_bipush (v := 7) hx hb d_W_bytesForBits_1 (by decide) ?_
  refine lv_iadd hx hb d_W_bytesForBits_3 ?_
  refine lv_bipush (v := 8) hx hb d_W_bytesForBits_4 (by decide) ?_
  refine lv_idiv hx hb d_W_bytesForBits_6 (by decide) ?_
  exact g_reti S hr hlk G ⟨by first | rfl | (simp only [bfb, ↓reduceIte]; done) | (simp only [bfb, ↓reduceIte]; rfl), by first | rfl | (simp only [bfb, ↓reduceIte]; done) | (simp only [bfb, ↓reduceIte]; rfl)⟩ (Nat.le_refl _) (Nat.le_refl _) d_W_bytesForBits_7

abbrev rm_W_packedBits : Room := { frames := 2, cells := 0, slots := 0, locals := 42 }
set_option maxHeartbeats 4000000 in
set_option maxRecDepth 100000 in
theorem c_W_packedBits (l : Launch) (D : va_G) (cA : ClassId) (t r n : Nat) (f : Nat → Int32) (most a c0 : Int32) (hn : n < 2 ^ 31) : Ci l y_W_packedBits w_W_packedBits rm_W_packedBits D vwCl [(cA, .int)] [.ref t, .int a, .int c0] (wT cA t r n f most) 0 0 (fun r0 w0 => r0 = packB n f a c0 ∧ w0 = wT cA t r n f most) := by
  refine Ci.of (Ts := lw_g) (own := "WireSlave") (cc := b_W_packedBits) (maxL := 5) (ret := (some .int)) (lv := [(0, .ref t), (1, .int a), (2, .int c0)]) (by decide) rfl rfl (fun w h => List.mem_cons_of_mem _ h) (Nat.le_of_ble_eq_true rfl) rfl ?_
  intro pp ee ss mm args below meth cx AA S hr hlk G ls hl
  have hx := S.1
  have hb := S.2.1
  refine lv_iconst (v := 0) hx hb d_W_packedBits_0 (by decide) ?_
  refine lv_istore_n (lv' := [(3, .int 0), (0, .ref t), (1, .int a), (2, .int c0)]) hx hb d_W_packedBits_1 rfl hl (by decide) rfl (fun ls hl => ?_)
  refine lv_iconst (v := 0) hx hb d_W_packedBits_2 (by decide) ?_
  refine lv_istore (lv' := [(4, .int 0), (3, .int 0), (0, .ref t), (1, .int a), (2, .int c0)]) hx hb d_W_packedBits_3 hl (by decide) rfl (fun ls hl => ?_)
  have lp : ∀ (n1 : Nat) (i : Nat) (y : Int32) (H : Heap) (locs : List Loc) (ls : Array Slot), (i + n1 = c0.toNatClampNeg) → (pkB n f a n1 i y = packB n f a c0) → Gw D vwCl [(cA, .int)] AA ss ss.heap H locs (wT cA t r n f most) → lv_has ls 5 [(0, .ref t), (1, .int a), (2, .int c0), (3, .int y), (4, .int (nI i))] → W pp l ee rm_W_packedBits ss mm args below meth cx H locs 0 0 (Zi D vwCl [(cA, .int)] AA ss args below 0 0 (fun r0 w0 => r0 = packB n f a c0 ∧ w0 = wT cA t r n f most)) (F0 mm 5 ls []) := by
    intro n1
    induction n1 with
    | zero =>
      intro i y H locs ls hi hF G hl
      refine lv_iload hx hb d_W_packedBits_5 (lv_at hl 4 rfl) ?_
      refine lv_iload_n hx hb d_W_packedBits_7 rfl (lv_at hl 2 rfl) ?_
      have k_1 : c0 ≤ (nI i) := by rw [show i = c0.toNatClampNeg from hi]; exact le_clamp _
      refine lv_icmp_ge (tgt := 31) hx hb d_W_packedBits_8 (by decide) (fun _ => ?_) (fun h9 => absurd k_1 h9)
      refine lv_iload_n hx hb d_W_packedBits_31 rfl (lv_at hl 3 rfl) ?_
      exact g_reti S hr hlk G ⟨hF, rfl⟩ (Nat.le_refl _) (Nat.le_refl _) d_W_packedBits_32
    | succ n1 ih =>
      intro i y H locs ls hi hF G hl
      refine lv_iload hx hb d_W_packedBits_5 (lv_at hl 4 rfl) ?_
      refine lv_iload_n hx hb d_W_packedBits_7 rfl (lv_at hl 2 rfl) ?_
      have k_2 : ¬ (c0 ≤ (nI i)) := nle_clamp (by omega)
      refine lv_icmp_ge (tgt := 31) hx hb d_W_packedBits_8 (by decide) (fun h9 => absurd h9 k_2) (fun _ => ?_)
      refine lv_iload_n hx hb d_W_packedBits_11 rfl (lv_at hl 3 rfl) ?_
      refine lv_aload_n hx hb d_W_packedBits_12 rfl (lv_at hl 0 rfl) ?_
      refine lv_iload_n hx hb d_W_packedBits_13 rfl (lv_at hl 1 rfl) ?_
      refine lv_iload hx hb d_W_packedBits_14 (lv_at hl 4 rfl) ?_
      refine lv_iadd hx hb d_W_packedBits_16 ?_
      refine g_cVi (rest := [.int y]) S G (c_T_at l D cA t r n f most (a + (nI i)) hn) (cwV 1 S.2.2.2.2 ml_W_90 rfl rfl rfl (by decide +kernel) ⟨Nat.le_of_ble_eq_true rfl, Nat.le_of_ble_eq_true rfl⟩) [0, 1] [] rfl rfl rfl rfl (by decide) 0 rfl rfl rfl hl.1 rfl (Nat.le_of_ble_eq_true rfl) d_W_packedBits_17 ⟨Nat.le_of_ble_eq_true rfl, Nat.le_of_ble_eq_true rfl⟩ (fun rp_3 wp_3 H locs hp_3 G => ?_)
      obtain ⟨rfl, rfl⟩ := hp_3
      have G : Gw D vwCl [(cA, .int)] AA ss ss.heap H locs (wT cA t r n f most) := G
      refine lv_iload hx hb d_W_packedBits_20 (lv_at hl 4 rfl) ?_
      refine lv_ishl hx hb d_W_packedBits_22 ?_
      refine lv_ior hx hb d_W_packedBits_23 ?_
      refine lv_istore_n (lv' := [(3, .int (y ||| ((tAt n f (a + (nI i))) <<< ((nI i) &&& 31)))), (0, .ref t), (1, .int a), (2, .int c0), (4, .int (nI i))]) hx hb d_W_packedBits_24 rfl hl (by decide) rfl (fun ls hl => ?_)
      refine lv_iinc (v := (nI i) + 1) (lv' := [(4, .int ((nI i) + 1)), (3, .int (y ||| ((tAt n f (a + (nI i))) <<< ((nI i) &&& 31)))), (0, .ref t), (1, .int a), (2, .int c0)]) hx hb d_W_packedBits_25 hl (k := 4) rfl rfl (by decide) rfl (fun ls hl => ?_)
      refine lv_goto (tgt := 5) hx hb d_W_packedBits_28 (by decide) ?_
      have hl := lv_sub hl [2, 3, 4, 1, 0] rfl
      rw [nI_1] at hl
      exact ih (i + 1) _ H locs ls (by omega) hF G hl
  exact lp c0.toNatClampNeg 0 0 _ _ ls (Nat.zero_add _) rfl G (lv_sub hl [2, 3, 4, 1, 0] rfl)
end
section
abbrev rm_B_size : Room := { frames := 0, cells := 0, slots := 0, locals := 0 }
set_option maxHeartbeats 4000000 in
set_option maxRecDepth 100000 in
theorem c_B_size (l : Launch) (D : va_G) (cA : ClassId) (t r n : Nat) (f : Nat → Int32) (z : Int32)  : Ci l y_B_size w_B_size rm_B_size D vwCl [(cA, .int)] [.ref t] (wB cA t r n f z) 0 0 (fun r0 w0 => r0 = z ∧ w0 = wB cA t r n f z) := by
  refine Ci.of (Ts := lw_g) (own := "WireSlave$Bytes") (cc := b_B_size) (maxL := 1) (ret := (some .int)) (lv := [(0, .ref t)]) (by decide) rfl rfl (fun w h => List.mem_cons_of_mem _ h) (Nat.le_of_ble_eq_true rfl) rfl ?_
  intro pp ee ss mm args below meth cx AA S hr hlk G ls hl
  have hx := S.1
  have hb := S.2.1
  refine lv_aload_n hx hb d_B_size_0 rfl (lv_at hl 0 rfl) ?_
  refine g_get S G in_B 0 rfl rfl 1 (by decide) fl_B_15 rfl d_B_size_1 ?_
  exact g_reti S hr hlk G ⟨by first | rfl | (simp only [↓reduceIte]; done) | (simp only [↓reduceIte]; rfl), by first | rfl | (simp only [↓reduceIte]; done) | (simp only [↓reduceIte]; rfl)⟩ (Nat.le_refl _) (Nat.le_refl _) d_B_size_4

abbrev rm_B_clear : Room := { frames := 0, cells := 0, slots := 0, locals := 0 }
set_option maxHeartbeats 4000000 in
set_option maxRecDepth 100000 in
theorem c_B_clear (l : Launch) (D : va_G) (cA : ClassId) (t r n : Nat) (f : Nat → Int32) (z : Int32)  : Cv l y_B_clear w_B_clear rm_B_clear D vwCl [(cA, .int)] [.ref t] (wB cA t r n f z) 0 0 (fun w0 => w0 = wB cA t r n f 0) := by
  refine Cv.of (Ts := lw_g) (own := "WireSlave$Bytes") (cc := b_B_clear) (maxL := 1) (ret := none) (lv := [(0, .ref t)]) (by decide) rfl rfl (fun w h => List.mem_cons_of_mem _ h) (Nat.le_of_ble_eq_true rfl) rfl ?_
  intro pp ee ss mm args below meth cx AA S hr hlk hnm G ls hl
  have hx := S.1
  have hb := S.2.1
  refine lv_aload_n hx hb d_B_clear_0 rfl (lv_at hl 0 rfl) ?_
  refine lv_iconst (v := 0) hx hb d_B_clear_1 (by decide) ?_
  refine g_put S G in_B ft_B tok_B nm_B 0 rfl rfl 1 (by decide) fl_B_15 rfl rfl rfl (Nat.le_of_ble_eq_true rfl) (wB cA t r n f 0) rfl d_B_clear_2 (fun H locs G => ?_)
  exact g_retv S hr hlk G (by first | rfl | (simp only [↓reduceIte]; done) | (simp only [↓reduceIte]; rfl)) (Nat.le_refl _) (Nat.le_refl _) d_B_clear_5

abbrev rm_B_append : Room := { frames := 0, cells := 0, slots := 0, locals := 0 }
set_option maxHeartbeats 4000000 in
set_option maxRecDepth 100000 in
theorem c_B_append (l : Launch) (D : va_G) (cA : ClassId) (t r n : Nat) (f : Nat → Int32) (z b : Int32) (hn : n < 2 ^ 31) : Cv l y_B_append w_B_append rm_B_append D vwCl [(cA, .int)] [.ref t, .int b] (wB cA t r n f z) 0 0 (fun w0 => w0 = wB cA t r n (apF n f z b) (apZ n z)) := by
  refine Cv.of (Ts := lw_g) (own := "WireSlave$Bytes") (cc := b_B_append) (maxL := 2) (ret := none) (lv := [(0, .ref t), (1, .int b)]) (by decide) rfl rfl (fun w h => List.mem_cons_of_mem _ h) (Nat.le_of_ble_eq_true rfl) rfl ?_
  intro pp ee ss mm args below meth cx AA S hr hlk hnm G ls hl
  have hx := S.1
  have hb := S.2.1
  refine lv_aload_n hx hb d_B_append_0 rfl (lv_at hl 0 rfl) ?_
  refine g_get S G in_B 0 rfl rfl 1 (by decide) fl_B_15 rfl d_B_append_1 ?_
  refine lv_if_lt (tgt := 39) hx hb d_B_append_4 (by decide) (fun c_1 => ?_) (fun c_1 => ?_)
  · exact g_retv S hr hlk G (by first | rfl | (simp only [apF, apZ, eq_true c_1, ↓reduceIte]; done) | (simp only [apF, apZ, eq_true c_1, ↓reduceIte]; rfl)) (Nat.le_refl _) (Nat.le_refl _) d_B_append_39
  · refine lv_aload_n hx hb d_B_append_7 rfl (lv_at hl 0 rfl) ?_
    refine g_get S G in_B 0 rfl rfl 1 (by decide) fl_B_15 rfl d_B_append_8 ?_
    refine lv_aload_n hx hb d_B_append_11 rfl (lv_at hl 0 rfl) ?_
    refine g_get S G in_B 0 rfl rfl 0 (by decide) fl_B_9 rfl d_B_append_12 ?_
    refine g_alen S G 1 0 rfl rfl (nI n) rfl d_B_append_15 ?_
    refine lv_icmp_ge (tgt := 39) hx hb d_B_append_16 (by decide) (fun c_2 => ?_) (fun c_2 => ?_)
    · exact g_retv S hr hlk G (by first | rfl | (simp only [apF, apZ, eq_false c_1, eq_true c_2, ↓reduceIte]; done) | (simp only [apF, apZ, eq_false c_1, eq_true c_2, ↓reduceIte]; rfl)) (Nat.le_refl _) (Nat.le_refl _) d_B_append_39
    · refine lv_aload_n hx hb d_B_append_19 rfl (lv_at hl 0 rfl) ?_
      refine g_get S G in_B 0 rfl rfl 0 (by decide) fl_B_9 rfl d_B_append_20 ?_
      refine lv_aload_n hx hb d_B_append_23 rfl (lv_at hl 0 rfl) ?_
      refine g_get S G in_B 0 rfl rfl 1 (by decide) fl_B_15 rfl d_B_append_24 ?_
      refine lv_iload_n hx hb d_B_append_27 rfl (lv_at hl 1 rfl) ?_
      refine g_iast S G 1 0 rfl rfl (vin_ge (n := n) c_1 c_2 hn) (wB cA t r n (upd f z.toNatClampNeg b) z) rfl d_B_append_28 (fun H locs G => ?_)
      refine lv_aload_n hx hb d_B_append_29 rfl (lv_at hl 0 rfl) ?_
      refine lv_dup hx hb d_B_append_30 rfl ?_
      refine g_get S G in_B 0 rfl rfl 1 (by decide) fl_B_15 rfl d_B_append_31 ?_
      refine lv_iconst (v := 1) hx hb d_B_append_34 (by decide) ?_
      refine lv_iadd hx hb d_B_append_35 ?_
      refine g_put S G in_B ft_B tok_B nm_B 0 rfl rfl 1 (by decide) fl_B_15 rfl rfl rfl (Nat.le_of_ble_eq_true rfl) (wB cA t r n (upd f z.toNatClampNeg b) (z + 1)) rfl d_B_append_36 (fun H locs G => ?_)
      exact g_retv S hr hlk G (by first | rfl | (simp only [apF, apZ, eq_false c_1, eq_false c_2, ↓reduceIte]; done) | (simp only [apF, apZ, eq_false c_1, eq_false c_2, ↓reduceIte]; rfl)) (Nat.le_refl _) (Nat.le_refl _) d_B_append_39

abbrev rm_B_at : Room := { frames := 0, cells := 0, slots := 0, locals := 0 }
set_option maxHeartbeats 4000000 in
set_option maxRecDepth 100000 in
theorem c_B_at (l : Launch) (D : va_G) (cA : ClassId) (t r n : Nat) (f : Nat → Int32) (z i : Int32) (hn : n < 2 ^ 31) : Ci l y_B_at w_B_at rm_B_at D vwCl [(cA, .int)] [.ref t, .int i] (wB cA t r n f z) 0 0 (fun r0 w0 => r0 = bAt n f z i ∧ w0 = wB cA t r n f z) := by
  refine Ci.of (Ts := lw_g) (own := "WireSlave$Bytes") (cc := b_B_at) (maxL := 2) (ret := (some .int)) (lv := [(0, .ref t), (1, .int i)]) (by decide) rfl rfl (fun w h => List.mem_cons_of_mem _ h) (Nat.le_of_ble_eq_true rfl) rfl ?_
  intro pp ee ss mm args below meth cx AA S hr hlk G ls hl
  have hx := S.1
  have hb := S.2.1
  refine lv_iload_n hx hb d_B_at_0 rfl (lv_at hl 1 rfl) ?_
  refine lv_if_lt (tgt := 30) hx hb d_B_at_1 (by decide) (fun c_1 => ?_) (fun c_1 => ?_)
  · refine lv_iconst (v := (-1)) hx hb d_B_at_30 (by decide) ?_
    exact g_reti S hr hlk G ⟨by first | rfl | (simp only [bAt, eq_true c_1, ↓reduceIte]; done) | (simp only [bAt, eq_true c_1, ↓reduceIte]; rfl), by first | rfl | (simp only [bAt, eq_true c_1, ↓reduceIte]; done) | (simp only [bAt, eq_true c_1, ↓reduceIte]; rfl)⟩ (Nat.le_refl _) (Nat.le_refl _) d_B_at_31
  · refine lv_iload_n hx hb d_B_at_4 rfl (lv_at hl 1 rfl) ?_
    refine lv_aload_n hx hb d_B_at_5 rfl (lv_at hl 0 rfl) ?_
    refine g_get S G in_B 0 rfl rfl 1 (by decide) fl_B_15 rfl d_B_at_6 ?_
    refine lv_icmp_ge (tgt := 30) hx hb d_B_at_9 (by decide) (fun c_2 => ?_) (fun c_2 => ?_)
    · refine lv_iconst (v := (-1)) hx hb d_B_at_30 (by decide) ?_
      exact g_reti S hr hlk G ⟨by first | rfl | (simp only [bAt, eq_false c_1, eq_true c_2, ↓reduceIte]; done) | (simp only [bAt, eq_false c_1, eq_true c_2, ↓reduceIte]; rfl), by first | rfl | (simp only [bAt, eq_false c_1, eq_true c_2, ↓reduceIte]; done) | (simp only [bAt, eq_false c_1, eq_true c_2, ↓reduceIte]; rfl)⟩ (Nat.le_refl _) (Nat.le_refl _) d_B_at_31
    · refine lv_iload_n hx hb d_B_at_12 rfl (lv_at hl 1 rfl) ?_
      refine lv_aload_n hx hb d_B_at_13 rfl (lv_at hl 0 rfl) ?_
      refine g_get S G in_B 0 rfl rfl 0 (by decide) fl_B_9 rfl d_B_at_14 ?_
      refine g_alen S G 1 0 rfl rfl (nI n) rfl d_B_at_17 ?_
      refine lv_icmp_ge (tgt := 30) hx hb d_B_at_18 (by decide) (fun c_3 => ?_) (fun c_3 => ?_)
      · refine lv_iconst (v := (-1)) hx hb d_B_at_30 (by decide) ?_
        exact g_reti S hr hlk G ⟨by first | rfl | (simp only [bAt, eq_false c_1, eq_false c_2, eq_true c_3, ↓reduceIte]; done) | (simp only [bAt, eq_false c_1, eq_false c_2, eq_true c_3, ↓reduceIte]; rfl), by first | rfl | (simp only [bAt, eq_false c_1, eq_false c_2, eq_true c_3, ↓reduceIte]; done) | (simp only [bAt, eq_false c_1, eq_false c_2, eq_true c_3, ↓reduceIte]; rfl)⟩ (Nat.le_refl _) (Nat.le_refl _) d_B_at_31
      · refine lv_aload_n hx hb d_B_at_21 rfl (lv_at hl 0 rfl) ?_
        refine g_get S G in_B 0 rfl rfl 0 (by decide) fl_B_9 rfl d_B_at_22 ?_
        refine lv_iload_n hx hb d_B_at_25 rfl (lv_at hl 1 rfl) ?_
        refine g_iald S G 1 0 rfl rfl (vin_ge (n := n) c_1 c_3 hn) d_B_at_26 ?_
        refine lv_goto (tgt := 31) hx hb d_B_at_27 (by decide) ?_
        exact g_reti S hr hlk G ⟨by first | rfl | (simp only [bAt, eq_false c_1, eq_false c_2, eq_false c_3, ↓reduceIte]; done) | (simp only [bAt, eq_false c_1, eq_false c_2, eq_false c_3, ↓reduceIte]; rfl), by first | rfl | (simp only [bAt, eq_false c_1, eq_false c_2, eq_false c_3, ↓reduceIte]; done) | (simp only [bAt, eq_false c_1, eq_false c_2, eq_false c_3, ↓reduceIte]; rfl)⟩ (Nat.le_refl _) (Nat.le_refl _) d_B_at_31

abbrev rm_B_sumOfFirst : Room := { frames := 1, cells := 0, slots := 0, locals := 24 }
set_option maxHeartbeats 4000000 in
set_option maxRecDepth 100000 in
theorem c_B_sumOfFirst (l : Launch) (D : va_G) (cA : ClassId) (t r n : Nat) (f : Nat → Int32) (z c0 : Int32) (hn : n < 2 ^ 31) : Ci l y_B_sumOfFirst w_B_sumOfFirst rm_B_sumOfFirst D vwCl [(cA, .int)] [.ref t, .int c0] (wB cA t r n f z) 0 0 (fun r0 w0 => r0 = bSum n f z c0 ∧ w0 = wB cA t r n f z) := by
  refine Ci.of (Ts := lw_g) (own := "WireSlave$Bytes") (cc := b_B_sumOfFirst) (maxL := 4) (ret := (some .int)) (lv := [(0, .ref t), (1, .int c0)]) (by decide) rfl rfl (fun w h => List.mem_cons_of_mem _ h) (Nat.le_of_ble_eq_true rfl) rfl ?_
  intro pp ee ss mm args below meth cx AA S hr hlk G ls hl
  have hx := S.1
  have hb := S.2.1
  refine lv_ldc (v := 65535) hx hb S.2.2.2.1 (S.2.2.2.2 _ kn_B_19) d_B_sumOfFirst_0 ?_
  refine lv_istore_n (lv' := [(2, .int 65535), (0, .ref t), (1, .int c0)]) hx hb d_B_sumOfFirst_2 rfl hl (by decide) rfl (fun ls hl => ?_)
  refine lv_iconst (v := 0) hx hb d_B_sumOfFirst_3 (by decide) ?_
  refine lv_istore_n (lv' := [(3, .int 0), (2, .int 65535), (0, .ref t), (1, .int c0)]) hx hb d_B_sumOfFirst_4 rfl hl (by decide) rfl (fun ls hl => ?_)
  have lp : ∀ (n1 : Nat) (i : Nat) (y : Int32) (H : Heap) (locs : List Loc) (ls : Array Slot), (i + n1 = c0.toNatClampNeg) → (sFst n f z n1 i y = bSum n f z c0) → Gw D vwCl [(cA, .int)] AA ss ss.heap H locs (wB cA t r n f z) → lv_has ls 4 [(0, .ref t), (1, .int c0), (2, .int y), (3, .int (nI i))] → W pp l ee rm_B_sumOfFirst ss mm args below meth cx H locs 0 0 (Zi D vwCl [(cA, .int)] AA ss args below 0 0 (fun r0 w0 => r0 = bSum n f z c0 ∧ w0 = wB cA t r n f z)) (F0 mm 5 ls []) := by
    intro n1
    induction n1 with
    | zero =>
      intro i y H locs ls hi hF G hl
      refine lv_iload_n hx hb d_B_sumOfFirst_5 rfl (lv_at hl 3 rfl) ?_
      refine lv_iload_n hx hb d_B_sumOfFirst_6 rfl (lv_at hl 1 rfl) ?_
      have k_1 : c0 ≤ (nI i) := by rw [show i = c0.toNatClampNeg from hi]; exact le_clamp _
      refine lv_icmp_ge (tgt := 26) hx hb d_B_sumOfFirst_7 (by decide) (fun _ => ?_) (fun h9 => absurd k_1 h9)
      refine lv_iload_n hx hb d_B_sumOfFirst_26 rfl (lv_at hl 2 rfl) ?_
      exact g_reti S hr hlk G ⟨hF, rfl⟩ (Nat.le_refl _) (Nat.le_refl _) d_B_sumOfFirst_27
    | succ n1 ih =>
      intro i y H locs ls hi hF G hl
      refine lv_iload_n hx hb d_B_sumOfFirst_5 rfl (lv_at hl 3 rfl) ?_
      refine lv_iload_n hx hb d_B_sumOfFirst_6 rfl (lv_at hl 1 rfl) ?_
      have k_2 : ¬ (c0 ≤ (nI i)) := nle_clamp (by omega)
      refine lv_icmp_ge (tgt := 26) hx hb d_B_sumOfFirst_7 (by decide) (fun h9 => absurd h9 k_2) (fun _ => ?_)
      refine lv_iload_n hx hb d_B_sumOfFirst_10 rfl (lv_at hl 2 rfl) ?_
      refine lv_aload_n hx hb d_B_sumOfFirst_11 rfl (lv_at hl 0 rfl) ?_
      refine lv_iload_n hx hb d_B_sumOfFirst_12 rfl (lv_at hl 3 rfl) ?_
      refine g_cVi (rest := [.int y]) S G (c_B_at l D cA t r n f z (nI i) hn) (cwV 1 S.2.2.2.2 ml_B_20 rfl rfl rfl (by decide +kernel) ⟨Nat.le_of_ble_eq_true rfl, Nat.le_of_ble_eq_true rfl⟩) [0, 1] [] rfl rfl rfl rfl (by decide) 0 rfl rfl rfl hl.1 rfl (Nat.le_of_ble_eq_true rfl) d_B_sumOfFirst_13 ⟨Nat.le_of_ble_eq_true rfl, Nat.le_of_ble_eq_true rfl⟩ (fun rp_3 wp_3 H locs hp_3 G => ?_)
      obtain ⟨rfl, rfl⟩ := hp_3
      have G : Gw D vwCl [(cA, .int)] AA ss ss.heap H locs (wB cA t r n f z) := G
      refine g_cNi (rest := []) S G (c_W_sumWith l D cA y (bAt n f z (nI i))) ⟨va_cnB 2 S.2.2.2.2 (goodC_ cd_W_sumWith) rfl rfl rfl G.2.2.2.2.2 (S.2.2.2.2 _ ini_W) (by decide +kernel) ⟨Nat.le_of_ble_eq_true rfl, Nat.le_of_ble_eq_true rfl⟩, S.2.2.2.2 _ ns_B_24, trivial⟩ [] [0, 1] rfl rfl rfl rfl (by decide) rfl hl.1 rfl (Nat.le_of_ble_eq_true rfl) d_B_sumOfFirst_16 ⟨Nat.le_of_ble_eq_true rfl, Nat.le_of_ble_eq_true rfl⟩ (fun rp_4 wp_4 H locs hp_4 G => ?_)
      obtain ⟨rfl, rfl⟩ := hp_4
      have G := G.sub (ws' := wB cA t r n f z) [0, 1] rfl rfl
      refine lv_istore_n (lv' := [(2, .int (sumW y (bAt n f z (nI i)))), (0, .ref t), (1, .int c0), (3, .int (nI i))]) hx hb d_B_sumOfFirst_19 rfl hl (by decide) rfl (fun ls hl => ?_)
      refine lv_iinc (v := (nI i) + 1) (lv' := [(3, .int ((nI i) + 1)), (2, .int (sumW y (bAt n f z (nI i)))), (0, .ref t), (1, .int c0)]) hx hb d_B_sumOfFirst_20 hl (k := 3) rfl rfl (by decide) rfl (fun ls hl => ?_)
      refine lv_goto (tgt := 5) hx hb d_B_sumOfFirst_23 (by decide) ?_
      have hl := lv_sub hl [2, 3, 1, 0] rfl
      rw [nI_1] at hl
      exact ih (i + 1) _ H locs ls (by omega) hF G hl
  exact lp c0.toNatClampNeg 0 65535 _ _ ls (Nat.zero_add _) rfl G (lv_sub hl [2, 3, 1, 0] rfl)

abbrev rm_B_endsWithItsSum : Room := { frames := 2, cells := 0, slots := 0, locals := 47 }
set_option maxHeartbeats 4000000 in
set_option maxRecDepth 100000 in
theorem c_B_endsWithItsSum (l : Launch) (D : va_G) (cA : ClassId) (t r n : Nat) (f : Nat → Int32) (z : Int32) (hn : n < 2 ^ 31) : Ci l y_B_endsWithItsSum w_B_endsWithItsSum rm_B_endsWithItsSum D vwCl [(cA, .int)] [.ref t] (wB cA t r n f z) 0 0 (fun r0 w0 => r0 = bEnd n f z ∧ w0 = wB cA t r n f z) := by
  refine Ci.of (Ts := lw_g) (own := "WireSlave$Bytes") (cc := b_B_endsWithItsSum) (maxL := 2) (ret := (some .boolean)) (lv := [(0, .ref t)]) (by decide) rfl rfl (fun w h => List.mem_cons_of_mem _ h) (Nat.le_of_ble_eq_true rfl) rfl ?_
  intro pp ee ss mm args below meth cx AA S hr hlk G ls hl
  have hx := S.1
  have hb := S.2.1
  refine lv_aload_n hx hb d_B_endsWithItsSum_0 rfl (lv_at hl 0 rfl) ?_
  refine lv_aload_n hx hb d_B_endsWithItsSum_1 rfl (lv_at hl 0 rfl) ?_
  refine g_get S G in_B 0 rfl rfl 1 (by decide) fl_B_15 rfl d_B_endsWithItsSum_2 ?_
  refine lv_iconst (v := 2) hx hb d_B_endsWithItsSum_5 (by decide) ?_
  refine lv_isub hx hb d_B_endsWithItsSum_6 ?_
  refine g_cVi (rest := []) S G (c_B_sumOfFirst l D cA t r n f z (z - 2) hn) (cwV 1 S.2.2.2.2 ml_B_28 rfl rfl rfl (by decide +kernel) ⟨Nat.le_of_ble_eq_true rfl, Nat.le_of_ble_eq_true rfl⟩) [0, 1] [] rfl rfl rfl rfl (by decide) 0 rfl rfl rfl hl.1 rfl (Nat.le_of_ble_eq_true rfl) d_B_endsWithItsSum_7 ⟨Nat.le_of_ble_eq_true rfl, Nat.le_of_ble_eq_true rfl⟩ (fun rp_1 wp_1 H locs hp_1 G => ?_)
  obtain ⟨rfl, rfl⟩ := hp_1
  have G : Gw D vwCl [(cA, .int)] AA ss ss.heap H locs (wB cA t r n f z) := G
  refine lv_istore_n (lv' := [(1, .int (bSum n f z (z - 2))), (0, .ref t)]) hx hb d_B_endsWithItsSum_10 rfl hl (by decide) rfl (fun ls hl => ?_)
  refine lv_aload_n hx hb d_B_endsWithItsSum_11 rfl (lv_at hl 1 rfl) ?_
  refine lv_aload_n hx hb d_B_endsWithItsSum_12 rfl (lv_at hl 1 rfl) ?_
  refine g_get S G in_B 0 rfl rfl 1 (by decide) fl_B_15 rfl d_B_endsWithItsSum_13 ?_
  refine lv_iconst (v := 2) hx hb d_B_endsWithItsSum_16 (by decide) ?_
  refine lv_isub hx hb d_B_endsWithItsSum_17 ?_
  refine g_cVi (rest := []) S G (c_B_at l D cA t r n f z (z - 2) hn) (cwV 1 S.2.2.2.2 ml_B_20 rfl rfl rfl (by decide +kernel) ⟨Nat.le_of_ble_eq_true rfl, Nat.le_of_ble_eq_true rfl⟩) [0, 1] [] rfl rfl rfl rfl (by decide) 0 rfl rfl rfl hl.1 rfl (Nat.le_of_ble_eq_true rfl) d_B_endsWithItsSum_18 ⟨Nat.le_of_ble_eq_true rfl, Nat.le_of_ble_eq_true rfl⟩ (fun rp_2 wp_2 H locs hp_2 G => ?_)
  obtain ⟨rfl, rfl⟩ := hp_2
  have G : Gw D vwCl [(cA, .int)] AA ss ss.heap H locs (wB cA t r n f z) := G
  refine lv_iload_n hx hb d_B_endsWithItsSum_21 rfl (lv_at hl 0 rfl) ?_
  refine lv_sipush (v := 255) hx hb d_B_endsWithItsSum_22 (by decide) ?_
  refine lv_iand hx hb d_B_endsWithItsSum_25 ?_
  refine lv_icmp_ne (tgt := 50) hx hb d_B_endsWithItsSum_26 (by decide) (fun c_3 => ?_) (fun c_3 => ?_)
  · refine lv_iconst (v := 0) hx hb d_B_endsWithItsSum_50 (by decide) ?_
    exact g_retz S hr hlk rfl G ⟨by first | rfl | (simp only [bEnd, eq_false c_3, ↓reduceIte]; done) | (simp only [bEnd, eq_false c_3, ↓reduceIte]; rfl), by first | rfl | (simp only [bEnd, eq_false c_3, ↓reduceIte]; done) | (simp only [bEnd, eq_false c_3, ↓reduceIte]; rfl)⟩ (Nat.le_refl _) (Nat.le_refl _) d_B_endsWithItsSum_51
  · refine lv_aload_n hx hb d_B_endsWithItsSum_29 rfl (lv_at hl 1 rfl) ?_
    refine lv_aload_n hx hb d_B_endsWithItsSum_30 rfl (lv_at hl 1 rfl) ?_
    refine g_get S G in_B 0 rfl rfl 1 (by decide) fl_B_15 rfl d_B_endsWithItsSum_31 ?_
    refine lv_iconst (v := 1) hx hb d_B_endsWithItsSum_34 (by decide) ?_
    refine lv_isub hx hb d_B_endsWithItsSum_35 ?_
    refine g_cVi (rest := []) S G (c_B_at l D cA t r n f z (z - 1) hn) (cwV 1 S.2.2.2.2 ml_B_20 rfl rfl rfl (by decide +kernel) ⟨Nat.le_of_ble_eq_true rfl, Nat.le_of_ble_eq_true rfl⟩) [0, 1] [] rfl rfl rfl rfl (by decide) 0 rfl rfl rfl hl.1 rfl (Nat.le_of_ble_eq_true rfl) d_B_endsWithItsSum_36 ⟨Nat.le_of_ble_eq_true rfl, Nat.le_of_ble_eq_true rfl⟩ (fun rp_4 wp_4 H locs hp_4 G => ?_)
    obtain ⟨rfl, rfl⟩ := hp_4
    have G : Gw D vwCl [(cA, .int)] AA ss ss.heap H locs (wB cA t r n f z) := G
    refine lv_iload_n hx hb d_B_endsWithItsSum_39 rfl (lv_at hl 0 rfl) ?_
    refine lv_bipush (v := 8) hx hb d_B_endsWithItsSum_40 (by decide) ?_
    refine lv_iushr (v := ush (bSum n f z (z - 2)) 8) hx hb d_B_endsWithItsSum_42 rfl ?_
    refine lv_icmp_ne (tgt := 50) hx hb d_B_endsWithItsSum_43 (by decide) (fun c_5 => ?_) (fun c_5 => ?_)
    · refine lv_iconst (v := 0) hx hb d_B_endsWithItsSum_50 (by decide) ?_
      exact g_retz S hr hlk rfl G ⟨by first | rfl | (simp only [bEnd, eq_true c_3, eq_false c_5, ↓reduceIte]; done) | (simp only [bEnd, eq_true c_3, eq_false c_5, ↓reduceIte]; rfl), by first | rfl | (simp only [bEnd, eq_true c_3, eq_false c_5, ↓reduceIte]; done) | (simp only [bEnd, eq_true c_3, eq_false c_5, ↓reduceIte]; rfl)⟩ (Nat.le_refl _) (Nat.le_refl _) d_B_endsWithItsSum_51
    · refine lv_iconst (v := 1) hx hb d_B_endsWithItsSum_46 (by decide) ?_
      refine lv_goto (tgt := 51) hx hb d_B_endsWithItsSum_47 (by decide) ?_
      exact g_retz S hr hlk rfl G ⟨by first | rfl | (simp only [bEnd, eq_true c_3, eq_true c_5, ↓reduceIte]; done) | (simp only [bEnd, eq_true c_3, eq_true c_5, ↓reduceIte]; rfl), by first | rfl | (simp only [bEnd, eq_true c_3, eq_true c_5, ↓reduceIte]; done) | (simp only [bEnd, eq_true c_3, eq_true c_5, ↓reduceIte]; rfl)⟩ (Nat.le_refl _) (Nat.le_refl _) d_B_endsWithItsSum_51

abbrev rm_B_appendItsSum : Room := { frames := 2, cells := 0, slots := 0, locals := 47 }
set_option maxHeartbeats 4000000 in
set_option maxRecDepth 100000 in
theorem c_B_appendItsSum (l : Launch) (D : va_G) (cA : ClassId) (t r n : Nat) (f : Nat → Int32) (z : Int32) (hn : n < 2 ^ 31) : Cv l y_B_appendItsSum w_B_appendItsSum rm_B_appendItsSum D vwCl [(cA, .int)] [.ref t] (wB cA t r n f z) 0 0 (fun w0 => w0 = wB cA t r n (apF n (apF n f z (bSum n f z z &&& 255)) (apZ n z) (ush (bSum n f z z) 8)) (apZ n (apZ n z))) := by
  refine Cv.of (Ts := lw_g) (own := "WireSlave$Bytes") (cc := b_B_appendItsSum) (maxL := 2) (ret := none) (lv := [(0, .ref t)]) (by decide) rfl rfl (fun w h => List.mem_cons_of_mem _ h) (Nat.le_of_ble_eq_true rfl) rfl ?_
  intro pp ee ss mm args below meth cx AA S hr hlk hnm G ls hl
  have hx := S.1
  have hb := S.2.1
  refine lv_aload_n hx hb d_B_appendItsSum_0 rfl (lv_at hl 0 rfl) ?_
  refine lv_aload_n hx hb d_B_appendItsSum_1 rfl (lv_at hl 0 rfl) ?_
  refine g_get S G in_B 0 rfl rfl 1 (by decide) fl_B_15 rfl d_B_appendItsSum_2 ?_
  refine g_cVi (rest := []) S G (c_B_sumOfFirst l D cA t r n f z z hn) (cwV 1 S.2.2.2.2 ml_B_28 rfl rfl rfl (by decide +kernel) ⟨Nat.le_of_ble_eq_true rfl, Nat.le_of_ble_eq_true rfl⟩) [0, 1] [] rfl rfl rfl rfl (by decide) 0 rfl rfl rfl hl.1 rfl (Nat.le_of_ble_eq_true rfl) d_B_appendItsSum_5 ⟨Nat.le_of_ble_eq_true rfl, Nat.le_of_ble_eq_true rfl⟩ (fun rp_1 wp_1 H locs hp_1 G => ?_)
  obtain ⟨rfl, rfl⟩ := hp_1
  have G : Gw D vwCl [(cA, .int)] AA ss ss.heap H locs (wB cA t r n f z) := G
  refine lv_istore_n (lv' := [(1, .int (bSum n f z z)), (0, .ref t)]) hx hb d_B_appendItsSum_8 rfl hl (by decide) rfl (fun ls hl => ?_)
  refine lv_aload_n hx hb d_B_appendItsSum_9 rfl (lv_at hl 1 rfl) ?_
  refine lv_iload_n hx hb d_B_appendItsSum_10 rfl (lv_at hl 0 rfl) ?_
  refine lv_sipush (v := 255) hx hb d_B_appendItsSum_11 (by decide) ?_
  refine lv_iand hx hb d_B_appendItsSum_14 ?_
  refine g_cVv (rest := []) S G (c_B_append l D cA t r n f z ((bSum n f z z) &&& 255) hn) (cwV 1 S.2.2.2.2 ml_B_31 rfl rfl rfl (by decide +kernel) ⟨Nat.le_of_ble_eq_true rfl, Nat.le_of_ble_eq_true rfl⟩) [0, 1] [] rfl rfl rfl rfl (by decide) 0 rfl rfl rfl hl.1 rfl (Nat.le_of_ble_eq_true rfl) d_B_appendItsSum_15 ⟨Nat.le_of_ble_eq_true rfl, Nat.le_of_ble_eq_true rfl⟩ (fun wp_2 H locs hp_2 G => ?_)
  subst hp_2
  have G : Gw D vwCl [(cA, .int)] AA ss ss.heap H locs (wB cA t r n (apF n f z ((bSum n f z z) &&& 255)) (apZ n z)) := G
  refine lv_aload_n hx hb d_B_appendItsSum_18 rfl (lv_at hl 1 rfl) ?_
  refine lv_iload_n hx hb d_B_appendItsSum_19 rfl (lv_at hl 0 rfl) ?_
  refine lv_bipush (v := 8) hx hb d_B_appendItsSum_20 (by decide) ?_
  refine lv_iushr (v := ush (bSum n f z z) 8) hx hb d_B_appendItsSum_22 rfl ?_
  refine g_cVv (rest := []) S G (c_B_append l D cA t r n (apF n f z ((bSum n f z z) &&& 255)) (apZ n z) (ush (bSum n f z z) 8) hn) (cwV 1 S.2.2.2.2 ml_B_31 rfl rfl rfl (by decide +kernel) ⟨Nat.le_of_ble_eq_true rfl, Nat.le_of_ble_eq_true rfl⟩) [0, 1] [] rfl rfl rfl rfl (by decide) 0 rfl rfl rfl hl.1 rfl (Nat.le_of_ble_eq_true rfl) d_B_appendItsSum_23 ⟨Nat.le_of_ble_eq_true rfl, Nat.le_of_ble_eq_true rfl⟩ (fun wp_3 H locs hp_3 G => ?_)
  subst hp_3
  have G : Gw D vwCl [(cA, .int)] AA ss ss.heap H locs (wB cA t r n (apF n (apF n f z ((bSum n f z z) &&& 255)) (apZ n z) (ush (bSum n f z z) 8)) (apZ n (apZ n z))) := G
  exact g_retv S hr hlk G (by first | rfl | (simp only [↓reduceIte]; done) | (simp only [↓reduceIte]; rfl)) (Nat.le_refl _) (Nat.le_refl _) d_B_appendItsSum_26
end
section
abbrev rm_W_tally : Room := { frames := 0, cells := 0, slots := 0, locals := 0 }
set_option maxHeartbeats 4000000 in
set_option maxRecDepth 100000 in
theorem c_W_tally (l : Launch) (D : va_G) (cA : ClassId) (a : Nat → Nat) (σ : St) (x : Int32)  : Cv l y_W_tally w_W_tally rm_W_tally D vwCl [(cA, .int)] [.ref (a 0), .int x] (wW cA a σ) 0 0 (fun w0 => w0 = wW cA a (wTal σ x)) := by
  refine Cv.of (Ts := lw_g) (own := "WireSlave") (cc := b_W_tally) (maxL := 2) (ret := none) (lv := [(0, .ref (a 0)), (1, .int x)]) (by decide) rfl rfl (fun w h => List.mem_cons_of_mem _ h) (Nat.le_of_ble_eq_true rfl) rfl ?_
  intro pp ee ss mm args below meth cx AA S hr hlk hnm G ls hl
  have hx := S.1
  have hb := S.2.1
  refine lv_iload_n hx hb d_W_tally_0 rfl (lv_at hl 1 rfl) ?_
  refine lv_if_lt (tgt := 23) hx hb d_W_tally_1 (by decide) (fun c_1 => ?_) (fun c_1 => ?_)
  · exact g_retv S hr hlk G (by first | rfl | (simp only [wTal, eq_true c_1, ↓reduceIte]; done) | (simp only [wTal, eq_true c_1, ↓reduceIte]; rfl)) (Nat.le_refl _) (Nat.le_refl _) d_W_tally_23
  · refine lv_iload_n hx hb d_W_tally_4 rfl (lv_at hl 1 rfl) ?_
    refine lv_aload_n hx hb d_W_tally_5 rfl (lv_at hl 0 rfl) ?_
    refine g_get S G in_W 0 rfl rfl 7 (by decide) fl_W_53 rfl d_W_tally_6 ?_
    refine g_alen S G 13 0 rfl rfl 6 rfl d_W_tally_9 ?_
    refine lv_icmp_ge (tgt := 23) hx hb d_W_tally_10 (by decide) (fun c_2 => ?_) (fun c_2 => ?_)
    · exact g_retv S hr hlk G (by first | rfl | (simp only [wTal, eq_false c_1, eq_true c_2, ↓reduceIte]; done) | (simp only [wTal, eq_false c_1, eq_true c_2, ↓reduceIte]; rfl)) (Nat.le_refl _) (Nat.le_refl _) d_W_tally_23
    · refine lv_aload_n hx hb d_W_tally_13 rfl (lv_at hl 0 rfl) ?_
      refine g_get S G in_W 0 rfl rfl 7 (by decide) fl_W_53 rfl d_W_tally_14 ?_
      refine lv_iload_n hx hb d_W_tally_17 rfl (lv_at hl 1 rfl) ?_
      refine lv_dup2_11 hx hb d_W_tally_18 rfl rfl ?_
      refine g_iald S G 13 0 rfl rfl (vin_ge (n := 6) c_1 c_2 (by decide)) d_W_tally_19 ?_
      refine lv_iconst (v := 1) hx hb d_W_tally_20 (by decide) ?_
      refine lv_iadd hx hb d_W_tally_21 ?_
      refine g_iast S G 13 0 rfl rfl (vin_ge (n := 6) c_1 c_2 (by decide)) (wW cA a (sU σ 7 x.toNatClampNeg (((σ 7) x.toNatClampNeg) + 1))) (ww_cnt cA a _ _ _) d_W_tally_22 (fun H locs G => ?_)
      exact g_retv S hr hlk G (by first | rfl | (simp only [wTal, eq_false c_1, eq_false c_2, ↓reduceIte]; done) | (simp only [wTal, eq_false c_1, eq_false c_2, ↓reduceIte]; rfl)) (Nat.le_refl _) (Nat.le_refl _) d_W_tally_23

abbrev rm_W_takeByte : Room := { frames := 1, cells := 0, slots := 0, locals := 21 }
set_option maxHeartbeats 4000000 in
set_option maxRecDepth 100000 in
theorem c_W_takeByte (l : Launch) (D : va_G) (cA : ClassId) (a : Nat → Nat) (σ : St) (b : Int32)  : Cv l y_W_takeByte w_W_takeByte rm_W_takeByte D vwCl [(cA, .int)] [.ref (a 0), .int b] (wW cA a σ) 0 0 (fun w0 => w0 = wW cA a (wTake σ b)) := by
  refine Cv.of (Ts := lw_g) (own := "WireSlave") (cc := b_W_takeByte) (maxL := 2) (ret := none) (lv := [(0, .ref (a 0)), (1, .int b)]) (by decide) rfl rfl (fun w h => List.mem_cons_of_mem _ h) (Nat.le_of_ble_eq_true rfl) rfl ?_
  intro pp ee ss mm args below meth cx AA S hr hlk hnm G ls hl
  have hx := S.1
  have hb := S.2.1
  refine lv_aload_n hx hb d_W_takeByte_0 rfl (lv_at hl 0 rfl) ?_
  refine g_get S G in_W 0 rfl rfl 5 (by decide) fl_W_46 rfl d_W_takeByte_1 ?_
  refine g_cVi (rest := []) S G (c_B_size l D cA (a 9) (a 10) 257 (σ 5) (σ 0 3)) (cwV 0 S.2.2.2.2 ml_W_68 rfl rfl rfl (by decide +kernel) ⟨Nat.le_of_ble_eq_true rfl, Nat.le_of_ble_eq_true rfl⟩) [9, 10] [0, 1, 2, 3, 4, 5, 6, 7, 8, 11, 12, 13] rfl rfl rfl rfl (by decide) 9 rfl rfl rfl hl.1 rfl (Nat.le_of_ble_eq_true rfl) d_W_takeByte_4 ⟨Nat.le_of_ble_eq_true rfl, Nat.le_of_ble_eq_true rfl⟩ (fun rp_1 wp_1 H locs hp_1 G => ?_)
  obtain ⟨rfl, rfl⟩ := hp_1
  have G := G.sub (ws' := wW cA a σ) [0, 1, 2, 3, 4, 5, 6, 7, 8, 12, 13, 9, 10, 11] rfl (ww_B9 cA a _)
  refine lv_if_le (tgt := 24) hx hb d_W_takeByte_7 (by decide) (fun c_2 => ?_) (fun c_2 => ?_)
  · refine lv_aload_n hx hb d_W_takeByte_24 rfl (lv_at hl 0 rfl) ?_
    refine lv_iconst (v := 0) hx hb d_W_takeByte_25 (by decide) ?_
    refine g_put S G in_W ft_W tok_W nm_W 0 rfl rfl 8 (by decide) fl_W_57 rfl rfl rfl (Nat.le_of_ble_eq_true rfl) (wW cA a (sU σ 0 1 0)) (ww_pgap cA a _ _) d_W_takeByte_26 (fun H locs G => ?_)
    refine lv_aload_n hx hb d_W_takeByte_29 rfl (lv_at hl 0 rfl) ?_
    refine g_get S G in_W 0 rfl rfl 5 (by decide) fl_W_46 rfl d_W_takeByte_30 ?_
    refine lv_iload_n hx hb d_W_takeByte_33 rfl (lv_at hl 1 rfl) ?_
    refine g_cVv (rest := []) S G (c_B_append l D cA (a 9) (a 10) 257 ((sU σ 0 1 0) 5) ((sU σ 0 1 0) 0 3) b (by decide)) (cwV 1 S.2.2.2.2 ml_W_95 rfl rfl rfl (by decide +kernel) ⟨Nat.le_of_ble_eq_true rfl, Nat.le_of_ble_eq_true rfl⟩) [9, 10] [0, 1, 2, 3, 4, 5, 6, 7, 8, 11, 12, 13] rfl rfl rfl rfl (by decide) 9 rfl rfl rfl hl.1 rfl (Nat.le_of_ble_eq_true rfl) d_W_takeByte_34 ⟨Nat.le_of_ble_eq_true rfl, Nat.le_of_ble_eq_true rfl⟩ (fun wp_3 H locs hp_3 G => ?_)
    subst hp_3
    have G := G.sub (ws' := wW cA a (wApF (sU σ 0 1 0) b)) [0, 1, 2, 3, 4, 5, 6, 7, 8, 12, 13, 9, 10, 11] rfl (ww_aB9 cA a _ _)
    exact g_retv S hr hlk G (by first | rfl | (simp only [wTake, eq_true c_2, ↓reduceIte]; done) | (simp only [wTake, eq_true c_2, ↓reduceIte]; rfl)) (Nat.le_refl _) (Nat.le_refl _) d_W_takeByte_37
  · refine lv_aload_n hx hb d_W_takeByte_10 rfl (lv_at hl 0 rfl) ?_
    refine g_get S G in_W 0 rfl rfl 8 (by decide) fl_W_57 rfl d_W_takeByte_11 ?_
    refine lv_bipush (v := 7) hx hb d_W_takeByte_14 (by decide) ?_
    refine lv_icmp_lt (tgt := 24) hx hb d_W_takeByte_16 (by decide) (fun c_4 => ?_) (fun c_4 => ?_)
    · refine lv_aload_n hx hb d_W_takeByte_24 rfl (lv_at hl 0 rfl) ?_
      refine lv_iconst (v := 0) hx hb d_W_takeByte_25 (by decide) ?_
      refine g_put S G in_W ft_W tok_W nm_W 0 rfl rfl 8 (by decide) fl_W_57 rfl rfl rfl (Nat.le_of_ble_eq_true rfl) (wW cA a (sU σ 0 1 0)) (ww_pgap cA a _ _) d_W_takeByte_26 (fun H locs G => ?_)
      refine lv_aload_n hx hb d_W_takeByte_29 rfl (lv_at hl 0 rfl) ?_
      refine g_get S G in_W 0 rfl rfl 5 (by decide) fl_W_46 rfl d_W_takeByte_30 ?_
      refine lv_iload_n hx hb d_W_takeByte_33 rfl (lv_at hl 1 rfl) ?_
      refine g_cVv (rest := []) S G (c_B_append l D cA (a 9) (a 10) 257 ((sU σ 0 1 0) 5) ((sU σ 0 1 0) 0 3) b (by decide)) (cwV 1 S.2.2.2.2 ml_W_95 rfl rfl rfl (by decide +kernel) ⟨Nat.le_of_ble_eq_true rfl, Nat.le_of_ble_eq_true rfl⟩) [9, 10] [0, 1, 2, 3, 4, 5, 6, 7, 8, 11, 12, 13] rfl rfl rfl rfl (by decide) 9 rfl rfl rfl hl.1 rfl (Nat.le_of_ble_eq_true rfl) d_W_takeByte_34 ⟨Nat.le_of_ble_eq_true rfl, Nat.le_of_ble_eq_true rfl⟩ (fun wp_5 H locs hp_5 G => ?_)
      subst hp_5
      have G := G.sub (ws' := wW cA a (wApF (sU σ 0 1 0) b)) [0, 1, 2, 3, 4, 5, 6, 7, 8, 12, 13, 9, 10, 11] rfl (ww_aB9 cA a _ _)
      exact g_retv S hr hlk G (by first | rfl | (simp only [wTake, eq_false c_2, eq_true c_4, ↓reduceIte]; done) | (simp only [wTake, eq_false c_2, eq_true c_4, ↓reduceIte]; rfl)) (Nat.le_refl _) (Nat.le_refl _) d_W_takeByte_37
    · refine lv_aload_n hx hb d_W_takeByte_19 rfl (lv_at hl 0 rfl) ?_
      refine lv_iconst (v := 1) hx hb d_W_takeByte_20 (by decide) ?_
      refine g_put S G in_W ft_W tok_W nm_W 0 rfl rfl 9 (by decide) fl_W_60 rfl rfl rfl (Nat.le_of_ble_eq_true rfl) (wW cA a (sU σ 0 2 1)) (ww_pspoilt cA a _ _) d_W_takeByte_21 (fun H locs G => ?_)
      refine lv_aload_n hx hb d_W_takeByte_24 rfl (lv_at hl 0 rfl) ?_
      refine lv_iconst (v := 0) hx hb d_W_takeByte_25 (by decide) ?_
      refine g_put S G in_W ft_W tok_W nm_W 0 rfl rfl 8 (by decide) fl_W_57 rfl rfl rfl (Nat.le_of_ble_eq_true rfl) (wW cA a (sU (sU σ 0 2 1) 0 1 0)) (ww_pgap cA a _ _) d_W_takeByte_26 (fun H locs G => ?_)
      refine lv_aload_n hx hb d_W_takeByte_29 rfl (lv_at hl 0 rfl) ?_
      refine g_get S G in_W 0 rfl rfl 5 (by decide) fl_W_46 rfl d_W_takeByte_30 ?_
      refine lv_iload_n hx hb d_W_takeByte_33 rfl (lv_at hl 1 rfl) ?_
      refine g_cVv (rest := []) S G (c_B_append l D cA (a 9) (a 10) 257 ((sU (sU σ 0 2 1) 0 1 0) 5) ((sU (sU σ 0 2 1) 0 1 0) 0 3) b (by decide)) (cwV 1 S.2.2.2.2 ml_W_95 rfl rfl rfl (by decide +kernel) ⟨Nat.le_of_ble_eq_true rfl, Nat.le_of_ble_eq_true rfl⟩) [9, 10] [0, 1, 2, 3, 4, 5, 6, 7, 8, 11, 12, 13] rfl rfl rfl rfl (by decide) 9 rfl rfl rfl hl.1 rfl (Nat.le_of_ble_eq_true rfl) d_W_takeByte_34 ⟨Nat.le_of_ble_eq_true rfl, Nat.le_of_ble_eq_true rfl⟩ (fun wp_6 H locs hp_6 G => ?_)
      subst hp_6
      have G := G.sub (ws' := wW cA a (wApF (sU (sU σ 0 2 1) 0 1 0) b)) [0, 1, 2, 3, 4, 5, 6, 7, 8, 12, 13, 9, 10, 11] rfl (ww_aB9 cA a _ _)
      exact g_retv S hr hlk G (by first | rfl | (simp only [wTake, eq_false c_2, eq_false c_4, ↓reduceIte]; done) | (simp only [wTake, eq_false c_2, eq_false c_4, ↓reduceIte]; rfl)) (Nat.le_refl _) (Nat.le_refl _) d_W_takeByte_37

abbrev rm_W_hear : Room := { frames := 2, cells := 0, slots := 0, locals := 42 }
set_option maxHeartbeats 4000000 in
set_option maxRecDepth 100000 in
theorem c_W_hear (l : Launch) (D : va_G) (cA : ClassId) (a : Nat → Nat) (σ : St) (b : Int32)  : Ci l y_W_hear w_W_hear rm_W_hear D vwCl [(cA, .int)] [.ref (a 0), .int b] (wW cA a σ) 0 0 (fun r0 w0 => r0 = wHearR σ b ∧ w0 = wW cA a (wHear σ b)) := by
  refine Ci.of (Ts := lw_g) (own := "WireSlave") (cc := b_W_hear) (maxL := 2) (ret := (some .int)) (lv := [(0, .ref (a 0)), (1, .int b)]) (by decide) rfl rfl (fun w h => List.mem_cons_of_mem _ h) (Nat.le_of_ble_eq_true rfl) rfl ?_
  intro pp ee ss mm args below meth cx AA S hr hlk G ls hl
  have hx := S.1
  have hb := S.2.1
  refine lv_iload_n hx hb d_W_hear_0 rfl (lv_at hl 1 rfl) ?_
  refine lv_if_lt (tgt := 11) hx hb d_W_hear_1 (by decide) (fun c_1 => ?_) (fun c_1 => ?_)
  · refine lv_iconst (v := (-1)) hx hb d_W_hear_11 (by decide) ?_
    exact g_reti S hr hlk G ⟨by first | rfl | (simp only [wHearR, wHear, eq_true c_1, ↓reduceIte]; done) | (simp only [wHearR, wHear, eq_true c_1, ↓reduceIte]; rfl), by first | rfl | (simp only [wHearR, wHear, eq_true c_1, ↓reduceIte]; done) | (simp only [wHearR, wHear, eq_true c_1, ↓reduceIte]; rfl)⟩ (Nat.le_refl _) (Nat.le_refl _) d_W_hear_12
  · refine lv_iload_n hx hb d_W_hear_4 rfl (lv_at hl 1 rfl) ?_
    refine lv_sipush (v := 255) hx hb d_W_hear_5 (by decide) ?_
    refine lv_icmp_le (tgt := 13) hx hb d_W_hear_8 (by decide) (fun c_2 => ?_) (fun c_2 => ?_)
    · refine lv_aload_n hx hb d_W_hear_13 rfl (lv_at hl 0 rfl) ?_
      refine lv_iload_n hx hb d_W_hear_14 rfl (lv_at hl 1 rfl) ?_
      refine g_cVv (rest := []) S G (c_W_takeByte l D cA a σ b) (cwV 1 S.2.2.2.2 ml_W_64 rfl rfl rfl (by decide +kernel) ⟨Nat.le_of_ble_eq_true rfl, Nat.le_of_ble_eq_true rfl⟩) [0, 1, 2, 3, 4, 5, 6, 7, 8, 9, 10, 11, 12, 13] [] rfl rfl rfl rfl (by decide) 0 rfl rfl rfl hl.1 rfl (Nat.le_of_ble_eq_true rfl) d_W_hear_15 ⟨Nat.le_of_ble_eq_true rfl, Nat.le_of_ble_eq_true rfl⟩ (fun wp_3 H locs hp_3 G => ?_)
      subst hp_3
      have G : Gw D vwCl [(cA, .int)] AA ss ss.heap H locs (wW cA a (wTake σ b)) := G
      refine lv_aload_n hx hb d_W_hear_18 rfl (lv_at hl 0 rfl) ?_
      refine g_get S G in_W 0 rfl rfl 5 (by decide) fl_W_46 rfl d_W_hear_19 ?_
      refine g_cVi (rest := []) S G (c_B_size l D cA (a 9) (a 10) 257 ((wTake σ b) 5) ((wTake σ b) 0 3)) (cwV 0 S.2.2.2.2 ml_W_68 rfl rfl rfl (by decide +kernel) ⟨Nat.le_of_ble_eq_true rfl, Nat.le_of_ble_eq_true rfl⟩) [9, 10] [0, 1, 2, 3, 4, 5, 6, 7, 8, 11, 12, 13] rfl rfl rfl rfl (by decide) 9 rfl rfl rfl hl.1 rfl (Nat.le_of_ble_eq_true rfl) d_W_hear_22 ⟨Nat.le_of_ble_eq_true rfl, Nat.le_of_ble_eq_true rfl⟩ (fun rp_4 wp_4 H locs hp_4 G => ?_)
      obtain ⟨rfl, rfl⟩ := hp_4
      have G := G.sub (ws' := wW cA a (wTake σ b)) [0, 1, 2, 3, 4, 5, 6, 7, 8, 12, 13, 9, 10, 11] rfl (ww_B9 cA a _)
      exact g_reti S hr hlk G ⟨by first | rfl | (simp only [wHearR, wHear, eq_false c_1, eq_true c_2, ↓reduceIte]; done) | (simp only [wHearR, wHear, eq_false c_1, eq_true c_2, ↓reduceIte]; rfl), by first | rfl | (simp only [wHearR, wHear, eq_false c_1, eq_true c_2, ↓reduceIte]; done) | (simp only [wHearR, wHear, eq_false c_1, eq_true c_2, ↓reduceIte]; rfl)⟩ (Nat.le_refl _) (Nat.le_refl _) d_W_hear_25
    · refine lv_iconst (v := (-1)) hx hb d_W_hear_11 (by decide) ?_
      exact g_reti S hr hlk G ⟨by first | rfl | (simp only [wHearR, wHear, eq_false c_1, eq_false c_2, ↓reduceIte]; done) | (simp only [wHearR, wHear, eq_false c_1, eq_false c_2, ↓reduceIte]; rfl), by first | rfl | (simp only [wHearR, wHear, eq_false c_1, eq_false c_2, ↓reduceIte]; done) | (simp only [wHearR, wHear, eq_false c_1, eq_false c_2, ↓reduceIte]; rfl)⟩ (Nat.le_refl _) (Nat.le_refl _) d_W_hear_12

abbrev rm_W_listen : Room := { frames := 2, cells := 0, slots := 0, locals := 42 }
set_option maxHeartbeats 4000000 in
set_option maxRecDepth 100000 in
theorem c_W_listen (l : Launch) (D : va_G) (cA : ClassId) (a : Nat → Nat) (σ : St) (k0 : Int32) (v : Int64)  : Ci l y_W_listen w_W_listen rm_W_listen D vwCl [(cA, .int)] [.ref (a 0), .int k0, .long v] (wW cA a σ) 0 0 (fun r0 w0 => r0 = wLisR σ k0 v ∧ w0 = wW cA a (wLis σ k0 v)) := by
  refine Ci.of (Ts := lw_g) (own := "WireSlave") (cc := b_W_listen) (maxL := 5) (ret := (some .int)) (lv := [(0, .ref (a 0)), (1, .int k0), (2, .long v)]) (by decide) rfl rfl (fun w h => List.mem_cons_of_mem _ h) (Nat.le_of_ble_eq_true rfl) rfl ?_
  intro pp ee ss mm args below meth cx AA S hr hlk G ls hl
  have hx := S.1
  have hb := S.2.1
  refine lv_iload_n hx hb d_W_listen_0 rfl (lv_at hl 1 rfl) ?_
  refine lv_iconst (v := 1) hx hb d_W_listen_1 (by decide) ?_
  refine lv_icmp_lt (tgt := 11) hx hb d_W_listen_2 (by decide) (fun c_1 => ?_) (fun c_1 => ?_)
  · refine lv_iconst (v := (-1)) hx hb d_W_listen_11 (by decide) ?_
    exact g_reti S hr hlk G ⟨by first | rfl | (simp only [wLisR, wLis, eq_true c_1, ↓reduceIte]; done) | (simp only [wLisR, wLis, eq_true c_1, ↓reduceIte]; rfl), by first | rfl | (simp only [wLisR, wLis, eq_true c_1, ↓reduceIte]; done) | (simp only [wLisR, wLis, eq_true c_1, ↓reduceIte]; rfl)⟩ (Nat.le_refl _) (Nat.le_refl _) d_W_listen_12
  · refine lv_iload_n hx hb d_W_listen_5 rfl (lv_at hl 1 rfl) ?_
    refine lv_bipush (v := 8) hx hb d_W_listen_6 (by decide) ?_
    refine lv_icmp_le (tgt := 13) hx hb d_W_listen_8 (by decide) (fun c_2 => ?_) (fun c_2 => ?_)
    · refine lv_iload_n hx hb d_W_listen_13 rfl (lv_at hl 1 rfl) ?_
      refine lv_iconst (v := 1) hx hb d_W_listen_14 (by decide) ?_
      refine lv_isub hx hb d_W_listen_15 ?_
      refine lv_istore (lv' := [(4, .int (k0 - 1)), (0, .ref (a 0)), (1, .int k0), (2, .long v)]) hx hb d_W_listen_16 hl (by decide) rfl (fun ls hl => ?_)
      have lp : ∀ (n : Nat) (x : Int32) (ρ : St) (H : Heap) (locs : List Loc) (ls : Array Slot), (x = nI n - 1) → (n ≤ 8) → (wLisL v n ρ = wLisL v k0.toNatClampNeg σ) → Gw D vwCl [(cA, .int)] AA ss ss.heap H locs (wW cA a (ρ)) → lv_has ls 5 [(0, .ref (a 0)), (1, .int k0), (2, .long v), (4, .int x)] → W pp l ee rm_W_listen ss mm args below meth cx H locs 0 0 (Zi D vwCl [(cA, .int)] AA ss args below 0 0 (fun r0 w0 => r0 = wLisR σ k0 v ∧ w0 = wW cA a (wLis σ k0 v))) (F0 mm 18 ls []) := by
        intro n
        induction n with
        | zero =>
          intro x ρ H locs ls hxn hn8 hF G hl
          refine lv_iload hx hb d_W_listen_18 (lv_at hl 3 rfl) ?_
          have k_3 : x < 0 := by rw [hxn]; decide
          refine lv_if_lt (tgt := 39) hx hb d_W_listen_20 (by decide) (fun _ => ?_) (fun h9 => absurd k_3 h9)
          refine lv_aload_n hx hb d_W_listen_39 rfl (lv_at hl 0 rfl) ?_
          refine g_get S G in_W 0 rfl rfl 5 (by decide) fl_W_46 rfl d_W_listen_40 ?_
          refine g_cVi (rest := []) S G (c_B_size l D cA (a 9) (a 10) 257 ((ρ) 5) ((ρ) 0 3)) (cwV 0 S.2.2.2.2 ml_W_68 rfl rfl rfl (by decide +kernel) ⟨Nat.le_of_ble_eq_true rfl, Nat.le_of_ble_eq_true rfl⟩) [9, 10] [0, 1, 2, 3, 4, 5, 6, 7, 8, 11, 12, 13] rfl rfl rfl rfl (by decide) 9 rfl rfl rfl hl.1 rfl (Nat.le_of_ble_eq_true rfl) d_W_listen_43 ⟨Nat.le_of_ble_eq_true rfl, Nat.le_of_ble_eq_true rfl⟩ (fun rp_4 wp_4 H locs hp_4 G => ?_)
          obtain ⟨rfl, rfl⟩ := hp_4
          have G := G.sub (ws' := wW cA a (ρ)) [0, 1, 2, 3, 4, 5, 6, 7, 8, 12, 13, 9, 10, 11] rfl (ww_B9 cA a _)
          exact g_reti S hr hlk G ⟨by simp only [wLisR, eq_false c_1, eq_true c_2, ↓reduceIte]; exact congrFun (congrFun hF 0) 3, by simp only [wLis, eq_false c_1, eq_true c_2, ↓reduceIte]; exact congrArg (wW cA a) hF⟩ (Nat.le_refl _) (Nat.le_refl _) d_W_listen_46
        | succ n ih =>
          intro x ρ H locs ls hxn hn8 hF G hl
          rw [nI_pred n] at hxn
          subst hxn
          refine lv_iload hx hb d_W_listen_18 (lv_at hl 3 rfl) ?_
          have k_5 : ¬ ((nI n) < 0) := nI_pos (by omega)
          refine lv_if_lt (tgt := 39) hx hb d_W_listen_20 (by decide) (fun h9 => absurd h9 k_5) (fun _ => ?_)
          refine lv_aload_n hx hb d_W_listen_23 rfl (lv_at hl 0 rfl) ?_
          refine lv_lload_n hx hb d_W_listen_24 rfl (lv_at hl 2 rfl) ?_
          refine lv_iload hx hb d_W_listen_25 (lv_at hl 3 rfl) ?_
          refine g_cSi (rest := [.ref (a 0)]) S G (c_W_byteOf l D cA v (nI n)) (va_cwS 2 S.2.2.2.2 ml_W_72 rfl rfl rfl (by decide +kernel) ⟨Nat.le_of_ble_eq_true rfl, Nat.le_of_ble_eq_true rfl⟩) [] [0, 1, 2, 3, 4, 5, 6, 7, 8, 9, 10, 11, 12, 13] rfl rfl rfl rfl (by decide) rfl hl.1 rfl (Nat.le_of_ble_eq_true rfl) d_W_listen_27 ⟨Nat.le_of_ble_eq_true rfl, Nat.le_of_ble_eq_true rfl⟩ (fun rp_6 wp_6 H locs hp_6 G => ?_)
          obtain ⟨rfl, rfl⟩ := hp_6
          have G := G.sub (ws' := wW cA a (ρ)) [0, 1, 2, 3, 4, 5, 6, 7, 8, 9, 10, 11, 12, 13] rfl (ww_id cA a _)
          refine g_cVv (rest := []) S G (c_W_takeByte l D cA a (ρ) (byteOf v (nI n))) (cwV 1 S.2.2.2.2 ml_W_64 rfl rfl rfl (by decide +kernel) ⟨Nat.le_of_ble_eq_true rfl, Nat.le_of_ble_eq_true rfl⟩) [0, 1, 2, 3, 4, 5, 6, 7, 8, 9, 10, 11, 12, 13] [] rfl rfl rfl rfl (by decide) 0 rfl rfl rfl hl.1 rfl (Nat.le_of_ble_eq_true rfl) d_W_listen_30 ⟨Nat.le_of_ble_eq_true rfl, Nat.le_of_ble_eq_true rfl⟩ (fun wp_7 H locs hp_7 G => ?_)
          subst hp_7
          have G : Gw D vwCl [(cA, .int)] AA ss ss.heap H locs (wW cA a (wTake (ρ) (byteOf v (nI n)))) := G
          refine lv_iinc (v := (nI n) + (-1)) (lv' := [(4, .int ((nI n) + (-1))), (0, .ref (a 0)), (1, .int k0), (2, .long v)]) hx hb d_W_listen_33 hl (k := 3) rfl rfl (by decide) rfl (fun ls hl => ?_)
          refine lv_goto (tgt := 18) hx hb d_W_listen_36 (by decide) ?_
          exact ih _ _ H locs ls (m1_ _) (by omega) hF G (lv_sub hl [1, 2, 3, 0] rfl)
      exact lp k0.toNatClampNeg (k0 - 1) σ _ _ ls (by rw [← nI_self (pos_of1 c_1)]) (clamp_le (n := 8) c_2 (by decide)) rfl G (lv_sub hl [1, 2, 3, 0] rfl)
    · refine lv_iconst (v := (-1)) hx hb d_W_listen_11 (by decide) ?_
      exact g_reti S hr hlk G ⟨by first | rfl | (simp only [wLisR, wLis, eq_false c_1, eq_false c_2, ↓reduceIte]; done) | (simp only [wLisR, wLis, eq_false c_1, eq_false c_2, ↓reduceIte]; rfl), by first | rfl | (simp only [wLisR, wLis, eq_false c_1, eq_false c_2, ↓reduceIte]; done) | (simp only [wLisR, wLis, eq_false c_1, eq_false c_2, ↓reduceIte]; rfl)⟩ (Nat.le_refl _) (Nat.le_refl _) d_W_listen_12

abbrev rm_W_sum : Room := { frames := 1, cells := 0, slots := 0, locals := 24 }
set_option maxHeartbeats 4000000 in
set_option maxRecDepth 100000 in
theorem c_W_sum (l : Launch) (D : va_G) (cA : ClassId) (a : Nat → Nat) (σ : St) (k0 : Int32) (v : Int64)  : Ci l y_W_sum w_W_sum rm_W_sum D vwCl [(cA, .int)] [.ref (a 0), .int k0, .long v] (wW cA a σ) 0 0 (fun r0 w0 => r0 = wSum k0 v ∧ w0 = wW cA a σ) := by
  refine Ci.of (Ts := lw_g) (own := "WireSlave") (cc := b_W_sum) (maxL := 6) (ret := (some .int)) (lv := [(0, .ref (a 0)), (1, .int k0), (2, .long v)]) (by decide) rfl rfl (fun w h => List.mem_cons_of_mem _ h) (Nat.le_of_ble_eq_true rfl) rfl ?_
  intro pp ee ss mm args below meth cx AA S hr hlk G ls hl
  have hx := S.1
  have hb := S.2.1
  refine lv_iload_n hx hb d_W_sum_0 rfl (lv_at hl 1 rfl) ?_
  refine lv_if_lt (tgt := 10) hx hb d_W_sum_1 (by decide) (fun c_1 => ?_) (fun c_1 => ?_)
  · refine lv_iconst (v := (-1)) hx hb d_W_sum_10 (by decide) ?_
    exact g_reti S hr hlk G ⟨by first | rfl | (simp only [wSum, eq_true c_1, ↓reduceIte]; done) | (simp only [wSum, eq_true c_1, ↓reduceIte]; rfl), by first | rfl | (simp only [wSum, eq_true c_1, ↓reduceIte]; done) | (simp only [wSum, eq_true c_1, ↓reduceIte]; rfl)⟩ (Nat.le_refl _) (Nat.le_refl _) d_W_sum_11
  · refine lv_iload_n hx hb d_W_sum_4 rfl (lv_at hl 1 rfl) ?_
    refine lv_bipush (v := 8) hx hb d_W_sum_5 (by decide) ?_
    refine lv_icmp_le (tgt := 12) hx hb d_W_sum_7 (by decide) (fun c_2 => ?_) (fun c_2 => ?_)
    · refine lv_ldc (v := 65535) hx hb S.2.2.2.1 (S.2.2.2.2 _ kn_W_34) d_W_sum_12 ?_
      refine lv_istore (lv' := [(4, .int 65535), (0, .ref (a 0)), (1, .int k0), (2, .long v)]) hx hb d_W_sum_14 hl (by decide) rfl (fun ls hl => ?_)
      refine lv_iload_n hx hb d_W_sum_16 rfl (lv_at hl 2 rfl) ?_
      refine lv_iconst (v := 1) hx hb d_W_sum_17 (by decide) ?_
      refine lv_isub hx hb d_W_sum_18 ?_
      refine lv_istore (lv' := [(5, .int (k0 - 1)), (4, .int 65535), (0, .ref (a 0)), (1, .int k0), (2, .long v)]) hx hb d_W_sum_19 hl (by decide) rfl (fun ls hl => ?_)
      have lp : ∀ (n : Nat) (x y : Int32) (H : Heap) (locs : List Loc) (ls : Array Slot), (x = nI n - 1) → (n ≤ 8) → (wSumL v n y = wSumL v k0.toNatClampNeg 65535) → Gw D vwCl [(cA, .int)] AA ss ss.heap H locs (wW cA a σ) → lv_has ls 6 [(0, .ref (a 0)), (1, .int k0), (2, .long v), (4, .int y), (5, .int x)] → W pp l ee rm_W_sum ss mm args below meth cx H locs 0 0 (Zi D vwCl [(cA, .int)] AA ss args below 0 0 (fun r0 w0 => r0 = wSum k0 v ∧ w0 = wW cA a σ)) (F0 mm 21 ls []) := by
        intro n
        induction n with
        | zero =>
          intro x y H locs ls hxn hn8 hF G hl
          refine lv_iload hx hb d_W_sum_21 (lv_at hl 4 rfl) ?_
          have k_3 : x < 0 := by rw [hxn]; decide
          refine lv_if_lt (tgt := 45) hx hb d_W_sum_23 (by decide) (fun _ => ?_) (fun h9 => absurd k_3 h9)
          refine lv_iload hx hb d_W_sum_45 (lv_at hl 3 rfl) ?_
          exact g_reti S hr hlk G ⟨by simp only [wSum, eq_false c_1, eq_true c_2, ↓reduceIte]; exact hF, rfl⟩ (Nat.le_refl _) (Nat.le_refl _) d_W_sum_47
        | succ n ih =>
          intro x y H locs ls hxn hn8 hF G hl
          rw [nI_pred n] at hxn
          subst hxn
          refine lv_iload hx hb d_W_sum_21 (lv_at hl 4 rfl) ?_
          have k_4 : ¬ ((nI n) < 0) := nI_pos (by omega)
          refine lv_if_lt (tgt := 45) hx hb d_W_sum_23 (by decide) (fun h9 => absurd h9 k_4) (fun _ => ?_)
          refine lv_iload hx hb d_W_sum_26 (lv_at hl 3 rfl) ?_
          refine lv_lload_n hx hb d_W_sum_28 rfl (lv_at hl 2 rfl) ?_
          refine lv_iload hx hb d_W_sum_29 (lv_at hl 4 rfl) ?_
          refine g_cSi (rest := [.int y]) S G (c_W_byteOf l D cA v (nI n)) (va_cwS 2 S.2.2.2.2 ml_W_72 rfl rfl rfl (by decide +kernel) ⟨Nat.le_of_ble_eq_true rfl, Nat.le_of_ble_eq_true rfl⟩) [] [0, 1, 2, 3, 4, 5, 6, 7, 8, 9, 10, 11, 12, 13] rfl rfl rfl rfl (by decide) rfl hl.1 rfl (Nat.le_of_ble_eq_true rfl) d_W_sum_31 ⟨Nat.le_of_ble_eq_true rfl, Nat.le_of_ble_eq_true rfl⟩ (fun rp_5 wp_5 H locs hp_5 G => ?_)
          obtain ⟨rfl, rfl⟩ := hp_5
          have G := G.sub (ws' := wW cA a σ) [0, 1, 2, 3, 4, 5, 6, 7, 8, 9, 10, 11, 12, 13] rfl (ww_id cA a _)
          refine g_cSi (rest := []) S G (c_W_sumWith l D cA y (byteOf v (nI n))) (va_cwS 2 S.2.2.2.2 ml_W_91 rfl rfl rfl (by decide +kernel) ⟨Nat.le_of_ble_eq_true rfl, Nat.le_of_ble_eq_true rfl⟩) [] [0, 1, 2, 3, 4, 5, 6, 7, 8, 9, 10, 11, 12, 13] rfl rfl rfl rfl (by decide) rfl hl.1 rfl (Nat.le_of_ble_eq_true rfl) d_W_sum_34 ⟨Nat.le_of_ble_eq_true rfl, Nat.le_of_ble_eq_true rfl⟩ (fun rp_6 wp_6 H locs hp_6 G => ?_)
          obtain ⟨rfl, rfl⟩ := hp_6
          have G := G.sub (ws' := wW cA a σ) [0, 1, 2, 3, 4, 5, 6, 7, 8, 9, 10, 11, 12, 13] rfl (ww_id cA a _)
          refine lv_istore (lv' := [(4, .int (sumW y (byteOf v (nI n)))), (0, .ref (a 0)), (1, .int k0), (2, .long v), (5, .int (nI n))]) hx hb d_W_sum_37 hl (by decide) rfl (fun ls hl => ?_)
          refine lv_iinc (v := (nI n) + (-1)) (lv' := [(5, .int ((nI n) + (-1))), (4, .int (sumW y (byteOf v (nI n)))), (0, .ref (a 0)), (1, .int k0), (2, .long v)]) hx hb d_W_sum_39 hl (k := 4) rfl rfl (by decide) rfl (fun ls hl => ?_)
          refine lv_goto (tgt := 21) hx hb d_W_sum_42 (by decide) ?_
          exact ih _ _ H locs ls (m1_ _) (by omega) hF G (lv_sub hl [2, 3, 4, 1, 0] rfl)
      exact lp k0.toNatClampNeg (k0 - 1) 65535 _ _ ls (by rw [← nI_self c_1]) (clamp_le (n := 8) c_2 (by decide)) rfl G (lv_sub hl [2, 3, 4, 1, 0] rfl)
    · refine lv_iconst (v := (-1)) hx hb d_W_sum_10 (by decide) ?_
      exact g_reti S hr hlk G ⟨by first | rfl | (simp only [wSum, eq_false c_1, eq_false c_2, ↓reduceIte]; done) | (simp only [wSum, eq_false c_1, eq_false c_2, ↓reduceIte]; rfl), by first | rfl | (simp only [wSum, eq_false c_1, eq_false c_2, ↓reduceIte]; done) | (simp only [wSum, eq_false c_1, eq_false c_2, ↓reduceIte]; rfl)⟩ (Nat.le_refl _) (Nat.le_refl _) d_W_sum_11

abbrev rm_W_reply : Room := { frames := 1, cells := 0, slots := 0, locals := 21 }
set_option maxHeartbeats 4000000 in
set_option maxRecDepth 100000 in
theorem c_W_reply (l : Launch) (D : va_G) (cA : ClassId) (a : Nat → Nat) (σ : St) (i : Int32)  : Ci l y_W_reply w_W_reply rm_W_reply D vwCl [(cA, .int)] [.ref (a 0), .int i] (wW cA a σ) 0 0 (fun r0 w0 => r0 = bAt 256 (σ 6) (σ 0 4) i ∧ w0 = wW cA a σ) := by
  refine Ci.of (Ts := lw_g) (own := "WireSlave") (cc := b_W_reply) (maxL := 2) (ret := (some .int)) (lv := [(0, .ref (a 0)), (1, .int i)]) (by decide) rfl rfl (fun w h => List.mem_cons_of_mem _ h) (Nat.le_of_ble_eq_true rfl) rfl ?_
  intro pp ee ss mm args below meth cx AA S hr hlk G ls hl
  have hx := S.1
  have hb := S.2.1
  refine lv_aload_n hx hb d_W_reply_0 rfl (lv_at hl 0 rfl) ?_
  refine g_get S G in_W 0 rfl rfl 6 (by decide) fl_W_50 rfl d_W_reply_1 ?_
  refine lv_iload_n hx hb d_W_reply_4 rfl (lv_at hl 1 rfl) ?_
  refine g_cVi (rest := []) S G (c_B_at l D cA (a 11) (a 12) 256 (σ 6) (σ 0 4) i (by decide)) (cwV 1 S.2.2.2.2 ml_W_79 rfl rfl rfl (by decide +kernel) ⟨Nat.le_of_ble_eq_true rfl, Nat.le_of_ble_eq_true rfl⟩) [11, 12] [0, 1, 2, 3, 4, 5, 6, 7, 8, 9, 10, 13] rfl rfl rfl rfl (by decide) 11 rfl rfl rfl hl.1 rfl (Nat.le_of_ble_eq_true rfl) d_W_reply_5 ⟨Nat.le_of_ble_eq_true rfl, Nat.le_of_ble_eq_true rfl⟩ (fun rp_1 wp_1 H locs hp_1 G => ?_)
  obtain ⟨rfl, rfl⟩ := hp_1
  have G := G.sub (ws' := wW cA a σ) [0, 1, 2, 3, 4, 5, 6, 7, 8, 9, 10, 12, 13, 11] rfl (ww_B11 cA a _)
  exact g_reti S hr hlk G ⟨by first | rfl | (simp only [↓reduceIte]; done) | (simp only [↓reduceIte]; rfl), by first | rfl | (simp only [↓reduceIte]; done) | (simp only [↓reduceIte]; rfl)⟩ (Nat.le_refl _) (Nat.le_refl _) d_W_reply_8

abbrev rm_W_count : Room := { frames := 0, cells := 0, slots := 0, locals := 0 }
set_option maxHeartbeats 4000000 in
set_option maxRecDepth 100000 in
theorem c_W_count (l : Launch) (D : va_G) (cA : ClassId) (a : Nat → Nat) (σ : St) (x : Int32)  : Ci l y_W_count w_W_count rm_W_count D vwCl [(cA, .int)] [.ref (a 0), .int x] (wW cA a σ) 0 0 (fun r0 w0 => r0 = wCnt σ x ∧ w0 = wW cA a σ) := by
  refine Ci.of (Ts := lw_g) (own := "WireSlave") (cc := b_W_count) (maxL := 2) (ret := (some .int)) (lv := [(0, .ref (a 0)), (1, .int x)]) (by decide) rfl rfl (fun w h => List.mem_cons_of_mem _ h) (Nat.le_of_ble_eq_true rfl) rfl ?_
  intro pp ee ss mm args below meth cx AA S hr hlk G ls hl
  have hx := S.1
  have hb := S.2.1
  refine lv_iload_n hx hb d_W_count_0 rfl (lv_at hl 1 rfl) ?_
  refine lv_if_lt (tgt := 13) hx hb d_W_count_1 (by decide) (fun c_1 => ?_) (fun c_1 => ?_)
  · refine lv_iconst (v := (-1)) hx hb d_W_count_13 (by decide) ?_
    refine lv_goto (tgt := 23) hx hb d_W_count_14 (by decide) ?_
    exact g_reti S hr hlk G ⟨by first | rfl | (simp only [wCnt, eq_true c_1, ↓reduceIte]; done) | (simp only [wCnt, eq_true c_1, ↓reduceIte]; rfl), by first | rfl | (simp only [wCnt, eq_true c_1, ↓reduceIte]; done) | (simp only [wCnt, eq_true c_1, ↓reduceIte]; rfl)⟩ (Nat.le_refl _) (Nat.le_refl _) d_W_count_23
  · refine lv_iload_n hx hb d_W_count_4 rfl (lv_at hl 1 rfl) ?_
    refine lv_aload_n hx hb d_W_count_5 rfl (lv_at hl 0 rfl) ?_
    refine g_get S G in_W 0 rfl rfl 7 (by decide) fl_W_53 rfl d_W_count_6 ?_
    refine g_alen S G 13 0 rfl rfl 6 rfl d_W_count_9 ?_
    refine lv_icmp_lt (tgt := 17) hx hb d_W_count_10 (by decide) (fun c_2 => ?_) (fun c_2 => ?_)
    · refine lv_aload_n hx hb d_W_count_17 rfl (lv_at hl 0 rfl) ?_
      refine g_get S G in_W 0 rfl rfl 7 (by decide) fl_W_53 rfl d_W_count_18 ?_
      refine lv_iload_n hx hb d_W_count_21 rfl (lv_at hl 1 rfl) ?_
      refine g_iald S G 13 0 rfl rfl (vin_lt (n := 6) c_1 c_2 (by decide)) d_W_count_22 ?_
      exact g_reti S hr hlk G ⟨by first | rfl | (simp only [wCnt, eq_false c_1, eq_true c_2, ↓reduceIte]; done) | (simp only [wCnt, eq_false c_1, eq_true c_2, ↓reduceIte]; rfl), by first | rfl | (simp only [wCnt, eq_false c_1, eq_true c_2, ↓reduceIte]; done) | (simp only [wCnt, eq_false c_1, eq_true c_2, ↓reduceIte]; rfl)⟩ (Nat.le_refl _) (Nat.le_refl _) d_W_count_23
    · refine lv_iconst (v := (-1)) hx hb d_W_count_13 (by decide) ?_
      refine lv_goto (tgt := 23) hx hb d_W_count_14 (by decide) ?_
      exact g_reti S hr hlk G ⟨by first | rfl | (simp only [wCnt, eq_false c_1, eq_false c_2, ↓reduceIte]; done) | (simp only [wCnt, eq_false c_1, eq_false c_2, ↓reduceIte]; rfl), by first | rfl | (simp only [wCnt, eq_false c_1, eq_false c_2, ↓reduceIte]; done) | (simp only [wCnt, eq_false c_1, eq_false c_2, ↓reduceIte]; rfl)⟩ (Nat.le_refl _) (Nat.le_refl _) d_W_count_23

abbrev rm_W_tableNumbered : Room := { frames := 0, cells := 0, slots := 0, locals := 0 }
set_option maxHeartbeats 4000000 in
set_option maxRecDepth 100000 in
theorem c_W_tableNumbered (l : Launch) (D : va_G) (cA : ClassId) (a : Nat → Nat) (σ : St) (t : Int32)  : Cq l y_W_tableNumbered w_W_tableNumbered rm_W_tableNumbered D vwCl [(cA, .int)] [.ref (a 0), .int t] (wW cA a σ) 0 0 (fun r0 w0 => r0 = tRef a (tNum t) ∧ w0 = wW cA a σ) := by
  refine Cq.of (Ts := lw_g) (own := "WireSlave") (cc := b_W_tableNumbered) (maxL := 2) (ret := (some (.object "WireSlave$Table"))) (lv := [(0, .ref (a 0)), (1, .int t)]) (by decide) rfl rfl (fun w h => List.mem_cons_of_mem _ h) (Nat.le_of_ble_eq_true rfl) rfl ?_
  intro pp ee ss mm args below meth cx AA S hr hlk G ls hl
  have hx := S.1
  have hb := S.2.1
  refine lv_iload_n hx hb d_W_tableNumbered_0 rfl (lv_at hl 1 rfl) ?_
  by_cases c_1 : t = 0
  · refine lv_tableIn (tgt := 32) hx hb d_W_tableNumbered_1 (by rw [c_1]; decide) (by rw [c_1]; decide) (by rw [c_1]; rfl) (by decide) ?_
    refine lv_aload_n hx hb d_W_tableNumbered_32 rfl (lv_at hl 0 rfl) ?_
    refine g_get S G in_W 0 rfl rfl 1 (by decide) fl_W_27 rfl d_W_tableNumbered_33 ?_
    exact g_retq S hr hlk (some (a 1)) G ⟨by first | rfl | (simp only [tNum, eq_true c_1, ↓reduceIte]; done) | (simp only [tNum, eq_true c_1, ↓reduceIte]; rfl), by first | rfl | (simp only [tNum, eq_true c_1, ↓reduceIte]; done) | (simp only [tNum, eq_true c_1, ↓reduceIte]; rfl)⟩ (Nat.le_refl _) (Nat.le_refl _) d_W_tableNumbered_36
  by_cases c_2 : t = 1
  · refine lv_tableIn (tgt := 37) hx hb d_W_tableNumbered_1 (by rw [c_2]; decide) (by rw [c_2]; decide) (by rw [c_2]; rfl) (by decide) ?_
    refine lv_aload_n hx hb d_W_tableNumbered_37 rfl (lv_at hl 0 rfl) ?_
    refine g_get S G in_W 0 rfl rfl 2 (by decide) fl_W_31 rfl d_W_tableNumbered_38 ?_
    exact g_retq S hr hlk (some (a 3)) G ⟨by first | rfl | (simp only [tNum, eq_false c_1, eq_true c_2, ↓reduceIte]; done) | (simp only [tNum, eq_false c_1, eq_true c_2, ↓reduceIte]; rfl), by first | rfl | (simp only [tNum, eq_false c_1, eq_true c_2, ↓reduceIte]; done) | (simp only [tNum, eq_false c_1, eq_true c_2, ↓reduceIte]; rfl)⟩ (Nat.le_refl _) (Nat.le_refl _) d_W_tableNumbered_41
  by_cases c_3 : t = 2
  · refine lv_tableIn (tgt := 42) hx hb d_W_tableNumbered_1 (by rw [c_3]; decide) (by rw [c_3]; decide) (by rw [c_3]; rfl) (by decide) ?_
    refine lv_aload_n hx hb d_W_tableNumbered_42 rfl (lv_at hl 0 rfl) ?_
    refine g_get S G in_W 0 rfl rfl 3 (by decide) fl_W_35 rfl d_W_tableNumbered_43 ?_
    exact g_retq S hr hlk (some (a 5)) G ⟨by first | rfl | (simp only [tNum, eq_false c_1, eq_false c_2, eq_true c_3, ↓reduceIte]; done) | (simp only [tNum, eq_false c_1, eq_false c_2, eq_true c_3, ↓reduceIte]; rfl), by first | rfl | (simp only [tNum, eq_false c_1, eq_false c_2, eq_true c_3, ↓reduceIte]; done) | (simp only [tNum, eq_false c_1, eq_false c_2, eq_true c_3, ↓reduceIte]; rfl)⟩ (Nat.le_refl _) (Nat.le_refl _) d_W_tableNumbered_46
  by_cases c_4 : t = 3
  · refine lv_tableIn (tgt := 47) hx hb d_W_tableNumbered_1 (by rw [c_4]; decide) (by rw [c_4]; decide) (by rw [c_4]; rfl) (by decide) ?_
    refine lv_aload_n hx hb d_W_tableNumbered_47 rfl (lv_at hl 0 rfl) ?_
    refine g_get S G in_W 0 rfl rfl 4 (by decide) fl_W_38 rfl d_W_tableNumbered_48 ?_
    exact g_retq S hr hlk (some (a 7)) G ⟨by first | rfl | (simp only [tNum, eq_false c_1, eq_false c_2, eq_false c_3, eq_true c_4, ↓reduceIte]; done) | (simp only [tNum, eq_false c_1, eq_false c_2, eq_false c_3, eq_true c_4, ↓reduceIte]; rfl), by first | rfl | (simp only [tNum, eq_false c_1, eq_false c_2, eq_false c_3, eq_true c_4, ↓reduceIte]; done) | (simp only [tNum, eq_false c_1, eq_false c_2, eq_false c_3, eq_true c_4, ↓reduceIte]; rfl)⟩ (Nat.le_refl _) (Nat.le_refl _) d_W_tableNumbered_51
  have nc_1 := lv_neT c_1 (a := 0) (by decide)
  have nc_2 := lv_neT c_2 (a := 1) (by decide)
  have nc_3 := lv_neT c_3 (a := 2) (by decide)
  have nc_4 := lv_neT c_4 (a := 3) (by decide)
  refine g_table (tgt := 52) (off := 51) hx hb d_W_tableNumbered_1 ?_ (by decide) ?_
  · exact if_pos (show (t.toInt < 0 ∨ 3 < t.toInt) by omega)
  refine lv_null hx hb d_W_tableNumbered_52 ?_
  exact g_retq S hr hlk none G ⟨by first | rfl | (simp only [tNum, eq_false c_1, eq_false c_2, eq_false c_3, eq_false c_4, ↓reduceIte]; done) | (simp only [tNum, eq_false c_1, eq_false c_2, eq_false c_3, eq_false c_4, ↓reduceIte]; rfl), by first | rfl | (simp only [tNum, eq_false c_1, eq_false c_2, eq_false c_3, eq_false c_4, ↓reduceIte]; done) | (simp only [tNum, eq_false c_1, eq_false c_2, eq_false c_3, eq_false c_4, ↓reduceIte]; rfl)⟩ (Nat.le_refl _) (Nat.le_refl _) d_W_tableNumbered_53

abbrev rm_W_tableOfFunction : Room := { frames := 0, cells := 0, slots := 0, locals := 0 }
set_option maxHeartbeats 4000000 in
set_option maxRecDepth 100000 in
theorem c_W_tableOfFunction (l : Launch) (D : va_G) (cA : ClassId) (a : Nat → Nat) (σ : St) (f : Int32)  : Cq l y_W_tableOfFunction w_W_tableOfFunction rm_W_tableOfFunction D vwCl [(cA, .int)] [.ref (a 0), .int f] (wW cA a σ) 0 0 (fun r0 w0 => r0 = tRef a (fTab f) ∧ w0 = wW cA a σ) := by
  refine Cq.of (Ts := lw_g) (own := "WireSlave") (cc := b_W_tableOfFunction) (maxL := 2) (ret := (some (.object "WireSlave$Table"))) (lv := [(0, .ref (a 0)), (1, .int f)]) (by decide) rfl rfl (fun w h => List.mem_cons_of_mem _ h) (Nat.le_of_ble_eq_true rfl) rfl ?_
  intro pp ee ss mm args below meth cx AA S hr hlk G ls hl
  have hx := S.1
  have hb := S.2.1
  refine lv_iload_n hx hb d_W_tableOfFunction_0 rfl (lv_at hl 1 rfl) ?_
  by_cases c_1 : f = 1
  · refine lv_tableIn (tgt := 80) hx hb d_W_tableOfFunction_1 (by rw [c_1]; decide) (by rw [c_1]; decide) (by rw [c_1]; rfl) (by decide) ?_
    refine lv_aload_n hx hb d_W_tableOfFunction_80 rfl (lv_at hl 0 rfl) ?_
    refine g_get S G in_W 0 rfl rfl 1 (by decide) fl_W_27 rfl d_W_tableOfFunction_81 ?_
    exact g_retq S hr hlk (some (a 1)) G ⟨by first | rfl | (simp only [fTab, eq_true c_1, ↓reduceIte]; done) | (simp only [fTab, eq_true c_1, ↓reduceIte]; rfl), by first | rfl | (simp only [fTab, eq_true c_1, ↓reduceIte]; done) | (simp only [fTab, eq_true c_1, ↓reduceIte]; rfl)⟩ (Nat.le_refl _) (Nat.le_refl _) d_W_tableOfFunction_84
  by_cases c_2 : f = 2
  · refine lv_tableIn (tgt := 85) hx hb d_W_tableOfFunction_1 (by rw [c_2]; decide) (by rw [c_2]; decide) (by rw [c_2]; rfl) (by decide) ?_
    refine lv_aload_n hx hb d_W_tableOfFunction_85 rfl (lv_at hl 0 rfl) ?_
    refine g_get S G in_W 0 rfl rfl 2 (by decide) fl_W_31 rfl d_W_tableOfFunction_86 ?_
    exact g_retq S hr hlk (some (a 3)) G ⟨by first | rfl | (simp only [fTab, eq_false c_1, eq_true c_2, ↓reduceIte]; done) | (simp only [fTab, eq_false c_1, eq_true c_2, ↓reduceIte]; rfl), by first | rfl | (simp only [fTab, eq_false c_1, eq_true c_2, ↓reduceIte]; done) | (simp only [fTab, eq_false c_1, eq_true c_2, ↓reduceIte]; rfl)⟩ (Nat.le_refl _) (Nat.le_refl _) d_W_tableOfFunction_89
  by_cases c_3 : f = 3
  · refine lv_tableIn (tgt := 90) hx hb d_W_tableOfFunction_1 (by rw [c_3]; decide) (by rw [c_3]; decide) (by rw [c_3]; rfl) (by decide) ?_
    refine lv_aload_n hx hb d_W_tableOfFunction_90 rfl (lv_at hl 0 rfl) ?_
    refine g_get S G in_W 0 rfl rfl 3 (by decide) fl_W_35 rfl d_W_tableOfFunction_91 ?_
    exact g_retq S hr hlk (some (a 5)) G ⟨by first | rfl | (simp only [fTab, eq_false c_1, eq_false c_2, eq_true c_3, ↓reduceIte]; done) | (simp only [fTab, eq_false c_1, eq_false c_2, eq_true c_3, ↓reduceIte]; rfl), by first | rfl | (simp only [fTab, eq_false c_1, eq_false c_2, eq_true c_3, ↓reduceIte]; done) | (simp only [fTab, eq_false c_1, eq_false c_2, eq_true c_3, ↓reduceIte]; rfl)⟩ (Nat.le_refl _) (Nat.le_refl _) d_W_tableOfFunction_94
  by_cases c_4 : f = 4
  · refine lv_tableIn (tgt := 95) hx hb d_W_tableOfFunction_1 (by rw [c_4]; decide) (by rw [c_4]; decide) (by rw [c_4]; rfl) (by decide) ?_
    refine lv_aload_n hx hb d_W_tableOfFunction_95 rfl (lv_at hl 0 rfl) ?_
    refine g_get S G in_W 0 rfl rfl 4 (by decide) fl_W_38 rfl d_W_tableOfFunction_96 ?_
    exact g_retq S hr hlk (some (a 7)) G ⟨by first | rfl | (simp only [fTab, eq_false c_1, eq_false c_2, eq_false c_3, eq_true c_4, ↓reduceIte]; done) | (simp only [fTab, eq_false c_1, eq_false c_2, eq_false c_3, eq_true c_4, ↓reduceIte]; rfl), by first | rfl | (simp only [fTab, eq_false c_1, eq_false c_2, eq_false c_3, eq_true c_4, ↓reduceIte]; done) | (simp only [fTab, eq_false c_1, eq_false c_2, eq_false c_3, eq_true c_4, ↓reduceIte]; rfl)⟩ (Nat.le_refl _) (Nat.le_refl _) d_W_tableOfFunction_99
  by_cases c_5 : f = 5
  · refine lv_tableIn (tgt := 80) hx hb d_W_tableOfFunction_1 (by rw [c_5]; decide) (by rw [c_5]; decide) (by rw [c_5]; rfl) (by decide) ?_
    refine lv_aload_n hx hb d_W_tableOfFunction_80 rfl (lv_at hl 0 rfl) ?_
    refine g_get S G in_W 0 rfl rfl 1 (by decide) fl_W_27 rfl d_W_tableOfFunction_81 ?_
    exact g_retq S hr hlk (some (a 1)) G ⟨by first | rfl | (simp only [fTab, eq_false c_1, eq_false c_2, eq_false c_3, eq_false c_4, eq_true c_5, ↓reduceIte]; done) | (simp only [fTab, eq_false c_1, eq_false c_2, eq_false c_3, eq_false c_4, eq_true c_5, ↓reduceIte]; rfl), by first | rfl | (simp only [fTab, eq_false c_1, eq_false c_2, eq_false c_3, eq_false c_4, eq_true c_5, ↓reduceIte]; done) | (simp only [fTab, eq_false c_1, eq_false c_2, eq_false c_3, eq_false c_4, eq_true c_5, ↓reduceIte]; rfl)⟩ (Nat.le_refl _) (Nat.le_refl _) d_W_tableOfFunction_84
  by_cases c_6 : f = 6
  · refine lv_tableIn (tgt := 90) hx hb d_W_tableOfFunction_1 (by rw [c_6]; decide) (by rw [c_6]; decide) (by rw [c_6]; rfl) (by decide) ?_
    refine lv_aload_n hx hb d_W_tableOfFunction_90 rfl (lv_at hl 0 rfl) ?_
    refine g_get S G in_W 0 rfl rfl 3 (by decide) fl_W_35 rfl d_W_tableOfFunction_91 ?_
    exact g_retq S hr hlk (some (a 5)) G ⟨by first | rfl | (simp only [fTab, eq_false c_1, eq_false c_2, eq_false c_3, eq_false c_4, eq_false c_5, eq_true c_6, ↓reduceIte]; done) | (simp only [fTab, eq_false c_1, eq_false c_2, eq_false c_3, eq_false c_4, eq_false c_5, eq_true c_6, ↓reduceIte]; rfl), by first | rfl | (simp only [fTab, eq_false c_1, eq_false c_2, eq_false c_3, eq_false c_4, eq_false c_5, eq_true c_6, ↓reduceIte]; done) | (simp only [fTab, eq_false c_1, eq_false c_2, eq_false c_3, eq_false c_4, eq_false c_5, eq_true c_6, ↓reduceIte]; rfl)⟩ (Nat.le_refl _) (Nat.le_refl _) d_W_tableOfFunction_94
  by_cases c_7 : f = 15
  · refine lv_tableIn (tgt := 80) hx hb d_W_tableOfFunction_1 (by rw [c_7]; decide) (by rw [c_7]; decide) (by rw [c_7]; rfl) (by decide) ?_
    refine lv_aload_n hx hb d_W_tableOfFunction_80 rfl (lv_at hl 0 rfl) ?_
    refine g_get S G in_W 0 rfl rfl 1 (by decide) fl_W_27 rfl d_W_tableOfFunction_81 ?_
    exact g_retq S hr hlk (some (a 1)) G ⟨by first | rfl | (simp only [fTab, eq_false c_1, eq_false c_2, eq_false c_3, eq_false c_4, eq_false c_5, eq_false c_6, eq_true c_7, ↓reduceIte]; done) | (simp only [fTab, eq_false c_1, eq_false c_2, eq_false c_3, eq_false c_4, eq_false c_5, eq_false c_6, eq_true c_7, ↓reduceIte]; rfl), by first | rfl | (simp only [fTab, eq_false c_1, eq_false c_2, eq_false c_3, eq_false c_4, eq_false c_5, eq_false c_6, eq_true c_7, ↓reduceIte]; done) | (simp only [fTab, eq_false c_1, eq_false c_2, eq_false c_3, eq_false c_4, eq_false c_5, eq_false c_6, eq_true c_7, ↓reduceIte]; rfl)⟩ (Nat.le_refl _) (Nat.le_refl _) d_W_tableOfFunction_84
  by_cases c_8 : f = 16
  · refine lv_tableIn (tgt := 90) hx hb d_W_tableOfFunction_1 (by rw [c_8]; decide) (by rw [c_8]; decide) (by rw [c_8]; rfl) (by decide) ?_
    refine lv_aload_n hx hb d_W_tableOfFunction_90 rfl (lv_at hl 0 rfl) ?_
    refine g_get S G in_W 0 rfl rfl 3 (by decide) fl_W_35 rfl d_W_tableOfFunction_91 ?_
    exact g_retq S hr hlk (some (a 5)) G ⟨by first | rfl | (simp only [fTab, eq_false c_1, eq_false c_2, eq_false c_3, eq_false c_4, eq_false c_5, eq_false c_6, eq_false c_7, eq_true c_8, ↓reduceIte]; done) | (simp only [fTab, eq_false c_1, eq_false c_2, eq_false c_3, eq_false c_4, eq_false c_5, eq_false c_6, eq_false c_7, eq_true c_8, ↓reduceIte]; rfl), by first | rfl | (simp only [fTab, eq_false c_1, eq_false c_2, eq_false c_3, eq_false c_4, eq_false c_5, eq_false c_6, eq_false c_7, eq_true c_8, ↓reduceIte]; done) | (simp only [fTab, eq_false c_1, eq_false c_2, eq_false c_3, eq_false c_4, eq_false c_5, eq_false c_6, eq_false c_7, eq_true c_8, ↓reduceIte]; rfl)⟩ (Nat.le_refl _) (Nat.le_refl _) d_W_tableOfFunction_94
  have nc_1 := lv_neT c_1 (a := 1) (by decide)
  have nc_2 := lv_neT c_2 (a := 2) (by decide)
  have nc_3 := lv_neT c_3 (a := 3) (by decide)
  have nc_4 := lv_neT c_4 (a := 4) (by decide)
  have nc_5 := lv_neT c_5 (a := 5) (by decide)
  have nc_6 := lv_neT c_6 (a := 6) (by decide)
  have nc_7 := lv_neT c_7 (a := 15) (by decide)
  have nc_8 := lv_neT c_8 (a := 16) (by decide)
  refine g_table (tgt := 100) (off := 99) hx hb d_W_tableOfFunction_1 ?_ (by decide) ?_
  · rcases (show (f.toInt < 1 ∨ 16 < f.toInt) ∨ f.toInt = 7 ∨ f.toInt = 8 ∨ f.toInt = 9 ∨ f.toInt = 10 ∨ f.toInt = 11 ∨ f.toInt = 12 ∨ f.toInt = 13 ∨ f.toInt = 14 by omega) with h | h | h | h | h | h | h | h | h
    · exact if_pos h
    · rw [h]; rfl
    · rw [h]; rfl
    · rw [h]; rfl
    · rw [h]; rfl
    · rw [h]; rfl
    · rw [h]; rfl
    · rw [h]; rfl
    · rw [h]; rfl
  refine lv_null hx hb d_W_tableOfFunction_100 ?_
  exact g_retq S hr hlk none G ⟨by first | rfl | (simp only [fTab, eq_false c_1, eq_false c_2, eq_false c_3, eq_false c_4, eq_false c_5, eq_false c_6, eq_false c_7, eq_false c_8, ↓reduceIte]; done) | (simp only [fTab, eq_false c_1, eq_false c_2, eq_false c_3, eq_false c_4, eq_false c_5, eq_false c_6, eq_false c_7, eq_false c_8, ↓reduceIte]; rfl), by first | rfl | (simp only [fTab, eq_false c_1, eq_false c_2, eq_false c_3, eq_false c_4, eq_false c_5, eq_false c_6, eq_false c_7, eq_false c_8, ↓reduceIte]; done) | (simp only [fTab, eq_false c_1, eq_false c_2, eq_false c_3, eq_false c_4, eq_false c_5, eq_false c_6, eq_false c_7, eq_false c_8, ↓reduceIte]; rfl)⟩ (Nat.le_refl _) (Nat.le_refl _) d_W_tableOfFunction_101

abbrev rm_W_get : Room := { frames := 2, cells := 0, slots := 0, locals := 42 }
set_option maxHeartbeats 4000000 in
set_option maxRecDepth 100000 in
theorem c_W_get (l : Launch) (D : va_G) (cA : ClassId) (a : Nat → Nat) (σ : St) (t p : Int32)  : Ci l y_W_get w_W_get rm_W_get D vwCl [(cA, .int)] [.ref (a 0), .int t, .int p] (wW cA a σ) 0 0 (fun r0 w0 => r0 = wGet σ t p ∧ w0 = wW cA a σ) := by
  refine Ci.of (Ts := lw_g) (own := "WireSlave") (cc := b_W_get) (maxL := 4) (ret := (some .int)) (lv := [(0, .ref (a 0)), (1, .int t), (2, .int p)]) (by decide) rfl rfl (fun w h => List.mem_cons_of_mem _ h) (Nat.le_of_ble_eq_true rfl) rfl ?_
  intro pp ee ss mm args below meth cx AA S hr hlk G ls hl
  have hx := S.1
  have hb := S.2.1
  refine lv_aload_n hx hb d_W_get_0 rfl (lv_at hl 0 rfl) ?_
  refine lv_iload_n hx hb d_W_get_1 rfl (lv_at hl 1 rfl) ?_
  refine g_cVq (rest := []) S G (c_W_tableNumbered l D cA a σ t) (cwV 1 S.2.2.2.2 ml_W_83 rfl rfl rfl (by decide +kernel) ⟨Nat.le_of_ble_eq_true rfl, Nat.le_of_ble_eq_true rfl⟩) [0, 1, 2, 3, 4, 5, 6, 7, 8, 9, 10, 11, 12, 13] [] rfl rfl rfl rfl (by decide) 0 rfl rfl rfl hl.1 rfl (Nat.le_of_ble_eq_true rfl) d_W_get_2 ⟨Nat.le_of_ble_eq_true rfl, Nat.le_of_ble_eq_true rfl⟩ (fun rp_1 wp_1 H locs hp_1 G => ?_)
  obtain ⟨rfl, rfl⟩ := hp_1
  have G : Gw D vwCl [(cA, .int)] AA ss ss.heap H locs (wW cA a σ) := G
  rcases tNum_cases t with hk | hk | hk | hk | hk
  · rw [hk]
    refine W.eq (g2 := F0 mm 5 ls [.null]) rfl ?_
    refine lv_astore_nN (lv' := [(3, .null), (0, .ref (a 0)), (1, .int t), (2, .int p)]) hx hb d_W_get_5 rfl hl (by decide) rfl (fun ls hl => ?_)
    refine lv_aload_nN hx hb d_W_get_6 rfl (lv_at hl 0 rfl) ?_
    refine lv_ifnonnullN hx hb d_W_get_7 ?_
    refine lv_iconst (v := (-1)) hx hb d_W_get_10 (by decide) ?_
    refine lv_goto (tgt := 19) hx hb d_W_get_11 (by decide) ?_
    exact g_reti S hr hlk G ⟨by unfold wGet; rw [hk]; rfl, rfl⟩ (Nat.le_refl _) (Nat.le_refl _) d_W_get_19
  · rw [hk]
    refine W.eq (g2 := F0 mm 5 ls [.ref (a 1)]) rfl ?_
    refine lv_astore_n (lv' := [(3, .ref (a 1)), (0, .ref (a 0)), (1, .int t), (2, .int p)]) hx hb d_W_get_5 rfl hl (by decide) rfl (fun ls hl => ?_)
    refine lv_aload_n hx hb d_W_get_6 rfl (lv_at hl 0 rfl) ?_
    refine lv_ifnonnull (tgt := 14) hx hb d_W_get_7 (by decide) ?_
    refine lv_aload_n hx hb d_W_get_14 rfl (lv_at hl 0 rfl) ?_
    refine lv_iload_n hx hb d_W_get_15 rfl (lv_at hl 3 rfl) ?_
    refine g_cVi (rest := []) S G (c_T_at l D cA (a 1) (a 2) 256 (σ 1) 1 p (by decide)) (cwV 1 S.2.2.2.2 ml_W_90 rfl rfl rfl (by decide +kernel) ⟨Nat.le_of_ble_eq_true rfl, Nat.le_of_ble_eq_true rfl⟩) [1, 2] [0, 3, 4, 5, 6, 7, 8, 9, 10, 11, 12, 13] rfl rfl rfl rfl (by decide) 1 rfl rfl rfl hl.1 rfl (Nat.le_of_ble_eq_true rfl) d_W_get_16 ⟨Nat.le_of_ble_eq_true rfl, Nat.le_of_ble_eq_true rfl⟩ (fun rp_2 wp_2 H locs hp_2 G => ?_)
    obtain ⟨rfl, rfl⟩ := hp_2
    have G := G.sub (ws' := wW cA a σ) [0, 12, 13, 1, 2, 3, 4, 5, 6, 7, 8, 9, 10, 11] rfl (ww_T1 cA a _)
    exact g_reti S hr hlk G ⟨by unfold wGet; rw [hk]; rfl, rfl⟩ (Nat.le_refl _) (Nat.le_refl _) d_W_get_19
  · rw [hk]
    refine W.eq (g2 := F0 mm 5 ls [.ref (a 3)]) rfl ?_
    refine lv_astore_n (lv' := [(3, .ref (a 3)), (0, .ref (a 0)), (1, .int t), (2, .int p)]) hx hb d_W_get_5 rfl hl (by decide) rfl (fun ls hl => ?_)
    refine lv_aload_n hx hb d_W_get_6 rfl (lv_at hl 0 rfl) ?_
    refine lv_ifnonnull (tgt := 14) hx hb d_W_get_7 (by decide) ?_
    refine lv_aload_n hx hb d_W_get_14 rfl (lv_at hl 0 rfl) ?_
    refine lv_iload_n hx hb d_W_get_15 rfl (lv_at hl 3 rfl) ?_
    refine g_cVi (rest := []) S G (c_T_at l D cA (a 3) (a 4) 256 (σ 2) 1 p (by decide)) (cwV 1 S.2.2.2.2 ml_W_90 rfl rfl rfl (by decide +kernel) ⟨Nat.le_of_ble_eq_true rfl, Nat.le_of_ble_eq_true rfl⟩) [3, 4] [0, 1, 2, 5, 6, 7, 8, 9, 10, 11, 12, 13] rfl rfl rfl rfl (by decide) 3 rfl rfl rfl hl.1 rfl (Nat.le_of_ble_eq_true rfl) d_W_get_16 ⟨Nat.le_of_ble_eq_true rfl, Nat.le_of_ble_eq_true rfl⟩ (fun rp_3 wp_3 H locs hp_3 G => ?_)
    obtain ⟨rfl, rfl⟩ := hp_3
    have G := G.sub (ws' := wW cA a σ) [0, 1, 2, 12, 13, 3, 4, 5, 6, 7, 8, 9, 10, 11] rfl (ww_T3 cA a _)
    exact g_reti S hr hlk G ⟨by unfold wGet; rw [hk]; rfl, rfl⟩ (Nat.le_refl _) (Nat.le_refl _) d_W_get_19
  · rw [hk]
    refine W.eq (g2 := F0 mm 5 ls [.ref (a 5)]) rfl ?_
    refine lv_astore_n (lv' := [(3, .ref (a 5)), (0, .ref (a 0)), (1, .int t), (2, .int p)]) hx hb d_W_get_5 rfl hl (by decide) rfl (fun ls hl => ?_)
    refine lv_aload_n hx hb d_W_get_6 rfl (lv_at hl 0 rfl) ?_
    refine lv_ifnonnull (tgt := 14) hx hb d_W_get_7 (by decide) ?_
    refine lv_aload_n hx hb d_W_get_14 rfl (lv_at hl 0 rfl) ?_
    refine lv_iload_n hx hb d_W_get_15 rfl (lv_at hl 3 rfl) ?_
    refine g_cVi (rest := []) S G (c_T_at l D cA (a 5) (a 6) 64 (σ 3) 65535 p (by decide)) (cwV 1 S.2.2.2.2 ml_W_90 rfl rfl rfl (by decide +kernel) ⟨Nat.le_of_ble_eq_true rfl, Nat.le_of_ble_eq_true rfl⟩) [5, 6] [0, 1, 2, 3, 4, 7, 8, 9, 10, 11, 12, 13] rfl rfl rfl rfl (by decide) 5 rfl rfl rfl hl.1 rfl (Nat.le_of_ble_eq_true rfl) d_W_get_16 ⟨Nat.le_of_ble_eq_true rfl, Nat.le_of_ble_eq_true rfl⟩ (fun rp_4 wp_4 H locs hp_4 G => ?_)
    obtain ⟨rfl, rfl⟩ := hp_4
    have G := G.sub (ws' := wW cA a σ) [0, 1, 2, 3, 4, 12, 13, 5, 6, 7, 8, 9, 10, 11] rfl (ww_T5 cA a _)
    exact g_reti S hr hlk G ⟨by unfold wGet; rw [hk]; rfl, rfl⟩ (Nat.le_refl _) (Nat.le_refl _) d_W_get_19
  · rw [hk]
    refine W.eq (g2 := F0 mm 5 ls [.ref (a 7)]) rfl ?_
    refine lv_astore_n (lv' := [(3, .ref (a 7)), (0, .ref (a 0)), (1, .int t), (2, .int p)]) hx hb d_W_get_5 rfl hl (by decide) rfl (fun ls hl => ?_)
    refine lv_aload_n hx hb d_W_get_6 rfl (lv_at hl 0 rfl) ?_
    refine lv_ifnonnull (tgt := 14) hx hb d_W_get_7 (by decide) ?_
    refine lv_aload_n hx hb d_W_get_14 rfl (lv_at hl 0 rfl) ?_
    refine lv_iload_n hx hb d_W_get_15 rfl (lv_at hl 3 rfl) ?_
    refine g_cVi (rest := []) S G (c_T_at l D cA (a 7) (a 8) 64 (σ 4) 65535 p (by decide)) (cwV 1 S.2.2.2.2 ml_W_90 rfl rfl rfl (by decide +kernel) ⟨Nat.le_of_ble_eq_true rfl, Nat.le_of_ble_eq_true rfl⟩) [7, 8] [0, 1, 2, 3, 4, 5, 6, 9, 10, 11, 12, 13] rfl rfl rfl rfl (by decide) 7 rfl rfl rfl hl.1 rfl (Nat.le_of_ble_eq_true rfl) d_W_get_16 ⟨Nat.le_of_ble_eq_true rfl, Nat.le_of_ble_eq_true rfl⟩ (fun rp_5 wp_5 H locs hp_5 G => ?_)
    obtain ⟨rfl, rfl⟩ := hp_5
    have G := G.sub (ws' := wW cA a σ) [0, 1, 2, 3, 4, 5, 6, 12, 13, 7, 8, 9, 10, 11] rfl (ww_T7 cA a _)
    exact g_reti S hr hlk G ⟨by unfold wGet; rw [hk]; rfl, rfl⟩ (Nat.le_refl _) (Nat.le_refl _) d_W_get_19

abbrev rm_W_set : Room := { frames := 2, cells := 0, slots := 0, locals := 44 }
set_option maxHeartbeats 4000000 in
set_option maxRecDepth 100000 in
theorem c_W_set (l : Launch) (D : va_G) (cA : ClassId) (a : Nat → Nat) (σ : St) (t p v : Int32)  : Ci l y_W_set w_W_set rm_W_set D vwCl [(cA, .int)] [.ref (a 0), .int t, .int p, .int v] (wW cA a σ) 0 0 (fun r0 w0 => r0 = wSetR σ t p v ∧ w0 = wW cA a (wSet σ t p v)) := by
  refine Ci.of (Ts := lw_g) (own := "WireSlave") (cc := b_W_set) (maxL := 5) (ret := (some .int)) (lv := [(0, .ref (a 0)), (1, .int t), (2, .int p), (3, .int v)]) (by decide) rfl rfl (fun w h => List.mem_cons_of_mem _ h) (Nat.le_of_ble_eq_true rfl) rfl ?_
  intro pp ee ss mm args below meth cx AA S hr hlk G ls hl
  have hx := S.1
  have hb := S.2.1
  refine lv_aload_n hx hb d_W_set_0 rfl (lv_at hl 0 rfl) ?_
  refine lv_iload_n hx hb d_W_set_1 rfl (lv_at hl 1 rfl) ?_
  refine g_cVq (rest := []) S G (c_W_tableNumbered l D cA a σ t) (cwV 1 S.2.2.2.2 ml_W_83 rfl rfl rfl (by decide +kernel) ⟨Nat.le_of_ble_eq_true rfl, Nat.le_of_ble_eq_true rfl⟩) [0, 1, 2, 3, 4, 5, 6, 7, 8, 9, 10, 11, 12, 13] [] rfl rfl rfl rfl (by decide) 0 rfl rfl rfl hl.1 rfl (Nat.le_of_ble_eq_true rfl) d_W_set_2 ⟨Nat.le_of_ble_eq_true rfl, Nat.le_of_ble_eq_true rfl⟩ (fun rp_1 wp_1 H locs hp_1 G => ?_)
  obtain ⟨rfl, rfl⟩ := hp_1
  have G : Gw D vwCl [(cA, .int)] AA ss ss.heap H locs (wW cA a σ) := G
  rcases tNum_cases t with hk | hk | hk | hk | hk
  · rw [hk]
    refine W.eq (g2 := F0 mm 5 ls [.null]) rfl ?_
    refine lv_astoreN (lv' := [(4, .null), (0, .ref (a 0)), (1, .int t), (2, .int p), (3, .int v)]) hx hb d_W_set_5 hl (by decide) rfl (fun ls hl => ?_)
    refine lv_aloadN hx hb d_W_set_7 (lv_at hl 0 rfl) ?_
    refine lv_ifnonnullN hx hb d_W_set_9 ?_
    refine lv_iconst (v := (-1)) hx hb d_W_set_12 (by decide) ?_
    refine lv_goto (tgt := 23) hx hb d_W_set_13 (by decide) ?_
    exact g_reti S hr hlk G ⟨by unfold wSetR; rw [hk]; rfl, by unfold wSet; rw [hk]; rfl⟩ (Nat.le_refl _) (Nat.le_refl _) d_W_set_23
  · rw [hk]
    refine W.eq (g2 := F0 mm 5 ls [.ref (a 1)]) rfl ?_
    refine lv_astore (lv' := [(4, .ref (a 1)), (0, .ref (a 0)), (1, .int t), (2, .int p), (3, .int v)]) hx hb d_W_set_5 hl (by decide) rfl (fun ls hl => ?_)
    refine lv_aload hx hb d_W_set_7 (lv_at hl 0 rfl) ?_
    refine lv_ifnonnull (tgt := 16) hx hb d_W_set_9 (by decide) ?_
    refine lv_aload hx hb d_W_set_16 (lv_at hl 0 rfl) ?_
    refine lv_iload_n hx hb d_W_set_18 rfl (lv_at hl 3 rfl) ?_
    refine lv_iload_n hx hb d_W_set_19 rfl (lv_at hl 4 rfl) ?_
    refine g_cVi (rest := []) S G (c_T_replace l D cA (a 1) (a 2) 256 (σ 1) 1 p v (by decide)) (cwV 2 S.2.2.2.2 ml_W_87 rfl rfl rfl (by decide +kernel) ⟨Nat.le_of_ble_eq_true rfl, Nat.le_of_ble_eq_true rfl⟩) [1, 2] [0, 3, 4, 5, 6, 7, 8, 9, 10, 11, 12, 13] rfl rfl rfl rfl (by decide) 1 rfl rfl rfl hl.1 rfl (Nat.le_of_ble_eq_true rfl) d_W_set_20 ⟨Nat.le_of_ble_eq_true rfl, Nat.le_of_ble_eq_true rfl⟩ (fun rp_2 wp_2 H locs hp_2 G => ?_)
    obtain ⟨rfl, rfl⟩ := hp_2
    have G := G.sub (ws' := wW cA a (sS σ 1 (tRepF 256 (σ 1) 1 p v))) [0, 12, 13, 1, 2, 3, 4, 5, 6, 7, 8, 9, 10, 11] rfl (ww_sT1 cA a _ _)
    exact g_reti S hr hlk G ⟨by unfold wSetR; rw [hk]; rfl, by unfold wSet; rw [hk]; rfl⟩ (Nat.le_refl _) (Nat.le_refl _) d_W_set_23
  · rw [hk]
    refine W.eq (g2 := F0 mm 5 ls [.ref (a 3)]) rfl ?_
    refine lv_astore (lv' := [(4, .ref (a 3)), (0, .ref (a 0)), (1, .int t), (2, .int p), (3, .int v)]) hx hb d_W_set_5 hl (by decide) rfl (fun ls hl => ?_)
    refine lv_aload hx hb d_W_set_7 (lv_at hl 0 rfl) ?_
    refine lv_ifnonnull (tgt := 16) hx hb d_W_set_9 (by decide) ?_
    refine lv_aload hx hb d_W_set_16 (lv_at hl 0 rfl) ?_
    refine lv_iload_n hx hb d_W_set_18 rfl (lv_at hl 3 rfl) ?_
    refine lv_iload_n hx hb d_W_set_19 rfl (lv_at hl 4 rfl) ?_
    refine g_cVi (rest := []) S G (c_T_replace l D cA (a 3) (a 4) 256 (σ 2) 1 p v (by decide)) (cwV 2 S.2.2.2.2 ml_W_87 rfl rfl rfl (by decide +kernel) ⟨Nat.le_of_ble_eq_true rfl, Nat.le_of_ble_eq_true rfl⟩) [3, 4] [0, 1, 2, 5, 6, 7, 8, 9, 10, 11, 12, 13] rfl rfl rfl rfl (by decide) 3 rfl rfl rfl hl.1 rfl (Nat.le_of_ble_eq_true rfl) d_W_set_20 ⟨Nat.le_of_ble_eq_true rfl, Nat.le_of_ble_eq_true rfl⟩ (fun rp_3 wp_3 H locs hp_3 G => ?_)
    obtain ⟨rfl, rfl⟩ := hp_3
    have G := G.sub (ws' := wW cA a (sS σ 2 (tRepF 256 (σ 2) 1 p v))) [0, 1, 2, 12, 13, 3, 4, 5, 6, 7, 8, 9, 10, 11] rfl (ww_sT3 cA a _ _)
    exact g_reti S hr hlk G ⟨by unfold wSetR; rw [hk]; rfl, by unfold wSet; rw [hk]; rfl⟩ (Nat.le_refl _) (Nat.le_refl _) d_W_set_23
  · rw [hk]
    refine W.eq (g2 := F0 mm 5 ls [.ref (a 5)]) rfl ?_
    refine lv_astore (lv' := [(4, .ref (a 5)), (0, .ref (a 0)), (1, .int t), (2, .int p), (3, .int v)]) hx hb d_W_set_5 hl (by decide) rfl (fun ls hl => ?_)
    refine lv_aload hx hb d_W_set_7 (lv_at hl 0 rfl) ?_
    refine lv_ifnonnull (tgt := 16) hx hb d_W_set_9 (by decide) ?_
    refine lv_aload hx hb d_W_set_16 (lv_at hl 0 rfl) ?_
    refine lv_iload_n hx hb d_W_set_18 rfl (lv_at hl 3 rfl) ?_
    refine lv_iload_n hx hb d_W_set_19 rfl (lv_at hl 4 rfl) ?_
    refine g_cVi (rest := []) S G (c_T_replace l D cA (a 5) (a 6) 64 (σ 3) 65535 p v (by decide)) (cwV 2 S.2.2.2.2 ml_W_87 rfl rfl rfl (by decide +kernel) ⟨Nat.le_of_ble_eq_true rfl, Nat.le_of_ble_eq_true rfl⟩) [5, 6] [0, 1, 2, 3, 4, 7, 8, 9, 10, 11, 12, 13] rfl rfl rfl rfl (by decide) 5 rfl rfl rfl hl.1 rfl (Nat.le_of_ble_eq_true rfl) d_W_set_20 ⟨Nat.le_of_ble_eq_true rfl, Nat.le_of_ble_eq_true rfl⟩ (fun rp_4 wp_4 H locs hp_4 G => ?_)
    obtain ⟨rfl, rfl⟩ := hp_4
    have G := G.sub (ws' := wW cA a (sS σ 3 (tRepF 64 (σ 3) 65535 p v))) [0, 1, 2, 3, 4, 12, 13, 5, 6, 7, 8, 9, 10, 11] rfl (ww_sT5 cA a _ _)
    exact g_reti S hr hlk G ⟨by unfold wSetR; rw [hk]; rfl, by unfold wSet; rw [hk]; rfl⟩ (Nat.le_refl _) (Nat.le_refl _) d_W_set_23
  · rw [hk]
    refine W.eq (g2 := F0 mm 5 ls [.ref (a 7)]) rfl ?_
    refine lv_astore (lv' := [(4, .ref (a 7)), (0, .ref (a 0)), (1, .int t), (2, .int p), (3, .int v)]) hx hb d_W_set_5 hl (by decide) rfl (fun ls hl => ?_)
    refine lv_aload hx hb d_W_set_7 (lv_at hl 0 rfl) ?_
    refine lv_ifnonnull (tgt := 16) hx hb d_W_set_9 (by decide) ?_
    refine lv_aload hx hb d_W_set_16 (lv_at hl 0 rfl) ?_
    refine lv_iload_n hx hb d_W_set_18 rfl (lv_at hl 3 rfl) ?_
    refine lv_iload_n hx hb d_W_set_19 rfl (lv_at hl 4 rfl) ?_
    refine g_cVi (rest := []) S G (c_T_replace l D cA (a 7) (a 8) 64 (σ 4) 65535 p v (by decide)) (cwV 2 S.2.2.2.2 ml_W_87 rfl rfl rfl (by decide +kernel) ⟨Nat.le_of_ble_eq_true rfl, Nat.le_of_ble_eq_true rfl⟩) [7, 8] [0, 1, 2, 3, 4, 5, 6, 9, 10, 11, 12, 13] rfl rfl rfl rfl (by decide) 7 rfl rfl rfl hl.1 rfl (Nat.le_of_ble_eq_true rfl) d_W_set_20 ⟨Nat.le_of_ble_eq_true rfl, Nat.le_of_ble_eq_true rfl⟩ (fun rp_5 wp_5 H locs hp_5 G => ?_)
    obtain ⟨rfl, rfl⟩ := hp_5
    have G := G.sub (ws' := wW cA a (sS σ 4 (tRepF 64 (σ 4) 65535 p v))) [0, 1, 2, 3, 4, 5, 6, 12, 13, 7, 8, 9, 10, 11] rfl (ww_sT7 cA a _ _)
    exact g_reti S hr hlk G ⟨by unfold wSetR; rw [hk]; rfl, by unfold wSet; rw [hk]; rfl⟩ (Nat.le_refl _) (Nat.le_refl _) d_W_set_23
end
section
abbrev rm_W_isThrownAway : Room := { frames := 3, cells := 0, slots := 0, locals := 68 }
set_option maxHeartbeats 4000000 in
set_option maxRecDepth 100000 in
theorem c_W_isThrownAway (l : Launch) (D : va_G) (cA : ClassId) (a : Nat → Nat) (σ : St)  : Ci l y_W_isThrownAway w_W_isThrownAway rm_W_isThrownAway D vwCl [(cA, .int)] [.ref (a 0)] (wW cA a σ) 0 0 (fun r0 w0 => r0 = wThr σ ∧ w0 = wW cA a σ) := by
  refine Ci.of (Ts := lw_g) (own := "WireSlave") (cc := b_W_isThrownAway) (maxL := 1) (ret := (some .boolean)) (lv := [(0, .ref (a 0))]) (by decide) rfl rfl (fun w h => List.mem_cons_of_mem _ h) (Nat.le_of_ble_eq_true rfl) rfl ?_
  intro pp ee ss mm args below meth cx AA S hr hlk G ls hl
  have hx := S.1
  have hb := S.2.1
  refine lv_aload_n hx hb d_W_isThrownAway_0 rfl (lv_at hl 0 rfl) ?_
  refine g_get S G in_W 0 rfl rfl 9 (by decide) fl_W_60 rfl d_W_isThrownAway_1 ?_
  refine lv_if_ne (tgt := 34) hx hb d_W_isThrownAway_4 (by decide) (fun c_1 => ?_) (fun c_1 => ?_)
  · refine lv_iconst (v := 1) hx hb d_W_isThrownAway_34 (by decide) ?_
    refine lv_goto (tgt := 39) hx hb d_W_isThrownAway_35 (by decide) ?_
    exact g_retz S hr hlk rfl G ⟨by first | rfl | (simp only [wThr, eq_false c_1, ↓reduceIte]; done) | (simp only [wThr, eq_false c_1, ↓reduceIte]; rfl), by first | rfl | (simp only [wThr, eq_false c_1, ↓reduceIte]; done) | (simp only [wThr, eq_false c_1, ↓reduceIte]; rfl)⟩ (Nat.le_refl _) (Nat.le_refl _) d_W_isThrownAway_39
  · refine lv_aload_n hx hb d_W_isThrownAway_7 rfl (lv_at hl 0 rfl) ?_
    refine g_get S G in_W 0 rfl rfl 5 (by decide) fl_W_46 rfl d_W_isThrownAway_8 ?_
    refine g_cVi (rest := []) S G (c_B_size l D cA (a 9) (a 10) 257 (σ 5) (σ 0 3)) (cwV 0 S.2.2.2.2 ml_W_68 rfl rfl rfl (by decide +kernel) ⟨Nat.le_of_ble_eq_true rfl, Nat.le_of_ble_eq_true rfl⟩) [9, 10] [0, 1, 2, 3, 4, 5, 6, 7, 8, 11, 12, 13] rfl rfl rfl rfl (by decide) 9 rfl rfl rfl hl.1 rfl (Nat.le_of_ble_eq_true rfl) d_W_isThrownAway_11 ⟨Nat.le_of_ble_eq_true rfl, Nat.le_of_ble_eq_true rfl⟩ (fun rp_2 wp_2 H locs hp_2 G => ?_)
    obtain ⟨rfl, rfl⟩ := hp_2
    have G := G.sub (ws' := wW cA a σ) [0, 1, 2, 3, 4, 5, 6, 7, 8, 12, 13, 9, 10, 11] rfl (ww_B9 cA a _)
    refine lv_iconst (v := 4) hx hb d_W_isThrownAway_14 (by decide) ?_
    refine lv_sipush (v := 256) hx hb d_W_isThrownAway_15 (by decide) ?_
    refine g_cSi (rest := []) S G (c_W_isFromTo l D cA (σ 0 3) 4 256) (va_cwS 3 S.2.2.2.2 ml_W_114 rfl rfl rfl (by decide +kernel) ⟨Nat.le_of_ble_eq_true rfl, Nat.le_of_ble_eq_true rfl⟩) [] [0, 1, 2, 3, 4, 5, 6, 7, 8, 9, 10, 11, 12, 13] rfl rfl rfl rfl (by decide) rfl hl.1 rfl (Nat.le_of_ble_eq_true rfl) d_W_isThrownAway_18 ⟨Nat.le_of_ble_eq_true rfl, Nat.le_of_ble_eq_true rfl⟩ (fun rp_3 wp_3 H locs hp_3 G => ?_)
    obtain ⟨rfl, rfl⟩ := hp_3
    have G := G.sub (ws' := wW cA a σ) [0, 1, 2, 3, 4, 5, 6, 7, 8, 9, 10, 11, 12, 13] rfl (ww_id cA a _)
    refine lv_if_eq (tgt := 34) hx hb d_W_isThrownAway_21 (by decide) (fun c_4 => ?_) (fun c_4 => ?_)
    · refine lv_iconst (v := 1) hx hb d_W_isThrownAway_34 (by decide) ?_
      refine lv_goto (tgt := 39) hx hb d_W_isThrownAway_35 (by decide) ?_
      exact g_retz S hr hlk rfl G ⟨by first | rfl | (simp only [wThr, eq_true c_1, eq_true c_4, ↓reduceIte]; done) | (simp only [wThr, eq_true c_1, eq_true c_4, ↓reduceIte]; rfl), by first | rfl | (simp only [wThr, eq_true c_1, eq_true c_4, ↓reduceIte]; done) | (simp only [wThr, eq_true c_1, eq_true c_4, ↓reduceIte]; rfl)⟩ (Nat.le_refl _) (Nat.le_refl _) d_W_isThrownAway_39
    · refine lv_aload_n hx hb d_W_isThrownAway_24 rfl (lv_at hl 0 rfl) ?_
      refine g_get S G in_W 0 rfl rfl 5 (by decide) fl_W_46 rfl d_W_isThrownAway_25 ?_
      refine g_cVi (rest := []) S G (c_B_endsWithItsSum l D cA (a 9) (a 10) 257 (σ 5) (σ 0 3) (by decide)) (cwV 0 S.2.2.2.2 ml_W_118 rfl rfl rfl (by decide +kernel) ⟨Nat.le_of_ble_eq_true rfl, Nat.le_of_ble_eq_true rfl⟩) [9, 10] [0, 1, 2, 3, 4, 5, 6, 7, 8, 11, 12, 13] rfl rfl rfl rfl (by decide) 9 rfl rfl rfl hl.1 rfl (Nat.le_of_ble_eq_true rfl) d_W_isThrownAway_28 ⟨Nat.le_of_ble_eq_true rfl, Nat.le_of_ble_eq_true rfl⟩ (fun rp_5 wp_5 H locs hp_5 G => ?_)
      obtain ⟨rfl, rfl⟩ := hp_5
      have G := G.sub (ws' := wW cA a σ) [0, 1, 2, 3, 4, 5, 6, 7, 8, 12, 13, 9, 10, 11] rfl (ww_B9 cA a _)
      refine lv_if_ne (tgt := 38) hx hb d_W_isThrownAway_31 (by decide) (fun c_6 => ?_) (fun c_6 => ?_)
      · refine lv_iconst (v := 0) hx hb d_W_isThrownAway_38 (by decide) ?_
        exact g_retz S hr hlk rfl G ⟨by first | rfl | (simp only [wThr, eq_true c_1, eq_false c_4, eq_false c_6, ↓reduceIte]; done) | (simp only [wThr, eq_true c_1, eq_false c_4, eq_false c_6, ↓reduceIte]; rfl), by first | rfl | (simp only [wThr, eq_true c_1, eq_false c_4, eq_false c_6, ↓reduceIte]; done) | (simp only [wThr, eq_true c_1, eq_false c_4, eq_false c_6, ↓reduceIte]; rfl)⟩ (Nat.le_refl _) (Nat.le_refl _) d_W_isThrownAway_39
      · refine lv_iconst (v := 1) hx hb d_W_isThrownAway_34 (by decide) ?_
        refine lv_goto (tgt := 39) hx hb d_W_isThrownAway_35 (by decide) ?_
        exact g_retz S hr hlk rfl G ⟨by first | rfl | (simp only [wThr, eq_true c_1, eq_false c_4, eq_true c_6, ↓reduceIte]; done) | (simp only [wThr, eq_true c_1, eq_false c_4, eq_true c_6, ↓reduceIte]; rfl), by first | rfl | (simp only [wThr, eq_true c_1, eq_false c_4, eq_true c_6, ↓reduceIte]; done) | (simp only [wThr, eq_true c_1, eq_false c_4, eq_true c_6, ↓reduceIte]; rfl)⟩ (Nat.le_refl _) (Nat.le_refl _) d_W_isThrownAway_39

abbrev rm_W_isForOthers : Room := { frames := 1, cells := 0, slots := 0, locals := 21 }
set_option maxHeartbeats 4000000 in
set_option maxRecDepth 100000 in
theorem c_W_isForOthers (l : Launch) (D : va_G) (cA : ClassId) (a : Nat → Nat) (σ : St)  : Ci l y_W_isForOthers w_W_isForOthers rm_W_isForOthers D vwCl [(cA, .int)] [.ref (a 0)] (wW cA a σ) 0 0 (fun r0 w0 => r0 = wOth σ ∧ w0 = wW cA a σ) := by
  refine Ci.of (Ts := lw_g) (own := "WireSlave") (cc := b_W_isForOthers) (maxL := 2) (ret := (some .boolean)) (lv := [(0, .ref (a 0))]) (by decide) rfl rfl (fun w h => List.mem_cons_of_mem _ h) (Nat.le_of_ble_eq_true rfl) rfl ?_
  intro pp ee ss mm args below meth cx AA S hr hlk G ls hl
  have hx := S.1
  have hb := S.2.1
  refine lv_aload_n hx hb d_W_isForOthers_0 rfl (lv_at hl 0 rfl) ?_
  refine g_get S G in_W 0 rfl rfl 5 (by decide) fl_W_46 rfl d_W_isForOthers_1 ?_
  refine lv_iconst (v := 0) hx hb d_W_isForOthers_4 (by decide) ?_
  refine g_cVi (rest := []) S G (c_B_at l D cA (a 9) (a 10) 257 (σ 5) (σ 0 3) 0 (by decide)) (cwV 1 S.2.2.2.2 ml_W_79 rfl rfl rfl (by decide +kernel) ⟨Nat.le_of_ble_eq_true rfl, Nat.le_of_ble_eq_true rfl⟩) [9, 10] [0, 1, 2, 3, 4, 5, 6, 7, 8, 11, 12, 13] rfl rfl rfl rfl (by decide) 9 rfl rfl rfl hl.1 rfl (Nat.le_of_ble_eq_true rfl) d_W_isForOthers_5 ⟨Nat.le_of_ble_eq_true rfl, Nat.le_of_ble_eq_true rfl⟩ (fun rp_1 wp_1 H locs hp_1 G => ?_)
  obtain ⟨rfl, rfl⟩ := hp_1
  have G := G.sub (ws' := wW cA a σ) [0, 1, 2, 3, 4, 5, 6, 7, 8, 12, 13, 9, 10, 11] rfl (ww_B9 cA a _)
  refine lv_istore_n (lv' := [(1, .int (bAt 257 (σ 5) (σ 0 3) 0)), (0, .ref (a 0))]) hx hb d_W_isForOthers_8 rfl hl (by decide) rfl (fun ls hl => ?_)
  refine lv_iload_n hx hb d_W_isForOthers_9 rfl (lv_at hl 0 rfl) ?_
  refine lv_if_eq (tgt := 25) hx hb d_W_isForOthers_10 (by decide) (fun c_2 => ?_) (fun c_2 => ?_)
  · refine lv_iconst (v := 0) hx hb d_W_isForOthers_25 (by decide) ?_
    exact g_retz S hr hlk rfl G ⟨by first | rfl | (simp only [wOth, fAt, eq_true c_2, ↓reduceIte]; done) | (simp only [wOth, fAt, eq_true c_2, ↓reduceIte]; rfl), by first | rfl | (simp only [wOth, fAt, eq_true c_2, ↓reduceIte]; done) | (simp only [wOth, fAt, eq_true c_2, ↓reduceIte]; rfl)⟩ (Nat.le_refl _) (Nat.le_refl _) d_W_isForOthers_26
  · refine lv_iload_n hx hb d_W_isForOthers_13 rfl (lv_at hl 0 rfl) ?_
    refine lv_aload_n hx hb d_W_isForOthers_14 rfl (lv_at hl 1 rfl) ?_
    refine g_get S G in_W 0 rfl rfl 0 (by decide) fl_W_18 rfl d_W_isForOthers_15 ?_
    refine lv_icmp_eq (tgt := 25) hx hb d_W_isForOthers_18 (by decide) (fun c_3 => ?_) (fun c_3 => ?_)
    · refine lv_iconst (v := 0) hx hb d_W_isForOthers_25 (by decide) ?_
      exact g_retz S hr hlk rfl G ⟨by first | rfl | (simp only [wOth, fAt, eq_false c_2, eq_true c_3, ↓reduceIte]; done) | (simp only [wOth, fAt, eq_false c_2, eq_true c_3, ↓reduceIte]; rfl), by first | rfl | (simp only [wOth, fAt, eq_false c_2, eq_true c_3, ↓reduceIte]; done) | (simp only [wOth, fAt, eq_false c_2, eq_true c_3, ↓reduceIte]; rfl)⟩ (Nat.le_refl _) (Nat.le_refl _) d_W_isForOthers_26
    · refine lv_iconst (v := 1) hx hb d_W_isForOthers_21 (by decide) ?_
      refine lv_goto (tgt := 26) hx hb d_W_isForOthers_22 (by decide) ?_
      exact g_retz S hr hlk rfl G ⟨by first | rfl | (simp only [wOth, fAt, eq_false c_2, eq_false c_3, ↓reduceIte]; done) | (simp only [wOth, fAt, eq_false c_2, eq_false c_3, ↓reduceIte]; rfl), by first | rfl | (simp only [wOth, fAt, eq_false c_2, eq_false c_3, ↓reduceIte]; done) | (simp only [wOth, fAt, eq_false c_2, eq_false c_3, ↓reduceIte]; rfl)⟩ (Nat.le_refl _) (Nat.le_refl _) d_W_isForOthers_26

abbrev rm_W_dataSize : Room := { frames := 1, cells := 0, slots := 0, locals := 20 }
set_option maxHeartbeats 4000000 in
set_option maxRecDepth 100000 in
theorem c_W_dataSize (l : Launch) (D : va_G) (cA : ClassId) (a : Nat → Nat) (σ : St)  : Ci l y_W_dataSize w_W_dataSize rm_W_dataSize D vwCl [(cA, .int)] [.ref (a 0)] (wW cA a σ) 0 0 (fun r0 w0 => r0 = dSz σ ∧ w0 = wW cA a σ) := by
  refine Ci.of (Ts := lw_g) (own := "WireSlave") (cc := b_W_dataSize) (maxL := 1) (ret := (some .int)) (lv := [(0, .ref (a 0))]) (by decide) rfl rfl (fun w h => List.mem_cons_of_mem _ h) (Nat.le_of_ble_eq_true rfl) rfl ?_
  intro pp ee ss mm args below meth cx AA S hr hlk G ls hl
  have hx := S.1
  have hb := S.2.1
  refine lv_aload_n hx hb d_W_dataSize_0 rfl (lv_at hl 0 rfl) ?_
  refine g_get S G in_W 0 rfl rfl 5 (by decide) fl_W_46 rfl d_W_dataSize_1 ?_
  refine g_cVi (rest := []) S G (c_B_size l D cA (a 9) (a 10) 257 (σ 5) (σ 0 3)) (cwV 0 S.2.2.2.2 ml_W_68 rfl rfl rfl (by decide +kernel) ⟨Nat.le_of_ble_eq_true rfl, Nat.le_of_ble_eq_true rfl⟩) [9, 10] [0, 1, 2, 3, 4, 5, 6, 7, 8, 11, 12, 13] rfl rfl rfl rfl (by decide) 9 rfl rfl rfl hl.1 rfl (Nat.le_of_ble_eq_true rfl) d_W_dataSize_4 ⟨Nat.le_of_ble_eq_true rfl, Nat.le_of_ble_eq_true rfl⟩ (fun rp_1 wp_1 H locs hp_1 G => ?_)
  obtain ⟨rfl, rfl⟩ := hp_1
  have G := G.sub (ws' := wW cA a σ) [0, 1, 2, 3, 4, 5, 6, 7, 8, 12, 13, 9, 10, 11] rfl (ww_B9 cA a _)
  refine lv_iconst (v := 4) hx hb d_W_dataSize_7 (by decide) ?_
  refine lv_isub hx hb d_W_dataSize_8 ?_
  exact g_reti S hr hlk G ⟨by first | rfl | (simp only [↓reduceIte]; done) | (simp only [↓reduceIte]; rfl), by first | rfl | (simp only [↓reduceIte]; done) | (simp only [↓reduceIte]; rfl)⟩ (Nat.le_refl _) (Nat.le_refl _) d_W_dataSize_9

abbrev rm_W_data : Room := { frames := 1, cells := 0, slots := 0, locals := 21 }
set_option maxHeartbeats 4000000 in
set_option maxRecDepth 100000 in
theorem c_W_data (l : Launch) (D : va_G) (cA : ClassId) (a : Nat → Nat) (σ : St) (i : Int32)  : Ci l y_W_data w_W_data rm_W_data D vwCl [(cA, .int)] [.ref (a 0), .int i] (wW cA a σ) 0 0 (fun r0 w0 => r0 = dAt σ i ∧ w0 = wW cA a σ) := by
  refine Ci.of (Ts := lw_g) (own := "WireSlave") (cc := b_W_data) (maxL := 2) (ret := (some .int)) (lv := [(0, .ref (a 0)), (1, .int i)]) (by decide) rfl rfl (fun w h => List.mem_cons_of_mem _ h) (Nat.le_of_ble_eq_true rfl) rfl ?_
  intro pp ee ss mm args below meth cx AA S hr hlk G ls hl
  have hx := S.1
  have hb := S.2.1
  refine lv_aload_n hx hb d_W_data_0 rfl (lv_at hl 0 rfl) ?_
  refine g_get S G in_W 0 rfl rfl 5 (by decide) fl_W_46 rfl d_W_data_1 ?_
  refine lv_iconst (v := 2) hx hb d_W_data_4 (by decide) ?_
  refine lv_iload_n hx hb d_W_data_5 rfl (lv_at hl 1 rfl) ?_
  refine lv_iadd hx hb d_W_data_6 ?_
  refine g_cVi (rest := []) S G (c_B_at l D cA (a 9) (a 10) 257 (σ 5) (σ 0 3) (2 + i) (by decide)) (cwV 1 S.2.2.2.2 ml_W_79 rfl rfl rfl (by decide +kernel) ⟨Nat.le_of_ble_eq_true rfl, Nat.le_of_ble_eq_true rfl⟩) [9, 10] [0, 1, 2, 3, 4, 5, 6, 7, 8, 11, 12, 13] rfl rfl rfl rfl (by decide) 9 rfl rfl rfl hl.1 rfl (Nat.le_of_ble_eq_true rfl) d_W_data_7 ⟨Nat.le_of_ble_eq_true rfl, Nat.le_of_ble_eq_true rfl⟩ (fun rp_1 wp_1 H locs hp_1 G => ?_)
  obtain ⟨rfl, rfl⟩ := hp_1
  have G := G.sub (ws' := wW cA a σ) [0, 1, 2, 3, 4, 5, 6, 7, 8, 12, 13, 9, 10, 11] rfl (ww_B9 cA a _)
  exact g_reti S hr hlk G ⟨by first | rfl | (simp only [↓reduceIte]; done) | (simp only [↓reduceIte]; rfl), by first | rfl | (simp only [↓reduceIte]; done) | (simp only [↓reduceIte]; rfl)⟩ (Nat.le_refl _) (Nat.le_refl _) d_W_data_10

abbrev rm_W_dataNumber : Room := { frames := 2, cells := 0, slots := 0, locals := 42 }
set_option maxHeartbeats 4000000 in
set_option maxRecDepth 100000 in
theorem c_W_dataNumber (l : Launch) (D : va_G) (cA : ClassId) (a : Nat → Nat) (σ : St) (i : Int32)  : Ci l y_W_dataNumber w_W_dataNumber rm_W_dataNumber D vwCl [(cA, .int)] [.ref (a 0), .int i] (wW cA a σ) 0 0 (fun r0 w0 => r0 = dNum σ i ∧ w0 = wW cA a σ) := by
  refine Ci.of (Ts := lw_g) (own := "WireSlave") (cc := b_W_dataNumber) (maxL := 2) (ret := (some .int)) (lv := [(0, .ref (a 0)), (1, .int i)]) (by decide) rfl rfl (fun w h => List.mem_cons_of_mem _ h) (Nat.le_of_ble_eq_true rfl) rfl ?_
  intro pp ee ss mm args below meth cx AA S hr hlk G ls hl
  have hx := S.1
  have hb := S.2.1
  refine lv_aload_n hx hb d_W_dataNumber_0 rfl (lv_at hl 0 rfl) ?_
  refine lv_iload_n hx hb d_W_dataNumber_1 rfl (lv_at hl 1 rfl) ?_
  refine g_cVi (rest := []) S G (c_W_data l D cA a σ i) (cwV 1 S.2.2.2.2 ml_W_121 rfl rfl rfl (by decide +kernel) ⟨Nat.le_of_ble_eq_true rfl, Nat.le_of_ble_eq_true rfl⟩) [0, 1, 2, 3, 4, 5, 6, 7, 8, 9, 10, 11, 12, 13] [] rfl rfl rfl rfl (by decide) 0 rfl rfl rfl hl.1 rfl (Nat.le_of_ble_eq_true rfl) d_W_dataNumber_2 ⟨Nat.le_of_ble_eq_true rfl, Nat.le_of_ble_eq_true rfl⟩ (fun rp_1 wp_1 H locs hp_1 G => ?_)
  obtain ⟨rfl, rfl⟩ := hp_1
  have G : Gw D vwCl [(cA, .int)] AA ss ss.heap H locs (wW cA a σ) := G
  refine lv_sipush (v := 256) hx hb d_W_dataNumber_5 (by decide) ?_
  refine lv_imul hx hb d_W_dataNumber_8 ?_
  refine lv_aload_n hx hb d_W_dataNumber_9 rfl (lv_at hl 0 rfl) ?_
  refine lv_iload_n hx hb d_W_dataNumber_10 rfl (lv_at hl 1 rfl) ?_
  refine lv_iconst (v := 1) hx hb d_W_dataNumber_11 (by decide) ?_
  refine lv_iadd hx hb d_W_dataNumber_12 ?_
  refine g_cVi (rest := [.int ((dAt σ i) * 256)]) S G (c_W_data l D cA a σ (i + 1)) (cwV 1 S.2.2.2.2 ml_W_121 rfl rfl rfl (by decide +kernel) ⟨Nat.le_of_ble_eq_true rfl, Nat.le_of_ble_eq_true rfl⟩) [0, 1, 2, 3, 4, 5, 6, 7, 8, 9, 10, 11, 12, 13] [] rfl rfl rfl rfl (by decide) 0 rfl rfl rfl hl.1 rfl (Nat.le_of_ble_eq_true rfl) d_W_dataNumber_13 ⟨Nat.le_of_ble_eq_true rfl, Nat.le_of_ble_eq_true rfl⟩ (fun rp_2 wp_2 H locs hp_2 G => ?_)
  obtain ⟨rfl, rfl⟩ := hp_2
  have G : Gw D vwCl [(cA, .int)] AA ss ss.heap H locs (wW cA a σ) := G
  refine lv_iadd hx hb d_W_dataNumber_16 ?_
  exact g_reti S hr hlk G ⟨by first | rfl | (simp only [↓reduceIte]; done) | (simp only [↓reduceIte]; rfl), by first | rfl | (simp only [↓reduceIte]; done) | (simp only [↓reduceIte]; rfl)⟩ (Nat.le_refl _) (Nat.le_refl _) d_W_dataNumber_17

abbrev rm_W_isDueSize : Room := { frames := 2, cells := 0, slots := 0, locals := 42 }
set_option maxHeartbeats 4000000 in
set_option maxRecDepth 100000 in
theorem c_W_isDueSize (l : Launch) (D : va_G) (cA : ClassId) (a : Nat → Nat) (σ : St) (f : Int32)  : Ci l y_W_isDueSize w_W_isDueSize rm_W_isDueSize D vwCl [(cA, .int)] [.ref (a 0), .int f] (wW cA a σ) 0 0 (fun r0 w0 => r0 = dueS σ f ∧ w0 = wW cA a σ) := by
  refine Ci.of (Ts := lw_g) (own := "WireSlave") (cc := b_W_isDueSize) (maxL := 2) (ret := (some .boolean)) (lv := [(0, .ref (a 0)), (1, .int f)]) (by decide) rfl rfl (fun w h => List.mem_cons_of_mem _ h) (Nat.le_of_ble_eq_true rfl) rfl ?_
  intro pp ee ss mm args below meth cx AA S hr hlk G ls hl
  have hx := S.1
  have hb := S.2.1
  refine lv_iload_n hx hb d_W_isDueSize_0 rfl (lv_at hl 1 rfl) ?_
  refine lv_bipush (v := 15) hx hb d_W_isDueSize_1 (by decide) ?_
  refine lv_icmp_eq (tgt := 12) hx hb d_W_isDueSize_3 (by decide) (fun c_1 => ?_) (fun c_1 => ?_)
  · refine lv_aload_n hx hb d_W_isDueSize_12 rfl (lv_at hl 0 rfl) ?_
    refine g_cVi (rest := []) S G (c_W_dataSize l D cA a σ) (cwV 0 S.2.2.2.2 ml_W_155 rfl rfl rfl (by decide +kernel) ⟨Nat.le_of_ble_eq_true rfl, Nat.le_of_ble_eq_true rfl⟩) [0, 1, 2, 3, 4, 5, 6, 7, 8, 9, 10, 11, 12, 13] [] rfl rfl rfl rfl (by decide) 0 rfl rfl rfl hl.1 rfl (Nat.le_of_ble_eq_true rfl) d_W_isDueSize_13 ⟨Nat.le_of_ble_eq_true rfl, Nat.le_of_ble_eq_true rfl⟩ (fun rp_2 wp_2 H locs hp_2 G => ?_)
    obtain ⟨rfl, rfl⟩ := hp_2
    have G : Gw D vwCl [(cA, .int)] AA ss ss.heap H locs (wW cA a σ) := G
    refine lv_bipush (v := 6) hx hb d_W_isDueSize_16 (by decide) ?_
    refine lv_icmp_lt (tgt := 39) hx hb d_W_isDueSize_18 (by decide) (fun c_3 => ?_) (fun c_3 => ?_)
    · refine lv_iconst (v := 0) hx hb d_W_isDueSize_39 (by decide) ?_
      exact g_retz S hr hlk rfl G ⟨by first | rfl | (simp only [dueS, eq_true c_1, eq_true c_3, ↓reduceIte]; done) | (simp only [dueS, eq_true c_1, eq_true c_3, ↓reduceIte]; rfl), by first | rfl | (simp only [dueS, eq_true c_1, eq_true c_3, ↓reduceIte]; done) | (simp only [dueS, eq_true c_1, eq_true c_3, ↓reduceIte]; rfl)⟩ (Nat.le_refl _) (Nat.le_refl _) d_W_isDueSize_40
    · refine lv_aload_n hx hb d_W_isDueSize_21 rfl (lv_at hl 0 rfl) ?_
      refine g_cVi (rest := []) S G (c_W_dataSize l D cA a σ) (cwV 0 S.2.2.2.2 ml_W_155 rfl rfl rfl (by decide +kernel) ⟨Nat.le_of_ble_eq_true rfl, Nat.le_of_ble_eq_true rfl⟩) [0, 1, 2, 3, 4, 5, 6, 7, 8, 9, 10, 11, 12, 13] [] rfl rfl rfl rfl (by decide) 0 rfl rfl rfl hl.1 rfl (Nat.le_of_ble_eq_true rfl) d_W_isDueSize_22 ⟨Nat.le_of_ble_eq_true rfl, Nat.le_of_ble_eq_true rfl⟩ (fun rp_4 wp_4 H locs hp_4 G => ?_)
      obtain ⟨rfl, rfl⟩ := hp_4
      have G : Gw D vwCl [(cA, .int)] AA ss ss.heap H locs (wW cA a σ) := G
      refine lv_iconst (v := 5) hx hb d_W_isDueSize_25 (by decide) ?_
      refine lv_aload_n hx hb d_W_isDueSize_26 rfl (lv_at hl 0 rfl) ?_
      refine lv_iconst (v := 4) hx hb d_W_isDueSize_27 (by decide) ?_
      refine g_cVi (rest := [.int 5, .int (dSz σ)]) S G (c_W_data l D cA a σ 4) (cwV 1 S.2.2.2.2 ml_W_121 rfl rfl rfl (by decide +kernel) ⟨Nat.le_of_ble_eq_true rfl, Nat.le_of_ble_eq_true rfl⟩) [0, 1, 2, 3, 4, 5, 6, 7, 8, 9, 10, 11, 12, 13] [] rfl rfl rfl rfl (by decide) 0 rfl rfl rfl hl.1 rfl (Nat.le_of_ble_eq_true rfl) d_W_isDueSize_28 ⟨Nat.le_of_ble_eq_true rfl, Nat.le_of_ble_eq_true rfl⟩ (fun rp_5 wp_5 H locs hp_5 G => ?_)
      obtain ⟨rfl, rfl⟩ := hp_5
      have G : Gw D vwCl [(cA, .int)] AA ss ss.heap H locs (wW cA a σ) := G
      refine lv_iadd hx hb d_W_isDueSize_31 ?_
      refine lv_icmp_ne (tgt := 39) hx hb d_W_isDueSize_32 (by decide) (fun c_6 => ?_) (fun c_6 => ?_)
      · refine lv_iconst (v := 0) hx hb d_W_isDueSize_39 (by decide) ?_
        exact g_retz S hr hlk rfl G ⟨by first | rfl | (simp only [dueS, eq_true c_1, eq_false c_3, eq_false c_6, ↓reduceIte]; done) | (simp only [dueS, eq_true c_1, eq_false c_3, eq_false c_6, ↓reduceIte]; rfl), by first | rfl | (simp only [dueS, eq_true c_1, eq_false c_3, eq_false c_6, ↓reduceIte]; done) | (simp only [dueS, eq_true c_1, eq_false c_3, eq_false c_6, ↓reduceIte]; rfl)⟩ (Nat.le_refl _) (Nat.le_refl _) d_W_isDueSize_40
      · refine lv_iconst (v := 1) hx hb d_W_isDueSize_35 (by decide) ?_
        refine lv_goto (tgt := 40) hx hb d_W_isDueSize_36 (by decide) ?_
        exact g_retz S hr hlk rfl G ⟨by first | rfl | (simp only [dueS, eq_true c_1, eq_false c_3, eq_true c_6, ↓reduceIte]; done) | (simp only [dueS, eq_true c_1, eq_false c_3, eq_true c_6, ↓reduceIte]; rfl), by first | rfl | (simp only [dueS, eq_true c_1, eq_false c_3, eq_true c_6, ↓reduceIte]; done) | (simp only [dueS, eq_true c_1, eq_false c_3, eq_true c_6, ↓reduceIte]; rfl)⟩ (Nat.le_refl _) (Nat.le_refl _) d_W_isDueSize_40
  · refine lv_iload_n hx hb d_W_isDueSize_6 rfl (lv_at hl 1 rfl) ?_
    refine lv_bipush (v := 16) hx hb d_W_isDueSize_7 (by decide) ?_
    refine lv_icmp_ne (tgt := 41) hx hb d_W_isDueSize_9 (by decide) (fun c_7 => ?_) (fun c_7 => ?_)
    · refine lv_aload_n hx hb d_W_isDueSize_41 rfl (lv_at hl 0 rfl) ?_
      refine g_cVi (rest := []) S G (c_W_dataSize l D cA a σ) (cwV 0 S.2.2.2.2 ml_W_155 rfl rfl rfl (by decide +kernel) ⟨Nat.le_of_ble_eq_true rfl, Nat.le_of_ble_eq_true rfl⟩) [0, 1, 2, 3, 4, 5, 6, 7, 8, 9, 10, 11, 12, 13] [] rfl rfl rfl rfl (by decide) 0 rfl rfl rfl hl.1 rfl (Nat.le_of_ble_eq_true rfl) d_W_isDueSize_42 ⟨Nat.le_of_ble_eq_true rfl, Nat.le_of_ble_eq_true rfl⟩ (fun rp_8 wp_8 H locs hp_8 G => ?_)
      obtain ⟨rfl, rfl⟩ := hp_8
      have G : Gw D vwCl [(cA, .int)] AA ss ss.heap H locs (wW cA a σ) := G
      refine lv_iconst (v := 4) hx hb d_W_isDueSize_45 (by decide) ?_
      refine lv_icmp_ne (tgt := 53) hx hb d_W_isDueSize_46 (by decide) (fun c_9 => ?_) (fun c_9 => ?_)
      · refine lv_iconst (v := 0) hx hb d_W_isDueSize_53 (by decide) ?_
        exact g_retz S hr hlk rfl G ⟨by first | rfl | (simp only [dueS, eq_false c_1, eq_false c_7, eq_false c_9, ↓reduceIte]; done) | (simp only [dueS, eq_false c_1, eq_false c_7, eq_false c_9, ↓reduceIte]; rfl), by first | rfl | (simp only [dueS, eq_false c_1, eq_false c_7, eq_false c_9, ↓reduceIte]; done) | (simp only [dueS, eq_false c_1, eq_false c_7, eq_false c_9, ↓reduceIte]; rfl)⟩ (Nat.le_refl _) (Nat.le_refl _) d_W_isDueSize_54
      · refine lv_iconst (v := 1) hx hb d_W_isDueSize_49 (by decide) ?_
        refine lv_goto (tgt := 54) hx hb d_W_isDueSize_50 (by decide) ?_
        exact g_retz S hr hlk rfl G ⟨by first | rfl | (simp only [dueS, eq_false c_1, eq_false c_7, eq_true c_9, ↓reduceIte]; done) | (simp only [dueS, eq_false c_1, eq_false c_7, eq_true c_9, ↓reduceIte]; rfl), by first | rfl | (simp only [dueS, eq_false c_1, eq_false c_7, eq_true c_9, ↓reduceIte]; done) | (simp only [dueS, eq_false c_1, eq_false c_7, eq_true c_9, ↓reduceIte]; rfl)⟩ (Nat.le_refl _) (Nat.le_refl _) d_W_isDueSize_54
    · refine lv_aload_n hx hb d_W_isDueSize_12 rfl (lv_at hl 0 rfl) ?_
      refine g_cVi (rest := []) S G (c_W_dataSize l D cA a σ) (cwV 0 S.2.2.2.2 ml_W_155 rfl rfl rfl (by decide +kernel) ⟨Nat.le_of_ble_eq_true rfl, Nat.le_of_ble_eq_true rfl⟩) [0, 1, 2, 3, 4, 5, 6, 7, 8, 9, 10, 11, 12, 13] [] rfl rfl rfl rfl (by decide) 0 rfl rfl rfl hl.1 rfl (Nat.le_of_ble_eq_true rfl) d_W_isDueSize_13 ⟨Nat.le_of_ble_eq_true rfl, Nat.le_of_ble_eq_true rfl⟩ (fun rp_10 wp_10 H locs hp_10 G => ?_)
      obtain ⟨rfl, rfl⟩ := hp_10
      have G : Gw D vwCl [(cA, .int)] AA ss ss.heap H locs (wW cA a σ) := G
      refine lv_bipush (v := 6) hx hb d_W_isDueSize_16 (by decide) ?_
      refine lv_icmp_lt (tgt := 39) hx hb d_W_isDueSize_18 (by decide) (fun c_11 => ?_) (fun c_11 => ?_)
      · refine lv_iconst (v := 0) hx hb d_W_isDueSize_39 (by decide) ?_
        exact g_retz S hr hlk rfl G ⟨by first | rfl | (simp only [dueS, eq_false c_1, eq_true c_7, eq_true c_11, ↓reduceIte]; done) | (simp only [dueS, eq_false c_1, eq_true c_7, eq_true c_11, ↓reduceIte]; rfl), by first | rfl | (simp only [dueS, eq_false c_1, eq_true c_7, eq_true c_11, ↓reduceIte]; done) | (simp only [dueS, eq_false c_1, eq_true c_7, eq_true c_11, ↓reduceIte]; rfl)⟩ (Nat.le_refl _) (Nat.le_refl _) d_W_isDueSize_40
      · refine lv_aload_n hx hb d_W_isDueSize_21 rfl (lv_at hl 0 rfl) ?_
        refine g_cVi (rest := []) S G (c_W_dataSize l D cA a σ) (cwV 0 S.2.2.2.2 ml_W_155 rfl rfl rfl (by decide +kernel) ⟨Nat.le_of_ble_eq_true rfl, Nat.le_of_ble_eq_true rfl⟩) [0, 1, 2, 3, 4, 5, 6, 7, 8, 9, 10, 11, 12, 13] [] rfl rfl rfl rfl (by decide) 0 rfl rfl rfl hl.1 rfl (Nat.le_of_ble_eq_true rfl) d_W_isDueSize_22 ⟨Nat.le_of_ble_eq_true rfl, Nat.le_of_ble_eq_true rfl⟩ (fun rp_12 wp_12 H locs hp_12 G => ?_)
        obtain ⟨rfl, rfl⟩ := hp_12
        have G : Gw D vwCl [(cA, .int)] AA ss ss.heap H locs (wW cA a σ) := G
        refine lv_iconst (v := 5) hx hb d_W_isDueSize_25 (by decide) ?_
        refine lv_aload_n hx hb d_W_isDueSize_26 rfl (lv_at hl 0 rfl) ?_
        refine lv_iconst (v := 4) hx hb d_W_isDueSize_27 (by decide) ?_
        refine g_cVi (rest := [.int 5, .int (dSz σ)]) S G (c_W_data l D cA a σ 4) (cwV 1 S.2.2.2.2 ml_W_121 rfl rfl rfl (by decide +kernel) ⟨Nat.le_of_ble_eq_true rfl, Nat.le_of_ble_eq_true rfl⟩) [0, 1, 2, 3, 4, 5, 6, 7, 8, 9, 10, 11, 12, 13] [] rfl rfl rfl rfl (by decide) 0 rfl rfl rfl hl.1 rfl (Nat.le_of_ble_eq_true rfl) d_W_isDueSize_28 ⟨Nat.le_of_ble_eq_true rfl, Nat.le_of_ble_eq_true rfl⟩ (fun rp_13 wp_13 H locs hp_13 G => ?_)
        obtain ⟨rfl, rfl⟩ := hp_13
        have G : Gw D vwCl [(cA, .int)] AA ss ss.heap H locs (wW cA a σ) := G
        refine lv_iadd hx hb d_W_isDueSize_31 ?_
        refine lv_icmp_ne (tgt := 39) hx hb d_W_isDueSize_32 (by decide) (fun c_14 => ?_) (fun c_14 => ?_)
        · refine lv_iconst (v := 0) hx hb d_W_isDueSize_39 (by decide) ?_
          exact g_retz S hr hlk rfl G ⟨by first | rfl | (simp only [dueS, eq_false c_1, eq_true c_7, eq_false c_11, eq_false c_14, ↓reduceIte]; done) | (simp only [dueS, eq_false c_1, eq_true c_7, eq_false c_11, eq_false c_14, ↓reduceIte]; rfl), by first | rfl | (simp only [dueS, eq_false c_1, eq_true c_7, eq_false c_11, eq_false c_14, ↓reduceIte]; done) | (simp only [dueS, eq_false c_1, eq_true c_7, eq_false c_11, eq_false c_14, ↓reduceIte]; rfl)⟩ (Nat.le_refl _) (Nat.le_refl _) d_W_isDueSize_40
        · refine lv_iconst (v := 1) hx hb d_W_isDueSize_35 (by decide) ?_
          refine lv_goto (tgt := 40) hx hb d_W_isDueSize_36 (by decide) ?_
          exact g_retz S hr hlk rfl G ⟨by first | rfl | (simp only [dueS, eq_false c_1, eq_true c_7, eq_false c_11, eq_true c_14, ↓reduceIte]; done) | (simp only [dueS, eq_false c_1, eq_true c_7, eq_false c_11, eq_true c_14, ↓reduceIte]; rfl), by first | rfl | (simp only [dueS, eq_false c_1, eq_true c_7, eq_false c_11, eq_true c_14, ↓reduceIte]; done) | (simp only [dueS, eq_false c_1, eq_true c_7, eq_false c_11, eq_true c_14, ↓reduceIte]; rfl)⟩ (Nat.le_refl _) (Nat.le_refl _) d_W_isDueSize_40

abbrev rm_W_isDueAmount : Room := { frames := 2, cells := 0, slots := 0, locals := 42 }
set_option maxHeartbeats 4000000 in
set_option maxRecDepth 100000 in
theorem c_W_isDueAmount (l : Launch) (D : va_G) (cA : ClassId) (a : Nat → Nat) (σ : St) (f n : Int32)  : Ci l y_W_isDueAmount w_W_isDueAmount rm_W_isDueAmount D vwCl [(cA, .int)] [.ref (a 0), .int f, .int n] (wW cA a σ) 0 0 (fun r0 w0 => r0 = dueA σ f n ∧ w0 = wW cA a σ) := by
  refine Ci.of (Ts := lw_g) (own := "WireSlave") (cc := b_W_isDueAmount) (maxL := 3) (ret := (some .boolean)) (lv := [(0, .ref (a 0)), (1, .int f), (2, .int n)]) (by decide) rfl rfl (fun w h => List.mem_cons_of_mem _ h) (Nat.le_of_ble_eq_true rfl) rfl ?_
  intro pp ee ss mm args below meth cx AA S hr hlk G ls hl
  have hx := S.1
  have hb := S.2.1
  refine lv_iload_n hx hb d_W_isDueAmount_0 rfl (lv_at hl 1 rfl) ?_
  by_cases c_1 : f = 1
  · refine lv_tableIn (tgt := 80) hx hb d_W_isDueAmount_1 (by rw [c_1]; decide) (by rw [c_1]; decide) (by rw [c_1]; rfl) (by decide) ?_
    refine lv_iload_n hx hb d_W_isDueAmount_80 rfl (lv_at hl 2 rfl) ?_
    refine lv_iconst (v := 1) hx hb d_W_isDueAmount_81 (by decide) ?_
    refine lv_sipush (v := 2000) hx hb d_W_isDueAmount_82 (by decide) ?_
    refine g_cSi (rest := []) S G (c_W_isFromTo l D cA n 1 2000) (va_cwS 3 S.2.2.2.2 ml_W_114 rfl rfl rfl (by decide +kernel) ⟨Nat.le_of_ble_eq_true rfl, Nat.le_of_ble_eq_true rfl⟩) [] [0, 1, 2, 3, 4, 5, 6, 7, 8, 9, 10, 11, 12, 13] rfl rfl rfl rfl (by decide) rfl hl.1 rfl (Nat.le_of_ble_eq_true rfl) d_W_isDueAmount_85 ⟨Nat.le_of_ble_eq_true rfl, Nat.le_of_ble_eq_true rfl⟩ (fun rp_2 wp_2 H locs hp_2 G => ?_)
    obtain ⟨rfl, rfl⟩ := hp_2
    have G := G.sub (ws' := wW cA a σ) [0, 1, 2, 3, 4, 5, 6, 7, 8, 9, 10, 11, 12, 13] rfl (ww_id cA a _)
    exact g_retz S hr hlk (by first | rfl | exact isFT_nar _ _ _) G ⟨by first | rfl | (simp only [dueA, eq_true c_1, ↓reduceIte]; done) | (simp only [dueA, eq_true c_1, ↓reduceIte]; rfl), by first | rfl | (simp only [dueA, eq_true c_1, ↓reduceIte]; done) | (simp only [dueA, eq_true c_1, ↓reduceIte]; rfl)⟩ (Nat.le_refl _) (Nat.le_refl _) d_W_isDueAmount_88
  by_cases c_3 : f = 2
  · refine lv_tableIn (tgt := 80) hx hb d_W_isDueAmount_1 (by rw [c_3]; decide) (by rw [c_3]; decide) (by rw [c_3]; rfl) (by decide) ?_
    refine lv_iload_n hx hb d_W_isDueAmount_80 rfl (lv_at hl 2 rfl) ?_
    refine lv_iconst (v := 1) hx hb d_W_isDueAmount_81 (by decide) ?_
    refine lv_sipush (v := 2000) hx hb d_W_isDueAmount_82 (by decide) ?_
    refine g_cSi (rest := []) S G (c_W_isFromTo l D cA n 1 2000) (va_cwS 3 S.2.2.2.2 ml_W_114 rfl rfl rfl (by decide +kernel) ⟨Nat.le_of_ble_eq_true rfl, Nat.le_of_ble_eq_true rfl⟩) [] [0, 1, 2, 3, 4, 5, 6, 7, 8, 9, 10, 11, 12, 13] rfl rfl rfl rfl (by decide) rfl hl.1 rfl (Nat.le_of_ble_eq_true rfl) d_W_isDueAmount_85 ⟨Nat.le_of_ble_eq_true rfl, Nat.le_of_ble_eq_true rfl⟩ (fun rp_4 wp_4 H locs hp_4 G => ?_)
    obtain ⟨rfl, rfl⟩ := hp_4
    have G := G.sub (ws' := wW cA a σ) [0, 1, 2, 3, 4, 5, 6, 7, 8, 9, 10, 11, 12, 13] rfl (ww_id cA a _)
    exact g_retz S hr hlk (by first | rfl | exact isFT_nar _ _ _) G ⟨by first | rfl | (simp only [dueA, eq_false c_1, eq_true c_3, ↓reduceIte]; done) | (simp only [dueA, eq_false c_1, eq_true c_3, ↓reduceIte]; rfl), by first | rfl | (simp only [dueA, eq_false c_1, eq_true c_3, ↓reduceIte]; done) | (simp only [dueA, eq_false c_1, eq_true c_3, ↓reduceIte]; rfl)⟩ (Nat.le_refl _) (Nat.le_refl _) d_W_isDueAmount_88
  by_cases c_5 : f = 3
  · refine lv_tableIn (tgt := 89) hx hb d_W_isDueAmount_1 (by rw [c_5]; decide) (by rw [c_5]; decide) (by rw [c_5]; rfl) (by decide) ?_
    refine lv_iload_n hx hb d_W_isDueAmount_89 rfl (lv_at hl 2 rfl) ?_
    refine lv_iconst (v := 1) hx hb d_W_isDueAmount_90 (by decide) ?_
    refine lv_bipush (v := 125) hx hb d_W_isDueAmount_91 (by decide) ?_
    refine g_cSi (rest := []) S G (c_W_isFromTo l D cA n 1 125) (va_cwS 3 S.2.2.2.2 ml_W_114 rfl rfl rfl (by decide +kernel) ⟨Nat.le_of_ble_eq_true rfl, Nat.le_of_ble_eq_true rfl⟩) [] [0, 1, 2, 3, 4, 5, 6, 7, 8, 9, 10, 11, 12, 13] rfl rfl rfl rfl (by decide) rfl hl.1 rfl (Nat.le_of_ble_eq_true rfl) d_W_isDueAmount_93 ⟨Nat.le_of_ble_eq_true rfl, Nat.le_of_ble_eq_true rfl⟩ (fun rp_6 wp_6 H locs hp_6 G => ?_)
    obtain ⟨rfl, rfl⟩ := hp_6
    have G := G.sub (ws' := wW cA a σ) [0, 1, 2, 3, 4, 5, 6, 7, 8, 9, 10, 11, 12, 13] rfl (ww_id cA a _)
    exact g_retz S hr hlk (by first | rfl | exact isFT_nar _ _ _) G ⟨by first | rfl | (simp only [dueA, eq_false c_1, eq_false c_3, eq_true c_5, ↓reduceIte]; done) | (simp only [dueA, eq_false c_1, eq_false c_3, eq_true c_5, ↓reduceIte]; rfl), by first | rfl | (simp only [dueA, eq_false c_1, eq_false c_3, eq_true c_5, ↓reduceIte]; done) | (simp only [dueA, eq_false c_1, eq_false c_3, eq_true c_5, ↓reduceIte]; rfl)⟩ (Nat.le_refl _) (Nat.le_refl _) d_W_isDueAmount_96
  by_cases c_7 : f = 4
  · refine lv_tableIn (tgt := 89) hx hb d_W_isDueAmount_1 (by rw [c_7]; decide) (by rw [c_7]; decide) (by rw [c_7]; rfl) (by decide) ?_
    refine lv_iload_n hx hb d_W_isDueAmount_89 rfl (lv_at hl 2 rfl) ?_
    refine lv_iconst (v := 1) hx hb d_W_isDueAmount_90 (by decide) ?_
    refine lv_bipush (v := 125) hx hb d_W_isDueAmount_91 (by decide) ?_
    refine g_cSi (rest := []) S G (c_W_isFromTo l D cA n 1 125) (va_cwS 3 S.2.2.2.2 ml_W_114 rfl rfl rfl (by decide +kernel) ⟨Nat.le_of_ble_eq_true rfl, Nat.le_of_ble_eq_true rfl⟩) [] [0, 1, 2, 3, 4, 5, 6, 7, 8, 9, 10, 11, 12, 13] rfl rfl rfl rfl (by decide) rfl hl.1 rfl (Nat.le_of_ble_eq_true rfl) d_W_isDueAmount_93 ⟨Nat.le_of_ble_eq_true rfl, Nat.le_of_ble_eq_true rfl⟩ (fun rp_8 wp_8 H locs hp_8 G => ?_)
    obtain ⟨rfl, rfl⟩ := hp_8
    have G := G.sub (ws' := wW cA a σ) [0, 1, 2, 3, 4, 5, 6, 7, 8, 9, 10, 11, 12, 13] rfl (ww_id cA a _)
    exact g_retz S hr hlk (by first | rfl | exact isFT_nar _ _ _) G ⟨by first | rfl | (simp only [dueA, eq_false c_1, eq_false c_3, eq_false c_5, eq_true c_7, ↓reduceIte]; done) | (simp only [dueA, eq_false c_1, eq_false c_3, eq_false c_5, eq_true c_7, ↓reduceIte]; rfl), by first | rfl | (simp only [dueA, eq_false c_1, eq_false c_3, eq_false c_5, eq_true c_7, ↓reduceIte]; done) | (simp only [dueA, eq_false c_1, eq_false c_3, eq_false c_5, eq_true c_7, ↓reduceIte]; rfl)⟩ (Nat.le_refl _) (Nat.le_refl _) d_W_isDueAmount_96
  by_cases c_9 : f = 5
  · refine lv_tableIn (tgt := 97) hx hb d_W_isDueAmount_1 (by rw [c_9]; decide) (by rw [c_9]; decide) (by rw [c_9]; rfl) (by decide) ?_
    refine lv_iload_n hx hb d_W_isDueAmount_97 rfl (lv_at hl 2 rfl) ?_
    refine lv_if_eq (tgt := 107) hx hb d_W_isDueAmount_98 (by decide) (fun c_10 => ?_) (fun c_10 => ?_)
    · refine lv_iconst (v := 1) hx hb d_W_isDueAmount_107 (by decide) ?_
      refine lv_goto (tgt := 112) hx hb d_W_isDueAmount_108 (by decide) ?_
      exact g_retz S hr hlk (by first | rfl | exact isFT_nar _ _ _) G ⟨by first | rfl | (simp only [dueA, eq_false c_1, eq_false c_3, eq_false c_5, eq_false c_7, eq_true c_9, eq_true c_10, ↓reduceIte]; done) | (simp only [dueA, eq_false c_1, eq_false c_3, eq_false c_5, eq_false c_7, eq_true c_9, eq_true c_10, ↓reduceIte]; rfl), by first | rfl | (simp only [dueA, eq_false c_1, eq_false c_3, eq_false c_5, eq_false c_7, eq_true c_9, eq_true c_10, ↓reduceIte]; done) | (simp only [dueA, eq_false c_1, eq_false c_3, eq_false c_5, eq_false c_7, eq_true c_9, eq_true c_10, ↓reduceIte]; rfl)⟩ (Nat.le_refl _) (Nat.le_refl _) d_W_isDueAmount_112
    · refine lv_iload_n hx hb d_W_isDueAmount_101 rfl (lv_at hl 2 rfl) ?_
      refine lv_ldc (v := 65280) hx hb S.2.2.2.1 (S.2.2.2.2 _ kn_W_158) d_W_isDueAmount_102 ?_
      refine lv_icmp_ne (tgt := 111) hx hb d_W_isDueAmount_104 (by decide) (fun c_11 => ?_) (fun c_11 => ?_)
      · refine lv_iconst (v := 0) hx hb d_W_isDueAmount_111 (by decide) ?_
        exact g_retz S hr hlk (by first | rfl | exact isFT_nar _ _ _) G ⟨by first | rfl | (simp only [dueA, eq_false c_1, eq_false c_3, eq_false c_5, eq_false c_7, eq_true c_9, eq_false c_10, eq_false c_11, ↓reduceIte]; done) | (simp only [dueA, eq_false c_1, eq_false c_3, eq_false c_5, eq_false c_7, eq_true c_9, eq_false c_10, eq_false c_11, ↓reduceIte]; rfl), by first | rfl | (simp only [dueA, eq_false c_1, eq_false c_3, eq_false c_5, eq_false c_7, eq_true c_9, eq_false c_10, eq_false c_11, ↓reduceIte]; done) | (simp only [dueA, eq_false c_1, eq_false c_3, eq_false c_5, eq_false c_7, eq_true c_9, eq_false c_10, eq_false c_11, ↓reduceIte]; rfl)⟩ (Nat.le_refl _) (Nat.le_refl _) d_W_isDueAmount_112
      · refine lv_iconst (v := 1) hx hb d_W_isDueAmount_107 (by decide) ?_
        refine lv_goto (tgt := 112) hx hb d_W_isDueAmount_108 (by decide) ?_
        exact g_retz S hr hlk (by first | rfl | exact isFT_nar _ _ _) G ⟨by first | rfl | (simp only [dueA, eq_false c_1, eq_false c_3, eq_false c_5, eq_false c_7, eq_true c_9, eq_false c_10, eq_true c_11, ↓reduceIte]; done) | (simp only [dueA, eq_false c_1, eq_false c_3, eq_false c_5, eq_false c_7, eq_true c_9, eq_false c_10, eq_true c_11, ↓reduceIte]; rfl), by first | rfl | (simp only [dueA, eq_false c_1, eq_false c_3, eq_false c_5, eq_false c_7, eq_true c_9, eq_false c_10, eq_true c_11, ↓reduceIte]; done) | (simp only [dueA, eq_false c_1, eq_false c_3, eq_false c_5, eq_false c_7, eq_true c_9, eq_false c_10, eq_true c_11, ↓reduceIte]; rfl)⟩ (Nat.le_refl _) (Nat.le_refl _) d_W_isDueAmount_112
  by_cases c_12 : f = 6
  · refine lv_tableIn (tgt := 113) hx hb d_W_isDueAmount_1 (by rw [c_12]; decide) (by rw [c_12]; decide) (by rw [c_12]; rfl) (by decide) ?_
    refine lv_iconst (v := 1) hx hb d_W_isDueAmount_113 (by decide) ?_
    exact g_retz S hr hlk (by first | rfl | exact isFT_nar _ _ _) G ⟨by first | rfl | (simp only [dueA, eq_false c_1, eq_false c_3, eq_false c_5, eq_false c_7, eq_false c_9, eq_true c_12, ↓reduceIte]; done) | (simp only [dueA, eq_false c_1, eq_false c_3, eq_false c_5, eq_false c_7, eq_false c_9, eq_true c_12, ↓reduceIte]; rfl), by first | rfl | (simp only [dueA, eq_false c_1, eq_false c_3, eq_false c_5, eq_false c_7, eq_false c_9, eq_true c_12, ↓reduceIte]; done) | (simp only [dueA, eq_false c_1, eq_false c_3, eq_false c_5, eq_false c_7, eq_false c_9, eq_true c_12, ↓reduceIte]; rfl)⟩ (Nat.le_refl _) (Nat.le_refl _) d_W_isDueAmount_114
  by_cases c_13 : f = 15
  · refine lv_tableIn (tgt := 115) hx hb d_W_isDueAmount_1 (by rw [c_13]; decide) (by rw [c_13]; decide) (by rw [c_13]; rfl) (by decide) ?_
    refine lv_iload_n hx hb d_W_isDueAmount_115 rfl (lv_at hl 2 rfl) ?_
    refine lv_iconst (v := 1) hx hb d_W_isDueAmount_116 (by decide) ?_
    refine lv_sipush (v := 1968) hx hb d_W_isDueAmount_117 (by decide) ?_
    refine g_cSi (rest := []) S G (c_W_isFromTo l D cA n 1 1968) (va_cwS 3 S.2.2.2.2 ml_W_114 rfl rfl rfl (by decide +kernel) ⟨Nat.le_of_ble_eq_true rfl, Nat.le_of_ble_eq_true rfl⟩) [] [0, 1, 2, 3, 4, 5, 6, 7, 8, 9, 10, 11, 12, 13] rfl rfl rfl rfl (by decide) rfl hl.1 rfl (Nat.le_of_ble_eq_true rfl) d_W_isDueAmount_120 ⟨Nat.le_of_ble_eq_true rfl, Nat.le_of_ble_eq_true rfl⟩ (fun rp_14 wp_14 H locs hp_14 G => ?_)
    obtain ⟨rfl, rfl⟩ := hp_14
    have G := G.sub (ws' := wW cA a σ) [0, 1, 2, 3, 4, 5, 6, 7, 8, 9, 10, 11, 12, 13] rfl (ww_id cA a _)
    refine lv_if_eq (tgt := 142) hx hb d_W_isDueAmount_123 (by decide) (fun c_15 => ?_) (fun c_15 => ?_)
    · refine lv_iconst (v := 0) hx hb d_W_isDueAmount_142 (by decide) ?_
      exact g_retz S hr hlk (by first | rfl | exact isFT_nar _ _ _) G ⟨by first | rfl | (simp only [dueA, eq_false c_1, eq_false c_3, eq_false c_5, eq_false c_7, eq_false c_9, eq_false c_12, eq_true c_13, eq_true c_15, ↓reduceIte]; done) | (simp only [dueA, eq_false c_1, eq_false c_3, eq_false c_5, eq_false c_7, eq_false c_9, eq_false c_12, eq_true c_13, eq_true c_15, ↓reduceIte]; rfl), by first | rfl | (simp only [dueA, eq_false c_1, eq_false c_3, eq_false c_5, eq_false c_7, eq_false c_9, eq_false c_12, eq_true c_13, eq_true c_15, ↓reduceIte]; done) | (simp only [dueA, eq_false c_1, eq_false c_3, eq_false c_5, eq_false c_7, eq_false c_9, eq_false c_12, eq_true c_13, eq_true c_15, ↓reduceIte]; rfl)⟩ (Nat.le_refl _) (Nat.le_refl _) d_W_isDueAmount_143
    · refine lv_aload_n hx hb d_W_isDueAmount_126 rfl (lv_at hl 0 rfl) ?_
      refine lv_iconst (v := 4) hx hb d_W_isDueAmount_127 (by decide) ?_
      refine g_cVi (rest := []) S G (c_W_data l D cA a σ 4) (cwV 1 S.2.2.2.2 ml_W_121 rfl rfl rfl (by decide +kernel) ⟨Nat.le_of_ble_eq_true rfl, Nat.le_of_ble_eq_true rfl⟩) [0, 1, 2, 3, 4, 5, 6, 7, 8, 9, 10, 11, 12, 13] [] rfl rfl rfl rfl (by decide) 0 rfl rfl rfl hl.1 rfl (Nat.le_of_ble_eq_true rfl) d_W_isDueAmount_128 ⟨Nat.le_of_ble_eq_true rfl, Nat.le_of_ble_eq_true rfl⟩ (fun rp_16 wp_16 H locs hp_16 G => ?_)
      obtain ⟨rfl, rfl⟩ := hp_16
      have G : Gw D vwCl [(cA, .int)] AA ss ss.heap H locs (wW cA a σ) := G
      refine lv_iload_n hx hb d_W_isDueAmount_131 rfl (lv_at hl 2 rfl) ?_
      refine g_cSi (rest := [.int (dAt σ 4)]) S G (c_W_bytesForBits l D cA n) (va_cwS 1 S.2.2.2.2 ml_W_159 rfl rfl rfl (by decide +kernel) ⟨Nat.le_of_ble_eq_true rfl, Nat.le_of_ble_eq_true rfl⟩) [] [0, 1, 2, 3, 4, 5, 6, 7, 8, 9, 10, 11, 12, 13] rfl rfl rfl rfl (by decide) rfl hl.1 rfl (Nat.le_of_ble_eq_true rfl) d_W_isDueAmount_132 ⟨Nat.le_of_ble_eq_true rfl, Nat.le_of_ble_eq_true rfl⟩ (fun rp_17 wp_17 H locs hp_17 G => ?_)
      obtain ⟨rfl, rfl⟩ := hp_17
      have G := G.sub (ws' := wW cA a σ) [0, 1, 2, 3, 4, 5, 6, 7, 8, 9, 10, 11, 12, 13] rfl (ww_id cA a _)
      refine lv_icmp_ne (tgt := 142) hx hb d_W_isDueAmount_135 (by decide) (fun c_18 => ?_) (fun c_18 => ?_)
      · refine lv_iconst (v := 0) hx hb d_W_isDueAmount_142 (by decide) ?_
        exact g_retz S hr hlk (by first | rfl | exact isFT_nar _ _ _) G ⟨by first | rfl | (simp only [dueA, eq_false c_1, eq_false c_3, eq_false c_5, eq_false c_7, eq_false c_9, eq_false c_12, eq_true c_13, eq_false c_15, eq_false c_18, ↓reduceIte]; done) | (simp only [dueA, eq_false c_1, eq_false c_3, eq_false c_5, eq_false c_7, eq_false c_9, eq_false c_12, eq_true c_13, eq_false c_15, eq_false c_18, ↓reduceIte]; rfl), by first | rfl | (simp only [dueA, eq_false c_1, eq_false c_3, eq_false c_5, eq_false c_7, eq_false c_9, eq_false c_12, eq_true c_13, eq_false c_15, eq_false c_18, ↓reduceIte]; done) | (simp only [dueA, eq_false c_1, eq_false c_3, eq_false c_5, eq_false c_7, eq_false c_9, eq_false c_12, eq_true c_13, eq_false c_15, eq_false c_18, ↓reduceIte]; rfl)⟩ (Nat.le_refl _) (Nat.le_refl _) d_W_isDueAmount_143
      · refine lv_iconst (v := 1) hx hb d_W_isDueAmount_138 (by decide) ?_
        refine lv_goto (tgt := 143) hx hb d_W_isDueAmount_139 (by decide) ?_
        exact g_retz S hr hlk (by first | rfl | exact isFT_nar _ _ _) G ⟨by first | rfl | (simp only [dueA, eq_false c_1, eq_false c_3, eq_false c_5, eq_false c_7, eq_false c_9, eq_false c_12, eq_true c_13, eq_false c_15, eq_true c_18, ↓reduceIte]; done) | (simp only [dueA, eq_false c_1, eq_false c_3, eq_false c_5, eq_false c_7, eq_false c_9, eq_false c_12, eq_true c_13, eq_false c_15, eq_true c_18, ↓reduceIte]; rfl), by first | rfl | (simp only [dueA, eq_false c_1, eq_false c_3, eq_false c_5, eq_false c_7, eq_false c_9, eq_false c_12, eq_true c_13, eq_false c_15, eq_true c_18, ↓reduceIte]; done) | (simp only [dueA, eq_false c_1, eq_false c_3, eq_false c_5, eq_false c_7, eq_false c_9, eq_false c_12, eq_true c_13, eq_false c_15, eq_true c_18, ↓reduceIte]; rfl)⟩ (Nat.le_refl _) (Nat.le_refl _) d_W_isDueAmount_143
  by_cases c_19 : f = 16
  · refine lv_tableIn (tgt := 144) hx hb d_W_isDueAmount_1 (by rw [c_19]; decide) (by rw [c_19]; decide) (by rw [c_19]; rfl) (by decide) ?_
    refine lv_iload_n hx hb d_W_isDueAmount_144 rfl (lv_at hl 2 rfl) ?_
    refine lv_iconst (v := 1) hx hb d_W_isDueAmount_145 (by decide) ?_
    refine lv_bipush (v := 123) hx hb d_W_isDueAmount_146 (by decide) ?_
    refine g_cSi (rest := []) S G (c_W_isFromTo l D cA n 1 123) (va_cwS 3 S.2.2.2.2 ml_W_114 rfl rfl rfl (by decide +kernel) ⟨Nat.le_of_ble_eq_true rfl, Nat.le_of_ble_eq_true rfl⟩) [] [0, 1, 2, 3, 4, 5, 6, 7, 8, 9, 10, 11, 12, 13] rfl rfl rfl rfl (by decide) rfl hl.1 rfl (Nat.le_of_ble_eq_true rfl) d_W_isDueAmount_148 ⟨Nat.le_of_ble_eq_true rfl, Nat.le_of_ble_eq_true rfl⟩ (fun rp_20 wp_20 H locs hp_20 G => ?_)
    obtain ⟨rfl, rfl⟩ := hp_20
    have G := G.sub (ws' := wW cA a σ) [0, 1, 2, 3, 4, 5, 6, 7, 8, 9, 10, 11, 12, 13] rfl (ww_id cA a _)
    refine lv_if_eq (tgt := 169) hx hb d_W_isDueAmount_151 (by decide) (fun c_21 => ?_) (fun c_21 => ?_)
    · refine lv_iconst (v := 0) hx hb d_W_isDueAmount_169 (by decide) ?_
      exact g_retz S hr hlk (by first | rfl | exact isFT_nar _ _ _) G ⟨by first | rfl | (simp only [dueA, eq_false c_1, eq_false c_3, eq_false c_5, eq_false c_7, eq_false c_9, eq_false c_12, eq_false c_13, eq_true c_19, eq_true c_21, ↓reduceIte]; done) | (simp only [dueA, eq_false c_1, eq_false c_3, eq_false c_5, eq_false c_7, eq_false c_9, eq_false c_12, eq_false c_13, eq_true c_19, eq_true c_21, ↓reduceIte]; rfl), by first | rfl | (simp only [dueA, eq_false c_1, eq_false c_3, eq_false c_5, eq_false c_7, eq_false c_9, eq_false c_12, eq_false c_13, eq_true c_19, eq_true c_21, ↓reduceIte]; done) | (simp only [dueA, eq_false c_1, eq_false c_3, eq_false c_5, eq_false c_7, eq_false c_9, eq_false c_12, eq_false c_13, eq_true c_19, eq_true c_21, ↓reduceIte]; rfl)⟩ (Nat.le_refl _) (Nat.le_refl _) d_W_isDueAmount_170
    · refine lv_aload_n hx hb d_W_isDueAmount_154 rfl (lv_at hl 0 rfl) ?_
      refine lv_iconst (v := 4) hx hb d_W_isDueAmount_155 (by decide) ?_
      refine g_cVi (rest := []) S G (c_W_data l D cA a σ 4) (cwV 1 S.2.2.2.2 ml_W_121 rfl rfl rfl (by decide +kernel) ⟨Nat.le_of_ble_eq_true rfl, Nat.le_of_ble_eq_true rfl⟩) [0, 1, 2, 3, 4, 5, 6, 7, 8, 9, 10, 11, 12, 13] [] rfl rfl rfl rfl (by decide) 0 rfl rfl rfl hl.1 rfl (Nat.le_of_ble_eq_true rfl) d_W_isDueAmount_156 ⟨Nat.le_of_ble_eq_true rfl, Nat.le_of_ble_eq_true rfl⟩ (fun rp_22 wp_22 H locs hp_22 G => ?_)
      obtain ⟨rfl, rfl⟩ := hp_22
      have G : Gw D vwCl [(cA, .int)] AA ss ss.heap H locs (wW cA a σ) := G
      refine lv_iconst (v := 2) hx hb d_W_isDueAmount_159 (by decide) ?_
      refine lv_iload_n hx hb d_W_isDueAmount_160 rfl (lv_at hl 2 rfl) ?_
      refine lv_imul hx hb d_W_isDueAmount_161 ?_
      refine lv_icmp_ne (tgt := 169) hx hb d_W_isDueAmount_162 (by decide) (fun c_23 => ?_) (fun c_23 => ?_)
      · refine lv_iconst (v := 0) hx hb d_W_isDueAmount_169 (by decide) ?_
        exact g_retz S hr hlk (by first | rfl | exact isFT_nar _ _ _) G ⟨by first | rfl | (simp only [dueA, eq_false c_1, eq_false c_3, eq_false c_5, eq_false c_7, eq_false c_9, eq_false c_12, eq_false c_13, eq_true c_19, eq_false c_21, eq_false c_23, ↓reduceIte]; done) | (simp only [dueA, eq_false c_1, eq_false c_3, eq_false c_5, eq_false c_7, eq_false c_9, eq_false c_12, eq_false c_13, eq_true c_19, eq_false c_21, eq_false c_23, ↓reduceIte]; rfl), by first | rfl | (simp only [dueA, eq_false c_1, eq_false c_3, eq_false c_5, eq_false c_7, eq_false c_9, eq_false c_12, eq_false c_13, eq_true c_19, eq_false c_21, eq_false c_23, ↓reduceIte]; done) | (simp only [dueA, eq_false c_1, eq_false c_3, eq_false c_5, eq_false c_7, eq_false c_9, eq_false c_12, eq_false c_13, eq_true c_19, eq_false c_21, eq_false c_23, ↓reduceIte]; rfl)⟩ (Nat.le_refl _) (Nat.le_refl _) d_W_isDueAmount_170
      · refine lv_iconst (v := 1) hx hb d_W_isDueAmount_165 (by decide) ?_
        refine lv_goto (tgt := 170) hx hb d_W_isDueAmount_166 (by decide) ?_
        exact g_retz S hr hlk (by first | rfl | exact isFT_nar _ _ _) G ⟨by first | rfl | (simp only [dueA, eq_false c_1, eq_false c_3, eq_false c_5, eq_false c_7, eq_false c_9, eq_false c_12, eq_false c_13, eq_true c_19, eq_false c_21, eq_true c_23, ↓reduceIte]; done) | (simp only [dueA, eq_false c_1, eq_false c_3, eq_false c_5, eq_false c_7, eq_false c_9, eq_false c_12, eq_false c_13, eq_true c_19, eq_false c_21, eq_true c_23, ↓reduceIte]; rfl), by first | rfl | (simp only [dueA, eq_false c_1, eq_false c_3, eq_false c_5, eq_false c_7, eq_false c_9, eq_false c_12, eq_false c_13, eq_true c_19, eq_false c_21, eq_true c_23, ↓reduceIte]; done) | (simp only [dueA, eq_false c_1, eq_false c_3, eq_false c_5, eq_false c_7, eq_false c_9, eq_false c_12, eq_false c_13, eq_true c_19, eq_false c_21, eq_true c_23, ↓reduceIte]; rfl)⟩ (Nat.le_refl _) (Nat.le_refl _) d_W_isDueAmount_170
  have nc_1 := lv_neT c_1 (a := 1) (by decide)
  have nc_3 := lv_neT c_3 (a := 2) (by decide)
  have nc_5 := lv_neT c_5 (a := 3) (by decide)
  have nc_7 := lv_neT c_7 (a := 4) (by decide)
  have nc_9 := lv_neT c_9 (a := 5) (by decide)
  have nc_12 := lv_neT c_12 (a := 6) (by decide)
  have nc_13 := lv_neT c_13 (a := 15) (by decide)
  have nc_19 := lv_neT c_19 (a := 16) (by decide)
  refine g_table (tgt := 171) (off := 170) hx hb d_W_isDueAmount_1 ?_ (by decide) ?_
  · rcases (show (f.toInt < 1 ∨ 16 < f.toInt) ∨ f.toInt = 7 ∨ f.toInt = 8 ∨ f.toInt = 9 ∨ f.toInt = 10 ∨ f.toInt = 11 ∨ f.toInt = 12 ∨ f.toInt = 13 ∨ f.toInt = 14 by omega) with h | h | h | h | h | h | h | h | h
    · exact if_pos h
    · rw [h]; rfl
    · rw [h]; rfl
    · rw [h]; rfl
    · rw [h]; rfl
    · rw [h]; rfl
    · rw [h]; rfl
    · rw [h]; rfl
    · rw [h]; rfl
  refine lv_iconst (v := 0) hx hb d_W_isDueAmount_171 (by decide) ?_
  exact g_retz S hr hlk (by first | rfl | exact isFT_nar _ _ _) G ⟨by first | rfl | (simp only [dueA, eq_false c_1, eq_false c_3, eq_false c_5, eq_false c_7, eq_false c_9, eq_false c_12, eq_false c_13, eq_false c_19, ↓reduceIte]; done) | (simp only [dueA, eq_false c_1, eq_false c_3, eq_false c_5, eq_false c_7, eq_false c_9, eq_false c_12, eq_false c_13, eq_false c_19, ↓reduceIte]; rfl), by first | rfl | (simp only [dueA, eq_false c_1, eq_false c_3, eq_false c_5, eq_false c_7, eq_false c_9, eq_false c_12, eq_false c_13, eq_false c_19, ↓reduceIte]; done) | (simp only [dueA, eq_false c_1, eq_false c_3, eq_false c_5, eq_false c_7, eq_false c_9, eq_false c_12, eq_false c_13, eq_false c_19, ↓reduceIte]; rfl)⟩ (Nat.le_refl _) (Nat.le_refl _) d_W_isDueAmount_172
end
section
abbrev rm_W_refusalOf : Room := { frames := 3, cells := 0, slots := 0, locals := 64 }
set_option maxHeartbeats 4000000 in
set_option maxRecDepth 100000 in
theorem c_W_refusalOf (l : Launch) (D : va_G) (cA : ClassId) (a : Nat → Nat) (σ : St) (f a1 n : Int32)  : Ci l y_W_refusalOf w_W_refusalOf rm_W_refusalOf D vwCl [(cA, .int)] [.ref (a 0), .int f, .int a1, .int n] (wW cA a σ) 0 0 (fun r0 w0 => r0 = wRef σ f a1 n ∧ w0 = wW cA a σ) := by
  refine Ci.of (Ts := lw_g) (own := "WireSlave") (cc := b_W_refusalOf) (maxL := 7) (ret := (some .int)) (lv := [(0, .ref (a 0)), (1, .int f), (2, .int a1), (3, .int n)]) (by decide) rfl rfl (fun w h => List.mem_cons_of_mem _ h) (Nat.le_of_ble_eq_true rfl) rfl ?_
  intro pp ee ss mm args below meth cx AA S hr hlk G ls hl
  have hx := S.1
  have hb := S.2.1
  refine lv_aload_n hx hb d_W_refusalOf_0 rfl (lv_at hl 0 rfl) ?_
  refine lv_iload_n hx hb d_W_refusalOf_1 rfl (lv_at hl 1 rfl) ?_
  refine g_cVq (rest := []) S G (c_W_tableOfFunction l D cA a σ f) (cwV 1 S.2.2.2.2 ml_W_141 rfl rfl rfl (by decide +kernel) ⟨Nat.le_of_ble_eq_true rfl, Nat.le_of_ble_eq_true rfl⟩) [0, 1, 2, 3, 4, 5, 6, 7, 8, 9, 10, 11, 12, 13] [] rfl rfl rfl rfl (by decide) 0 rfl rfl rfl hl.1 rfl (Nat.le_of_ble_eq_true rfl) d_W_refusalOf_2 ⟨Nat.le_of_ble_eq_true rfl, Nat.le_of_ble_eq_true rfl⟩ (fun rp_1 wp_1 H locs hp_1 G => ?_)
  obtain ⟨rfl, rfl⟩ := hp_1
  have G : Gw D vwCl [(cA, .int)] AA ss ss.heap H locs (wW cA a σ) := G
  rcases fTab_cases f with hk | hk | hk | hk | hk
  · rw [hk]
    refine W.eq (g2 := F0 mm 5 ls [.null]) rfl ?_
    refine lv_astoreN (lv' := [(4, .null), (0, .ref (a 0)), (1, .int f), (2, .int a1), (3, .int n)]) hx hb d_W_refusalOf_5 hl (by decide) rfl (fun ls hl => ?_)
    refine lv_aloadN hx hb d_W_refusalOf_7 (lv_at hl 0 rfl) ?_
    refine lv_ifnonnullN hx hb d_W_refusalOf_9 ?_
    refine lv_iconst (v := 1) hx hb d_W_refusalOf_12 (by decide) ?_
    exact g_reti S hr hlk G ⟨by unfold wRef; rw [hk]; first | rfl | (simp only [wRefK, wRefD, refP, lastP, ↓reduceIte]; done) | (simp only [wRefK, wRefD, refP, lastP, ↓reduceIte]; rfl), rfl⟩ (Nat.le_refl _) (Nat.le_refl _) d_W_refusalOf_13
  · rw [hk]
    refine W.eq (g2 := F0 mm 5 ls [.ref (a 1)]) rfl ?_
    refine lv_astore (lv' := [(4, .ref (a 1)), (0, .ref (a 0)), (1, .int f), (2, .int a1), (3, .int n)]) hx hb d_W_refusalOf_5 hl (by decide) rfl (fun ls hl => ?_)
    refine lv_aload hx hb d_W_refusalOf_7 (lv_at hl 0 rfl) ?_
    refine lv_ifnonnull (tgt := 14) hx hb d_W_refusalOf_9 (by decide) ?_
    refine lv_aload_n hx hb d_W_refusalOf_14 rfl (lv_at hl 1 rfl) ?_
    refine lv_iload_n hx hb d_W_refusalOf_15 rfl (lv_at hl 2 rfl) ?_
    refine g_cVi (rest := []) S G (c_W_isDueSize l D cA a σ f) (cwV 1 S.2.2.2.2 ml_W_144 rfl rfl rfl (by decide +kernel) ⟨Nat.le_of_ble_eq_true rfl, Nat.le_of_ble_eq_true rfl⟩) [0, 1, 2, 3, 4, 5, 6, 7, 8, 9, 10, 11, 12, 13] [] rfl rfl rfl rfl (by decide) 0 rfl rfl rfl hl.1 rfl (Nat.le_of_ble_eq_true rfl) d_W_refusalOf_16 ⟨Nat.le_of_ble_eq_true rfl, Nat.le_of_ble_eq_true rfl⟩ (fun rp_2 wp_2 H locs hp_2 G => ?_)
    obtain ⟨rfl, rfl⟩ := hp_2
    have G : Gw D vwCl [(cA, .int)] AA ss ss.heap H locs (wW cA a σ) := G
    refine lv_if_eq (tgt := 31) hx hb d_W_refusalOf_19 (by decide) (fun c_3 => ?_) (fun c_3 => ?_)
    · refine lv_iconst (v := 3) hx hb d_W_refusalOf_31 (by decide) ?_
      exact g_reti S hr hlk G ⟨by unfold wRef; rw [hk]; first | rfl | (simp only [wRefK, wRefD, refP, lastP, eq_true c_3, ↓reduceIte]; done) | (simp only [wRefK, wRefD, refP, lastP, eq_true c_3, ↓reduceIte]; rfl), rfl⟩ (Nat.le_refl _) (Nat.le_refl _) d_W_refusalOf_32
    · refine lv_aload_n hx hb d_W_refusalOf_22 rfl (lv_at hl 1 rfl) ?_
      refine lv_iload_n hx hb d_W_refusalOf_23 rfl (lv_at hl 2 rfl) ?_
      refine lv_iload_n hx hb d_W_refusalOf_24 rfl (lv_at hl 4 rfl) ?_
      refine g_cVi (rest := []) S G (c_W_isDueAmount l D cA a σ f n) (cwV 2 S.2.2.2.2 ml_W_148 rfl rfl rfl (by decide +kernel) ⟨Nat.le_of_ble_eq_true rfl, Nat.le_of_ble_eq_true rfl⟩) [0, 1, 2, 3, 4, 5, 6, 7, 8, 9, 10, 11, 12, 13] [] rfl rfl rfl rfl (by decide) 0 rfl rfl rfl hl.1 rfl (Nat.le_of_ble_eq_true rfl) d_W_refusalOf_25 ⟨Nat.le_of_ble_eq_true rfl, Nat.le_of_ble_eq_true rfl⟩ (fun rp_4 wp_4 H locs hp_4 G => ?_)
      obtain ⟨rfl, rfl⟩ := hp_4
      have G : Gw D vwCl [(cA, .int)] AA ss ss.heap H locs (wW cA a σ) := G
      refine lv_if_ne (tgt := 33) hx hb d_W_refusalOf_28 (by decide) (fun c_5 => ?_) (fun c_5 => ?_)
      · refine lv_iload_n hx hb d_W_refusalOf_33 rfl (lv_at hl 2 rfl) ?_
        refine lv_iconst (v := 5) hx hb d_W_refusalOf_34 (by decide) ?_
        refine lv_icmp_eq (tgt := 44) hx hb d_W_refusalOf_35 (by decide) (fun c_6 => ?_) (fun c_6 => ?_)
        · refine lv_iconst (v := 1) hx hb d_W_refusalOf_44 (by decide) ?_
          refine lv_goto (tgt := 49) hx hb d_W_refusalOf_45 (by decide) ?_
          refine lv_istore (lv' := [(5, .int 1), (4, .ref (a 1)), (0, .ref (a 0)), (1, .int f), (2, .int a1), (3, .int n)]) hx hb d_W_refusalOf_49 hl (by decide) rfl (fun ls hl => ?_)
          refine lv_iload hx hb d_W_refusalOf_51 (lv_at hl 0 rfl) ?_
          have k_7 : ¬ ((1 : Int32) = 0) := by decide
          refine lv_if_eq (tgt := 60) hx hb d_W_refusalOf_53 (by decide) (fun h9 => absurd h9 k_7) (fun _ => ?_)
          refine lv_iload_n hx hb d_W_refusalOf_56 rfl (lv_at hl 4 rfl) ?_
          refine lv_goto (tgt := 65) hx hb d_W_refusalOf_57 (by decide) ?_
          refine lv_istore (lv' := [(6, .int a1), (5, .int 1), (4, .ref (a 1)), (0, .ref (a 0)), (1, .int f), (2, .int a1), (3, .int n)]) hx hb d_W_refusalOf_65 hl (by decide) rfl (fun ls hl => ?_)
          refine lv_aload hx hb d_W_refusalOf_67 (lv_at hl 2 rfl) ?_
          refine lv_iload_n hx hb d_W_refusalOf_69 rfl (lv_at hl 5 rfl) ?_
          refine g_cVi (rest := []) S G (c_T_has l D cA (a 1) (a 2) 256 (σ 1) 1 a1) (cwV 1 S.2.2.2.2 ml_W_152 rfl rfl rfl (by decide +kernel) ⟨Nat.le_of_ble_eq_true rfl, Nat.le_of_ble_eq_true rfl⟩) [1, 2] [0, 3, 4, 5, 6, 7, 8, 9, 10, 11, 12, 13] rfl rfl rfl rfl (by decide) 1 rfl rfl rfl hl.1 rfl (Nat.le_of_ble_eq_true rfl) d_W_refusalOf_70 ⟨Nat.le_of_ble_eq_true rfl, Nat.le_of_ble_eq_true rfl⟩ (fun rp_8 wp_8 H locs hp_8 G => ?_)
          obtain ⟨rfl, rfl⟩ := hp_8
          have G := G.sub (ws' := wW cA a σ) [0, 12, 13, 1, 2, 3, 4, 5, 6, 7, 8, 9, 10, 11] rfl (ww_T1 cA a _)
          refine lv_if_eq (tgt := 90) hx hb d_W_refusalOf_73 (by decide) (fun c_9 => ?_) (fun c_9 => ?_)
          · refine lv_iconst (v := 2) hx hb d_W_refusalOf_90 (by decide) ?_
            exact g_reti S hr hlk G ⟨by unfold wRef; rw [hk]; first | rfl | (simp only [wRefK, wRefD, refP, lastP, eq_false c_3, eq_false c_5, eq_true c_6, eq_false k_7, eq_true c_9, ↓reduceIte]; done) | (simp only [wRefK, wRefD, refP, lastP, eq_false c_3, eq_false c_5, eq_true c_6, eq_false k_7, eq_true c_9, ↓reduceIte]; rfl), rfl⟩ (Nat.le_refl _) (Nat.le_refl _) d_W_refusalOf_91
          · refine lv_aload hx hb d_W_refusalOf_76 (lv_at hl 2 rfl) ?_
            refine lv_iload hx hb d_W_refusalOf_78 (lv_at hl 0 rfl) ?_
            refine g_cVi (rest := []) S G (c_T_has l D cA (a 1) (a 2) 256 (σ 1) 1 a1) (cwV 1 S.2.2.2.2 ml_W_152 rfl rfl rfl (by decide +kernel) ⟨Nat.le_of_ble_eq_true rfl, Nat.le_of_ble_eq_true rfl⟩) [1, 2] [0, 3, 4, 5, 6, 7, 8, 9, 10, 11, 12, 13] rfl rfl rfl rfl (by decide) 1 rfl rfl rfl hl.1 rfl (Nat.le_of_ble_eq_true rfl) d_W_refusalOf_80 ⟨Nat.le_of_ble_eq_true rfl, Nat.le_of_ble_eq_true rfl⟩ (fun rp_10 wp_10 H locs hp_10 G => ?_)
            obtain ⟨rfl, rfl⟩ := hp_10
            have G := G.sub (ws' := wW cA a σ) [0, 12, 13, 1, 2, 3, 4, 5, 6, 7, 8, 9, 10, 11] rfl (ww_T1 cA a _)
            refine lv_if_eq (tgt := 90) hx hb d_W_refusalOf_83 (by decide) (fun h9 => absurd h9 c_9) (fun _ => ?_)
            refine lv_iconst (v := 0) hx hb d_W_refusalOf_86 (by decide) ?_
            refine lv_goto (tgt := 91) hx hb d_W_refusalOf_87 (by decide) ?_
            exact g_reti S hr hlk G ⟨by unfold wRef; rw [hk]; first | rfl | (simp only [wRefK, wRefD, refP, lastP, eq_false c_3, eq_false c_5, eq_true c_6, eq_false k_7, eq_false c_9, ↓reduceIte]; done) | (simp only [wRefK, wRefD, refP, lastP, eq_false c_3, eq_false c_5, eq_true c_6, eq_false k_7, eq_false c_9, ↓reduceIte]; rfl), rfl⟩ (Nat.le_refl _) (Nat.le_refl _) d_W_refusalOf_91
        · refine lv_iload_n hx hb d_W_refusalOf_38 rfl (lv_at hl 2 rfl) ?_
          refine lv_bipush (v := 6) hx hb d_W_refusalOf_39 (by decide) ?_
          refine lv_icmp_ne (tgt := 48) hx hb d_W_refusalOf_41 (by decide) (fun c_11 => ?_) (fun c_11 => ?_)
          · refine lv_iconst (v := 0) hx hb d_W_refusalOf_48 (by decide) ?_
            refine lv_istore (lv' := [(5, .int 0), (4, .ref (a 1)), (0, .ref (a 0)), (1, .int f), (2, .int a1), (3, .int n)]) hx hb d_W_refusalOf_49 hl (by decide) rfl (fun ls hl => ?_)
            refine lv_iload hx hb d_W_refusalOf_51 (lv_at hl 0 rfl) ?_
            have k_12 : (0 : Int32) = 0 := by decide
            refine lv_if_eq (tgt := 60) hx hb d_W_refusalOf_53 (by decide) (fun _ => ?_) (fun h9 => absurd k_12 h9)
            refine lv_iload_n hx hb d_W_refusalOf_60 rfl (lv_at hl 4 rfl) ?_
            refine lv_iload_n hx hb d_W_refusalOf_61 rfl (lv_at hl 5 rfl) ?_
            refine lv_iadd hx hb d_W_refusalOf_62 ?_
            refine lv_iconst (v := 1) hx hb d_W_refusalOf_63 (by decide) ?_
            refine lv_isub hx hb d_W_refusalOf_64 ?_
            refine lv_istore (lv' := [(6, .int ((a1 + n) - 1)), (5, .int 0), (4, .ref (a 1)), (0, .ref (a 0)), (1, .int f), (2, .int a1), (3, .int n)]) hx hb d_W_refusalOf_65 hl (by decide) rfl (fun ls hl => ?_)
            refine lv_aload hx hb d_W_refusalOf_67 (lv_at hl 2 rfl) ?_
            refine lv_iload_n hx hb d_W_refusalOf_69 rfl (lv_at hl 5 rfl) ?_
            refine g_cVi (rest := []) S G (c_T_has l D cA (a 1) (a 2) 256 (σ 1) 1 a1) (cwV 1 S.2.2.2.2 ml_W_152 rfl rfl rfl (by decide +kernel) ⟨Nat.le_of_ble_eq_true rfl, Nat.le_of_ble_eq_true rfl⟩) [1, 2] [0, 3, 4, 5, 6, 7, 8, 9, 10, 11, 12, 13] rfl rfl rfl rfl (by decide) 1 rfl rfl rfl hl.1 rfl (Nat.le_of_ble_eq_true rfl) d_W_refusalOf_70 ⟨Nat.le_of_ble_eq_true rfl, Nat.le_of_ble_eq_true rfl⟩ (fun rp_13 wp_13 H locs hp_13 G => ?_)
            obtain ⟨rfl, rfl⟩ := hp_13
            have G := G.sub (ws' := wW cA a σ) [0, 12, 13, 1, 2, 3, 4, 5, 6, 7, 8, 9, 10, 11] rfl (ww_T1 cA a _)
            refine lv_if_eq (tgt := 90) hx hb d_W_refusalOf_73 (by decide) (fun c_14 => ?_) (fun c_14 => ?_)
            · refine lv_iconst (v := 2) hx hb d_W_refusalOf_90 (by decide) ?_
              exact g_reti S hr hlk G ⟨by unfold wRef; rw [hk]; first | rfl | (simp only [wRefK, wRefD, refP, lastP, eq_false c_3, eq_false c_5, eq_false c_6, eq_false c_11, eq_true k_12, eq_true c_14, ↓reduceIte]; done) | (simp only [wRefK, wRefD, refP, lastP, eq_false c_3, eq_false c_5, eq_false c_6, eq_false c_11, eq_true k_12, eq_true c_14, ↓reduceIte]; rfl), rfl⟩ (Nat.le_refl _) (Nat.le_refl _) d_W_refusalOf_91
            · refine lv_aload hx hb d_W_refusalOf_76 (lv_at hl 2 rfl) ?_
              refine lv_iload hx hb d_W_refusalOf_78 (lv_at hl 0 rfl) ?_
              refine g_cVi (rest := []) S G (c_T_has l D cA (a 1) (a 2) 256 (σ 1) 1 ((a1 + n) - 1)) (cwV 1 S.2.2.2.2 ml_W_152 rfl rfl rfl (by decide +kernel) ⟨Nat.le_of_ble_eq_true rfl, Nat.le_of_ble_eq_true rfl⟩) [1, 2] [0, 3, 4, 5, 6, 7, 8, 9, 10, 11, 12, 13] rfl rfl rfl rfl (by decide) 1 rfl rfl rfl hl.1 rfl (Nat.le_of_ble_eq_true rfl) d_W_refusalOf_80 ⟨Nat.le_of_ble_eq_true rfl, Nat.le_of_ble_eq_true rfl⟩ (fun rp_15 wp_15 H locs hp_15 G => ?_)
              obtain ⟨rfl, rfl⟩ := hp_15
              have G := G.sub (ws' := wW cA a σ) [0, 12, 13, 1, 2, 3, 4, 5, 6, 7, 8, 9, 10, 11] rfl (ww_T1 cA a _)
              refine lv_if_eq (tgt := 90) hx hb d_W_refusalOf_83 (by decide) (fun c_16 => ?_) (fun c_16 => ?_)
              · refine lv_iconst (v := 2) hx hb d_W_refusalOf_90 (by decide) ?_
                exact g_reti S hr hlk G ⟨by unfold wRef; rw [hk]; first | rfl | (simp only [wRefK, wRefD, refP, lastP, eq_false c_3, eq_false c_5, eq_false c_6, eq_false c_11, eq_true k_12, eq_false c_14, eq_true c_16, ↓reduceIte]; done) | (simp only [wRefK, wRefD, refP, lastP, eq_false c_3, eq_false c_5, eq_false c_6, eq_false c_11, eq_true k_12, eq_false c_14, eq_true c_16, ↓reduceIte]; rfl), rfl⟩ (Nat.le_refl _) (Nat.le_refl _) d_W_refusalOf_91
              · refine lv_iconst (v := 0) hx hb d_W_refusalOf_86 (by decide) ?_
                refine lv_goto (tgt := 91) hx hb d_W_refusalOf_87 (by decide) ?_
                exact g_reti S hr hlk G ⟨by unfold wRef; rw [hk]; first | rfl | (simp only [wRefK, wRefD, refP, lastP, eq_false c_3, eq_false c_5, eq_false c_6, eq_false c_11, eq_true k_12, eq_false c_14, eq_false c_16, ↓reduceIte]; done) | (simp only [wRefK, wRefD, refP, lastP, eq_false c_3, eq_false c_5, eq_false c_6, eq_false c_11, eq_true k_12, eq_false c_14, eq_false c_16, ↓reduceIte]; rfl), rfl⟩ (Nat.le_refl _) (Nat.le_refl _) d_W_refusalOf_91
          · refine lv_iconst (v := 1) hx hb d_W_refusalOf_44 (by decide) ?_
            refine lv_goto (tgt := 49) hx hb d_W_refusalOf_45 (by decide) ?_
            refine lv_istore (lv' := [(5, .int 1), (4, .ref (a 1)), (0, .ref (a 0)), (1, .int f), (2, .int a1), (3, .int n)]) hx hb d_W_refusalOf_49 hl (by decide) rfl (fun ls hl => ?_)
            refine lv_iload hx hb d_W_refusalOf_51 (lv_at hl 0 rfl) ?_
            have k_17 : ¬ ((1 : Int32) = 0) := by decide
            refine lv_if_eq (tgt := 60) hx hb d_W_refusalOf_53 (by decide) (fun h9 => absurd h9 k_17) (fun _ => ?_)
            refine lv_iload_n hx hb d_W_refusalOf_56 rfl (lv_at hl 4 rfl) ?_
            refine lv_goto (tgt := 65) hx hb d_W_refusalOf_57 (by decide) ?_
            refine lv_istore (lv' := [(6, .int a1), (5, .int 1), (4, .ref (a 1)), (0, .ref (a 0)), (1, .int f), (2, .int a1), (3, .int n)]) hx hb d_W_refusalOf_65 hl (by decide) rfl (fun ls hl => ?_)
            refine lv_aload hx hb d_W_refusalOf_67 (lv_at hl 2 rfl) ?_
            refine lv_iload_n hx hb d_W_refusalOf_69 rfl (lv_at hl 5 rfl) ?_
            refine g_cVi (rest := []) S G (c_T_has l D cA (a 1) (a 2) 256 (σ 1) 1 a1) (cwV 1 S.2.2.2.2 ml_W_152 rfl rfl rfl (by decide +kernel) ⟨Nat.le_of_ble_eq_true rfl, Nat.le_of_ble_eq_true rfl⟩) [1, 2] [0, 3, 4, 5, 6, 7, 8, 9, 10, 11, 12, 13] rfl rfl rfl rfl (by decide) 1 rfl rfl rfl hl.1 rfl (Nat.le_of_ble_eq_true rfl) d_W_refusalOf_70 ⟨Nat.le_of_ble_eq_true rfl, Nat.le_of_ble_eq_true rfl⟩ (fun rp_18 wp_18 H locs hp_18 G => ?_)
            obtain ⟨rfl, rfl⟩ := hp_18
            have G := G.sub (ws' := wW cA a σ) [0, 12, 13, 1, 2, 3, 4, 5, 6, 7, 8, 9, 10, 11] rfl (ww_T1 cA a _)
            refine lv_if_eq (tgt := 90) hx hb d_W_refusalOf_73 (by decide) (fun c_19 => ?_) (fun c_19 => ?_)
            · refine lv_iconst (v := 2) hx hb d_W_refusalOf_90 (by decide) ?_
              exact g_reti S hr hlk G ⟨by unfold wRef; rw [hk]; first | rfl | (simp only [wRefK, wRefD, refP, lastP, eq_false c_3, eq_false c_5, eq_false c_6, eq_true c_11, eq_false k_17, eq_true c_19, ↓reduceIte]; done) | (simp only [wRefK, wRefD, refP, lastP, eq_false c_3, eq_false c_5, eq_false c_6, eq_true c_11, eq_false k_17, eq_true c_19, ↓reduceIte]; rfl), rfl⟩ (Nat.le_refl _) (Nat.le_refl _) d_W_refusalOf_91
            · refine lv_aload hx hb d_W_refusalOf_76 (lv_at hl 2 rfl) ?_
              refine lv_iload hx hb d_W_refusalOf_78 (lv_at hl 0 rfl) ?_
              refine g_cVi (rest := []) S G (c_T_has l D cA (a 1) (a 2) 256 (σ 1) 1 a1) (cwV 1 S.2.2.2.2 ml_W_152 rfl rfl rfl (by decide +kernel) ⟨Nat.le_of_ble_eq_true rfl, Nat.le_of_ble_eq_true rfl⟩) [1, 2] [0, 3, 4, 5, 6, 7, 8, 9, 10, 11, 12, 13] rfl rfl rfl rfl (by decide) 1 rfl rfl rfl hl.1 rfl (Nat.le_of_ble_eq_true rfl) d_W_refusalOf_80 ⟨Nat.le_of_ble_eq_true rfl, Nat.le_of_ble_eq_true rfl⟩ (fun rp_20 wp_20 H locs hp_20 G => ?_)
              obtain ⟨rfl, rfl⟩ := hp_20
              have G := G.sub (ws' := wW cA a σ) [0, 12, 13, 1, 2, 3, 4, 5, 6, 7, 8, 9, 10, 11] rfl (ww_T1 cA a _)
              refine lv_if_eq (tgt := 90) hx hb d_W_refusalOf_83 (by decide) (fun h9 => absurd h9 c_19) (fun _ => ?_)
              refine lv_iconst (v := 0) hx hb d_W_refusalOf_86 (by decide) ?_
              refine lv_goto (tgt := 91) hx hb d_W_refusalOf_87 (by decide) ?_
              exact g_reti S hr hlk G ⟨by unfold wRef; rw [hk]; first | rfl | (simp only [wRefK, wRefD, refP, lastP, eq_false c_3, eq_false c_5, eq_false c_6, eq_true c_11, eq_false k_17, eq_false c_19, ↓reduceIte]; done) | (simp only [wRefK, wRefD, refP, lastP, eq_false c_3, eq_false c_5, eq_false c_6, eq_true c_11, eq_false k_17, eq_false c_19, ↓reduceIte]; rfl), rfl⟩ (Nat.le_refl _) (Nat.le_refl _) d_W_refusalOf_91
      · refine lv_iconst (v := 3) hx hb d_W_refusalOf_31 (by decide) ?_
        exact g_reti S hr hlk G ⟨by unfold wRef; rw [hk]; first | rfl | (simp only [wRefK, wRefD, refP, lastP, eq_false c_3, eq_true c_5, ↓reduceIte]; done) | (simp only [wRefK, wRefD, refP, lastP, eq_false c_3, eq_true c_5, ↓reduceIte]; rfl), rfl⟩ (Nat.le_refl _) (Nat.le_refl _) d_W_refusalOf_32
  · rw [hk]
    refine W.eq (g2 := F0 mm 5 ls [.ref (a 3)]) rfl ?_
    refine lv_astore (lv' := [(4, .ref (a 3)), (0, .ref (a 0)), (1, .int f), (2, .int a1), (3, .int n)]) hx hb d_W_refusalOf_5 hl (by decide) rfl (fun ls hl => ?_)
    refine lv_aload hx hb d_W_refusalOf_7 (lv_at hl 0 rfl) ?_
    refine lv_ifnonnull (tgt := 14) hx hb d_W_refusalOf_9 (by decide) ?_
    refine lv_aload_n hx hb d_W_refusalOf_14 rfl (lv_at hl 1 rfl) ?_
    refine lv_iload_n hx hb d_W_refusalOf_15 rfl (lv_at hl 2 rfl) ?_
    refine g_cVi (rest := []) S G (c_W_isDueSize l D cA a σ f) (cwV 1 S.2.2.2.2 ml_W_144 rfl rfl rfl (by decide +kernel) ⟨Nat.le_of_ble_eq_true rfl, Nat.le_of_ble_eq_true rfl⟩) [0, 1, 2, 3, 4, 5, 6, 7, 8, 9, 10, 11, 12, 13] [] rfl rfl rfl rfl (by decide) 0 rfl rfl rfl hl.1 rfl (Nat.le_of_ble_eq_true rfl) d_W_refusalOf_16 ⟨Nat.le_of_ble_eq_true rfl, Nat.le_of_ble_eq_true rfl⟩ (fun rp_21 wp_21 H locs hp_21 G => ?_)
    obtain ⟨rfl, rfl⟩ := hp_21
    have G : Gw D vwCl [(cA, .int)] AA ss ss.heap H locs (wW cA a σ) := G
    refine lv_if_eq (tgt := 31) hx hb d_W_refusalOf_19 (by decide) (fun c_22 => ?_) (fun c_22 => ?_)
    · refine lv_iconst (v := 3) hx hb d_W_refusalOf_31 (by decide) ?_
      exact g_reti S hr hlk G ⟨by unfold wRef; rw [hk]; first | rfl | (simp only [wRefK, wRefD, refP, lastP, eq_true c_22, ↓reduceIte]; done) | (simp only [wRefK, wRefD, refP, lastP, eq_true c_22, ↓reduceIte]; rfl), rfl⟩ (Nat.le_refl _) (Nat.le_refl _) d_W_refusalOf_32
    · refine lv_aload_n hx hb d_W_refusalOf_22 rfl (lv_at hl 1 rfl) ?_
      refine lv_iload_n hx hb d_W_refusalOf_23 rfl (lv_at hl 2 rfl) ?_
      refine lv_iload_n hx hb d_W_refusalOf_24 rfl (lv_at hl 4 rfl) ?_
      refine g_cVi (rest := []) S G (c_W_isDueAmount l D cA a σ f n) (cwV 2 S.2.2.2.2 ml_W_148 rfl rfl rfl (by decide +kernel) ⟨Nat.le_of_ble_eq_true rfl, Nat.le_of_ble_eq_true rfl⟩) [0, 1, 2, 3, 4, 5, 6, 7, 8, 9, 10, 11, 12, 13] [] rfl rfl rfl rfl (by decide) 0 rfl rfl rfl hl.1 rfl (Nat.le_of_ble_eq_true rfl) d_W_refusalOf_25 ⟨Nat.le_of_ble_eq_true rfl, Nat.le_of_ble_eq_true rfl⟩ (fun rp_23 wp_23 H locs hp_23 G => ?_)
      obtain ⟨rfl, rfl⟩ := hp_23
      have G : Gw D vwCl [(cA, .int)] AA ss ss.heap H locs (wW cA a σ) := G
      refine lv_if_ne (tgt := 33) hx hb d_W_refusalOf_28 (by decide) (fun c_24 => ?_) (fun c_24 => ?_)
      · refine lv_iload_n hx hb d_W_refusalOf_33 rfl (lv_at hl 2 rfl) ?_
        refine lv_iconst (v := 5) hx hb d_W_refusalOf_34 (by decide) ?_
        refine lv_icmp_eq (tgt := 44) hx hb d_W_refusalOf_35 (by decide) (fun c_25 => ?_) (fun c_25 => ?_)
        · refine lv_iconst (v := 1) hx hb d_W_refusalOf_44 (by decide) ?_
          refine lv_goto (tgt := 49) hx hb d_W_refusalOf_45 (by decide) ?_
          refine lv_istore (lv' := [(5, .int 1), (4, .ref (a 3)), (0, .ref (a 0)), (1, .int f), (2, .int a1), (3, .int n)]) hx hb d_W_refusalOf_49 hl (by decide) rfl (fun ls hl => ?_)
          refine lv_iload hx hb d_W_refusalOf_51 (lv_at hl 0 rfl) ?_
          have k_26 : ¬ ((1 : Int32) = 0) := by decide
          refine lv_if_eq (tgt := 60) hx hb d_W_refusalOf_53 (by decide) (fun h9 => absurd h9 k_26) (fun _ => ?_)
          refine lv_iload_n hx hb d_W_refusalOf_56 rfl (lv_at hl 4 rfl) ?_
          refine lv_goto (tgt := 65) hx hb d_W_refusalOf_57 (by decide) ?_
          refine lv_istore (lv' := [(6, .int a1), (5, .int 1), (4, .ref (a 3)), (0, .ref (a 0)), (1, .int f), (2, .int a1), (3, .int n)]) hx hb d_W_refusalOf_65 hl (by decide) rfl (fun ls hl => ?_)
          refine lv_aload hx hb d_W_refusalOf_67 (lv_at hl 2 rfl) ?_
          refine lv_iload_n hx hb d_W_refusalOf_69 rfl (lv_at hl 5 rfl) ?_
          refine g_cVi (rest := []) S G (c_T_has l D cA (a 3) (a 4) 256 (σ 2) 1 a1) (cwV 1 S.2.2.2.2 ml_W_152 rfl rfl rfl (by decide +kernel) ⟨Nat.le_of_ble_eq_true rfl, Nat.le_of_ble_eq_true rfl⟩) [3, 4] [0, 1, 2, 5, 6, 7, 8, 9, 10, 11, 12, 13] rfl rfl rfl rfl (by decide) 3 rfl rfl rfl hl.1 rfl (Nat.le_of_ble_eq_true rfl) d_W_refusalOf_70 ⟨Nat.le_of_ble_eq_true rfl, Nat.le_of_ble_eq_true rfl⟩ (fun rp_27 wp_27 H locs hp_27 G => ?_)
          obtain ⟨rfl, rfl⟩ := hp_27
          have G := G.sub (ws' := wW cA a σ) [0, 1, 2, 12, 13, 3, 4, 5, 6, 7, 8, 9, 10, 11] rfl (ww_T3 cA a _)
          refine lv_if_eq (tgt := 90) hx hb d_W_refusalOf_73 (by decide) (fun c_28 => ?_) (fun c_28 => ?_)
          · refine lv_iconst (v := 2) hx hb d_W_refusalOf_90 (by decide) ?_
            exact g_reti S hr hlk G ⟨by unfold wRef; rw [hk]; first | rfl | (simp only [wRefK, wRefD, refP, lastP, eq_false c_22, eq_false c_24, eq_true c_25, eq_false k_26, eq_true c_28, ↓reduceIte]; done) | (simp only [wRefK, wRefD, refP, lastP, eq_false c_22, eq_false c_24, eq_true c_25, eq_false k_26, eq_true c_28, ↓reduceIte]; rfl), rfl⟩ (Nat.le_refl _) (Nat.le_refl _) d_W_refusalOf_91
          · refine lv_aload hx hb d_W_refusalOf_76 (lv_at hl 2 rfl) ?_
            refine lv_iload hx hb d_W_refusalOf_78 (lv_at hl 0 rfl) ?_
            refine g_cVi (rest := []) S G (c_T_has l D cA (a 3) (a 4) 256 (σ 2) 1 a1) (cwV 1 S.2.2.2.2 ml_W_152 rfl rfl rfl (by decide +kernel) ⟨Nat.le_of_ble_eq_true rfl, Nat.le_of_ble_eq_true rfl⟩) [3, 4] [0, 1, 2, 5, 6, 7, 8, 9, 10, 11, 12, 13] rfl rfl rfl rfl (by decide) 3 rfl rfl rfl hl.1 rfl (Nat.le_of_ble_eq_true rfl) d_W_refusalOf_80 ⟨Nat.le_of_ble_eq_true rfl, Nat.le_of_ble_eq_true rfl⟩ (fun rp_29 wp_29 H locs hp_29 G => ?_)
            obtain ⟨rfl, rfl⟩ := hp_29
            have G := G.sub (ws' := wW cA a σ) [0, 1, 2, 12, 13, 3, 4, 5, 6, 7, 8, 9, 10, 11] rfl (ww_T3 cA a _)
            refine lv_if_eq (tgt := 90) hx hb d_W_refusalOf_83 (by decide) (fun h9 => absurd h9 c_28) (fun _ => ?_)
            refine lv_iconst (v := 0) hx hb d_W_refusalOf_86 (by decide) ?_
            refine lv_goto (tgt := 91) hx hb d_W_refusalOf_87 (by decide) ?_
            exact g_reti S hr hlk G ⟨by unfold wRef; rw [hk]; first | rfl | (simp only [wRefK, wRefD, refP, lastP, eq_false c_22, eq_false c_24, eq_true c_25, eq_false k_26, eq_false c_28, ↓reduceIte]; done) | (simp only [wRefK, wRefD, refP, lastP, eq_false c_22, eq_false c_24, eq_true c_25, eq_false k_26, eq_false c_28, ↓reduceIte]; rfl), rfl⟩ (Nat.le_refl _) (Nat.le_refl _) d_W_refusalOf_91
        · refine lv_iload_n hx hb d_W_refusalOf_38 rfl (lv_at hl 2 rfl) ?_
          refine lv_bipush (v := 6) hx hb d_W_refusalOf_39 (by decide) ?_
          refine lv_icmp_ne (tgt := 48) hx hb d_W_refusalOf_41 (by decide) (fun c_30 => ?_) (fun c_30 => ?_)
          · refine lv_iconst (v := 0) hx hb d_W_refusalOf_48 (by decide) ?_
            refine lv_istore (lv' := [(5, .int 0), (4, .ref (a 3)), (0, .ref (a 0)), (1, .int f), (2, .int a1), (3, .int n)]) hx hb d_W_refusalOf_49 hl (by decide) rfl (fun ls hl => ?_)
            refine lv_iload hx hb d_W_refusalOf_51 (lv_at hl 0 rfl) ?_
            have k_31 : (0 : Int32) = 0 := by decide
            refine lv_if_eq (tgt := 60) hx hb d_W_refusalOf_53 (by decide) (fun _ => ?_) (fun h9 => absurd k_31 h9)
            refine lv_iload_n hx hb d_W_refusalOf_60 rfl (lv_at hl 4 rfl) ?_
            refine lv_iload_n hx hb d_W_refusalOf_61 rfl (lv_at hl 5 rfl) ?_
            refine lv_iadd hx hb d_W_refusalOf_62 ?_
            refine lv_iconst (v := 1) hx hb d_W_refusalOf_63 (by decide) ?_
            refine lv_isub hx hb d_W_refusalOf_64 ?_
            refine lv_istore (lv' := [(6, .int ((a1 + n) - 1)), (5, .int 0), (4, .ref (a 3)), (0, .ref (a 0)), (1, .int f), (2, .int a1), (3, .int n)]) hx hb d_W_refusalOf_65 hl (by decide) rfl (fun ls hl => ?_)
            refine lv_aload hx hb d_W_refusalOf_67 (lv_at hl 2 rfl) ?_
            refine lv_iload_n hx hb d_W_refusalOf_69 rfl (lv_at hl 5 rfl) ?_
            refine g_cVi (rest := []) S G (c_T_has l D cA (a 3) (a 4) 256 (σ 2) 1 a1) (cwV 1 S.2.2.2.2 ml_W_152 rfl rfl rfl (by decide +kernel) ⟨Nat.le_of_ble_eq_true rfl, Nat.le_of_ble_eq_true rfl⟩) [3, 4] [0, 1, 2, 5, 6, 7, 8, 9, 10, 11, 12, 13] rfl rfl rfl rfl (by decide) 3 rfl rfl rfl hl.1 rfl (Nat.le_of_ble_eq_true rfl) d_W_refusalOf_70 ⟨Nat.le_of_ble_eq_true rfl, Nat.le_of_ble_eq_true rfl⟩ (fun rp_32 wp_32 H locs hp_32 G => ?_)
            obtain ⟨rfl, rfl⟩ := hp_32
            have G := G.sub (ws' := wW cA a σ) [0, 1, 2, 12, 13, 3, 4, 5, 6, 7, 8, 9, 10, 11] rfl (ww_T3 cA a _)
            refine lv_if_eq (tgt := 90) hx hb d_W_refusalOf_73 (by decide) (fun c_33 => ?_) (fun c_33 => ?_)
            · refine lv_iconst (v := 2) hx hb d_W_refusalOf_90 (by decide) ?_
              exact g_reti S hr hlk G ⟨by unfold wRef; rw [hk]; first | rfl | (simp only [wRefK, wRefD, refP, lastP, eq_false c_22, eq_false c_24, eq_false c_25, eq_false c_30, eq_true k_31, eq_true c_33, ↓reduceIte]; done) | (simp only [wRefK, wRefD, refP, lastP, eq_false c_22, eq_false c_24, eq_false c_25, eq_false c_30, eq_true k_31, eq_true c_33, ↓reduceIte]; rfl), rfl⟩ (Nat.le_refl _) (Nat.le_refl _) d_W_refusalOf_91
            · refine lv_aload hx hb d_W_refusalOf_76 (lv_at hl 2 rfl) ?_
              refine lv_iload hx hb d_W_refusalOf_78 (lv_at hl 0 rfl) ?_
              refine g_cVi (rest := []) S G (c_T_has l D cA (a 3) (a 4) 256 (σ 2) 1 ((a1 + n) - 1)) (cwV 1 S.2.2.2.2 ml_W_152 rfl rfl rfl (by decide +kernel) ⟨Nat.le_of_ble_eq_true rfl, Nat.le_of_ble_eq_true rfl⟩) [3, 4] [0, 1, 2, 5, 6, 7, 8, 9, 10, 11, 12, 13] rfl rfl rfl rfl (by decide) 3 rfl rfl rfl hl.1 rfl (Nat.le_of_ble_eq_true rfl) d_W_refusalOf_80 ⟨Nat.le_of_ble_eq_true rfl, Nat.le_of_ble_eq_true rfl⟩ (fun rp_34 wp_34 H locs hp_34 G => ?_)
              obtain ⟨rfl, rfl⟩ := hp_34
              have G := G.sub (ws' := wW cA a σ) [0, 1, 2, 12, 13, 3, 4, 5, 6, 7, 8, 9, 10, 11] rfl (ww_T3 cA a _)
              refine lv_if_eq (tgt := 90) hx hb d_W_refusalOf_83 (by decide) (fun c_35 => ?_) (fun c_35 => ?_)
              · refine lv_iconst (v := 2) hx hb d_W_refusalOf_90 (by decide) ?_
                exact g_reti S hr hlk G ⟨by unfold wRef; rw [hk]; first | rfl | (simp only [wRefK, wRefD, refP, lastP, eq_false c_22, eq_false c_24, eq_false c_25, eq_false c_30, eq_true k_31, eq_false c_33, eq_true c_35, ↓reduceIte]; done) | (simp only [wRefK, wRefD, refP, lastP, eq_false c_22, eq_false c_24, eq_false c_25, eq_false c_30, eq_true k_31, eq_false c_33, eq_true c_35, ↓reduceIte]; rfl), rfl⟩ (Nat.le_refl _) (Nat.le_refl _) d_W_refusalOf_91
              · refine lv_iconst (v := 0) hx hb d_W_refusalOf_86 (by decide) ?_
                refine lv_goto (tgt := 91) hx hb d_W_refusalOf_87 (by decide) ?_
                exact g_reti S hr hlk G ⟨by unfold wRef; rw [hk]; first | rfl | (simp only [wRefK, wRefD, refP, lastP, eq_false c_22, eq_false c_24, eq_false c_25, eq_false c_30, eq_true k_31, eq_false c_33, eq_false c_35, ↓reduceIte]; done) | (simp only [wRefK, wRefD, refP, lastP, eq_false c_22, eq_false c_24, eq_false c_25, eq_false c_30, eq_true k_31, eq_false c_33, eq_false c_35, ↓reduceIte]; rfl), rfl⟩ (Nat.le_refl _) (Nat.le_refl _) d_W_refusalOf_91
          · refine lv_iconst (v := 1) hx hb d_W_refusalOf_44 (by decide) ?_
            refine lv_goto (tgt := 49) hx hb d_W_refusalOf_45 (by decide) ?_
            refine lv_istore (lv' := [(5, .int 1), (4, .ref (a 3)), (0, .ref (a 0)), (1, .int f), (2, .int a1), (3, .int n)]) hx hb d_W_refusalOf_49 hl (by decide) rfl (fun ls hl => ?_)
            refine lv_iload hx hb d_W_refusalOf_51 (lv_at hl 0 rfl) ?_
            have k_36 : ¬ ((1 : Int32) = 0) := by decide
            refine lv_if_eq (tgt := 60) hx hb d_W_refusalOf_53 (by decide) (fun h9 => absurd h9 k_36) (fun _ => ?_)
            refine lv_iload_n hx hb d_W_refusalOf_56 rfl (lv_at hl 4 rfl) ?_
            refine lv_goto (tgt := 65) hx hb d_W_refusalOf_57 (by decide) ?_
            refine lv_istore (lv' := [(6, .int a1), (5, .int 1), (4, .ref (a 3)), (0, .ref (a 0)), (1, .int f), (2, .int a1), (3, .int n)]) hx hb d_W_refusalOf_65 hl (by decide) rfl (fun ls hl => ?_)
            refine lv_aload hx hb d_W_refusalOf_67 (lv_at hl 2 rfl) ?_
            refine lv_iload_n hx hb d_W_refusalOf_69 rfl (lv_at hl 5 rfl) ?_
            refine g_cVi (rest := []) S G (c_T_has l D cA (a 3) (a 4) 256 (σ 2) 1 a1) (cwV 1 S.2.2.2.2 ml_W_152 rfl rfl rfl (by decide +kernel) ⟨Nat.le_of_ble_eq_true rfl, Nat.le_of_ble_eq_true rfl⟩) [3, 4] [0, 1, 2, 5, 6, 7, 8, 9, 10, 11, 12, 13] rfl rfl rfl rfl (by decide) 3 rfl rfl rfl hl.1 rfl (Nat.le_of_ble_eq_true rfl) d_W_refusalOf_70 ⟨Nat.le_of_ble_eq_true rfl, Nat.le_of_ble_eq_true rfl⟩ (fun rp_37 wp_37 H locs hp_37 G => ?_)
            obtain ⟨rfl, rfl⟩ := hp_37
            have G := G.sub (ws' := wW cA a σ) [0, 1, 2, 12, 13, 3, 4, 5, 6, 7, 8, 9, 10, 11] rfl (ww_T3 cA a _)
            refine lv_if_eq (tgt := 90) hx hb d_W_refusalOf_73 (by decide) (fun c_38 => ?_) (fun c_38 => ?_)
            · refine lv_iconst (v := 2) hx hb d_W_refusalOf_90 (by decide) ?_
              exact g_reti S hr hlk G ⟨by unfold wRef; rw [hk]; first | rfl | (simp only [wRefK, wRefD, refP, lastP, eq_false c_22, eq_false c_24, eq_false c_25, eq_true c_30, eq_false k_36, eq_true c_38, ↓reduceIte]; done) | (simp only [wRefK, wRefD, refP, lastP, eq_false c_22, eq_false c_24, eq_false c_25, eq_true c_30, eq_false k_36, eq_true c_38, ↓reduceIte]; rfl), rfl⟩ (Nat.le_refl _) (Nat.le_refl _) d_W_refusalOf_91
            · refine lv_aload hx hb d_W_refusalOf_76 (lv_at hl 2 rfl) ?_
              refine lv_iload hx hb d_W_refusalOf_78 (lv_at hl 0 rfl) ?_
              refine g_cVi (rest := []) S G (c_T_has l D cA (a 3) (a 4) 256 (σ 2) 1 a1) (cwV 1 S.2.2.2.2 ml_W_152 rfl rfl rfl (by decide +kernel) ⟨Nat.le_of_ble_eq_true rfl, Nat.le_of_ble_eq_true rfl⟩) [3, 4] [0, 1, 2, 5, 6, 7, 8, 9, 10, 11, 12, 13] rfl rfl rfl rfl (by decide) 3 rfl rfl rfl hl.1 rfl (Nat.le_of_ble_eq_true rfl) d_W_refusalOf_80 ⟨Nat.le_of_ble_eq_true rfl, Nat.le_of_ble_eq_true rfl⟩ (fun rp_39 wp_39 H locs hp_39 G => ?_)
              obtain ⟨rfl, rfl⟩ := hp_39
              have G := G.sub (ws' := wW cA a σ) [0, 1, 2, 12, 13, 3, 4, 5, 6, 7, 8, 9, 10, 11] rfl (ww_T3 cA a _)
              refine lv_if_eq (tgt := 90) hx hb d_W_refusalOf_83 (by decide) (fun h9 => absurd h9 c_38) (fun _ => ?_)
              refine lv_iconst (v := 0) hx hb d_W_refusalOf_86 (by decide) ?_
              refine lv_goto (tgt := 91) hx hb d_W_refusalOf_87 (by decide) ?_
              exact g_reti S hr hlk G ⟨by unfold wRef; rw [hk]; first | rfl | (simp only [wRefK, wRefD, refP, lastP, eq_false c_22, eq_false c_24, eq_false c_25, eq_true c_30, eq_false k_36, eq_false c_38, ↓reduceIte]; done) | (simp only [wRefK, wRefD, refP, lastP, eq_false c_22, eq_false c_24, eq_false c_25, eq_true c_30, eq_false k_36, eq_false c_38, ↓reduceIte]; rfl), rfl⟩ (Nat.le_refl _) (Nat.le_refl _) d_W_refusalOf_91
      · refine lv_iconst (v := 3) hx hb d_W_refusalOf_31 (by decide) ?_
        exact g_reti S hr hlk G ⟨by unfold wRef; rw [hk]; first | rfl | (simp only [wRefK, wRefD, refP, lastP, eq_false c_22, eq_true c_24, ↓reduceIte]; done) | (simp only [wRefK, wRefD, refP, lastP, eq_false c_22, eq_true c_24, ↓reduceIte]; rfl), rfl⟩ (Nat.le_refl _) (Nat.le_refl _) d_W_refusalOf_32
  · rw [hk]
    refine W.eq (g2 := F0 mm 5 ls [.ref (a 5)]) rfl ?_
    refine lv_astore (lv' := [(4, .ref (a 5)), (0, .ref (a 0)), (1, .int f), (2, .int a1), (3, .int n)]) hx hb d_W_refusalOf_5 hl (by decide) rfl (fun ls hl => ?_)
    refine lv_aload hx hb d_W_refusalOf_7 (lv_at hl 0 rfl) ?_
    refine lv_ifnonnull (tgt := 14) hx hb d_W_refusalOf_9 (by decide) ?_
    refine lv_aload_n hx hb d_W_refusalOf_14 rfl (lv_at hl 1 rfl) ?_
    refine lv_iload_n hx hb d_W_refusalOf_15 rfl (lv_at hl 2 rfl) ?_
    refine g_cVi (rest := []) S G (c_W_isDueSize l D cA a σ f) (cwV 1 S.2.2.2.2 ml_W_144 rfl rfl rfl (by decide +kernel) ⟨Nat.le_of_ble_eq_true rfl, Nat.le_of_ble_eq_true rfl⟩) [0, 1, 2, 3, 4, 5, 6, 7, 8, 9, 10, 11, 12, 13] [] rfl rfl rfl rfl (by decide) 0 rfl rfl rfl hl.1 rfl (Nat.le_of_ble_eq_true rfl) d_W_refusalOf_16 ⟨Nat.le_of_ble_eq_true rfl, Nat.le_of_ble_eq_true rfl⟩ (fun rp_40 wp_40 H locs hp_40 G => ?_)
    obtain ⟨rfl, rfl⟩ := hp_40
    have G : Gw D vwCl [(cA, .int)] AA ss ss.heap H locs (wW cA a σ) := G
    refine lv_if_eq (tgt := 31) hx hb d_W_refusalOf_19 (by decide) (fun c_41 => ?_) (fun c_41 => ?_)
    · refine lv_iconst (v := 3) hx hb d_W_refusalOf_31 (by decide) ?_
      exact g_reti S hr hlk G ⟨by unfold wRef; rw [hk]; first | rfl | (simp only [wRefK, wRefD, refP, lastP, eq_true c_41, ↓reduceIte]; done) | (simp only [wRefK, wRefD, refP, lastP, eq_true c_41, ↓reduceIte]; rfl), rfl⟩ (Nat.le_refl _) (Nat.le_refl _) d_W_refusalOf_32
    · refine lv_aload_n hx hb d_W_refusalOf_22 rfl (lv_at hl 1 rfl) ?_
      refine lv_iload_n hx hb d_W_refusalOf_23 rfl (lv_at hl 2 rfl) ?_
      refine lv_iload_n hx hb d_W_refusalOf_24 rfl (lv_at hl 4 rfl) ?_
      refine g_cVi (rest := []) S G (c_W_isDueAmount l D cA a σ f n) (cwV 2 S.2.2.2.2 ml_W_148 rfl rfl rfl (by decide +kernel) ⟨Nat.le_of_ble_eq_true rfl, Nat.le_of_ble_eq_true rfl⟩) [0, 1, 2, 3, 4, 5, 6, 7, 8, 9, 10, 11, 12, 13] [] rfl rfl rfl rfl (by decide) 0 rfl rfl rfl hl.1 rfl (Nat.le_of_ble_eq_true rfl) d_W_refusalOf_25 ⟨Nat.le_of_ble_eq_true rfl, Nat.le_of_ble_eq_true rfl⟩ (fun rp_42 wp_42 H locs hp_42 G => ?_)
      obtain ⟨rfl, rfl⟩ := hp_42
      have G : Gw D vwCl [(cA, .int)] AA ss ss.heap H locs (wW cA a σ) := G
      refine lv_if_ne (tgt := 33) hx hb d_W_refusalOf_28 (by decide) (fun c_43 => ?_) (fun c_43 => ?_)
      · refine lv_iload_n hx hb d_W_refusalOf_33 rfl (lv_at hl 2 rfl) ?_
        refine lv_iconst (v := 5) hx hb d_W_refusalOf_34 (by decide) ?_
        refine lv_icmp_eq (tgt := 44) hx hb d_W_refusalOf_35 (by decide) (fun c_44 => ?_) (fun c_44 => ?_)
        · refine lv_iconst (v := 1) hx hb d_W_refusalOf_44 (by decide) ?_
          refine lv_goto (tgt := 49) hx hb d_W_refusalOf_45 (by decide) ?_
          refine lv_istore (lv' := [(5, .int 1), (4, .ref (a 5)), (0, .ref (a 0)), (1, .int f), (2, .int a1), (3, .int n)]) hx hb d_W_refusalOf_49 hl (by decide) rfl (fun ls hl => ?_)
          refine lv_iload hx hb d_W_refusalOf_51 (lv_at hl 0 rfl) ?_
          have k_45 : ¬ ((1 : Int32) = 0) := by decide
          refine lv_if_eq (tgt := 60) hx hb d_W_refusalOf_53 (by decide) (fun h9 => absurd h9 k_45) (fun _ => ?_)
          refine lv_iload_n hx hb d_W_refusalOf_56 rfl (lv_at hl 4 rfl) ?_
          refine lv_goto (tgt := 65) hx hb d_W_refusalOf_57 (by decide) ?_
          refine lv_istore (lv' := [(6, .int a1), (5, .int 1), (4, .ref (a 5)), (0, .ref (a 0)), (1, .int f), (2, .int a1), (3, .int n)]) hx hb d_W_refusalOf_65 hl (by decide) rfl (fun ls hl => ?_)
          refine lv_aload hx hb d_W_refusalOf_67 (lv_at hl 2 rfl) ?_
          refine lv_iload_n hx hb d_W_refusalOf_69 rfl (lv_at hl 5 rfl) ?_
          refine g_cVi (rest := []) S G (c_T_has l D cA (a 5) (a 6) 64 (σ 3) 65535 a1) (cwV 1 S.2.2.2.2 ml_W_152 rfl rfl rfl (by decide +kernel) ⟨Nat.le_of_ble_eq_true rfl, Nat.le_of_ble_eq_true rfl⟩) [5, 6] [0, 1, 2, 3, 4, 7, 8, 9, 10, 11, 12, 13] rfl rfl rfl rfl (by decide) 5 rfl rfl rfl hl.1 rfl (Nat.le_of_ble_eq_true rfl) d_W_refusalOf_70 ⟨Nat.le_of_ble_eq_true rfl, Nat.le_of_ble_eq_true rfl⟩ (fun rp_46 wp_46 H locs hp_46 G => ?_)
          obtain ⟨rfl, rfl⟩ := hp_46
          have G := G.sub (ws' := wW cA a σ) [0, 1, 2, 3, 4, 12, 13, 5, 6, 7, 8, 9, 10, 11] rfl (ww_T5 cA a _)
          refine lv_if_eq (tgt := 90) hx hb d_W_refusalOf_73 (by decide) (fun c_47 => ?_) (fun c_47 => ?_)
          · refine lv_iconst (v := 2) hx hb d_W_refusalOf_90 (by decide) ?_
            exact g_reti S hr hlk G ⟨by unfold wRef; rw [hk]; first | rfl | (simp only [wRefK, wRefD, refP, lastP, eq_false c_41, eq_false c_43, eq_true c_44, eq_false k_45, eq_true c_47, ↓reduceIte]; done) | (simp only [wRefK, wRefD, refP, lastP, eq_false c_41, eq_false c_43, eq_true c_44, eq_false k_45, eq_true c_47, ↓reduceIte]; rfl), rfl⟩ (Nat.le_refl _) (Nat.le_refl _) d_W_refusalOf_91
          · refine lv_aload hx hb d_W_refusalOf_76 (lv_at hl 2 rfl) ?_
            refine lv_iload hx hb d_W_refusalOf_78 (lv_at hl 0 rfl) ?_
            refine g_cVi (rest := []) S G (c_T_has l D cA (a 5) (a 6) 64 (σ 3) 65535 a1) (cwV 1 S.2.2.2.2 ml_W_152 rfl rfl rfl (by decide +kernel) ⟨Nat.le_of_ble_eq_true rfl, Nat.le_of_ble_eq_true rfl⟩) [5, 6] [0, 1, 2, 3, 4, 7, 8, 9, 10, 11, 12, 13] rfl rfl rfl rfl (by decide) 5 rfl rfl rfl hl.1 rfl (Nat.le_of_ble_eq_true rfl) d_W_refusalOf_80 ⟨Nat.le_of_ble_eq_true rfl, Nat.le_of_ble_eq_true rfl⟩ (fun rp_48 wp_48 H locs hp_48 G => ?_)
            obtain ⟨rfl, rfl⟩ := hp_48
            have G := G.sub (ws' := wW cA a σ) [0, 1, 2, 3, 4, 12, 13, 5, 6, 7, 8, 9, 10, 11] rfl (ww_T5 cA a _)
            refine lv_if_eq (tgt := 90) hx hb d_W_refusalOf_83 (by decide) (fun h9 => absurd h9 c_47) (fun _ => ?_)
            refine lv_iconst (v := 0) hx hb d_W_refusalOf_86 (by decide) ?_
            refine lv_goto (tgt := 91) hx hb d_W_refusalOf_87 (by decide) ?_
            exact g_reti S hr hlk G ⟨by unfold wRef; rw [hk]; first | rfl | (simp only [wRefK, wRefD, refP, lastP, eq_false c_41, eq_false c_43, eq_true c_44, eq_false k_45, eq_false c_47, ↓reduceIte]; done) | (simp only [wRefK, wRefD, refP, lastP, eq_false c_41, eq_false c_43, eq_true c_44, eq_false k_45, eq_false c_47, ↓reduceIte]; rfl), rfl⟩ (Nat.le_refl _) (Nat.le_refl _) d_W_refusalOf_91
        · refine lv_iload_n hx hb d_W_refusalOf_38 rfl (lv_at hl 2 rfl) ?_
          refine lv_bipush (v := 6) hx hb d_W_refusalOf_39 (by decide) ?_
          refine lv_icmp_ne (tgt := 48) hx hb d_W_refusalOf_41 (by decide) (fun c_49 => ?_) (fun c_49 => ?_)
          · refine lv_iconst (v := 0) hx hb d_W_refusalOf_48 (by decide) ?_
            refine lv_istore (lv' := [(5, .int 0), (4, .ref (a 5)), (0, .ref (a 0)), (1, .int f), (2, .int a1), (3, .int n)]) hx hb d_W_refusalOf_49 hl (by decide) rfl (fun ls hl => ?_)
            refine lv_iload hx hb d_W_refusalOf_51 (lv_at hl 0 rfl) ?_
            have k_50 : (0 : Int32) = 0 := by decide
            refine lv_if_eq (tgt := 60) hx hb d_W_refusalOf_53 (by decide) (fun _ => ?_) (fun h9 => absurd k_50 h9)
            refine lv_iload_n hx hb d_W_refusalOf_60 rfl (lv_at hl 4 rfl) ?_
            refine lv_iload_n hx hb d_W_refusalOf_61 rfl (lv_at hl 5 rfl) ?_
            refine lv_iadd hx hb d_W_refusalOf_62 ?_
            refine lv_iconst (v := 1) hx hb d_W_refusalOf_63 (by decide) ?_
            refine lv_isub hx hb d_W_refusalOf_64 ?_
            refine lv_istore (lv' := [(6, .int ((a1 + n) - 1)), (5, .int 0), (4, .ref (a 5)), (0, .ref (a 0)), (1, .int f), (2, .int a1), (3, .int n)]) hx hb d_W_refusalOf_65 hl (by decide) rfl (fun ls hl => ?_)
            refine lv_aload hx hb d_W_refusalOf_67 (lv_at hl 2 rfl) ?_
            refine lv_iload_n hx hb d_W_refusalOf_69 rfl (lv_at hl 5 rfl) ?_
            refine g_cVi (rest := []) S G (c_T_has l D cA (a 5) (a 6) 64 (σ 3) 65535 a1) (cwV 1 S.2.2.2.2 ml_W_152 rfl rfl rfl (by decide +kernel) ⟨Nat.le_of_ble_eq_true rfl, Nat.le_of_ble_eq_true rfl⟩) [5, 6] [0, 1, 2, 3, 4, 7, 8, 9, 10, 11, 12, 13] rfl rfl rfl rfl (by decide) 5 rfl rfl rfl hl.1 rfl (Nat.le_of_ble_eq_true rfl) d_W_refusalOf_70 ⟨Nat.le_of_ble_eq_true rfl, Nat.le_of_ble_eq_true rfl⟩ (fun rp_51 wp_51 H locs hp_51 G => ?_)
            obtain ⟨rfl, rfl⟩ := hp_51
            have G := G.sub (ws' := wW cA a σ) [0, 1, 2, 3, 4, 12, 13, 5, 6, 7, 8, 9, 10, 11] rfl (ww_T5 cA a _)
            refine lv_if_eq (tgt := 90) hx hb d_W_refusalOf_73 (by decide) (fun c_52 => ?_) (fun c_52 => ?_)
            · refine lv_iconst (v := 2) hx hb d_W_refusalOf_90 (by decide) ?_
              exact g_reti S hr hlk G ⟨by unfold wRef; rw [hk]; first | rfl | (simp only [wRefK, wRefD, refP, lastP, eq_false c_41, eq_false c_43, eq_false c_44, eq_false c_49, eq_true k_50, eq_true c_52, ↓reduceIte]; done) | (simp only [wRefK, wRefD, refP, lastP, eq_false c_41, eq_false c_43, eq_false c_44, eq_false c_49, eq_true k_50, eq_true c_52, ↓reduceIte]; rfl), rfl⟩ (Nat.le_refl _) (Nat.le_refl _) d_W_refusalOf_91
            · refine lv_aload hx hb d_W_refusalOf_76 (lv_at hl 2 rfl) ?_
              refine lv_iload hx hb d_W_refusalOf_78 (lv_at hl 0 rfl) ?_
              refine g_cVi (rest := []) S G (c_T_has l D cA (a 5) (a 6) 64 (σ 3) 65535 ((a1 + n) - 1)) (cwV 1 S.2.2.2.2 ml_W_152 rfl rfl rfl (by decide +kernel) ⟨Nat.le_of_ble_eq_true rfl, Nat.le_of_ble_eq_true rfl⟩) [5, 6] [0, 1, 2, 3, 4, 7, 8, 9, 10, 11, 12, 13] rfl rfl rfl rfl (by decide) 5 rfl rfl rfl hl.1 rfl (Nat.le_of_ble_eq_true rfl) d_W_refusalOf_80 ⟨Nat.le_of_ble_eq_true rfl, Nat.le_of_ble_eq_true rfl⟩ (fun rp_53 wp_53 H locs hp_53 G => ?_)
              obtain ⟨rfl, rfl⟩ := hp_53
              have G := G.sub (ws' := wW cA a σ) [0, 1, 2, 3, 4, 12, 13, 5, 6, 7, 8, 9, 10, 11] rfl (ww_T5 cA a _)
              refine lv_if_eq (tgt := 90) hx hb d_W_refusalOf_83 (by decide) (fun c_54 => ?_) (fun c_54 => ?_)
              · refine lv_iconst (v := 2) hx hb d_W_refusalOf_90 (by decide) ?_
                exact g_reti S hr hlk G ⟨by unfold wRef; rw [hk]; first | rfl | (simp only [wRefK, wRefD, refP, lastP, eq_false c_41, eq_false c_43, eq_false c_44, eq_false c_49, eq_true k_50, eq_false c_52, eq_true c_54, ↓reduceIte]; done) | (simp only [wRefK, wRefD, refP, lastP, eq_false c_41, eq_false c_43, eq_false c_44, eq_false c_49, eq_true k_50, eq_false c_52, eq_true c_54, ↓reduceIte]; rfl), rfl⟩ (Nat.le_refl _) (Nat.le_refl _) d_W_refusalOf_91
              · refine lv_iconst (v := 0) hx hb d_W_refusalOf_86 (by decide) ?_
                refine lv_goto (tgt := 91) hx hb d_W_refusalOf_87 (by decide) ?_
                exact g_reti S hr hlk G ⟨by unfold wRef; rw [hk]; first | rfl | (simp only [wRefK, wRefD, refP, lastP, eq_false c_41, eq_false c_43, eq_false c_44, eq_false c_49, eq_true k_50, eq_false c_52, eq_false c_54, ↓reduceIte]; done) | (simp only [wRefK, wRefD, refP, lastP, eq_false c_41, eq_false c_43, eq_false c_44, eq_false c_49, eq_true k_50, eq_false c_52, eq_false c_54, ↓reduceIte]; rfl), rfl⟩ (Nat.le_refl _) (Nat.le_refl _) d_W_refusalOf_91
          · refine lv_iconst (v := 1) hx hb d_W_refusalOf_44 (by decide) ?_
            refine lv_goto (tgt := 49) hx hb d_W_refusalOf_45 (by decide) ?_
            refine lv_istore (lv' := [(5, .int 1), (4, .ref (a 5)), (0, .ref (a 0)), (1, .int f), (2, .int a1), (3, .int n)]) hx hb d_W_refusalOf_49 hl (by decide) rfl (fun ls hl => ?_)
            refine lv_iload hx hb d_W_refusalOf_51 (lv_at hl 0 rfl) ?_
            have k_55 : ¬ ((1 : Int32) = 0) := by decide
            refine lv_if_eq (tgt := 60) hx hb d_W_refusalOf_53 (by decide) (fun h9 => absurd h9 k_55) (fun _ => ?_)
            refine lv_iload_n hx hb d_W_refusalOf_56 rfl (lv_at hl 4 rfl) ?_
            refine lv_goto (tgt := 65) hx hb d_W_refusalOf_57 (by decide) ?_
            refine lv_istore (lv' := [(6, .int a1), (5, .int 1), (4, .ref (a 5)), (0, .ref (a 0)), (1, .int f), (2, .int a1), (3, .int n)]) hx hb d_W_refusalOf_65 hl (by decide) rfl (fun ls hl => ?_)
            refine lv_aload hx hb d_W_refusalOf_67 (lv_at hl 2 rfl) ?_
            refine lv_iload_n hx hb d_W_refusalOf_69 rfl (lv_at hl 5 rfl) ?_
            refine g_cVi (rest := []) S G (c_T_has l D cA (a 5) (a 6) 64 (σ 3) 65535 a1) (cwV 1 S.2.2.2.2 ml_W_152 rfl rfl rfl (by decide +kernel) ⟨Nat.le_of_ble_eq_true rfl, Nat.le_of_ble_eq_true rfl⟩) [5, 6] [0, 1, 2, 3, 4, 7, 8, 9, 10, 11, 12, 13] rfl rfl rfl rfl (by decide) 5 rfl rfl rfl hl.1 rfl (Nat.le_of_ble_eq_true rfl) d_W_refusalOf_70 ⟨Nat.le_of_ble_eq_true rfl, Nat.le_of_ble_eq_true rfl⟩ (fun rp_56 wp_56 H locs hp_56 G => ?_)
            obtain ⟨rfl, rfl⟩ := hp_56
            have G := G.sub (ws' := wW cA a σ) [0, 1, 2, 3, 4, 12, 13, 5, 6, 7, 8, 9, 10, 11] rfl (ww_T5 cA a _)
            refine lv_if_eq (tgt := 90) hx hb d_W_refusalOf_73 (by decide) (fun c_57 => ?_) (fun c_57 => ?_)
            · refine lv_iconst (v := 2) hx hb d_W_refusalOf_90 (by decide) ?_
              exact g_reti S hr hlk G ⟨by unfold wRef; rw [hk]; first | rfl | (simp only [wRefK, wRefD, refP, lastP, eq_false c_41, eq_false c_43, eq_false c_44, eq_true c_49, eq_false k_55, eq_true c_57, ↓reduceIte]; done) | (simp only [wRefK, wRefD, refP, lastP, eq_false c_41, eq_false c_43, eq_false c_44, eq_true c_49, eq_false k_55, eq_true c_57, ↓reduceIte]; rfl), rfl⟩ (Nat.le_refl _) (Nat.le_refl _) d_W_refusalOf_91
            · refine lv_aload hx hb d_W_refusalOf_76 (lv_at hl 2 rfl) ?_
              refine lv_iload hx hb d_W_refusalOf_78 (lv_at hl 0 rfl) ?_
              refine g_cVi (rest := []) S G (c_T_has l D cA (a 5) (a 6) 64 (σ 3) 65535 a1) (cwV 1 S.2.2.2.2 ml_W_152 rfl rfl rfl (by decide +kernel) ⟨Nat.le_of_ble_eq_true rfl, Nat.le_of_ble_eq_true rfl⟩) [5, 6] [0, 1, 2, 3, 4, 7, 8, 9, 10, 11, 12, 13] rfl rfl rfl rfl (by decide) 5 rfl rfl rfl hl.1 rfl (Nat.le_of_ble_eq_true rfl) d_W_refusalOf_80 ⟨Nat.le_of_ble_eq_true rfl, Nat.le_of_ble_eq_true rfl⟩ (fun rp_58 wp_58 H locs hp_58 G => ?_)
              obtain ⟨rfl, rfl⟩ := hp_58
              have G := G.sub (ws' := wW cA a σ) [0, 1, 2, 3, 4, 12, 13, 5, 6, 7, 8, 9, 10, 11] rfl (ww_T5 cA a _)
              refine lv_if_eq (tgt := 90) hx hb d_W_refusalOf_83 (by decide) (fun h9 => absurd h9 c_57) (fun _ => ?_)
              refine lv_iconst (v := 0) hx hb d_W_refusalOf_86 (by decide) ?_
              refine lv_goto (tgt := 91) hx hb d_W_refusalOf_87 (by decide) ?_
              exact g_reti S hr hlk G ⟨by unfold wRef; rw [hk]; first | rfl | (simp only [wRefK, wRefD, refP, lastP, eq_false c_41, eq_false c_43, eq_false c_44, eq_true c_49, eq_false k_55, eq_false c_57, ↓reduceIte]; done) | (simp only [wRefK, wRefD, refP, lastP, eq_false c_41, eq_false c_43, eq_false c_44, eq_true c_49, eq_false k_55, eq_false c_57, ↓reduceIte]; rfl), rfl⟩ (Nat.le_refl _) (Nat.le_refl _) d_W_refusalOf_91
      · refine lv_iconst (v := 3) hx hb d_W_refusalOf_31 (by decide) ?_
        exact g_reti S hr hlk G ⟨by unfold wRef; rw [hk]; first | rfl | (simp only [wRefK, wRefD, refP, lastP, eq_false c_41, eq_true c_43, ↓reduceIte]; done) | (simp only [wRefK, wRefD, refP, lastP, eq_false c_41, eq_true c_43, ↓reduceIte]; rfl), rfl⟩ (Nat.le_refl _) (Nat.le_refl _) d_W_refusalOf_32
  · rw [hk]
    refine W.eq (g2 := F0 mm 5 ls [.ref (a 7)]) rfl ?_
    refine lv_astore (lv' := [(4, .ref (a 7)), (0, .ref (a 0)), (1, .int f), (2, .int a1), (3, .int n)]) hx hb d_W_refusalOf_5 hl (by decide) rfl (fun ls hl => ?_)
    refine lv_aload hx hb d_W_refusalOf_7 (lv_at hl 0 rfl) ?_
    refine lv_ifnonnull (tgt := 14) hx hb d_W_refusalOf_9 (by decide) ?_
    refine lv_aload_n hx hb d_W_refusalOf_14 rfl (lv_at hl 1 rfl) ?_
    refine lv_iload_n hx hb d_W_refusalOf_15 rfl (lv_at hl 2 rfl) ?_
    refine g_cVi (rest := []) S G (c_W_isDueSize l D cA a σ f) (cwV 1 S.2.2.2.2 ml_W_144 rfl rfl rfl (by decide +kernel) ⟨Nat.le_of_ble_eq_true rfl, Nat.le_of_ble_eq_true rfl⟩) [0, 1, 2, 3, 4, 5, 6, 7, 8, 9, 10, 11, 12, 13] [] rfl rfl rfl rfl (by decide) 0 rfl rfl rfl hl.1 rfl (Nat.le_of_ble_eq_true rfl) d_W_refusalOf_16 ⟨Nat.le_of_ble_eq_true rfl, Nat.le_of_ble_eq_true rfl⟩ (fun rp_59 wp_59 H locs hp_59 G => ?_)
    obtain ⟨rfl, rfl⟩ := hp_59
    have G : Gw D vwCl [(cA, .int)] AA ss ss.heap H locs (wW cA a σ) := G
    refine lv_if_eq (tgt := 31) hx hb d_W_refusalOf_19 (by decide) (fun c_60 => ?_) (fun c_60 => ?_)
    · refine lv_iconst (v := 3) hx hb d_W_refusalOf_31 (by decide) ?_
      exact g_reti S hr hlk G ⟨by unfold wRef; rw [hk]; first | rfl | (simp only [wRefK, wRefD, refP, lastP, eq_true c_60, ↓reduceIte]; done) | (simp only [wRefK, wRefD, refP, lastP, eq_true c_60, ↓reduceIte]; rfl), rfl⟩ (Nat.le_refl _) (Nat.le_refl _) d_W_refusalOf_32
    · refine lv_aload_n hx hb d_W_refusalOf_22 rfl (lv_at hl 1 rfl) ?_
      refine lv_iload_n hx hb d_W_refusalOf_23 rfl (lv_at hl 2 rfl) ?_
      refine lv_iload_n hx hb d_W_refusalOf_24 rfl (lv_at hl 4 rfl) ?_
      refine g_cVi (rest := []) S G (c_W_isDueAmount l D cA a σ f n) (cwV 2 S.2.2.2.2 ml_W_148 rfl rfl rfl (by decide +kernel) ⟨Nat.le_of_ble_eq_true rfl, Nat.le_of_ble_eq_true rfl⟩) [0, 1, 2, 3, 4, 5, 6, 7, 8, 9, 10, 11, 12, 13] [] rfl rfl rfl rfl (by decide) 0 rfl rfl rfl hl.1 rfl (Nat.le_of_ble_eq_true rfl) d_W_refusalOf_25 ⟨Nat.le_of_ble_eq_true rfl, Nat.le_of_ble_eq_true rfl⟩ (fun rp_61 wp_61 H locs hp_61 G => ?_)
      obtain ⟨rfl, rfl⟩ := hp_61
      have G : Gw D vwCl [(cA, .int)] AA ss ss.heap H locs (wW cA a σ) := G
      refine lv_if_ne (tgt := 33) hx hb d_W_refusalOf_28 (by decide) (fun c_62 => ?_) (fun c_62 => ?_)
      · refine lv_iload_n hx hb d_W_refusalOf_33 rfl (lv_at hl 2 rfl) ?_
        refine lv_iconst (v := 5) hx hb d_W_refusalOf_34 (by decide) ?_
        refine lv_icmp_eq (tgt := 44) hx hb d_W_refusalOf_35 (by decide) (fun c_63 => ?_) (fun c_63 => ?_)
        · refine lv_iconst (v := 1) hx hb d_W_refusalOf_44 (by decide) ?_
          refine lv_goto (tgt := 49) hx hb d_W_refusalOf_45 (by decide) ?_
          refine lv_istore (lv' := [(5, .int 1), (4, .ref (a 7)), (0, .ref (a 0)), (1, .int f), (2, .int a1), (3, .int n)]) hx hb d_W_refusalOf_49 hl (by decide) rfl (fun ls hl => ?_)
          refine lv_iload hx hb d_W_refusalOf_51 (lv_at hl 0 rfl) ?_
          have k_64 : ¬ ((1 : Int32) = 0) := by decide
          refine lv_if_eq (tgt := 60) hx hb d_W_refusalOf_53 (by decide) (fun h9 => absurd h9 k_64) (fun _ => ?_)
          refine lv_iload_n hx hb d_W_refusalOf_56 rfl (lv_at hl 4 rfl) ?_
          refine lv_goto (tgt := 65) hx hb d_W_refusalOf_57 (by decide) ?_
          refine lv_istore (lv' := [(6, .int a1), (5, .int 1), (4, .ref (a 7)), (0, .ref (a 0)), (1, .int f), (2, .int a1), (3, .int n)]) hx hb d_W_refusalOf_65 hl (by decide) rfl (fun ls hl => ?_)
          refine lv_aload hx hb d_W_refusalOf_67 (lv_at hl 2 rfl) ?_
          refine lv_iload_n hx hb d_W_refusalOf_69 rfl (lv_at hl 5 rfl) ?_
          refine g_cVi (rest := []) S G (c_T_has l D cA (a 7) (a 8) 64 (σ 4) 65535 a1) (cwV 1 S.2.2.2.2 ml_W_152 rfl rfl rfl (by decide +kernel) ⟨Nat.le_of_ble_eq_true rfl, Nat.le_of_ble_eq_true rfl⟩) [7, 8] [0, 1, 2, 3, 4, 5, 6, 9, 10, 11, 12, 13] rfl rfl rfl rfl (by decide) 7 rfl rfl rfl hl.1 rfl (Nat.le_of_ble_eq_true rfl) d_W_refusalOf_70 ⟨Nat.le_of_ble_eq_true rfl, Nat.le_of_ble_eq_true rfl⟩ (fun rp_65 wp_65 H locs hp_65 G => ?_)
          obtain ⟨rfl, rfl⟩ := hp_65
          have G := G.sub (ws' := wW cA a σ) [0, 1, 2, 3, 4, 5, 6, 12, 13, 7, 8, 9, 10, 11] rfl (ww_T7 cA a _)
          refine lv_if_eq (tgt := 90) hx hb d_W_refusalOf_73 (by decide) (fun c_66 => ?_) (fun c_66 => ?_)
          · refine lv_iconst (v := 2) hx hb d_W_refusalOf_90 (by decide) ?_
            exact g_reti S hr hlk G ⟨by unfold wRef; rw [hk]; first | rfl | (simp only [wRefK, wRefD, refP, lastP, eq_false c_60, eq_false c_62, eq_true c_63, eq_false k_64, eq_true c_66, ↓reduceIte]; done) | (simp only [wRefK, wRefD, refP, lastP, eq_false c_60, eq_false c_62, eq_true c_63, eq_false k_64, eq_true c_66, ↓reduceIte]; rfl), rfl⟩ (Nat.le_refl _) (Nat.le_refl _) d_W_refusalOf_91
          · refine lv_aload hx hb d_W_refusalOf_76 (lv_at hl 2 rfl) ?_
            refine lv_iload hx hb d_W_refusalOf_78 (lv_at hl 0 rfl) ?_
            refine g_cVi (rest := []) S G (c_T_has l D cA (a 7) (a 8) 64 (σ 4) 65535 a1) (cwV 1 S.2.2.2.2 ml_W_152 rfl rfl rfl (by decide +kernel) ⟨Nat.le_of_ble_eq_true rfl, Nat.le_of_ble_eq_true rfl⟩) [7, 8] [0, 1, 2, 3, 4, 5, 6, 9, 10, 11, 12, 13] rfl rfl rfl rfl (by decide) 7 rfl rfl rfl hl.1 rfl (Nat.le_of_ble_eq_true rfl) d_W_refusalOf_80 ⟨Nat.le_of_ble_eq_true rfl, Nat.le_of_ble_eq_true rfl⟩ (fun rp_67 wp_67 H locs hp_67 G => ?_)
            obtain ⟨rfl, rfl⟩ := hp_67
            have G := G.sub (ws' := wW cA a σ) [0, 1, 2, 3, 4, 5, 6, 12, 13, 7, 8, 9, 10, 11] rfl (ww_T7 cA a _)
            refine lv_if_eq (tgt := 90) hx hb d_W_refusalOf_83 (by decide) (fun h9 => absurd h9 c_66) (fun _ => ?_)
            refine lv_iconst (v := 0) hx hb d_W_refusalOf_86 (by decide) ?_
            refine lv_goto (tgt := 91) hx hb d_W_refusalOf_87 (by decide) ?_
            exact g_reti S hr hlk G ⟨by unfold wRef; rw [hk]; first | rfl | (simp only [wRefK, wRefD, refP, lastP, eq_false c_60, eq_false c_62, eq_true c_63, eq_false k_64, eq_false c_66, ↓reduceIte]; done) | (simp only [wRefK, wRefD, refP, lastP, eq_false c_60, eq_false c_62, eq_true c_63, eq_false k_64, eq_false c_66, ↓reduceIte]; rfl), rfl⟩ (Nat.le_refl _) (Nat.le_refl _) d_W_refusalOf_91
        · refine lv_iload_n hx hb d_W_refusalOf_38 rfl (lv_at hl 2 rfl) ?_
          refine lv_bipush (v := 6) hx hb d_W_refusalOf_39 (by decide) ?_
          refine lv_icmp_ne (tgt := 48) hx hb d_W_refusalOf_41 (by decide) (fun c_68 => ?_) (fun c_68 => ?_)
          · refine lv_iconst (v := 0) hx hb d_W_refusalOf_48 (by decide) ?_
            refine lv_istore (lv' := [(5, .int 0), (4, .ref (a 7)), (0, .ref (a 0)), (1, .int f), (2, .int a1), (3, .int n)]) hx hb d_W_refusalOf_49 hl (by decide) rfl (fun ls hl => ?_)
            refine lv_iload hx hb d_W_refusalOf_51 (lv_at hl 0 rfl) ?_
            have k_69 : (0 : Int32) = 0 := by decide
            refine lv_if_eq (tgt := 60) hx hb d_W_refusalOf_53 (by decide) (fun _ => ?_) (fun h9 => absurd k_69 h9)
            refine lv_iload_n hx hb d_W_refusalOf_60 rfl (lv_at hl 4 rfl) ?_
            refine lv_iload_n hx hb d_W_refusalOf_61 rfl (lv_at hl 5 rfl) ?_
            refine lv_iadd hx hb d_W_refusalOf_62 ?_
            refine lv_iconst (v := 1) hx hb d_W_refusalOf_63 (by decide) ?_
            refine lv_isub hx hb d_W_refusalOf_64 ?_
            refine lv_istore (lv' := [(6, .int ((a1 + n) - 1)), (5, .int 0), (4, .ref (a 7)), (0, .ref (a 0)), (1, .int f), (2, .int a1), (3, .int n)]) hx hb d_W_refusalOf_65 hl (by decide) rfl (fun ls hl => ?_)
            refine lv_aload hx hb d_W_refusalOf_67 (lv_at hl 2 rfl) ?_
            refine lv_iload_n hx hb d_W_refusalOf_69 rfl (lv_at hl 5 rfl) ?_
            refine g_cVi (rest := []) S G (c_T_has l D cA (a 7) (a 8) 64 (σ 4) 65535 a1) (cwV 1 S.2.2.2.2 ml_W_152 rfl rfl rfl (by decide +kernel) ⟨Nat.le_of_ble_eq_true rfl, Nat.le_of_ble_eq_true rfl⟩) [7, 8] [0, 1, 2, 3, 4, 5, 6, 9, 10, 11, 12, 13] rfl rfl rfl rfl (by decide) 7 rfl rfl rfl hl.1 rfl (Nat.le_of_ble_eq_true rfl) d_W_refusalOf_70 ⟨Nat.le_of_ble_eq_true rfl, Nat.le_of_ble_eq_true rfl⟩ (fun rp_70 wp_70 H locs hp_70 G => ?_)
            obtain ⟨rfl, rfl⟩ := hp_70
            have G := G.sub (ws' := wW cA a σ) [0, 1, 2, 3, 4, 5, 6, 12, 13, 7, 8, 9, 10, 11] rfl (ww_T7 cA a _)
            refine lv_if_eq (tgt := 90) hx hb d_W_refusalOf_73 (by decide) (fun c_71 => ?_) (fun c_71 => ?_)
            · refine lv_iconst (v := 2) hx hb d_W_refusalOf_90 (by decide) ?_
              exact g_reti S hr hlk G ⟨by unfold wRef; rw [hk]; first | rfl | (simp only [wRefK, wRefD, refP, lastP, eq_false c_60, eq_false c_62, eq_false c_63, eq_false c_68, eq_true k_69, eq_true c_71, ↓reduceIte]; done) | (simp only [wRefK, wRefD, refP, lastP, eq_false c_60, eq_false c_62, eq_false c_63, eq_false c_68, eq_true k_69, eq_true c_71, ↓reduceIte]; rfl), rfl⟩ (Nat.le_refl _) (Nat.le_refl _) d_W_refusalOf_91
            · refine lv_aload hx hb d_W_refusalOf_76 (lv_at hl 2 rfl) ?_
              refine lv_iload hx hb d_W_refusalOf_78 (lv_at hl 0 rfl) ?_
              refine g_cVi (rest := []) S G (c_T_has l D cA (a 7) (a 8) 64 (σ 4) 65535 ((a1 + n) - 1)) (cwV 1 S.2.2.2.2 ml_W_152 rfl rfl rfl (by decide +kernel) ⟨Nat.le_of_ble_eq_true rfl, Nat.le_of_ble_eq_true rfl⟩) [7, 8] [0, 1, 2, 3, 4, 5, 6, 9, 10, 11, 12, 13] rfl rfl rfl rfl (by decide) 7 rfl rfl rfl hl.1 rfl (Nat.le_of_ble_eq_true rfl) d_W_refusalOf_80 ⟨Nat.le_of_ble_eq_true rfl, Nat.le_of_ble_eq_true rfl⟩ (fun rp_72 wp_72 H locs hp_72 G => ?_)
              obtain ⟨rfl, rfl⟩ := hp_72
              have G := G.sub (ws' := wW cA a σ) [0, 1, 2, 3, 4, 5, 6, 12, 13, 7, 8, 9, 10, 11] rfl (ww_T7 cA a _)
              refine lv_if_eq (tgt := 90) hx hb d_W_refusalOf_83 (by decide) (fun c_73 => ?_) (fun c_73 => ?_)
              · refine lv_iconst (v := 2) hx hb d_W_refusalOf_90 (by decide) ?_
                exact g_reti S hr hlk G ⟨by unfold wRef; rw [hk]; first | rfl | (simp only [wRefK, wRefD, refP, lastP, eq_false c_60, eq_false c_62, eq_false c_63, eq_false c_68, eq_true k_69, eq_false c_71, eq_true c_73, ↓reduceIte]; done) | (simp only [wRefK, wRefD, refP, lastP, eq_false c_60, eq_false c_62, eq_false c_63, eq_false c_68, eq_true k_69, eq_false c_71, eq_true c_73, ↓reduceIte]; rfl), rfl⟩ (Nat.le_refl _) (Nat.le_refl _) d_W_refusalOf_91
              · refine lv_iconst (v := 0) hx hb d_W_refusalOf_86 (by decide) ?_
                refine lv_goto (tgt := 91) hx hb d_W_refusalOf_87 (by decide) ?_
                exact g_reti S hr hlk G ⟨by unfold wRef; rw [hk]; first | rfl | (simp only [wRefK, wRefD, refP, lastP, eq_false c_60, eq_false c_62, eq_false c_63, eq_false c_68, eq_true k_69, eq_false c_71, eq_false c_73, ↓reduceIte]; done) | (simp only [wRefK, wRefD, refP, lastP, eq_false c_60, eq_false c_62, eq_false c_63, eq_false c_68, eq_true k_69, eq_false c_71, eq_false c_73, ↓reduceIte]; rfl), rfl⟩ (Nat.le_refl _) (Nat.le_refl _) d_W_refusalOf_91
          · refine lv_iconst (v := 1) hx hb d_W_refusalOf_44 (by decide) ?_
            refine lv_goto (tgt := 49) hx hb d_W_refusalOf_45 (by decide) ?_
            refine lv_istore (lv' := [(5, .int 1), (4, .ref (a 7)), (0, .ref (a 0)), (1, .int f), (2, .int a1), (3, .int n)]) hx hb d_W_refusalOf_49 hl (by decide) rfl (fun ls hl => ?_)
            refine lv_iload hx hb d_W_refusalOf_51 (lv_at hl 0 rfl) ?_
            have k_74 : ¬ ((1 : Int32) = 0) := by decide
            refine lv_if_eq (tgt := 60) hx hb d_W_refusalOf_53 (by decide) (fun h9 => absurd h9 k_74) (fun _ => ?_)
            refine lv_iload_n hx hb d_W_refusalOf_56 rfl (lv_at hl 4 rfl) ?_
            refine lv_goto (tgt := 65) hx hb d_W_refusalOf_57 (by decide) ?_
            refine lv_istore (lv' := [(6, .int a1), (5, .int 1), (4, .ref (a 7)), (0, .ref (a 0)), (1, .int f), (2, .int a1), (3, .int n)]) hx hb d_W_refusalOf_65 hl (by decide) rfl (fun ls hl => ?_)
            refine lv_aload hx hb d_W_refusalOf_67 (lv_at hl 2 rfl) ?_
            refine lv_iload_n hx hb d_W_refusalOf_69 rfl (lv_at hl 5 rfl) ?_
            refine g_cVi (rest := []) S G (c_T_has l D cA (a 7) (a 8) 64 (σ 4) 65535 a1) (cwV 1 S.2.2.2.2 ml_W_152 rfl rfl rfl (by decide +kernel) ⟨Nat.le_of_ble_eq_true rfl, Nat.le_of_ble_eq_true rfl⟩) [7, 8] [0, 1, 2, 3, 4, 5, 6, 9, 10, 11, 12, 13] rfl rfl rfl rfl (by decide) 7 rfl rfl rfl hl.1 rfl (Nat.le_of_ble_eq_true rfl) d_W_refusalOf_70 ⟨Nat.le_of_ble_eq_true rfl, Nat.le_of_ble_eq_true rfl⟩ (fun rp_75 wp_75 H locs hp_75 G => ?_)
            obtain ⟨rfl, rfl⟩ := hp_75
            have G := G.sub (ws' := wW cA a σ) [0, 1, 2, 3, 4, 5, 6, 12, 13, 7, 8, 9, 10, 11] rfl (ww_T7 cA a _)
            refine lv_if_eq (tgt := 90) hx hb d_W_refusalOf_73 (by decide) (fun c_76 => ?_) (fun c_76 => ?_)
            · refine lv_iconst (v := 2) hx hb d_W_refusalOf_90 (by decide) ?_
              exact g_reti S hr hlk G ⟨by unfold wRef; rw [hk]; first | rfl | (simp only [wRefK, wRefD, refP, lastP, eq_false c_60, eq_false c_62, eq_false c_63, eq_true c_68, eq_false k_74, eq_true c_76, ↓reduceIte]; done) | (simp only [wRefK, wRefD, refP, lastP, eq_false c_60, eq_false c_62, eq_false c_63, eq_true c_68, eq_false k_74, eq_true c_76, ↓reduceIte]; rfl), rfl⟩ (Nat.le_refl _) (Nat.le_refl _) d_W_refusalOf_91
            · refine lv_aload hx hb d_W_refusalOf_76 (lv_at hl 2 rfl) ?_
              refine lv_iload hx hb d_W_refusalOf_78 (lv_at hl 0 rfl) ?_
              refine g_cVi (rest := []) S G (c_T_has l D cA (a 7) (a 8) 64 (σ 4) 65535 a1) (cwV 1 S.2.2.2.2 ml_W_152 rfl rfl rfl (by decide +kernel) ⟨Nat.le_of_ble_eq_true rfl, Nat.le_of_ble_eq_true rfl⟩) [7, 8] [0, 1, 2, 3, 4, 5, 6, 9, 10, 11, 12, 13] rfl rfl rfl rfl (by decide) 7 rfl rfl rfl hl.1 rfl (Nat.le_of_ble_eq_true rfl) d_W_refusalOf_80 ⟨Nat.le_of_ble_eq_true rfl, Nat.le_of_ble_eq_true rfl⟩ (fun rp_77 wp_77 H locs hp_77 G => ?_)
              obtain ⟨rfl, rfl⟩ := hp_77
              have G := G.sub (ws' := wW cA a σ) [0, 1, 2, 3, 4, 5, 6, 12, 13, 7, 8, 9, 10, 11] rfl (ww_T7 cA a _)
              refine lv_if_eq (tgt := 90) hx hb d_W_refusalOf_83 (by decide) (fun h9 => absurd h9 c_76) (fun _ => ?_)
              refine lv_iconst (v := 0) hx hb d_W_refusalOf_86 (by decide) ?_
              refine lv_goto (tgt := 91) hx hb d_W_refusalOf_87 (by decide) ?_
              exact g_reti S hr hlk G ⟨by unfold wRef; rw [hk]; first | rfl | (simp only [wRefK, wRefD, refP, lastP, eq_false c_60, eq_false c_62, eq_false c_63, eq_true c_68, eq_false k_74, eq_false c_76, ↓reduceIte]; done) | (simp only [wRefK, wRefD, refP, lastP, eq_false c_60, eq_false c_62, eq_false c_63, eq_true c_68, eq_false k_74, eq_false c_76, ↓reduceIte]; rfl), rfl⟩ (Nat.le_refl _) (Nat.le_refl _) d_W_refusalOf_91
      · refine lv_iconst (v := 3) hx hb d_W_refusalOf_31 (by decide) ?_
        exact g_reti S hr hlk G ⟨by unfold wRef; rw [hk]; first | rfl | (simp only [wRefK, wRefD, refP, lastP, eq_false c_60, eq_true c_62, ↓reduceIte]; done) | (simp only [wRefK, wRefD, refP, lastP, eq_false c_60, eq_true c_62, ↓reduceIte]; rfl), rfl⟩ (Nat.le_refl _) (Nat.le_refl _) d_W_refusalOf_32
end
section
abbrev rm_W_writeCoils : Room := { frames := 2, cells := 0, slots := 0, locals := 44 }
set_option maxHeartbeats 4000000 in
set_option maxRecDepth 100000 in
theorem c_W_writeCoils (l : Launch) (D : va_G) (cA : ClassId) (a : Nat → Nat) (σ : St) (a1 c0 : Int32)  : Cv l y_W_writeCoils w_W_writeCoils rm_W_writeCoils D vwCl [(cA, .int)] [.ref (a 0), .int a1, .int c0] (wW cA a σ) 0 0 (fun w0 => w0 = wW cA a (wWrC a1 c0.toNatClampNeg 0 σ)) := by
  refine Cv.of (Ts := lw_g) (own := "WireSlave") (cc := b_W_writeCoils) (maxL := 4) (ret := none) (lv := [(0, .ref (a 0)), (1, .int a1), (2, .int c0)]) (by decide) rfl rfl (fun w h => List.mem_cons_of_mem _ h) (Nat.le_of_ble_eq_true rfl) rfl ?_
  intro pp ee ss mm args below meth cx AA S hr hlk hnm G ls hl
  have hx := S.1
  have hb := S.2.1
  refine lv_iconst (v := 0) hx hb d_W_writeCoils_0 (by decide) ?_
  refine lv_istore_n (lv' := [(3, .int 0), (0, .ref (a 0)), (1, .int a1), (2, .int c0)]) hx hb d_W_writeCoils_1 rfl hl (by decide) rfl (fun ls hl => ?_)
  have lp : ∀ (n : Nat) (i : Nat) (ρ : St) (H : Heap) (locs : List Loc) (ls : Array Slot), (i + n = c0.toNatClampNeg) → (wWrC a1 n i ρ = wWrC a1 c0.toNatClampNeg 0 σ) → Gw D vwCl [(cA, .int)] AA ss ss.heap H locs (wW cA a (ρ)) → lv_has ls 4 [(0, .ref (a 0)), (1, .int a1), (2, .int c0), (3, .int (nI i))] → W pp l ee rm_W_writeCoils ss mm args below meth cx H locs 0 0 (Zv D vwCl [(cA, .int)] AA ss args below 0 0 (fun w0 => w0 = wW cA a (wWrC a1 c0.toNatClampNeg 0 σ))) (F0 mm 2 ls []) := by
    intro n
    induction n with
    | zero =>
      intro i ρ H locs ls hi hF G hl
      refine lv_iload_n hx hb d_W_writeCoils_2 rfl (lv_at hl 3 rfl) ?_
      refine lv_iload_n hx hb d_W_writeCoils_3 rfl (lv_at hl 2 rfl) ?_
      have k_1 : c0 ≤ (nI i) := by rw [show i = c0.toNatClampNeg from hi]; exact le_clamp _
      refine lv_icmp_ge (tgt := 41) hx hb d_W_writeCoils_4 (by decide) (fun _ => ?_) (fun h9 => absurd k_1 h9)
      exact g_retv S hr hlk G (congrArg (wW cA a) hF) (Nat.le_refl _) (Nat.le_refl _) d_W_writeCoils_41
    | succ n ih =>
      intro i ρ H locs ls hi hF G hl
      refine lv_iload_n hx hb d_W_writeCoils_2 rfl (lv_at hl 3 rfl) ?_
      refine lv_iload_n hx hb d_W_writeCoils_3 rfl (lv_at hl 2 rfl) ?_
      have k_2 : ¬ (c0 ≤ (nI i)) := nle_clamp (by omega)
      refine lv_icmp_ge (tgt := 41) hx hb d_W_writeCoils_4 (by decide) (fun h9 => absurd h9 k_2) (fun _ => ?_)
      refine lv_aload_n hx hb d_W_writeCoils_7 rfl (lv_at hl 0 rfl) ?_
      refine g_get S G in_W 0 rfl rfl 1 (by decide) fl_W_27 rfl d_W_writeCoils_8 ?_
      refine lv_iload_n hx hb d_W_writeCoils_11 rfl (lv_at hl 1 rfl) ?_
      refine lv_iload_n hx hb d_W_writeCoils_12 rfl (lv_at hl 3 rfl) ?_
      refine lv_iadd hx hb d_W_writeCoils_13 ?_
      refine lv_aload_n hx hb d_W_writeCoils_14 rfl (lv_at hl 0 rfl) ?_
      refine lv_iconst (v := 5) hx hb d_W_writeCoils_15 (by decide) ?_
      refine lv_iload_n hx hb d_W_writeCoils_16 rfl (lv_at hl 3 rfl) ?_
      refine lv_bipush (v := 8) hx hb d_W_writeCoils_17 (by decide) ?_
      refine lv_idiv hx hb d_W_writeCoils_19 (by decide) ?_
      refine lv_iadd hx hb d_W_writeCoils_20 ?_
      refine g_cVi (rest := [.int (a1 + (nI i)), .ref (a 1)]) S G (c_W_data l D cA a (ρ) (5 + ((nI i) / 8))) (cwV 1 S.2.2.2.2 ml_W_121 rfl rfl rfl (by decide +kernel) ⟨Nat.le_of_ble_eq_true rfl, Nat.le_of_ble_eq_true rfl⟩) [0, 1, 2, 3, 4, 5, 6, 7, 8, 9, 10, 11, 12, 13] [] rfl rfl rfl rfl (by decide) 0 rfl rfl rfl hl.1 rfl (Nat.le_of_ble_eq_true rfl) d_W_writeCoils_21 ⟨Nat.le_of_ble_eq_true rfl, Nat.le_of_ble_eq_true rfl⟩ (fun rp_3 wp_3 H locs hp_3 G => ?_)
      obtain ⟨rfl, rfl⟩ := hp_3
      have G : Gw D vwCl [(cA, .int)] AA ss ss.heap H locs (wW cA a (ρ)) := G
      refine lv_iload_n hx hb d_W_writeCoils_24 rfl (lv_at hl 3 rfl) ?_
      refine lv_bipush (v := 8) hx hb d_W_writeCoils_25 (by decide) ?_
      refine lv_irem hx hb d_W_writeCoils_27 (by decide) ?_
      refine lv_iushr (v := ush (dAt (ρ) (5 + ((nI i) / 8))) ((nI i) - (nI i) / 8 * 8)) hx hb d_W_writeCoils_28 rfl ?_
      refine lv_iconst (v := 1) hx hb d_W_writeCoils_29 (by decide) ?_
      refine lv_iand hx hb d_W_writeCoils_30 ?_
      refine g_cVi (rest := []) S G (c_T_replace l D cA (a 1) (a 2) 256 ((ρ) 1) 1 (a1 + (nI i)) ((ush (dAt (ρ) (5 + ((nI i) / 8))) ((nI i) - (nI i) / 8 * 8)) &&& 1) (by decide)) (cwV 2 S.2.2.2.2 ml_W_87 rfl rfl rfl (by decide +kernel) ⟨Nat.le_of_ble_eq_true rfl, Nat.le_of_ble_eq_true rfl⟩) [1, 2] [0, 3, 4, 5, 6, 7, 8, 9, 10, 11, 12, 13] rfl rfl rfl rfl (by decide) 1 rfl rfl rfl hl.1 rfl (Nat.le_of_ble_eq_true rfl) d_W_writeCoils_31 ⟨Nat.le_of_ble_eq_true rfl, Nat.le_of_ble_eq_true rfl⟩ (fun rp_4 wp_4 H locs hp_4 G => ?_)
      obtain ⟨rfl, rfl⟩ := hp_4
      have G := G.sub (ws' := wW cA a (sS (ρ) 1 (tRepF 256 ((ρ) 1) 1 (a1 + (nI i)) ((ush (dAt (ρ) (5 + ((nI i) / 8))) ((nI i) - (nI i) / 8 * 8)) &&& 1)))) [0, 12, 13, 1, 2, 3, 4, 5, 6, 7, 8, 9, 10, 11] rfl (ww_sT1 cA a _ _)
      refine lv_pop hx hb d_W_writeCoils_34 rfl ?_
      refine lv_iinc (v := (nI i) + 1) (lv' := [(3, .int ((nI i) + 1)), (0, .ref (a 0)), (1, .int a1), (2, .int c0)]) hx hb d_W_writeCoils_35 hl (k := 3) rfl rfl (by decide) rfl (fun ls hl => ?_)
      refine lv_goto (tgt := 2) hx hb d_W_writeCoils_38 (by decide) ?_
      have hl := lv_sub hl [1, 2, 3, 0] rfl
      rw [nI_1] at hl
      exact ih (i + 1) _ H locs ls (by omega) hF G hl
  exact lp c0.toNatClampNeg 0 σ _ _ ls (Nat.zero_add _) rfl G (lv_sub hl [1, 2, 3, 0] rfl)

abbrev rm_W_writeRegisters : Room := { frames := 3, cells := 0, slots := 0, locals := 63 }
set_option maxHeartbeats 4000000 in
set_option maxRecDepth 100000 in
theorem c_W_writeRegisters (l : Launch) (D : va_G) (cA : ClassId) (a : Nat → Nat) (σ : St) (a1 c0 : Int32)  : Cv l y_W_writeRegisters w_W_writeRegisters rm_W_writeRegisters D vwCl [(cA, .int)] [.ref (a 0), .int a1, .int c0] (wW cA a σ) 0 0 (fun w0 => w0 = wW cA a (wWrR a1 c0.toNatClampNeg 0 σ)) := by
  refine Cv.of (Ts := lw_g) (own := "WireSlave") (cc := b_W_writeRegisters) (maxL := 4) (ret := none) (lv := [(0, .ref (a 0)), (1, .int a1), (2, .int c0)]) (by decide) rfl rfl (fun w h => List.mem_cons_of_mem _ h) (Nat.le_of_ble_eq_true rfl) rfl ?_
  intro pp ee ss mm args below meth cx AA S hr hlk hnm G ls hl
  have hx := S.1
  have hb := S.2.1
  refine lv_iconst (v := 0) hx hb d_W_writeRegisters_0 (by decide) ?_
  refine lv_istore_n (lv' := [(3, .int 0), (0, .ref (a 0)), (1, .int a1), (2, .int c0)]) hx hb d_W_writeRegisters_1 rfl hl (by decide) rfl (fun ls hl => ?_)
  have lp : ∀ (n : Nat) (i : Nat) (ρ : St) (H : Heap) (locs : List Loc) (ls : Array Slot), (i + n = c0.toNatClampNeg) → (wWrR a1 n i ρ = wWrR a1 c0.toNatClampNeg 0 σ) → Gw D vwCl [(cA, .int)] AA ss ss.heap H locs (wW cA a (ρ)) → lv_has ls 4 [(0, .ref (a 0)), (1, .int a1), (2, .int c0), (3, .int (nI i))] → W pp l ee rm_W_writeRegisters ss mm args below meth cx H locs 0 0 (Zv D vwCl [(cA, .int)] AA ss args below 0 0 (fun w0 => w0 = wW cA a (wWrR a1 c0.toNatClampNeg 0 σ))) (F0 mm 2 ls []) := by
    intro n
    induction n with
    | zero =>
      intro i ρ H locs ls hi hF G hl
      refine lv_iload_n hx hb d_W_writeRegisters_2 rfl (lv_at hl 3 rfl) ?_
      refine lv_iload_n hx hb d_W_writeRegisters_3 rfl (lv_at hl 2 rfl) ?_
      have k_1 : c0 ≤ (nI i) := by rw [show i = c0.toNatClampNeg from hi]; exact le_clamp _
      refine lv_icmp_ge (tgt := 33) hx hb d_W_writeRegisters_4 (by decide) (fun _ => ?_) (fun h9 => absurd k_1 h9)
      exact g_retv S hr hlk G (congrArg (wW cA a) hF) (Nat.le_refl _) (Nat.le_refl _) d_W_writeRegisters_33
    | succ n ih =>
      intro i ρ H locs ls hi hF G hl
      refine lv_iload_n hx hb d_W_writeRegisters_2 rfl (lv_at hl 3 rfl) ?_
      refine lv_iload_n hx hb d_W_writeRegisters_3 rfl (lv_at hl 2 rfl) ?_
      have k_2 : ¬ (c0 ≤ (nI i)) := nle_clamp (by omega)
      refine lv_icmp_ge (tgt := 33) hx hb d_W_writeRegisters_4 (by decide) (fun h9 => absurd h9 k_2) (fun _ => ?_)
      refine lv_aload_n hx hb d_W_writeRegisters_7 rfl (lv_at hl 0 rfl) ?_
      refine g_get S G in_W 0 rfl rfl 3 (by decide) fl_W_35 rfl d_W_writeRegisters_8 ?_
      refine lv_iload_n hx hb d_W_writeRegisters_11 rfl (lv_at hl 1 rfl) ?_
      refine lv_iload_n hx hb d_W_writeRegisters_12 rfl (lv_at hl 3 rfl) ?_
      refine lv_iadd hx hb d_W_writeRegisters_13 ?_
      refine lv_aload_n hx hb d_W_writeRegisters_14 rfl (lv_at hl 0 rfl) ?_
      refine lv_iconst (v := 5) hx hb d_W_writeRegisters_15 (by decide) ?_
      refine lv_iconst (v := 2) hx hb d_W_writeRegisters_16 (by decide) ?_
      refine lv_iload_n hx hb d_W_writeRegisters_17 rfl (lv_at hl 3 rfl) ?_
      refine lv_imul hx hb d_W_writeRegisters_18 ?_
      refine lv_iadd hx hb d_W_writeRegisters_19 ?_
      refine g_cVi (rest := [.int (a1 + (nI i)), .ref (a 5)]) S G (c_W_dataNumber l D cA a (ρ) (5 + (2 * (nI i)))) (cwV 1 S.2.2.2.2 ml_W_124 rfl rfl rfl (by decide +kernel) ⟨Nat.le_of_ble_eq_true rfl, Nat.le_of_ble_eq_true rfl⟩) [0, 1, 2, 3, 4, 5, 6, 7, 8, 9, 10, 11, 12, 13] [] rfl rfl rfl rfl (by decide) 0 rfl rfl rfl hl.1 rfl (Nat.le_of_ble_eq_true rfl) d_W_writeRegisters_20 ⟨Nat.le_of_ble_eq_true rfl, Nat.le_of_ble_eq_true rfl⟩ (fun rp_3 wp_3 H locs hp_3 G => ?_)
      obtain ⟨rfl, rfl⟩ := hp_3
      have G : Gw D vwCl [(cA, .int)] AA ss ss.heap H locs (wW cA a (ρ)) := G
      refine g_cVi (rest := []) S G (c_T_replace l D cA (a 5) (a 6) 64 ((ρ) 3) 65535 (a1 + (nI i)) (dNum (ρ) (5 + (2 * (nI i)))) (by decide)) (cwV 2 S.2.2.2.2 ml_W_87 rfl rfl rfl (by decide +kernel) ⟨Nat.le_of_ble_eq_true rfl, Nat.le_of_ble_eq_true rfl⟩) [5, 6] [0, 1, 2, 3, 4, 7, 8, 9, 10, 11, 12, 13] rfl rfl rfl rfl (by decide) 5 rfl rfl rfl hl.1 rfl (Nat.le_of_ble_eq_true rfl) d_W_writeRegisters_23 ⟨Nat.le_of_ble_eq_true rfl, Nat.le_of_ble_eq_true rfl⟩ (fun rp_4 wp_4 H locs hp_4 G => ?_)
      obtain ⟨rfl, rfl⟩ := hp_4
      have G := G.sub (ws' := wW cA a (sS (ρ) 3 (tRepF 64 ((ρ) 3) 65535 (a1 + (nI i)) (dNum (ρ) (5 + (2 * (nI i))))))) [0, 1, 2, 3, 4, 12, 13, 5, 6, 7, 8, 9, 10, 11] rfl (ww_sT5 cA a _ _)
      refine lv_pop hx hb d_W_writeRegisters_26 rfl ?_
      refine lv_iinc (v := (nI i) + 1) (lv' := [(3, .int ((nI i) + 1)), (0, .ref (a 0)), (1, .int a1), (2, .int c0)]) hx hb d_W_writeRegisters_27 hl (k := 3) rfl rfl (by decide) rfl (fun ls hl => ?_)
      refine lv_goto (tgt := 2) hx hb d_W_writeRegisters_30 (by decide) ?_
      have hl := lv_sub hl [1, 2, 3, 0] rfl
      rw [nI_1] at hl
      exact ih (i + 1) _ H locs ls (by omega) hF G hl
  exact lp c0.toNatClampNeg 0 σ _ _ ls (Nat.zero_add _) rfl G (lv_sub hl [1, 2, 3, 0] rfl)

abbrev rm_W_carryOut : Room := { frames := 4, cells := 0, slots := 0, locals := 86 }
set_option maxHeartbeats 4000000 in
set_option maxRecDepth 100000 in
theorem c_W_carryOut (l : Launch) (D : va_G) (cA : ClassId) (a : Nat → Nat) (σ : St) (f a1 n : Int32)  : Cv l y_W_carryOut w_W_carryOut rm_W_carryOut D vwCl [(cA, .int)] [.ref (a 0), .int f, .int a1, .int n] (wW cA a σ) 0 0 (fun w0 => w0 = wW cA a (wCar σ f a1 n)) := by
  refine Cv.of (Ts := lw_g) (own := "WireSlave") (cc := b_W_carryOut) (maxL := 4) (ret := none) (lv := [(0, .ref (a 0)), (1, .int f), (2, .int a1), (3, .int n)]) (by decide) rfl rfl (fun w h => List.mem_cons_of_mem _ h) (Nat.le_of_ble_eq_true rfl) rfl ?_
  intro pp ee ss mm args below meth cx AA S hr hlk hnm G ls hl
  have hx := S.1
  have hb := S.2.1
  refine lv_iload_n hx hb d_W_carryOut_0 rfl (lv_at hl 1 rfl) ?_
  by_cases c_1 : f = 5
  · refine lv_lookup (tgt := 44) hx hb d_W_carryOut_1 (by decide) (by first | (rw [c_1]; done) | (rw [c_1]; rfl)) (by decide) ?_
    refine lv_aload_n hx hb d_W_carryOut_44 rfl (lv_at hl 0 rfl) ?_
    refine g_get S G in_W 0 rfl rfl 1 (by decide) fl_W_27 rfl d_W_carryOut_45 ?_
    refine lv_iload_n hx hb d_W_carryOut_48 rfl (lv_at hl 2 rfl) ?_
    refine lv_iload_n hx hb d_W_carryOut_49 rfl (lv_at hl 3 rfl) ?_
    refine lv_if_ne (tgt := 57) hx hb d_W_carryOut_50 (by decide) (fun c_2 => ?_) (fun c_2 => ?_)
    · refine lv_iconst (v := 1) hx hb d_W_carryOut_57 (by decide) ?_
      refine g_cVi (rest := []) S G (c_T_replace l D cA (a 1) (a 2) 256 (σ 1) 1 a1 1 (by decide)) (cwV 2 S.2.2.2.2 ml_W_87 rfl rfl rfl (by decide +kernel) ⟨Nat.le_of_ble_eq_true rfl, Nat.le_of_ble_eq_true rfl⟩) [1, 2] [0, 3, 4, 5, 6, 7, 8, 9, 10, 11, 12, 13] rfl rfl rfl rfl (by decide) 1 rfl rfl rfl hl.1 rfl (Nat.le_of_ble_eq_true rfl) d_W_carryOut_58 ⟨Nat.le_of_ble_eq_true rfl, Nat.le_of_ble_eq_true rfl⟩ (fun rp_3 wp_3 H locs hp_3 G => ?_)
      obtain ⟨rfl, rfl⟩ := hp_3
      have G := G.sub (ws' := wW cA a (sS σ 1 (tRepF 256 (σ 1) 1 a1 1))) [0, 12, 13, 1, 2, 3, 4, 5, 6, 7, 8, 9, 10, 11] rfl (ww_sT1 cA a _ _)
      refine lv_pop hx hb d_W_carryOut_61 rfl ?_
      refine lv_goto (tgt := 96) hx hb d_W_carryOut_62 (by decide) ?_
      exact g_retv S hr hlk G (by first | rfl | (simp only [wCar, eq_true c_1, eq_false c_2, ↓reduceIte]; done) | (simp only [wCar, eq_true c_1, eq_false c_2, ↓reduceIte]; rfl)) (Nat.le_refl _) (Nat.le_refl _) d_W_carryOut_96
    · refine lv_iconst (v := 0) hx hb d_W_carryOut_53 (by decide) ?_
      refine lv_goto (tgt := 58) hx hb d_W_carryOut_54 (by decide) ?_
      refine g_cVi (rest := []) S G (c_T_replace l D cA (a 1) (a 2) 256 (σ 1) 1 a1 0 (by decide)) (cwV 2 S.2.2.2.2 ml_W_87 rfl rfl rfl (by decide +kernel) ⟨Nat.le_of_ble_eq_true rfl, Nat.le_of_ble_eq_true rfl⟩) [1, 2] [0, 3, 4, 5, 6, 7, 8, 9, 10, 11, 12, 13] rfl rfl rfl rfl (by decide) 1 rfl rfl rfl hl.1 rfl (Nat.le_of_ble_eq_true rfl) d_W_carryOut_58 ⟨Nat.le_of_ble_eq_true rfl, Nat.le_of_ble_eq_true rfl⟩ (fun rp_4 wp_4 H locs hp_4 G => ?_)
      obtain ⟨rfl, rfl⟩ := hp_4
      have G := G.sub (ws' := wW cA a (sS σ 1 (tRepF 256 (σ 1) 1 a1 0))) [0, 12, 13, 1, 2, 3, 4, 5, 6, 7, 8, 9, 10, 11] rfl (ww_sT1 cA a _ _)
      refine lv_pop hx hb d_W_carryOut_61 rfl ?_
      refine lv_goto (tgt := 96) hx hb d_W_carryOut_62 (by decide) ?_
      exact g_retv S hr hlk G (by first | rfl | (simp only [wCar, eq_true c_1, eq_true c_2, ↓reduceIte]; done) | (simp only [wCar, eq_true c_1, eq_true c_2, ↓reduceIte]; rfl)) (Nat.le_refl _) (Nat.le_refl _) d_W_carryOut_96
  by_cases c_5 : f = 6
  · refine lv_lookup (tgt := 65) hx hb d_W_carryOut_1 (by decide) (by first | (rw [c_5]; done) | (rw [c_5]; rfl)) (by decide) ?_
    refine lv_aload_n hx hb d_W_carryOut_65 rfl (lv_at hl 0 rfl) ?_
    refine g_get S G in_W 0 rfl rfl 3 (by decide) fl_W_35 rfl d_W_carryOut_66 ?_
    refine lv_iload_n hx hb d_W_carryOut_69 rfl (lv_at hl 2 rfl) ?_
    refine lv_iload_n hx hb d_W_carryOut_70 rfl (lv_at hl 3 rfl) ?_
    refine g_cVi (rest := []) S G (c_T_replace l D cA (a 5) (a 6) 64 (σ 3) 65535 a1 n (by decide)) (cwV 2 S.2.2.2.2 ml_W_87 rfl rfl rfl (by decide +kernel) ⟨Nat.le_of_ble_eq_true rfl, Nat.le_of_ble_eq_true rfl⟩) [5, 6] [0, 1, 2, 3, 4, 7, 8, 9, 10, 11, 12, 13] rfl rfl rfl rfl (by decide) 5 rfl rfl rfl hl.1 rfl (Nat.le_of_ble_eq_true rfl) d_W_carryOut_71 ⟨Nat.le_of_ble_eq_true rfl, Nat.le_of_ble_eq_true rfl⟩ (fun rp_6 wp_6 H locs hp_6 G => ?_)
    obtain ⟨rfl, rfl⟩ := hp_6
    have G := G.sub (ws' := wW cA a (sS σ 3 (tRepF 64 (σ 3) 65535 a1 n))) [0, 1, 2, 3, 4, 12, 13, 5, 6, 7, 8, 9, 10, 11] rfl (ww_sT5 cA a _ _)
    refine lv_pop hx hb d_W_carryOut_74 rfl ?_
    refine lv_goto (tgt := 96) hx hb d_W_carryOut_75 (by decide) ?_
    exact g_retv S hr hlk G (by first | rfl | (simp only [wCar, eq_false c_1, eq_true c_5, ↓reduceIte]; done) | (simp only [wCar, eq_false c_1, eq_true c_5, ↓reduceIte]; rfl)) (Nat.le_refl _) (Nat.le_refl _) d_W_carryOut_96
  by_cases c_7 : f = 15
  · refine lv_lookup (tgt := 78) hx hb d_W_carryOut_1 (by decide) (by first | (rw [c_7]; done) | (rw [c_7]; rfl)) (by decide) ?_
    refine lv_aload_n hx hb d_W_carryOut_78 rfl (lv_at hl 0 rfl) ?_
    refine lv_iload_n hx hb d_W_carryOut_79 rfl (lv_at hl 2 rfl) ?_
    refine lv_iload_n hx hb d_W_carryOut_80 rfl (lv_at hl 3 rfl) ?_
    refine g_cVv (rest := []) S G (c_W_writeCoils l D cA a σ a1 n) (cwV 2 S.2.2.2.2 ml_W_162 rfl rfl rfl (by decide +kernel) ⟨Nat.le_of_ble_eq_true rfl, Nat.le_of_ble_eq_true rfl⟩) [0, 1, 2, 3, 4, 5, 6, 7, 8, 9, 10, 11, 12, 13] [] rfl rfl rfl rfl (by decide) 0 rfl rfl rfl hl.1 rfl (Nat.le_of_ble_eq_true rfl) d_W_carryOut_81 ⟨Nat.le_of_ble_eq_true rfl, Nat.le_of_ble_eq_true rfl⟩ (fun wp_8 H locs hp_8 G => ?_)
    subst hp_8
    have G : Gw D vwCl [(cA, .int)] AA ss ss.heap H locs (wW cA a (wWrC a1 n.toNatClampNeg 0 σ)) := G
    refine lv_goto (tgt := 96) hx hb d_W_carryOut_84 (by decide) ?_
    exact g_retv S hr hlk G (by first | rfl | (simp only [wCar, eq_false c_1, eq_false c_5, eq_true c_7, ↓reduceIte]; done) | (simp only [wCar, eq_false c_1, eq_false c_5, eq_true c_7, ↓reduceIte]; rfl)) (Nat.le_refl _) (Nat.le_refl _) d_W_carryOut_96
  by_cases c_9 : f = 16
  · refine lv_lookup (tgt := 87) hx hb d_W_carryOut_1 (by decide) (by first | (rw [c_9]; done) | (rw [c_9]; rfl)) (by decide) ?_
    refine lv_aload_n hx hb d_W_carryOut_87 rfl (lv_at hl 0 rfl) ?_
    refine lv_iload_n hx hb d_W_carryOut_88 rfl (lv_at hl 2 rfl) ?_
    refine lv_iload_n hx hb d_W_carryOut_89 rfl (lv_at hl 3 rfl) ?_
    refine g_cVv (rest := []) S G (c_W_writeRegisters l D cA a σ a1 n) (cwV 2 S.2.2.2.2 ml_W_166 rfl rfl rfl (by decide +kernel) ⟨Nat.le_of_ble_eq_true rfl, Nat.le_of_ble_eq_true rfl⟩) [0, 1, 2, 3, 4, 5, 6, 7, 8, 9, 10, 11, 12, 13] [] rfl rfl rfl rfl (by decide) 0 rfl rfl rfl hl.1 rfl (Nat.le_of_ble_eq_true rfl) d_W_carryOut_90 ⟨Nat.le_of_ble_eq_true rfl, Nat.le_of_ble_eq_true rfl⟩ (fun wp_10 H locs hp_10 G => ?_)
    subst hp_10
    have G : Gw D vwCl [(cA, .int)] AA ss ss.heap H locs (wW cA a (wWrR a1 n.toNatClampNeg 0 σ)) := G
    refine lv_goto (tgt := 96) hx hb d_W_carryOut_93 (by decide) ?_
    exact g_retv S hr hlk G (by first | rfl | (simp only [wCar, eq_false c_1, eq_false c_5, eq_false c_7, eq_true c_9, ↓reduceIte]; done) | (simp only [wCar, eq_false c_1, eq_false c_5, eq_false c_7, eq_true c_9, ↓reduceIte]; rfl)) (Nat.le_refl _) (Nat.le_refl _) d_W_carryOut_96
  refine lv_lookup (tgt := 96) (off := 95) hx hb d_W_carryOut_1 (by decide) ((lv_osw c_1 (by decide)).trans ((lv_osw c_5 (by decide)).trans ((lv_osw c_7 (by decide)).trans ((lv_osw c_9 (by decide)).trans (rfl))))) (by decide) ?_
  exact g_retv S hr hlk G (by first | rfl | (simp only [wCar, eq_false c_1, eq_false c_5, eq_false c_7, eq_false c_9, ↓reduceIte]; done) | (simp only [wCar, eq_false c_1, eq_false c_5, eq_false c_7, eq_false c_9, ↓reduceIte]; rfl)) (Nat.le_refl _) (Nat.le_refl _) d_W_carryOut_96
end
section
abbrev rm_W_appendBits : Room := { frames := 3, cells := 0, slots := 0, locals := 66 }
set_option maxHeartbeats 4000000 in
set_option maxRecDepth 100000 in
theorem c_W_appendBits1 (l : Launch) (D : va_G) (cA : ClassId) (a : Nat → Nat) (σ : St) (a1 c0 : Int32) (hc : c0.toNatClampNeg ≤ 1073741824) : Cv l y_W_appendBits w_W_appendBits rm_W_appendBits D vwCl [(cA, .int)] [.ref (a 0), .ref (a 1), .int a1, .int c0] (wW cA a σ) 0 0 (fun w0 => w0 = wW cA a (wBits σ 256 1 a1 c0)) := by
  refine Cv.of (Ts := lw_g) (own := "WireSlave") (cc := b_W_appendBits) (maxL := 5) (ret := none) (lv := [(0, .ref (a 0)), (1, .ref (a 1)), (2, .int a1), (3, .int c0)]) (by decide) rfl rfl (fun w h => List.mem_cons_of_mem _ h) (Nat.le_of_ble_eq_true rfl) rfl ?_
  intro pp ee ss mm args below meth cx AA S hr hlk hnm G ls hl
  have hx := S.1
  have hb := S.2.1
  refine lv_aload_n hx hb d_W_appendBits_0 rfl (lv_at hl 0 rfl) ?_
  refine g_get S G in_W 0 rfl rfl 6 (by decide) fl_W_50 rfl d_W_appendBits_1 ?_
  refine lv_iload_n hx hb d_W_appendBits_4 rfl (lv_at hl 3 rfl) ?_
  refine g_cSi (rest := [.ref (a 11)]) S G (c_W_bytesForBits l D cA c0) (va_cwS 1 S.2.2.2.2 ml_W_159 rfl rfl rfl (by decide +kernel) ⟨Nat.le_of_ble_eq_true rfl, Nat.le_of_ble_eq_true rfl⟩) [] [0, 1, 2, 3, 4, 5, 6, 7, 8, 9, 10, 11, 12, 13] rfl rfl rfl rfl (by decide) rfl hl.1 rfl (Nat.le_of_ble_eq_true rfl) d_W_appendBits_5 ⟨Nat.le_of_ble_eq_true rfl, Nat.le_of_ble_eq_true rfl⟩ (fun rp_1 wp_1 H locs hp_1 G => ?_)
  obtain ⟨ep_1, rfl⟩ := hp_1
  have G := G.sub (ws' := wW cA a σ) [0, 1, 2, 3, 4, 5, 6, 7, 8, 9, 10, 11, 12, 13] rfl (ww_id cA a _)
  refine g_cVv (rest := []) S G (c_B_append l D cA (a 11) (a 12) 256 (σ 6) (σ 0 4) rp_1 (by decide)) (cwV 1 S.2.2.2.2 ml_W_95 rfl rfl rfl (by decide +kernel) ⟨Nat.le_of_ble_eq_true rfl, Nat.le_of_ble_eq_true rfl⟩) [11, 12] [0, 1, 2, 3, 4, 5, 6, 7, 8, 9, 10, 13] rfl rfl rfl rfl (by decide) 11 rfl rfl rfl hl.1 rfl (Nat.le_of_ble_eq_true rfl) d_W_appendBits_8 ⟨Nat.le_of_ble_eq_true rfl, Nat.le_of_ble_eq_true rfl⟩ (fun wp_2 H locs hp_2 G => ?_)
  subst hp_2
  have G := G.sub (ws' := wW cA a (wApA σ rp_1)) [0, 1, 2, 3, 4, 5, 6, 7, 8, 9, 10, 12, 13, 11] rfl (ww_aB11 cA a _ _)
  refine lv_iconst (v := 0) hx hb d_W_appendBits_11 (by decide) ?_
  refine lv_istore (lv' := [(4, .int 0), (0, .ref (a 0)), (1, .ref (a 1)), (2, .int a1), (3, .int c0)]) hx hb d_W_appendBits_12 hl (by decide) rfl (fun ls hl => ?_)
  subst ep_1
  have lp : ∀ (n : Nat) (i : Nat) (ρ : St) (H : Heap) (locs : List Loc) (ls : Array Slot), (i + 8 * n = 8 * cnt8 c0) → (apB 256 1 a1 c0 n i ρ = wBits σ 256 1 a1 c0) → Gw D vwCl [(cA, .int)] AA ss ss.heap H locs (wW cA a (ρ)) → lv_has ls 5 [(0, .ref (a 0)), (1, .ref (a 1)), (2, .int a1), (3, .int c0), (4, .int (nI i))] → W pp l ee rm_W_appendBits ss mm args below meth cx H locs 0 0 (Zv D vwCl [(cA, .int)] AA ss args below 0 0 (fun w0 => w0 = wW cA a (wBits σ 256 1 a1 c0))) (F0 mm 14 ls []) := by
    intro n
    induction n with
    | zero =>
      intro i ρ H locs ls hi hF G hl
      refine lv_iload hx hb d_W_appendBits_14 (lv_at hl 4 rfl) ?_
      refine lv_iload_n hx hb d_W_appendBits_16 rfl (lv_at hl 3 rfl) ?_
      have k_3 : c0 ≤ (nI i) := le_clampU (by unfold cnt8 at hi; omega) (by unfold cnt8 at hi; omega)
      refine lv_icmp_ge (tgt := 50) hx hb d_W_appendBits_17 (by decide) (fun _ => ?_) (fun h9 => absurd k_3 h9)
      exact g_retv S hr hlk G (congrArg (wW cA a) hF) (Nat.le_refl _) (Nat.le_refl _) d_W_appendBits_50
    | succ n ih =>
      intro i ρ H locs ls hi hF G hl
      refine lv_iload hx hb d_W_appendBits_14 (lv_at hl 4 rfl) ?_
      refine lv_iload_n hx hb d_W_appendBits_16 rfl (lv_at hl 3 rfl) ?_
      have k_4 : ¬ (c0 ≤ (nI i)) := nle_clamp (by unfold cnt8 at hi; omega)
      refine lv_icmp_ge (tgt := 50) hx hb d_W_appendBits_17 (by decide) (fun h9 => absurd h9 k_4) (fun _ => ?_)
      refine lv_aload_n hx hb d_W_appendBits_20 rfl (lv_at hl 0 rfl) ?_
      refine g_get S G in_W 0 rfl rfl 6 (by decide) fl_W_50 rfl d_W_appendBits_21 ?_
      refine lv_aload_n hx hb d_W_appendBits_24 rfl (lv_at hl 1 rfl) ?_
      refine lv_iload_n hx hb d_W_appendBits_25 rfl (lv_at hl 2 rfl) ?_
      refine lv_iload hx hb d_W_appendBits_26 (lv_at hl 4 rfl) ?_
      refine lv_iadd hx hb d_W_appendBits_28 ?_
      refine lv_bipush (v := 8) hx hb d_W_appendBits_29 (by decide) ?_
      refine lv_iload_n hx hb d_W_appendBits_31 rfl (lv_at hl 3 rfl) ?_
      refine lv_iload hx hb d_W_appendBits_32 (lv_at hl 4 rfl) ?_
      refine lv_isub hx hb d_W_appendBits_34 ?_
      refine va_mmin hx hb (S.2.2.1.trans hl.1.symm) S.2.2.2.1 (S.2.2.2.2 _ mj_W_9) (S.2.2.2.2 _ sj_min) (S.2.2.2.2 _ ij_) (S.2.2.2.2 _ cj_min) (Nat.le_of_ble_eq_true rfl) (Nat.le_of_ble_eq_true rfl) (Nat.le_of_ble_eq_true rfl) (Nat.le_of_ble_eq_true rfl) d_W_appendBits_35 ?_
      refine g_cSi (rest := [.ref (a 11)]) S G (c_W_packedBits l D cA (a 1) (a 2) 256 ((ρ) 1) 1 (a1 + (nI i)) (minI 8 (c0 - (nI i))) (by decide)) (va_cwS 3 S.2.2.2.2 ml_W_179 rfl rfl rfl (by decide +kernel) ⟨Nat.le_of_ble_eq_true rfl, Nat.le_of_ble_eq_true rfl⟩) [1, 2] [0, 3, 4, 5, 6, 7, 8, 9, 10, 11, 12, 13] rfl rfl rfl rfl (by decide) rfl hl.1 rfl (Nat.le_of_ble_eq_true rfl) d_W_appendBits_38 ⟨Nat.le_of_ble_eq_true rfl, Nat.le_of_ble_eq_true rfl⟩ (fun rp_5 wp_5 H locs hp_5 G => ?_)
      obtain ⟨ep_5, rfl⟩ := hp_5
      have G := G.sub (ws' := wW cA a (ρ)) [0, 12, 13, 1, 2, 3, 4, 5, 6, 7, 8, 9, 10, 11] rfl (ww_T1 cA a _)
      refine g_cVv (rest := []) S G (c_B_append l D cA (a 11) (a 12) 256 ((ρ) 6) ((ρ) 0 4) rp_5 (by decide)) (cwV 1 S.2.2.2.2 ml_W_95 rfl rfl rfl (by decide +kernel) ⟨Nat.le_of_ble_eq_true rfl, Nat.le_of_ble_eq_true rfl⟩) [11, 12] [0, 1, 2, 3, 4, 5, 6, 7, 8, 9, 10, 13] rfl rfl rfl rfl (by decide) 11 rfl rfl rfl hl.1 rfl (Nat.le_of_ble_eq_true rfl) d_W_appendBits_41 ⟨Nat.le_of_ble_eq_true rfl, Nat.le_of_ble_eq_true rfl⟩ (fun wp_6 H locs hp_6 G => ?_)
      subst hp_6
      have G := G.sub (ws' := wW cA a (wApA (ρ) rp_5)) [0, 1, 2, 3, 4, 5, 6, 7, 8, 9, 10, 12, 13, 11] rfl (ww_aB11 cA a _ _)
      refine lv_iinc (v := (nI i) + 8) (lv' := [(4, .int ((nI i) + 8)), (0, .ref (a 0)), (1, .ref (a 1)), (2, .int a1), (3, .int c0)]) hx hb d_W_appendBits_44 hl (k := 4) rfl rfl (by decide) rfl (fun ls hl => ?_)
      refine lv_goto (tgt := 14) hx hb d_W_appendBits_47 (by decide) ?_
      subst ep_5
      have hl := lv_sub hl [1, 2, 3, 4, 0] rfl
      rw [show nI i + 8 = nI (i + 8) from nI_add i 8] at hl
      exact ih (i + 8) _ H locs ls (by omega) hF G hl
  exact lp (cnt8 c0) 0 _ _ _ ls (Nat.zero_add _) rfl G (lv_sub hl [1, 2, 3, 4, 0] rfl)

set_option maxHeartbeats 4000000 in
set_option maxRecDepth 100000 in
theorem c_W_appendBits2 (l : Launch) (D : va_G) (cA : ClassId) (a : Nat → Nat) (σ : St) (a1 c0 : Int32) (hc : c0.toNatClampNeg ≤ 1073741824) : Cv l y_W_appendBits w_W_appendBits rm_W_appendBits D vwCl [(cA, .int)] [.ref (a 0), .ref (a 3), .int a1, .int c0] (wW cA a σ) 0 0 (fun w0 => w0 = wW cA a (wBits σ 256 2 a1 c0)) := by
  refine Cv.of (Ts := lw_g) (own := "WireSlave") (cc := b_W_appendBits) (maxL := 5) (ret := none) (lv := [(0, .ref (a 0)), (1, .ref (a 3)), (2, .int a1), (3, .int c0)]) (by decide) rfl rfl (fun w h => List.mem_cons_of_mem _ h) (Nat.le_of_ble_eq_true rfl) rfl ?_
  intro pp ee ss mm args below meth cx AA S hr hlk hnm G ls hl
  have hx := S.1
  have hb := S.2.1
  refine lv_aload_n hx hb d_W_appendBits_0 rfl (lv_at hl 0 rfl) ?_
  refine g_get S G in_W 0 rfl rfl 6 (by decide) fl_W_50 rfl d_W_appendBits_1 ?_
  refine lv_iload_n hx hb d_W_appendBits_4 rfl (lv_at hl 3 rfl) ?_
  refine g_cSi (rest := [.ref (a 11)]) S G (c_W_bytesForBits l D cA c0) (va_cwS 1 S.2.2.2.2 ml_W_159 rfl rfl rfl (by decide +kernel) ⟨Nat.le_of_ble_eq_true rfl, Nat.le_of_ble_eq_true rfl⟩) [] [0, 1, 2, 3, 4, 5, 6, 7, 8, 9, 10, 11, 12, 13] rfl rfl rfl rfl (by decide) rfl hl.1 rfl (Nat.le_of_ble_eq_true rfl) d_W_appendBits_5 ⟨Nat.le_of_ble_eq_true rfl, Nat.le_of_ble_eq_true rfl⟩ (fun rp_1 wp_1 H locs hp_1 G => ?_)
  obtain ⟨ep_1, rfl⟩ := hp_1
  have G := G.sub (ws' := wW cA a σ) [0, 1, 2, 3, 4, 5, 6, 7, 8, 9, 10, 11, 12, 13] rfl (ww_id cA a _)
  refine g_cVv (rest := []) S G (c_B_append l D cA (a 11) (a 12) 256 (σ 6) (σ 0 4) rp_1 (by decide)) (cwV 1 S.2.2.2.2 ml_W_95 rfl rfl rfl (by decide +kernel) ⟨Nat.le_of_ble_eq_true rfl, Nat.le_of_ble_eq_true rfl⟩) [11, 12] [0, 1, 2, 3, 4, 5, 6, 7, 8, 9, 10, 13] rfl rfl rfl rfl (by decide) 11 rfl rfl rfl hl.1 rfl (Nat.le_of_ble_eq_true rfl) d_W_appendBits_8 ⟨Nat.le_of_ble_eq_true rfl, Nat.le_of_ble_eq_true rfl⟩ (fun wp_2 H locs hp_2 G => ?_)
  subst hp_2
  have G := G.sub (ws' := wW cA a (wApA σ rp_1)) [0, 1, 2, 3, 4, 5, 6, 7, 8, 9, 10, 12, 13, 11] rfl (ww_aB11 cA a _ _)
  refine lv_iconst (v := 0) hx hb d_W_appendBits_11 (by decide) ?_
  refine lv_istore (lv' := [(4, .int 0), (0, .ref (a 0)), (1, .ref (a 3)), (2, .int a1), (3, .int c0)]) hx hb d_W_appendBits_12 hl (by decide) rfl (fun ls hl => ?_)
  subst ep_1
  have lp : ∀ (n : Nat) (i : Nat) (ρ : St) (H : Heap) (locs : List Loc) (ls : Array Slot), (i + 8 * n = 8 * cnt8 c0) → (apB 256 2 a1 c0 n i ρ = wBits σ 256 2 a1 c0) → Gw D vwCl [(cA, .int)] AA ss ss.heap H locs (wW cA a (ρ)) → lv_has ls 5 [(0, .ref (a 0)), (1, .ref (a 3)), (2, .int a1), (3, .int c0), (4, .int (nI i))] → W pp l ee rm_W_appendBits ss mm args below meth cx H locs 0 0 (Zv D vwCl [(cA, .int)] AA ss args below 0 0 (fun w0 => w0 = wW cA a (wBits σ 256 2 a1 c0))) (F0 mm 14 ls []) := by
    intro n
    induction n with
    | zero =>
      intro i ρ H locs ls hi hF G hl
      refine lv_iload hx hb d_W_appendBits_14 (lv_at hl 4 rfl) ?_
      refine lv_iload_n hx hb d_W_appendBits_16 rfl (lv_at hl 3 rfl) ?_
      have k_3 : c0 ≤ (nI i) := le_clampU (by unfold cnt8 at hi; omega) (by unfold cnt8 at hi; omega)
      refine lv_icmp_ge (tgt := 50) hx hb d_W_appendBits_17 (by decide) (fun _ => ?_) (fun h9 => absurd k_3 h9)
      exact g_retv S hr hlk G (congrArg (wW cA a) hF) (Nat.le_refl _) (Nat.le_refl _) d_W_appendBits_50
    | succ n ih =>
      intro i ρ H locs ls hi hF G hl
      refine lv_iload hx hb d_W_appendBits_14 (lv_at hl 4 rfl) ?_
      refine lv_iload_n hx hb d_W_appendBits_16 rfl (lv_at hl 3 rfl) ?_
      have k_4 : ¬ (c0 ≤ (nI i)) := nle_clamp (by unfold cnt8 at hi; omega)
      refine lv_icmp_ge (tgt := 50) hx hb d_W_appendBits_17 (by decide) (fun h9 => absurd h9 k_4) (fun _ => ?_)
      refine lv_aload_n hx hb d_W_appendBits_20 rfl (lv_at hl 0 rfl) ?_
      refine g_get S G in_W 0 rfl rfl 6 (by decide) fl_W_50 rfl d_W_appendBits_21 ?_
      refine lv_aload_n hx hb d_W_appendBits_24 rfl (lv_at hl 1 rfl) ?_
      refine lv_iload_n hx hb d_W_appendBits_25 rfl (lv_at hl 2 rfl) ?_
      refine lv_iload hx hb d_W_appendBits_26 (lv_at hl 4 rfl) ?_
      refine lv_iadd hx hb d_W_appendBits_28 ?_
      refine lv_bipush (v := 8) hx hb d_W_appendBits_29 (by decide) ?_
      refine lv_iload_n hx hb d_W_appendBits_31 rfl (lv_at hl 3 rfl) ?_
      refine lv_iload hx hb d_W_appendBits_32 (lv_at hl 4 rfl) ?_
      refine lv_isub hx hb d_W_appendBits_34 ?_
      refine va_mmin hx hb (S.2.2.1.trans hl.1.symm) S.2.2.2.1 (S.2.2.2.2 _ mj_W_9) (S.2.2.2.2 _ sj_min) (S.2.2.2.2 _ ij_) (S.2.2.2.2 _ cj_min) (Nat.le_of_ble_eq_true rfl) (Nat.le_of_ble_eq_true rfl) (Nat.le_of_ble_eq_true rfl) (Nat.le_of_ble_eq_true rfl) d_W_appendBits_35 ?_
      refine g_cSi (rest := [.ref (a 11)]) S G (c_W_packedBits l D cA (a 3) (a 4) 256 ((ρ) 2) 1 (a1 + (nI i)) (minI 8 (c0 - (nI i))) (by decide)) (va_cwS 3 S.2.2.2.2 ml_W_179 rfl rfl rfl (by decide +kernel) ⟨Nat.le_of_ble_eq_true rfl, Nat.le_of_ble_eq_true rfl⟩) [3, 4] [0, 1, 2, 5, 6, 7, 8, 9, 10, 11, 12, 13] rfl rfl rfl rfl (by decide) rfl hl.1 rfl (Nat.le_of_ble_eq_true rfl) d_W_appendBits_38 ⟨Nat.le_of_ble_eq_true rfl, Nat.le_of_ble_eq_true rfl⟩ (fun rp_5 wp_5 H locs hp_5 G => ?_)
      obtain ⟨ep_5, rfl⟩ := hp_5
      have G := G.sub (ws' := wW cA a (ρ)) [0, 1, 2, 12, 13, 3, 4, 5, 6, 7, 8, 9, 10, 11] rfl (ww_T3 cA a _)
      refine g_cVv (rest := []) S G (c_B_append l D cA (a 11) (a 12) 256 ((ρ) 6) ((ρ) 0 4) rp_5 (by decide)) (cwV 1 S.2.2.2.2 ml_W_95 rfl rfl rfl (by decide +kernel) ⟨Nat.le_of_ble_eq_true rfl, Nat.le_of_ble_eq_true rfl⟩) [11, 12] [0, 1, 2, 3, 4, 5, 6, 7, 8, 9, 10, 13] rfl rfl rfl rfl (by decide) 11 rfl rfl rfl hl.1 rfl (Nat.le_of_ble_eq_true rfl) d_W_appendBits_41 ⟨Nat.le_of_ble_eq_true rfl, Nat.le_of_ble_eq_true rfl⟩ (fun wp_6 H locs hp_6 G => ?_)
      subst hp_6
      have G := G.sub (ws' := wW cA a (wApA (ρ) rp_5)) [0, 1, 2, 3, 4, 5, 6, 7, 8, 9, 10, 12, 13, 11] rfl (ww_aB11 cA a _ _)
      refine lv_iinc (v := (nI i) + 8) (lv' := [(4, .int ((nI i) + 8)), (0, .ref (a 0)), (1, .ref (a 3)), (2, .int a1), (3, .int c0)]) hx hb d_W_appendBits_44 hl (k := 4) rfl rfl (by decide) rfl (fun ls hl => ?_)
      refine lv_goto (tgt := 14) hx hb d_W_appendBits_47 (by decide) ?_
      subst ep_5
      have hl := lv_sub hl [1, 2, 3, 4, 0] rfl
      rw [show nI i + 8 = nI (i + 8) from nI_add i 8] at hl
      exact ih (i + 8) _ H locs ls (by omega) hF G hl
  exact lp (cnt8 c0) 0 _ _ _ ls (Nat.zero_add _) rfl G (lv_sub hl [1, 2, 3, 4, 0] rfl)

abbrev rm_W_appendNumbers : Room := { frames := 2, cells := 0, slots := 0, locals := 42 }
set_option maxHeartbeats 4000000 in
set_option maxRecDepth 100000 in
theorem c_W_appendNumbers3 (l : Launch) (D : va_G) (cA : ClassId) (a : Nat → Nat) (σ : St) (a1 c0 : Int32)  : Cv l y_W_appendNumbers w_W_appendNumbers rm_W_appendNumbers D vwCl [(cA, .int)] [.ref (a 0), .ref (a 5), .int a1, .int c0] (wW cA a σ) 0 0 (fun w0 => w0 = wW cA a (wNums σ 64 3 a1 c0)) := by
  refine Cv.of (Ts := lw_g) (own := "WireSlave") (cc := b_W_appendNumbers) (maxL := 6) (ret := none) (lv := [(0, .ref (a 0)), (1, .ref (a 5)), (2, .int a1), (3, .int c0)]) (by decide) rfl rfl (fun w h => List.mem_cons_of_mem _ h) (Nat.le_of_ble_eq_true rfl) rfl ?_
  intro pp ee ss mm args below meth cx AA S hr hlk hnm G ls hl
  have hx := S.1
  have hb := S.2.1
  refine lv_aload_n hx hb d_W_appendNumbers_0 rfl (lv_at hl 0 rfl) ?_
  refine g_get S G in_W 0 rfl rfl 6 (by decide) fl_W_50 rfl d_W_appendNumbers_1 ?_
  refine lv_iconst (v := 2) hx hb d_W_appendNumbers_4 (by decide) ?_
  refine lv_iload_n hx hb d_W_appendNumbers_5 rfl (lv_at hl 3 rfl) ?_
  refine lv_imul hx hb d_W_appendNumbers_6 ?_
  refine g_cVv (rest := []) S G (c_B_append l D cA (a 11) (a 12) 256 (σ 6) (σ 0 4) (2 * c0) (by decide)) (cwV 1 S.2.2.2.2 ml_W_95 rfl rfl rfl (by decide +kernel) ⟨Nat.le_of_ble_eq_true rfl, Nat.le_of_ble_eq_true rfl⟩) [11, 12] [0, 1, 2, 3, 4, 5, 6, 7, 8, 9, 10, 13] rfl rfl rfl rfl (by decide) 11 rfl rfl rfl hl.1 rfl (Nat.le_of_ble_eq_true rfl) d_W_appendNumbers_7 ⟨Nat.le_of_ble_eq_true rfl, Nat.le_of_ble_eq_true rfl⟩ (fun wp_1 H locs hp_1 G => ?_)
  subst hp_1
  have G := G.sub (ws' := wW cA a (wApA σ (2 * c0))) [0, 1, 2, 3, 4, 5, 6, 7, 8, 9, 10, 12, 13, 11] rfl (ww_aB11 cA a _ _)
  refine lv_iconst (v := 0) hx hb d_W_appendNumbers_10 (by decide) ?_
  refine lv_istore (lv' := [(4, .int 0), (0, .ref (a 0)), (1, .ref (a 5)), (2, .int a1), (3, .int c0)]) hx hb d_W_appendNumbers_11 hl (by decide) rfl (fun ls hl => ?_)
  have lp : ∀ (n : Nat) (i : Nat) (ρ : St) (H : Heap) (locs : List Loc) (ls : Array Slot), (i + n = c0.toNatClampNeg) → (apN 64 3 a1 n i ρ = wNums σ 64 3 a1 c0) → Gw D vwCl [(cA, .int)] AA ss ss.heap H locs (wW cA a (ρ)) → lv_has ls 6 [(0, .ref (a 0)), (1, .ref (a 5)), (2, .int a1), (3, .int c0), (4, .int (nI i))] → W pp l ee rm_W_appendNumbers ss mm args below meth cx H locs 0 0 (Zv D vwCl [(cA, .int)] AA ss args below 0 0 (fun w0 => w0 = wW cA a (wNums σ 64 3 a1 c0))) (F0 mm 13 ls []) := by
    intro n
    induction n with
    | zero =>
      intro i ρ H locs ls hi hF G hl
      refine lv_iload hx hb d_W_appendNumbers_13 (lv_at hl 4 rfl) ?_
      refine lv_iload_n hx hb d_W_appendNumbers_15 rfl (lv_at hl 3 rfl) ?_
      have k_2 : c0 ≤ (nI i) := by rw [show i = c0.toNatClampNeg from hi]; exact le_clamp _
      refine lv_icmp_ge (tgt := 60) hx hb d_W_appendNumbers_16 (by decide) (fun _ => ?_) (fun h9 => absurd k_2 h9)
      exact g_retv S hr hlk G (congrArg (wW cA a) hF) (Nat.le_refl _) (Nat.le_refl _) d_W_appendNumbers_60
    | succ n ih =>
      intro i ρ H locs ls hi hF G hl
      refine lv_iload hx hb d_W_appendNumbers_13 (lv_at hl 4 rfl) ?_
      refine lv_iload_n hx hb d_W_appendNumbers_15 rfl (lv_at hl 3 rfl) ?_
      have k_3 : ¬ (c0 ≤ (nI i)) := nle_clamp (by omega)
      refine lv_icmp_ge (tgt := 60) hx hb d_W_appendNumbers_16 (by decide) (fun h9 => absurd h9 k_3) (fun _ => ?_)
      refine lv_aload_n hx hb d_W_appendNumbers_19 rfl (lv_at hl 1 rfl) ?_
      refine lv_iload_n hx hb d_W_appendNumbers_20 rfl (lv_at hl 2 rfl) ?_
      refine lv_iload hx hb d_W_appendNumbers_21 (lv_at hl 4 rfl) ?_
      refine lv_iadd hx hb d_W_appendNumbers_23 ?_
      refine g_cVi (rest := []) S G (c_T_at l D cA (a 5) (a 6) 64 ((ρ) 3) 65535 (a1 + (nI i)) (by decide)) (cwV 1 S.2.2.2.2 ml_W_90 rfl rfl rfl (by decide +kernel) ⟨Nat.le_of_ble_eq_true rfl, Nat.le_of_ble_eq_true rfl⟩) [5, 6] [0, 1, 2, 3, 4, 7, 8, 9, 10, 11, 12, 13] rfl rfl rfl rfl (by decide) 5 rfl rfl rfl hl.1 rfl (Nat.le_of_ble_eq_true rfl) d_W_appendNumbers_24 ⟨Nat.le_of_ble_eq_true rfl, Nat.le_of_ble_eq_true rfl⟩ (fun rp_4 wp_4 H locs hp_4 G => ?_)
      obtain ⟨ep_4, rfl⟩ := hp_4
      have G := G.sub (ws' := wW cA a (ρ)) [0, 1, 2, 3, 4, 12, 13, 5, 6, 7, 8, 9, 10, 11] rfl (ww_T5 cA a _)
      refine lv_istore (lv' := [(5, .int rp_4), (0, .ref (a 0)), (1, .ref (a 5)), (2, .int a1), (3, .int c0), (4, .int (nI i))]) hx hb d_W_appendNumbers_27 hl (by decide) rfl (fun ls hl => ?_)
      refine lv_aload_n hx hb d_W_appendNumbers_29 rfl (lv_at hl 1 rfl) ?_
      refine g_get S G in_W 0 rfl rfl 6 (by decide) fl_W_50 rfl d_W_appendNumbers_30 ?_
      refine lv_iload hx hb d_W_appendNumbers_33 (lv_at hl 0 rfl) ?_
      refine lv_bipush (v := 8) hx hb d_W_appendNumbers_35 (by decide) ?_
      refine lv_iushr (v := ush rp_4 8) hx hb d_W_appendNumbers_37 rfl ?_
      refine g_cVv (rest := []) S G (c_B_append l D cA (a 11) (a 12) 256 ((ρ) 6) ((ρ) 0 4) (ush rp_4 8) (by decide)) (cwV 1 S.2.2.2.2 ml_W_95 rfl rfl rfl (by decide +kernel) ⟨Nat.le_of_ble_eq_true rfl, Nat.le_of_ble_eq_true rfl⟩) [11, 12] [0, 1, 2, 3, 4, 5, 6, 7, 8, 9, 10, 13] rfl rfl rfl rfl (by decide) 11 rfl rfl rfl hl.1 rfl (Nat.le_of_ble_eq_true rfl) d_W_appendNumbers_38 ⟨Nat.le_of_ble_eq_true rfl, Nat.le_of_ble_eq_true rfl⟩ (fun wp_5 H locs hp_5 G => ?_)
      subst hp_5
      have G := G.sub (ws' := wW cA a (wApA (ρ) (ush rp_4 8))) [0, 1, 2, 3, 4, 5, 6, 7, 8, 9, 10, 12, 13, 11] rfl (ww_aB11 cA a _ _)
      refine lv_aload_n hx hb d_W_appendNumbers_41 rfl (lv_at hl 1 rfl) ?_
      refine g_get S G in_W 0 rfl rfl 6 (by decide) fl_W_50 rfl d_W_appendNumbers_42 ?_
      refine lv_iload hx hb d_W_appendNumbers_45 (lv_at hl 0 rfl) ?_
      refine lv_sipush (v := 255) hx hb d_W_appendNumbers_47 (by decide) ?_
      refine lv_iand hx hb d_W_appendNumbers_50 ?_
      refine g_cVv (rest := []) S G (c_B_append l D cA (a 11) (a 12) 256 ((wApA (ρ) (ush rp_4 8)) 6) ((wApA (ρ) (ush rp_4 8)) 0 4) (rp_4 &&& 255) (by decide)) (cwV 1 S.2.2.2.2 ml_W_95 rfl rfl rfl (by decide +kernel) ⟨Nat.le_of_ble_eq_true rfl, Nat.le_of_ble_eq_true rfl⟩) [11, 12] [0, 1, 2, 3, 4, 5, 6, 7, 8, 9, 10, 13] rfl rfl rfl rfl (by decide) 11 rfl rfl rfl hl.1 rfl (Nat.le_of_ble_eq_true rfl) d_W_appendNumbers_51 ⟨Nat.le_of_ble_eq_true rfl, Nat.le_of_ble_eq_true rfl⟩ (fun wp_6 H locs hp_6 G => ?_)
      subst hp_6
      have G := G.sub (ws' := wW cA a (wApA (wApA (ρ) (ush rp_4 8)) (rp_4 &&& 255))) [0, 1, 2, 3, 4, 5, 6, 7, 8, 9, 10, 12, 13, 11] rfl (ww_aB11 cA a _ _)
      refine lv_iinc (v := (nI i) + 1) (lv' := [(4, .int ((nI i) + 1)), (5, .int rp_4), (0, .ref (a 0)), (1, .ref (a 5)), (2, .int a1), (3, .int c0)]) hx hb d_W_appendNumbers_54 hl (k := 5) rfl rfl (by decide) rfl (fun ls hl => ?_)
      refine lv_goto (tgt := 13) hx hb d_W_appendNumbers_57 (by decide) ?_
      subst ep_4
      have hl := lv_sub hl [2, 3, 4, 5, 0] rfl
      rw [nI_1] at hl
      exact ih (i + 1) _ H locs ls (by omega) hF G hl
  exact lp c0.toNatClampNeg 0 _ _ _ ls (Nat.zero_add _) rfl G (lv_sub hl [1, 2, 3, 4, 0] rfl)

set_option maxHeartbeats 4000000 in
set_option maxRecDepth 100000 in
theorem c_W_appendNumbers4 (l : Launch) (D : va_G) (cA : ClassId) (a : Nat → Nat) (σ : St) (a1 c0 : Int32)  : Cv l y_W_appendNumbers w_W_appendNumbers rm_W_appendNumbers D vwCl [(cA, .int)] [.ref (a 0), .ref (a 7), .int a1, .int c0] (wW cA a σ) 0 0 (fun w0 => w0 = wW cA a (wNums σ 64 4 a1 c0)) := by
  refine Cv.of (Ts := lw_g) (own := "WireSlave") (cc := b_W_appendNumbers) (maxL := 6) (ret := none) (lv := [(0, .ref (a 0)), (1, .ref (a 7)), (2, .int a1), (3, .int c0)]) (by decide) rfl rfl (fun w h => List.mem_cons_of_mem _ h) (Nat.le_of_ble_eq_true rfl) rfl ?_
  intro pp ee ss mm args below meth cx AA S hr hlk hnm G ls hl
  have hx := S.1
  have hb := S.2.1
  refine lv_aload_n hx hb d_W_appendNumbers_0 rfl (lv_at hl 0 rfl) ?_
  refine g_get S G in_W 0 rfl rfl 6 (by decide) fl_W_50 rfl d_W_appendNumbers_1 ?_
  refine lv_iconst (v := 2) hx hb d_W_appendNumbers_4 (by decide) ?_
  refine lv_iload_n hx hb d_W_appendNumbers_5 rfl (lv_at hl 3 rfl) ?_
  refine lv_imul hx hb d_W_appendNumbers_6 ?_
  refine g_cVv (rest := []) S G (c_B_append l D cA (a 11) (a 12) 256 (σ 6) (σ 0 4) (2 * c0) (by decide)) (cwV 1 S.2.2.2.2 ml_W_95 rfl rfl rfl (by decide +kernel) ⟨Nat.le_of_ble_eq_true rfl, Nat.le_of_ble_eq_true rfl⟩) [11, 12] [0, 1, 2, 3, 4, 5, 6, 7, 8, 9, 10, 13] rfl rfl rfl rfl (by decide) 11 rfl rfl rfl hl.1 rfl (Nat.le_of_ble_eq_true rfl) d_W_appendNumbers_7 ⟨Nat.le_of_ble_eq_true rfl, Nat.le_of_ble_eq_true rfl⟩ (fun wp_1 H locs hp_1 G => ?_)
  subst hp_1
  have G := G.sub (ws' := wW cA a (wApA σ (2 * c0))) [0, 1, 2, 3, 4, 5, 6, 7, 8, 9, 10, 12, 13, 11] rfl (ww_aB11 cA a _ _)
  refine lv_iconst (v := 0) hx hb d_W_appendNumbers_10 (by decide) ?_
  refine lv_istore (lv' := [(4, .int 0), (0, .ref (a 0)), (1, .ref (a 7)), (2, .int a1), (3, .int c0)]) hx hb d_W_appendNumbers_11 hl (by decide) rfl (fun ls hl => ?_)
  have lp : ∀ (n : Nat) (i : Nat) (ρ : St) (H : Heap) (locs : List Loc) (ls : Array Slot), (i + n = c0.toNatClampNeg) → (apN 64 4 a1 n i ρ = wNums σ 64 4 a1 c0) → Gw D vwCl [(cA, .int)] AA ss ss.heap H locs (wW cA a (ρ)) → lv_has ls 6 [(0, .ref (a 0)), (1, .ref (a 7)), (2, .int a1), (3, .int c0), (4, .int (nI i))] → W pp l ee rm_W_appendNumbers ss mm args below meth cx H locs 0 0 (Zv D vwCl [(cA, .int)] AA ss args below 0 0 (fun w0 => w0 = wW cA a (wNums σ 64 4 a1 c0))) (F0 mm 13 ls []) := by
    intro n
    induction n with
    | zero =>
      intro i ρ H locs ls hi hF G hl
      refine lv_iload hx hb d_W_appendNumbers_13 (lv_at hl 4 rfl) ?_
      refine lv_iload_n hx hb d_W_appendNumbers_15 rfl (lv_at hl 3 rfl) ?_
      have k_2 : c0 ≤ (nI i) := by rw [show i = c0.toNatClampNeg from hi]; exact le_clamp _
      refine lv_icmp_ge (tgt := 60) hx hb d_W_appendNumbers_16 (by decide) (fun _ => ?_) (fun h9 => absurd k_2 h9)
      exact g_retv S hr hlk G (congrArg (wW cA a) hF) (Nat.le_refl _) (Nat.le_refl _) d_W_appendNumbers_60
    | succ n ih =>
      intro i ρ H locs ls hi hF G hl
      refine lv_iload hx hb d_W_appendNumbers_13 (lv_at hl 4 rfl) ?_
      refine lv_iload_n hx hb d_W_appendNumbers_15 rfl (lv_at hl 3 rfl) ?_
      have k_3 : ¬ (c0 ≤ (nI i)) := nle_clamp (by omega)
      refine lv_icmp_ge (tgt := 60) hx hb d_W_appendNumbers_16 (by decide) (fun h9 => absurd h9 k_3) (fun _ => ?_)
      refine lv_aload_n hx hb d_W_appendNumbers_19 rfl (lv_at hl 1 rfl) ?_
      refine lv_iload_n hx hb d_W_appendNumbers_20 rfl (lv_at hl 2 rfl) ?_
      refine lv_iload hx hb d_W_appendNumbers_21 (lv_at hl 4 rfl) ?_
      refine lv_iadd hx hb d_W_appendNumbers_23 ?_
      refine g_cVi (rest := []) S G (c_T_at l D cA (a 7) (a 8) 64 ((ρ) 4) 65535 (a1 + (nI i)) (by decide)) (cwV 1 S.2.2.2.2 ml_W_90 rfl rfl rfl (by decide +kernel) ⟨Nat.le_of_ble_eq_true rfl, Nat.le_of_ble_eq_true rfl⟩) [7, 8] [0, 1, 2, 3, 4, 5, 6, 9, 10, 11, 12, 13] rfl rfl rfl rfl (by decide) 7 rfl rfl rfl hl.1 rfl (Nat.le_of_ble_eq_true rfl) d_W_appendNumbers_24 ⟨Nat.le_of_ble_eq_true rfl, Nat.le_of_ble_eq_true rfl⟩ (fun rp_4 wp_4 H locs hp_4 G => ?_)
      obtain ⟨ep_4, rfl⟩ := hp_4
      have G := G.sub (ws' := wW cA a (ρ)) [0, 1, 2, 3, 4, 5, 6, 12, 13, 7, 8, 9, 10, 11] rfl (ww_T7 cA a _)
      refine lv_istore (lv' := [(5, .int rp_4), (0, .ref (a 0)), (1, .ref (a 7)), (2, .int a1), (3, .int c0), (4, .int (nI i))]) hx hb d_W_appendNumbers_27 hl (by decide) rfl (fun ls hl => ?_)
      refine lv_aload_n hx hb d_W_appendNumbers_29 rfl (lv_at hl 1 rfl) ?_
      refine g_get S G in_W 0 rfl rfl 6 (by decide) fl_W_50 rfl d_W_appendNumbers_30 ?_
      refine lv_iload hx hb d_W_appendNumbers_33 (lv_at hl 0 rfl) ?_
      refine lv_bipush (v := 8) hx hb d_W_appendNumbers_35 (by decide) ?_
      refine lv_iushr (v := ush rp_4 8) hx hb d_W_appendNumbers_37 rfl ?_
      refine g_cVv (rest := []) S G (c_B_append l D cA (a 11) (a 12) 256 ((ρ) 6) ((ρ) 0 4) (ush rp_4 8) (by decide)) (cwV 1 S.2.2.2.2 ml_W_95 rfl rfl rfl (by decide +kernel) ⟨Nat.le_of_ble_eq_true rfl, Nat.le_of_ble_eq_true rfl⟩) [11, 12] [0, 1, 2, 3, 4, 5, 6, 7, 8, 9, 10, 13] rfl rfl rfl rfl (by decide) 11 rfl rfl rfl hl.1 rfl (Nat.le_of_ble_eq_true rfl) d_W_appendNumbers_38 ⟨Nat.le_of_ble_eq_true rfl, Nat.le_of_ble_eq_true rfl⟩ (fun wp_5 H locs hp_5 G => ?_)
      subst hp_5
      have G := G.sub (ws' := wW cA a (wApA (ρ) (ush rp_4 8))) [0, 1, 2, 3, 4, 5, 6, 7, 8, 9, 10, 12, 13, 11] rfl (ww_aB11 cA a _ _)
      refine lv_aload_n hx hb d_W_appendNumbers_41 rfl (lv_at hl 1 rfl) ?_
      refine g_get S G in_W 0 rfl rfl 6 (by decide) fl_W_50 rfl d_W_appendNumbers_42 ?_
      refine lv_iload hx hb d_W_appendNumbers_45 (lv_at hl 0 rfl) ?_
      refine lv_sipush (v := 255) hx hb d_W_appendNumbers_47 (by decide) ?_
      refine lv_iand hx hb d_W_appendNumbers_50 ?_
      refine g_cVv (rest := []) S G (c_B_append l D cA (a 11) (a 12) 256 ((wApA (ρ) (ush rp_4 8)) 6) ((wApA (ρ) (ush rp_4 8)) 0 4) (rp_4 &&& 255) (by decide)) (cwV 1 S.2.2.2.2 ml_W_95 rfl rfl rfl (by decide +kernel) ⟨Nat.le_of_ble_eq_true rfl, Nat.le_of_ble_eq_true rfl⟩) [11, 12] [0, 1, 2, 3, 4, 5, 6, 7, 8, 9, 10, 13] rfl rfl rfl rfl (by decide) 11 rfl rfl rfl hl.1 rfl (Nat.le_of_ble_eq_true rfl) d_W_appendNumbers_51 ⟨Nat.le_of_ble_eq_true rfl, Nat.le_of_ble_eq_true rfl⟩ (fun wp_6 H locs hp_6 G => ?_)
      subst hp_6
      have G := G.sub (ws' := wW cA a (wApA (wApA (ρ) (ush rp_4 8)) (rp_4 &&& 255))) [0, 1, 2, 3, 4, 5, 6, 7, 8, 9, 10, 12, 13, 11] rfl (ww_aB11 cA a _ _)
      refine lv_iinc (v := (nI i) + 1) (lv' := [(4, .int ((nI i) + 1)), (5, .int rp_4), (0, .ref (a 0)), (1, .ref (a 7)), (2, .int a1), (3, .int c0)]) hx hb d_W_appendNumbers_54 hl (k := 5) rfl rfl (by decide) rfl (fun ls hl => ?_)
      refine lv_goto (tgt := 13) hx hb d_W_appendNumbers_57 (by decide) ?_
      subst ep_4
      have hl := lv_sub hl [2, 3, 4, 5, 0] rfl
      rw [nI_1] at hl
      exact ih (i + 1) _ H locs ls (by omega) hF G hl
  exact lp c0.toNatClampNeg 0 _ _ _ ls (Nat.zero_add _) rfl G (lv_sub hl [1, 2, 3, 4, 0] rfl)

abbrev rm_W_appendEcho : Room := { frames := 2, cells := 0, slots := 0, locals := 42 }
set_option maxHeartbeats 4000000 in
set_option maxRecDepth 100000 in
theorem c_W_appendEcho (l : Launch) (D : va_G) (cA : ClassId) (a : Nat → Nat) (σ : St)  : Cv l y_W_appendEcho w_W_appendEcho rm_W_appendEcho D vwCl [(cA, .int)] [.ref (a 0)] (wW cA a σ) 0 0 (fun w0 => w0 = wW cA a (wEcho 4 0 σ)) := by
  refine Cv.of (Ts := lw_g) (own := "WireSlave") (cc := b_W_appendEcho) (maxL := 2) (ret := none) (lv := [(0, .ref (a 0))]) (by decide) rfl rfl (fun w h => List.mem_cons_of_mem _ h) (Nat.le_of_ble_eq_true rfl) rfl ?_
  intro pp ee ss mm args below meth cx AA S hr hlk hnm G ls hl
  have hx := S.1
  have hb := S.2.1
  refine lv_iconst (v := 0) hx hb d_W_appendEcho_0 (by decide) ?_
  refine lv_istore_n (lv' := [(1, .int 0), (0, .ref (a 0))]) hx hb d_W_appendEcho_1 rfl hl (by decide) rfl (fun ls hl => ?_)
  have lp : ∀ (n : Nat) (i : Nat) (ρ : St) (H : Heap) (locs : List Loc) (ls : Array Slot), (i + n = 4) → (wEcho n i ρ = wEcho 4 0 σ) → Gw D vwCl [(cA, .int)] AA ss ss.heap H locs (wW cA a (ρ)) → lv_has ls 2 [(0, .ref (a 0)), (1, .int (nI i))] → W pp l ee rm_W_appendEcho ss mm args below meth cx H locs 0 0 (Zv D vwCl [(cA, .int)] AA ss args below 0 0 (fun w0 => w0 = wW cA a (wEcho 4 0 σ))) (F0 mm 2 ls []) := by
    intro n
    induction n with
    | zero =>
      intro i ρ H locs ls hi hF G hl
      refine lv_iload_n hx hb d_W_appendEcho_2 rfl (lv_at hl 1 rfl) ?_
      refine lv_iconst (v := 4) hx hb d_W_appendEcho_3 (by decide) ?_
      have k_1 : 4 ≤ (nI i) := by rw [show i = 4 from hi]; decide
      refine lv_icmp_ge (tgt := 25) hx hb d_W_appendEcho_4 (by decide) (fun _ => ?_) (fun h9 => absurd k_1 h9)
      exact g_retv S hr hlk G (congrArg (wW cA a) hF) (Nat.le_refl _) (Nat.le_refl _) d_W_appendEcho_25
    | succ n ih =>
      intro i ρ H locs ls hi hF G hl
      refine lv_iload_n hx hb d_W_appendEcho_2 rfl (lv_at hl 1 rfl) ?_
      refine lv_iconst (v := 4) hx hb d_W_appendEcho_3 (by decide) ?_
      have k_2 : ¬ (4 ≤ (nI i)) := nI_ge (b := 4) (by omega) (by decide)
      refine lv_icmp_ge (tgt := 25) hx hb d_W_appendEcho_4 (by decide) (fun h9 => absurd h9 k_2) (fun _ => ?_)
      refine lv_aload_n hx hb d_W_appendEcho_7 rfl (lv_at hl 0 rfl) ?_
      refine g_get S G in_W 0 rfl rfl 6 (by decide) fl_W_50 rfl d_W_appendEcho_8 ?_
      refine lv_aload_n hx hb d_W_appendEcho_11 rfl (lv_at hl 0 rfl) ?_
      refine lv_iload_n hx hb d_W_appendEcho_12 rfl (lv_at hl 1 rfl) ?_
      refine g_cVi (rest := [.ref (a 11)]) S G (c_W_data l D cA a (ρ) (nI i)) (cwV 1 S.2.2.2.2 ml_W_121 rfl rfl rfl (by decide +kernel) ⟨Nat.le_of_ble_eq_true rfl, Nat.le_of_ble_eq_true rfl⟩) [0, 1, 2, 3, 4, 5, 6, 7, 8, 9, 10, 11, 12, 13] [] rfl rfl rfl rfl (by decide) 0 rfl rfl rfl hl.1 rfl (Nat.le_of_ble_eq_true rfl) d_W_appendEcho_13 ⟨Nat.le_of_ble_eq_true rfl, Nat.le_of_ble_eq_true rfl⟩ (fun rp_3 wp_3 H locs hp_3 G => ?_)
      obtain ⟨rfl, rfl⟩ := hp_3
      have G : Gw D vwCl [(cA, .int)] AA ss ss.heap H locs (wW cA a (ρ)) := G
      refine g_cVv (rest := []) S G (c_B_append l D cA (a 11) (a 12) 256 ((ρ) 6) ((ρ) 0 4) (dAt (ρ) (nI i)) (by decide)) (cwV 1 S.2.2.2.2 ml_W_95 rfl rfl rfl (by decide +kernel) ⟨Nat.le_of_ble_eq_true rfl, Nat.le_of_ble_eq_true rfl⟩) [11, 12] [0, 1, 2, 3, 4, 5, 6, 7, 8, 9, 10, 13] rfl rfl rfl rfl (by decide) 11 rfl rfl rfl hl.1 rfl (Nat.le_of_ble_eq_true rfl) d_W_appendEcho_16 ⟨Nat.le_of_ble_eq_true rfl, Nat.le_of_ble_eq_true rfl⟩ (fun wp_4 H locs hp_4 G => ?_)
      subst hp_4
      have G := G.sub (ws' := wW cA a (wApA (ρ) (dAt (ρ) (nI i)))) [0, 1, 2, 3, 4, 5, 6, 7, 8, 9, 10, 12, 13, 11] rfl (ww_aB11 cA a _ _)
      refine lv_iinc (v := (nI i) + 1) (lv' := [(1, .int ((nI i) + 1)), (0, .ref (a 0))]) hx hb d_W_appendEcho_19 hl (k := 1) rfl rfl (by decide) rfl (fun ls hl => ?_)
      refine lv_goto (tgt := 2) hx hb d_W_appendEcho_22 (by decide) ?_
      have hl := lv_sub hl [1, 0] rfl
      rw [nI_1] at hl
      exact ih (i + 1) _ H locs ls (by omega) hF G hl
  exact lp 4 0 σ _ _ ls rfl rfl G (lv_sub hl [1, 0] rfl)

abbrev rm_W_appendResult : Room := { frames := 4, cells := 0, slots := 0, locals := 90 }
set_option maxHeartbeats 4000000 in
set_option maxRecDepth 100000 in
theorem c_W_appendResult (l : Launch) (D : va_G) (cA : ClassId) (a : Nat → Nat) (σ : St) (f a1 n : Int32) (hq : f = 1 ∨ f = 2 → n.toNatClampNeg ≤ 1073741824) : Cv l y_W_appendResult w_W_appendResult rm_W_appendResult D vwCl [(cA, .int)] [.ref (a 0), .int f, .int a1, .int n] (wW cA a σ) 0 0 (fun w0 => w0 = wW cA a (wRes σ f a1 n)) := by
  refine Cv.of (Ts := lw_g) (own := "WireSlave") (cc := b_W_appendResult) (maxL := 4) (ret := none) (lv := [(0, .ref (a 0)), (1, .int f), (2, .int a1), (3, .int n)]) (by decide) rfl rfl (fun w h => List.mem_cons_of_mem _ h) (Nat.le_of_ble_eq_true rfl) rfl ?_
  intro pp ee ss mm args below meth cx AA S hr hlk hnm G ls hl
  have hx := S.1
  have hb := S.2.1
  refine lv_iload_n hx hb d_W_appendResult_0 rfl (lv_at hl 1 rfl) ?_
  by_cases c_1 : f = 1
  · refine lv_tableIn (tgt := 32) hx hb d_W_appendResult_1 (by rw [c_1]; decide) (by rw [c_1]; decide) (by rw [c_1]; rfl) (by decide) ?_
    refine lv_aload_n hx hb d_W_appendResult_32 rfl (lv_at hl 0 rfl) ?_
    refine lv_aload_n hx hb d_W_appendResult_33 rfl (lv_at hl 0 rfl) ?_
    refine g_get S G in_W 0 rfl rfl 1 (by decide) fl_W_27 rfl d_W_appendResult_34 ?_
    refine lv_iload_n hx hb d_W_appendResult_37 rfl (lv_at hl 2 rfl) ?_
    refine lv_iload_n hx hb d_W_appendResult_38 rfl (lv_at hl 3 rfl) ?_
    refine g_cVv (rest := []) S G (c_W_appendBits1 l D cA a σ a1 n (hq (Or.inl c_1))) (cwV 3 S.2.2.2.2 ml_W_169 rfl rfl rfl (by decide +kernel) ⟨Nat.le_of_ble_eq_true rfl, Nat.le_of_ble_eq_true rfl⟩) [0, 1, 2, 3, 4, 5, 6, 7, 8, 9, 10, 11, 12, 13] [] rfl rfl rfl rfl (by decide) 0 rfl rfl rfl hl.1 rfl (Nat.le_of_ble_eq_true rfl) d_W_appendResult_39 ⟨Nat.le_of_ble_eq_true rfl, Nat.le_of_ble_eq_true rfl⟩ (fun wp_2 H locs hp_2 G => ?_)
    subst hp_2
    have G : Gw D vwCl [(cA, .int)] AA ss ss.heap H locs (wW cA a (wBits σ 256 1 a1 n)) := G
    refine lv_goto (tgt := 88) hx hb d_W_appendResult_42 (by decide) ?_
    exact g_retv S hr hlk G (by first | rfl | (simp only [wRes, eq_true c_1, ↓reduceIte]; done) | (simp only [wRes, eq_true c_1, ↓reduceIte]; rfl)) (Nat.le_refl _) (Nat.le_refl _) d_W_appendResult_88
  by_cases c_3 : f = 2
  · refine lv_tableIn (tgt := 45) hx hb d_W_appendResult_1 (by rw [c_3]; decide) (by rw [c_3]; decide) (by rw [c_3]; rfl) (by decide) ?_
    refine lv_aload_n hx hb d_W_appendResult_45 rfl (lv_at hl 0 rfl) ?_
    refine lv_aload_n hx hb d_W_appendResult_46 rfl (lv_at hl 0 rfl) ?_
    refine g_get S G in_W 0 rfl rfl 2 (by decide) fl_W_31 rfl d_W_appendResult_47 ?_
    refine lv_iload_n hx hb d_W_appendResult_50 rfl (lv_at hl 2 rfl) ?_
    refine lv_iload_n hx hb d_W_appendResult_51 rfl (lv_at hl 3 rfl) ?_
    refine g_cVv (rest := []) S G (c_W_appendBits2 l D cA a σ a1 n (hq (Or.inr c_3))) (cwV 3 S.2.2.2.2 ml_W_169 rfl rfl rfl (by decide +kernel) ⟨Nat.le_of_ble_eq_true rfl, Nat.le_of_ble_eq_true rfl⟩) [0, 1, 2, 3, 4, 5, 6, 7, 8, 9, 10, 11, 12, 13] [] rfl rfl rfl rfl (by decide) 0 rfl rfl rfl hl.1 rfl (Nat.le_of_ble_eq_true rfl) d_W_appendResult_52 ⟨Nat.le_of_ble_eq_true rfl, Nat.le_of_ble_eq_true rfl⟩ (fun wp_4 H locs hp_4 G => ?_)
    subst hp_4
    have G : Gw D vwCl [(cA, .int)] AA ss ss.heap H locs (wW cA a (wBits σ 256 2 a1 n)) := G
    refine lv_goto (tgt := 88) hx hb d_W_appendResult_55 (by decide) ?_
    exact g_retv S hr hlk G (by first | rfl | (simp only [wRes, eq_false c_1, eq_true c_3, ↓reduceIte]; done) | (simp only [wRes, eq_false c_1, eq_true c_3, ↓reduceIte]; rfl)) (Nat.le_refl _) (Nat.le_refl _) d_W_appendResult_88
  by_cases c_5 : f = 3
  · refine lv_tableIn (tgt := 58) hx hb d_W_appendResult_1 (by rw [c_5]; decide) (by rw [c_5]; decide) (by rw [c_5]; rfl) (by decide) ?_
    refine lv_aload_n hx hb d_W_appendResult_58 rfl (lv_at hl 0 rfl) ?_
    refine lv_aload_n hx hb d_W_appendResult_59 rfl (lv_at hl 0 rfl) ?_
    refine g_get S G in_W 0 rfl rfl 3 (by decide) fl_W_35 rfl d_W_appendResult_60 ?_
    refine lv_iload_n hx hb d_W_appendResult_63 rfl (lv_at hl 2 rfl) ?_
    refine lv_iload_n hx hb d_W_appendResult_64 rfl (lv_at hl 3 rfl) ?_
    refine g_cVv (rest := []) S G (c_W_appendNumbers3 l D cA a σ a1 n) (cwV 3 S.2.2.2.2 ml_W_173 rfl rfl rfl (by decide +kernel) ⟨Nat.le_of_ble_eq_true rfl, Nat.le_of_ble_eq_true rfl⟩) [0, 1, 2, 3, 4, 5, 6, 7, 8, 9, 10, 11, 12, 13] [] rfl rfl rfl rfl (by decide) 0 rfl rfl rfl hl.1 rfl (Nat.le_of_ble_eq_true rfl) d_W_appendResult_65 ⟨Nat.le_of_ble_eq_true rfl, Nat.le_of_ble_eq_true rfl⟩ (fun wp_6 H locs hp_6 G => ?_)
    subst hp_6
    have G : Gw D vwCl [(cA, .int)] AA ss ss.heap H locs (wW cA a (wNums σ 64 3 a1 n)) := G
    refine lv_goto (tgt := 88) hx hb d_W_appendResult_68 (by decide) ?_
    exact g_retv S hr hlk G (by first | rfl | (simp only [wRes, eq_false c_1, eq_false c_3, eq_true c_5, ↓reduceIte]; done) | (simp only [wRes, eq_false c_1, eq_false c_3, eq_true c_5, ↓reduceIte]; rfl)) (Nat.le_refl _) (Nat.le_refl _) d_W_appendResult_88
  by_cases c_7 : f = 4
  · refine lv_tableIn (tgt := 71) hx hb d_W_appendResult_1 (by rw [c_7]; decide) (by rw [c_7]; decide) (by rw [c_7]; rfl) (by decide) ?_
    refine lv_aload_n hx hb d_W_appendResult_71 rfl (lv_at hl 0 rfl) ?_
    refine lv_aload_n hx hb d_W_appendResult_72 rfl (lv_at hl 0 rfl) ?_
    refine g_get S G in_W 0 rfl rfl 4 (by decide) fl_W_38 rfl d_W_appendResult_73 ?_
    refine lv_iload_n hx hb d_W_appendResult_76 rfl (lv_at hl 2 rfl) ?_
    refine lv_iload_n hx hb d_W_appendResult_77 rfl (lv_at hl 3 rfl) ?_
    refine g_cVv (rest := []) S G (c_W_appendNumbers4 l D cA a σ a1 n) (cwV 3 S.2.2.2.2 ml_W_173 rfl rfl rfl (by decide +kernel) ⟨Nat.le_of_ble_eq_true rfl, Nat.le_of_ble_eq_true rfl⟩) [0, 1, 2, 3, 4, 5, 6, 7, 8, 9, 10, 11, 12, 13] [] rfl rfl rfl rfl (by decide) 0 rfl rfl rfl hl.1 rfl (Nat.le_of_ble_eq_true rfl) d_W_appendResult_78 ⟨Nat.le_of_ble_eq_true rfl, Nat.le_of_ble_eq_true rfl⟩ (fun wp_8 H locs hp_8 G => ?_)
    subst hp_8
    have G : Gw D vwCl [(cA, .int)] AA ss ss.heap H locs (wW cA a (wNums σ 64 4 a1 n)) := G
    refine lv_goto (tgt := 88) hx hb d_W_appendResult_81 (by decide) ?_
    exact g_retv S hr hlk G (by first | rfl | (simp only [wRes, eq_false c_1, eq_false c_3, eq_false c_5, eq_true c_7, ↓reduceIte]; done) | (simp only [wRes, eq_false c_1, eq_false c_3, eq_false c_5, eq_true c_7, ↓reduceIte]; rfl)) (Nat.le_refl _) (Nat.le_refl _) d_W_appendResult_88
  have nc_1 := lv_neT c_1 (a := 1) (by decide)
  have nc_3 := lv_neT c_3 (a := 2) (by decide)
  have nc_5 := lv_neT c_5 (a := 3) (by decide)
  have nc_7 := lv_neT c_7 (a := 4) (by decide)
  refine g_table (tgt := 84) (off := 83) hx hb d_W_appendResult_1 ?_ (by decide) ?_
  · exact if_pos (show (f.toInt < 1 ∨ 4 < f.toInt) by omega)
  refine lv_aload_n hx hb d_W_appendResult_84 rfl (lv_at hl 0 rfl) ?_
  refine g_cVv (rest := []) S G (c_W_appendEcho l D cA a σ) (cwV 0 S.2.2.2.2 ml_W_176 rfl rfl rfl (by decide +kernel) ⟨Nat.le_of_ble_eq_true rfl, Nat.le_of_ble_eq_true rfl⟩) [0, 1, 2, 3, 4, 5, 6, 7, 8, 9, 10, 11, 12, 13] [] rfl rfl rfl rfl (by decide) 0 rfl rfl rfl hl.1 rfl (Nat.le_of_ble_eq_true rfl) d_W_appendResult_85 ⟨Nat.le_of_ble_eq_true rfl, Nat.le_of_ble_eq_true rfl⟩ (fun wp_9 H locs hp_9 G => ?_)
  subst hp_9
  have G : Gw D vwCl [(cA, .int)] AA ss ss.heap H locs (wW cA a (wEcho 4 0 σ)) := G
  exact g_retv S hr hlk G (by first | rfl | (simp only [wRes, eq_false c_1, eq_false c_3, eq_false c_5, eq_false c_7, ↓reduceIte]; done) | (simp only [wRes, eq_false c_1, eq_false c_3, eq_false c_5, eq_false c_7, ↓reduceIte]; rfl)) (Nat.le_refl _) (Nat.le_refl _) d_W_appendResult_88
end
section
abbrev rm_W_answerRequest : Room := { frames := 5, cells := 0, slots := 0, locals := 113 }
set_option maxHeartbeats 4000000 in
set_option maxRecDepth 100000 in
theorem c_W_answerRequest (l : Launch) (D : va_G) (cA : ClassId) (a : Nat → Nat) (σ : St)  : Cv l y_W_answerRequest w_W_answerRequest rm_W_answerRequest D vwCl [(cA, .int)] [.ref (a 0)] (wW cA a σ) 0 0 (fun w0 => w0 = wW cA a (wAns σ)) := by
  refine Cv.of (Ts := lw_g) (own := "WireSlave") (cc := b_W_answerRequest) (maxL := 5) (ret := none) (lv := [(0, .ref (a 0))]) (by decide) rfl rfl (fun w h => List.mem_cons_of_mem _ h) (Nat.le_of_ble_eq_true rfl) rfl ?_
  intro pp ee ss mm args below meth cx AA S hr hlk hnm G ls hl
  have hx := S.1
  have hb := S.2.1
  refine lv_aload_n hx hb d_W_answerRequest_0 rfl (lv_at hl 0 rfl) ?_
  refine g_get S G in_W 0 rfl rfl 5 (by decide) fl_W_46 rfl d_W_answerRequest_1 ?_
  refine lv_iconst (v := 1) hx hb d_W_answerRequest_4 (by decide) ?_
  refine g_cVi (rest := []) S G (c_B_at l D cA (a 9) (a 10) 257 (σ 5) (σ 0 3) 1 (by decide)) (cwV 1 S.2.2.2.2 ml_W_79 rfl rfl rfl (by decide +kernel) ⟨Nat.le_of_ble_eq_true rfl, Nat.le_of_ble_eq_true rfl⟩) [9, 10] [0, 1, 2, 3, 4, 5, 6, 7, 8, 11, 12, 13] rfl rfl rfl rfl (by decide) 9 rfl rfl rfl hl.1 rfl (Nat.le_of_ble_eq_true rfl) d_W_answerRequest_5 ⟨Nat.le_of_ble_eq_true rfl, Nat.le_of_ble_eq_true rfl⟩ (fun rp_1 wp_1 H locs hp_1 G => ?_)
  obtain ⟨ep_1, rfl⟩ := hp_1
  have G := G.sub (ws' := wW cA a σ) [0, 1, 2, 3, 4, 5, 6, 7, 8, 12, 13, 9, 10, 11] rfl (ww_B9 cA a _)
  refine lv_istore_n (lv' := [(1, .int rp_1), (0, .ref (a 0))]) hx hb d_W_answerRequest_8 rfl hl (by decide) rfl (fun ls hl => ?_)
  refine lv_aload_n hx hb d_W_answerRequest_9 rfl (lv_at hl 1 rfl) ?_
  refine lv_iconst (v := 0) hx hb d_W_answerRequest_10 (by decide) ?_
  refine g_cVi (rest := []) S G (c_W_dataNumber l D cA a σ 0) (cwV 1 S.2.2.2.2 ml_W_124 rfl rfl rfl (by decide +kernel) ⟨Nat.le_of_ble_eq_true rfl, Nat.le_of_ble_eq_true rfl⟩) [0, 1, 2, 3, 4, 5, 6, 7, 8, 9, 10, 11, 12, 13] [] rfl rfl rfl rfl (by decide) 0 rfl rfl rfl hl.1 rfl (Nat.le_of_ble_eq_true rfl) d_W_answerRequest_11 ⟨Nat.le_of_ble_eq_true rfl, Nat.le_of_ble_eq_true rfl⟩ (fun rp_2 wp_2 H locs hp_2 G => ?_)
  obtain ⟨ep_2, rfl⟩ := hp_2
  have G : Gw D vwCl [(cA, .int)] AA ss ss.heap H locs (wW cA a σ) := G
  refine lv_istore_n (lv' := [(2, .int rp_2), (1, .int rp_1), (0, .ref (a 0))]) hx hb d_W_answerRequest_14 rfl hl (by decide) rfl (fun ls hl => ?_)
  refine lv_aload_n hx hb d_W_answerRequest_15 rfl (lv_at hl 2 rfl) ?_
  refine lv_iconst (v := 2) hx hb d_W_answerRequest_16 (by decide) ?_
  refine g_cVi (rest := []) S G (c_W_dataNumber l D cA a σ 2) (cwV 1 S.2.2.2.2 ml_W_124 rfl rfl rfl (by decide +kernel) ⟨Nat.le_of_ble_eq_true rfl, Nat.le_of_ble_eq_true rfl⟩) [0, 1, 2, 3, 4, 5, 6, 7, 8, 9, 10, 11, 12, 13] [] rfl rfl rfl rfl (by decide) 0 rfl rfl rfl hl.1 rfl (Nat.le_of_ble_eq_true rfl) d_W_answerRequest_17 ⟨Nat.le_of_ble_eq_true rfl, Nat.le_of_ble_eq_true rfl⟩ (fun rp_3 wp_3 H locs hp_3 G => ?_)
  obtain ⟨ep_3, rfl⟩ := hp_3
  have G : Gw D vwCl [(cA, .int)] AA ss ss.heap H locs (wW cA a σ) := G
  refine lv_istore_n (lv' := [(3, .int rp_3), (2, .int rp_2), (1, .int rp_1), (0, .ref (a 0))]) hx hb d_W_answerRequest_20 rfl hl (by decide) rfl (fun ls hl => ?_)
  refine lv_aload_n hx hb d_W_answerRequest_21 rfl (lv_at hl 3 rfl) ?_
  refine lv_iload_n hx hb d_W_answerRequest_22 rfl (lv_at hl 2 rfl) ?_
  refine lv_iload_n hx hb d_W_answerRequest_23 rfl (lv_at hl 1 rfl) ?_
  refine lv_iload_n hx hb d_W_answerRequest_24 rfl (lv_at hl 0 rfl) ?_
  refine g_cVi (rest := []) S G (c_W_refusalOf l D cA a σ rp_1 rp_2 rp_3) (cwV 3 S.2.2.2.2 ml_W_127 rfl rfl rfl (by decide +kernel) ⟨Nat.le_of_ble_eq_true rfl, Nat.le_of_ble_eq_true rfl⟩) [0, 1, 2, 3, 4, 5, 6, 7, 8, 9, 10, 11, 12, 13] [] rfl rfl rfl rfl (by decide) 0 rfl rfl rfl hl.1 rfl (Nat.le_of_ble_eq_true rfl) d_W_answerRequest_25 ⟨Nat.le_of_ble_eq_true rfl, Nat.le_of_ble_eq_true rfl⟩ (fun rp_4 wp_4 H locs hp_4 G => ?_)
  obtain ⟨ep_4, rfl⟩ := hp_4
  have G : Gw D vwCl [(cA, .int)] AA ss ss.heap H locs (wW cA a σ) := G
  refine lv_istore (lv' := [(4, .int rp_4), (3, .int rp_3), (2, .int rp_2), (1, .int rp_1), (0, .ref (a 0))]) hx hb d_W_answerRequest_28 hl (by decide) rfl (fun ls hl => ?_)
  refine lv_aload_n hx hb d_W_answerRequest_30 rfl (lv_at hl 4 rfl) ?_
  refine lv_iload hx hb d_W_answerRequest_31 (lv_at hl 0 rfl) ?_
  refine lv_if_ne (tgt := 40) hx hb d_W_answerRequest_33 (by decide) (fun c_5 => ?_) (fun c_5 => ?_)
  · refine lv_iconst (v := 3) hx hb d_W_answerRequest_40 (by decide) ?_
    refine g_cVv (rest := []) S G (c_W_tally l D cA a σ 3) (cwV 1 S.2.2.2.2 ml_W_101 rfl rfl rfl (by decide +kernel) ⟨Nat.le_of_ble_eq_true rfl, Nat.le_of_ble_eq_true rfl⟩) [0, 1, 2, 3, 4, 5, 6, 7, 8, 9, 10, 11, 12, 13] [] rfl rfl rfl rfl (by decide) 0 rfl rfl rfl hl.1 rfl (Nat.le_of_ble_eq_true rfl) d_W_answerRequest_41 ⟨Nat.le_of_ble_eq_true rfl, Nat.le_of_ble_eq_true rfl⟩ (fun wp_6 H locs hp_6 G => ?_)
    subst hp_6
    have G : Gw D vwCl [(cA, .int)] AA ss ss.heap H locs (wW cA a (wTal σ 3)) := G
    refine lv_iload hx hb d_W_answerRequest_44 (lv_at hl 0 rfl) ?_
    refine lv_if_ne (tgt := 56) hx hb d_W_answerRequest_46 (by decide) (fun _ => ?_) (fun h9 => absurd h9 c_5)
    refine lv_aload_n hx hb d_W_answerRequest_56 rfl (lv_at hl 4 rfl) ?_
    refine g_get S G in_W 0 rfl rfl 5 (by decide) fl_W_46 rfl d_W_answerRequest_57 ?_
    refine lv_iconst (v := 0) hx hb d_W_answerRequest_60 (by decide) ?_
    refine g_cVi (rest := []) S G (c_B_at l D cA (a 9) (a 10) 257 ((wTal σ 3) 5) ((wTal σ 3) 0 3) 0 (by decide)) (cwV 1 S.2.2.2.2 ml_W_79 rfl rfl rfl (by decide +kernel) ⟨Nat.le_of_ble_eq_true rfl, Nat.le_of_ble_eq_true rfl⟩) [9, 10] [0, 1, 2, 3, 4, 5, 6, 7, 8, 11, 12, 13] rfl rfl rfl rfl (by decide) 9 rfl rfl rfl hl.1 rfl (Nat.le_of_ble_eq_true rfl) d_W_answerRequest_61 ⟨Nat.le_of_ble_eq_true rfl, Nat.le_of_ble_eq_true rfl⟩ (fun rp_7 wp_7 H locs hp_7 G => ?_)
    obtain ⟨ep_7, rfl⟩ := hp_7
    have G := G.sub (ws' := wW cA a (wTal σ 3)) [0, 1, 2, 3, 4, 5, 6, 7, 8, 12, 13, 9, 10, 11] rfl (ww_B9 cA a _)
    refine lv_if_ne (tgt := 68) hx hb d_W_answerRequest_64 (by decide) (fun c_8 => ?_) (fun c_8 => ?_)
    · refine lv_aload_n hx hb d_W_answerRequest_68 rfl (lv_at hl 4 rfl) ?_
      refine g_get S G in_W 0 rfl rfl 6 (by decide) fl_W_50 rfl d_W_answerRequest_69 ?_
      refine lv_aload_n hx hb d_W_answerRequest_72 rfl (lv_at hl 4 rfl) ?_
      refine g_get S G in_W 0 rfl rfl 0 (by decide) fl_W_18 rfl d_W_answerRequest_73 ?_
      refine g_cVv (rest := []) S G (c_B_append l D cA (a 11) (a 12) 256 ((wTal σ 3) 6) ((wTal σ 3) 0 4) ((wTal σ 3) 0 0) (by decide)) (cwV 1 S.2.2.2.2 ml_W_95 rfl rfl rfl (by decide +kernel) ⟨Nat.le_of_ble_eq_true rfl, Nat.le_of_ble_eq_true rfl⟩) [11, 12] [0, 1, 2, 3, 4, 5, 6, 7, 8, 9, 10, 13] rfl rfl rfl rfl (by decide) 11 rfl rfl rfl hl.1 rfl (Nat.le_of_ble_eq_true rfl) d_W_answerRequest_76 ⟨Nat.le_of_ble_eq_true rfl, Nat.le_of_ble_eq_true rfl⟩ (fun wp_9 H locs hp_9 G => ?_)
      subst hp_9
      have G := G.sub (ws' := wW cA a (wApA (wTal σ 3) ((wTal σ 3) 0 0))) [0, 1, 2, 3, 4, 5, 6, 7, 8, 9, 10, 12, 13, 11] rfl (ww_aB11 cA a _ _)
      refine lv_iload hx hb d_W_answerRequest_79 (lv_at hl 0 rfl) ?_
      refine lv_if_ne (tgt := 102) hx hb d_W_answerRequest_81 (by decide) (fun _ => ?_) (fun h9 => absurd h9 c_5)
      refine lv_aload_n hx hb d_W_answerRequest_102 rfl (lv_at hl 4 rfl) ?_
      refine g_get S G in_W 0 rfl rfl 6 (by decide) fl_W_50 rfl d_W_answerRequest_103 ?_
      refine lv_iload_n hx hb d_W_answerRequest_106 rfl (lv_at hl 3 rfl) ?_
      refine lv_sipush (v := 128) hx hb d_W_answerRequest_107 (by decide) ?_
      refine lv_ior hx hb d_W_answerRequest_110 ?_
      refine g_cVv (rest := []) S G (c_B_append l D cA (a 11) (a 12) 256 ((wApA (wTal σ 3) ((wTal σ 3) 0 0)) 6) ((wApA (wTal σ 3) ((wTal σ 3) 0 0)) 0 4) (rp_1 ||| 128) (by decide)) (cwV 1 S.2.2.2.2 ml_W_95 rfl rfl rfl (by decide +kernel) ⟨Nat.le_of_ble_eq_true rfl, Nat.le_of_ble_eq_true rfl⟩) [11, 12] [0, 1, 2, 3, 4, 5, 6, 7, 8, 9, 10, 13] rfl rfl rfl rfl (by decide) 11 rfl rfl rfl hl.1 rfl (Nat.le_of_ble_eq_true rfl) d_W_answerRequest_111 ⟨Nat.le_of_ble_eq_true rfl, Nat.le_of_ble_eq_true rfl⟩ (fun wp_10 H locs hp_10 G => ?_)
      subst hp_10
      have G := G.sub (ws' := wW cA a (wApA (wApA (wTal σ 3) ((wTal σ 3) 0 0)) (rp_1 ||| 128))) [0, 1, 2, 3, 4, 5, 6, 7, 8, 9, 10, 12, 13, 11] rfl (ww_aB11 cA a _ _)
      refine lv_aload_n hx hb d_W_answerRequest_114 rfl (lv_at hl 4 rfl) ?_
      refine g_get S G in_W 0 rfl rfl 6 (by decide) fl_W_50 rfl d_W_answerRequest_115 ?_
      refine lv_iload hx hb d_W_answerRequest_118 (lv_at hl 0 rfl) ?_
      refine g_cVv (rest := []) S G (c_B_append l D cA (a 11) (a 12) 256 ((wApA (wApA (wTal σ 3) ((wTal σ 3) 0 0)) (rp_1 ||| 128)) 6) ((wApA (wApA (wTal σ 3) ((wTal σ 3) 0 0)) (rp_1 ||| 128)) 0 4) rp_4 (by decide)) (cwV 1 S.2.2.2.2 ml_W_95 rfl rfl rfl (by decide +kernel) ⟨Nat.le_of_ble_eq_true rfl, Nat.le_of_ble_eq_true rfl⟩) [11, 12] [0, 1, 2, 3, 4, 5, 6, 7, 8, 9, 10, 13] rfl rfl rfl rfl (by decide) 11 rfl rfl rfl hl.1 rfl (Nat.le_of_ble_eq_true rfl) d_W_answerRequest_120 ⟨Nat.le_of_ble_eq_true rfl, Nat.le_of_ble_eq_true rfl⟩ (fun wp_11 H locs hp_11 G => ?_)
      subst hp_11
      have G := G.sub (ws' := wW cA a (wApA (wApA (wApA (wTal σ 3) ((wTal σ 3) 0 0)) (rp_1 ||| 128)) rp_4)) [0, 1, 2, 3, 4, 5, 6, 7, 8, 9, 10, 12, 13, 11] rfl (ww_aB11 cA a _ _)
      refine lv_aload_n hx hb d_W_answerRequest_123 rfl (lv_at hl 4 rfl) ?_
      refine g_get S G in_W 0 rfl rfl 6 (by decide) fl_W_50 rfl d_W_answerRequest_124 ?_
      refine g_cVv (rest := []) S G (c_B_appendItsSum l D cA (a 11) (a 12) 256 ((wApA (wApA (wApA (wTal σ 3) ((wTal σ 3) 0 0)) (rp_1 ||| 128)) rp_4) 6) ((wApA (wApA (wApA (wTal σ 3) ((wTal σ 3) 0 0)) (rp_1 ||| 128)) rp_4) 0 4) (by decide)) (cwV 0 S.2.2.2.2 ml_W_138 rfl rfl rfl (by decide +kernel) ⟨Nat.le_of_ble_eq_true rfl, Nat.le_of_ble_eq_true rfl⟩) [11, 12] [0, 1, 2, 3, 4, 5, 6, 7, 8, 9, 10, 13] rfl rfl rfl rfl (by decide) 11 rfl rfl rfl hl.1 rfl (Nat.le_of_ble_eq_true rfl) d_W_answerRequest_127 ⟨Nat.le_of_ble_eq_true rfl, Nat.le_of_ble_eq_true rfl⟩ (fun wp_12 H locs hp_12 G => ?_)
      subst hp_12
      have G := G.sub (ws' := wW cA a (wApS (wApA (wApA (wApA (wTal σ 3) ((wTal σ 3) 0 0)) (rp_1 ||| 128)) rp_4))) [0, 1, 2, 3, 4, 5, 6, 7, 8, 9, 10, 12, 13, 11] rfl (ww_zB11 cA a _)
      refine lv_aload_n hx hb d_W_answerRequest_130 rfl (lv_at hl 4 rfl) ?_
      refine lv_iconst (v := 5) hx hb d_W_answerRequest_131 (by decide) ?_
      refine g_cVv (rest := []) S G (c_W_tally l D cA a (wApS (wApA (wApA (wApA (wTal σ 3) ((wTal σ 3) 0 0)) (rp_1 ||| 128)) rp_4)) 5) (cwV 1 S.2.2.2.2 ml_W_101 rfl rfl rfl (by decide +kernel) ⟨Nat.le_of_ble_eq_true rfl, Nat.le_of_ble_eq_true rfl⟩) [0, 1, 2, 3, 4, 5, 6, 7, 8, 9, 10, 11, 12, 13] [] rfl rfl rfl rfl (by decide) 0 rfl rfl rfl hl.1 rfl (Nat.le_of_ble_eq_true rfl) d_W_answerRequest_132 ⟨Nat.le_of_ble_eq_true rfl, Nat.le_of_ble_eq_true rfl⟩ (fun wp_13 H locs hp_13 G => ?_)
      subst hp_13
      have G : Gw D vwCl [(cA, .int)] AA ss ss.heap H locs (wW cA a (wTal (wApS (wApA (wApA (wApA (wTal σ 3) ((wTal σ 3) 0 0)) (rp_1 ||| 128)) rp_4)) 5)) := G
      subst ep_7
      subst ep_4
      subst ep_3
      subst ep_2
      subst ep_1
      exact g_retv S hr hlk G (congrArg (wW cA a) (by first | (simp only [wAns, wAnsG, fAt, eq_false c_5, eq_false c_8, ↓reduceIte]; done) | (with_reducible rfl))) (Nat.le_refl _) (Nat.le_refl _) d_W_answerRequest_135
    · subst ep_7
      subst ep_4
      subst ep_3
      subst ep_2
      subst ep_1
      exact g_retv S hr hlk G (congrArg (wW cA a) (by first | (simp only [wAns, wAnsG, fAt, eq_false c_5, eq_true c_8, ↓reduceIte]; done) | (with_reducible rfl))) (Nat.le_refl _) (Nat.le_refl _) d_W_answerRequest_67
  · refine lv_iconst (v := 4) hx hb d_W_answerRequest_36 (by decide) ?_
    refine lv_goto (tgt := 41) hx hb d_W_answerRequest_37 (by decide) ?_
    refine g_cVv (rest := []) S G (c_W_tally l D cA a σ 4) (cwV 1 S.2.2.2.2 ml_W_101 rfl rfl rfl (by decide +kernel) ⟨Nat.le_of_ble_eq_true rfl, Nat.le_of_ble_eq_true rfl⟩) [0, 1, 2, 3, 4, 5, 6, 7, 8, 9, 10, 11, 12, 13] [] rfl rfl rfl rfl (by decide) 0 rfl rfl rfl hl.1 rfl (Nat.le_of_ble_eq_true rfl) d_W_answerRequest_41 ⟨Nat.le_of_ble_eq_true rfl, Nat.le_of_ble_eq_true rfl⟩ (fun wp_14 H locs hp_14 G => ?_)
    subst hp_14
    have G : Gw D vwCl [(cA, .int)] AA ss ss.heap H locs (wW cA a (wTal σ 4)) := G
    refine lv_iload hx hb d_W_answerRequest_44 (lv_at hl 0 rfl) ?_
    refine lv_if_ne (tgt := 56) hx hb d_W_answerRequest_46 (by decide) (fun h9 => absurd c_5 h9) (fun _ => ?_)
    refine lv_aload_n hx hb d_W_answerRequest_49 rfl (lv_at hl 4 rfl) ?_
    refine lv_iload_n hx hb d_W_answerRequest_50 rfl (lv_at hl 3 rfl) ?_
    refine lv_iload_n hx hb d_W_answerRequest_51 rfl (lv_at hl 2 rfl) ?_
    refine lv_iload_n hx hb d_W_answerRequest_52 rfl (lv_at hl 1 rfl) ?_
    refine g_cVv (rest := []) S G (c_W_carryOut l D cA a (wTal σ 4) rp_1 rp_2 rp_3) (cwV 3 S.2.2.2.2 ml_W_131 rfl rfl rfl (by decide +kernel) ⟨Nat.le_of_ble_eq_true rfl, Nat.le_of_ble_eq_true rfl⟩) [0, 1, 2, 3, 4, 5, 6, 7, 8, 9, 10, 11, 12, 13] [] rfl rfl rfl rfl (by decide) 0 rfl rfl rfl hl.1 rfl (Nat.le_of_ble_eq_true rfl) d_W_answerRequest_53 ⟨Nat.le_of_ble_eq_true rfl, Nat.le_of_ble_eq_true rfl⟩ (fun wp_15 H locs hp_15 G => ?_)
    subst hp_15
    have G : Gw D vwCl [(cA, .int)] AA ss ss.heap H locs (wW cA a (wCar (wTal σ 4) rp_1 rp_2 rp_3)) := G
    refine lv_aload_n hx hb d_W_answerRequest_56 rfl (lv_at hl 4 rfl) ?_
    refine g_get S G in_W 0 rfl rfl 5 (by decide) fl_W_46 rfl d_W_answerRequest_57 ?_
    refine lv_iconst (v := 0) hx hb d_W_answerRequest_60 (by decide) ?_
    refine g_cVi (rest := []) S G (c_B_at l D cA (a 9) (a 10) 257 ((wCar (wTal σ 4) rp_1 rp_2 rp_3) 5) ((wCar (wTal σ 4) rp_1 rp_2 rp_3) 0 3) 0 (by decide)) (cwV 1 S.2.2.2.2 ml_W_79 rfl rfl rfl (by decide +kernel) ⟨Nat.le_of_ble_eq_true rfl, Nat.le_of_ble_eq_true rfl⟩) [9, 10] [0, 1, 2, 3, 4, 5, 6, 7, 8, 11, 12, 13] rfl rfl rfl rfl (by decide) 9 rfl rfl rfl hl.1 rfl (Nat.le_of_ble_eq_true rfl) d_W_answerRequest_61 ⟨Nat.le_of_ble_eq_true rfl, Nat.le_of_ble_eq_true rfl⟩ (fun rp_16 wp_16 H locs hp_16 G => ?_)
    obtain ⟨ep_16, rfl⟩ := hp_16
    have G := G.sub (ws' := wW cA a (wCar (wTal σ 4) rp_1 rp_2 rp_3)) [0, 1, 2, 3, 4, 5, 6, 7, 8, 12, 13, 9, 10, 11] rfl (ww_B9 cA a _)
    refine lv_if_ne (tgt := 68) hx hb d_W_answerRequest_64 (by decide) (fun c_17 => ?_) (fun c_17 => ?_)
    · refine lv_aload_n hx hb d_W_answerRequest_68 rfl (lv_at hl 4 rfl) ?_
      refine g_get S G in_W 0 rfl rfl 6 (by decide) fl_W_50 rfl d_W_answerRequest_69 ?_
      refine lv_aload_n hx hb d_W_answerRequest_72 rfl (lv_at hl 4 rfl) ?_
      refine g_get S G in_W 0 rfl rfl 0 (by decide) fl_W_18 rfl d_W_answerRequest_73 ?_
      refine g_cVv (rest := []) S G (c_B_append l D cA (a 11) (a 12) 256 ((wCar (wTal σ 4) rp_1 rp_2 rp_3) 6) ((wCar (wTal σ 4) rp_1 rp_2 rp_3) 0 4) ((wCar (wTal σ 4) rp_1 rp_2 rp_3) 0 0) (by decide)) (cwV 1 S.2.2.2.2 ml_W_95 rfl rfl rfl (by decide +kernel) ⟨Nat.le_of_ble_eq_true rfl, Nat.le_of_ble_eq_true rfl⟩) [11, 12] [0, 1, 2, 3, 4, 5, 6, 7, 8, 9, 10, 13] rfl rfl rfl rfl (by decide) 11 rfl rfl rfl hl.1 rfl (Nat.le_of_ble_eq_true rfl) d_W_answerRequest_76 ⟨Nat.le_of_ble_eq_true rfl, Nat.le_of_ble_eq_true rfl⟩ (fun wp_18 H locs hp_18 G => ?_)
      subst hp_18
      have G := G.sub (ws' := wW cA a (wApA (wCar (wTal σ 4) rp_1 rp_2 rp_3) ((wCar (wTal σ 4) rp_1 rp_2 rp_3) 0 0))) [0, 1, 2, 3, 4, 5, 6, 7, 8, 9, 10, 12, 13, 11] rfl (ww_aB11 cA a _ _)
      refine lv_iload hx hb d_W_answerRequest_79 (lv_at hl 0 rfl) ?_
      refine lv_if_ne (tgt := 102) hx hb d_W_answerRequest_81 (by decide) (fun h9 => absurd c_5 h9) (fun _ => ?_)
      refine lv_aload_n hx hb d_W_answerRequest_84 rfl (lv_at hl 4 rfl) ?_
      refine g_get S G in_W 0 rfl rfl 6 (by decide) fl_W_50 rfl d_W_answerRequest_85 ?_
      refine lv_iload_n hx hb d_W_answerRequest_88 rfl (lv_at hl 3 rfl) ?_
      refine g_cVv (rest := []) S G (c_B_append l D cA (a 11) (a 12) 256 ((wApA (wCar (wTal σ 4) rp_1 rp_2 rp_3) ((wCar (wTal σ 4) rp_1 rp_2 rp_3) 0 0)) 6) ((wApA (wCar (wTal σ 4) rp_1 rp_2 rp_3) ((wCar (wTal σ 4) rp_1 rp_2 rp_3) 0 0)) 0 4) rp_1 (by decide)) (cwV 1 S.2.2.2.2 ml_W_95 rfl rfl rfl (by decide +kernel) ⟨Nat.le_of_ble_eq_true rfl, Nat.le_of_ble_eq_true rfl⟩) [11, 12] [0, 1, 2, 3, 4, 5, 6, 7, 8, 9, 10, 13] rfl rfl rfl rfl (by decide) 11 rfl rfl rfl hl.1 rfl (Nat.le_of_ble_eq_true rfl) d_W_answerRequest_89 ⟨Nat.le_of_ble_eq_true rfl, Nat.le_of_ble_eq_true rfl⟩ (fun wp_19 H locs hp_19 G => ?_)
      subst hp_19
      have G := G.sub (ws' := wW cA a (wApA (wApA (wCar (wTal σ 4) rp_1 rp_2 rp_3) ((wCar (wTal σ 4) rp_1 rp_2 rp_3) 0 0)) rp_1)) [0, 1, 2, 3, 4, 5, 6, 7, 8, 9, 10, 12, 13, 11] rfl (ww_aB11 cA a _ _)
      refine lv_aload_n hx hb d_W_answerRequest_92 rfl (lv_at hl 4 rfl) ?_
      refine lv_iload_n hx hb d_W_answerRequest_93 rfl (lv_at hl 3 rfl) ?_
      refine lv_iload_n hx hb d_W_answerRequest_94 rfl (lv_at hl 2 rfl) ?_
      refine lv_iload_n hx hb d_W_answerRequest_95 rfl (lv_at hl 1 rfl) ?_
      refine g_cVv (rest := []) S G (c_W_appendResult l D cA a (wApA (wApA (wCar (wTal σ 4) rp_1 rp_2 rp_3) ((wCar (wTal σ 4) rp_1 rp_2 rp_3) 0 0)) rp_1) rp_1 rp_2 rp_3 (fun hf => wRef_bound (ep_4.symm.trans c_5) hf)) (cwV 3 S.2.2.2.2 ml_W_135 rfl rfl rfl (by decide +kernel) ⟨Nat.le_of_ble_eq_true rfl, Nat.le_of_ble_eq_true rfl⟩) [0, 1, 2, 3, 4, 5, 6, 7, 8, 9, 10, 11, 12, 13] [] rfl rfl rfl rfl (by decide) 0 rfl rfl rfl hl.1 rfl (Nat.le_of_ble_eq_true rfl) d_W_answerRequest_96 ⟨Nat.le_of_ble_eq_true rfl, Nat.le_of_ble_eq_true rfl⟩ (fun wp_20 H locs hp_20 G => ?_)
      subst hp_20
      have G : Gw D vwCl [(cA, .int)] AA ss ss.heap H locs (wW cA a (wRes (wApA (wApA (wCar (wTal σ 4) rp_1 rp_2 rp_3) ((wCar (wTal σ 4) rp_1 rp_2 rp_3) 0 0)) rp_1) rp_1 rp_2 rp_3)) := G
      refine lv_goto (tgt := 123) hx hb d_W_answerRequest_99 (by decide) ?_
      refine lv_aload_n hx hb d_W_answerRequest_123 rfl (lv_at hl 4 rfl) ?_
      refine g_get S G in_W 0 rfl rfl 6 (by decide) fl_W_50 rfl d_W_answerRequest_124 ?_
      refine g_cVv (rest := []) S G (c_B_appendItsSum l D cA (a 11) (a 12) 256 ((wRes (wApA (wApA (wCar (wTal σ 4) rp_1 rp_2 rp_3) ((wCar (wTal σ 4) rp_1 rp_2 rp_3) 0 0)) rp_1) rp_1 rp_2 rp_3) 6) ((wRes (wApA (wApA (wCar (wTal σ 4) rp_1 rp_2 rp_3) ((wCar (wTal σ 4) rp_1 rp_2 rp_3) 0 0)) rp_1) rp_1 rp_2 rp_3) 0 4) (by decide)) (cwV 0 S.2.2.2.2 ml_W_138 rfl rfl rfl (by decide +kernel) ⟨Nat.le_of_ble_eq_true rfl, Nat.le_of_ble_eq_true rfl⟩) [11, 12] [0, 1, 2, 3, 4, 5, 6, 7, 8, 9, 10, 13] rfl rfl rfl rfl (by decide) 11 rfl rfl rfl hl.1 rfl (Nat.le_of_ble_eq_true rfl) d_W_answerRequest_127 ⟨Nat.le_of_ble_eq_true rfl, Nat.le_of_ble_eq_true rfl⟩ (fun wp_21 H locs hp_21 G => ?_)
      subst hp_21
      have G := G.sub (ws' := wW cA a (wApS (wRes (wApA (wApA (wCar (wTal σ 4) rp_1 rp_2 rp_3) ((wCar (wTal σ 4) rp_1 rp_2 rp_3) 0 0)) rp_1) rp_1 rp_2 rp_3))) [0, 1, 2, 3, 4, 5, 6, 7, 8, 9, 10, 12, 13, 11] rfl (ww_zB11 cA a _)
      refine lv_aload_n hx hb d_W_answerRequest_130 rfl (lv_at hl 4 rfl) ?_
      refine lv_iconst (v := 5) hx hb d_W_answerRequest_131 (by decide) ?_
      refine g_cVv (rest := []) S G (c_W_tally l D cA a (wApS (wRes (wApA (wApA (wCar (wTal σ 4) rp_1 rp_2 rp_3) ((wCar (wTal σ 4) rp_1 rp_2 rp_3) 0 0)) rp_1) rp_1 rp_2 rp_3)) 5) (cwV 1 S.2.2.2.2 ml_W_101 rfl rfl rfl (by decide +kernel) ⟨Nat.le_of_ble_eq_true rfl, Nat.le_of_ble_eq_true rfl⟩) [0, 1, 2, 3, 4, 5, 6, 7, 8, 9, 10, 11, 12, 13] [] rfl rfl rfl rfl (by decide) 0 rfl rfl rfl hl.1 rfl (Nat.le_of_ble_eq_true rfl) d_W_answerRequest_132 ⟨Nat.le_of_ble_eq_true rfl, Nat.le_of_ble_eq_true rfl⟩ (fun wp_22 H locs hp_22 G => ?_)
      subst hp_22
      have G : Gw D vwCl [(cA, .int)] AA ss ss.heap H locs (wW cA a (wTal (wApS (wRes (wApA (wApA (wCar (wTal σ 4) rp_1 rp_2 rp_3) ((wCar (wTal σ 4) rp_1 rp_2 rp_3) 0 0)) rp_1) rp_1 rp_2 rp_3)) 5)) := G
      subst ep_16
      subst ep_4
      subst ep_3
      subst ep_2
      subst ep_1
      exact g_retv S hr hlk G (congrArg (wW cA a) (by first | (simp only [wAns, wAnsG, fAt, eq_true c_5, eq_false c_17, ↓reduceIte]; done) | (with_reducible rfl))) (Nat.le_refl _) (Nat.le_refl _) d_W_answerRequest_135
    · subst ep_16
      subst ep_4
      subst ep_3
      subst ep_2
      subst ep_1
      exact g_retv S hr hlk G (congrArg (wW cA a) (by first | (simp only [wAns, wAnsG, fAt, eq_true c_5, eq_true c_17, ↓reduceIte]; done) | (with_reducible rfl))) (Nat.le_refl _) (Nat.le_refl _) d_W_answerRequest_67

abbrev rm_W_endFrame : Room := { frames := 6, cells := 0, slots := 0, locals := 137 }
set_option maxHeartbeats 4000000 in
set_option maxRecDepth 100000 in
theorem c_W_endFrame (l : Launch) (D : va_G) (cA : ClassId) (a : Nat → Nat) (σ : St)  : Cv l y_W_endFrame w_W_endFrame rm_W_endFrame D vwCl [(cA, .int)] [.ref (a 0)] (wW cA a σ) 0 0 (fun w0 => w0 = wW cA a (wEnd σ)) := by
  refine Cv.of (Ts := lw_g) (own := "WireSlave") (cc := b_W_endFrame) (maxL := 1) (ret := none) (lv := [(0, .ref (a 0))]) (by decide) rfl rfl (fun w h => List.mem_cons_of_mem _ h) (Nat.le_of_ble_eq_true rfl) rfl ?_
  intro pp ee ss mm args below meth cx AA S hr hlk hnm G ls hl
  have hx := S.1
  have hb := S.2.1
  refine lv_aload_n hx hb d_W_endFrame_0 rfl (lv_at hl 0 rfl) ?_
  refine g_get S G in_W 0 rfl rfl 6 (by decide) fl_W_50 rfl d_W_endFrame_1 ?_
  refine g_cVv (rest := []) S G (c_B_clear l D cA (a 11) (a 12) 256 (σ 6) (σ 0 4)) (cwV 0 S.2.2.2.2 ml_W_98 rfl rfl rfl (by decide +kernel) ⟨Nat.le_of_ble_eq_true rfl, Nat.le_of_ble_eq_true rfl⟩) [11, 12] [0, 1, 2, 3, 4, 5, 6, 7, 8, 9, 10, 13] rfl rfl rfl rfl (by decide) 11 rfl rfl rfl hl.1 rfl (Nat.le_of_ble_eq_true rfl) d_W_endFrame_4 ⟨Nat.le_of_ble_eq_true rfl, Nat.le_of_ble_eq_true rfl⟩ (fun wp_1 H locs hp_1 G => ?_)
  subst hp_1
  have G := G.sub (ws' := wW cA a (sU σ 0 4 0)) [0, 1, 2, 3, 4, 5, 6, 7, 8, 9, 10, 12, 13, 11] rfl (ww_cB11 cA a _)
  refine lv_aload_n hx hb d_W_endFrame_7 rfl (lv_at hl 0 rfl) ?_
  refine lv_iconst (v := 0) hx hb d_W_endFrame_8 (by decide) ?_
  refine g_cVv (rest := []) S G (c_W_tally l D cA a (sU σ 0 4 0) 0) (cwV 1 S.2.2.2.2 ml_W_101 rfl rfl rfl (by decide +kernel) ⟨Nat.le_of_ble_eq_true rfl, Nat.le_of_ble_eq_true rfl⟩) [0, 1, 2, 3, 4, 5, 6, 7, 8, 9, 10, 11, 12, 13] [] rfl rfl rfl rfl (by decide) 0 rfl rfl rfl hl.1 rfl (Nat.le_of_ble_eq_true rfl) d_W_endFrame_9 ⟨Nat.le_of_ble_eq_true rfl, Nat.le_of_ble_eq_true rfl⟩ (fun wp_2 H locs hp_2 G => ?_)
  subst hp_2
  have G : Gw D vwCl [(cA, .int)] AA ss ss.heap H locs (wW cA a (wTal (sU σ 0 4 0) 0)) := G
  refine lv_aload_n hx hb d_W_endFrame_12 rfl (lv_at hl 0 rfl) ?_
  refine g_cVi (rest := []) S G (c_W_isThrownAway l D cA a (wTal (sU σ 0 4 0) 0)) (cwV 0 S.2.2.2.2 ml_W_104 rfl rfl rfl (by decide +kernel) ⟨Nat.le_of_ble_eq_true rfl, Nat.le_of_ble_eq_true rfl⟩) [0, 1, 2, 3, 4, 5, 6, 7, 8, 9, 10, 11, 12, 13] [] rfl rfl rfl rfl (by decide) 0 rfl rfl rfl hl.1 rfl (Nat.le_of_ble_eq_true rfl) d_W_endFrame_13 ⟨Nat.le_of_ble_eq_true rfl, Nat.le_of_ble_eq_true rfl⟩ (fun rp_3 wp_3 H locs hp_3 G => ?_)
  obtain ⟨rfl, rfl⟩ := hp_3
  have G : Gw D vwCl [(cA, .int)] AA ss ss.heap H locs (wW cA a (wTal (sU σ 0 4 0) 0)) := G
  refine lv_if_eq (tgt := 27) hx hb d_W_endFrame_16 (by decide) (fun c_4 => ?_) (fun c_4 => ?_)
  · refine lv_aload_n hx hb d_W_endFrame_27 rfl (lv_at hl 0 rfl) ?_
    refine g_cVi (rest := []) S G (c_W_isForOthers l D cA a (wTal (sU σ 0 4 0) 0)) (cwV 0 S.2.2.2.2 ml_W_108 rfl rfl rfl (by decide +kernel) ⟨Nat.le_of_ble_eq_true rfl, Nat.le_of_ble_eq_true rfl⟩) [0, 1, 2, 3, 4, 5, 6, 7, 8, 9, 10, 11, 12, 13] [] rfl rfl rfl rfl (by decide) 0 rfl rfl rfl hl.1 rfl (Nat.le_of_ble_eq_true rfl) d_W_endFrame_28 ⟨Nat.le_of_ble_eq_true rfl, Nat.le_of_ble_eq_true rfl⟩ (fun rp_5 wp_5 H locs hp_5 G => ?_)
    obtain ⟨rfl, rfl⟩ := hp_5
    have G : Gw D vwCl [(cA, .int)] AA ss ss.heap H locs (wW cA a (wTal (sU σ 0 4 0) 0)) := G
    refine lv_if_eq (tgt := 42) hx hb d_W_endFrame_31 (by decide) (fun c_6 => ?_) (fun c_6 => ?_)
    · refine lv_aload_n hx hb d_W_endFrame_42 rfl (lv_at hl 0 rfl) ?_
      refine g_cVv (rest := []) S G (c_W_answerRequest l D cA a (wTal (sU σ 0 4 0) 0)) (cwV 0 S.2.2.2.2 ml_W_111 rfl rfl rfl (by decide +kernel) ⟨Nat.le_of_ble_eq_true rfl, Nat.le_of_ble_eq_true rfl⟩) [0, 1, 2, 3, 4, 5, 6, 7, 8, 9, 10, 11, 12, 13] [] rfl rfl rfl rfl (by decide) 0 rfl rfl rfl hl.1 rfl (Nat.le_of_ble_eq_true rfl) d_W_endFrame_43 ⟨Nat.le_of_ble_eq_true rfl, Nat.le_of_ble_eq_true rfl⟩ (fun wp_7 H locs hp_7 G => ?_)
      subst hp_7
      have G : Gw D vwCl [(cA, .int)] AA ss ss.heap H locs (wW cA a (wAns (wTal (sU σ 0 4 0) 0))) := G
      refine lv_aload_n hx hb d_W_endFrame_46 rfl (lv_at hl 0 rfl) ?_
      refine g_get S G in_W 0 rfl rfl 5 (by decide) fl_W_46 rfl d_W_endFrame_47 ?_
      refine g_cVv (rest := []) S G (c_B_clear l D cA (a 9) (a 10) 257 ((wAns (wTal (sU σ 0 4 0) 0)) 5) ((wAns (wTal (sU σ 0 4 0) 0)) 0 3)) (cwV 0 S.2.2.2.2 ml_W_98 rfl rfl rfl (by decide +kernel) ⟨Nat.le_of_ble_eq_true rfl, Nat.le_of_ble_eq_true rfl⟩) [9, 10] [0, 1, 2, 3, 4, 5, 6, 7, 8, 11, 12, 13] rfl rfl rfl rfl (by decide) 9 rfl rfl rfl hl.1 rfl (Nat.le_of_ble_eq_true rfl) d_W_endFrame_50 ⟨Nat.le_of_ble_eq_true rfl, Nat.le_of_ble_eq_true rfl⟩ (fun wp_8 H locs hp_8 G => ?_)
      subst hp_8
      have G := G.sub (ws' := wW cA a (sU (wAns (wTal (sU σ 0 4 0) 0)) 0 3 0)) [0, 1, 2, 3, 4, 5, 6, 7, 8, 12, 13, 9, 10, 11] rfl (ww_cB9 cA a _)
      refine lv_aload_n hx hb d_W_endFrame_53 rfl (lv_at hl 0 rfl) ?_
      refine lv_iconst (v := 0) hx hb d_W_endFrame_54 (by decide) ?_
      refine g_put S G in_W ft_W tok_W nm_W 0 rfl rfl 9 (by decide) fl_W_60 rfl rfl rfl (Nat.le_of_ble_eq_true rfl) (wW cA a (sU (sU (wAns (wTal (sU σ 0 4 0) 0)) 0 3 0) 0 2 0)) (ww_pspoilt cA a _ _) d_W_endFrame_55 (fun H locs G => ?_)
      exact g_retv S hr hlk G (congrArg (wW cA a) (by first | (simp only [wEnd, wEndB, eq_true c_4, eq_true c_6, ↓reduceIte]; done) | (with_reducible rfl))) (Nat.le_refl _) (Nat.le_refl _) d_W_endFrame_58
    · refine lv_aload_n hx hb d_W_endFrame_34 rfl (lv_at hl 0 rfl) ?_
      refine lv_iconst (v := 2) hx hb d_W_endFrame_35 (by decide) ?_
      refine g_cVv (rest := []) S G (c_W_tally l D cA a (wTal (sU σ 0 4 0) 0) 2) (cwV 1 S.2.2.2.2 ml_W_101 rfl rfl rfl (by decide +kernel) ⟨Nat.le_of_ble_eq_true rfl, Nat.le_of_ble_eq_true rfl⟩) [0, 1, 2, 3, 4, 5, 6, 7, 8, 9, 10, 11, 12, 13] [] rfl rfl rfl rfl (by decide) 0 rfl rfl rfl hl.1 rfl (Nat.le_of_ble_eq_true rfl) d_W_endFrame_36 ⟨Nat.le_of_ble_eq_true rfl, Nat.le_of_ble_eq_true rfl⟩ (fun wp_9 H locs hp_9 G => ?_)
      subst hp_9
      have G : Gw D vwCl [(cA, .int)] AA ss ss.heap H locs (wW cA a (wTal (wTal (sU σ 0 4 0) 0) 2)) := G
      refine lv_goto (tgt := 46) hx hb d_W_endFrame_39 (by decide) ?_
      refine lv_aload_n hx hb d_W_endFrame_46 rfl (lv_at hl 0 rfl) ?_
      refine g_get S G in_W 0 rfl rfl 5 (by decide) fl_W_46 rfl d_W_endFrame_47 ?_
      refine g_cVv (rest := []) S G (c_B_clear l D cA (a 9) (a 10) 257 ((wTal (wTal (sU σ 0 4 0) 0) 2) 5) ((wTal (wTal (sU σ 0 4 0) 0) 2) 0 3)) (cwV 0 S.2.2.2.2 ml_W_98 rfl rfl rfl (by decide +kernel) ⟨Nat.le_of_ble_eq_true rfl, Nat.le_of_ble_eq_true rfl⟩) [9, 10] [0, 1, 2, 3, 4, 5, 6, 7, 8, 11, 12, 13] rfl rfl rfl rfl (by decide) 9 rfl rfl rfl hl.1 rfl (Nat.le_of_ble_eq_true rfl) d_W_endFrame_50 ⟨Nat.le_of_ble_eq_true rfl, Nat.le_of_ble_eq_true rfl⟩ (fun wp_10 H locs hp_10 G => ?_)
      subst hp_10
      have G := G.sub (ws' := wW cA a (sU (wTal (wTal (sU σ 0 4 0) 0) 2) 0 3 0)) [0, 1, 2, 3, 4, 5, 6, 7, 8, 12, 13, 9, 10, 11] rfl (ww_cB9 cA a _)
      refine lv_aload_n hx hb d_W_endFrame_53 rfl (lv_at hl 0 rfl) ?_
      refine lv_iconst (v := 0) hx hb d_W_endFrame_54 (by decide) ?_
      refine g_put S G in_W ft_W tok_W nm_W 0 rfl rfl 9 (by decide) fl_W_60 rfl rfl rfl (Nat.le_of_ble_eq_true rfl) (wW cA a (sU (sU (wTal (wTal (sU σ 0 4 0) 0) 2) 0 3 0) 0 2 0)) (ww_pspoilt cA a _ _) d_W_endFrame_55 (fun H locs G => ?_)
      exact g_retv S hr hlk G (congrArg (wW cA a) (by first | (simp only [wEnd, wEndB, eq_true c_4, eq_false c_6, ↓reduceIte]; done) | (with_reducible rfl))) (Nat.le_refl _) (Nat.le_refl _) d_W_endFrame_58
  · refine lv_aload_n hx hb d_W_endFrame_19 rfl (lv_at hl 0 rfl) ?_
    refine lv_iconst (v := 1) hx hb d_W_endFrame_20 (by decide) ?_
    refine g_cVv (rest := []) S G (c_W_tally l D cA a (wTal (sU σ 0 4 0) 0) 1) (cwV 1 S.2.2.2.2 ml_W_101 rfl rfl rfl (by decide +kernel) ⟨Nat.le_of_ble_eq_true rfl, Nat.le_of_ble_eq_true rfl⟩) [0, 1, 2, 3, 4, 5, 6, 7, 8, 9, 10, 11, 12, 13] [] rfl rfl rfl rfl (by decide) 0 rfl rfl rfl hl.1 rfl (Nat.le_of_ble_eq_true rfl) d_W_endFrame_21 ⟨Nat.le_of_ble_eq_true rfl, Nat.le_of_ble_eq_true rfl⟩ (fun wp_11 H locs hp_11 G => ?_)
    subst hp_11
    have G : Gw D vwCl [(cA, .int)] AA ss ss.heap H locs (wW cA a (wTal (wTal (sU σ 0 4 0) 0) 1)) := G
    refine lv_goto (tgt := 46) hx hb d_W_endFrame_24 (by decide) ?_
    refine lv_aload_n hx hb d_W_endFrame_46 rfl (lv_at hl 0 rfl) ?_
    refine g_get S G in_W 0 rfl rfl 5 (by decide) fl_W_46 rfl d_W_endFrame_47 ?_
    refine g_cVv (rest := []) S G (c_B_clear l D cA (a 9) (a 10) 257 ((wTal (wTal (sU σ 0 4 0) 0) 1) 5) ((wTal (wTal (sU σ 0 4 0) 0) 1) 0 3)) (cwV 0 S.2.2.2.2 ml_W_98 rfl rfl rfl (by decide +kernel) ⟨Nat.le_of_ble_eq_true rfl, Nat.le_of_ble_eq_true rfl⟩) [9, 10] [0, 1, 2, 3, 4, 5, 6, 7, 8, 11, 12, 13] rfl rfl rfl rfl (by decide) 9 rfl rfl rfl hl.1 rfl (Nat.le_of_ble_eq_true rfl) d_W_endFrame_50 ⟨Nat.le_of_ble_eq_true rfl, Nat.le_of_ble_eq_true rfl⟩ (fun wp_12 H locs hp_12 G => ?_)
    subst hp_12
    have G := G.sub (ws' := wW cA a (sU (wTal (wTal (sU σ 0 4 0) 0) 1) 0 3 0)) [0, 1, 2, 3, 4, 5, 6, 7, 8, 12, 13, 9, 10, 11] rfl (ww_cB9 cA a _)
    refine lv_aload_n hx hb d_W_endFrame_53 rfl (lv_at hl 0 rfl) ?_
    refine lv_iconst (v := 0) hx hb d_W_endFrame_54 (by decide) ?_
    refine g_put S G in_W ft_W tok_W nm_W 0 rfl rfl 9 (by decide) fl_W_60 rfl rfl rfl (Nat.le_of_ble_eq_true rfl) (wW cA a (sU (sU (wTal (wTal (sU σ 0 4 0) 0) 1) 0 3 0) 0 2 0)) (ww_pspoilt cA a _ _) d_W_endFrame_55 (fun H locs G => ?_)
    exact g_retv S hr hlk G (congrArg (wW cA a) (by first | (simp only [wEnd, wEndB, eq_false c_4, ↓reduceIte]; done) | (with_reducible rfl))) (Nat.le_refl _) (Nat.le_refl _) d_W_endFrame_58

abbrev rm_W_rest : Room := { frames := 7, cells := 0, slots := 0, locals := 157 }
set_option maxHeartbeats 4000000 in
set_option maxRecDepth 100000 in
theorem c_W_rest (l : Launch) (D : va_G) (cA : ClassId) (a : Nat → Nat) (σ : St) (q : Int32)  : Ci l y_W_rest w_W_rest rm_W_rest D vwCl [(cA, .int)] [.ref (a 0), .int q] (wW cA a σ) 0 0 (fun r0 w0 => r0 = wRestR σ q ∧ w0 = wW cA a (wRest σ q)) := by
  refine Ci.of (Ts := lw_g) (own := "WireSlave") (cc := b_W_rest) (maxL := 2) (ret := (some .int)) (lv := [(0, .ref (a 0)), (1, .int q)]) (by decide) rfl rfl (fun w h => List.mem_cons_of_mem _ h) (Nat.le_of_ble_eq_true rfl) rfl ?_
  intro pp ee ss mm args below meth cx AA S hr hlk G ls hl
  have hx := S.1
  have hb := S.2.1
  refine lv_iload_n hx hb d_W_rest_0 rfl (lv_at hl 1 rfl) ?_
  refine lv_if_lt (tgt := 11) hx hb d_W_rest_1 (by decide) (fun c_1 => ?_) (fun c_1 => ?_)
  · refine lv_iconst (v := (-1)) hx hb d_W_rest_11 (by decide) ?_
    exact g_reti S hr hlk G ⟨by first | (simp only [wRestR, wRest, wRestS, eq_true c_1, ↓reduceIte]; done) | (with_reducible rfl), congrArg (wW cA a) (by first | (simp only [wRestR, wRest, wRestS, eq_true c_1, ↓reduceIte]; done) | (with_reducible rfl))⟩ (Nat.le_refl _) (Nat.le_refl _) d_W_rest_12
  · refine lv_iload_n hx hb d_W_rest_4 rfl (lv_at hl 1 rfl) ?_
    refine lv_sipush (v := 1000) hx hb d_W_rest_5 (by decide) ?_
    refine lv_icmp_le (tgt := 13) hx hb d_W_rest_8 (by decide) (fun c_2 => ?_) (fun c_2 => ?_)
    · refine lv_aload_n hx hb d_W_rest_13 rfl (lv_at hl 0 rfl) ?_
      refine g_get S G in_W 0 rfl rfl 5 (by decide) fl_W_46 rfl d_W_rest_14 ?_
      refine g_cVi (rest := []) S G (c_B_size l D cA (a 9) (a 10) 257 (σ 5) (σ 0 3)) (cwV 0 S.2.2.2.2 ml_W_68 rfl rfl rfl (by decide +kernel) ⟨Nat.le_of_ble_eq_true rfl, Nat.le_of_ble_eq_true rfl⟩) [9, 10] [0, 1, 2, 3, 4, 5, 6, 7, 8, 11, 12, 13] rfl rfl rfl rfl (by decide) 9 rfl rfl rfl hl.1 rfl (Nat.le_of_ble_eq_true rfl) d_W_rest_17 ⟨Nat.le_of_ble_eq_true rfl, Nat.le_of_ble_eq_true rfl⟩ (fun rp_3 wp_3 H locs hp_3 G => ?_)
      obtain ⟨rfl, rfl⟩ := hp_3
      have G := G.sub (ws' := wW cA a σ) [0, 1, 2, 3, 4, 5, 6, 7, 8, 12, 13, 9, 10, 11] rfl (ww_B9 cA a _)
      refine lv_if_ne (tgt := 26) hx hb d_W_rest_20 (by decide) (fun c_4 => ?_) (fun c_4 => ?_)
      · refine lv_aload_n hx hb d_W_rest_26 rfl (lv_at hl 0 rfl) ?_
        refine lv_dup hx hb d_W_rest_27 rfl ?_
        refine g_get S G in_W 0 rfl rfl 8 (by decide) fl_W_57 rfl d_W_rest_28 ?_
        refine lv_iload_n hx hb d_W_rest_31 rfl (lv_at hl 1 rfl) ?_
        refine lv_iadd hx hb d_W_rest_32 ?_
        refine g_put S G in_W ft_W tok_W nm_W 0 rfl rfl 8 (by decide) fl_W_57 rfl rfl rfl (Nat.le_of_ble_eq_true rfl) (wW cA a (sU σ 0 1 ((σ 0 1) + q))) (ww_pgap cA a _ _) d_W_rest_33 (fun H locs G => ?_)
        refine lv_aload_n hx hb d_W_rest_36 rfl (lv_at hl 0 rfl) ?_
        refine g_get S G in_W 0 rfl rfl 8 (by decide) fl_W_57 rfl d_W_rest_37 ?_
        refine lv_bipush (v := 14) hx hb d_W_rest_40 (by decide) ?_
        refine lv_icmp_ge (tgt := 48) hx hb d_W_rest_42 (by decide) (fun c_5 => ?_) (fun c_5 => ?_)
        · refine lv_aload_n hx hb d_W_rest_48 rfl (lv_at hl 0 rfl) ?_
          refine g_cVv (rest := []) S G (c_W_endFrame l D cA a (sU σ 0 1 ((σ 0 1) + q))) (cwV 0 S.2.2.2.2 ml_W_76 rfl rfl rfl (by decide +kernel) ⟨Nat.le_of_ble_eq_true rfl, Nat.le_of_ble_eq_true rfl⟩) [0, 1, 2, 3, 4, 5, 6, 7, 8, 9, 10, 11, 12, 13] [] rfl rfl rfl rfl (by decide) 0 rfl rfl rfl hl.1 rfl (Nat.le_of_ble_eq_true rfl) d_W_rest_49 ⟨Nat.le_of_ble_eq_true rfl, Nat.le_of_ble_eq_true rfl⟩ (fun wp_6 H locs hp_6 G => ?_)
          subst hp_6
          have G : Gw D vwCl [(cA, .int)] AA ss ss.heap H locs (wW cA a (wEnd (sU σ 0 1 ((σ 0 1) + q)))) := G
          refine lv_aload_n hx hb d_W_rest_52 rfl (lv_at hl 0 rfl) ?_
          refine g_get S G in_W 0 rfl rfl 6 (by decide) fl_W_50 rfl d_W_rest_53 ?_
          refine g_cVi (rest := []) S G (c_B_size l D cA (a 11) (a 12) 256 ((wEnd (sU σ 0 1 ((σ 0 1) + q))) 6) ((wEnd (sU σ 0 1 ((σ 0 1) + q))) 0 4)) (cwV 0 S.2.2.2.2 ml_W_68 rfl rfl rfl (by decide +kernel) ⟨Nat.le_of_ble_eq_true rfl, Nat.le_of_ble_eq_true rfl⟩) [11, 12] [0, 1, 2, 3, 4, 5, 6, 7, 8, 9, 10, 13] rfl rfl rfl rfl (by decide) 11 rfl rfl rfl hl.1 rfl (Nat.le_of_ble_eq_true rfl) d_W_rest_56 ⟨Nat.le_of_ble_eq_true rfl, Nat.le_of_ble_eq_true rfl⟩ (fun rp_7 wp_7 H locs hp_7 G => ?_)
          obtain ⟨rfl, rfl⟩ := hp_7
          have G := G.sub (ws' := wW cA a (wEnd (sU σ 0 1 ((σ 0 1) + q)))) [0, 1, 2, 3, 4, 5, 6, 7, 8, 9, 10, 12, 13, 11] rfl (ww_B11 cA a _)
          exact g_reti S hr hlk G ⟨by first | (simp only [wRestR, wRest, wRestS, eq_false c_1, eq_true c_2, eq_false c_4, eq_true c_5, ↓reduceIte]; done) | (with_reducible rfl), congrArg (wW cA a) (by first | (simp only [wRestR, wRest, wRestS, eq_false c_1, eq_true c_2, eq_false c_4, eq_true c_5, ↓reduceIte]; done) | (with_reducible rfl))⟩ (Nat.le_refl _) (Nat.le_refl _) d_W_rest_59
        · refine lv_bipush (v := (-2)) hx hb d_W_rest_45 (by decide) ?_
          exact g_reti S hr hlk G ⟨by first | (simp only [wRestR, wRest, wRestS, eq_false c_1, eq_true c_2, eq_false c_4, eq_false c_5, ↓reduceIte]; done) | (with_reducible rfl), congrArg (wW cA a) (by first | (simp only [wRestR, wRest, wRestS, eq_false c_1, eq_true c_2, eq_false c_4, eq_false c_5, ↓reduceIte]; done) | (with_reducible rfl))⟩ (Nat.le_refl _) (Nat.le_refl _) d_W_rest_47
      · refine lv_bipush (v := (-2)) hx hb d_W_rest_23 (by decide) ?_
        exact g_reti S hr hlk G ⟨by first | (simp only [wRestR, wRest, wRestS, eq_false c_1, eq_true c_2, eq_true c_4, ↓reduceIte]; done) | (with_reducible rfl), congrArg (wW cA a) (by first | (simp only [wRestR, wRest, wRestS, eq_false c_1, eq_true c_2, eq_true c_4, ↓reduceIte]; done) | (with_reducible rfl))⟩ (Nat.le_refl _) (Nat.le_refl _) d_W_rest_25
    · refine lv_iconst (v := (-1)) hx hb d_W_rest_11 (by decide) ?_
      exact g_reti S hr hlk G ⟨by first | (simp only [wRestR, wRest, wRestS, eq_false c_1, eq_false c_2, ↓reduceIte]; done) | (with_reducible rfl), congrArg (wW cA a) (by first | (simp only [wRestR, wRest, wRestS, eq_false c_1, eq_false c_2, ↓reduceIte]; done) | (with_reducible rfl))⟩ (Nat.le_refl _) (Nat.le_refl _) d_W_rest_12
end
section
abbrev rm_T_init : Room := { frames := 1, cells := 0, slots := 0, locals := 14 }
set_option maxHeartbeats 4000000 in
set_option maxRecDepth 100000 in
theorem c_T_init (l : Launch) (D : va_G) (cA : ClassId) (t r : Nat) (most : Int32)  : Cv l y_T_init w_T_init rm_T_init D vwCl [(cA, .int)] [.ref t, .ref r, .int most] (([(t, .inr (1, [.null, .int 0]))] : va_W)) 0 0 (fun w0 => w0 = ([(t, .inr (1, [.ref r, .int most]))] : va_W)) := by
  refine Cv.of (Ts := lw_g) (own := "WireSlave$Table") (cc := b_T_init) (maxL := 3) (ret := none) (lv := [(0, .ref t), (1, .ref r), (2, .int most)]) (by decide) rfl rfl (fun w h => List.mem_cons_of_mem _ h) (Nat.le_of_ble_eq_true rfl) rfl ?_
  intro pp ee ss mm args below meth cx AA S hr hlk hnm G ls hl
  have hx := S.1
  have hb := S.2.1
  refine lv_aload_n hx hb d_T_init_0 rfl (lv_at hl 0 rfl) ?_
  refine W.objInit hx hb S.2.2.2.1 (S.2.2.2.2 _ mo_T_3) (S.2.2.2.2 _ io_) (S.2.2.2.2 _ co_) rfl (hl.1.trans S.2.2.1.symm) rfl d_T_init_1 (Nat.le_of_ble_eq_true rfl) (Nat.le_of_ble_eq_true rfl) ?_
  refine W.eq (g2 := F0 mm 4 ls []) rfl ?_
  refine lv_aload_n hx hb d_T_init_4 rfl (lv_at hl 0 rfl) ?_
  refine lv_aload_n hx hb d_T_init_5 rfl (lv_at hl 1 rfl) ?_
  refine g_putF S G in_T ft_T tok_T nm_T 0 rfl rfl 0 (by decide) fl_T_9 rfl hnm rfl rfl rfl (Nat.le_of_ble_eq_true rfl) ([(t, .inr (1, [.ref r, .int 0]))] : va_W) rfl d_T_init_6 (fun H locs G => ?_)
  refine lv_aload_n hx hb d_T_init_9 rfl (lv_at hl 0 rfl) ?_
  refine lv_iload_n hx hb d_T_init_10 rfl (lv_at hl 2 rfl) ?_
  refine g_putF S G in_T ft_T tok_T nm_T 0 rfl rfl 1 (by decide) fl_T_15 rfl hnm rfl rfl rfl (Nat.le_of_ble_eq_true rfl) ([(t, .inr (1, [.ref r, .int most]))] : va_W) rfl d_T_init_11 (fun H locs G => ?_)
  exact g_retv S hr hlk G (by first | rfl | (simp only [↓reduceIte]; done) | (simp only [↓reduceIte]; rfl)) (Nat.le_refl _) (Nat.le_refl _) d_T_init_14

abbrev rm_B_init : Room := { frames := 1, cells := 0, slots := 0, locals := 14 }
set_option maxHeartbeats 4000000 in
set_option maxRecDepth 100000 in
theorem c_B_init (l : Launch) (D : va_G) (cA : ClassId) (t r : Nat)  : Cv l y_B_init w_B_init rm_B_init D vwCl [(cA, .int)] [.ref t, .ref r] (([(t, .inr (0, [.null, .int 0]))] : va_W)) 0 0 (fun w0 => w0 = ([(t, .inr (0, [.ref r, .int 0]))] : va_W)) := by
  refine Cv.of (Ts := lw_g) (own := "WireSlave$Bytes") (cc := b_B_init) (maxL := 2) (ret := none) (lv := [(0, .ref t), (1, .ref r)]) (by decide) rfl rfl (fun w h => List.mem_cons_of_mem _ h) (Nat.le_of_ble_eq_true rfl) rfl ?_
  intro pp ee ss mm args below meth cx AA S hr hlk hnm G ls hl
  have hx := S.1
  have hb := S.2.1
  refine lv_aload_n hx hb d_B_init_0 rfl (lv_at hl 0 rfl) ?_
  refine W.objInit hx hb S.2.2.2.1 (S.2.2.2.2 _ mo_B_3) (S.2.2.2.2 _ io_) (S.2.2.2.2 _ co_) rfl (hl.1.trans S.2.2.1.symm) rfl d_B_init_1 (Nat.le_of_ble_eq_true rfl) (Nat.le_of_ble_eq_true rfl) ?_
  refine W.eq (g2 := F0 mm 4 ls []) rfl ?_
  refine lv_aload_n hx hb d_B_init_4 rfl (lv_at hl 0 rfl) ?_
  refine lv_aload_n hx hb d_B_init_5 rfl (lv_at hl 1 rfl) ?_
  refine g_putF S G in_B ft_B tok_B nm_B 0 rfl rfl 0 (by decide) fl_B_9 rfl hnm rfl rfl rfl (Nat.le_of_ble_eq_true rfl) ([(t, .inr (0, [.ref r, .int 0]))] : va_W) rfl d_B_init_6 (fun H locs G => ?_)
  refine lv_aload_n hx hb d_B_init_9 rfl (lv_at hl 0 rfl) ?_
  refine lv_iconst (v := 0) hx hb d_B_init_10 (by decide) ?_
  refine g_put S G in_B ft_B tok_B nm_B 0 rfl rfl 1 (by decide) fl_B_15 rfl rfl rfl (Nat.le_of_ble_eq_true rfl) ([(t, .inr (0, [.ref r, .int 0]))] : va_W) rfl d_B_init_11 (fun H locs G => ?_)
  exact g_retv S hr hlk G (by first | rfl | (simp only [↓reduceIte]; done) | (simp only [↓reduceIte]; rfl)) (Nat.le_refl _) (Nat.le_refl _) d_B_init_14

abbrev rm_W_init : Room := { frames := 2, cells := 13, slots := 1171, locals := 36 }
set_option maxHeartbeats 4000000 in
set_option maxRecDepth 100000 in
theorem c_W_init (l : Launch) (D : va_G) (cA : ClassId) (h0 : Nat) (ad : Int32)  : Cv l y_W_init w_W_init rm_W_init D vwCl [(cA, .int)] [.ref h0, .int ad] (([(h0, .inr (2, [.int 0, .null, .null, .null, .null, .null, .null, .null, .int 0, .int 0]))] : va_W)) 13 1171 (fun w0 => ∃ a : Nat → Nat, a 0 = h0 ∧ w0 = wW cA a (wIni ad)) := by
  refine Cv.of (Ts := lw_g) (own := "WireSlave") (cc := b_W_init) (maxL := 2) (ret := none) (lv := [(0, .ref h0), (1, .int ad)]) (by decide) rfl rfl (fun w h => List.mem_cons_of_mem _ h) (Nat.le_of_ble_eq_true rfl) rfl ?_
  intro pp ee ss mm args below meth cx AA S hr hlk hnm G ls hl
  have hx := S.1
  have hb := S.2.1
  refine lv_aload_n hx hb d_W_init_0 rfl (lv_at hl 0 rfl) ?_
  refine W.objInit hx hb S.2.2.2.1 (S.2.2.2.2 _ mo_W_1) (S.2.2.2.2 _ io_) (S.2.2.2.2 _ co_) rfl (hl.1.trans S.2.2.1.symm) rfl d_W_init_1 (Nat.le_of_ble_eq_true rfl) (Nat.le_of_ble_eq_true rfl) ?_
  refine W.eq (g2 := F0 mm 4 ls []) rfl ?_
  refine lv_aload_n hx hb d_W_init_4 rfl (lv_at hl 0 rfl) ?_
  refine lv_iconst (v := 1) hx hb d_W_init_5 (by decide) ?_
  refine lv_sipush (v := 247) hx hb d_W_init_6 (by decide) ?_
  refine lv_iload_n hx hb d_W_init_9 rfl (lv_at hl 1 rfl) ?_
  refine va_mmin hx hb (S.2.2.1.trans hl.1.symm) S.2.2.2.1 (S.2.2.2.2 _ mj_W_9) (S.2.2.2.2 _ sj_min) (S.2.2.2.2 _ ij_) (S.2.2.2.2 _ cj_min) (Nat.le_of_ble_eq_true rfl) (Nat.le_of_ble_eq_true rfl) (Nat.le_of_ble_eq_true rfl) (Nat.le_of_ble_eq_true rfl) d_W_init_10 ?_
  refine va_mmax hx hb (S.2.2.1.trans hl.1.symm) S.2.2.2.1 (S.2.2.2.2 _ mj_W_15) (S.2.2.2.2 _ sj_max) (S.2.2.2.2 _ ij_) (S.2.2.2.2 _ cj_max) (Nat.le_of_ble_eq_true rfl) (Nat.le_of_ble_eq_true rfl) (Nat.le_of_ble_eq_true rfl) (Nat.le_of_ble_eq_true rfl) d_W_init_13 ?_
  refine g_putF S G in_W ft_W tok_W nm_W 0 rfl rfl 0 (by decide) fl_W_18 rfl hnm rfl rfl rfl (Nat.le_of_ble_eq_true rfl) ([(h0, .inr (2, [.int (maxI 1 (minI 247 ad)), .null, .null, .null, .null, .null, .null, .null, .int 0, .int 0]))] : va_W) rfl d_W_init_16 (fun H locs G => ?_)
  refine lv_aload_n hx hb d_W_init_19 rfl (lv_at hl 0 rfl) ?_
  refine g_new (fs := [.null, .int 0]) (ci := 1) S G in_T ft_T tok_T cl_W_22 is_T ini_T rfl (fun j hj => by rcases (show j = 0 ∨ j = 1 by omega) with rfl | rfl <;> rfl) (Nat.le_of_ble_eq_true rfl) (Nat.le_of_ble_eq_true rfl) d_W_init_20 (fun q_1 H G => ?_)
  have G : Gw D vwCl [(cA, .int)] AA ss ss.heap H _ ([(h0, .inr (2, [.int (maxI 1 (minI 247 ad)), .null, .null, .null, .null, .null, .null, .null, .int 0, .int 0])), (q_1, .inr (1, [.null, .int 0]))] : va_W) := G
  refine lv_dup hx hb d_W_init_23 rfl ?_
  refine lv_sipush (v := 256) hx hb d_W_init_24 (by decide) ?_
  refine g_newa S G arr_I rfl 256 (by decide) (by decide) (by decide) (Nat.le_of_ble_eq_true rfl) (Nat.le_of_ble_eq_true rfl) d_W_init_27 (fun q_2 H G => ?_)
  have G : Gw D vwCl [(cA, .int)] AA ss ss.heap H _ ([(h0, .inr (2, [.int (maxI 1 (minI 247 ad)), .null, .null, .null, .null, .null, .null, .null, .int 0, .int 0])), (q_1, .inr (1, [.null, .int 0])), (q_2, .inl (cA, 256, .inl (fun _ => 0)))] : va_W) := G
  refine lv_iconst (v := 1) hx hb d_W_init_29 (by decide) ?_
  refine g_cIv (rest := [.ref q_1, .ref h0]) S G (c_T_init l D cA q_1 q_2 1) (cwI 2 S.2.2.2.2 (goodC_ cd_T_init) rfl rfl rfl (S.2.2.2.2 _ ini_T) (S.2.2.2.2 _ ml_W_24) (S.2.2.2.2 _ mi_W_24) rfl (by decide +kernel) ⟨Nat.le_of_ble_eq_true rfl, Nat.le_of_ble_eq_true rfl⟩) [1] [0, 2] rfl rfl rfl rfl (by decide) rfl hl.1 rfl (Nat.le_of_ble_eq_true rfl) d_W_init_30 ⟨Nat.le_of_ble_eq_true rfl, Nat.le_of_ble_eq_true rfl⟩ (fun wp_3 H locs hp_3 G => ?_)
  subst hp_3
  have G := G.sub (ws' := ([(h0, .inr (2, [.int (maxI 1 (minI 247 ad)), .null, .null, .null, .null, .null, .null, .null, .int 0, .int 0])), (q_1, .inr (1, [.ref q_2, .int 1])), (q_2, .inl (cA, 256, .inl (fun _ => 0)))] : va_W)) [0, 2, 1] rfl rfl
  refine g_putF S G in_W ft_W tok_W nm_W 0 rfl rfl 1 (by decide) fl_W_27 rfl hnm rfl rfl rfl (Nat.le_of_ble_eq_true rfl) ([(h0, .inr (2, [.int (maxI 1 (minI 247 ad)), .ref q_1, .null, .null, .null, .null, .null, .null, .int 0, .int 0])), (q_1, .inr (1, [.ref q_2, .int 1])), (q_2, .inl (cA, 256, .inl (fun _ => 0)))] : va_W) rfl d_W_init_33 (fun H locs G => ?_)
  refine lv_aload_n hx hb d_W_init_36 rfl (lv_at hl 0 rfl) ?_
  refine g_new (fs := [.null, .int 0]) (ci := 1) S G in_T ft_T tok_T cl_W_22 is_T ini_T rfl (fun j hj => by rcases (show j = 0 ∨ j = 1 by omega) with rfl | rfl <;> rfl) (Nat.le_of_ble_eq_true rfl) (Nat.le_of_ble_eq_true rfl) d_W_init_37 (fun q_4 H G => ?_)
  have G : Gw D vwCl [(cA, .int)] AA ss ss.heap H _ ([(h0, .inr (2, [.int (maxI 1 (minI 247 ad)), .ref q_1, .null, .null, .null, .null, .null, .null, .int 0, .int 0])), (q_1, .inr (1, [.ref q_2, .int 1])), (q_2, .inl (cA, 256, .inl (fun _ => 0))), (q_4, .inr (1, [.null, .int 0]))] : va_W) := G
  refine lv_dup hx hb d_W_init_40 rfl ?_
  refine lv_sipush (v := 256) hx hb d_W_init_41 (by decide) ?_
  refine g_newa S G arr_I rfl 256 (by decide) (by decide) (by decide) (Nat.le_of_ble_eq_true rfl) (Nat.le_of_ble_eq_true rfl) d_W_init_44 (fun q_5 H G => ?_)
  have G : Gw D vwCl [(cA, .int)] AA ss ss.heap H _ ([(h0, .inr (2, [.int (maxI 1 (minI 247 ad)), .ref q_1, .null, .null, .null, .null, .null, .null, .int 0, .int 0])), (q_1, .inr (1, [.ref q_2, .int 1])), (q_2, .inl (cA, 256, .inl (fun _ => 0))), (q_4, .inr (1, [.null, .int 0])), (q_5, .inl (cA, 256, .inl (fun _ => 0)))] : va_W) := G
  refine lv_iconst (v := 1) hx hb d_W_init_46 (by decide) ?_
  refine g_cIv (rest := [.ref q_4, .ref h0]) S G (c_T_init l D cA q_4 q_5 1) (cwI 2 S.2.2.2.2 (goodC_ cd_T_init) rfl rfl rfl (S.2.2.2.2 _ ini_T) (S.2.2.2.2 _ ml_W_24) (S.2.2.2.2 _ mi_W_24) rfl (by decide +kernel) ⟨Nat.le_of_ble_eq_true rfl, Nat.le_of_ble_eq_true rfl⟩) [3] [0, 1, 2, 4] rfl rfl rfl rfl (by decide) rfl hl.1 rfl (Nat.le_of_ble_eq_true rfl) d_W_init_47 ⟨Nat.le_of_ble_eq_true rfl, Nat.le_of_ble_eq_true rfl⟩ (fun wp_6 H locs hp_6 G => ?_)
  subst hp_6
  have G := G.sub (ws' := ([(h0, .inr (2, [.int (maxI 1 (minI 247 ad)), .ref q_1, .null, .null, .null, .null, .null, .null, .int 0, .int 0])), (q_1, .inr (1, [.ref q_2, .int 1])), (q_2, .inl (cA, 256, .inl (fun _ => 0))), (q_4, .inr (1, [.ref q_5, .int 1])), (q_5, .inl (cA, 256, .inl (fun _ => 0)))] : va_W)) [0, 1, 2, 4, 3] rfl rfl
  refine g_putF S G in_W ft_W tok_W nm_W 0 rfl rfl 2 (by decide) fl_W_31 rfl hnm rfl rfl rfl (Nat.le_of_ble_eq_true rfl) ([(h0, .inr (2, [.int (maxI 1 (minI 247 ad)), .ref q_1, .ref q_4, .null, .null, .null, .null, .null, .int 0, .int 0])), (q_1, .inr (1, [.ref q_2, .int 1])), (q_2, .inl (cA, 256, .inl (fun _ => 0))), (q_4, .inr (1, [.ref q_5, .int 1])), (q_5, .inl (cA, 256, .inl (fun _ => 0)))] : va_W) rfl d_W_init_50 (fun H locs G => ?_)
  refine lv_aload_n hx hb d_W_init_53 rfl (lv_at hl 0 rfl) ?_
  refine g_new (fs := [.null, .int 0]) (ci := 1) S G in_T ft_T tok_T cl_W_22 is_T ini_T rfl (fun j hj => by rcases (show j = 0 ∨ j = 1 by omega) with rfl | rfl <;> rfl) (Nat.le_of_ble_eq_true rfl) (Nat.le_of_ble_eq_true rfl) d_W_init_54 (fun q_7 H G => ?_)
  have G : Gw D vwCl [(cA, .int)] AA ss ss.heap H _ ([(h0, .inr (2, [.int (maxI 1 (minI 247 ad)), .ref q_1, .ref q_4, .null, .null, .null, .null, .null, .int 0, .int 0])), (q_1, .inr (1, [.ref q_2, .int 1])), (q_2, .inl (cA, 256, .inl (fun _ => 0))), (q_4, .inr (1, [.ref q_5, .int 1])), (q_5, .inl (cA, 256, .inl (fun _ => 0))), (q_7, .inr (1, [.null, .int 0]))] : va_W) := G
  refine lv_dup hx hb d_W_init_57 rfl ?_
  refine lv_bipush (v := 64) hx hb d_W_init_58 (by decide) ?_
  refine g_newa S G arr_I rfl 64 (by decide) (by decide) (by decide) (Nat.le_of_ble_eq_true rfl) (Nat.le_of_ble_eq_true rfl) d_W_init_60 (fun q_8 H G => ?_)
  have G : Gw D vwCl [(cA, .int)] AA ss ss.heap H _ ([(h0, .inr (2, [.int (maxI 1 (minI 247 ad)), .ref q_1, .ref q_4, .null, .null, .null, .null, .null, .int 0, .int 0])), (q_1, .inr (1, [.ref q_2, .int 1])), (q_2, .inl (cA, 256, .inl (fun _ => 0))), (q_4, .inr (1, [.ref q_5, .int 1])), (q_5, .inl (cA, 256, .inl (fun _ => 0))), (q_7, .inr (1, [.null, .int 0])), (q_8, .inl (cA, 64, .inl (fun _ => 0)))] : va_W) := G
  refine lv_ldc (v := 65535) hx hb S.2.2.2.1 (S.2.2.2.2 _ kn_W_34) d_W_init_62 ?_
  refine g_cIv (rest := [.ref q_7, .ref h0]) S G (c_T_init l D cA q_7 q_8 65535) (cwI 2 S.2.2.2.2 (goodC_ cd_T_init) rfl rfl rfl (S.2.2.2.2 _ ini_T) (S.2.2.2.2 _ ml_W_24) (S.2.2.2.2 _ mi_W_24) rfl (by decide +kernel) ⟨Nat.le_of_ble_eq_true rfl, Nat.le_of_ble_eq_true rfl⟩) [5] [0, 1, 2, 3, 4, 6] rfl rfl rfl rfl (by decide) rfl hl.1 rfl (Nat.le_of_ble_eq_true rfl) d_W_init_64 ⟨Nat.le_of_ble_eq_true rfl, Nat.le_of_ble_eq_true rfl⟩ (fun wp_9 H locs hp_9 G => ?_)
  subst hp_9
  have G := G.sub (ws' := ([(h0, .inr (2, [.int (maxI 1 (minI 247 ad)), .ref q_1, .ref q_4, .null, .null, .null, .null, .null, .int 0, .int 0])), (q_1, .inr (1, [.ref q_2, .int 1])), (q_2, .inl (cA, 256, .inl (fun _ => 0))), (q_4, .inr (1, [.ref q_5, .int 1])), (q_5, .inl (cA, 256, .inl (fun _ => 0))), (q_7, .inr (1, [.ref q_8, .int 65535])), (q_8, .inl (cA, 64, .inl (fun _ => 0)))] : va_W)) [0, 1, 2, 3, 4, 6, 5] rfl rfl
  refine g_putF S G in_W ft_W tok_W nm_W 0 rfl rfl 3 (by decide) fl_W_35 rfl hnm rfl rfl rfl (Nat.le_of_ble_eq_true rfl) ([(h0, .inr (2, [.int (maxI 1 (minI 247 ad)), .ref q_1, .ref q_4, .ref q_7, .null, .null, .null, .null, .int 0, .int 0])), (q_1, .inr (1, [.ref q_2, .int 1])), (q_2, .inl (cA, 256, .inl (fun _ => 0))), (q_4, .inr (1, [.ref q_5, .int 1])), (q_5, .inl (cA, 256, .inl (fun _ => 0))), (q_7, .inr (1, [.ref q_8, .int 65535])), (q_8, .inl (cA, 64, .inl (fun _ => 0)))] : va_W) rfl d_W_init_67 (fun H locs G => ?_)
  refine lv_aload_n hx hb d_W_init_70 rfl (lv_at hl 0 rfl) ?_
  refine g_new (fs := [.null, .int 0]) (ci := 1) S G in_T ft_T tok_T cl_W_22 is_T ini_T rfl (fun j hj => by rcases (show j = 0 ∨ j = 1 by omega) with rfl | rfl <;> rfl) (Nat.le_of_ble_eq_true rfl) (Nat.le_of_ble_eq_true rfl) d_W_init_71 (fun q_10 H G => ?_)
  have G : Gw D vwCl [(cA, .int)] AA ss ss.heap H _ ([(h0, .inr (2, [.int (maxI 1 (minI 247 ad)), .ref q_1, .ref q_4, .ref q_7, .null, .null, .null, .null, .int 0, .int 0])), (q_1, .inr (1, [.ref q_2, .int 1])), (q_2, .inl (cA, 256, .inl (fun _ => 0))), (q_4, .inr (1, [.ref q_5, .int 1])), (q_5, .inl (cA, 256, .inl (fun _ => 0))), (q_7, .inr (1, [.ref q_8, .int 65535])), (q_8, .inl (cA, 64, .inl (fun _ => 0))), (q_10, .inr (1, [.null, .int 0]))] : va_W) := G
  refine lv_dup hx hb d_W_init_74 rfl ?_
  refine lv_bipush (v := 64) hx hb d_W_init_75 (by decide) ?_
  refine g_newa S G arr_I rfl 64 (by decide) (by decide) (by decide) (Nat.le_of_ble_eq_true rfl) (Nat.le_of_ble_eq_true rfl) d_W_init_77 (fun q_11 H G => ?_)
  have G : Gw D vwCl [(cA, .int)] AA ss ss.heap H _ ([(h0, .inr (2, [.int (maxI 1 (minI 247 ad)), .ref q_1, .ref q_4, .ref q_7, .null, .null, .null, .null, .int 0, .int 0])), (q_1, .inr (1, [.ref q_2, .int 1])), (q_2, .inl (cA, 256, .inl (fun _ => 0))), (q_4, .inr (1, [.ref q_5, .int 1])), (q_5, .inl (cA, 256, .inl (fun _ => 0))), (q_7, .inr (1, [.ref q_8, .int 65535])), (q_8, .inl (cA, 64, .inl (fun _ => 0))), (q_10, .inr (1, [.null, .int 0])), (q_11, .inl (cA, 64, .inl (fun _ => 0)))] : va_W) := G
  refine lv_ldc (v := 65535) hx hb S.2.2.2.1 (S.2.2.2.2 _ kn_W_34) d_W_init_79 ?_
  refine g_cIv (rest := [.ref q_10, .ref h0]) S G (c_T_init l D cA q_10 q_11 65535) (cwI 2 S.2.2.2.2 (goodC_ cd_T_init) rfl rfl rfl (S.2.2.2.2 _ ini_T) (S.2.2.2.2 _ ml_W_24) (S.2.2.2.2 _ mi_W_24) rfl (by decide +kernel) ⟨Nat.le_of_ble_eq_true rfl, Nat.le_of_ble_eq_true rfl⟩) [7] [0, 1, 2, 3, 4, 5, 6, 8] rfl rfl rfl rfl (by decide) rfl hl.1 rfl (Nat.le_of_ble_eq_true rfl) d_W_init_81 ⟨Nat.le_of_ble_eq_true rfl, Nat.le_of_ble_eq_true rfl⟩ (fun wp_12 H locs hp_12 G => ?_)
  subst hp_12
  have G := G.sub (ws' := ([(h0, .inr (2, [.int (maxI 1 (minI 247 ad)), .ref q_1, .ref q_4, .ref q_7, .null, .null, .null, .null, .int 0, .int 0])), (q_1, .inr (1, [.ref q_2, .int 1])), (q_2, .inl (cA, 256, .inl (fun _ => 0))), (q_4, .inr (1, [.ref q_5, .int 1])), (q_5, .inl (cA, 256, .inl (fun _ => 0))), (q_7, .inr (1, [.ref q_8, .int 65535])), (q_8, .inl (cA, 64, .inl (fun _ => 0))), (q_10, .inr (1, [.ref q_11, .int 65535])), (q_11, .inl (cA, 64, .inl (fun _ => 0)))] : va_W)) [0, 1, 2, 3, 4, 5, 6, 8, 7] rfl rfl
  refine g_putF S G in_W ft_W tok_W nm_W 0 rfl rfl 4 (by decide) fl_W_38 rfl hnm rfl rfl rfl (Nat.le_of_ble_eq_true rfl) ([(h0, .inr (2, [.int (maxI 1 (minI 247 ad)), .ref q_1, .ref q_4, .ref q_7, .ref q_10, .null, .null, .null, .int 0, .int 0])), (q_1, .inr (1, [.ref q_2, .int 1])), (q_2, .inl (cA, 256, .inl (fun _ => 0))), (q_4, .inr (1, [.ref q_5, .int 1])), (q_5, .inl (cA, 256, .inl (fun _ => 0))), (q_7, .inr (1, [.ref q_8, .int 65535])), (q_8, .inl (cA, 64, .inl (fun _ => 0))), (q_10, .inr (1, [.ref q_11, .int 65535])), (q_11, .inl (cA, 64, .inl (fun _ => 0)))] : va_W) rfl d_W_init_84 (fun H locs G => ?_)
  refine lv_aload_n hx hb d_W_init_87 rfl (lv_at hl 0 rfl) ?_
  refine g_new (fs := [.null, .int 0]) (ci := 0) S G in_B ft_B tok_B cl_W_41 is_B ini_B rfl (fun j hj => by rcases (show j = 0 ∨ j = 1 by omega) with rfl | rfl <;> rfl) (Nat.le_of_ble_eq_true rfl) (Nat.le_of_ble_eq_true rfl) d_W_init_88 (fun q_13 H G => ?_)
  have G : Gw D vwCl [(cA, .int)] AA ss ss.heap H _ ([(h0, .inr (2, [.int (maxI 1 (minI 247 ad)), .ref q_1, .ref q_4, .ref q_7, .ref q_10, .null, .null, .null, .int 0, .int 0])), (q_1, .inr (1, [.ref q_2, .int 1])), (q_2, .inl (cA, 256, .inl (fun _ => 0))), (q_4, .inr (1, [.ref q_5, .int 1])), (q_5, .inl (cA, 256, .inl (fun _ => 0))), (q_7, .inr (1, [.ref q_8, .int 65535])), (q_8, .inl (cA, 64, .inl (fun _ => 0))), (q_10, .inr (1, [.ref q_11, .int 65535])), (q_11, .inl (cA, 64, .inl (fun _ => 0))), (q_13, .inr (0, [.null, .int 0]))] : va_W) := G
  refine lv_dup hx hb d_W_init_91 rfl ?_
  refine lv_sipush (v := 257) hx hb d_W_init_92 (by decide) ?_
  refine g_newa S G arr_I rfl 257 (by decide) (by decide) (by decide) (Nat.le_of_ble_eq_true rfl) (Nat.le_of_ble_eq_true rfl) d_W_init_95 (fun q_14 H G => ?_)
  have G : Gw D vwCl [(cA, .int)] AA ss ss.heap H _ ([(h0, .inr (2, [.int (maxI 1 (minI 247 ad)), .ref q_1, .ref q_4, .ref q_7, .ref q_10, .null, .null, .null, .int 0, .int 0])), (q_1, .inr (1, [.ref q_2, .int 1])), (q_2, .inl (cA, 256, .inl (fun _ => 0))), (q_4, .inr (1, [.ref q_5, .int 1])), (q_5, .inl (cA, 256, .inl (fun _ => 0))), (q_7, .inr (1, [.ref q_8, .int 65535])), (q_8, .inl (cA, 64, .inl (fun _ => 0))), (q_10, .inr (1, [.ref q_11, .int 65535])), (q_11, .inl (cA, 64, .inl (fun _ => 0))), (q_13, .inr (0, [.null, .int 0])), (q_14, .inl (cA, 257, .inl (fun _ => 0)))] : va_W) := G
  refine g_cIv (rest := [.ref q_13, .ref h0]) S G (c_B_init l D cA q_13 q_14) (cwI 1 S.2.2.2.2 (goodC_ cd_B_init) rfl rfl rfl (S.2.2.2.2 _ ini_B) (S.2.2.2.2 _ ml_W_43) (S.2.2.2.2 _ mi_W_43) rfl (by decide +kernel) ⟨Nat.le_of_ble_eq_true rfl, Nat.le_of_ble_eq_true rfl⟩) [9] [0, 1, 2, 3, 4, 5, 6, 7, 8, 10] rfl rfl rfl rfl (by decide) rfl hl.1 rfl (Nat.le_of_ble_eq_true rfl) d_W_init_97 ⟨Nat.le_of_ble_eq_true rfl, Nat.le_of_ble_eq_true rfl⟩ (fun wp_15 H locs hp_15 G => ?_)
  subst hp_15
  have G := G.sub (ws' := ([(h0, .inr (2, [.int (maxI 1 (minI 247 ad)), .ref q_1, .ref q_4, .ref q_7, .ref q_10, .null, .null, .null, .int 0, .int 0])), (q_1, .inr (1, [.ref q_2, .int 1])), (q_2, .inl (cA, 256, .inl (fun _ => 0))), (q_4, .inr (1, [.ref q_5, .int 1])), (q_5, .inl (cA, 256, .inl (fun _ => 0))), (q_7, .inr (1, [.ref q_8, .int 65535])), (q_8, .inl (cA, 64, .inl (fun _ => 0))), (q_10, .inr (1, [.ref q_11, .int 65535])), (q_11, .inl (cA, 64, .inl (fun _ => 0))), (q_13, .inr (0, [.ref q_14, .int 0])), (q_14, .inl (cA, 257, .inl (fun _ => 0)))] : va_W)) [0, 1, 2, 3, 4, 5, 6, 7, 8, 10, 9] rfl rfl
  refine g_putF S G in_W ft_W tok_W nm_W 0 rfl rfl 5 (by decide) fl_W_46 rfl hnm rfl rfl rfl (Nat.le_of_ble_eq_true rfl) ([(h0, .inr (2, [.int (maxI 1 (minI 247 ad)), .ref q_1, .ref q_4, .ref q_7, .ref q_10, .ref q_13, .null, .null, .int 0, .int 0])), (q_1, .inr (1, [.ref q_2, .int 1])), (q_2, .inl (cA, 256, .inl (fun _ => 0))), (q_4, .inr (1, [.ref q_5, .int 1])), (q_5, .inl (cA, 256, .inl (fun _ => 0))), (q_7, .inr (1, [.ref q_8, .int 65535])), (q_8, .inl (cA, 64, .inl (fun _ => 0))), (q_10, .inr (1, [.ref q_11, .int 65535])), (q_11, .inl (cA, 64, .inl (fun _ => 0))), (q_13, .inr (0, [.ref q_14, .int 0])), (q_14, .inl (cA, 257, .inl (fun _ => 0)))] : va_W) rfl d_W_init_100 (fun H locs G => ?_)
  refine lv_aload_n hx hb d_W_init_103 rfl (lv_at hl 0 rfl) ?_
  refine g_new (fs := [.null, .int 0]) (ci := 0) S G in_B ft_B tok_B cl_W_41 is_B ini_B rfl (fun j hj => by rcases (show j = 0 ∨ j = 1 by omega) with rfl | rfl <;> rfl) (Nat.le_of_ble_eq_true rfl) (Nat.le_of_ble_eq_true rfl) d_W_init_104 (fun q_16 H G => ?_)
  have G : Gw D vwCl [(cA, .int)] AA ss ss.heap H _ ([(h0, .inr (2, [.int (maxI 1 (minI 247 ad)), .ref q_1, .ref q_4, .ref q_7, .ref q_10, .ref q_13, .null, .null, .int 0, .int 0])), (q_1, .inr (1, [.ref q_2, .int 1])), (q_2, .inl (cA, 256, .inl (fun _ => 0))), (q_4, .inr (1, [.ref q_5, .int 1])), (q_5, .inl (cA, 256, .inl (fun _ => 0))), (q_7, .inr (1, [.ref q_8, .int 65535])), (q_8, .inl (cA, 64, .inl (fun _ => 0))), (q_10, .inr (1, [.ref q_11, .int 65535])), (q_11, .inl (cA, 64, .inl (fun _ => 0))), (q_13, .inr (0, [.ref q_14, .int 0])), (q_14, .inl (cA, 257, .inl (fun _ => 0))), (q_16, .inr (0, [.null, .int 0]))] : va_W) := G
  refine lv_dup hx hb d_W_init_107 rfl ?_
  refine lv_sipush (v := 256) hx hb d_W_init_108 (by decide) ?_
  refine g_newa S G arr_I rfl 256 (by decide) (by decide) (by decide) (Nat.le_of_ble_eq_true rfl) (Nat.le_of_ble_eq_true rfl) d_W_init_111 (fun q_17 H G => ?_)
  have G : Gw D vwCl [(cA, .int)] AA ss ss.heap H _ ([(h0, .inr (2, [.int (maxI 1 (minI 247 ad)), .ref q_1, .ref q_4, .ref q_7, .ref q_10, .ref q_13, .null, .null, .int 0, .int 0])), (q_1, .inr (1, [.ref q_2, .int 1])), (q_2, .inl (cA, 256, .inl (fun _ => 0))), (q_4, .inr (1, [.ref q_5, .int 1])), (q_5, .inl (cA, 256, .inl (fun _ => 0))), (q_7, .inr (1, [.ref q_8, .int 65535])), (q_8, .inl (cA, 64, .inl (fun _ => 0))), (q_10, .inr (1, [.ref q_11, .int 65535])), (q_11, .inl (cA, 64, .inl (fun _ => 0))), (q_13, .inr (0, [.ref q_14, .int 0])), (q_14, .inl (cA, 257, .inl (fun _ => 0))), (q_16, .inr (0, [.null, .int 0])), (q_17, .inl (cA, 256, .inl (fun _ => 0)))] : va_W) := G
  refine g_cIv (rest := [.ref q_16, .ref h0]) S G (c_B_init l D cA q_16 q_17) (cwI 1 S.2.2.2.2 (goodC_ cd_B_init) rfl rfl rfl (S.2.2.2.2 _ ini_B) (S.2.2.2.2 _ ml_W_43) (S.2.2.2.2 _ mi_W_43) rfl (by decide +kernel) ⟨Nat.le_of_ble_eq_true rfl, Nat.le_of_ble_eq_true rfl⟩) [11] [0, 1, 2, 3, 4, 5, 6, 7, 8, 9, 10, 12] rfl rfl rfl rfl (by decide) rfl hl.1 rfl (Nat.le_of_ble_eq_true rfl) d_W_init_113 ⟨Nat.le_of_ble_eq_true rfl, Nat.le_of_ble_eq_true rfl⟩ (fun wp_18 H locs hp_18 G => ?_)
  subst hp_18
  have G := G.sub (ws' := ([(h0, .inr (2, [.int (maxI 1 (minI 247 ad)), .ref q_1, .ref q_4, .ref q_7, .ref q_10, .ref q_13, .null, .null, .int 0, .int 0])), (q_1, .inr (1, [.ref q_2, .int 1])), (q_2, .inl (cA, 256, .inl (fun _ => 0))), (q_4, .inr (1, [.ref q_5, .int 1])), (q_5, .inl (cA, 256, .inl (fun _ => 0))), (q_7, .inr (1, [.ref q_8, .int 65535])), (q_8, .inl (cA, 64, .inl (fun _ => 0))), (q_10, .inr (1, [.ref q_11, .int 65535])), (q_11, .inl (cA, 64, .inl (fun _ => 0))), (q_13, .inr (0, [.ref q_14, .int 0])), (q_14, .inl (cA, 257, .inl (fun _ => 0))), (q_16, .inr (0, [.ref q_17, .int 0])), (q_17, .inl (cA, 256, .inl (fun _ => 0)))] : va_W)) [0, 1, 2, 3, 4, 5, 6, 7, 8, 9, 10, 12, 11] rfl rfl
  refine g_putF S G in_W ft_W tok_W nm_W 0 rfl rfl 6 (by decide) fl_W_50 rfl hnm rfl rfl rfl (Nat.le_of_ble_eq_true rfl) ([(h0, .inr (2, [.int (maxI 1 (minI 247 ad)), .ref q_1, .ref q_4, .ref q_7, .ref q_10, .ref q_13, .ref q_16, .null, .int 0, .int 0])), (q_1, .inr (1, [.ref q_2, .int 1])), (q_2, .inl (cA, 256, .inl (fun _ => 0))), (q_4, .inr (1, [.ref q_5, .int 1])), (q_5, .inl (cA, 256, .inl (fun _ => 0))), (q_7, .inr (1, [.ref q_8, .int 65535])), (q_8, .inl (cA, 64, .inl (fun _ => 0))), (q_10, .inr (1, [.ref q_11, .int 65535])), (q_11, .inl (cA, 64, .inl (fun _ => 0))), (q_13, .inr (0, [.ref q_14, .int 0])), (q_14, .inl (cA, 257, .inl (fun _ => 0))), (q_16, .inr (0, [.ref q_17, .int 0])), (q_17, .inl (cA, 256, .inl (fun _ => 0)))] : va_W) rfl d_W_init_116 (fun H locs G => ?_)
  refine lv_aload_n hx hb d_W_init_119 rfl (lv_at hl 0 rfl) ?_
  refine lv_bipush (v := 6) hx hb d_W_init_120 (by decide) ?_
  refine g_newa S G arr_I rfl 6 (by decide) (by decide) (by decide) (Nat.le_of_ble_eq_true rfl) (Nat.le_of_ble_eq_true rfl) d_W_init_122 (fun q_19 H G => ?_)
  have G : Gw D vwCl [(cA, .int)] AA ss ss.heap H _ ([(h0, .inr (2, [.int (maxI 1 (minI 247 ad)), .ref q_1, .ref q_4, .ref q_7, .ref q_10, .ref q_13, .ref q_16, .null, .int 0, .int 0])), (q_1, .inr (1, [.ref q_2, .int 1])), (q_2, .inl (cA, 256, .inl (fun _ => 0))), (q_4, .inr (1, [.ref q_5, .int 1])), (q_5, .inl (cA, 256, .inl (fun _ => 0))), (q_7, .inr (1, [.ref q_8, .int 65535])), (q_8, .inl (cA, 64, .inl (fun _ => 0))), (q_10, .inr (1, [.ref q_11, .int 65535])), (q_11, .inl (cA, 64, .inl (fun _ => 0))), (q_13, .inr (0, [.ref q_14, .int 0])), (q_14, .inl (cA, 257, .inl (fun _ => 0))), (q_16, .inr (0, [.ref q_17, .int 0])), (q_17, .inl (cA, 256, .inl (fun _ => 0))), (q_19, .inl (cA, 6, .inl (fun _ => 0)))] : va_W) := G
  refine g_putF S G in_W ft_W tok_W nm_W 0 rfl rfl 7 (by decide) fl_W_53 rfl hnm rfl rfl rfl (Nat.le_of_ble_eq_true rfl) ([(h0, .inr (2, [.int (maxI 1 (minI 247 ad)), .ref q_1, .ref q_4, .ref q_7, .ref q_10, .ref q_13, .ref q_16, .ref q_19, .int 0, .int 0])), (q_1, .inr (1, [.ref q_2, .int 1])), (q_2, .inl (cA, 256, .inl (fun _ => 0))), (q_4, .inr (1, [.ref q_5, .int 1])), (q_5, .inl (cA, 256, .inl (fun _ => 0))), (q_7, .inr (1, [.ref q_8, .int 65535])), (q_8, .inl (cA, 64, .inl (fun _ => 0))), (q_10, .inr (1, [.ref q_11, .int 65535])), (q_11, .inl (cA, 64, .inl (fun _ => 0))), (q_13, .inr (0, [.ref q_14, .int 0])), (q_14, .inl (cA, 257, .inl (fun _ => 0))), (q_16, .inr (0, [.ref q_17, .int 0])), (q_17, .inl (cA, 256, .inl (fun _ => 0))), (q_19, .inl (cA, 6, .inl (fun _ => 0)))] : va_W) rfl d_W_init_124 (fun H locs G => ?_)
  refine lv_aload_n hx hb d_W_init_127 rfl (lv_at hl 0 rfl) ?_
  refine lv_iconst (v := 0) hx hb d_W_init_128 (by decide) ?_
  refine g_put S G in_W ft_W tok_W nm_W 0 rfl rfl 8 (by decide) fl_W_57 rfl rfl rfl (Nat.le_of_ble_eq_true rfl) ([(h0, .inr (2, [.int (maxI 1 (minI 247 ad)), .ref q_1, .ref q_4, .ref q_7, .ref q_10, .ref q_13, .ref q_16, .ref q_19, .int 0, .int 0])), (q_1, .inr (1, [.ref q_2, .int 1])), (q_2, .inl (cA, 256, .inl (fun _ => 0))), (q_4, .inr (1, [.ref q_5, .int 1])), (q_5, .inl (cA, 256, .inl (fun _ => 0))), (q_7, .inr (1, [.ref q_8, .int 65535])), (q_8, .inl (cA, 64, .inl (fun _ => 0))), (q_10, .inr (1, [.ref q_11, .int 65535])), (q_11, .inl (cA, 64, .inl (fun _ => 0))), (q_13, .inr (0, [.ref q_14, .int 0])), (q_14, .inl (cA, 257, .inl (fun _ => 0))), (q_16, .inr (0, [.ref q_17, .int 0])), (q_17, .inl (cA, 256, .inl (fun _ => 0))), (q_19, .inl (cA, 6, .inl (fun _ => 0)))] : va_W) rfl d_W_init_129 (fun H locs G => ?_)
  refine lv_aload_n hx hb d_W_init_132 rfl (lv_at hl 0 rfl) ?_
  refine lv_iconst (v := 0) hx hb d_W_init_133 (by decide) ?_
  refine g_put S G in_W ft_W tok_W nm_W 0 rfl rfl 9 (by decide) fl_W_60 rfl rfl rfl (Nat.le_of_ble_eq_true rfl) ([(h0, .inr (2, [.int (maxI 1 (minI 247 ad)), .ref q_1, .ref q_4, .ref q_7, .ref q_10, .ref q_13, .ref q_16, .ref q_19, .int 0, .int 0])), (q_1, .inr (1, [.ref q_2, .int 1])), (q_2, .inl (cA, 256, .inl (fun _ => 0))), (q_4, .inr (1, [.ref q_5, .int 1])), (q_5, .inl (cA, 256, .inl (fun _ => 0))), (q_7, .inr (1, [.ref q_8, .int 65535])), (q_8, .inl (cA, 64, .inl (fun _ => 0))), (q_10, .inr (1, [.ref q_11, .int 65535])), (q_11, .inl (cA, 64, .inl (fun _ => 0))), (q_13, .inr (0, [.ref q_14, .int 0])), (q_14, .inl (cA, 257, .inl (fun _ => 0))), (q_16, .inr (0, [.ref q_17, .int 0])), (q_17, .inl (cA, 256, .inl (fun _ => 0))), (q_19, .inl (cA, 6, .inl (fun _ => 0)))] : va_W) rfl d_W_init_134 (fun H locs G => ?_)
  exact g_retv S hr hlk G ⟨fun k => ([h0, q_1, q_2, q_4, q_5, q_7, q_8, q_10, q_11, q_13, q_14, q_16, q_17, q_19] : List Nat).getD k 0, rfl, rfl⟩ (Nat.le_of_ble_eq_true rfl) (Nat.le_of_ble_eq_true rfl) d_W_init_137
end
section
/-! The reference's methods as pure functions. -/
theorem g_retqa {p : Program} {l : Launch} {e : Env} {R : Room} {s : State} {m : MethodId} {args : Array Value} {below : List Frame} {meth : Method} {c : Code} {H : Heap} {locs : List Loc} {cells slots : Nat} {cc : ByteArray} {pc nL : Nat} {ls : Array Slot} {D : va_G} {cl : List vw_C} {A : Nat → Prop} {tys : List (ClassId × FieldType)} {Ts : List Cond} {own : String} {w : va_W} {mc ms : Nat} {post : Option Nat → va_W → Prop} {ty : FieldType} (S : CallFix p m c cc nL s args Ts own) (hr : meth.sig.returnType = some (.array ty)) (hlk : meth.locks = false) (v : Option Nat) (G : Gw D cl tys A s s.heap H locs w) (hp : post v w) (hc : cells ≤ mc) (hs : slots ≤ ms) (hdg : decode cc pc = .ok (.areturn, 1)) : W p l e R s m args below meth c H locs cells slots (Zq D cl tys A s args below mc ms post) (F0 m pc ls [va_rf v]) := by
  refine W.widen hc hs ?_
  exact W.aret (v := va_rf v) S.1 S.2.1 hr (Or.inr ⟨_, rfl⟩) (by cases v with | none => exact Or.inl rfl | some q => exact Or.inr ⟨q, rfl⟩) (fun t ht hW => ⟨⟨v, w, rfl, hp, by rw [ht]; exact G.2.1, va_K.moved hW.alike G.1, G.2.2.1⟩, G.2.2.2.1.F ht⟩) G.2.2.2.1.2.2 hdg hlk
theorem g_ialdj {p : Program} {l : Launch} {e : Env} {R : Room} {s : State} {m : MethodId} {args : Array Value} {below : List Frame} {meth : Method} {c : Code} {H : Heap} {locs : List Loc} {cells slots : Nat} {Q : State → Prop} {cc : ByteArray} {pc nL : Nat} {ls : Array Slot} {rest : List Value} {D : va_G} {cl : List vw_C} {A : Nat → Prop} {a : Nat} {tys : List (ClassId × FieldType)} {ws : va_W} {H0 : Heap} {Ts : List Cond} {own : String} (S : CallFix p m c cc nL s args Ts own) (G : Gw D cl tys A s H0 H locs ws) (q0 t0 : Nat) {cA : ClassId} {n : Nat} (f : Nat → Int32) (ha : ws[q0]? = some (a, .inl (cA, n, .inl f))) (ht : tys[t0]? = some (cA, .int)) {i : Int32} (j : Nat) (hj : i.toNatClampNeg = j) (hin : vp_in i n) (hdg : decode cc pc = .ok (.iaload, 1))
    (kk : W p l e R s m args below meth c H locs cells slots Q (F0 m (pc + 1) ls (.int (f j) :: rest))) : W p l e R s m args below meth c H locs cells slots Q (F0 m pc ls (.int i :: .ref a :: rest)) := by
  subst hj
  exact va_iald S.1 S.2.1 G.1 G.2.1 q0 t0 ha ht hin hdg kk
theorem g_iastj {p : Program} {l : Launch} {e : Env} {R : Room} {s : State} {m : MethodId} {args : Array Value} {below : List Frame} {meth : Method} {c : Code} {H : Heap} {locs : List Loc} {cells slots : Nat} {Q : State → Prop} {cc : ByteArray} {pc nL : Nat} {ls : Array Slot} {rest : List Value} {D : va_G} {cl : List vw_C} {A : Nat → Prop} {a : Nat} {tys : List (ClassId × FieldType)} {ws : va_W} {H0 : Heap} {Ts : List Cond} {own : String} (S : CallFix p m c cc nL s args Ts own) (G : Gw D cl tys A s H0 H locs ws) (q0 t0 : Nat) {cA : ClassId} {n : Nat} {f : Nat → Int32} (ha : ws[q0]? = some (a, .inl (cA, n, .inl f))) (ht : tys[t0]? = some (cA, .int)) {i x : Int32} (j : Nat) (hj : i.toNatClampNeg = j) (hin : vp_in i n) (ws' : va_W) (hws : ws.set q0 (a, .inl (cA, n, .inl (upd f j x))) = ws') (hdg : decode cc pc = .ok (.iastore, 1))
    (kk : ∀ (H : Heap) (locs : List Loc), Gw D cl tys A s H0 H locs ws' → W p l e R s m args below meth c H locs cells slots Q (F0 m (pc + 1) ls rest)) : W p l e R s m args below meth c H locs cells slots Q (F0 m pc ls (.int x :: .int i :: .ref a :: rest)) := by
  subst hws
  subst hj
  exact va_iast S.1 S.2.1 G.1 G.2.1 G.2.2.1 G.2.2.2.1 q0 t0 ha ht hin hdg (fun H1 l1 a1 a2 a3 => kk H1 l1 ⟨G.1, a1, a2, a3, G.2.2.2.2⟩)
def lshr (x : Int64) (y : Int32) : Int64 := x >>> (y.toInt64 &&& 63)
def mByte (v : Int64) (k : Int32) : Int32 := (lshr v (8 * k) &&& 255).toInt32
def mcS (x : Int32) : Int32 := if x - x / 2 * 2 = 1 then x / 2 ^^^ 40961 else x / 2
def mcN : Nat → Int32 → Int32
  | 0, s => s
  | k + 1, s => mcN k (mcS s)
def mWith (s b : Int32) : Int32 := mcN 8 (s ^^^ b)
def mFst (f : Nat → Int32) : Nat → Nat → Int32 → Int32
  | 0, _, s => s
  | k + 1, i, s => mFst f k (i + 1) (mWith s (f i))
def mSum (f : Nat → Int32) (c : Int32) : Int32 := mFst f c.toNatClampNeg 0 65535
def dM (fr : Nat → Int32) (k : Int32) : Int32 := fr (2 + k).toNatClampNeg
def mTwo (fr : Nat → Int32) (k : Int32) : Int32 := 256 * dM fr k + dM fr (k + 1)
def mTab (f : Int32) : Nat := if f = 2 then 2 else if f = 4 then 4 else if f = 1 then 1 else if f = 5 then 1 else if f = 15 then 1 else 3
def mNum (t : Int32) : Nat := if t = 0 then 1 else if t = 1 then 2 else if t = 2 then 3 else 4
def mNo (t p : Int32) : Int32 := if t < 0 then 1 else if 3 < t then 1 else if p < 0 then 1 else if 2 ≤ t then (if p < 64 then 0 else 1) else if p < 256 then 0 else 1
def mSp (τ : St) : Int32 := if τ 0 4 = 0 then (if τ 0 2 ≤ 0 then (if τ 0 2 < 256 then 0 else 1) else if 7 ≤ τ 0 3 then 1 else if τ 0 2 < 256 then 0 else 1) else 1
def mMany (τ : St) : Int32 := if τ 0 2 ≤ 256 then τ 0 2 + 1 else τ 0 2
def mT (τ : St) : St := sU τ 0 0 0
def mFr (ρ : St) (m b : Int32) : St := if 256 ≤ m then ρ else sU ρ 5 m.toNatClampNeg b
def mHear (τ : St) (b : Int32) : St := if b < 0 then mT τ else if b ≤ 255 then sU (mFr (sU (sU (mT τ) 0 4 (mSp τ)) 0 3 0) (τ 0 2) b) 0 2 (mMany τ) else mT τ
def mHearR (τ : St) (b : Int32) : Int32 := if b < 0 then -1 else if b ≤ 255 then mMany τ else -1
def mLisL (v : Int64) : Nat → St → St
  | 0, ρ => ρ
  | k + 1, ρ => mLisL v k (mHear ρ (mByte v (nI k)))
def mLisY (v : Int64) : Nat → St → Int32 → Int32
  | 0, _, y => y
  | k + 1, ρ, _ => mLisY v k (mHear ρ (mByte v (nI k))) (mHearR ρ (mByte v (nI k)))
def mLis (τ : St) (n : Int32) (v : Int64) : St := if n < 1 then mT τ else if n ≤ 8 then mLisL v n.toNatClampNeg (mT τ) else mT τ
def mLisR (τ : St) (n : Int32) (v : Int64) : Int32 := if n < 1 then -1 else if n ≤ 8 then mLisY v n.toNatClampNeg (mT τ) 0 else -1
def mSumL (v : Int64) : Nat → Int32 → Int32
  | 0, s => s
  | k + 1, s => mSumL v k (mWith s (mByte v (nI k)))
def mSumR (n : Int32) (v : Int64) : Int32 := if n < 0 then -1 else if n ≤ 8 then mSumL v n.toNatClampNeg 65535 else -1
def mReply (τ : St) (i : Int32) : Int32 := if i < 0 then -1 else if i < τ 0 5 then τ 6 i.toNatClampNeg else -1
def mCount (τ : St) (x : Int32) : Int32 := if x < 0 then -1 else if x ≤ 5 then τ 7 x.toNatClampNeg else -1
def mGet (τ : St) (t p : Int32) : Int32 := if mNo t p = 0 then τ (mNum t) p.toNatClampNeg else -1
def mSetOk (t p v : Int32) : Int32 := if mNo t p = 0 then (if v < 0 then 0 else if 2 ≤ t then (if v ≤ 65535 then 1 else 0) else if v ≤ 1 then 1 else 0) else 0
def mSetR (τ : St) (t p v : Int32) : Int32 := if mSetOk t p v = 0 then -1 else τ (mNum t) p.toNatClampNeg
def mSet (τ : St) (t p v : Int32) : St := if mSetOk t p v = 0 then mT τ else sU (mT τ) (mNum t) p.toNatClampNeg v
-- why a request is refused, a function by function
def mPl (a n : Int32) (N : Int32) : Int32 := if a + n ≤ N then 0 else 2
def mWA (fr : Nat → Int32) (len M N : Int32) : Int32 := if len = 4 then (if mTwo fr 2 < 1 then 3 else if mTwo fr 2 ≤ M then mPl (mTwo fr 0) (mTwo fr 2) N else 3) else 3
def mW5 (fr : Nat → Int32) (len : Int32) : Int32 := if len = 4 then (if mTwo fr 2 = 0 then mPl (mTwo fr 0) 1 256 else if mTwo fr 2 = 65280 then mPl (mTwo fr 0) 1 256 else 3) else 3
def mW6 (fr : Nat → Int32) (len : Int32) : Int32 := if len = 4 then mPl (mTwo fr 0) 1 64 else 3
def mW15 (fr : Nat → Int32) (len : Int32) : Int32 := if len < 6 then 3 else if len = 5 + dM fr 4 then (if mTwo fr 2 < 1 then 3 else if 1968 < mTwo fr 2 then 3 else if dM fr 4 = (mTwo fr 2 + 7) / 8 then mPl (mTwo fr 0) (mTwo fr 2) 256 else 3) else 3
def mW16 (fr : Nat → Int32) (len : Int32) : Int32 := if len < 6 then 3 else if len = 5 + dM fr 4 then (if mTwo fr 2 < 1 then 3 else if 123 < mTwo fr 2 then 3 else if dM fr 4 = 2 * mTwo fr 2 then mPl (mTwo fr 0) (mTwo fr 2) 64 else 3) else 3
def mWhy (fr : Nat → Int32) (f len : Int32) : Int32 := if f = 1 then mWA fr len 2000 256 else if f = 2 then mWA fr len 2000 256 else if f = 3 then mWA fr len 125 64 else if f = 4 then mWA fr len 125 64 else if f = 5 then mW5 fr len else if f = 6 then mW6 fr len else if f = 15 then mW15 fr len else if f = 16 then mW16 fr len else 1
-- what a request does: coils, registers
def mWC (fr : Nat → Int32) (a : Nat) : Nat → Nat → (Nat → Int32) → (Nat → Int32)
  | 0, _, c => c
  | k + 1, i, c => mWC fr a k (i + 1) (upd c (a + i) (dM fr (5 + nI i / 8) >>> ((nI i - nI i / 8 * 8) &&& 31) &&& 1))
def mWR (fr : Nat → Int32) (a : Nat) : Nat → Nat → (Nat → Int32) → (Nat → Int32)
  | 0, _, c => c
  | k + 1, i, c => mWR fr a k (i + 1) (upd c (a + i) (mTwo fr (5 + 2 * nI i)))
def mActC (fr : Nat → Int32) (f : Int32) (a n : Nat) (c : Nat → Int32) : Nat → Int32 := if f = 5 then upd c a (if nI n ≤ 0 then 0 else 1) else if f = 15 then mWC fr a n 0 c else c
def mActR (fr : Nat → Int32) (f : Int32) (a n : Nat) (c : Nat → Int32) : Nat → Int32 := if f = 6 then upd c a (nI n) else if f = 16 then mWR fr a n 0 c else c
-- the reply: a row g of which z are filled
abbrev Rp : Type := (Nat → Int32) × Nat
def rAdd (x : Rp) (b : Int32) : Rp := (upd x.1 x.2 b, x.2 + 1)
/-- the bits from place i on, at most 8 -/
def mPk (t : Nat → Int32) (a : Nat) : Nat → Nat → Int32 → Int32
  | 0, _, y => y
  | k + 1, j, y => mPk t a k (j + 1) (y + t (a + j) <<< (nI j &&& 31))
def mBits (t : Nat → Int32) (a n : Nat) : Nat → Nat → Rp → Rp
  | 0, _, x => x
  | k + 1, i, x => mBits t a n k (i + 8) (rAdd x (mPk t (a + i) (min 8 (n - i)) 0 0))
def mNums (t : Nat → Int32) (a : Nat) : Nat → Nat → Rp → Rp
  | 0, _, x => x
  | k + 1, i, x => mNums t a k (i + 1) (rAdd (rAdd x (t (a + i) / 256)) (t (a + i) - t (a + i) / 256 * 256))
def mEcho (fr : Nat → Int32) : Nat → Nat → Rp → Rp
  | 0, _, x => x
  | k + 1, i, x => mEcho fr k (i + 1) (rAdd x (dM fr (nI i)))
def mAnsB (t : Nat → Int32) (f : Int32) (a n : Nat) (x : Rp) : Rp := mBits t a n ((n + 7) / 8) 0 (rAdd (rAdd x f) ((nI n + 7) / 8))
def mAnsN (t : Nat → Int32) (f : Int32) (a n : Nat) (x : Rp) : Rp := mNums t a n 0 (rAdd (rAdd x f) (2 * nI n))
def mAnsE (fr : Nat → Int32) (f : Int32) (x : Rp) : Rp := mEcho fr 4 0 (rAdd x f)
def mAns (τ : St) (f : Int32) (a n : Nat) (x : Rp) : Rp := if f = 1 then mAnsB (τ 1) f a n x else if f = 2 then mAnsB (τ 2) f a n x else if f = 3 then mAnsN (τ 3) f a n x else if f = 4 then mAnsN (τ 4) f a n x else mAnsE (τ 5) f x
end
section
/-! Small facts for the reference's walks. -/
def sP (τ : St) (x : Rp) : St := sB τ 6 5 x.1 (nI x.2)
theorem sP_self {σ : St} {z : Nat} (h : σ 0 5 = nI z) : sP σ (σ 6, z) = σ := by
  funext j
  unfold sP sB
  by_cases h6 : j = 6
  · subst h6; rfl
  · rw [if_neg h6]
    by_cases h0 : j = 0
    · subst h0
      rw [if_pos rfl]
      funext i
      unfold upd
      by_cases h5 : i = 5
      · subst h5; rw [if_pos rfl, h]
      · rw [if_neg h5]
    · rw [if_neg h0]
theorem sP_add (τ : St) (x : Rp) (b : Int32) : sU (sU (sP τ x) 6 x.2 b) 0 5 (nI x.2 + 1) = sP τ (rAdd x b) := by
  funext j
  by_cases h0 : j = 0
  · subst h0
    funext i
    show upd (upd (τ 0) 5 (nI x.2)) 5 (nI x.2 + 1) i = upd (τ 0) 5 (nI (x.2 + 1)) i
    rw [nI_1]
    unfold upd
    by_cases h5 : i = 5
    · rw [if_pos h5, if_pos h5]
    · rw [if_neg h5, if_neg h5, if_neg h5]
  · by_cases h6 : j = 6
    · subst h6; rfl
    · show (if j = 0 then _ else if j = 6 then _ else (if j = 6 then _ else if j = 0 then _ else τ j)) = (if j = 6 then _ else if j = 0 then _ else τ j)
      rw [if_neg h0, if_neg h6, if_neg h6, if_neg h0, if_neg h6, if_neg h0]
theorem sS_self {σ : St} {k : Nat} {f : Nat → Int32} (h : σ k = f) : sS σ k f = σ := by
  funext j
  unfold sS
  by_cases hj : j = k
  · subst hj; rw [if_pos rfl, h]
  · rw [if_neg hj]
theorem mNum_cases (t : Int32) : mNum t = 1 ∨ mNum t = 2 ∨ mNum t = 3 ∨ mNum t = 4 := by
  unfold mNum
  repeat' split
  all_goals simp
theorem mNo_lo {t p : Int32} (h : mNo t p = 0) (hk : mNum t = 1 ∨ mNum t = 2) : vp_in p 256 := by
  unfold mNo at h
  by_cases h1 : t < 0
  · rw [if_pos h1] at h; exact absurd h (by decide)
  rw [if_neg h1] at h
  by_cases h2 : 3 < t
  · rw [if_pos h2] at h; exact absurd h (by decide)
  rw [if_neg h2] at h
  by_cases h3 : p < 0
  · rw [if_pos h3] at h; exact absurd h (by decide)
  rw [if_neg h3] at h
  by_cases h4 : 2 ≤ t
  · exfalso
    unfold mNum at hk
    have n0 : ¬ t = 0 := fun e => by rw [e] at h4; exact absurd h4 (by decide)
    have n1 : ¬ t = 1 := fun e => by rw [e] at h4; exact absurd h4 (by decide)
    rw [if_neg n0, if_neg n1] at hk
    by_cases h5 : t = 2
    · rw [if_pos h5] at hk; omega
    · rw [if_neg h5] at hk; omega
  · rw [if_neg h4] at h
    by_cases h5 : p < 256
    · exact vin_lt (n := 256) h3 h5 (by decide)
    · rw [if_neg h5] at h; exact absurd h (by decide)
theorem mNo_hi {t p : Int32} (h : mNo t p = 0) (hk : mNum t = 3 ∨ mNum t = 4) : vp_in p 64 := by
  unfold mNo at h
  by_cases h1 : t < 0
  · rw [if_pos h1] at h; exact absurd h (by decide)
  rw [if_neg h1] at h
  by_cases h2 : 3 < t
  · rw [if_pos h2] at h; exact absurd h (by decide)
  rw [if_neg h2] at h
  by_cases h3 : p < 0
  · rw [if_pos h3] at h; exact absurd h (by decide)
  rw [if_neg h3] at h
  by_cases h4 : 2 ≤ t
  · rw [if_pos h4] at h
    by_cases h5 : p < 64
    · exact vin_lt (n := 64) h3 h5 (by decide)
    · rw [if_neg h5] at h; exact absurd h (by decide)
  · exfalso
    unfold mNum at hk
    by_cases n0 : t = 0
    · rw [if_pos n0] at hk; omega
    rw [if_neg n0] at hk
    by_cases n1 : t = 1
    · rw [if_pos n1] at hk; omega
    apply h4
    rw [Int32.lt_iff_toInt_lt] at h1
    rw [Int32.le_iff_toInt_le]
    have e0 : (0 : Int32).toInt = 0 := rfl
    have e2 : (2 : Int32).toInt = 2 := rfl
    have g0 : ¬ t.toInt = 0 := lv_neT n0 rfl
    have g1 : ¬ t.toInt = 1 := lv_neT n1 rfl
    omega
theorem i10 : ((1 : Int32) = 0) = False := eq_false (by decide)
theorem mMany_nn {τ : St} (h : ¬ τ 0 2 < 0) : ¬ mMany τ < 0 := by
  unfold mMany
  by_cases h1 : τ 0 2 ≤ 256
  · rw [if_pos h1]
    obtain ⟨j, hj, e⟩ := nI_of h
    rw [e] at h1 ⊢
    rw [nI_1]
    have : j ≤ 256 := (nI_leI hj (by decide)).mp h1
    exact nI_pos (by omega)
  · rw [if_neg h1]; exact h
theorem mHear_nn {τ : St} (h : ¬ τ 0 2 < 0) (b : Int32) : ¬ mHear τ b 0 2 < 0 := by
  unfold mHear
  by_cases h1 : b < 0
  · rw [if_pos h1]; exact h
  rw [if_neg h1]
  by_cases h2 : b ≤ 255
  · rw [if_pos h2]; exact mMany_nn h
  · rw [if_neg h2]; exact h
theorem lt_of_nle {n j : Nat} (h : ¬ nI n ≤ nI j) (hj : j < 2 ^ 31) : j < n := by
  rcases Nat.lt_or_ge j n with q | q
  · exact q
  · exact absurd (nI_le q hj) h
theorem vin_le5 {x : Int32} (h0 : ¬ x < 0) (h : x ≤ 5) : vp_in x 6 := by
  obtain ⟨j, hj, rfl⟩ := nI_of h0
  have : j ≤ 5 := (nI_leI hj (by decide)).mp h
  exact vp_in_nI (by omega) (by decide)
end
section
abbrev rm_M_with : Room := { frames := 0, cells := 0, slots := 0, locals := 0 }
set_option maxHeartbeats 1000000 in
set_option maxRecDepth 100000 in
theorem c_M_with (l : Launch) (D : va_G) (cA : ClassId) (a : Nat → Nat) (τ : St) (x b : Int32)  : Ci l y_M_with w_M_with rm_M_with D vwCl [(cA, .int)] [.ref (a 0), .int x, .int b] (wM cA a τ) 0 0 (fun r0 w0 => r0 = mWith x b ∧ w0 = wM cA a τ) := by
  refine Ci.of (Ts := lw_g) (own := "WireSlaveModel") (cc := b_M_with) (maxL := 5) (ret := (some .int)) (lv := [(0, .ref (a 0)), (1, .int x), (2, .int b)]) (by decide) rfl rfl (fun w h => List.mem_cons_of_mem _ h) (Nat.le_of_ble_eq_true rfl) rfl ?_
  intro pp ee ss mm args below meth cx AA S hr hlk G ls hl
  have hx := S.1
  have hb := S.2.1
  refine lv_iload_n hx hb d_M_with_0 rfl (lv_at hl 1 rfl) ?_
  refine lv_iload_n hx hb d_M_with_1 rfl (lv_at hl 2 rfl) ?_
  refine lv_ixor hx hb d_M_with_2 ?_
  refine lv_istore_n (lv' := [(3, .int (x ^^^ b)), (0, .ref (a 0)), (1, .int x), (2, .int b)]) hx hb d_M_with_3 rfl hl (by decide) rfl (fun ls hl => ?_)
  refine lv_iconst (v := 0) hx hb d_M_with_4 (by decide) ?_
  refine lv_istore (lv' := [(4, .int 0), (3, .int (x ^^^ b)), (0, .ref (a 0)), (1, .int x), (2, .int b)]) hx hb d_M_with_5 hl (by decide) rfl (fun ls hl => ?_)
  have lp : ∀ (n : Nat) (k y : Int32) (H : Heap) (locs : List Loc) (ls : Array Slot), (k = nI (8 - n)) → (n ≤ 8) → (mcN n y = mcN 8 (x ^^^ b)) → Gw D vwCl [(cA, .int)] AA ss ss.heap H locs (wM cA a τ) → lv_has ls 5 [(0, .ref (a 0)), (1, .int x), (2, .int b), (3, .int y), (4, .int k)] → W pp l ee rm_M_with ss mm args below meth cx H locs 0 0 (Zi D vwCl [(cA, .int)] AA ss args below 0 0 (fun r0 w0 => r0 = mWith x b ∧ w0 = wM cA a τ)) (F0 mm 7 ls []) := by
    intro n
    induction n with
    | zero =>
      intro k y H locs ls hk hn8 hF G hl
      refine lv_iload hx hb d_M_with_7 (lv_at hl 4 rfl) ?_
      refine lv_bipush (v := 8) hx hb d_M_with_9 (by decide) ?_
      have k_1 : 8 ≤ k := by rw [hk]; decide
      refine lv_icmp_ge (tgt := 40) hx hb d_M_with_11 (by decide) (fun _ => ?_) (fun h9 => absurd k_1 h9)
      refine lv_iload_n hx hb d_M_with_40 rfl (lv_at hl 3 rfl) ?_
      exact g_reti S hr hlk G ⟨hF, rfl⟩ (Nat.le_refl _) (Nat.le_refl _) d_M_with_41
    | succ n ih =>
      intro k y H locs ls hk hn8 hF G hl
      refine lv_iload hx hb d_M_with_7 (lv_at hl 4 rfl) ?_
      refine lv_bipush (v := 8) hx hb d_M_with_9 (by decide) ?_
      have k_2 : ¬ (8 ≤ k) := by rw [hk]; exact nI_ge (b := 8) (by omega) (by decide)
      refine lv_icmp_ge (tgt := 40) hx hb d_M_with_11 (by decide) (fun h9 => absurd h9 k_2) (fun _ => ?_)
      refine lv_iload_n hx hb d_M_with_14 rfl (lv_at hl 3 rfl) ?_
      refine lv_iconst (v := 2) hx hb d_M_with_15 (by decide) ?_
      refine lv_irem hx hb d_M_with_16 (by decide) ?_
      refine lv_iconst (v := 1) hx hb d_M_with_17 (by decide) ?_
      refine lv_icmp_ne (tgt := 30) hx hb d_M_with_18 (by decide) (fun c_3 => ?_) (fun c_3 => ?_)
      · refine lv_iload_n hx hb d_M_with_30 rfl (lv_at hl 3 rfl) ?_
        refine lv_iconst (v := 2) hx hb d_M_with_31 (by decide) ?_
        refine lv_idiv hx hb d_M_with_32 (by decide) ?_
        refine lv_istore_n (lv' := [(3, .int (y / 2)), (0, .ref (a 0)), (1, .int x), (2, .int b), (4, .int k)]) hx hb d_M_with_33 rfl hl (by decide) rfl (fun ls hl => ?_)
        refine lv_iinc (v := k + 1) (lv' := [(4, .int (k + 1)), (3, .int (y / 2)), (0, .ref (a 0)), (1, .int x), (2, .int b)]) hx hb d_M_with_34 hl (k := 4) rfl rfl (by decide) rfl (fun ls hl => ?_)
        refine lv_goto (tgt := 7) hx hb d_M_with_37 (by decide) ?_
        exact ih _ _ H locs ls (by rw [hk]; exact nxt8 n hn8) (by omega) (by rw [← hF]; simp only [mcN, mcS, eq_false k_2, eq_false c_3, ↓reduceIte]) G (lv_sub hl [2, 3, 4, 1, 0] rfl)
      · refine lv_iload_n hx hb d_M_with_21 rfl (lv_at hl 3 rfl) ?_
        refine lv_iconst (v := 2) hx hb d_M_with_22 (by decide) ?_
        refine lv_idiv hx hb d_M_with_23 (by decide) ?_
        refine lv_ldc (v := 40961) hx hb S.2.2.2.1 (S.2.2.2.2 _ kn_M_58) d_M_with_24 ?_
        refine lv_ixor hx hb d_M_with_26 ?_
        refine lv_goto (tgt := 33) hx hb d_M_with_27 (by decide) ?_
        refine lv_istore_n (lv' := [(3, .int ((y / 2) ^^^ 40961)), (0, .ref (a 0)), (1, .int x), (2, .int b), (4, .int k)]) hx hb d_M_with_33 rfl hl (by decide) rfl (fun ls hl => ?_)
        refine lv_iinc (v := k + 1) (lv' := [(4, .int (k + 1)), (3, .int ((y / 2) ^^^ 40961)), (0, .ref (a 0)), (1, .int x), (2, .int b)]) hx hb d_M_with_34 hl (k := 4) rfl rfl (by decide) rfl (fun ls hl => ?_)
        refine lv_goto (tgt := 7) hx hb d_M_with_37 (by decide) ?_
        exact ih _ _ H locs ls (by rw [hk]; exact nxt8 n hn8) (by omega) (by rw [← hF]; simp only [mcN, mcS, eq_false k_2, eq_true c_3, ↓reduceIte]) G (lv_sub hl [2, 3, 4, 1, 0] rfl)
  exact lp 8 0 (x ^^^ b) _ _ ls rfl (Nat.le_refl 8) rfl G (lv_sub hl [2, 3, 4, 1, 0] rfl)

abbrev rm_M_sumOf : Room := { frames := 1, cells := 0, slots := 0, locals := 24 }
set_option maxHeartbeats 1000000 in
set_option maxRecDepth 100000 in
theorem c_M_sumOf5 (l : Launch) (D : va_G) (cA : ClassId) (a : Nat → Nat) (τ : St) (c0 : Int32) (hc : c0.toNatClampNeg ≤ 256) : Ci l y_M_sumOf w_M_sumOf rm_M_sumOf D vwCl [(cA, .int)] [.ref (a 0), .ref (a 5), .int c0] (wM cA a τ) 0 0 (fun r0 w0 => r0 = mSum (τ 5) c0 ∧ w0 = wM cA a τ) := by
  refine Ci.of (Ts := lw_g) (own := "WireSlaveModel") (cc := b_M_sumOf) (maxL := 5) (ret := (some .int)) (lv := [(0, .ref (a 0)), (1, .ref (a 5)), (2, .int c0)]) (by decide) rfl rfl (fun w h => List.mem_cons_of_mem _ h) (Nat.le_of_ble_eq_true rfl) rfl ?_
  intro pp ee ss mm args below meth cx AA S hr hlk G ls hl
  have hx := S.1
  have hb := S.2.1
  refine lv_ldc (v := 65535) hx hb S.2.2.2.1 (S.2.2.2.2 _ kn_M_59) d_M_sumOf_0 ?_
  refine lv_istore_n (lv' := [(3, .int 65535), (0, .ref (a 0)), (1, .ref (a 5)), (2, .int c0)]) hx hb d_M_sumOf_2 rfl hl (by decide) rfl (fun ls hl => ?_)
  refine lv_iconst (v := 0) hx hb d_M_sumOf_3 (by decide) ?_
  refine lv_istore (lv' := [(4, .int 0), (3, .int 65535), (0, .ref (a 0)), (1, .ref (a 5)), (2, .int c0)]) hx hb d_M_sumOf_4 hl (by decide) rfl (fun ls hl => ?_)
  have lp : ∀ (n : Nat) (i : Nat) (y : Int32) (H : Heap) (locs : List Loc) (ls : Array Slot), (i + n = c0.toNatClampNeg) → (mFst (τ 5) n i y = mSum (τ 5) c0) → Gw D vwCl [(cA, .int)] AA ss ss.heap H locs (wM cA a τ) → lv_has ls 5 [(0, .ref (a 0)), (1, .ref (a 5)), (2, .int c0), (3, .int y), (4, .int (nI i))] → W pp l ee rm_M_sumOf ss mm args below meth cx H locs 0 0 (Zi D vwCl [(cA, .int)] AA ss args below 0 0 (fun r0 w0 => r0 = mSum (τ 5) c0 ∧ w0 = wM cA a τ)) (F0 mm 6 ls []) := by
    intro n
    induction n with
    | zero =>
      intro i y H locs ls hi hF G hl
      refine lv_iload hx hb d_M_sumOf_6 (lv_at hl 4 rfl) ?_
      refine lv_iload_n hx hb d_M_sumOf_8 rfl (lv_at hl 2 rfl) ?_
      have k_1 : c0 ≤ (nI i) := by rw [show i = c0.toNatClampNeg from hi]; exact le_clamp _
      refine lv_icmp_ge (tgt := 28) hx hb d_M_sumOf_9 (by decide) (fun _ => ?_) (fun h9 => absurd k_1 h9)
      refine lv_iload_n hx hb d_M_sumOf_28 rfl (lv_at hl 3 rfl) ?_
      exact g_reti S hr hlk G ⟨hF, rfl⟩ (Nat.le_refl _) (Nat.le_refl _) d_M_sumOf_29
    | succ n ih =>
      intro i y H locs ls hi hF G hl
      refine lv_iload hx hb d_M_sumOf_6 (lv_at hl 4 rfl) ?_
      refine lv_iload_n hx hb d_M_sumOf_8 rfl (lv_at hl 2 rfl) ?_
      have k_2 : ¬ (c0 ≤ (nI i)) := nle_clamp (by omega)
      refine lv_icmp_ge (tgt := 28) hx hb d_M_sumOf_9 (by decide) (fun h9 => absurd h9 k_2) (fun _ => ?_)
      refine lv_aload_n hx hb d_M_sumOf_12 rfl (lv_at hl 0 rfl) ?_
      refine lv_iload_n hx hb d_M_sumOf_13 rfl (lv_at hl 3 rfl) ?_
      refine lv_aload_n hx hb d_M_sumOf_14 rfl (lv_at hl 1 rfl) ?_
      refine lv_iload hx hb d_M_sumOf_15 (lv_at hl 4 rfl) ?_
      refine g_ialdj S G 5 0 (τ 5) rfl rfl i (nI_clamp (by omega)) (vp_in_nI (by omega) (by decide)) d_M_sumOf_17 ?_
      refine g_cVi (rest := []) S G (c_M_with l D cA a τ y ((τ 5) i)) (cwV 2 S.2.2.2.2 ml_M_60 rfl rfl rfl (by decide +kernel) ⟨Nat.le_of_ble_eq_true rfl, Nat.le_of_ble_eq_true rfl⟩) [0, 1, 2, 3, 4, 5, 6, 7] [] rfl rfl rfl rfl (by decide) 0 rfl rfl rfl hl.1 rfl (Nat.le_of_ble_eq_true rfl) d_M_sumOf_18 ⟨Nat.le_of_ble_eq_true rfl, Nat.le_of_ble_eq_true rfl⟩ (fun rp_3 wp_3 H locs hp_3 G => ?_)
      obtain ⟨ep_3, rfl⟩ := hp_3
      replace ep_3 := ep_3.symm
      subst ep_3
      have G : Gw D vwCl [(cA, .int)] AA ss ss.heap H locs (wM cA a τ) := G
      refine lv_istore_n (lv' := [(3, .int (mWith y ((τ 5) i))), (0, .ref (a 0)), (1, .ref (a 5)), (2, .int c0), (4, .int (nI i))]) hx hb d_M_sumOf_21 rfl hl (by decide) rfl (fun ls hl => ?_)
      refine lv_iinc (v := (nI i) + 1) (lv' := [(4, .int ((nI i) + 1)), (3, .int (mWith y ((τ 5) i))), (0, .ref (a 0)), (1, .ref (a 5)), (2, .int c0)]) hx hb d_M_sumOf_22 hl (k := 4) rfl rfl (by decide) rfl (fun ls hl => ?_)
      refine lv_goto (tgt := 6) hx hb d_M_sumOf_25 (by decide) ?_
      have hl := lv_sub hl [2, 3, 4, 1, 0] rfl
      rw [nI_1] at hl
      exact ih (i + 1) _ H locs ls (by omega) hF G hl
  exact lp c0.toNatClampNeg 0 65535 _ _ ls (Nat.zero_add _) rfl G (lv_sub hl [2, 3, 4, 1, 0] rfl)

set_option maxHeartbeats 1000000 in
set_option maxRecDepth 100000 in
theorem c_M_sumOf6 (l : Launch) (D : va_G) (cA : ClassId) (a : Nat → Nat) (τ : St) (c0 : Int32) (hc : c0.toNatClampNeg ≤ 300) : Ci l y_M_sumOf w_M_sumOf rm_M_sumOf D vwCl [(cA, .int)] [.ref (a 0), .ref (a 6), .int c0] (wM cA a τ) 0 0 (fun r0 w0 => r0 = mSum (τ 6) c0 ∧ w0 = wM cA a τ) := by
  refine Ci.of (Ts := lw_g) (own := "WireSlaveModel") (cc := b_M_sumOf) (maxL := 5) (ret := (some .int)) (lv := [(0, .ref (a 0)), (1, .ref (a 6)), (2, .int c0)]) (by decide) rfl rfl (fun w h => List.mem_cons_of_mem _ h) (Nat.le_of_ble_eq_true rfl) rfl ?_
  intro pp ee ss mm args below meth cx AA S hr hlk G ls hl
  have hx := S.1
  have hb := S.2.1
  refine lv_ldc (v := 65535) hx hb S.2.2.2.1 (S.2.2.2.2 _ kn_M_59) d_M_sumOf_0 ?_
  refine lv_istore_n (lv' := [(3, .int 65535), (0, .ref (a 0)), (1, .ref (a 6)), (2, .int c0)]) hx hb d_M_sumOf_2 rfl hl (by decide) rfl (fun ls hl => ?_)
  refine lv_iconst (v := 0) hx hb d_M_sumOf_3 (by decide) ?_
  refine lv_istore (lv' := [(4, .int 0), (3, .int 65535), (0, .ref (a 0)), (1, .ref (a 6)), (2, .int c0)]) hx hb d_M_sumOf_4 hl (by decide) rfl (fun ls hl => ?_)
  have lp : ∀ (n : Nat) (i : Nat) (y : Int32) (H : Heap) (locs : List Loc) (ls : Array Slot), (i + n = c0.toNatClampNeg) → (mFst (τ 6) n i y = mSum (τ 6) c0) → Gw D vwCl [(cA, .int)] AA ss ss.heap H locs (wM cA a τ) → lv_has ls 5 [(0, .ref (a 0)), (1, .ref (a 6)), (2, .int c0), (3, .int y), (4, .int (nI i))] → W pp l ee rm_M_sumOf ss mm args below meth cx H locs 0 0 (Zi D vwCl [(cA, .int)] AA ss args below 0 0 (fun r0 w0 => r0 = mSum (τ 6) c0 ∧ w0 = wM cA a τ)) (F0 mm 6 ls []) := by
    intro n
    induction n with
    | zero =>
      intro i y H locs ls hi hF G hl
      refine lv_iload hx hb d_M_sumOf_6 (lv_at hl 4 rfl) ?_
      refine lv_iload_n hx hb d_M_sumOf_8 rfl (lv_at hl 2 rfl) ?_
      have k_1 : c0 ≤ (nI i) := by rw [show i = c0.toNatClampNeg from hi]; exact le_clamp _
      refine lv_icmp_ge (tgt := 28) hx hb d_M_sumOf_9 (by decide) (fun _ => ?_) (fun h9 => absurd k_1 h9)
      refine lv_iload_n hx hb d_M_sumOf_28 rfl (lv_at hl 3 rfl) ?_
      exact g_reti S hr hlk G ⟨hF, rfl⟩ (Nat.le_refl _) (Nat.le_refl _) d_M_sumOf_29
    | succ n ih =>
      intro i y H locs ls hi hF G hl
      refine lv_iload hx hb d_M_sumOf_6 (lv_at hl 4 rfl) ?_
      refine lv_iload_n hx hb d_M_sumOf_8 rfl (lv_at hl 2 rfl) ?_
      have k_2 : ¬ (c0 ≤ (nI i)) := nle_clamp (by omega)
      refine lv_icmp_ge (tgt := 28) hx hb d_M_sumOf_9 (by decide) (fun h9 => absurd h9 k_2) (fun _ => ?_)
      refine lv_aload_n hx hb d_M_sumOf_12 rfl (lv_at hl 0 rfl) ?_
      refine lv_iload_n hx hb d_M_sumOf_13 rfl (lv_at hl 3 rfl) ?_
      refine lv_aload_n hx hb d_M_sumOf_14 rfl (lv_at hl 1 rfl) ?_
      refine lv_iload hx hb d_M_sumOf_15 (lv_at hl 4 rfl) ?_
      refine g_ialdj S G 6 0 (τ 6) rfl rfl i (nI_clamp (by omega)) (vp_in_nI (by omega) (by decide)) d_M_sumOf_17 ?_
      refine g_cVi (rest := []) S G (c_M_with l D cA a τ y ((τ 6) i)) (cwV 2 S.2.2.2.2 ml_M_60 rfl rfl rfl (by decide +kernel) ⟨Nat.le_of_ble_eq_true rfl, Nat.le_of_ble_eq_true rfl⟩) [0, 1, 2, 3, 4, 5, 6, 7] [] rfl rfl rfl rfl (by decide) 0 rfl rfl rfl hl.1 rfl (Nat.le_of_ble_eq_true rfl) d_M_sumOf_18 ⟨Nat.le_of_ble_eq_true rfl, Nat.le_of_ble_eq_true rfl⟩ (fun rp_3 wp_3 H locs hp_3 G => ?_)
      obtain ⟨ep_3, rfl⟩ := hp_3
      replace ep_3 := ep_3.symm
      subst ep_3
      have G : Gw D vwCl [(cA, .int)] AA ss ss.heap H locs (wM cA a τ) := G
      refine lv_istore_n (lv' := [(3, .int (mWith y ((τ 6) i))), (0, .ref (a 0)), (1, .ref (a 6)), (2, .int c0), (4, .int (nI i))]) hx hb d_M_sumOf_21 rfl hl (by decide) rfl (fun ls hl => ?_)
      refine lv_iinc (v := (nI i) + 1) (lv' := [(4, .int ((nI i) + 1)), (3, .int (mWith y ((τ 6) i))), (0, .ref (a 0)), (1, .ref (a 6)), (2, .int c0)]) hx hb d_M_sumOf_22 hl (k := 4) rfl rfl (by decide) rfl (fun ls hl => ?_)
      refine lv_goto (tgt := 6) hx hb d_M_sumOf_25 (by decide) ?_
      have hl := lv_sub hl [2, 3, 4, 1, 0] rfl
      rw [nI_1] at hl
      exact ih (i + 1) _ H locs ls (by omega) hF G hl
  exact lp c0.toNatClampNeg 0 65535 _ _ ls (Nat.zero_add _) rfl G (lv_sub hl [2, 3, 4, 1, 0] rfl)

abbrev rm_M_data : Room := { frames := 0, cells := 0, slots := 0, locals := 0 }
set_option maxHeartbeats 1000000 in
set_option maxRecDepth 100000 in
theorem c_M_data (l : Launch) (D : va_G) (cA : ClassId) (a : Nat → Nat) (τ : St) (k : Int32) (hk : vp_in (2 + k) 256) : Ci l y_M_data w_M_data rm_M_data D vwCl [(cA, .int)] [.ref (a 0), .int k] (wM cA a τ) 0 0 (fun r0 w0 => r0 = dM (τ 5) k ∧ w0 = wM cA a τ) := by
  refine Ci.of (Ts := lw_g) (own := "WireSlaveModel") (cc := b_M_data) (maxL := 2) (ret := (some .int)) (lv := [(0, .ref (a 0)), (1, .int k)]) (by decide) rfl rfl (fun w h => List.mem_cons_of_mem _ h) (Nat.le_of_ble_eq_true rfl) rfl ?_
  intro pp ee ss mm args below meth cx AA S hr hlk G ls hl
  have hx := S.1
  have hb := S.2.1
  refine lv_aload_n hx hb d_M_data_0 rfl (lv_at hl 0 rfl) ?_
  refine g_get (v := .ref (a 5)) S G in_M 0 rfl rfl 6 (by decide) fl_M_22 rfl d_M_data_1 ?_
  refine lv_iconst (v := 2) hx hb d_M_data_4 (by decide) ?_
  refine lv_iload_n hx hb d_M_data_5 rfl (lv_at hl 1 rfl) ?_
  refine lv_iadd hx hb d_M_data_6 ?_
  refine g_ialdj S G 5 0 (τ 5) rfl rfl ((2 + k).toNatClampNeg) rfl hk d_M_data_7 ?_
  exact g_reti S hr hlk G ⟨by first | (simp only [dM, i10, ↓reduceIte]; done) | (simp only [dM, i10, ↓reduceIte]; rfl) | rfl, congrArg (wM cA a) (by first | (simp only [dM, i10, ↓reduceIte]; done) | (simp only [dM, i10, ↓reduceIte]; rfl) | rfl)⟩ (Nat.le_refl _) (Nat.le_refl _) d_M_data_8

abbrev rm_M_two : Room := { frames := 1, cells := 0, slots := 0, locals := 21 }
set_option maxHeartbeats 1000000 in
set_option maxRecDepth 100000 in
theorem c_M_two (l : Launch) (D : va_G) (cA : ClassId) (a : Nat → Nat) (τ : St) (k : Int32) (h1 : vp_in (2 + k) 256) (h2 : vp_in (2 + (k + 1)) 256) : Ci l y_M_two w_M_two rm_M_two D vwCl [(cA, .int)] [.ref (a 0), .int k] (wM cA a τ) 0 0 (fun r0 w0 => r0 = mTwo (τ 5) k ∧ w0 = wM cA a τ) := by
  refine Ci.of (Ts := lw_g) (own := "WireSlaveModel") (cc := b_M_two) (maxL := 2) (ret := (some .int)) (lv := [(0, .ref (a 0)), (1, .int k)]) (by decide) rfl rfl (fun w h => List.mem_cons_of_mem _ h) (Nat.le_of_ble_eq_true rfl) rfl ?_
  intro pp ee ss mm args below meth cx AA S hr hlk G ls hl
  have hx := S.1
  have hb := S.2.1
  refine lv_sipush (v := 256) hx hb d_M_two_0 (by decide) ?_
  refine lv_aload_n hx hb d_M_two_3 rfl (lv_at hl 0 rfl) ?_
  refine lv_iload_n hx hb d_M_two_4 rfl (lv_at hl 1 rfl) ?_
  refine g_cVi (rest := [.int 256]) S G (c_M_data l D cA a τ k h1) (cwV 1 S.2.2.2.2 ml_M_64 rfl rfl rfl (by decide +kernel) ⟨Nat.le_of_ble_eq_true rfl, Nat.le_of_ble_eq_true rfl⟩) [0, 1, 2, 3, 4, 5, 6, 7] [] rfl rfl rfl rfl (by decide) 0 rfl rfl rfl hl.1 rfl (Nat.le_of_ble_eq_true rfl) d_M_two_5 ⟨Nat.le_of_ble_eq_true rfl, Nat.le_of_ble_eq_true rfl⟩ (fun rp_1 wp_1 H locs hp_1 G => ?_)
  obtain ⟨ep_1, rfl⟩ := hp_1
  have ep_1 : rp_1 = dM (τ 5) k := ep_1
  replace ep_1 := ep_1.symm
  subst ep_1
  have G : Gw D vwCl [(cA, .int)] AA ss ss.heap H locs (wM cA a τ) := G
  refine lv_imul hx hb d_M_two_8 ?_
  refine lv_aload_n hx hb d_M_two_9 rfl (lv_at hl 0 rfl) ?_
  refine lv_iload_n hx hb d_M_two_10 rfl (lv_at hl 1 rfl) ?_
  refine lv_iconst (v := 1) hx hb d_M_two_11 (by decide) ?_
  refine lv_iadd hx hb d_M_two_12 ?_
  refine g_cVi (rest := [.int (256 * (dM (τ 5) k))]) S G (c_M_data l D cA a τ (k + 1) h2) (cwV 1 S.2.2.2.2 ml_M_64 rfl rfl rfl (by decide +kernel) ⟨Nat.le_of_ble_eq_true rfl, Nat.le_of_ble_eq_true rfl⟩) [0, 1, 2, 3, 4, 5, 6, 7] [] rfl rfl rfl rfl (by decide) 0 rfl rfl rfl hl.1 rfl (Nat.le_of_ble_eq_true rfl) d_M_two_13 ⟨Nat.le_of_ble_eq_true rfl, Nat.le_of_ble_eq_true rfl⟩ (fun rp_2 wp_2 H locs hp_2 G => ?_)
  obtain ⟨ep_2, rfl⟩ := hp_2
  have ep_2 : rp_2 = dM (τ 5) (k + 1) := ep_2
  replace ep_2 := ep_2.symm
  subst ep_2
  have G : Gw D vwCl [(cA, .int)] AA ss ss.heap H locs (wM cA a τ) := G
  refine lv_iadd hx hb d_M_two_16 ?_
  exact g_reti S hr hlk G ⟨by first | (simp only [mTwo, i10, ↓reduceIte]; done) | (simp only [mTwo, i10, ↓reduceIte]; rfl) | rfl, congrArg (wM cA a) (by first | (simp only [mTwo, i10, ↓reduceIte]; done) | (simp only [mTwo, i10, ↓reduceIte]; rfl) | rfl)⟩ (Nat.le_refl _) (Nat.le_refl _) d_M_two_17

abbrev rm_M_add : Room := { frames := 0, cells := 0, slots := 0, locals := 0 }
set_option maxHeartbeats 1000000 in
set_option maxRecDepth 100000 in
theorem c_M_add (l : Launch) (D : va_G) (cA : ClassId) (a : Nat → Nat) (τ : St) (x : Rp) (b : Int32) (hx2 : x.2 < 300) : Cv l y_M_add w_M_add rm_M_add D vwCl [(cA, .int)] [.ref (a 0), .int b] (wM cA a (sP τ x)) 0 0 (fun w0 => w0 = wM cA a (sP τ (rAdd x b))) := by
  refine Cv.of (Ts := lw_g) (own := "WireSlaveModel") (cc := b_M_add) (maxL := 2) (ret := none) (lv := [(0, .ref (a 0)), (1, .int b)]) (by decide) rfl rfl (fun w h => List.mem_cons_of_mem _ h) (Nat.le_of_ble_eq_true rfl) rfl ?_
  intro pp ee ss mm args below meth cx AA S hr hlk hnm G ls hl
  have hx := S.1
  have hb := S.2.1
  refine lv_aload_n hx hb d_M_add_0 rfl (lv_at hl 0 rfl) ?_
  refine g_get (v := .ref (a 6)) S G in_M 0 rfl rfl 10 (by decide) fl_M_25 rfl d_M_add_1 ?_
  refine lv_aload_n hx hb d_M_add_4 rfl (lv_at hl 0 rfl) ?_
  refine g_get (v := .int (nI x.2)) S G in_M 0 rfl rfl 11 (by decide) fl_M_67 rfl d_M_add_5 ?_
  refine lv_iload_n hx hb d_M_add_8 rfl (lv_at hl 1 rfl) ?_
  refine g_iastj S G 6 0 rfl rfl x.2 (nI_clamp (by omega)) (vp_in_nI (by omega) (by decide)) (wM cA a (sU (sP τ x) 6 x.2 b)) (wm_a6 cA a _ _ _) d_M_add_9 (fun H locs G => ?_)
  refine lv_aload_n hx hb d_M_add_10 rfl (lv_at hl 0 rfl) ?_
  refine lv_dup hx hb d_M_add_11 rfl ?_
  refine g_get (v := .int (nI x.2)) S G in_M 0 rfl rfl 11 (by decide) fl_M_67 rfl d_M_add_12 ?_
  refine lv_iconst (v := 1) hx hb d_M_add_15 (by decide) ?_
  refine lv_iadd hx hb d_M_add_16 ?_
  refine g_put S G in_M ft_M tok_M nm_M 0 rfl rfl 11 (by decide) fl_M_67 rfl rfl rfl (Nat.le_of_ble_eq_true rfl) (wM cA a (sU (sU (sP τ x) 6 x.2 b) 0 5 ((nI x.2) + 1))) (wm_psize cA a _ _) d_M_add_17 (fun H locs G => ?_)
  exact g_retv S hr hlk G (congrArg (wM cA a) (sP_add τ x b)) (Nat.le_refl _) (Nat.le_refl _) d_M_add_20

abbrev rm_M_table : Room := { frames := 0, cells := 0, slots := 0, locals := 0 }
set_option maxHeartbeats 1000000 in
set_option maxRecDepth 100000 in
theorem c_M_table (l : Launch) (D : va_G) (cA : ClassId) (a : Nat → Nat) (τ : St) (f : Int32)  : Cq l y_M_table w_M_table rm_M_table D vwCl [(cA, .int)] [.ref (a 0), .int f] (wM cA a τ) 0 0 (fun r0 w0 => r0 = some (a (mTab f)) ∧ w0 = wM cA a τ) := by
  refine Cq.of (Ts := lw_g) (own := "WireSlaveModel") (cc := b_M_table) (maxL := 2) (ret := (some (.array .int))) (lv := [(0, .ref (a 0)), (1, .int f)]) (by decide) rfl rfl (fun w h => List.mem_cons_of_mem _ h) (Nat.le_of_ble_eq_true rfl) rfl ?_
  intro pp ee ss mm args below meth cx AA S hr hlk G ls hl
  have hx := S.1
  have hb := S.2.1
  refine lv_iload_n hx hb d_M_table_0 rfl (lv_at hl 1 rfl) ?_
  refine lv_iconst (v := 2) hx hb d_M_table_1 (by decide) ?_
  refine lv_icmp_ne (tgt := 12) hx hb d_M_table_2 (by decide) (fun c_1 => ?_) (fun c_1 => ?_)
  · refine lv_iload_n hx hb d_M_table_12 rfl (lv_at hl 1 rfl) ?_
    refine lv_iconst (v := 4) hx hb d_M_table_13 (by decide) ?_
    refine lv_icmp_ne (tgt := 24) hx hb d_M_table_14 (by decide) (fun c_2 => ?_) (fun c_2 => ?_)
    · refine lv_iload_n hx hb d_M_table_24 rfl (lv_at hl 1 rfl) ?_
      refine lv_iconst (v := 1) hx hb d_M_table_25 (by decide) ?_
      refine lv_icmp_eq (tgt := 40) hx hb d_M_table_26 (by decide) (fun c_3 => ?_) (fun c_3 => ?_)
      · refine lv_aload_n hx hb d_M_table_40 rfl (lv_at hl 0 rfl) ?_
        refine g_get (v := .ref (a 1)) S G in_M 0 rfl rfl 2 (by decide) fl_M_7 rfl d_M_table_41 ?_
        refine lv_goto (tgt := 51) hx hb d_M_table_44 (by decide) ?_
        exact g_retqa S hr hlk (some (a 1)) G ⟨by first | (simp only [mTab, eq_false c_1, eq_false c_2, eq_true c_3, i10, ↓reduceIte]; done) | (simp only [mTab, eq_false c_1, eq_false c_2, eq_true c_3, i10, ↓reduceIte]; rfl) | rfl, congrArg (wM cA a) (by first | (simp only [mTab, eq_false c_1, eq_false c_2, eq_true c_3, i10, ↓reduceIte]; done) | (simp only [mTab, eq_false c_1, eq_false c_2, eq_true c_3, i10, ↓reduceIte]; rfl) | rfl)⟩ (Nat.le_refl _) (Nat.le_refl _) d_M_table_51
      · refine lv_iload_n hx hb d_M_table_29 rfl (lv_at hl 1 rfl) ?_
        refine lv_iconst (v := 5) hx hb d_M_table_30 (by decide) ?_
        refine lv_icmp_eq (tgt := 40) hx hb d_M_table_31 (by decide) (fun c_4 => ?_) (fun c_4 => ?_)
        · refine lv_aload_n hx hb d_M_table_40 rfl (lv_at hl 0 rfl) ?_
          refine g_get (v := .ref (a 1)) S G in_M 0 rfl rfl 2 (by decide) fl_M_7 rfl d_M_table_41 ?_
          refine lv_goto (tgt := 51) hx hb d_M_table_44 (by decide) ?_
          exact g_retqa S hr hlk (some (a 1)) G ⟨by first | (simp only [mTab, eq_false c_1, eq_false c_2, eq_false c_3, eq_true c_4, i10, ↓reduceIte]; done) | (simp only [mTab, eq_false c_1, eq_false c_2, eq_false c_3, eq_true c_4, i10, ↓reduceIte]; rfl) | rfl, congrArg (wM cA a) (by first | (simp only [mTab, eq_false c_1, eq_false c_2, eq_false c_3, eq_true c_4, i10, ↓reduceIte]; done) | (simp only [mTab, eq_false c_1, eq_false c_2, eq_false c_3, eq_true c_4, i10, ↓reduceIte]; rfl) | rfl)⟩ (Nat.le_refl _) (Nat.le_refl _) d_M_table_51
        · refine lv_iload_n hx hb d_M_table_34 rfl (lv_at hl 1 rfl) ?_
          refine lv_bipush (v := 15) hx hb d_M_table_35 (by decide) ?_
          refine lv_icmp_ne (tgt := 47) hx hb d_M_table_37 (by decide) (fun c_5 => ?_) (fun c_5 => ?_)
          · refine lv_aload_n hx hb d_M_table_47 rfl (lv_at hl 0 rfl) ?_
            refine g_get (v := .ref (a 3)) S G in_M 0 rfl rfl 4 (by decide) fl_M_16 rfl d_M_table_48 ?_
            exact g_retqa S hr hlk (some (a 3)) G ⟨by first | (simp only [mTab, eq_false c_1, eq_false c_2, eq_false c_3, eq_false c_4, eq_false c_5, i10, ↓reduceIte]; done) | (simp only [mTab, eq_false c_1, eq_false c_2, eq_false c_3, eq_false c_4, eq_false c_5, i10, ↓reduceIte]; rfl) | rfl, congrArg (wM cA a) (by first | (simp only [mTab, eq_false c_1, eq_false c_2, eq_false c_3, eq_false c_4, eq_false c_5, i10, ↓reduceIte]; done) | (simp only [mTab, eq_false c_1, eq_false c_2, eq_false c_3, eq_false c_4, eq_false c_5, i10, ↓reduceIte]; rfl) | rfl)⟩ (Nat.le_refl _) (Nat.le_refl _) d_M_table_51
          · refine lv_aload_n hx hb d_M_table_40 rfl (lv_at hl 0 rfl) ?_
            refine g_get (v := .ref (a 1)) S G in_M 0 rfl rfl 2 (by decide) fl_M_7 rfl d_M_table_41 ?_
            refine lv_goto (tgt := 51) hx hb d_M_table_44 (by decide) ?_
            exact g_retqa S hr hlk (some (a 1)) G ⟨by first | (simp only [mTab, eq_false c_1, eq_false c_2, eq_false c_3, eq_false c_4, eq_true c_5, i10, ↓reduceIte]; done) | (simp only [mTab, eq_false c_1, eq_false c_2, eq_false c_3, eq_false c_4, eq_true c_5, i10, ↓reduceIte]; rfl) | rfl, congrArg (wM cA a) (by first | (simp only [mTab, eq_false c_1, eq_false c_2, eq_false c_3, eq_false c_4, eq_true c_5, i10, ↓reduceIte]; done) | (simp only [mTab, eq_false c_1, eq_false c_2, eq_false c_3, eq_false c_4, eq_true c_5, i10, ↓reduceIte]; rfl) | rfl)⟩ (Nat.le_refl _) (Nat.le_refl _) d_M_table_51
    · refine lv_aload_n hx hb d_M_table_17 rfl (lv_at hl 0 rfl) ?_
      refine g_get (v := .ref (a 4)) S G in_M 0 rfl rfl 5 (by decide) fl_M_19 rfl d_M_table_18 ?_
      refine lv_goto (tgt := 51) hx hb d_M_table_21 (by decide) ?_
      exact g_retqa S hr hlk (some (a 4)) G ⟨by first | (simp only [mTab, eq_false c_1, eq_true c_2, i10, ↓reduceIte]; done) | (simp only [mTab, eq_false c_1, eq_true c_2, i10, ↓reduceIte]; rfl) | rfl, congrArg (wM cA a) (by first | (simp only [mTab, eq_false c_1, eq_true c_2, i10, ↓reduceIte]; done) | (simp only [mTab, eq_false c_1, eq_true c_2, i10, ↓reduceIte]; rfl) | rfl)⟩ (Nat.le_refl _) (Nat.le_refl _) d_M_table_51
  · refine lv_aload_n hx hb d_M_table_5 rfl (lv_at hl 0 rfl) ?_
    refine g_get (v := .ref (a 2)) S G in_M 0 rfl rfl 3 (by decide) fl_M_13 rfl d_M_table_6 ?_
    refine lv_goto (tgt := 51) hx hb d_M_table_9 (by decide) ?_
    exact g_retqa S hr hlk (some (a 2)) G ⟨by first | (simp only [mTab, eq_true c_1, i10, ↓reduceIte]; done) | (simp only [mTab, eq_true c_1, i10, ↓reduceIte]; rfl) | rfl, congrArg (wM cA a) (by first | (simp only [mTab, eq_true c_1, i10, ↓reduceIte]; done) | (simp only [mTab, eq_true c_1, i10, ↓reduceIte]; rfl) | rfl)⟩ (Nat.le_refl _) (Nat.le_refl _) d_M_table_51

abbrev rm_M_byNumber : Room := { frames := 0, cells := 0, slots := 0, locals := 0 }
set_option maxHeartbeats 1000000 in
set_option maxRecDepth 100000 in
theorem c_M_byNumber (l : Launch) (D : va_G) (cA : ClassId) (a : Nat → Nat) (τ : St) (t : Int32)  : Cq l y_M_byNumber w_M_byNumber rm_M_byNumber D vwCl [(cA, .int)] [.ref (a 0), .int t] (wM cA a τ) 0 0 (fun r0 w0 => r0 = some (a (mNum t)) ∧ w0 = wM cA a τ) := by
  refine Cq.of (Ts := lw_g) (own := "WireSlaveModel") (cc := b_M_byNumber) (maxL := 2) (ret := (some (.array .int))) (lv := [(0, .ref (a 0)), (1, .int t)]) (by decide) rfl rfl (fun w h => List.mem_cons_of_mem _ h) (Nat.le_of_ble_eq_true rfl) rfl ?_
  intro pp ee ss mm args below meth cx AA S hr hlk G ls hl
  have hx := S.1
  have hb := S.2.1
  refine lv_iload_n hx hb d_M_byNumber_0 rfl (lv_at hl 1 rfl) ?_
  refine lv_if_ne (tgt := 11) hx hb d_M_byNumber_1 (by decide) (fun c_1 => ?_) (fun c_1 => ?_)
  · refine lv_iload_n hx hb d_M_byNumber_11 rfl (lv_at hl 1 rfl) ?_
    refine lv_iconst (v := 1) hx hb d_M_byNumber_12 (by decide) ?_
    refine lv_icmp_ne (tgt := 23) hx hb d_M_byNumber_13 (by decide) (fun c_2 => ?_) (fun c_2 => ?_)
    · refine lv_iload_n hx hb d_M_byNumber_23 rfl (lv_at hl 1 rfl) ?_
      refine lv_iconst (v := 2) hx hb d_M_byNumber_24 (by decide) ?_
      refine lv_icmp_ne (tgt := 35) hx hb d_M_byNumber_25 (by decide) (fun c_3 => ?_) (fun c_3 => ?_)
      · refine lv_aload_n hx hb d_M_byNumber_35 rfl (lv_at hl 0 rfl) ?_
        refine g_get (v := .ref (a 4)) S G in_M 0 rfl rfl 5 (by decide) fl_M_19 rfl d_M_byNumber_36 ?_
        exact g_retqa S hr hlk (some (a 4)) G ⟨by first | (simp only [mNum, eq_false c_1, eq_false c_2, eq_false c_3, i10, ↓reduceIte]; done) | (simp only [mNum, eq_false c_1, eq_false c_2, eq_false c_3, i10, ↓reduceIte]; rfl) | rfl, congrArg (wM cA a) (by first | (simp only [mNum, eq_false c_1, eq_false c_2, eq_false c_3, i10, ↓reduceIte]; done) | (simp only [mNum, eq_false c_1, eq_false c_2, eq_false c_3, i10, ↓reduceIte]; rfl) | rfl)⟩ (Nat.le_refl _) (Nat.le_refl _) d_M_byNumber_39
      · refine lv_aload_n hx hb d_M_byNumber_28 rfl (lv_at hl 0 rfl) ?_
        refine g_get (v := .ref (a 3)) S G in_M 0 rfl rfl 4 (by decide) fl_M_16 rfl d_M_byNumber_29 ?_
        refine lv_goto (tgt := 39) hx hb d_M_byNumber_32 (by decide) ?_
        exact g_retqa S hr hlk (some (a 3)) G ⟨by first | (simp only [mNum, eq_false c_1, eq_false c_2, eq_true c_3, i10, ↓reduceIte]; done) | (simp only [mNum, eq_false c_1, eq_false c_2, eq_true c_3, i10, ↓reduceIte]; rfl) | rfl, congrArg (wM cA a) (by first | (simp only [mNum, eq_false c_1, eq_false c_2, eq_true c_3, i10, ↓reduceIte]; done) | (simp only [mNum, eq_false c_1, eq_false c_2, eq_true c_3, i10, ↓reduceIte]; rfl) | rfl)⟩ (Nat.le_refl _) (Nat.le_refl _) d_M_byNumber_39
    · refine lv_aload_n hx hb d_M_byNumber_16 rfl (lv_at hl 0 rfl) ?_
      refine g_get (v := .ref (a 2)) S G in_M 0 rfl rfl 3 (by decide) fl_M_13 rfl d_M_byNumber_17 ?_
      refine lv_goto (tgt := 39) hx hb d_M_byNumber_20 (by decide) ?_
      exact g_retqa S hr hlk (some (a 2)) G ⟨by first | (simp only [mNum, eq_false c_1, eq_true c_2, i10, ↓reduceIte]; done) | (simp only [mNum, eq_false c_1, eq_true c_2, i10, ↓reduceIte]; rfl) | rfl, congrArg (wM cA a) (by first | (simp only [mNum, eq_false c_1, eq_true c_2, i10, ↓reduceIte]; done) | (simp only [mNum, eq_false c_1, eq_true c_2, i10, ↓reduceIte]; rfl) | rfl)⟩ (Nat.le_refl _) (Nat.le_refl _) d_M_byNumber_39
  · refine lv_aload_n hx hb d_M_byNumber_4 rfl (lv_at hl 0 rfl) ?_
    refine g_get (v := .ref (a 1)) S G in_M 0 rfl rfl 2 (by decide) fl_M_7 rfl d_M_byNumber_5 ?_
    refine lv_goto (tgt := 39) hx hb d_M_byNumber_8 (by decide) ?_
    exact g_retqa S hr hlk (some (a 1)) G ⟨by first | (simp only [mNum, eq_true c_1, i10, ↓reduceIte]; done) | (simp only [mNum, eq_true c_1, i10, ↓reduceIte]; rfl) | rfl, congrArg (wM cA a) (by first | (simp only [mNum, eq_true c_1, i10, ↓reduceIte]; done) | (simp only [mNum, eq_true c_1, i10, ↓reduceIte]; rfl) | rfl)⟩ (Nat.le_refl _) (Nat.le_refl _) d_M_byNumber_39

abbrev rm_M_noPlace : Room := { frames := 0, cells := 0, slots := 0, locals := 0 }
set_option maxHeartbeats 1000000 in
set_option maxRecDepth 100000 in
theorem c_M_noPlace (l : Launch) (D : va_G) (cA : ClassId) (a : Nat → Nat) (τ : St) (t p : Int32)  : Ci l y_M_noPlace w_M_noPlace rm_M_noPlace D vwCl [(cA, .int)] [.ref (a 0), .int t, .int p] (wM cA a τ) 0 0 (fun r0 w0 => r0 = mNo t p ∧ w0 = wM cA a τ) := by
  refine Ci.of (Ts := lw_g) (own := "WireSlaveModel") (cc := b_M_noPlace) (maxL := 3) (ret := (some .boolean)) (lv := [(0, .ref (a 0)), (1, .int t), (2, .int p)]) (by decide) rfl rfl (fun w h => List.mem_cons_of_mem _ h) (Nat.le_of_ble_eq_true rfl) rfl ?_
  intro pp ee ss mm args below meth cx AA S hr hlk G ls hl
  have hx := S.1
  have hb := S.2.1
  refine lv_iload_n hx hb d_M_noPlace_0 rfl (lv_at hl 1 rfl) ?_
  refine lv_if_lt (tgt := 30) hx hb d_M_noPlace_1 (by decide) (fun c_1 => ?_) (fun c_1 => ?_)
  · refine lv_iconst (v := 1) hx hb d_M_noPlace_30 (by decide) ?_
    refine lv_goto (tgt := 35) hx hb d_M_noPlace_31 (by decide) ?_
    exact g_retz S hr hlk rfl G ⟨by first | (simp only [mNo, eq_true c_1, i10, ↓reduceIte]; done) | (simp only [mNo, eq_true c_1, i10, ↓reduceIte]; rfl) | rfl, congrArg (wM cA a) (by first | (simp only [mNo, eq_true c_1, i10, ↓reduceIte]; done) | (simp only [mNo, eq_true c_1, i10, ↓reduceIte]; rfl) | rfl)⟩ (Nat.le_refl _) (Nat.le_refl _) d_M_noPlace_35
  · refine lv_iload_n hx hb d_M_noPlace_4 rfl (lv_at hl 1 rfl) ?_
    refine lv_iconst (v := 3) hx hb d_M_noPlace_5 (by decide) ?_
    refine lv_icmp_gt (tgt := 30) hx hb d_M_noPlace_6 (by decide) (fun c_2 => ?_) (fun c_2 => ?_)
    · refine lv_iconst (v := 1) hx hb d_M_noPlace_30 (by decide) ?_
      refine lv_goto (tgt := 35) hx hb d_M_noPlace_31 (by decide) ?_
      exact g_retz S hr hlk rfl G ⟨by first | (simp only [mNo, eq_false c_1, eq_true c_2, i10, ↓reduceIte]; done) | (simp only [mNo, eq_false c_1, eq_true c_2, i10, ↓reduceIte]; rfl) | rfl, congrArg (wM cA a) (by first | (simp only [mNo, eq_false c_1, eq_true c_2, i10, ↓reduceIte]; done) | (simp only [mNo, eq_false c_1, eq_true c_2, i10, ↓reduceIte]; rfl) | rfl)⟩ (Nat.le_refl _) (Nat.le_refl _) d_M_noPlace_35
    · refine lv_iload_n hx hb d_M_noPlace_9 rfl (lv_at hl 2 rfl) ?_
      refine lv_if_lt (tgt := 30) hx hb d_M_noPlace_10 (by decide) (fun c_3 => ?_) (fun c_3 => ?_)
      · refine lv_iconst (v := 1) hx hb d_M_noPlace_30 (by decide) ?_
        refine lv_goto (tgt := 35) hx hb d_M_noPlace_31 (by decide) ?_
        exact g_retz S hr hlk rfl G ⟨by first | (simp only [mNo, eq_false c_1, eq_false c_2, eq_true c_3, i10, ↓reduceIte]; done) | (simp only [mNo, eq_false c_1, eq_false c_2, eq_true c_3, i10, ↓reduceIte]; rfl) | rfl, congrArg (wM cA a) (by first | (simp only [mNo, eq_false c_1, eq_false c_2, eq_true c_3, i10, ↓reduceIte]; done) | (simp only [mNo, eq_false c_1, eq_false c_2, eq_true c_3, i10, ↓reduceIte]; rfl) | rfl)⟩ (Nat.le_refl _) (Nat.le_refl _) d_M_noPlace_35
      · refine lv_iload_n hx hb d_M_noPlace_13 rfl (lv_at hl 2 rfl) ?_
        refine lv_iload_n hx hb d_M_noPlace_14 rfl (lv_at hl 1 rfl) ?_
        refine lv_iconst (v := 2) hx hb d_M_noPlace_15 (by decide) ?_
        refine lv_icmp_ge (tgt := 25) hx hb d_M_noPlace_16 (by decide) (fun c_4 => ?_) (fun c_4 => ?_)
        · refine lv_bipush (v := 64) hx hb d_M_noPlace_25 (by decide) ?_
          refine lv_icmp_lt (tgt := 34) hx hb d_M_noPlace_27 (by decide) (fun c_5 => ?_) (fun c_5 => ?_)
          · refine lv_iconst (v := 0) hx hb d_M_noPlace_34 (by decide) ?_
            exact g_retz S hr hlk rfl G ⟨by first | (simp only [mNo, eq_false c_1, eq_false c_2, eq_false c_3, eq_true c_4, eq_true c_5, i10, ↓reduceIte]; done) | (simp only [mNo, eq_false c_1, eq_false c_2, eq_false c_3, eq_true c_4, eq_true c_5, i10, ↓reduceIte]; rfl) | rfl, congrArg (wM cA a) (by first | (simp only [mNo, eq_false c_1, eq_false c_2, eq_false c_3, eq_true c_4, eq_true c_5, i10, ↓reduceIte]; done) | (simp only [mNo, eq_false c_1, eq_false c_2, eq_false c_3, eq_true c_4, eq_true c_5, i10, ↓reduceIte]; rfl) | rfl)⟩ (Nat.le_refl _) (Nat.le_refl _) d_M_noPlace_35
          · refine lv_iconst (v := 1) hx hb d_M_noPlace_30 (by decide) ?_
            refine lv_goto (tgt := 35) hx hb d_M_noPlace_31 (by decide) ?_
            exact g_retz S hr hlk rfl G ⟨by first | (simp only [mNo, eq_false c_1, eq_false c_2, eq_false c_3, eq_true c_4, eq_false c_5, i10, ↓reduceIte]; done) | (simp only [mNo, eq_false c_1, eq_false c_2, eq_false c_3, eq_true c_4, eq_false c_5, i10, ↓reduceIte]; rfl) | rfl, congrArg (wM cA a) (by first | (simp only [mNo, eq_false c_1, eq_false c_2, eq_false c_3, eq_true c_4, eq_false c_5, i10, ↓reduceIte]; done) | (simp only [mNo, eq_false c_1, eq_false c_2, eq_false c_3, eq_true c_4, eq_false c_5, i10, ↓reduceIte]; rfl) | rfl)⟩ (Nat.le_refl _) (Nat.le_refl _) d_M_noPlace_35
        · refine lv_sipush (v := 256) hx hb d_M_noPlace_19 (by decide) ?_
          refine lv_goto (tgt := 27) hx hb d_M_noPlace_22 (by decide) ?_
          refine lv_icmp_lt (tgt := 34) hx hb d_M_noPlace_27 (by decide) (fun c_6 => ?_) (fun c_6 => ?_)
          · refine lv_iconst (v := 0) hx hb d_M_noPlace_34 (by decide) ?_
            exact g_retz S hr hlk rfl G ⟨by first | (simp only [mNo, eq_false c_1, eq_false c_2, eq_false c_3, eq_false c_4, eq_true c_6, i10, ↓reduceIte]; done) | (simp only [mNo, eq_false c_1, eq_false c_2, eq_false c_3, eq_false c_4, eq_true c_6, i10, ↓reduceIte]; rfl) | rfl, congrArg (wM cA a) (by first | (simp only [mNo, eq_false c_1, eq_false c_2, eq_false c_3, eq_false c_4, eq_true c_6, i10, ↓reduceIte]; done) | (simp only [mNo, eq_false c_1, eq_false c_2, eq_false c_3, eq_false c_4, eq_true c_6, i10, ↓reduceIte]; rfl) | rfl)⟩ (Nat.le_refl _) (Nat.le_refl _) d_M_noPlace_35
          · refine lv_iconst (v := 1) hx hb d_M_noPlace_30 (by decide) ?_
            refine lv_goto (tgt := 35) hx hb d_M_noPlace_31 (by decide) ?_
            exact g_retz S hr hlk rfl G ⟨by first | (simp only [mNo, eq_false c_1, eq_false c_2, eq_false c_3, eq_false c_4, eq_false c_6, i10, ↓reduceIte]; done) | (simp only [mNo, eq_false c_1, eq_false c_2, eq_false c_3, eq_false c_4, eq_false c_6, i10, ↓reduceIte]; rfl) | rfl, congrArg (wM cA a) (by first | (simp only [mNo, eq_false c_1, eq_false c_2, eq_false c_3, eq_false c_4, eq_false c_6, i10, ↓reduceIte]; done) | (simp only [mNo, eq_false c_1, eq_false c_2, eq_false c_3, eq_false c_4, eq_false c_6, i10, ↓reduceIte]; rfl) | rfl)⟩ (Nat.le_refl _) (Nat.le_refl _) d_M_noPlace_35
end
section
abbrev rm_M_hear : Room := { frames := 0, cells := 0, slots := 0, locals := 0 }
set_option maxHeartbeats 1000000 in
set_option maxRecDepth 100000 in
theorem c_M_hear (l : Launch) (D : va_G) (cA : ClassId) (a : Nat → Nat) (τ : St) (b : Int32) (hm : ¬ τ 0 2 < 0) : Ci l y_M_hear w_M_hear rm_M_hear D vwCl [(cA, .int)] [.ref (a 0), .int b] (wM cA a τ) 0 0 (fun r0 w0 => r0 = mHearR τ b ∧ w0 = wM cA a (mHear τ b)) := by
  refine Ci.of (Ts := lw_g) (own := "WireSlaveModel") (cc := b_M_hear) (maxL := 2) (ret := (some .int)) (lv := [(0, .ref (a 0)), (1, .int b)]) (by decide) rfl rfl (fun w h => List.mem_cons_of_mem _ h) (Nat.le_of_ble_eq_true rfl) rfl ?_
  intro pp ee ss mm args below meth cx AA S hr hlk G ls hl
  have hx := S.1
  have hb := S.2.1
  refine lv_aload_n hx hb d_M_hear_0 rfl (lv_at hl 0 rfl) ?_
  refine lv_iconst (v := 0) hx hb d_M_hear_1 (by decide) ?_
  refine g_put S G in_M ft_M tok_M nm_M 0 rfl rfl 0 (by decide) fl_M_35 rfl rfl rfl (Nat.le_of_ble_eq_true rfl) (wM cA a (sU τ 0 0 0)) (wm_pthrown cA a _ _) d_M_hear_2 (fun H locs G => ?_)
  refine lv_iload_n hx hb d_M_hear_5 rfl (lv_at hl 1 rfl) ?_
  refine lv_if_lt (tgt := 16) hx hb d_M_hear_6 (by decide) (fun c_1 => ?_) (fun c_1 => ?_)
  · refine lv_iconst (v := (-1)) hx hb d_M_hear_16 (by decide) ?_
    exact g_reti S hr hlk G ⟨by first | (simp only [mHearR, mHear, mFr, mSp, mMany, mT, eq_true c_1, i10, ↓reduceIte]; done) | (simp only [mHearR, mHear, mFr, mSp, mMany, mT, eq_true c_1, i10, ↓reduceIte]; rfl) | rfl, congrArg (wM cA a) (by first | (simp only [mHearR, mHear, mFr, mSp, mMany, mT, eq_true c_1, i10, ↓reduceIte]; done) | (simp only [mHearR, mHear, mFr, mSp, mMany, mT, eq_true c_1, i10, ↓reduceIte]; rfl) | rfl)⟩ (Nat.le_refl _) (Nat.le_refl _) d_M_hear_17
  · refine lv_iload_n hx hb d_M_hear_9 rfl (lv_at hl 1 rfl) ?_
    refine lv_sipush (v := 255) hx hb d_M_hear_10 (by decide) ?_
    refine lv_icmp_le (tgt := 18) hx hb d_M_hear_13 (by decide) (fun c_2 => ?_) (fun c_2 => ?_)
    · refine lv_aload_n hx hb d_M_hear_18 rfl (lv_at hl 0 rfl) ?_
      refine lv_aload_n hx hb d_M_hear_19 rfl (lv_at hl 0 rfl) ?_
      refine g_get (v := .int (τ 0 4)) S G in_M 0 rfl rfl 9 (by decide) fl_M_38 rfl d_M_hear_20 ?_
      refine lv_if_ne (tgt := 52) hx hb d_M_hear_23 (by decide) (fun c_3 => ?_) (fun c_3 => ?_)
      · refine lv_iconst (v := 1) hx hb d_M_hear_52 (by decide) ?_
        refine lv_goto (tgt := 57) hx hb d_M_hear_53 (by decide) ?_
        refine g_put S G in_M ft_M tok_M nm_M 0 rfl rfl 9 (by decide) fl_M_38 rfl rfl rfl (Nat.le_of_ble_eq_true rfl) (wM cA a (sU (sU τ 0 0 0) 0 4 1)) (wm_pspoilt cA a _ _) d_M_hear_57 (fun H locs G => ?_)
        refine lv_aload_n hx hb d_M_hear_60 rfl (lv_at hl 0 rfl) ?_
        refine lv_iconst (v := 0) hx hb d_M_hear_61 (by decide) ?_
        refine g_put S G in_M ft_M tok_M nm_M 0 rfl rfl 8 (by decide) fl_M_45 rfl rfl rfl (Nat.le_of_ble_eq_true rfl) (wM cA a (sU (sU (sU τ 0 0 0) 0 4 1) 0 3 0)) (wm_pgap cA a _ _) d_M_hear_62 (fun H locs G => ?_)
        refine lv_aload_n hx hb d_M_hear_65 rfl (lv_at hl 0 rfl) ?_
        refine g_get (v := .int (τ 0 2)) S G in_M 0 rfl rfl 7 (by decide) fl_M_42 rfl d_M_hear_66 ?_
        refine lv_sipush (v := 256) hx hb d_M_hear_69 (by decide) ?_
        refine lv_icmp_ge (tgt := 85) hx hb d_M_hear_72 (by decide) (fun c_4 => ?_) (fun c_4 => ?_)
        · refine lv_aload_n hx hb d_M_hear_85 rfl (lv_at hl 0 rfl) ?_
          refine lv_aload_n hx hb d_M_hear_86 rfl (lv_at hl 0 rfl) ?_
          refine g_get (v := .int (τ 0 2)) S G in_M 0 rfl rfl 7 (by decide) fl_M_42 rfl d_M_hear_87 ?_
          refine lv_sipush (v := 256) hx hb d_M_hear_90 (by decide) ?_
          refine lv_icmp_le (tgt := 103) hx hb d_M_hear_93 (by decide) (fun c_5 => ?_) (fun c_5 => ?_)
          · refine lv_aload_n hx hb d_M_hear_103 rfl (lv_at hl 0 rfl) ?_
            refine g_get (v := .int (τ 0 2)) S G in_M 0 rfl rfl 7 (by decide) fl_M_42 rfl d_M_hear_104 ?_
            refine lv_iconst (v := 1) hx hb d_M_hear_107 (by decide) ?_
            refine lv_iadd hx hb d_M_hear_108 ?_
            refine g_put S G in_M ft_M tok_M nm_M 0 rfl rfl 7 (by decide) fl_M_42 rfl rfl rfl (Nat.le_of_ble_eq_true rfl) (wM cA a (sU (sU (sU (sU τ 0 0 0) 0 4 1) 0 3 0) 0 2 ((τ 0 2) + 1))) (wm_pmany cA a _ _) d_M_hear_109 (fun H locs G => ?_)
            refine lv_aload_n hx hb d_M_hear_112 rfl (lv_at hl 0 rfl) ?_
            refine g_get (v := .int ((τ 0 2) + 1)) S G in_M 0 rfl rfl 7 (by decide) fl_M_42 rfl d_M_hear_113 ?_
            exact g_reti S hr hlk G ⟨by first | (simp only [mHearR, mHear, mFr, mSp, mMany, mT, eq_false c_1, eq_true c_2, eq_false c_3, eq_true c_4, eq_true c_5, i10, ↓reduceIte]; done) | (simp only [mHearR, mHear, mFr, mSp, mMany, mT, eq_false c_1, eq_true c_2, eq_false c_3, eq_true c_4, eq_true c_5, i10, ↓reduceIte]; rfl) | rfl, congrArg (wM cA a) (by first | (simp only [mHearR, mHear, mFr, mSp, mMany, mT, eq_false c_1, eq_true c_2, eq_false c_3, eq_true c_4, eq_true c_5, i10, ↓reduceIte]; done) | (simp only [mHearR, mHear, mFr, mSp, mMany, mT, eq_false c_1, eq_true c_2, eq_false c_3, eq_true c_4, eq_true c_5, i10, ↓reduceIte]; rfl) | rfl)⟩ (Nat.le_refl _) (Nat.le_refl _) d_M_hear_116
          · refine lv_aload_n hx hb d_M_hear_96 rfl (lv_at hl 0 rfl) ?_
            refine g_get (v := .int (τ 0 2)) S G in_M 0 rfl rfl 7 (by decide) fl_M_42 rfl d_M_hear_97 ?_
            refine lv_goto (tgt := 109) hx hb d_M_hear_100 (by decide) ?_
            refine g_put S G in_M ft_M tok_M nm_M 0 rfl rfl 7 (by decide) fl_M_42 rfl rfl rfl (Nat.le_of_ble_eq_true rfl) (wM cA a (sU (sU (sU (sU τ 0 0 0) 0 4 1) 0 3 0) 0 2 (τ 0 2))) (wm_pmany cA a _ _) d_M_hear_109 (fun H locs G => ?_)
            refine lv_aload_n hx hb d_M_hear_112 rfl (lv_at hl 0 rfl) ?_
            refine g_get (v := .int (τ 0 2)) S G in_M 0 rfl rfl 7 (by decide) fl_M_42 rfl d_M_hear_113 ?_
            exact g_reti S hr hlk G ⟨by first | (simp only [mHearR, mHear, mFr, mSp, mMany, mT, eq_false c_1, eq_true c_2, eq_false c_3, eq_true c_4, eq_false c_5, i10, ↓reduceIte]; done) | (simp only [mHearR, mHear, mFr, mSp, mMany, mT, eq_false c_1, eq_true c_2, eq_false c_3, eq_true c_4, eq_false c_5, i10, ↓reduceIte]; rfl) | rfl, congrArg (wM cA a) (by first | (simp only [mHearR, mHear, mFr, mSp, mMany, mT, eq_false c_1, eq_true c_2, eq_false c_3, eq_true c_4, eq_false c_5, i10, ↓reduceIte]; done) | (simp only [mHearR, mHear, mFr, mSp, mMany, mT, eq_false c_1, eq_true c_2, eq_false c_3, eq_true c_4, eq_false c_5, i10, ↓reduceIte]; rfl) | rfl)⟩ (Nat.le_refl _) (Nat.le_refl _) d_M_hear_116
        · refine lv_aload_n hx hb d_M_hear_75 rfl (lv_at hl 0 rfl) ?_
          refine g_get (v := .ref (a 5)) S G in_M 0 rfl rfl 6 (by decide) fl_M_22 rfl d_M_hear_76 ?_
          refine lv_aload_n hx hb d_M_hear_79 rfl (lv_at hl 0 rfl) ?_
          refine g_get (v := .int (τ 0 2)) S G in_M 0 rfl rfl 7 (by decide) fl_M_42 rfl d_M_hear_80 ?_
          refine lv_iload_n hx hb d_M_hear_83 rfl (lv_at hl 1 rfl) ?_
          refine g_iastj S G 5 0 rfl rfl ((τ 0 2).toNatClampNeg) rfl (vin_ge (n := 256) hm c_4 (by decide)) (wM cA a (sU (sU (sU (sU τ 0 0 0) 0 4 1) 0 3 0) 5 ((τ 0 2).toNatClampNeg) b)) (wm_a5 cA a _ _ _) d_M_hear_84 (fun H locs G => ?_)
          refine lv_aload_n hx hb d_M_hear_85 rfl (lv_at hl 0 rfl) ?_
          refine lv_aload_n hx hb d_M_hear_86 rfl (lv_at hl 0 rfl) ?_
          refine g_get (v := .int (τ 0 2)) S G in_M 0 rfl rfl 7 (by decide) fl_M_42 rfl d_M_hear_87 ?_
          refine lv_sipush (v := 256) hx hb d_M_hear_90 (by decide) ?_
          refine lv_icmp_le (tgt := 103) hx hb d_M_hear_93 (by decide) (fun c_6 => ?_) (fun c_6 => ?_)
          · refine lv_aload_n hx hb d_M_hear_103 rfl (lv_at hl 0 rfl) ?_
            refine g_get (v := .int (τ 0 2)) S G in_M 0 rfl rfl 7 (by decide) fl_M_42 rfl d_M_hear_104 ?_
            refine lv_iconst (v := 1) hx hb d_M_hear_107 (by decide) ?_
            refine lv_iadd hx hb d_M_hear_108 ?_
            refine g_put S G in_M ft_M tok_M nm_M 0 rfl rfl 7 (by decide) fl_M_42 rfl rfl rfl (Nat.le_of_ble_eq_true rfl) (wM cA a (sU (sU (sU (sU (sU τ 0 0 0) 0 4 1) 0 3 0) 5 ((τ 0 2).toNatClampNeg) b) 0 2 ((τ 0 2) + 1))) (wm_pmany cA a _ _) d_M_hear_109 (fun H locs G => ?_)
            refine lv_aload_n hx hb d_M_hear_112 rfl (lv_at hl 0 rfl) ?_
            refine g_get (v := .int ((τ 0 2) + 1)) S G in_M 0 rfl rfl 7 (by decide) fl_M_42 rfl d_M_hear_113 ?_
            exact g_reti S hr hlk G ⟨by first | (simp only [mHearR, mHear, mFr, mSp, mMany, mT, eq_false c_1, eq_true c_2, eq_false c_3, eq_false c_4, eq_true c_6, i10, ↓reduceIte]; done) | (simp only [mHearR, mHear, mFr, mSp, mMany, mT, eq_false c_1, eq_true c_2, eq_false c_3, eq_false c_4, eq_true c_6, i10, ↓reduceIte]; rfl) | rfl, congrArg (wM cA a) (by first | (simp only [mHearR, mHear, mFr, mSp, mMany, mT, eq_false c_1, eq_true c_2, eq_false c_3, eq_false c_4, eq_true c_6, i10, ↓reduceIte]; done) | (simp only [mHearR, mHear, mFr, mSp, mMany, mT, eq_false c_1, eq_true c_2, eq_false c_3, eq_false c_4, eq_true c_6, i10, ↓reduceIte]; rfl) | rfl)⟩ (Nat.le_refl _) (Nat.le_refl _) d_M_hear_116
          · refine lv_aload_n hx hb d_M_hear_96 rfl (lv_at hl 0 rfl) ?_
            refine g_get (v := .int (τ 0 2)) S G in_M 0 rfl rfl 7 (by decide) fl_M_42 rfl d_M_hear_97 ?_
            refine lv_goto (tgt := 109) hx hb d_M_hear_100 (by decide) ?_
            refine g_put S G in_M ft_M tok_M nm_M 0 rfl rfl 7 (by decide) fl_M_42 rfl rfl rfl (Nat.le_of_ble_eq_true rfl) (wM cA a (sU (sU (sU (sU (sU τ 0 0 0) 0 4 1) 0 3 0) 5 ((τ 0 2).toNatClampNeg) b) 0 2 (τ 0 2))) (wm_pmany cA a _ _) d_M_hear_109 (fun H locs G => ?_)
            refine lv_aload_n hx hb d_M_hear_112 rfl (lv_at hl 0 rfl) ?_
            refine g_get (v := .int (τ 0 2)) S G in_M 0 rfl rfl 7 (by decide) fl_M_42 rfl d_M_hear_113 ?_
            exact g_reti S hr hlk G ⟨by first | (simp only [mHearR, mHear, mFr, mSp, mMany, mT, eq_false c_1, eq_true c_2, eq_false c_3, eq_false c_4, eq_false c_6, i10, ↓reduceIte]; done) | (simp only [mHearR, mHear, mFr, mSp, mMany, mT, eq_false c_1, eq_true c_2, eq_false c_3, eq_false c_4, eq_false c_6, i10, ↓reduceIte]; rfl) | rfl, congrArg (wM cA a) (by first | (simp only [mHearR, mHear, mFr, mSp, mMany, mT, eq_false c_1, eq_true c_2, eq_false c_3, eq_false c_4, eq_false c_6, i10, ↓reduceIte]; done) | (simp only [mHearR, mHear, mFr, mSp, mMany, mT, eq_false c_1, eq_true c_2, eq_false c_3, eq_false c_4, eq_false c_6, i10, ↓reduceIte]; rfl) | rfl)⟩ (Nat.le_refl _) (Nat.le_refl _) d_M_hear_116
      · refine lv_aload_n hx hb d_M_hear_26 rfl (lv_at hl 0 rfl) ?_
        refine g_get (v := .int (τ 0 2)) S G in_M 0 rfl rfl 7 (by decide) fl_M_42 rfl d_M_hear_27 ?_
        refine lv_if_le (tgt := 42) hx hb d_M_hear_30 (by decide) (fun c_7 => ?_) (fun c_7 => ?_)
        · refine lv_aload_n hx hb d_M_hear_42 rfl (lv_at hl 0 rfl) ?_
          refine g_get (v := .int (τ 0 2)) S G in_M 0 rfl rfl 7 (by decide) fl_M_42 rfl d_M_hear_43 ?_
          refine lv_sipush (v := 256) hx hb d_M_hear_46 (by decide) ?_
          refine lv_icmp_lt (tgt := 56) hx hb d_M_hear_49 (by decide) (fun c_8 => ?_) (fun c_8 => ?_)
          · refine lv_iconst (v := 0) hx hb d_M_hear_56 (by decide) ?_
            refine g_put S G in_M ft_M tok_M nm_M 0 rfl rfl 9 (by decide) fl_M_38 rfl rfl rfl (Nat.le_of_ble_eq_true rfl) (wM cA a (sU (sU τ 0 0 0) 0 4 0)) (wm_pspoilt cA a _ _) d_M_hear_57 (fun H locs G => ?_)
            refine lv_aload_n hx hb d_M_hear_60 rfl (lv_at hl 0 rfl) ?_
            refine lv_iconst (v := 0) hx hb d_M_hear_61 (by decide) ?_
            refine g_put S G in_M ft_M tok_M nm_M 0 rfl rfl 8 (by decide) fl_M_45 rfl rfl rfl (Nat.le_of_ble_eq_true rfl) (wM cA a (sU (sU (sU τ 0 0 0) 0 4 0) 0 3 0)) (wm_pgap cA a _ _) d_M_hear_62 (fun H locs G => ?_)
            refine lv_aload_n hx hb d_M_hear_65 rfl (lv_at hl 0 rfl) ?_
            refine g_get (v := .int (τ 0 2)) S G in_M 0 rfl rfl 7 (by decide) fl_M_42 rfl d_M_hear_66 ?_
            refine lv_sipush (v := 256) hx hb d_M_hear_69 (by decide) ?_
            have k_9 : ¬ (256 ≤ (τ 0 2)) := Int32.not_le.mpr c_8
            refine lv_icmp_ge (tgt := 85) hx hb d_M_hear_72 (by decide) (fun h9 => absurd h9 k_9) (fun _ => ?_)
            refine lv_aload_n hx hb d_M_hear_75 rfl (lv_at hl 0 rfl) ?_
            refine g_get (v := .ref (a 5)) S G in_M 0 rfl rfl 6 (by decide) fl_M_22 rfl d_M_hear_76 ?_
            refine lv_aload_n hx hb d_M_hear_79 rfl (lv_at hl 0 rfl) ?_
            refine g_get (v := .int (τ 0 2)) S G in_M 0 rfl rfl 7 (by decide) fl_M_42 rfl d_M_hear_80 ?_
            refine lv_iload_n hx hb d_M_hear_83 rfl (lv_at hl 1 rfl) ?_
            refine g_iastj S G 5 0 rfl rfl ((τ 0 2).toNatClampNeg) rfl (vin_ge (n := 256) hm k_9 (by decide)) (wM cA a (sU (sU (sU (sU τ 0 0 0) 0 4 0) 0 3 0) 5 ((τ 0 2).toNatClampNeg) b)) (wm_a5 cA a _ _ _) d_M_hear_84 (fun H locs G => ?_)
            refine lv_aload_n hx hb d_M_hear_85 rfl (lv_at hl 0 rfl) ?_
            refine lv_aload_n hx hb d_M_hear_86 rfl (lv_at hl 0 rfl) ?_
            refine g_get (v := .int (τ 0 2)) S G in_M 0 rfl rfl 7 (by decide) fl_M_42 rfl d_M_hear_87 ?_
            refine lv_sipush (v := 256) hx hb d_M_hear_90 (by decide) ?_
            refine lv_icmp_le (tgt := 103) hx hb d_M_hear_93 (by decide) (fun c_10 => ?_) (fun c_10 => ?_)
            · refine lv_aload_n hx hb d_M_hear_103 rfl (lv_at hl 0 rfl) ?_
              refine g_get (v := .int (τ 0 2)) S G in_M 0 rfl rfl 7 (by decide) fl_M_42 rfl d_M_hear_104 ?_
              refine lv_iconst (v := 1) hx hb d_M_hear_107 (by decide) ?_
              refine lv_iadd hx hb d_M_hear_108 ?_
              refine g_put S G in_M ft_M tok_M nm_M 0 rfl rfl 7 (by decide) fl_M_42 rfl rfl rfl (Nat.le_of_ble_eq_true rfl) (wM cA a (sU (sU (sU (sU (sU τ 0 0 0) 0 4 0) 0 3 0) 5 ((τ 0 2).toNatClampNeg) b) 0 2 ((τ 0 2) + 1))) (wm_pmany cA a _ _) d_M_hear_109 (fun H locs G => ?_)
              refine lv_aload_n hx hb d_M_hear_112 rfl (lv_at hl 0 rfl) ?_
              refine g_get (v := .int ((τ 0 2) + 1)) S G in_M 0 rfl rfl 7 (by decide) fl_M_42 rfl d_M_hear_113 ?_
              exact g_reti S hr hlk G ⟨by first | (simp only [mHearR, mHear, mFr, mSp, mMany, mT, eq_false c_1, eq_true c_2, eq_true c_3, eq_true c_7, eq_true c_8, eq_false k_9, eq_true c_10, i10, ↓reduceIte]; done) | (simp only [mHearR, mHear, mFr, mSp, mMany, mT, eq_false c_1, eq_true c_2, eq_true c_3, eq_true c_7, eq_true c_8, eq_false k_9, eq_true c_10, i10, ↓reduceIte]; rfl) | rfl, congrArg (wM cA a) (by first | (simp only [mHearR, mHear, mFr, mSp, mMany, mT, eq_false c_1, eq_true c_2, eq_true c_3, eq_true c_7, eq_true c_8, eq_false k_9, eq_true c_10, i10, ↓reduceIte]; done) | (simp only [mHearR, mHear, mFr, mSp, mMany, mT, eq_false c_1, eq_true c_2, eq_true c_3, eq_true c_7, eq_true c_8, eq_false k_9, eq_true c_10, i10, ↓reduceIte]; rfl) | rfl)⟩ (Nat.le_refl _) (Nat.le_refl _) d_M_hear_116
            · refine lv_aload_n hx hb d_M_hear_96 rfl (lv_at hl 0 rfl) ?_
              refine g_get (v := .int (τ 0 2)) S G in_M 0 rfl rfl 7 (by decide) fl_M_42 rfl d_M_hear_97 ?_
              refine lv_goto (tgt := 109) hx hb d_M_hear_100 (by decide) ?_
              refine g_put S G in_M ft_M tok_M nm_M 0 rfl rfl 7 (by decide) fl_M_42 rfl rfl rfl (Nat.le_of_ble_eq_true rfl) (wM cA a (sU (sU (sU (sU (sU τ 0 0 0) 0 4 0) 0 3 0) 5 ((τ 0 2).toNatClampNeg) b) 0 2 (τ 0 2))) (wm_pmany cA a _ _) d_M_hear_109 (fun H locs G => ?_)
              refine lv_aload_n hx hb d_M_hear_112 rfl (lv_at hl 0 rfl) ?_
              refine g_get (v := .int (τ 0 2)) S G in_M 0 rfl rfl 7 (by decide) fl_M_42 rfl d_M_hear_113 ?_
              exact g_reti S hr hlk G ⟨by first | (simp only [mHearR, mHear, mFr, mSp, mMany, mT, eq_false c_1, eq_true c_2, eq_true c_3, eq_true c_7, eq_true c_8, eq_false k_9, eq_false c_10, i10, ↓reduceIte]; done) | (simp only [mHearR, mHear, mFr, mSp, mMany, mT, eq_false c_1, eq_true c_2, eq_true c_3, eq_true c_7, eq_true c_8, eq_false k_9, eq_false c_10, i10, ↓reduceIte]; rfl) | rfl, congrArg (wM cA a) (by first | (simp only [mHearR, mHear, mFr, mSp, mMany, mT, eq_false c_1, eq_true c_2, eq_true c_3, eq_true c_7, eq_true c_8, eq_false k_9, eq_false c_10, i10, ↓reduceIte]; done) | (simp only [mHearR, mHear, mFr, mSp, mMany, mT, eq_false c_1, eq_true c_2, eq_true c_3, eq_true c_7, eq_true c_8, eq_false k_9, eq_false c_10, i10, ↓reduceIte]; rfl) | rfl)⟩ (Nat.le_refl _) (Nat.le_refl _) d_M_hear_116
          · refine lv_iconst (v := 1) hx hb d_M_hear_52 (by decide) ?_
            refine lv_goto (tgt := 57) hx hb d_M_hear_53 (by decide) ?_
            refine g_put S G in_M ft_M tok_M nm_M 0 rfl rfl 9 (by decide) fl_M_38 rfl rfl rfl (Nat.le_of_ble_eq_true rfl) (wM cA a (sU (sU τ 0 0 0) 0 4 1)) (wm_pspoilt cA a _ _) d_M_hear_57 (fun H locs G => ?_)
            refine lv_aload_n hx hb d_M_hear_60 rfl (lv_at hl 0 rfl) ?_
            refine lv_iconst (v := 0) hx hb d_M_hear_61 (by decide) ?_
            refine g_put S G in_M ft_M tok_M nm_M 0 rfl rfl 8 (by decide) fl_M_45 rfl rfl rfl (Nat.le_of_ble_eq_true rfl) (wM cA a (sU (sU (sU τ 0 0 0) 0 4 1) 0 3 0)) (wm_pgap cA a _ _) d_M_hear_62 (fun H locs G => ?_)
            refine lv_aload_n hx hb d_M_hear_65 rfl (lv_at hl 0 rfl) ?_
            refine g_get (v := .int (τ 0 2)) S G in_M 0 rfl rfl 7 (by decide) fl_M_42 rfl d_M_hear_66 ?_
            refine lv_sipush (v := 256) hx hb d_M_hear_69 (by decide) ?_
            have k_11 : 256 ≤ (τ 0 2) := Int32.not_lt.mp c_8
            refine lv_icmp_ge (tgt := 85) hx hb d_M_hear_72 (by decide) (fun _ => ?_) (fun h9 => absurd k_11 h9)
            refine lv_aload_n hx hb d_M_hear_85 rfl (lv_at hl 0 rfl) ?_
            refine lv_aload_n hx hb d_M_hear_86 rfl (lv_at hl 0 rfl) ?_
            refine g_get (v := .int (τ 0 2)) S G in_M 0 rfl rfl 7 (by decide) fl_M_42 rfl d_M_hear_87 ?_
            refine lv_sipush (v := 256) hx hb d_M_hear_90 (by decide) ?_
            refine lv_icmp_le (tgt := 103) hx hb d_M_hear_93 (by decide) (fun c_12 => ?_) (fun c_12 => ?_)
            · refine lv_aload_n hx hb d_M_hear_103 rfl (lv_at hl 0 rfl) ?_
              refine g_get (v := .int (τ 0 2)) S G in_M 0 rfl rfl 7 (by decide) fl_M_42 rfl d_M_hear_104 ?_
              refine lv_iconst (v := 1) hx hb d_M_hear_107 (by decide) ?_
              refine lv_iadd hx hb d_M_hear_108 ?_
              refine g_put S G in_M ft_M tok_M nm_M 0 rfl rfl 7 (by decide) fl_M_42 rfl rfl rfl (Nat.le_of_ble_eq_true rfl) (wM cA a (sU (sU (sU (sU τ 0 0 0) 0 4 1) 0 3 0) 0 2 ((τ 0 2) + 1))) (wm_pmany cA a _ _) d_M_hear_109 (fun H locs G => ?_)
              refine lv_aload_n hx hb d_M_hear_112 rfl (lv_at hl 0 rfl) ?_
              refine g_get (v := .int ((τ 0 2) + 1)) S G in_M 0 rfl rfl 7 (by decide) fl_M_42 rfl d_M_hear_113 ?_
              exact g_reti S hr hlk G ⟨by first | (simp only [mHearR, mHear, mFr, mSp, mMany, mT, eq_false c_1, eq_true c_2, eq_true c_3, eq_true c_7, eq_false c_8, eq_true k_11, eq_true c_12, i10, ↓reduceIte]; done) | (simp only [mHearR, mHear, mFr, mSp, mMany, mT, eq_false c_1, eq_true c_2, eq_true c_3, eq_true c_7, eq_false c_8, eq_true k_11, eq_true c_12, i10, ↓reduceIte]; rfl) | rfl, congrArg (wM cA a) (by first | (simp only [mHearR, mHear, mFr, mSp, mMany, mT, eq_false c_1, eq_true c_2, eq_true c_3, eq_true c_7, eq_false c_8, eq_true k_11, eq_true c_12, i10, ↓reduceIte]; done) | (simp only [mHearR, mHear, mFr, mSp, mMany, mT, eq_false c_1, eq_true c_2, eq_true c_3, eq_true c_7, eq_false c_8, eq_true k_11, eq_true c_12, i10, ↓reduceIte]; rfl) | rfl)⟩ (Nat.le_refl _) (Nat.le_refl _) d_M_hear_116
            · refine lv_aload_n hx hb d_M_hear_96 rfl (lv_at hl 0 rfl) ?_
              refine g_get (v := .int (τ 0 2)) S G in_M 0 rfl rfl 7 (by decide) fl_M_42 rfl d_M_hear_97 ?_
              refine lv_goto (tgt := 109) hx hb d_M_hear_100 (by decide) ?_
              refine g_put S G in_M ft_M tok_M nm_M 0 rfl rfl 7 (by decide) fl_M_42 rfl rfl rfl (Nat.le_of_ble_eq_true rfl) (wM cA a (sU (sU (sU (sU τ 0 0 0) 0 4 1) 0 3 0) 0 2 (τ 0 2))) (wm_pmany cA a _ _) d_M_hear_109 (fun H locs G => ?_)
              refine lv_aload_n hx hb d_M_hear_112 rfl (lv_at hl 0 rfl) ?_
              refine g_get (v := .int (τ 0 2)) S G in_M 0 rfl rfl 7 (by decide) fl_M_42 rfl d_M_hear_113 ?_
              exact g_reti S hr hlk G ⟨by first | (simp only [mHearR, mHear, mFr, mSp, mMany, mT, eq_false c_1, eq_true c_2, eq_true c_3, eq_true c_7, eq_false c_8, eq_true k_11, eq_false c_12, i10, ↓reduceIte]; done) | (simp only [mHearR, mHear, mFr, mSp, mMany, mT, eq_false c_1, eq_true c_2, eq_true c_3, eq_true c_7, eq_false c_8, eq_true k_11, eq_false c_12, i10, ↓reduceIte]; rfl) | rfl, congrArg (wM cA a) (by first | (simp only [mHearR, mHear, mFr, mSp, mMany, mT, eq_false c_1, eq_true c_2, eq_true c_3, eq_true c_7, eq_false c_8, eq_true k_11, eq_false c_12, i10, ↓reduceIte]; done) | (simp only [mHearR, mHear, mFr, mSp, mMany, mT, eq_false c_1, eq_true c_2, eq_true c_3, eq_true c_7, eq_false c_8, eq_true k_11, eq_false c_12, i10, ↓reduceIte]; rfl) | rfl)⟩ (Nat.le_refl _) (Nat.le_refl _) d_M_hear_116
        · refine lv_aload_n hx hb d_M_hear_33 rfl (lv_at hl 0 rfl) ?_
          refine g_get (v := .int (τ 0 3)) S G in_M 0 rfl rfl 8 (by decide) fl_M_45 rfl d_M_hear_34 ?_
          refine lv_bipush (v := 7) hx hb d_M_hear_37 (by decide) ?_
          refine lv_icmp_ge (tgt := 52) hx hb d_M_hear_39 (by decide) (fun c_13 => ?_) (fun c_13 => ?_)
          · refine lv_iconst (v := 1) hx hb d_M_hear_52 (by decide) ?_
            refine lv_goto (tgt := 57) hx hb d_M_hear_53 (by decide) ?_
            refine g_put S G in_M ft_M tok_M nm_M 0 rfl rfl 9 (by decide) fl_M_38 rfl rfl rfl (Nat.le_of_ble_eq_true rfl) (wM cA a (sU (sU τ 0 0 0) 0 4 1)) (wm_pspoilt cA a _ _) d_M_hear_57 (fun H locs G => ?_)
            refine lv_aload_n hx hb d_M_hear_60 rfl (lv_at hl 0 rfl) ?_
            refine lv_iconst (v := 0) hx hb d_M_hear_61 (by decide) ?_
            refine g_put S G in_M ft_M tok_M nm_M 0 rfl rfl 8 (by decide) fl_M_45 rfl rfl rfl (Nat.le_of_ble_eq_true rfl) (wM cA a (sU (sU (sU τ 0 0 0) 0 4 1) 0 3 0)) (wm_pgap cA a _ _) d_M_hear_62 (fun H locs G => ?_)
            refine lv_aload_n hx hb d_M_hear_65 rfl (lv_at hl 0 rfl) ?_
            refine g_get (v := .int (τ 0 2)) S G in_M 0 rfl rfl 7 (by decide) fl_M_42 rfl d_M_hear_66 ?_
            refine lv_sipush (v := 256) hx hb d_M_hear_69 (by decide) ?_
            refine lv_icmp_ge (tgt := 85) hx hb d_M_hear_72 (by decide) (fun c_14 => ?_) (fun c_14 => ?_)
            · refine lv_aload_n hx hb d_M_hear_85 rfl (lv_at hl 0 rfl) ?_
              refine lv_aload_n hx hb d_M_hear_86 rfl (lv_at hl 0 rfl) ?_
              refine g_get (v := .int (τ 0 2)) S G in_M 0 rfl rfl 7 (by decide) fl_M_42 rfl d_M_hear_87 ?_
              refine lv_sipush (v := 256) hx hb d_M_hear_90 (by decide) ?_
              refine lv_icmp_le (tgt := 103) hx hb d_M_hear_93 (by decide) (fun c_15 => ?_) (fun c_15 => ?_)
              · refine lv_aload_n hx hb d_M_hear_103 rfl (lv_at hl 0 rfl) ?_
                refine g_get (v := .int (τ 0 2)) S G in_M 0 rfl rfl 7 (by decide) fl_M_42 rfl d_M_hear_104 ?_
                refine lv_iconst (v := 1) hx hb d_M_hear_107 (by decide) ?_
                refine lv_iadd hx hb d_M_hear_108 ?_
                refine g_put S G in_M ft_M tok_M nm_M 0 rfl rfl 7 (by decide) fl_M_42 rfl rfl rfl (Nat.le_of_ble_eq_true rfl) (wM cA a (sU (sU (sU (sU τ 0 0 0) 0 4 1) 0 3 0) 0 2 ((τ 0 2) + 1))) (wm_pmany cA a _ _) d_M_hear_109 (fun H locs G => ?_)
                refine lv_aload_n hx hb d_M_hear_112 rfl (lv_at hl 0 rfl) ?_
                refine g_get (v := .int ((τ 0 2) + 1)) S G in_M 0 rfl rfl 7 (by decide) fl_M_42 rfl d_M_hear_113 ?_
                exact g_reti S hr hlk G ⟨by first | (simp only [mHearR, mHear, mFr, mSp, mMany, mT, eq_false c_1, eq_true c_2, eq_true c_3, eq_false c_7, eq_true c_13, eq_true c_14, eq_true c_15, i10, ↓reduceIte]; done) | (simp only [mHearR, mHear, mFr, mSp, mMany, mT, eq_false c_1, eq_true c_2, eq_true c_3, eq_false c_7, eq_true c_13, eq_true c_14, eq_true c_15, i10, ↓reduceIte]; rfl) | rfl, congrArg (wM cA a) (by first | (simp only [mHearR, mHear, mFr, mSp, mMany, mT, eq_false c_1, eq_true c_2, eq_true c_3, eq_false c_7, eq_true c_13, eq_true c_14, eq_true c_15, i10, ↓reduceIte]; done) | (simp only [mHearR, mHear, mFr, mSp, mMany, mT, eq_false c_1, eq_true c_2, eq_true c_3, eq_false c_7, eq_true c_13, eq_true c_14, eq_true c_15, i10, ↓reduceIte]; rfl) | rfl)⟩ (Nat.le_refl _) (Nat.le_refl _) d_M_hear_116
              · refine lv_aload_n hx hb d_M_hear_96 rfl (lv_at hl 0 rfl) ?_
                refine g_get (v := .int (τ 0 2)) S G in_M 0 rfl rfl 7 (by decide) fl_M_42 rfl d_M_hear_97 ?_
                refine lv_goto (tgt := 109) hx hb d_M_hear_100 (by decide) ?_
                refine g_put S G in_M ft_M tok_M nm_M 0 rfl rfl 7 (by decide) fl_M_42 rfl rfl rfl (Nat.le_of_ble_eq_true rfl) (wM cA a (sU (sU (sU (sU τ 0 0 0) 0 4 1) 0 3 0) 0 2 (τ 0 2))) (wm_pmany cA a _ _) d_M_hear_109 (fun H locs G => ?_)
                refine lv_aload_n hx hb d_M_hear_112 rfl (lv_at hl 0 rfl) ?_
                refine g_get (v := .int (τ 0 2)) S G in_M 0 rfl rfl 7 (by decide) fl_M_42 rfl d_M_hear_113 ?_
                exact g_reti S hr hlk G ⟨by first | (simp only [mHearR, mHear, mFr, mSp, mMany, mT, eq_false c_1, eq_true c_2, eq_true c_3, eq_false c_7, eq_true c_13, eq_true c_14, eq_false c_15, i10, ↓reduceIte]; done) | (simp only [mHearR, mHear, mFr, mSp, mMany, mT, eq_false c_1, eq_true c_2, eq_true c_3, eq_false c_7, eq_true c_13, eq_true c_14, eq_false c_15, i10, ↓reduceIte]; rfl) | rfl, congrArg (wM cA a) (by first | (simp only [mHearR, mHear, mFr, mSp, mMany, mT, eq_false c_1, eq_true c_2, eq_true c_3, eq_false c_7, eq_true c_13, eq_true c_14, eq_false c_15, i10, ↓reduceIte]; done) | (simp only [mHearR, mHear, mFr, mSp, mMany, mT, eq_false c_1, eq_true c_2, eq_true c_3, eq_false c_7, eq_true c_13, eq_true c_14, eq_false c_15, i10, ↓reduceIte]; rfl) | rfl)⟩ (Nat.le_refl _) (Nat.le_refl _) d_M_hear_116
            · refine lv_aload_n hx hb d_M_hear_75 rfl (lv_at hl 0 rfl) ?_
              refine g_get (v := .ref (a 5)) S G in_M 0 rfl rfl 6 (by decide) fl_M_22 rfl d_M_hear_76 ?_
              refine lv_aload_n hx hb d_M_hear_79 rfl (lv_at hl 0 rfl) ?_
              refine g_get (v := .int (τ 0 2)) S G in_M 0 rfl rfl 7 (by decide) fl_M_42 rfl d_M_hear_80 ?_
              refine lv_iload_n hx hb d_M_hear_83 rfl (lv_at hl 1 rfl) ?_
              refine g_iastj S G 5 0 rfl rfl ((τ 0 2).toNatClampNeg) rfl (vin_ge (n := 256) hm c_14 (by decide)) (wM cA a (sU (sU (sU (sU τ 0 0 0) 0 4 1) 0 3 0) 5 ((τ 0 2).toNatClampNeg) b)) (wm_a5 cA a _ _ _) d_M_hear_84 (fun H locs G => ?_)
              refine lv_aload_n hx hb d_M_hear_85 rfl (lv_at hl 0 rfl) ?_
              refine lv_aload_n hx hb d_M_hear_86 rfl (lv_at hl 0 rfl) ?_
              refine g_get (v := .int (τ 0 2)) S G in_M 0 rfl rfl 7 (by decide) fl_M_42 rfl d_M_hear_87 ?_
              refine lv_sipush (v := 256) hx hb d_M_hear_90 (by decide) ?_
              refine lv_icmp_le (tgt := 103) hx hb d_M_hear_93 (by decide) (fun c_16 => ?_) (fun c_16 => ?_)
              · refine lv_aload_n hx hb d_M_hear_103 rfl (lv_at hl 0 rfl) ?_
                refine g_get (v := .int (τ 0 2)) S G in_M 0 rfl rfl 7 (by decide) fl_M_42 rfl d_M_hear_104 ?_
                refine lv_iconst (v := 1) hx hb d_M_hear_107 (by decide) ?_
                refine lv_iadd hx hb d_M_hear_108 ?_
                refine g_put S G in_M ft_M tok_M nm_M 0 rfl rfl 7 (by decide) fl_M_42 rfl rfl rfl (Nat.le_of_ble_eq_true rfl) (wM cA a (sU (sU (sU (sU (sU τ 0 0 0) 0 4 1) 0 3 0) 5 ((τ 0 2).toNatClampNeg) b) 0 2 ((τ 0 2) + 1))) (wm_pmany cA a _ _) d_M_hear_109 (fun H locs G => ?_)
                refine lv_aload_n hx hb d_M_hear_112 rfl (lv_at hl 0 rfl) ?_
                refine g_get (v := .int ((τ 0 2) + 1)) S G in_M 0 rfl rfl 7 (by decide) fl_M_42 rfl d_M_hear_113 ?_
                exact g_reti S hr hlk G ⟨by first | (simp only [mHearR, mHear, mFr, mSp, mMany, mT, eq_false c_1, eq_true c_2, eq_true c_3, eq_false c_7, eq_true c_13, eq_false c_14, eq_true c_16, i10, ↓reduceIte]; done) | (simp only [mHearR, mHear, mFr, mSp, mMany, mT, eq_false c_1, eq_true c_2, eq_true c_3, eq_false c_7, eq_true c_13, eq_false c_14, eq_true c_16, i10, ↓reduceIte]; rfl) | rfl, congrArg (wM cA a) (by first | (simp only [mHearR, mHear, mFr, mSp, mMany, mT, eq_false c_1, eq_true c_2, eq_true c_3, eq_false c_7, eq_true c_13, eq_false c_14, eq_true c_16, i10, ↓reduceIte]; done) | (simp only [mHearR, mHear, mFr, mSp, mMany, mT, eq_false c_1, eq_true c_2, eq_true c_3, eq_false c_7, eq_true c_13, eq_false c_14, eq_true c_16, i10, ↓reduceIte]; rfl) | rfl)⟩ (Nat.le_refl _) (Nat.le_refl _) d_M_hear_116
              · refine lv_aload_n hx hb d_M_hear_96 rfl (lv_at hl 0 rfl) ?_
                refine g_get (v := .int (τ 0 2)) S G in_M 0 rfl rfl 7 (by decide) fl_M_42 rfl d_M_hear_97 ?_
                refine lv_goto (tgt := 109) hx hb d_M_hear_100 (by decide) ?_
                refine g_put S G in_M ft_M tok_M nm_M 0 rfl rfl 7 (by decide) fl_M_42 rfl rfl rfl (Nat.le_of_ble_eq_true rfl) (wM cA a (sU (sU (sU (sU (sU τ 0 0 0) 0 4 1) 0 3 0) 5 ((τ 0 2).toNatClampNeg) b) 0 2 (τ 0 2))) (wm_pmany cA a _ _) d_M_hear_109 (fun H locs G => ?_)
                refine lv_aload_n hx hb d_M_hear_112 rfl (lv_at hl 0 rfl) ?_
                refine g_get (v := .int (τ 0 2)) S G in_M 0 rfl rfl 7 (by decide) fl_M_42 rfl d_M_hear_113 ?_
                exact g_reti S hr hlk G ⟨by first | (simp only [mHearR, mHear, mFr, mSp, mMany, mT, eq_false c_1, eq_true c_2, eq_true c_3, eq_false c_7, eq_true c_13, eq_false c_14, eq_false c_16, i10, ↓reduceIte]; done) | (simp only [mHearR, mHear, mFr, mSp, mMany, mT, eq_false c_1, eq_true c_2, eq_true c_3, eq_false c_7, eq_true c_13, eq_false c_14, eq_false c_16, i10, ↓reduceIte]; rfl) | rfl, congrArg (wM cA a) (by first | (simp only [mHearR, mHear, mFr, mSp, mMany, mT, eq_false c_1, eq_true c_2, eq_true c_3, eq_false c_7, eq_true c_13, eq_false c_14, eq_false c_16, i10, ↓reduceIte]; done) | (simp only [mHearR, mHear, mFr, mSp, mMany, mT, eq_false c_1, eq_true c_2, eq_true c_3, eq_false c_7, eq_true c_13, eq_false c_14, eq_false c_16, i10, ↓reduceIte]; rfl) | rfl)⟩ (Nat.le_refl _) (Nat.le_refl _) d_M_hear_116
          · refine lv_aload_n hx hb d_M_hear_42 rfl (lv_at hl 0 rfl) ?_
            refine g_get (v := .int (τ 0 2)) S G in_M 0 rfl rfl 7 (by decide) fl_M_42 rfl d_M_hear_43 ?_
            refine lv_sipush (v := 256) hx hb d_M_hear_46 (by decide) ?_
            refine lv_icmp_lt (tgt := 56) hx hb d_M_hear_49 (by decide) (fun c_17 => ?_) (fun c_17 => ?_)
            · refine lv_iconst (v := 0) hx hb d_M_hear_56 (by decide) ?_
              refine g_put S G in_M ft_M tok_M nm_M 0 rfl rfl 9 (by decide) fl_M_38 rfl rfl rfl (Nat.le_of_ble_eq_true rfl) (wM cA a (sU (sU τ 0 0 0) 0 4 0)) (wm_pspoilt cA a _ _) d_M_hear_57 (fun H locs G => ?_)
              refine lv_aload_n hx hb d_M_hear_60 rfl (lv_at hl 0 rfl) ?_
              refine lv_iconst (v := 0) hx hb d_M_hear_61 (by decide) ?_
              refine g_put S G in_M ft_M tok_M nm_M 0 rfl rfl 8 (by decide) fl_M_45 rfl rfl rfl (Nat.le_of_ble_eq_true rfl) (wM cA a (sU (sU (sU τ 0 0 0) 0 4 0) 0 3 0)) (wm_pgap cA a _ _) d_M_hear_62 (fun H locs G => ?_)
              refine lv_aload_n hx hb d_M_hear_65 rfl (lv_at hl 0 rfl) ?_
              refine g_get (v := .int (τ 0 2)) S G in_M 0 rfl rfl 7 (by decide) fl_M_42 rfl d_M_hear_66 ?_
              refine lv_sipush (v := 256) hx hb d_M_hear_69 (by decide) ?_
              have k_18 : ¬ (256 ≤ (τ 0 2)) := Int32.not_le.mpr c_17
              refine lv_icmp_ge (tgt := 85) hx hb d_M_hear_72 (by decide) (fun h9 => absurd h9 k_18) (fun _ => ?_)
              refine lv_aload_n hx hb d_M_hear_75 rfl (lv_at hl 0 rfl) ?_
              refine g_get (v := .ref (a 5)) S G in_M 0 rfl rfl 6 (by decide) fl_M_22 rfl d_M_hear_76 ?_
              refine lv_aload_n hx hb d_M_hear_79 rfl (lv_at hl 0 rfl) ?_
              refine g_get (v := .int (τ 0 2)) S G in_M 0 rfl rfl 7 (by decide) fl_M_42 rfl d_M_hear_80 ?_
              refine lv_iload_n hx hb d_M_hear_83 rfl (lv_at hl 1 rfl) ?_
              refine g_iastj S G 5 0 rfl rfl ((τ 0 2).toNatClampNeg) rfl (vin_ge (n := 256) hm k_18 (by decide)) (wM cA a (sU (sU (sU (sU τ 0 0 0) 0 4 0) 0 3 0) 5 ((τ 0 2).toNatClampNeg) b)) (wm_a5 cA a _ _ _) d_M_hear_84 (fun H locs G => ?_)
              refine lv_aload_n hx hb d_M_hear_85 rfl (lv_at hl 0 rfl) ?_
              refine lv_aload_n hx hb d_M_hear_86 rfl (lv_at hl 0 rfl) ?_
              refine g_get (v := .int (τ 0 2)) S G in_M 0 rfl rfl 7 (by decide) fl_M_42 rfl d_M_hear_87 ?_
              refine lv_sipush (v := 256) hx hb d_M_hear_90 (by decide) ?_
              refine lv_icmp_le (tgt := 103) hx hb d_M_hear_93 (by decide) (fun c_19 => ?_) (fun c_19 => ?_)
              · refine lv_aload_n hx hb d_M_hear_103 rfl (lv_at hl 0 rfl) ?_
                refine g_get (v := .int (τ 0 2)) S G in_M 0 rfl rfl 7 (by decide) fl_M_42 rfl d_M_hear_104 ?_
                refine lv_iconst (v := 1) hx hb d_M_hear_107 (by decide) ?_
                refine lv_iadd hx hb d_M_hear_108 ?_
                refine g_put S G in_M ft_M tok_M nm_M 0 rfl rfl 7 (by decide) fl_M_42 rfl rfl rfl (Nat.le_of_ble_eq_true rfl) (wM cA a (sU (sU (sU (sU (sU τ 0 0 0) 0 4 0) 0 3 0) 5 ((τ 0 2).toNatClampNeg) b) 0 2 ((τ 0 2) + 1))) (wm_pmany cA a _ _) d_M_hear_109 (fun H locs G => ?_)
                refine lv_aload_n hx hb d_M_hear_112 rfl (lv_at hl 0 rfl) ?_
                refine g_get (v := .int ((τ 0 2) + 1)) S G in_M 0 rfl rfl 7 (by decide) fl_M_42 rfl d_M_hear_113 ?_
                exact g_reti S hr hlk G ⟨by first | (simp only [mHearR, mHear, mFr, mSp, mMany, mT, eq_false c_1, eq_true c_2, eq_true c_3, eq_false c_7, eq_false c_13, eq_true c_17, eq_false k_18, eq_true c_19, i10, ↓reduceIte]; done) | (simp only [mHearR, mHear, mFr, mSp, mMany, mT, eq_false c_1, eq_true c_2, eq_true c_3, eq_false c_7, eq_false c_13, eq_true c_17, eq_false k_18, eq_true c_19, i10, ↓reduceIte]; rfl) | rfl, congrArg (wM cA a) (by first | (simp only [mHearR, mHear, mFr, mSp, mMany, mT, eq_false c_1, eq_true c_2, eq_true c_3, eq_false c_7, eq_false c_13, eq_true c_17, eq_false k_18, eq_true c_19, i10, ↓reduceIte]; done) | (simp only [mHearR, mHear, mFr, mSp, mMany, mT, eq_false c_1, eq_true c_2, eq_true c_3, eq_false c_7, eq_false c_13, eq_true c_17, eq_false k_18, eq_true c_19, i10, ↓reduceIte]; rfl) | rfl)⟩ (Nat.le_refl _) (Nat.le_refl _) d_M_hear_116
              · refine lv_aload_n hx hb d_M_hear_96 rfl (lv_at hl 0 rfl) ?_
                refine g_get (v := .int (τ 0 2)) S G in_M 0 rfl rfl 7 (by decide) fl_M_42 rfl d_M_hear_97 ?_
                refine lv_goto (tgt := 109) hx hb d_M_hear_100 (by decide) ?_
                refine g_put S G in_M ft_M tok_M nm_M 0 rfl rfl 7 (by decide) fl_M_42 rfl rfl rfl (Nat.le_of_ble_eq_true rfl) (wM cA a (sU (sU (sU (sU (sU τ 0 0 0) 0 4 0) 0 3 0) 5 ((τ 0 2).toNatClampNeg) b) 0 2 (τ 0 2))) (wm_pmany cA a _ _) d_M_hear_109 (fun H locs G => ?_)
                refine lv_aload_n hx hb d_M_hear_112 rfl (lv_at hl 0 rfl) ?_
                refine g_get (v := .int (τ 0 2)) S G in_M 0 rfl rfl 7 (by decide) fl_M_42 rfl d_M_hear_113 ?_
                exact g_reti S hr hlk G ⟨by first | (simp only [mHearR, mHear, mFr, mSp, mMany, mT, eq_false c_1, eq_true c_2, eq_true c_3, eq_false c_7, eq_false c_13, eq_true c_17, eq_false k_18, eq_false c_19, i10, ↓reduceIte]; done) | (simp only [mHearR, mHear, mFr, mSp, mMany, mT, eq_false c_1, eq_true c_2, eq_true c_3, eq_false c_7, eq_false c_13, eq_true c_17, eq_false k_18, eq_false c_19, i10, ↓reduceIte]; rfl) | rfl, congrArg (wM cA a) (by first | (simp only [mHearR, mHear, mFr, mSp, mMany, mT, eq_false c_1, eq_true c_2, eq_true c_3, eq_false c_7, eq_false c_13, eq_true c_17, eq_false k_18, eq_false c_19, i10, ↓reduceIte]; done) | (simp only [mHearR, mHear, mFr, mSp, mMany, mT, eq_false c_1, eq_true c_2, eq_true c_3, eq_false c_7, eq_false c_13, eq_true c_17, eq_false k_18, eq_false c_19, i10, ↓reduceIte]; rfl) | rfl)⟩ (Nat.le_refl _) (Nat.le_refl _) d_M_hear_116
            · refine lv_iconst (v := 1) hx hb d_M_hear_52 (by decide) ?_
              refine lv_goto (tgt := 57) hx hb d_M_hear_53 (by decide) ?_
              refine g_put S G in_M ft_M tok_M nm_M 0 rfl rfl 9 (by decide) fl_M_38 rfl rfl rfl (Nat.le_of_ble_eq_true rfl) (wM cA a (sU (sU τ 0 0 0) 0 4 1)) (wm_pspoilt cA a _ _) d_M_hear_57 (fun H locs G => ?_)
              refine lv_aload_n hx hb d_M_hear_60 rfl (lv_at hl 0 rfl) ?_
              refine lv_iconst (v := 0) hx hb d_M_hear_61 (by decide) ?_
              refine g_put S G in_M ft_M tok_M nm_M 0 rfl rfl 8 (by decide) fl_M_45 rfl rfl rfl (Nat.le_of_ble_eq_true rfl) (wM cA a (sU (sU (sU τ 0 0 0) 0 4 1) 0 3 0)) (wm_pgap cA a _ _) d_M_hear_62 (fun H locs G => ?_)
              refine lv_aload_n hx hb d_M_hear_65 rfl (lv_at hl 0 rfl) ?_
              refine g_get (v := .int (τ 0 2)) S G in_M 0 rfl rfl 7 (by decide) fl_M_42 rfl d_M_hear_66 ?_
              refine lv_sipush (v := 256) hx hb d_M_hear_69 (by decide) ?_
              have k_20 : 256 ≤ (τ 0 2) := Int32.not_lt.mp c_17
              refine lv_icmp_ge (tgt := 85) hx hb d_M_hear_72 (by decide) (fun _ => ?_) (fun h9 => absurd k_20 h9)
              refine lv_aload_n hx hb d_M_hear_85 rfl (lv_at hl 0 rfl) ?_
              refine lv_aload_n hx hb d_M_hear_86 rfl (lv_at hl 0 rfl) ?_
              refine g_get (v := .int (τ 0 2)) S G in_M 0 rfl rfl 7 (by decide) fl_M_42 rfl d_M_hear_87 ?_
              refine lv_sipush (v := 256) hx hb d_M_hear_90 (by decide) ?_
              refine lv_icmp_le (tgt := 103) hx hb d_M_hear_93 (by decide) (fun c_21 => ?_) (fun c_21 => ?_)
              · refine lv_aload_n hx hb d_M_hear_103 rfl (lv_at hl 0 rfl) ?_
                refine g_get (v := .int (τ 0 2)) S G in_M 0 rfl rfl 7 (by decide) fl_M_42 rfl d_M_hear_104 ?_
                refine lv_iconst (v := 1) hx hb d_M_hear_107 (by decide) ?_
                refine lv_iadd hx hb d_M_hear_108 ?_
                refine g_put S G in_M ft_M tok_M nm_M 0 rfl rfl 7 (by decide) fl_M_42 rfl rfl rfl (Nat.le_of_ble_eq_true rfl) (wM cA a (sU (sU (sU (sU τ 0 0 0) 0 4 1) 0 3 0) 0 2 ((τ 0 2) + 1))) (wm_pmany cA a _ _) d_M_hear_109 (fun H locs G => ?_)
                refine lv_aload_n hx hb d_M_hear_112 rfl (lv_at hl 0 rfl) ?_
                refine g_get (v := .int ((τ 0 2) + 1)) S G in_M 0 rfl rfl 7 (by decide) fl_M_42 rfl d_M_hear_113 ?_
                exact g_reti S hr hlk G ⟨by first | (simp only [mHearR, mHear, mFr, mSp, mMany, mT, eq_false c_1, eq_true c_2, eq_true c_3, eq_false c_7, eq_false c_13, eq_false c_17, eq_true k_20, eq_true c_21, i10, ↓reduceIte]; done) | (simp only [mHearR, mHear, mFr, mSp, mMany, mT, eq_false c_1, eq_true c_2, eq_true c_3, eq_false c_7, eq_false c_13, eq_false c_17, eq_true k_20, eq_true c_21, i10, ↓reduceIte]; rfl) | rfl, congrArg (wM cA a) (by first | (simp only [mHearR, mHear, mFr, mSp, mMany, mT, eq_false c_1, eq_true c_2, eq_true c_3, eq_false c_7, eq_false c_13, eq_false c_17, eq_true k_20, eq_true c_21, i10, ↓reduceIte]; done) | (simp only [mHearR, mHear, mFr, mSp, mMany, mT, eq_false c_1, eq_true c_2, eq_true c_3, eq_false c_7, eq_false c_13, eq_false c_17, eq_true k_20, eq_true c_21, i10, ↓reduceIte]; rfl) | rfl)⟩ (Nat.le_refl _) (Nat.le_refl _) d_M_hear_116
              · refine lv_aload_n hx hb d_M_hear_96 rfl (lv_at hl 0 rfl) ?_
                refine g_get (v := .int (τ 0 2)) S G in_M 0 rfl rfl 7 (by decide) fl_M_42 rfl d_M_hear_97 ?_
                refine lv_goto (tgt := 109) hx hb d_M_hear_100 (by decide) ?_
                refine g_put S G in_M ft_M tok_M nm_M 0 rfl rfl 7 (by decide) fl_M_42 rfl rfl rfl (Nat.le_of_ble_eq_true rfl) (wM cA a (sU (sU (sU (sU τ 0 0 0) 0 4 1) 0 3 0) 0 2 (τ 0 2))) (wm_pmany cA a _ _) d_M_hear_109 (fun H locs G => ?_)
                refine lv_aload_n hx hb d_M_hear_112 rfl (lv_at hl 0 rfl) ?_
                refine g_get (v := .int (τ 0 2)) S G in_M 0 rfl rfl 7 (by decide) fl_M_42 rfl d_M_hear_113 ?_
                exact g_reti S hr hlk G ⟨by first | (simp only [mHearR, mHear, mFr, mSp, mMany, mT, eq_false c_1, eq_true c_2, eq_true c_3, eq_false c_7, eq_false c_13, eq_false c_17, eq_true k_20, eq_false c_21, i10, ↓reduceIte]; done) | (simp only [mHearR, mHear, mFr, mSp, mMany, mT, eq_false c_1, eq_true c_2, eq_true c_3, eq_false c_7, eq_false c_13, eq_false c_17, eq_true k_20, eq_false c_21, i10, ↓reduceIte]; rfl) | rfl, congrArg (wM cA a) (by first | (simp only [mHearR, mHear, mFr, mSp, mMany, mT, eq_false c_1, eq_true c_2, eq_true c_3, eq_false c_7, eq_false c_13, eq_false c_17, eq_true k_20, eq_false c_21, i10, ↓reduceIte]; done) | (simp only [mHearR, mHear, mFr, mSp, mMany, mT, eq_false c_1, eq_true c_2, eq_true c_3, eq_false c_7, eq_false c_13, eq_false c_17, eq_true k_20, eq_false c_21, i10, ↓reduceIte]; rfl) | rfl)⟩ (Nat.le_refl _) (Nat.le_refl _) d_M_hear_116
    · refine lv_iconst (v := (-1)) hx hb d_M_hear_16 (by decide) ?_
      exact g_reti S hr hlk G ⟨by first | (simp only [mHearR, mHear, mFr, mSp, mMany, mT, eq_false c_1, eq_false c_2, i10, ↓reduceIte]; done) | (simp only [mHearR, mHear, mFr, mSp, mMany, mT, eq_false c_1, eq_false c_2, i10, ↓reduceIte]; rfl) | rfl, congrArg (wM cA a) (by first | (simp only [mHearR, mHear, mFr, mSp, mMany, mT, eq_false c_1, eq_false c_2, i10, ↓reduceIte]; done) | (simp only [mHearR, mHear, mFr, mSp, mMany, mT, eq_false c_1, eq_false c_2, i10, ↓reduceIte]; rfl) | rfl)⟩ (Nat.le_refl _) (Nat.le_refl _) d_M_hear_17

abbrev rm_M_listen : Room := { frames := 1, cells := 0, slots := 0, locals := 21 }
set_option maxHeartbeats 1000000 in
set_option maxRecDepth 100000 in
theorem c_M_listen (l : Launch) (D : va_G) (cA : ClassId) (a : Nat → Nat) (τ : St) (k0 : Int32) (v : Int64) (hm : ¬ τ 0 2 < 0) : Ci l y_M_listen w_M_listen rm_M_listen D vwCl [(cA, .int)] [.ref (a 0), .int k0, .long v] (wM cA a τ) 0 0 (fun r0 w0 => r0 = mLisR τ k0 v ∧ w0 = wM cA a (mLis τ k0 v)) := by
  refine Ci.of (Ts := lw_g) (own := "WireSlaveModel") (cc := b_M_listen) (maxL := 6) (ret := (some .int)) (lv := [(0, .ref (a 0)), (1, .int k0), (2, .long v)]) (by decide) rfl rfl (fun w h => List.mem_cons_of_mem _ h) (Nat.le_of_ble_eq_true rfl) rfl ?_
  intro pp ee ss mm args below meth cx AA S hr hlk G ls hl
  have hx := S.1
  have hb := S.2.1
  refine lv_aload_n hx hb d_M_listen_0 rfl (lv_at hl 0 rfl) ?_
  refine lv_iconst (v := 0) hx hb d_M_listen_1 (by decide) ?_
  refine g_put S G in_M ft_M tok_M nm_M 0 rfl rfl 0 (by decide) fl_M_35 rfl rfl rfl (Nat.le_of_ble_eq_true rfl) (wM cA a (sU τ 0 0 0)) (wm_pthrown cA a _ _) d_M_listen_2 (fun H locs G => ?_)
  refine lv_iload_n hx hb d_M_listen_5 rfl (lv_at hl 1 rfl) ?_
  refine lv_iconst (v := 1) hx hb d_M_listen_6 (by decide) ?_
  refine lv_icmp_lt (tgt := 16) hx hb d_M_listen_7 (by decide) (fun c_1 => ?_) (fun c_1 => ?_)
  · refine lv_iconst (v := (-1)) hx hb d_M_listen_16 (by decide) ?_
    exact g_reti S hr hlk G ⟨by first | (simp only [mLisR, mLis, mT, eq_true c_1, i10, ↓reduceIte]; done) | (simp only [mLisR, mLis, mT, eq_true c_1, i10, ↓reduceIte]; rfl) | rfl, congrArg (wM cA a) (by first | (simp only [mLisR, mLis, mT, eq_true c_1, i10, ↓reduceIte]; done) | (simp only [mLisR, mLis, mT, eq_true c_1, i10, ↓reduceIte]; rfl) | rfl)⟩ (Nat.le_refl _) (Nat.le_refl _) d_M_listen_17
  · refine lv_iload_n hx hb d_M_listen_10 rfl (lv_at hl 1 rfl) ?_
    refine lv_bipush (v := 8) hx hb d_M_listen_11 (by decide) ?_
    refine lv_icmp_le (tgt := 18) hx hb d_M_listen_13 (by decide) (fun c_2 => ?_) (fun c_2 => ?_)
    · refine lv_iconst (v := 0) hx hb d_M_listen_18 (by decide) ?_
      refine lv_istore (lv' := [(4, .int 0), (0, .ref (a 0)), (1, .int k0), (2, .long v)]) hx hb d_M_listen_19 hl (by decide) rfl (fun ls hl => ?_)
      refine lv_iload_n hx hb d_M_listen_21 rfl (lv_at hl 2 rfl) ?_
      refine lv_iconst (v := 1) hx hb d_M_listen_22 (by decide) ?_
      refine lv_isub hx hb d_M_listen_23 ?_
      refine lv_istore (lv' := [(5, .int (k0 - 1)), (4, .int 0), (0, .ref (a 0)), (1, .int k0), (2, .long v)]) hx hb d_M_listen_24 hl (by decide) rfl (fun ls hl => ?_)
      have lp : ∀ (n : Nat) (x y : Int32) (ρ : St) (H : Heap) (locs : List Loc) (ls : Array Slot), (x = nI n - 1) → (n ≤ 8) → (¬ ρ 0 2 < 0) → (mLisL v n ρ = mLisL v k0.toNatClampNeg (mT τ)) → (mLisY v n ρ y = mLisY v k0.toNatClampNeg (mT τ) 0) → Gw D vwCl [(cA, .int)] AA ss ss.heap H locs (wM cA a (ρ)) → lv_has ls 6 [(0, .ref (a 0)), (1, .int k0), (2, .long v), (4, .int y), (5, .int x)] → W pp l ee rm_M_listen ss mm args below meth cx H locs 0 0 (Zi D vwCl [(cA, .int)] AA ss args below 0 0 (fun r0 w0 => r0 = mLisR τ k0 v ∧ w0 = wM cA a (mLis τ k0 v))) (F0 mm 26 ls []) := by
        intro n
        induction n with
        | zero =>
          intro x y ρ H locs ls hxn hn8 hρ hF hY G hl
          refine lv_iload hx hb d_M_listen_26 (lv_at hl 4 rfl) ?_
          have k_3 : x < 0 := by rw [hxn]; decide
          refine lv_if_lt (tgt := 55) hx hb d_M_listen_28 (by decide) (fun _ => ?_) (fun h9 => absurd k_3 h9)
          refine lv_iload hx hb d_M_listen_55 (lv_at hl 3 rfl) ?_
          exact g_reti S hr hlk G ⟨by simp only [mLisR, eq_false c_1, eq_true c_2, ↓reduceIte]; exact hY, by simp only [mLis, eq_false c_1, eq_true c_2, ↓reduceIte]; exact congrArg (wM cA a) hF⟩ (Nat.le_refl _) (Nat.le_refl _) d_M_listen_57
        | succ n ih =>
          intro x y ρ H locs ls hxn hn8 hρ hF hY G hl
          rw [nI_pred n] at hxn
          subst hxn
          refine lv_iload hx hb d_M_listen_26 (lv_at hl 4 rfl) ?_
          have k_4 : ¬ ((nI n) < 0) := nI_pos (by omega)
          refine lv_if_lt (tgt := 55) hx hb d_M_listen_28 (by decide) (fun h9 => absurd h9 k_4) (fun _ => ?_)
          refine lv_aload_n hx hb d_M_listen_31 rfl (lv_at hl 0 rfl) ?_
          refine lv_lload_n hx hb d_M_listen_32 rfl (lv_at hl 2 rfl) ?_
          refine lv_bipush (v := 8) hx hb d_M_listen_33 (by decide) ?_
          refine lv_iload hx hb d_M_listen_35 (lv_at hl 4 rfl) ?_
          refine lv_imul hx hb d_M_listen_37 ?_
          refine lv_lshr (v := lshr v (8 * (nI n))) hx hb d_M_listen_38 rfl ?_
          refine lv_ldc2 (v := 255) hx hb S.2.2.2.1 (S.2.2.2.2 _ kn_M_48) d_M_listen_39 ?_
          refine lv_land hx hb d_M_listen_42 ?_
          refine lv_l2i (v := ((lshr v (8 * (nI n))) &&& 255).toInt32) hx hb d_M_listen_43 rfl ?_
          refine g_cVi (rest := []) S G (c_M_hear l D cA a (ρ) (((lshr v (8 * (nI n))) &&& 255).toInt32) hρ) (cwV 1 S.2.2.2.2 ml_M_50 rfl rfl rfl (by decide +kernel) ⟨Nat.le_of_ble_eq_true rfl, Nat.le_of_ble_eq_true rfl⟩) [0, 1, 2, 3, 4, 5, 6, 7] [] rfl rfl rfl rfl (by decide) 0 rfl rfl rfl hl.1 rfl (Nat.le_of_ble_eq_true rfl) d_M_listen_44 ⟨Nat.le_of_ble_eq_true rfl, Nat.le_of_ble_eq_true rfl⟩ (fun rp_5 wp_5 H locs hp_5 G => ?_)
          obtain ⟨ep_5, rfl⟩ := hp_5
          replace ep_5 := ep_5.symm
          subst ep_5
          have G : Gw D vwCl [(cA, .int)] AA ss ss.heap H locs (wM cA a (mHear (ρ) (((lshr v (8 * (nI n))) &&& 255).toInt32))) := G
          refine lv_istore (lv' := [(4, .int (mHearR (ρ) (((lshr v (8 * (nI n))) &&& 255).toInt32))), (0, .ref (a 0)), (1, .int k0), (2, .long v), (5, .int (nI n))]) hx hb d_M_listen_47 hl (by decide) rfl (fun ls hl => ?_)
          refine lv_iinc (v := (nI n) + (-1)) (lv' := [(5, .int ((nI n) + (-1))), (4, .int (mHearR (ρ) (((lshr v (8 * (nI n))) &&& 255).toInt32))), (0, .ref (a 0)), (1, .int k0), (2, .long v)]) hx hb d_M_listen_49 hl (k := 4) rfl rfl (by decide) rfl (fun ls hl => ?_)
          refine lv_goto (tgt := 26) hx hb d_M_listen_52 (by decide) ?_
          exact ih _ _ _ H locs ls (m1_ _) (by omega) (mHear_nn hρ _) hF hY G (lv_sub hl [2, 3, 4, 1, 0] rfl)
      exact lp k0.toNatClampNeg (k0 - 1) 0 (mT τ) _ _ ls (by rw [← nI_self (pos_of1 c_1)]) (clamp_le (n := 8) c_2 (by decide)) hm rfl rfl G (lv_sub hl [2, 3, 4, 1, 0] rfl)
    · refine lv_iconst (v := (-1)) hx hb d_M_listen_16 (by decide) ?_
      exact g_reti S hr hlk G ⟨by first | (simp only [mLisR, mLis, mT, eq_false c_1, eq_false c_2, i10, ↓reduceIte]; done) | (simp only [mLisR, mLis, mT, eq_false c_1, eq_false c_2, i10, ↓reduceIte]; rfl) | rfl, congrArg (wM cA a) (by first | (simp only [mLisR, mLis, mT, eq_false c_1, eq_false c_2, i10, ↓reduceIte]; done) | (simp only [mLisR, mLis, mT, eq_false c_1, eq_false c_2, i10, ↓reduceIte]; rfl) | rfl)⟩ (Nat.le_refl _) (Nat.le_refl _) d_M_listen_17

abbrev rm_M_sum : Room := { frames := 1, cells := 0, slots := 0, locals := 24 }
set_option maxHeartbeats 1000000 in
set_option maxRecDepth 100000 in
theorem c_M_sum (l : Launch) (D : va_G) (cA : ClassId) (a : Nat → Nat) (τ : St) (k0 : Int32) (v : Int64)  : Ci l y_M_sum w_M_sum rm_M_sum D vwCl [(cA, .int)] [.ref (a 0), .int k0, .long v] (wM cA a τ) 0 0 (fun r0 w0 => r0 = mSumR k0 v ∧ w0 = wM cA a (mT τ)) := by
  refine Ci.of (Ts := lw_g) (own := "WireSlaveModel") (cc := b_M_sum) (maxL := 6) (ret := (some .int)) (lv := [(0, .ref (a 0)), (1, .int k0), (2, .long v)]) (by decide) rfl rfl (fun w h => List.mem_cons_of_mem _ h) (Nat.le_of_ble_eq_true rfl) rfl ?_
  intro pp ee ss mm args below meth cx AA S hr hlk G ls hl
  have hx := S.1
  have hb := S.2.1
  refine lv_aload_n hx hb d_M_sum_0 rfl (lv_at hl 0 rfl) ?_
  refine lv_iconst (v := 0) hx hb d_M_sum_1 (by decide) ?_
  refine g_put S G in_M ft_M tok_M nm_M 0 rfl rfl 0 (by decide) fl_M_35 rfl rfl rfl (Nat.le_of_ble_eq_true rfl) (wM cA a (sU τ 0 0 0)) (wm_pthrown cA a _ _) d_M_sum_2 (fun H locs G => ?_)
  refine lv_iload_n hx hb d_M_sum_5 rfl (lv_at hl 1 rfl) ?_
  refine lv_if_lt (tgt := 15) hx hb d_M_sum_6 (by decide) (fun c_1 => ?_) (fun c_1 => ?_)
  · refine lv_iconst (v := (-1)) hx hb d_M_sum_15 (by decide) ?_
    exact g_reti S hr hlk G ⟨by first | (simp only [mSumR, mT, eq_true c_1, i10, ↓reduceIte]; done) | (simp only [mSumR, mT, eq_true c_1, i10, ↓reduceIte]; rfl) | rfl, congrArg (wM cA a) (by first | (simp only [mSumR, mT, eq_true c_1, i10, ↓reduceIte]; done) | (simp only [mSumR, mT, eq_true c_1, i10, ↓reduceIte]; rfl) | rfl)⟩ (Nat.le_refl _) (Nat.le_refl _) d_M_sum_16
  · refine lv_iload_n hx hb d_M_sum_9 rfl (lv_at hl 1 rfl) ?_
    refine lv_bipush (v := 8) hx hb d_M_sum_10 (by decide) ?_
    refine lv_icmp_le (tgt := 17) hx hb d_M_sum_12 (by decide) (fun c_2 => ?_) (fun c_2 => ?_)
    · refine lv_ldc (v := 65535) hx hb S.2.2.2.1 (S.2.2.2.2 _ kn_M_59) d_M_sum_17 ?_
      refine lv_istore (lv' := [(4, .int 65535), (0, .ref (a 0)), (1, .int k0), (2, .long v)]) hx hb d_M_sum_19 hl (by decide) rfl (fun ls hl => ?_)
      refine lv_iload_n hx hb d_M_sum_21 rfl (lv_at hl 2 rfl) ?_
      refine lv_iconst (v := 1) hx hb d_M_sum_22 (by decide) ?_
      refine lv_isub hx hb d_M_sum_23 ?_
      refine lv_istore (lv' := [(5, .int (k0 - 1)), (4, .int 65535), (0, .ref (a 0)), (1, .int k0), (2, .long v)]) hx hb d_M_sum_24 hl (by decide) rfl (fun ls hl => ?_)
      have lp : ∀ (n : Nat) (x y : Int32) (H : Heap) (locs : List Loc) (ls : Array Slot), (x = nI n - 1) → (n ≤ 8) → (mSumL v n y = mSumL v k0.toNatClampNeg 65535) → Gw D vwCl [(cA, .int)] AA ss ss.heap H locs (wM cA a (sU τ 0 0 0)) → lv_has ls 6 [(0, .ref (a 0)), (1, .int k0), (2, .long v), (4, .int y), (5, .int x)] → W pp l ee rm_M_sum ss mm args below meth cx H locs 0 0 (Zi D vwCl [(cA, .int)] AA ss args below 0 0 (fun r0 w0 => r0 = mSumR k0 v ∧ w0 = wM cA a (mT τ))) (F0 mm 26 ls []) := by
        intro n
        induction n with
        | zero =>
          intro x y H locs ls hxn hn8 hF G hl
          refine lv_iload hx hb d_M_sum_26 (lv_at hl 4 rfl) ?_
          have k_3 : x < 0 := by rw [hxn]; decide
          refine lv_if_lt (tgt := 57) hx hb d_M_sum_28 (by decide) (fun _ => ?_) (fun h9 => absurd k_3 h9)
          refine lv_iload hx hb d_M_sum_57 (lv_at hl 3 rfl) ?_
          exact g_reti S hr hlk G ⟨by simp only [mSumR, eq_false c_1, eq_true c_2, ↓reduceIte]; exact hF, rfl⟩ (Nat.le_refl _) (Nat.le_refl _) d_M_sum_59
        | succ n ih =>
          intro x y H locs ls hxn hn8 hF G hl
          rw [nI_pred n] at hxn
          subst hxn
          refine lv_iload hx hb d_M_sum_26 (lv_at hl 4 rfl) ?_
          have k_4 : ¬ ((nI n) < 0) := nI_pos (by omega)
          refine lv_if_lt (tgt := 57) hx hb d_M_sum_28 (by decide) (fun h9 => absurd h9 k_4) (fun _ => ?_)
          refine lv_aload_n hx hb d_M_sum_31 rfl (lv_at hl 0 rfl) ?_
          refine lv_iload hx hb d_M_sum_32 (lv_at hl 3 rfl) ?_
          refine lv_lload_n hx hb d_M_sum_34 rfl (lv_at hl 2 rfl) ?_
          refine lv_bipush (v := 8) hx hb d_M_sum_35 (by decide) ?_
          refine lv_iload hx hb d_M_sum_37 (lv_at hl 4 rfl) ?_
          refine lv_imul hx hb d_M_sum_39 ?_
          refine lv_lshr (v := lshr v (8 * (nI n))) hx hb d_M_sum_40 rfl ?_
          refine lv_ldc2 (v := 255) hx hb S.2.2.2.1 (S.2.2.2.2 _ kn_M_48) d_M_sum_41 ?_
          refine lv_land hx hb d_M_sum_44 ?_
          refine lv_l2i (v := ((lshr v (8 * (nI n))) &&& 255).toInt32) hx hb d_M_sum_45 rfl ?_
          refine g_cVi (rest := []) S G (c_M_with l D cA a (sU τ 0 0 0) y (((lshr v (8 * (nI n))) &&& 255).toInt32)) (cwV 2 S.2.2.2.2 ml_M_60 rfl rfl rfl (by decide +kernel) ⟨Nat.le_of_ble_eq_true rfl, Nat.le_of_ble_eq_true rfl⟩) [0, 1, 2, 3, 4, 5, 6, 7] [] rfl rfl rfl rfl (by decide) 0 rfl rfl rfl hl.1 rfl (Nat.le_of_ble_eq_true rfl) d_M_sum_46 ⟨Nat.le_of_ble_eq_true rfl, Nat.le_of_ble_eq_true rfl⟩ (fun rp_5 wp_5 H locs hp_5 G => ?_)
          obtain ⟨ep_5, rfl⟩ := hp_5
          replace ep_5 := ep_5.symm
          subst ep_5
          have G : Gw D vwCl [(cA, .int)] AA ss ss.heap H locs (wM cA a (sU τ 0 0 0)) := G
          refine lv_istore (lv' := [(4, .int (mWith y (((lshr v (8 * (nI n))) &&& 255).toInt32))), (0, .ref (a 0)), (1, .int k0), (2, .long v), (5, .int (nI n))]) hx hb d_M_sum_49 hl (by decide) rfl (fun ls hl => ?_)
          refine lv_iinc (v := (nI n) + (-1)) (lv' := [(5, .int ((nI n) + (-1))), (4, .int (mWith y (((lshr v (8 * (nI n))) &&& 255).toInt32))), (0, .ref (a 0)), (1, .int k0), (2, .long v)]) hx hb d_M_sum_51 hl (k := 4) rfl rfl (by decide) rfl (fun ls hl => ?_)
          refine lv_goto (tgt := 26) hx hb d_M_sum_54 (by decide) ?_
          exact ih _ _ H locs ls (m1_ _) (by omega) hF G (lv_sub hl [2, 3, 4, 1, 0] rfl)
      exact lp k0.toNatClampNeg (k0 - 1) 65535 _ _ ls (by rw [← nI_self c_1]) (clamp_le (n := 8) c_2 (by decide)) rfl G (lv_sub hl [2, 3, 4, 1, 0] rfl)
    · refine lv_iconst (v := (-1)) hx hb d_M_sum_15 (by decide) ?_
      exact g_reti S hr hlk G ⟨by first | (simp only [mSumR, mT, eq_false c_1, eq_false c_2, i10, ↓reduceIte]; done) | (simp only [mSumR, mT, eq_false c_1, eq_false c_2, i10, ↓reduceIte]; rfl) | rfl, congrArg (wM cA a) (by first | (simp only [mSumR, mT, eq_false c_1, eq_false c_2, i10, ↓reduceIte]; done) | (simp only [mSumR, mT, eq_false c_1, eq_false c_2, i10, ↓reduceIte]; rfl) | rfl)⟩ (Nat.le_refl _) (Nat.le_refl _) d_M_sum_16

abbrev rm_M_reply : Room := { frames := 0, cells := 0, slots := 0, locals := 0 }
set_option maxHeartbeats 1000000 in
set_option maxRecDepth 100000 in
theorem c_M_reply (l : Launch) (D : va_G) (cA : ClassId) (a : Nat → Nat) (τ : St) (i : Int32) (hz : i < τ 0 5 → ¬ i < 0 → vp_in i 300) : Ci l y_M_reply w_M_reply rm_M_reply D vwCl [(cA, .int)] [.ref (a 0), .int i] (wM cA a τ) 0 0 (fun r0 w0 => r0 = mReply τ i ∧ w0 = wM cA a (mT τ)) := by
  refine Ci.of (Ts := lw_g) (own := "WireSlaveModel") (cc := b_M_reply) (maxL := 2) (ret := (some .int)) (lv := [(0, .ref (a 0)), (1, .int i)]) (by decide) rfl rfl (fun w h => List.mem_cons_of_mem _ h) (Nat.le_of_ble_eq_true rfl) rfl ?_
  intro pp ee ss mm args below meth cx AA S hr hlk G ls hl
  have hx := S.1
  have hb := S.2.1
  refine lv_aload_n hx hb d_M_reply_0 rfl (lv_at hl 0 rfl) ?_
  refine lv_iconst (v := 0) hx hb d_M_reply_1 (by decide) ?_
  refine g_put S G in_M ft_M tok_M nm_M 0 rfl rfl 0 (by decide) fl_M_35 rfl rfl rfl (Nat.le_of_ble_eq_true rfl) (wM cA a (sU τ 0 0 0)) (wm_pthrown cA a _ _) d_M_reply_2 (fun H locs G => ?_)
  refine lv_iload_n hx hb d_M_reply_5 rfl (lv_at hl 1 rfl) ?_
  refine lv_if_lt (tgt := 17) hx hb d_M_reply_6 (by decide) (fun c_1 => ?_) (fun c_1 => ?_)
  · refine lv_iconst (v := (-1)) hx hb d_M_reply_17 (by decide) ?_
    refine lv_goto (tgt := 27) hx hb d_M_reply_18 (by decide) ?_
    exact g_reti S hr hlk G ⟨by first | (simp only [mReply, mT, eq_true c_1, i10, ↓reduceIte]; done) | (simp only [mReply, mT, eq_true c_1, i10, ↓reduceIte]; rfl) | rfl, congrArg (wM cA a) (by first | (simp only [mReply, mT, eq_true c_1, i10, ↓reduceIte]; done) | (simp only [mReply, mT, eq_true c_1, i10, ↓reduceIte]; rfl) | rfl)⟩ (Nat.le_refl _) (Nat.le_refl _) d_M_reply_27
  · refine lv_iload_n hx hb d_M_reply_9 rfl (lv_at hl 1 rfl) ?_
    refine lv_aload_n hx hb d_M_reply_10 rfl (lv_at hl 0 rfl) ?_
    refine g_get (v := .int (τ 0 5)) S G in_M 0 rfl rfl 11 (by decide) fl_M_67 rfl d_M_reply_11 ?_
    refine lv_icmp_lt (tgt := 21) hx hb d_M_reply_14 (by decide) (fun c_2 => ?_) (fun c_2 => ?_)
    · refine lv_aload_n hx hb d_M_reply_21 rfl (lv_at hl 0 rfl) ?_
      refine g_get (v := .ref (a 6)) S G in_M 0 rfl rfl 10 (by decide) fl_M_25 rfl d_M_reply_22 ?_
      refine lv_iload_n hx hb d_M_reply_25 rfl (lv_at hl 1 rfl) ?_
      refine g_ialdj S G 6 0 (τ 6) rfl rfl i.toNatClampNeg rfl (hz c_2 c_1) d_M_reply_26 ?_
      exact g_reti S hr hlk G ⟨by first | (simp only [mReply, mT, eq_false c_1, eq_true c_2, i10, ↓reduceIte]; done) | (simp only [mReply, mT, eq_false c_1, eq_true c_2, i10, ↓reduceIte]; rfl) | rfl, congrArg (wM cA a) (by first | (simp only [mReply, mT, eq_false c_1, eq_true c_2, i10, ↓reduceIte]; done) | (simp only [mReply, mT, eq_false c_1, eq_true c_2, i10, ↓reduceIte]; rfl) | rfl)⟩ (Nat.le_refl _) (Nat.le_refl _) d_M_reply_27
    · refine lv_iconst (v := (-1)) hx hb d_M_reply_17 (by decide) ?_
      refine lv_goto (tgt := 27) hx hb d_M_reply_18 (by decide) ?_
      exact g_reti S hr hlk G ⟨by first | (simp only [mReply, mT, eq_false c_1, eq_false c_2, i10, ↓reduceIte]; done) | (simp only [mReply, mT, eq_false c_1, eq_false c_2, i10, ↓reduceIte]; rfl) | rfl, congrArg (wM cA a) (by first | (simp only [mReply, mT, eq_false c_1, eq_false c_2, i10, ↓reduceIte]; done) | (simp only [mReply, mT, eq_false c_1, eq_false c_2, i10, ↓reduceIte]; rfl) | rfl)⟩ (Nat.le_refl _) (Nat.le_refl _) d_M_reply_27

abbrev rm_M_count : Room := { frames := 0, cells := 0, slots := 0, locals := 0 }
set_option maxHeartbeats 1000000 in
set_option maxRecDepth 100000 in
theorem c_M_count (l : Launch) (D : va_G) (cA : ClassId) (a : Nat → Nat) (τ : St) (x : Int32)  : Ci l y_M_count w_M_count rm_M_count D vwCl [(cA, .int)] [.ref (a 0), .int x] (wM cA a τ) 0 0 (fun r0 w0 => r0 = mCount τ x ∧ w0 = wM cA a (mT τ)) := by
  refine Ci.of (Ts := lw_g) (own := "WireSlaveModel") (cc := b_M_count) (maxL := 2) (ret := (some .int)) (lv := [(0, .ref (a 0)), (1, .int x)]) (by decide) rfl rfl (fun w h => List.mem_cons_of_mem _ h) (Nat.le_of_ble_eq_true rfl) rfl ?_
  intro pp ee ss mm args below meth cx AA S hr hlk G ls hl
  have hx := S.1
  have hb := S.2.1
  refine lv_aload_n hx hb d_M_count_0 rfl (lv_at hl 0 rfl) ?_
  refine lv_iconst (v := 0) hx hb d_M_count_1 (by decide) ?_
  refine g_put S G in_M ft_M tok_M nm_M 0 rfl rfl 0 (by decide) fl_M_35 rfl rfl rfl (Nat.le_of_ble_eq_true rfl) (wM cA a (sU τ 0 0 0)) (wm_pthrown cA a _ _) d_M_count_2 (fun H locs G => ?_)
  refine lv_iload_n hx hb d_M_count_5 rfl (lv_at hl 1 rfl) ?_
  refine lv_if_lt (tgt := 14) hx hb d_M_count_6 (by decide) (fun c_1 => ?_) (fun c_1 => ?_)
  · refine lv_iconst (v := (-1)) hx hb d_M_count_14 (by decide) ?_
    refine lv_goto (tgt := 24) hx hb d_M_count_15 (by decide) ?_
    exact g_reti S hr hlk G ⟨by first | (simp only [mCount, mT, eq_true c_1, i10, ↓reduceIte]; done) | (simp only [mCount, mT, eq_true c_1, i10, ↓reduceIte]; rfl) | rfl, congrArg (wM cA a) (by first | (simp only [mCount, mT, eq_true c_1, i10, ↓reduceIte]; done) | (simp only [mCount, mT, eq_true c_1, i10, ↓reduceIte]; rfl) | rfl)⟩ (Nat.le_refl _) (Nat.le_refl _) d_M_count_24
  · refine lv_iload_n hx hb d_M_count_9 rfl (lv_at hl 1 rfl) ?_
    refine lv_iconst (v := 5) hx hb d_M_count_10 (by decide) ?_
    refine lv_icmp_le (tgt := 18) hx hb d_M_count_11 (by decide) (fun c_2 => ?_) (fun c_2 => ?_)
    · refine lv_aload_n hx hb d_M_count_18 rfl (lv_at hl 0 rfl) ?_
      refine g_get (v := .ref (a 7)) S G in_M 0 rfl rfl 12 (by decide) fl_M_28 rfl d_M_count_19 ?_
      refine lv_iload_n hx hb d_M_count_22 rfl (lv_at hl 1 rfl) ?_
      refine g_ialdj S G 7 0 ((sU τ 0 0 0) 7) rfl rfl x.toNatClampNeg rfl (vin_le5 c_1 c_2) d_M_count_23 ?_
      exact g_reti S hr hlk G ⟨by first | (simp only [mCount, mT, eq_false c_1, eq_true c_2, i10, ↓reduceIte]; done) | (simp only [mCount, mT, eq_false c_1, eq_true c_2, i10, ↓reduceIte]; rfl) | rfl, congrArg (wM cA a) (by first | (simp only [mCount, mT, eq_false c_1, eq_true c_2, i10, ↓reduceIte]; done) | (simp only [mCount, mT, eq_false c_1, eq_true c_2, i10, ↓reduceIte]; rfl) | rfl)⟩ (Nat.le_refl _) (Nat.le_refl _) d_M_count_24
    · refine lv_iconst (v := (-1)) hx hb d_M_count_14 (by decide) ?_
      refine lv_goto (tgt := 24) hx hb d_M_count_15 (by decide) ?_
      exact g_reti S hr hlk G ⟨by first | (simp only [mCount, mT, eq_false c_1, eq_false c_2, i10, ↓reduceIte]; done) | (simp only [mCount, mT, eq_false c_1, eq_false c_2, i10, ↓reduceIte]; rfl) | rfl, congrArg (wM cA a) (by first | (simp only [mCount, mT, eq_false c_1, eq_false c_2, i10, ↓reduceIte]; done) | (simp only [mCount, mT, eq_false c_1, eq_false c_2, i10, ↓reduceIte]; rfl) | rfl)⟩ (Nat.le_refl _) (Nat.le_refl _) d_M_count_24

abbrev rm_M_get : Room := { frames := 1, cells := 0, slots := 0, locals := 22 }
set_option maxHeartbeats 1000000 in
set_option maxRecDepth 100000 in
theorem c_M_get (l : Launch) (D : va_G) (cA : ClassId) (a : Nat → Nat) (τ : St) (t p : Int32)  : Ci l y_M_get w_M_get rm_M_get D vwCl [(cA, .int)] [.ref (a 0), .int t, .int p] (wM cA a τ) 0 0 (fun r0 w0 => r0 = mGet τ t p ∧ w0 = wM cA a (mT τ)) := by
  refine Ci.of (Ts := lw_g) (own := "WireSlaveModel") (cc := b_M_get) (maxL := 3) (ret := (some .int)) (lv := [(0, .ref (a 0)), (1, .int t), (2, .int p)]) (by decide) rfl rfl (fun w h => List.mem_cons_of_mem _ h) (Nat.le_of_ble_eq_true rfl) rfl ?_
  intro pp ee ss mm args below meth cx AA S hr hlk G ls hl
  have hx := S.1
  have hb := S.2.1
  refine lv_aload_n hx hb d_M_get_0 rfl (lv_at hl 0 rfl) ?_
  refine lv_iconst (v := 0) hx hb d_M_get_1 (by decide) ?_
  refine g_put S G in_M ft_M tok_M nm_M 0 rfl rfl 0 (by decide) fl_M_35 rfl rfl rfl (Nat.le_of_ble_eq_true rfl) (wM cA a (sU τ 0 0 0)) (wm_pthrown cA a _ _) d_M_get_2 (fun H locs G => ?_)
  refine lv_aload_n hx hb d_M_get_5 rfl (lv_at hl 0 rfl) ?_
  refine lv_iload_n hx hb d_M_get_6 rfl (lv_at hl 1 rfl) ?_
  refine lv_iload_n hx hb d_M_get_7 rfl (lv_at hl 2 rfl) ?_
  refine g_cVi (rest := []) S G (c_M_noPlace l D cA a (sU τ 0 0 0) t p) (cwV 2 S.2.2.2.2 ml_M_95 rfl rfl rfl (by decide +kernel) ⟨Nat.le_of_ble_eq_true rfl, Nat.le_of_ble_eq_true rfl⟩) [0, 1, 2, 3, 4, 5, 6, 7] [] rfl rfl rfl rfl (by decide) 0 rfl rfl rfl hl.1 rfl (Nat.le_of_ble_eq_true rfl) d_M_get_8 ⟨Nat.le_of_ble_eq_true rfl, Nat.le_of_ble_eq_true rfl⟩ (fun rp_1 wp_1 H locs hp_1 G => ?_)
  obtain ⟨ep_1, rfl⟩ := hp_1
  replace ep_1 := ep_1.symm
  subst ep_1
  have G : Gw D vwCl [(cA, .int)] AA ss ss.heap H locs (wM cA a (sU τ 0 0 0)) := G
  refine lv_if_eq (tgt := 18) hx hb d_M_get_11 (by decide) (fun c_2 => ?_) (fun c_2 => ?_)
  · refine lv_aload_n hx hb d_M_get_18 rfl (lv_at hl 0 rfl) ?_
    refine lv_iload_n hx hb d_M_get_19 rfl (lv_at hl 1 rfl) ?_
    refine g_cVq (rest := []) S G (c_M_byNumber l D cA a (sU τ 0 0 0) t) (cwV 1 S.2.2.2.2 ml_M_99 rfl rfl rfl (by decide +kernel) ⟨Nat.le_of_ble_eq_true rfl, Nat.le_of_ble_eq_true rfl⟩) [0, 1, 2, 3, 4, 5, 6, 7] [] rfl rfl rfl rfl (by decide) 0 rfl rfl rfl hl.1 rfl (Nat.le_of_ble_eq_true rfl) d_M_get_20 ⟨Nat.le_of_ble_eq_true rfl, Nat.le_of_ble_eq_true rfl⟩ (fun rp_3 wp_3 H locs hp_3 G => ?_)
    obtain ⟨rfl, rfl⟩ := hp_3
    have G : Gw D vwCl [(cA, .int)] AA ss ss.heap H locs (wM cA a (sU τ 0 0 0)) := G
    rcases mNum_cases t with hk | hk | hk | hk
    · rw [hk]
      refine W.eq (g2 := F0 mm 23 ls [.ref (a 1)]) rfl ?_
      refine lv_iload_n hx hb d_M_get_23 rfl (lv_at hl 2 rfl) ?_
      refine g_ialdj S G 1 0 (τ 1) rfl rfl p.toNatClampNeg rfl (mNo_lo c_2 (Or.inl hk)) d_M_get_24 ?_
      exact g_reti S hr hlk G ⟨by first | (simp only [mGet, mT, eq_true c_2, hk, i10, ↓reduceIte]; done) | (simp only [mGet, mT, eq_true c_2, hk, i10, ↓reduceIte]; rfl), congrArg (wM cA a) (by first | rfl | first | (simp only [mGet, mT, eq_true c_2, hk, i10, ↓reduceIte]; done) | (simp only [mGet, mT, eq_true c_2, hk, i10, ↓reduceIte]; rfl))⟩ (Nat.le_refl _) (Nat.le_refl _) d_M_get_25
    · rw [hk]
      refine W.eq (g2 := F0 mm 23 ls [.ref (a 2)]) rfl ?_
      refine lv_iload_n hx hb d_M_get_23 rfl (lv_at hl 2 rfl) ?_
      refine g_ialdj S G 2 0 (τ 2) rfl rfl p.toNatClampNeg rfl (mNo_lo c_2 (Or.inr hk)) d_M_get_24 ?_
      exact g_reti S hr hlk G ⟨by first | (simp only [mGet, mT, eq_true c_2, hk, i10, ↓reduceIte]; done) | (simp only [mGet, mT, eq_true c_2, hk, i10, ↓reduceIte]; rfl), congrArg (wM cA a) (by first | rfl | first | (simp only [mGet, mT, eq_true c_2, hk, i10, ↓reduceIte]; done) | (simp only [mGet, mT, eq_true c_2, hk, i10, ↓reduceIte]; rfl))⟩ (Nat.le_refl _) (Nat.le_refl _) d_M_get_25
    · rw [hk]
      refine W.eq (g2 := F0 mm 23 ls [.ref (a 3)]) rfl ?_
      refine lv_iload_n hx hb d_M_get_23 rfl (lv_at hl 2 rfl) ?_
      refine g_ialdj S G 3 0 (τ 3) rfl rfl p.toNatClampNeg rfl (mNo_hi c_2 (Or.inl hk)) d_M_get_24 ?_
      exact g_reti S hr hlk G ⟨by first | (simp only [mGet, mT, eq_true c_2, hk, i10, ↓reduceIte]; done) | (simp only [mGet, mT, eq_true c_2, hk, i10, ↓reduceIte]; rfl), congrArg (wM cA a) (by first | rfl | first | (simp only [mGet, mT, eq_true c_2, hk, i10, ↓reduceIte]; done) | (simp only [mGet, mT, eq_true c_2, hk, i10, ↓reduceIte]; rfl))⟩ (Nat.le_refl _) (Nat.le_refl _) d_M_get_25
    · rw [hk]
      refine W.eq (g2 := F0 mm 23 ls [.ref (a 4)]) rfl ?_
      refine lv_iload_n hx hb d_M_get_23 rfl (lv_at hl 2 rfl) ?_
      refine g_ialdj S G 4 0 (τ 4) rfl rfl p.toNatClampNeg rfl (mNo_hi c_2 (Or.inr hk)) d_M_get_24 ?_
      exact g_reti S hr hlk G ⟨by first | (simp only [mGet, mT, eq_true c_2, hk, i10, ↓reduceIte]; done) | (simp only [mGet, mT, eq_true c_2, hk, i10, ↓reduceIte]; rfl), congrArg (wM cA a) (by first | rfl | first | (simp only [mGet, mT, eq_true c_2, hk, i10, ↓reduceIte]; done) | (simp only [mGet, mT, eq_true c_2, hk, i10, ↓reduceIte]; rfl))⟩ (Nat.le_refl _) (Nat.le_refl _) d_M_get_25
  · refine lv_iconst (v := (-1)) hx hb d_M_get_14 (by decide) ?_
    refine lv_goto (tgt := 25) hx hb d_M_get_15 (by decide) ?_
    exact g_reti S hr hlk G ⟨by first | (simp only [mGet, mT, eq_false c_2, i10, ↓reduceIte]; done) | (simp only [mGet, mT, eq_false c_2, i10, ↓reduceIte]; rfl), congrArg (wM cA a) (by first | rfl | first | (simp only [mGet, mT, eq_false c_2, i10, ↓reduceIte]; done) | (simp only [mGet, mT, eq_false c_2, i10, ↓reduceIte]; rfl))⟩ (Nat.le_refl _) (Nat.le_refl _) d_M_get_25

abbrev rm_M_set : Room := { frames := 1, cells := 0, slots := 0, locals := 22 }
set_option maxHeartbeats 1000000 in
set_option maxRecDepth 100000 in
theorem c_M_set (l : Launch) (D : va_G) (cA : ClassId) (a : Nat → Nat) (τ : St) (t p v : Int32)  : Ci l y_M_set w_M_set rm_M_set D vwCl [(cA, .int)] [.ref (a 0), .int t, .int p, .int v] (wM cA a τ) 0 0 (fun r0 w0 => r0 = mSetR τ t p v ∧ w0 = wM cA a (mSet τ t p v)) := by
  refine Ci.of (Ts := lw_g) (own := "WireSlaveModel") (cc := b_M_set) (maxL := 5) (ret := (some .int)) (lv := [(0, .ref (a 0)), (1, .int t), (2, .int p), (3, .int v)]) (by decide) rfl rfl (fun w h => List.mem_cons_of_mem _ h) (Nat.le_of_ble_eq_true rfl) rfl ?_
  intro pp ee ss mm args below meth cx AA S hr hlk G ls hl
  have hx := S.1
  have hb := S.2.1
  refine lv_aload_n hx hb d_M_set_0 rfl (lv_at hl 0 rfl) ?_
  refine lv_iconst (v := 0) hx hb d_M_set_1 (by decide) ?_
  refine g_put S G in_M ft_M tok_M nm_M 0 rfl rfl 0 (by decide) fl_M_35 rfl rfl rfl (Nat.le_of_ble_eq_true rfl) (wM cA a (sU τ 0 0 0)) (wm_pthrown cA a _ _) d_M_set_2 (fun H locs G => ?_)
  refine lv_aload_n hx hb d_M_set_5 rfl (lv_at hl 0 rfl) ?_
  refine lv_iload_n hx hb d_M_set_6 rfl (lv_at hl 1 rfl) ?_
  refine lv_iload_n hx hb d_M_set_7 rfl (lv_at hl 2 rfl) ?_
  refine g_cVi (rest := []) S G (c_M_noPlace l D cA a (sU τ 0 0 0) t p) (cwV 2 S.2.2.2.2 ml_M_95 rfl rfl rfl (by decide +kernel) ⟨Nat.le_of_ble_eq_true rfl, Nat.le_of_ble_eq_true rfl⟩) [0, 1, 2, 3, 4, 5, 6, 7] [] rfl rfl rfl rfl (by decide) 0 rfl rfl rfl hl.1 rfl (Nat.le_of_ble_eq_true rfl) d_M_set_8 ⟨Nat.le_of_ble_eq_true rfl, Nat.le_of_ble_eq_true rfl⟩ (fun rp_1 wp_1 H locs hp_1 G => ?_)
  obtain ⟨ep_1, rfl⟩ := hp_1
  replace ep_1 := ep_1.symm
  subst ep_1
  have G : Gw D vwCl [(cA, .int)] AA ss ss.heap H locs (wM cA a (sU τ 0 0 0)) := G
  refine lv_if_ne (tgt := 33) hx hb d_M_set_11 (by decide) (fun c_2 => ?_) (fun c_2 => ?_)
  · refine lv_iconst (v := (-1)) hx hb d_M_set_33 (by decide) ?_
    exact g_reti S hr hlk G ⟨by first | (simp only [mSetR, mSet, mSetOk, mT, eq_false c_2, i10, ↓reduceIte]; done) | (simp only [mSetR, mSet, mSetOk, mT, eq_false c_2, i10, ↓reduceIte]; rfl), congrArg (wM cA a) (by first | rfl | first | (simp only [mSetR, mSet, mSetOk, mT, eq_false c_2, i10, ↓reduceIte]; done) | (simp only [mSetR, mSet, mSetOk, mT, eq_false c_2, i10, ↓reduceIte]; rfl))⟩ (Nat.le_refl _) (Nat.le_refl _) d_M_set_34
  · refine lv_iload_n hx hb d_M_set_14 rfl (lv_at hl 3 rfl) ?_
    refine lv_if_lt (tgt := 33) hx hb d_M_set_15 (by decide) (fun c_3 => ?_) (fun c_3 => ?_)
    · refine lv_iconst (v := (-1)) hx hb d_M_set_33 (by decide) ?_
      exact g_reti S hr hlk G ⟨by first | (simp only [mSetR, mSet, mSetOk, mT, eq_true c_2, eq_true c_3, i10, ↓reduceIte]; done) | (simp only [mSetR, mSet, mSetOk, mT, eq_true c_2, eq_true c_3, i10, ↓reduceIte]; rfl), congrArg (wM cA a) (by first | rfl | first | (simp only [mSetR, mSet, mSetOk, mT, eq_true c_2, eq_true c_3, i10, ↓reduceIte]; done) | (simp only [mSetR, mSet, mSetOk, mT, eq_true c_2, eq_true c_3, i10, ↓reduceIte]; rfl))⟩ (Nat.le_refl _) (Nat.le_refl _) d_M_set_34
    · refine lv_iload_n hx hb d_M_set_18 rfl (lv_at hl 3 rfl) ?_
      refine lv_iload_n hx hb d_M_set_19 rfl (lv_at hl 1 rfl) ?_
      refine lv_iconst (v := 2) hx hb d_M_set_20 (by decide) ?_
      refine lv_icmp_ge (tgt := 28) hx hb d_M_set_21 (by decide) (fun c_4 => ?_) (fun c_4 => ?_)
      · refine lv_ldc (v := 65535) hx hb S.2.2.2.1 (S.2.2.2.2 _ kn_M_59) d_M_set_28 ?_
        refine lv_icmp_le (tgt := 35) hx hb d_M_set_30 (by decide) (fun c_5 => ?_) (fun c_5 => ?_)
        · refine lv_aload_n hx hb d_M_set_35 rfl (lv_at hl 0 rfl) ?_
          refine lv_iload_n hx hb d_M_set_36 rfl (lv_at hl 1 rfl) ?_
          refine g_cVq (rest := []) S G (c_M_byNumber l D cA a (sU τ 0 0 0) t) (cwV 1 S.2.2.2.2 ml_M_99 rfl rfl rfl (by decide +kernel) ⟨Nat.le_of_ble_eq_true rfl, Nat.le_of_ble_eq_true rfl⟩) [0, 1, 2, 3, 4, 5, 6, 7] [] rfl rfl rfl rfl (by decide) 0 rfl rfl rfl hl.1 rfl (Nat.le_of_ble_eq_true rfl) d_M_set_37 ⟨Nat.le_of_ble_eq_true rfl, Nat.le_of_ble_eq_true rfl⟩ (fun rp_6 wp_6 H locs hp_6 G => ?_)
          obtain ⟨rfl, rfl⟩ := hp_6
          have G : Gw D vwCl [(cA, .int)] AA ss ss.heap H locs (wM cA a (sU τ 0 0 0)) := G
          rcases mNum_cases t with hk | hk | hk | hk
          · rw [hk]
            refine W.eq (g2 := F0 mm 40 ls [.ref (a 1)]) rfl ?_
            refine lv_iload_n hx hb d_M_set_40 rfl (lv_at hl 2 rfl) ?_
            refine g_ialdj S G 1 0 (τ 1) rfl rfl p.toNatClampNeg rfl (mNo_lo c_2 (Or.inl hk)) d_M_set_41 ?_
            refine lv_istore (lv' := [(4, .int ((τ 1) p.toNatClampNeg)), (0, .ref (a 0)), (1, .int t), (2, .int p), (3, .int v)]) hx hb d_M_set_42 hl (by decide) rfl (fun ls hl => ?_)
            refine lv_aload_n hx hb d_M_set_44 rfl (lv_at hl 1 rfl) ?_
            refine lv_iload_n hx hb d_M_set_45 rfl (lv_at hl 2 rfl) ?_
            refine g_cVq (rest := []) S G (c_M_byNumber l D cA a (sU τ 0 0 0) t) (cwV 1 S.2.2.2.2 ml_M_99 rfl rfl rfl (by decide +kernel) ⟨Nat.le_of_ble_eq_true rfl, Nat.le_of_ble_eq_true rfl⟩) [0, 1, 2, 3, 4, 5, 6, 7] [] rfl rfl rfl rfl (by decide) 0 rfl rfl rfl hl.1 rfl (Nat.le_of_ble_eq_true rfl) d_M_set_46 ⟨Nat.le_of_ble_eq_true rfl, Nat.le_of_ble_eq_true rfl⟩ (fun rp_7 wp_7 H locs hp_7 G => ?_)
            obtain ⟨rfl, rfl⟩ := hp_7
            have G : Gw D vwCl [(cA, .int)] AA ss ss.heap H locs (wM cA a (sU τ 0 0 0)) := G
            rw [hk]
            refine W.eq (g2 := F0 mm 49 ls [.ref (a 1)]) rfl ?_
            refine lv_iload_n hx hb d_M_set_49 rfl (lv_at hl 3 rfl) ?_
            refine lv_iload_n hx hb d_M_set_50 rfl (lv_at hl 4 rfl) ?_
            refine g_iastj S G 1 0 rfl rfl p.toNatClampNeg rfl (mNo_lo c_2 (Or.inl hk)) (wM cA a (sU (sU τ 0 0 0) 1 p.toNatClampNeg v)) (wm_a1 cA a _ _ _) d_M_set_51 (fun H locs G => ?_)
            refine lv_iload hx hb d_M_set_52 (lv_at hl 0 rfl) ?_
            exact g_reti S hr hlk G ⟨by first | (simp only [mSetR, mSet, mSetOk, mT, eq_true c_2, eq_false c_3, eq_true c_4, eq_true c_5, hk, i10, ↓reduceIte]; done) | (simp only [mSetR, mSet, mSetOk, mT, eq_true c_2, eq_false c_3, eq_true c_4, eq_true c_5, hk, i10, ↓reduceIte]; rfl), congrArg (wM cA a) (by first | rfl | first | (simp only [mSetR, mSet, mSetOk, mT, eq_true c_2, eq_false c_3, eq_true c_4, eq_true c_5, hk, i10, ↓reduceIte]; done) | (simp only [mSetR, mSet, mSetOk, mT, eq_true c_2, eq_false c_3, eq_true c_4, eq_true c_5, hk, i10, ↓reduceIte]; rfl))⟩ (Nat.le_refl _) (Nat.le_refl _) d_M_set_54
          · rw [hk]
            refine W.eq (g2 := F0 mm 40 ls [.ref (a 2)]) rfl ?_
            refine lv_iload_n hx hb d_M_set_40 rfl (lv_at hl 2 rfl) ?_
            refine g_ialdj S G 2 0 (τ 2) rfl rfl p.toNatClampNeg rfl (mNo_lo c_2 (Or.inr hk)) d_M_set_41 ?_
            refine lv_istore (lv' := [(4, .int ((τ 2) p.toNatClampNeg)), (0, .ref (a 0)), (1, .int t), (2, .int p), (3, .int v)]) hx hb d_M_set_42 hl (by decide) rfl (fun ls hl => ?_)
            refine lv_aload_n hx hb d_M_set_44 rfl (lv_at hl 1 rfl) ?_
            refine lv_iload_n hx hb d_M_set_45 rfl (lv_at hl 2 rfl) ?_
            refine g_cVq (rest := []) S G (c_M_byNumber l D cA a (sU τ 0 0 0) t) (cwV 1 S.2.2.2.2 ml_M_99 rfl rfl rfl (by decide +kernel) ⟨Nat.le_of_ble_eq_true rfl, Nat.le_of_ble_eq_true rfl⟩) [0, 1, 2, 3, 4, 5, 6, 7] [] rfl rfl rfl rfl (by decide) 0 rfl rfl rfl hl.1 rfl (Nat.le_of_ble_eq_true rfl) d_M_set_46 ⟨Nat.le_of_ble_eq_true rfl, Nat.le_of_ble_eq_true rfl⟩ (fun rp_8 wp_8 H locs hp_8 G => ?_)
            obtain ⟨rfl, rfl⟩ := hp_8
            have G : Gw D vwCl [(cA, .int)] AA ss ss.heap H locs (wM cA a (sU τ 0 0 0)) := G
            rw [hk]
            refine W.eq (g2 := F0 mm 49 ls [.ref (a 2)]) rfl ?_
            refine lv_iload_n hx hb d_M_set_49 rfl (lv_at hl 3 rfl) ?_
            refine lv_iload_n hx hb d_M_set_50 rfl (lv_at hl 4 rfl) ?_
            refine g_iastj S G 2 0 rfl rfl p.toNatClampNeg rfl (mNo_lo c_2 (Or.inr hk)) (wM cA a (sU (sU τ 0 0 0) 2 p.toNatClampNeg v)) (wm_a2 cA a _ _ _) d_M_set_51 (fun H locs G => ?_)
            refine lv_iload hx hb d_M_set_52 (lv_at hl 0 rfl) ?_
            exact g_reti S hr hlk G ⟨by first | (simp only [mSetR, mSet, mSetOk, mT, eq_true c_2, eq_false c_3, eq_true c_4, eq_true c_5, hk, i10, ↓reduceIte]; done) | (simp only [mSetR, mSet, mSetOk, mT, eq_true c_2, eq_false c_3, eq_true c_4, eq_true c_5, hk, i10, ↓reduceIte]; rfl), congrArg (wM cA a) (by first | rfl | first | (simp only [mSetR, mSet, mSetOk, mT, eq_true c_2, eq_false c_3, eq_true c_4, eq_true c_5, hk, i10, ↓reduceIte]; done) | (simp only [mSetR, mSet, mSetOk, mT, eq_true c_2, eq_false c_3, eq_true c_4, eq_true c_5, hk, i10, ↓reduceIte]; rfl))⟩ (Nat.le_refl _) (Nat.le_refl _) d_M_set_54
          · rw [hk]
            refine W.eq (g2 := F0 mm 40 ls [.ref (a 3)]) rfl ?_
            refine lv_iload_n hx hb d_M_set_40 rfl (lv_at hl 2 rfl) ?_
            refine g_ialdj S G 3 0 (τ 3) rfl rfl p.toNatClampNeg rfl (mNo_hi c_2 (Or.inl hk)) d_M_set_41 ?_
            refine lv_istore (lv' := [(4, .int ((τ 3) p.toNatClampNeg)), (0, .ref (a 0)), (1, .int t), (2, .int p), (3, .int v)]) hx hb d_M_set_42 hl (by decide) rfl (fun ls hl => ?_)
            refine lv_aload_n hx hb d_M_set_44 rfl (lv_at hl 1 rfl) ?_
            refine lv_iload_n hx hb d_M_set_45 rfl (lv_at hl 2 rfl) ?_
            refine g_cVq (rest := []) S G (c_M_byNumber l D cA a (sU τ 0 0 0) t) (cwV 1 S.2.2.2.2 ml_M_99 rfl rfl rfl (by decide +kernel) ⟨Nat.le_of_ble_eq_true rfl, Nat.le_of_ble_eq_true rfl⟩) [0, 1, 2, 3, 4, 5, 6, 7] [] rfl rfl rfl rfl (by decide) 0 rfl rfl rfl hl.1 rfl (Nat.le_of_ble_eq_true rfl) d_M_set_46 ⟨Nat.le_of_ble_eq_true rfl, Nat.le_of_ble_eq_true rfl⟩ (fun rp_9 wp_9 H locs hp_9 G => ?_)
            obtain ⟨rfl, rfl⟩ := hp_9
            have G : Gw D vwCl [(cA, .int)] AA ss ss.heap H locs (wM cA a (sU τ 0 0 0)) := G
            rw [hk]
            refine W.eq (g2 := F0 mm 49 ls [.ref (a 3)]) rfl ?_
            refine lv_iload_n hx hb d_M_set_49 rfl (lv_at hl 3 rfl) ?_
            refine lv_iload_n hx hb d_M_set_50 rfl (lv_at hl 4 rfl) ?_
            refine g_iastj S G 3 0 rfl rfl p.toNatClampNeg rfl (mNo_hi c_2 (Or.inl hk)) (wM cA a (sU (sU τ 0 0 0) 3 p.toNatClampNeg v)) (wm_a3 cA a _ _ _) d_M_set_51 (fun H locs G => ?_)
            refine lv_iload hx hb d_M_set_52 (lv_at hl 0 rfl) ?_
            exact g_reti S hr hlk G ⟨by first | (simp only [mSetR, mSet, mSetOk, mT, eq_true c_2, eq_false c_3, eq_true c_4, eq_true c_5, hk, i10, ↓reduceIte]; done) | (simp only [mSetR, mSet, mSetOk, mT, eq_true c_2, eq_false c_3, eq_true c_4, eq_true c_5, hk, i10, ↓reduceIte]; rfl), congrArg (wM cA a) (by first | rfl | first | (simp only [mSetR, mSet, mSetOk, mT, eq_true c_2, eq_false c_3, eq_true c_4, eq_true c_5, hk, i10, ↓reduceIte]; done) | (simp only [mSetR, mSet, mSetOk, mT, eq_true c_2, eq_false c_3, eq_true c_4, eq_true c_5, hk, i10, ↓reduceIte]; rfl))⟩ (Nat.le_refl _) (Nat.le_refl _) d_M_set_54
          · rw [hk]
            refine W.eq (g2 := F0 mm 40 ls [.ref (a 4)]) rfl ?_
            refine lv_iload_n hx hb d_M_set_40 rfl (lv_at hl 2 rfl) ?_
            refine g_ialdj S G 4 0 (τ 4) rfl rfl p.toNatClampNeg rfl (mNo_hi c_2 (Or.inr hk)) d_M_set_41 ?_
            refine lv_istore (lv' := [(4, .int ((τ 4) p.toNatClampNeg)), (0, .ref (a 0)), (1, .int t), (2, .int p), (3, .int v)]) hx hb d_M_set_42 hl (by decide) rfl (fun ls hl => ?_)
            refine lv_aload_n hx hb d_M_set_44 rfl (lv_at hl 1 rfl) ?_
            refine lv_iload_n hx hb d_M_set_45 rfl (lv_at hl 2 rfl) ?_
            refine g_cVq (rest := []) S G (c_M_byNumber l D cA a (sU τ 0 0 0) t) (cwV 1 S.2.2.2.2 ml_M_99 rfl rfl rfl (by decide +kernel) ⟨Nat.le_of_ble_eq_true rfl, Nat.le_of_ble_eq_true rfl⟩) [0, 1, 2, 3, 4, 5, 6, 7] [] rfl rfl rfl rfl (by decide) 0 rfl rfl rfl hl.1 rfl (Nat.le_of_ble_eq_true rfl) d_M_set_46 ⟨Nat.le_of_ble_eq_true rfl, Nat.le_of_ble_eq_true rfl⟩ (fun rp_10 wp_10 H locs hp_10 G => ?_)
            obtain ⟨rfl, rfl⟩ := hp_10
            have G : Gw D vwCl [(cA, .int)] AA ss ss.heap H locs (wM cA a (sU τ 0 0 0)) := G
            rw [hk]
            refine W.eq (g2 := F0 mm 49 ls [.ref (a 4)]) rfl ?_
            refine lv_iload_n hx hb d_M_set_49 rfl (lv_at hl 3 rfl) ?_
            refine lv_iload_n hx hb d_M_set_50 rfl (lv_at hl 4 rfl) ?_
            refine g_iastj S G 4 0 rfl rfl p.toNatClampNeg rfl (mNo_hi c_2 (Or.inr hk)) (wM cA a (sU (sU τ 0 0 0) 4 p.toNatClampNeg v)) (wm_a4 cA a _ _ _) d_M_set_51 (fun H locs G => ?_)
            refine lv_iload hx hb d_M_set_52 (lv_at hl 0 rfl) ?_
            exact g_reti S hr hlk G ⟨by first | (simp only [mSetR, mSet, mSetOk, mT, eq_true c_2, eq_false c_3, eq_true c_4, eq_true c_5, hk, i10, ↓reduceIte]; done) | (simp only [mSetR, mSet, mSetOk, mT, eq_true c_2, eq_false c_3, eq_true c_4, eq_true c_5, hk, i10, ↓reduceIte]; rfl), congrArg (wM cA a) (by first | rfl | first | (simp only [mSetR, mSet, mSetOk, mT, eq_true c_2, eq_false c_3, eq_true c_4, eq_true c_5, hk, i10, ↓reduceIte]; done) | (simp only [mSetR, mSet, mSetOk, mT, eq_true c_2, eq_false c_3, eq_true c_4, eq_true c_5, hk, i10, ↓reduceIte]; rfl))⟩ (Nat.le_refl _) (Nat.le_refl _) d_M_set_54
        · refine lv_iconst (v := (-1)) hx hb d_M_set_33 (by decide) ?_
          exact g_reti S hr hlk G ⟨by first | (simp only [mSetR, mSet, mSetOk, mT, eq_true c_2, eq_false c_3, eq_true c_4, eq_false c_5, i10, ↓reduceIte]; done) | (simp only [mSetR, mSet, mSetOk, mT, eq_true c_2, eq_false c_3, eq_true c_4, eq_false c_5, i10, ↓reduceIte]; rfl), congrArg (wM cA a) (by first | rfl | first | (simp only [mSetR, mSet, mSetOk, mT, eq_true c_2, eq_false c_3, eq_true c_4, eq_false c_5, i10, ↓reduceIte]; done) | (simp only [mSetR, mSet, mSetOk, mT, eq_true c_2, eq_false c_3, eq_true c_4, eq_false c_5, i10, ↓reduceIte]; rfl))⟩ (Nat.le_refl _) (Nat.le_refl _) d_M_set_34
      · refine lv_iconst (v := 1) hx hb d_M_set_24 (by decide) ?_
        refine lv_goto (tgt := 30) hx hb d_M_set_25 (by decide) ?_
        refine lv_icmp_le (tgt := 35) hx hb d_M_set_30 (by decide) (fun c_11 => ?_) (fun c_11 => ?_)
        · refine lv_aload_n hx hb d_M_set_35 rfl (lv_at hl 0 rfl) ?_
          refine lv_iload_n hx hb d_M_set_36 rfl (lv_at hl 1 rfl) ?_
          refine g_cVq (rest := []) S G (c_M_byNumber l D cA a (sU τ 0 0 0) t) (cwV 1 S.2.2.2.2 ml_M_99 rfl rfl rfl (by decide +kernel) ⟨Nat.le_of_ble_eq_true rfl, Nat.le_of_ble_eq_true rfl⟩) [0, 1, 2, 3, 4, 5, 6, 7] [] rfl rfl rfl rfl (by decide) 0 rfl rfl rfl hl.1 rfl (Nat.le_of_ble_eq_true rfl) d_M_set_37 ⟨Nat.le_of_ble_eq_true rfl, Nat.le_of_ble_eq_true rfl⟩ (fun rp_12 wp_12 H locs hp_12 G => ?_)
          obtain ⟨rfl, rfl⟩ := hp_12
          have G : Gw D vwCl [(cA, .int)] AA ss ss.heap H locs (wM cA a (sU τ 0 0 0)) := G
          rcases mNum_cases t with hk | hk | hk | hk
          · rw [hk]
            refine W.eq (g2 := F0 mm 40 ls [.ref (a 1)]) rfl ?_
            refine lv_iload_n hx hb d_M_set_40 rfl (lv_at hl 2 rfl) ?_
            refine g_ialdj S G 1 0 (τ 1) rfl rfl p.toNatClampNeg rfl (mNo_lo c_2 (Or.inl hk)) d_M_set_41 ?_
            refine lv_istore (lv' := [(4, .int ((τ 1) p.toNatClampNeg)), (0, .ref (a 0)), (1, .int t), (2, .int p), (3, .int v)]) hx hb d_M_set_42 hl (by decide) rfl (fun ls hl => ?_)
            refine lv_aload_n hx hb d_M_set_44 rfl (lv_at hl 1 rfl) ?_
            refine lv_iload_n hx hb d_M_set_45 rfl (lv_at hl 2 rfl) ?_
            refine g_cVq (rest := []) S G (c_M_byNumber l D cA a (sU τ 0 0 0) t) (cwV 1 S.2.2.2.2 ml_M_99 rfl rfl rfl (by decide +kernel) ⟨Nat.le_of_ble_eq_true rfl, Nat.le_of_ble_eq_true rfl⟩) [0, 1, 2, 3, 4, 5, 6, 7] [] rfl rfl rfl rfl (by decide) 0 rfl rfl rfl hl.1 rfl (Nat.le_of_ble_eq_true rfl) d_M_set_46 ⟨Nat.le_of_ble_eq_true rfl, Nat.le_of_ble_eq_true rfl⟩ (fun rp_13 wp_13 H locs hp_13 G => ?_)
            obtain ⟨rfl, rfl⟩ := hp_13
            have G : Gw D vwCl [(cA, .int)] AA ss ss.heap H locs (wM cA a (sU τ 0 0 0)) := G
            rw [hk]
            refine W.eq (g2 := F0 mm 49 ls [.ref (a 1)]) rfl ?_
            refine lv_iload_n hx hb d_M_set_49 rfl (lv_at hl 3 rfl) ?_
            refine lv_iload_n hx hb d_M_set_50 rfl (lv_at hl 4 rfl) ?_
            refine g_iastj S G 1 0 rfl rfl p.toNatClampNeg rfl (mNo_lo c_2 (Or.inl hk)) (wM cA a (sU (sU τ 0 0 0) 1 p.toNatClampNeg v)) (wm_a1 cA a _ _ _) d_M_set_51 (fun H locs G => ?_)
            refine lv_iload hx hb d_M_set_52 (lv_at hl 0 rfl) ?_
            exact g_reti S hr hlk G ⟨by first | (simp only [mSetR, mSet, mSetOk, mT, eq_true c_2, eq_false c_3, eq_false c_4, eq_true c_11, hk, i10, ↓reduceIte]; done) | (simp only [mSetR, mSet, mSetOk, mT, eq_true c_2, eq_false c_3, eq_false c_4, eq_true c_11, hk, i10, ↓reduceIte]; rfl), congrArg (wM cA a) (by first | rfl | first | (simp only [mSetR, mSet, mSetOk, mT, eq_true c_2, eq_false c_3, eq_false c_4, eq_true c_11, hk, i10, ↓reduceIte]; done) | (simp only [mSetR, mSet, mSetOk, mT, eq_true c_2, eq_false c_3, eq_false c_4, eq_true c_11, hk, i10, ↓reduceIte]; rfl))⟩ (Nat.le_refl _) (Nat.le_refl _) d_M_set_54
          · rw [hk]
            refine W.eq (g2 := F0 mm 40 ls [.ref (a 2)]) rfl ?_
            refine lv_iload_n hx hb d_M_set_40 rfl (lv_at hl 2 rfl) ?_
            refine g_ialdj S G 2 0 (τ 2) rfl rfl p.toNatClampNeg rfl (mNo_lo c_2 (Or.inr hk)) d_M_set_41 ?_
            refine lv_istore (lv' := [(4, .int ((τ 2) p.toNatClampNeg)), (0, .ref (a 0)), (1, .int t), (2, .int p), (3, .int v)]) hx hb d_M_set_42 hl (by decide) rfl (fun ls hl => ?_)
            refine lv_aload_n hx hb d_M_set_44 rfl (lv_at hl 1 rfl) ?_
            refine lv_iload_n hx hb d_M_set_45 rfl (lv_at hl 2 rfl) ?_
            refine g_cVq (rest := []) S G (c_M_byNumber l D cA a (sU τ 0 0 0) t) (cwV 1 S.2.2.2.2 ml_M_99 rfl rfl rfl (by decide +kernel) ⟨Nat.le_of_ble_eq_true rfl, Nat.le_of_ble_eq_true rfl⟩) [0, 1, 2, 3, 4, 5, 6, 7] [] rfl rfl rfl rfl (by decide) 0 rfl rfl rfl hl.1 rfl (Nat.le_of_ble_eq_true rfl) d_M_set_46 ⟨Nat.le_of_ble_eq_true rfl, Nat.le_of_ble_eq_true rfl⟩ (fun rp_14 wp_14 H locs hp_14 G => ?_)
            obtain ⟨rfl, rfl⟩ := hp_14
            have G : Gw D vwCl [(cA, .int)] AA ss ss.heap H locs (wM cA a (sU τ 0 0 0)) := G
            rw [hk]
            refine W.eq (g2 := F0 mm 49 ls [.ref (a 2)]) rfl ?_
            refine lv_iload_n hx hb d_M_set_49 rfl (lv_at hl 3 rfl) ?_
            refine lv_iload_n hx hb d_M_set_50 rfl (lv_at hl 4 rfl) ?_
            refine g_iastj S G 2 0 rfl rfl p.toNatClampNeg rfl (mNo_lo c_2 (Or.inr hk)) (wM cA a (sU (sU τ 0 0 0) 2 p.toNatClampNeg v)) (wm_a2 cA a _ _ _) d_M_set_51 (fun H locs G => ?_)
            refine lv_iload hx hb d_M_set_52 (lv_at hl 0 rfl) ?_
            exact g_reti S hr hlk G ⟨by first | (simp only [mSetR, mSet, mSetOk, mT, eq_true c_2, eq_false c_3, eq_false c_4, eq_true c_11, hk, i10, ↓reduceIte]; done) | (simp only [mSetR, mSet, mSetOk, mT, eq_true c_2, eq_false c_3, eq_false c_4, eq_true c_11, hk, i10, ↓reduceIte]; rfl), congrArg (wM cA a) (by first | rfl | first | (simp only [mSetR, mSet, mSetOk, mT, eq_true c_2, eq_false c_3, eq_false c_4, eq_true c_11, hk, i10, ↓reduceIte]; done) | (simp only [mSetR, mSet, mSetOk, mT, eq_true c_2, eq_false c_3, eq_false c_4, eq_true c_11, hk, i10, ↓reduceIte]; rfl))⟩ (Nat.le_refl _) (Nat.le_refl _) d_M_set_54
          · rw [hk]
            refine W.eq (g2 := F0 mm 40 ls [.ref (a 3)]) rfl ?_
            refine lv_iload_n hx hb d_M_set_40 rfl (lv_at hl 2 rfl) ?_
            refine g_ialdj S G 3 0 (τ 3) rfl rfl p.toNatClampNeg rfl (mNo_hi c_2 (Or.inl hk)) d_M_set_41 ?_
            refine lv_istore (lv' := [(4, .int ((τ 3) p.toNatClampNeg)), (0, .ref (a 0)), (1, .int t), (2, .int p), (3, .int v)]) hx hb d_M_set_42 hl (by decide) rfl (fun ls hl => ?_)
            refine lv_aload_n hx hb d_M_set_44 rfl (lv_at hl 1 rfl) ?_
            refine lv_iload_n hx hb d_M_set_45 rfl (lv_at hl 2 rfl) ?_
            refine g_cVq (rest := []) S G (c_M_byNumber l D cA a (sU τ 0 0 0) t) (cwV 1 S.2.2.2.2 ml_M_99 rfl rfl rfl (by decide +kernel) ⟨Nat.le_of_ble_eq_true rfl, Nat.le_of_ble_eq_true rfl⟩) [0, 1, 2, 3, 4, 5, 6, 7] [] rfl rfl rfl rfl (by decide) 0 rfl rfl rfl hl.1 rfl (Nat.le_of_ble_eq_true rfl) d_M_set_46 ⟨Nat.le_of_ble_eq_true rfl, Nat.le_of_ble_eq_true rfl⟩ (fun rp_15 wp_15 H locs hp_15 G => ?_)
            obtain ⟨rfl, rfl⟩ := hp_15
            have G : Gw D vwCl [(cA, .int)] AA ss ss.heap H locs (wM cA a (sU τ 0 0 0)) := G
            rw [hk]
            refine W.eq (g2 := F0 mm 49 ls [.ref (a 3)]) rfl ?_
            refine lv_iload_n hx hb d_M_set_49 rfl (lv_at hl 3 rfl) ?_
            refine lv_iload_n hx hb d_M_set_50 rfl (lv_at hl 4 rfl) ?_
            refine g_iastj S G 3 0 rfl rfl p.toNatClampNeg rfl (mNo_hi c_2 (Or.inl hk)) (wM cA a (sU (sU τ 0 0 0) 3 p.toNatClampNeg v)) (wm_a3 cA a _ _ _) d_M_set_51 (fun H locs G => ?_)
            refine lv_iload hx hb d_M_set_52 (lv_at hl 0 rfl) ?_
            exact g_reti S hr hlk G ⟨by first | (simp only [mSetR, mSet, mSetOk, mT, eq_true c_2, eq_false c_3, eq_false c_4, eq_true c_11, hk, i10, ↓reduceIte]; done) | (simp only [mSetR, mSet, mSetOk, mT, eq_true c_2, eq_false c_3, eq_false c_4, eq_true c_11, hk, i10, ↓reduceIte]; rfl), congrArg (wM cA a) (by first | rfl | first | (simp only [mSetR, mSet, mSetOk, mT, eq_true c_2, eq_false c_3, eq_false c_4, eq_true c_11, hk, i10, ↓reduceIte]; done) | (simp only [mSetR, mSet, mSetOk, mT, eq_true c_2, eq_false c_3, eq_false c_4, eq_true c_11, hk, i10, ↓reduceIte]; rfl))⟩ (Nat.le_refl _) (Nat.le_refl _) d_M_set_54
          · rw [hk]
            refine W.eq (g2 := F0 mm 40 ls [.ref (a 4)]) rfl ?_
            refine lv_iload_n hx hb d_M_set_40 rfl (lv_at hl 2 rfl) ?_
            refine g_ialdj S G 4 0 (τ 4) rfl rfl p.toNatClampNeg rfl (mNo_hi c_2 (Or.inr hk)) d_M_set_41 ?_
            refine lv_istore (lv' := [(4, .int ((τ 4) p.toNatClampNeg)), (0, .ref (a 0)), (1, .int t), (2, .int p), (3, .int v)]) hx hb d_M_set_42 hl (by decide) rfl (fun ls hl => ?_)
            refine lv_aload_n hx hb d_M_set_44 rfl (lv_at hl 1 rfl) ?_
            refine lv_iload_n hx hb d_M_set_45 rfl (lv_at hl 2 rfl) ?_
            refine g_cVq (rest := []) S G (c_M_byNumber l D cA a (sU τ 0 0 0) t) (cwV 1 S.2.2.2.2 ml_M_99 rfl rfl rfl (by decide +kernel) ⟨Nat.le_of_ble_eq_true rfl, Nat.le_of_ble_eq_true rfl⟩) [0, 1, 2, 3, 4, 5, 6, 7] [] rfl rfl rfl rfl (by decide) 0 rfl rfl rfl hl.1 rfl (Nat.le_of_ble_eq_true rfl) d_M_set_46 ⟨Nat.le_of_ble_eq_true rfl, Nat.le_of_ble_eq_true rfl⟩ (fun rp_16 wp_16 H locs hp_16 G => ?_)
            obtain ⟨rfl, rfl⟩ := hp_16
            have G : Gw D vwCl [(cA, .int)] AA ss ss.heap H locs (wM cA a (sU τ 0 0 0)) := G
            rw [hk]
            refine W.eq (g2 := F0 mm 49 ls [.ref (a 4)]) rfl ?_
            refine lv_iload_n hx hb d_M_set_49 rfl (lv_at hl 3 rfl) ?_
            refine lv_iload_n hx hb d_M_set_50 rfl (lv_at hl 4 rfl) ?_
            refine g_iastj S G 4 0 rfl rfl p.toNatClampNeg rfl (mNo_hi c_2 (Or.inr hk)) (wM cA a (sU (sU τ 0 0 0) 4 p.toNatClampNeg v)) (wm_a4 cA a _ _ _) d_M_set_51 (fun H locs G => ?_)
            refine lv_iload hx hb d_M_set_52 (lv_at hl 0 rfl) ?_
            exact g_reti S hr hlk G ⟨by first | (simp only [mSetR, mSet, mSetOk, mT, eq_true c_2, eq_false c_3, eq_false c_4, eq_true c_11, hk, i10, ↓reduceIte]; done) | (simp only [mSetR, mSet, mSetOk, mT, eq_true c_2, eq_false c_3, eq_false c_4, eq_true c_11, hk, i10, ↓reduceIte]; rfl), congrArg (wM cA a) (by first | rfl | first | (simp only [mSetR, mSet, mSetOk, mT, eq_true c_2, eq_false c_3, eq_false c_4, eq_true c_11, hk, i10, ↓reduceIte]; done) | (simp only [mSetR, mSet, mSetOk, mT, eq_true c_2, eq_false c_3, eq_false c_4, eq_true c_11, hk, i10, ↓reduceIte]; rfl))⟩ (Nat.le_refl _) (Nat.le_refl _) d_M_set_54
        · refine lv_iconst (v := (-1)) hx hb d_M_set_33 (by decide) ?_
          exact g_reti S hr hlk G ⟨by first | (simp only [mSetR, mSet, mSetOk, mT, eq_true c_2, eq_false c_3, eq_false c_4, eq_false c_11, i10, ↓reduceIte]; done) | (simp only [mSetR, mSet, mSetOk, mT, eq_true c_2, eq_false c_3, eq_false c_4, eq_false c_11, i10, ↓reduceIte]; rfl), congrArg (wM cA a) (by first | rfl | first | (simp only [mSetR, mSet, mSetOk, mT, eq_true c_2, eq_false c_3, eq_false c_4, eq_false c_11, i10, ↓reduceIte]; done) | (simp only [mSetR, mSet, mSetOk, mT, eq_true c_2, eq_false c_3, eq_false c_4, eq_false c_11, i10, ↓reduceIte]; rfl))⟩ (Nat.le_refl _) (Nat.le_refl _) d_M_set_34
end
