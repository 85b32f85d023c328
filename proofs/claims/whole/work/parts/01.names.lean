/-! Names, fields, words, decode rows: written by wip/names.py out of the claim. Every method's words: its code, then all of lw_tbl. -/
def lw_g : List Cond := lw_tbl.filter goodWord
theorem gm_ {w : Cond} (h : w ∈ lw_tbl) (g : goodWord w = true) : w ∈ lw_g := List.mem_filter.mpr ⟨h, g⟩
theorem goodIn_sb {big : List Cond} (h : big.all goodWord = true) : GoodIn big big := fun w hw => ⟨hw, good_of_word (List.all_eq_true.mp h w hw)⟩
def R_B : String := "WireSlave$Bytes"
def F_B : u_T := fun k => match k with
  | 0 => ("WireSlave$Bytes", "row", "[I", true)
  | _ => ("WireSlave$Bytes", "size", "I", false)
def ft_B : Nat → FieldType := fun k => match k with
  | 0 => .array .int
  | _ => .int
theorem nm_B : ∀ a, a < 2 → ∀ b, b < 2 → a ≠ b → (F_B a).2.1 ≠ (F_B b).2.1 := by decide +kernel
theorem tok_B : ∀ k, k < 2 → parseFieldDescriptor (F_B k).2.2.1 = some (ft_B k) := by decide +kernel
theorem in0_B : ∀ w ∈ u_ws R_B F_B 2, w ∈ lw_tbl := by decide +kernel
theorem ig0_B : (u_ws R_B F_B 2).all goodWord = true := by decide +kernel
theorem in_B : ∀ w ∈ u_ws R_B F_B 2, w ∈ lw_g := fun w h => gm_ (in0_B w h) (List.all_eq_true.mp ig0_B w h)
def R_T : String := "WireSlave$Table"
def F_T : u_T := fun k => match k with
  | 0 => ("WireSlave$Table", "places", "[I", true)
  | _ => ("WireSlave$Table", "most", "I", true)
def ft_T : Nat → FieldType := fun k => match k with
  | 0 => .array .int
  | _ => .int
theorem nm_T : ∀ a, a < 2 → ∀ b, b < 2 → a ≠ b → (F_T a).2.1 ≠ (F_T b).2.1 := by decide +kernel
theorem tok_T : ∀ k, k < 2 → parseFieldDescriptor (F_T k).2.2.1 = some (ft_T k) := by decide +kernel
theorem in0_T : ∀ w ∈ u_ws R_T F_T 2, w ∈ lw_tbl := by decide +kernel
theorem ig0_T : (u_ws R_T F_T 2).all goodWord = true := by decide +kernel
theorem in_T : ∀ w ∈ u_ws R_T F_T 2, w ∈ lw_g := fun w h => gm_ (in0_T w h) (List.all_eq_true.mp ig0_T w h)
def R_W : String := "WireSlave"
def F_W : u_T := fun k => match k with
  | 0 => ("WireSlave", "address", "I", true)
  | 1 => ("WireSlave", "coils", "LWireSlave$Table;", true)
  | 2 => ("WireSlave", "switches", "LWireSlave$Table;", true)
  | 3 => ("WireSlave", "registers", "LWireSlave$Table;", true)
  | 4 => ("WireSlave", "meters", "LWireSlave$Table;", true)
  | 5 => ("WireSlave", "frame", "LWireSlave$Bytes;", true)
  | 6 => ("WireSlave", "answer", "LWireSlave$Bytes;", true)
  | 7 => ("WireSlave", "counts", "[I", true)
  | 8 => ("WireSlave", "gap", "I", false)
  | _ => ("WireSlave", "spoilt", "Z", false)
def ft_W : Nat → FieldType := fun k => match k with
  | 0 => .int
  | 1 => .object "WireSlave$Table"
  | 2 => .object "WireSlave$Table"
  | 3 => .object "WireSlave$Table"
  | 4 => .object "WireSlave$Table"
  | 5 => .object "WireSlave$Bytes"
  | 6 => .object "WireSlave$Bytes"
  | 7 => .array .int
  | 8 => .int
  | _ => .boolean
theorem nm_W : ∀ a, a < 10 → ∀ b, b < 10 → a ≠ b → (F_W a).2.1 ≠ (F_W b).2.1 := by decide +kernel
theorem tok_W : ∀ k, k < 10 → parseFieldDescriptor (F_W k).2.2.1 = some (ft_W k) := by decide +kernel
theorem in0_W : ∀ w ∈ u_ws R_W F_W 10, w ∈ lw_tbl := by decide +kernel
theorem ig0_W : (u_ws R_W F_W 10).all goodWord = true := by decide +kernel
theorem in_W : ∀ w ∈ u_ws R_W F_W 10, w ∈ lw_g := fun w h => gm_ (in0_W w h) (List.all_eq_true.mp ig0_W w h)
def R_M : String := "WireSlaveModel"
def F_M : u_T := fun k => match k with
  | 0 => ("WireSlaveModel", "thrown", "I", false)
  | 1 => ("WireSlaveModel", "own", "I", true)
  | 2 => ("WireSlaveModel", "coils", "[I", true)
  | 3 => ("WireSlaveModel", "switches", "[I", true)
  | 4 => ("WireSlaveModel", "registers", "[I", true)
  | 5 => ("WireSlaveModel", "meters", "[I", true)
  | 6 => ("WireSlaveModel", "frame", "[I", true)
  | 7 => ("WireSlaveModel", "many", "I", false)
  | 8 => ("WireSlaveModel", "gap", "I", false)
  | 9 => ("WireSlaveModel", "spoilt", "Z", false)
  | 10 => ("WireSlaveModel", "reply", "[I", true)
  | 11 => ("WireSlaveModel", "size", "I", false)
  | _ => ("WireSlaveModel", "counts", "[I", true)
def ft_M : Nat → FieldType := fun k => match k with
  | 0 => .int
  | 1 => .int
  | 2 => .array .int
  | 3 => .array .int
  | 4 => .array .int
  | 5 => .array .int
  | 6 => .array .int
  | 7 => .int
  | 8 => .int
  | 9 => .boolean
  | 10 => .array .int
  | 11 => .int
  | _ => .array .int
theorem nm_M : ∀ a, a < 13 → ∀ b, b < 13 → a ≠ b → (F_M a).2.1 ≠ (F_M b).2.1 := by decide +kernel
theorem tok_M : ∀ k, k < 13 → parseFieldDescriptor (F_M k).2.2.1 = some (ft_M k) := by decide +kernel
theorem in0_M : ∀ w ∈ u_ws R_M F_M 13, w ∈ lw_tbl := by decide +kernel
theorem ig0_M : (u_ws R_M F_M 13).all goodWord = true := by decide +kernel
theorem in_M : ∀ w ∈ u_ws R_M F_M 13, w ∈ lw_g := fun w h => gm_ (in0_M w h) (List.all_eq_true.mp ig0_M w h)
abbrev vwCl : List vw_C := [(R_B, F_B, 2), (R_T, F_T, 2), (R_W, F_W, 10), (R_M, F_M, 13)]
theorem lw_good : GoodIn lw_g lw_g := goodIn_sb (List.all_eq_true.mpr (fun w h => (List.mem_filter.mp h).2))
theorem goodC_ {c : Cond} (h : c ∈ lw_g) : GoodIn lw_g (c :: lw_g) := fun w hw => (List.mem_cons.mp hw).elim (fun e => by rw [e]; exact lw_good c h) (lw_good w)
theorem goodA_ {as bs : List Cond} (ha : ∀ w ∈ as, w ∈ lw_g) (hb : GoodIn lw_g bs) : GoodIn lw_g (as ++ bs) := fun w hw => (List.mem_append.mp hw).elim (fun h => lw_good w (ha w h)) (hb w)
theorem goodV_ {own C : String} {i mL : Nat} {y : MethodName} {cc : ByteArray} {rt : Option FieldType} (h1 : Cond.methodLink own i y ∈ lw_g) (h2 : Cond.instanceMethod y ∈ lw_g) (h3 : Cond.selects C y y ∈ lw_g) (h4 : Cond.initialized C ∈ lw_g) (h5 : Cond.code y cc mL rt ∈ lw_g) : GoodIn lw_g (wsV own i C y (Cond.code y cc mL rt :: lw_g)) := goodA_ (fun w hw => by
  rcases List.mem_cons.mp hw with rfl | hw
  · exact h1
  rcases List.mem_cons.mp hw with rfl | hw
  · exact h2
  rcases List.mem_cons.mp hw with rfl | hw
  · exact h3
  rcases List.mem_cons.mp hw with rfl | hw
  · exact h4
  exact absurd hw List.not_mem_nil) (goodC_ h5)
theorem goodS_ {own : String} {i mL : Nat} {y : MethodName} {cc : ByteArray} {rt : Option FieldType} (h1 : Cond.methodLink own i y ∈ lw_g) (h2 : Cond.static y ∈ lw_g) (h3 : Cond.initialized y.cls ∈ lw_g) (h5 : Cond.code y cc mL rt ∈ lw_g) : GoodIn lw_g (va_wsS own i y (Cond.code y cc mL rt :: lw_g)) := goodA_ (fun w hw => by
  rcases List.mem_cons.mp hw with rfl | hw
  · exact h1
  rcases List.mem_cons.mp hw with rfl | hw
  · exact h2
  rcases List.mem_cons.mp hw with rfl | hw
  · exact h3
  exact absurd hw List.not_mem_nil) (goodC_ h5)
def y_W_init : MethodName := ⟨"WireSlave", "<init>", "(I)V"⟩
abbrev b_W_init : ByteArray := prog_1_method_1_code
theorem cd_W_init : Cond.code y_W_init b_W_init 2 none ∈ lw_g := gm_ (List.mem_of_getElem? (i := 44) rfl) rfl
abbrev w_W_init : List Cond := Cond.code y_W_init b_W_init 2 none :: lw_g
def y_W_hear : MethodName := ⟨"WireSlave", "hear", "(I)I"⟩
abbrev b_W_hear : ByteArray := prog_1_method_2_code
theorem cd_W_hear : Cond.code y_W_hear b_W_hear 2 (some .int) ∈ lw_g := gm_ (List.mem_of_getElem? (i := 116) rfl) rfl
abbrev w_W_hear : List Cond := Cond.code y_W_hear b_W_hear 2 (some .int) :: lw_g
def y_W_listen : MethodName := ⟨"WireSlave", "listen", "(IJ)I"⟩
abbrev b_W_listen : ByteArray := prog_1_method_3_code
theorem cd_W_listen : Cond.code y_W_listen b_W_listen 5 (some .int) ∈ lw_g := gm_ (List.mem_of_getElem? (i := 132) rfl) rfl
abbrev w_W_listen : List Cond := Cond.code y_W_listen b_W_listen 5 (some .int) :: lw_g
def y_W_rest : MethodName := ⟨"WireSlave", "rest", "(I)I"⟩
abbrev b_W_rest : ByteArray := prog_1_method_4_code
theorem cd_W_rest : Cond.code y_W_rest b_W_rest 2 (some .int) ∈ lw_g := gm_ (List.mem_of_getElem? (i := 139) rfl) rfl
abbrev w_W_rest : List Cond := Cond.code y_W_rest b_W_rest 2 (some .int) :: lw_g
def y_W_reply : MethodName := ⟨"WireSlave", "reply", "(I)I"⟩
abbrev b_W_reply : ByteArray := prog_1_method_5_code
theorem cd_W_reply : Cond.code y_W_reply b_W_reply 2 (some .int) ∈ lw_g := gm_ (List.mem_of_getElem? (i := 269) rfl) rfl
abbrev w_W_reply : List Cond := Cond.code y_W_reply b_W_reply 2 (some .int) :: lw_g
def y_W_set : MethodName := ⟨"WireSlave", "set", "(III)I"⟩
abbrev b_W_set : ByteArray := prog_1_method_6_code
theorem cd_W_set : Cond.code y_W_set b_W_set 5 (some .int) ∈ lw_g := gm_ (List.mem_of_getElem? (i := 273) rfl) rfl
abbrev w_W_set : List Cond := Cond.code y_W_set b_W_set 5 (some .int) :: lw_g
def y_W_get : MethodName := ⟨"WireSlave", "get", "(II)I"⟩
abbrev b_W_get : ByteArray := prog_1_method_7_code
theorem cd_W_get : Cond.code y_W_get b_W_get 4 (some .int) ∈ lw_g := gm_ (List.mem_of_getElem? (i := 281) rfl) rfl
abbrev w_W_get : List Cond := Cond.code y_W_get b_W_get 4 (some .int) :: lw_g
def y_W_count : MethodName := ⟨"WireSlave", "count", "(I)I"⟩
abbrev b_W_count : ByteArray := prog_1_method_8_code
theorem cd_W_count : Cond.code y_W_count b_W_count 2 (some .int) ∈ lw_g := gm_ (List.mem_of_getElem? (i := 285) rfl) rfl
abbrev w_W_count : List Cond := Cond.code y_W_count b_W_count 2 (some .int) :: lw_g
def y_W_sum : MethodName := ⟨"WireSlave", "sum", "(IJ)I"⟩
abbrev b_W_sum : ByteArray := prog_1_method_9_code
theorem cd_W_sum : Cond.code y_W_sum b_W_sum 6 (some .int) ∈ lw_g := gm_ (List.mem_of_getElem? (i := 289) rfl) rfl
abbrev w_W_sum : List Cond := Cond.code y_W_sum b_W_sum 6 (some .int) :: lw_g
def y_W_byteOf : MethodName := ⟨"WireSlave", "byteOf", "(JI)I"⟩
abbrev b_W_byteOf : ByteArray := prog_1_method_10_code
theorem cd_W_byteOf : Cond.code y_W_byteOf b_W_byteOf 3 (some .int) ∈ lw_g := gm_ (List.mem_of_getElem? (i := 135) rfl) rfl
abbrev w_W_byteOf : List Cond := Cond.code y_W_byteOf b_W_byteOf 3 (some .int) :: lw_g
def y_W_sumWith : MethodName := ⟨"WireSlave", "sumWith", "(II)I"⟩
abbrev b_W_sumWith : ByteArray := prog_1_method_11_code
theorem cd_W_sumWith : Cond.code y_W_sumWith b_W_sumWith 5 (some .int) ∈ lw_g := gm_ (List.mem_of_getElem? (i := 174) rfl) rfl
abbrev w_W_sumWith : List Cond := Cond.code y_W_sumWith b_W_sumWith 5 (some .int) :: lw_g
def y_W_isFromTo : MethodName := ⟨"WireSlave", "isFromTo", "(III)Z"⟩
abbrev b_W_isFromTo : ByteArray := prog_1_method_12_code
theorem cd_W_isFromTo : Cond.code y_W_isFromTo b_W_isFromTo 3 (some .boolean) ∈ lw_g := gm_ (List.mem_of_getElem? (i := 158) rfl) rfl
abbrev w_W_isFromTo : List Cond := Cond.code y_W_isFromTo b_W_isFromTo 3 (some .boolean) :: lw_g
def y_W_bytesForBits : MethodName := ⟨"WireSlave", "bytesForBits", "(I)I"⟩
abbrev b_W_bytesForBits : ByteArray := prog_1_method_13_code
theorem cd_W_bytesForBits : Cond.code y_W_bytesForBits b_W_bytesForBits 1 (some .int) ∈ lw_g := gm_ (List.mem_of_getElem? (i := 216) rfl) rfl
abbrev w_W_bytesForBits : List Cond := Cond.code y_W_bytesForBits b_W_bytesForBits 1 (some .int) :: lw_g
def y_W_tableNumbered : MethodName := ⟨"WireSlave", "tableNumbered", "(I)LWireSlave$Table;"⟩
abbrev b_W_tableNumbered : ByteArray := prog_1_method_14_code
theorem cd_W_tableNumbered : Cond.code y_W_tableNumbered b_W_tableNumbered 2 (some (.object "WireSlave$Table")) ∈ lw_g := gm_ (List.mem_of_getElem? (i := 277) rfl) rfl
abbrev w_W_tableNumbered : List Cond := Cond.code y_W_tableNumbered b_W_tableNumbered 2 (some (.object "WireSlave$Table")) :: lw_g
def y_W_tableOfFunction : MethodName := ⟨"WireSlave", "tableOfFunction", "(I)LWireSlave$Table;"⟩
abbrev b_W_tableOfFunction : ByteArray := prog_1_method_15_code
theorem cd_W_tableOfFunction : Cond.code y_W_tableOfFunction b_W_tableOfFunction 2 (some (.object "WireSlave$Table")) ∈ lw_g := gm_ (List.mem_of_getElem? (i := 200) rfl) rfl
abbrev w_W_tableOfFunction : List Cond := Cond.code y_W_tableOfFunction b_W_tableOfFunction 2 (some (.object "WireSlave$Table")) :: lw_g
def y_W_tally : MethodName := ⟨"WireSlave", "tally", "(I)V"⟩
abbrev b_W_tally : ByteArray := prog_1_method_16_code
theorem cd_W_tally : Cond.code y_W_tally b_W_tally 2 none ∈ lw_g := gm_ (List.mem_of_getElem? (i := 151) rfl) rfl
abbrev w_W_tally : List Cond := Cond.code y_W_tally b_W_tally 2 none :: lw_g
def y_W_takeByte : MethodName := ⟨"WireSlave", "takeByte", "(I)V"⟩
abbrev b_W_takeByte : ByteArray := prog_1_method_17_code
theorem cd_W_takeByte : Cond.code y_W_takeByte b_W_takeByte 2 none ∈ lw_g := gm_ (List.mem_of_getElem? (i := 120) rfl) rfl
abbrev w_W_takeByte : List Cond := Cond.code y_W_takeByte b_W_takeByte 2 none :: lw_g
def y_W_endFrame : MethodName := ⟨"WireSlave", "endFrame", "()V"⟩
abbrev b_W_endFrame : ByteArray := prog_1_method_18_code
theorem cd_W_endFrame : Cond.code y_W_endFrame b_W_endFrame 1 none ∈ lw_g := gm_ (List.mem_of_getElem? (i := 143) rfl) rfl
abbrev w_W_endFrame : List Cond := Cond.code y_W_endFrame b_W_endFrame 1 none :: lw_g
def y_W_isThrownAway : MethodName := ⟨"WireSlave", "isThrownAway", "()Z"⟩
abbrev b_W_isThrownAway : ByteArray := prog_1_method_19_code
theorem cd_W_isThrownAway : Cond.code y_W_isThrownAway b_W_isThrownAway 1 (some .boolean) ∈ lw_g := gm_ (List.mem_of_getElem? (i := 155) rfl) rfl
abbrev w_W_isThrownAway : List Cond := Cond.code y_W_isThrownAway b_W_isThrownAway 1 (some .boolean) :: lw_g
def y_W_isForOthers : MethodName := ⟨"WireSlave", "isForOthers", "()Z"⟩
abbrev b_W_isForOthers : ByteArray := prog_1_method_20_code
theorem cd_W_isForOthers : Cond.code y_W_isForOthers b_W_isForOthers 2 (some .boolean) ∈ lw_g := gm_ (List.mem_of_getElem? (i := 179) rfl) rfl
abbrev w_W_isForOthers : List Cond := Cond.code y_W_isForOthers b_W_isForOthers 2 (some .boolean) :: lw_g
def y_W_dataSize : MethodName := ⟨"WireSlave", "dataSize", "()I"⟩
abbrev b_W_dataSize : ByteArray := prog_1_method_21_code
theorem cd_W_dataSize : Cond.code y_W_dataSize b_W_dataSize 1 (some .int) ∈ lw_g := gm_ (List.mem_of_getElem? (i := 208) rfl) rfl
abbrev w_W_dataSize : List Cond := Cond.code y_W_dataSize b_W_dataSize 1 (some .int) :: lw_g
def y_W_data : MethodName := ⟨"WireSlave", "data", "(I)I"⟩
abbrev b_W_data : ByteArray := prog_1_method_22_code
theorem cd_W_data : Cond.code y_W_data b_W_data 2 (some .int) ∈ lw_g := gm_ (List.mem_of_getElem? (i := 192) rfl) rfl
abbrev w_W_data : List Cond := Cond.code y_W_data b_W_data 2 (some .int) :: lw_g
def y_W_dataNumber : MethodName := ⟨"WireSlave", "dataNumber", "(I)I"⟩
abbrev b_W_dataNumber : ByteArray := prog_1_method_23_code
theorem cd_W_dataNumber : Cond.code y_W_dataNumber b_W_dataNumber 2 (some .int) ∈ lw_g := gm_ (List.mem_of_getElem? (i := 188) rfl) rfl
abbrev w_W_dataNumber : List Cond := Cond.code y_W_dataNumber b_W_dataNumber 2 (some .int) :: lw_g
def y_W_answerRequest : MethodName := ⟨"WireSlave", "answerRequest", "()V"⟩
abbrev b_W_answerRequest : ByteArray := prog_1_method_24_code
theorem cd_W_answerRequest : Cond.code y_W_answerRequest b_W_answerRequest 5 none ∈ lw_g := gm_ (List.mem_of_getElem? (i := 184) rfl) rfl
abbrev w_W_answerRequest : List Cond := Cond.code y_W_answerRequest b_W_answerRequest 5 none :: lw_g
def y_W_refusalOf : MethodName := ⟨"WireSlave", "refusalOf", "(III)I"⟩
abbrev b_W_refusalOf : ByteArray := prog_1_method_25_code
theorem cd_W_refusalOf : Cond.code y_W_refusalOf b_W_refusalOf 7 (some .int) ∈ lw_g := gm_ (List.mem_of_getElem? (i := 196) rfl) rfl
abbrev w_W_refusalOf : List Cond := Cond.code y_W_refusalOf b_W_refusalOf 7 (some .int) :: lw_g
def y_W_isDueSize : MethodName := ⟨"WireSlave", "isDueSize", "(I)Z"⟩
abbrev b_W_isDueSize : ByteArray := prog_1_method_26_code
theorem cd_W_isDueSize : Cond.code y_W_isDueSize b_W_isDueSize 2 (some .boolean) ∈ lw_g := gm_ (List.mem_of_getElem? (i := 204) rfl) rfl
abbrev w_W_isDueSize : List Cond := Cond.code y_W_isDueSize b_W_isDueSize 2 (some .boolean) :: lw_g
def y_W_isDueAmount : MethodName := ⟨"WireSlave", "isDueAmount", "(II)Z"⟩
abbrev b_W_isDueAmount : ByteArray := prog_1_method_27_code
theorem cd_W_isDueAmount : Cond.code y_W_isDueAmount b_W_isDueAmount 3 (some .boolean) ∈ lw_g := gm_ (List.mem_of_getElem? (i := 212) rfl) rfl
abbrev w_W_isDueAmount : List Cond := Cond.code y_W_isDueAmount b_W_isDueAmount 3 (some .boolean) :: lw_g
def y_W_carryOut : MethodName := ⟨"WireSlave", "carryOut", "(III)V"⟩
abbrev b_W_carryOut : ByteArray := prog_1_method_28_code
theorem cd_W_carryOut : Cond.code y_W_carryOut b_W_carryOut 4 none ∈ lw_g := gm_ (List.mem_of_getElem? (i := 224) rfl) rfl
abbrev w_W_carryOut : List Cond := Cond.code y_W_carryOut b_W_carryOut 4 none :: lw_g
def y_W_writeCoils : MethodName := ⟨"WireSlave", "writeCoils", "(II)V"⟩
abbrev b_W_writeCoils : ByteArray := prog_1_method_29_code
theorem cd_W_writeCoils : Cond.code y_W_writeCoils b_W_writeCoils 4 none ∈ lw_g := gm_ (List.mem_of_getElem? (i := 233) rfl) rfl
abbrev w_W_writeCoils : List Cond := Cond.code y_W_writeCoils b_W_writeCoils 4 none :: lw_g
def y_W_writeRegisters : MethodName := ⟨"WireSlave", "writeRegisters", "(II)V"⟩
abbrev b_W_writeRegisters : ByteArray := prog_1_method_30_code
theorem cd_W_writeRegisters : Cond.code y_W_writeRegisters b_W_writeRegisters 4 none ∈ lw_g := gm_ (List.mem_of_getElem? (i := 237) rfl) rfl
abbrev w_W_writeRegisters : List Cond := Cond.code y_W_writeRegisters b_W_writeRegisters 4 none :: lw_g
def y_W_appendResult : MethodName := ⟨"WireSlave", "appendResult", "(III)V"⟩
abbrev b_W_appendResult : ByteArray := prog_1_method_31_code
theorem cd_W_appendResult : Cond.code y_W_appendResult b_W_appendResult 4 none ∈ lw_g := gm_ (List.mem_of_getElem? (i := 241) rfl) rfl
abbrev w_W_appendResult : List Cond := Cond.code y_W_appendResult b_W_appendResult 4 none :: lw_g
def y_W_appendBits : MethodName := ⟨"WireSlave", "appendBits", "(LWireSlave$Table;II)V"⟩
abbrev b_W_appendBits : ByteArray := prog_1_method_32_code
theorem cd_W_appendBits : Cond.code y_W_appendBits b_W_appendBits 5 none ∈ lw_g := gm_ (List.mem_of_getElem? (i := 245) rfl) rfl
abbrev w_W_appendBits : List Cond := Cond.code y_W_appendBits b_W_appendBits 5 none :: lw_g
def y_W_packedBits : MethodName := ⟨"WireSlave", "packedBits", "(LWireSlave$Table;II)I"⟩
abbrev b_W_packedBits : ByteArray := prog_1_method_33_code
theorem cd_W_packedBits : Cond.code y_W_packedBits b_W_packedBits 5 (some .int) ∈ lw_g := gm_ (List.mem_of_getElem? (i := 248) rfl) rfl
abbrev w_W_packedBits : List Cond := Cond.code y_W_packedBits b_W_packedBits 5 (some .int) :: lw_g
def y_W_appendNumbers : MethodName := ⟨"WireSlave", "appendNumbers", "(LWireSlave$Table;II)V"⟩
abbrev b_W_appendNumbers : ByteArray := prog_1_method_34_code
theorem cd_W_appendNumbers : Cond.code y_W_appendNumbers b_W_appendNumbers 6 none ∈ lw_g := gm_ (List.mem_of_getElem? (i := 256) rfl) rfl
abbrev w_W_appendNumbers : List Cond := Cond.code y_W_appendNumbers b_W_appendNumbers 6 none :: lw_g
def y_W_appendEcho : MethodName := ⟨"WireSlave", "appendEcho", "()V"⟩
abbrev b_W_appendEcho : ByteArray := prog_1_method_35_code
theorem cd_W_appendEcho : Cond.code y_W_appendEcho b_W_appendEcho 2 none ∈ lw_g := gm_ (List.mem_of_getElem? (i := 260) rfl) rfl
abbrev w_W_appendEcho : List Cond := Cond.code y_W_appendEcho b_W_appendEcho 2 none :: lw_g
def y_M_init : MethodName := ⟨"WireSlaveModel", "<init>", "(I)V"⟩
abbrev b_M_init : ByteArray := prog_5_method_1_code
theorem cd_M_init : Cond.code y_M_init b_M_init 2 none ∈ lw_g := gm_ (List.mem_of_getElem? (i := 298) rfl) rfl
abbrev w_M_init : List Cond := Cond.code y_M_init b_M_init 2 none :: lw_g
def y_M_hear : MethodName := ⟨"WireSlaveModel", "hear", "(I)I"⟩
abbrev b_M_hear : ByteArray := prog_5_method_3_code
theorem cd_M_hear : Cond.code y_M_hear b_M_hear 2 (some .int) ∈ lw_g := gm_ (List.mem_of_getElem? (i := 343) rfl) rfl
abbrev w_M_hear : List Cond := Cond.code y_M_hear b_M_hear 2 (some .int) :: lw_g
def y_M_listen : MethodName := ⟨"WireSlaveModel", "listen", "(IJ)I"⟩
abbrev b_M_listen : ByteArray := prog_5_method_4_code
theorem cd_M_listen : Cond.code y_M_listen b_M_listen 6 (some .int) ∈ lw_g := gm_ (List.mem_of_getElem? (i := 347) rfl) rfl
abbrev w_M_listen : List Cond := Cond.code y_M_listen b_M_listen 6 (some .int) :: lw_g
def y_M_rest : MethodName := ⟨"WireSlaveModel", "rest", "(I)I"⟩
abbrev b_M_rest : ByteArray := prog_5_method_5_code
theorem cd_M_rest : Cond.code y_M_rest b_M_rest 3 (some .int) ∈ lw_g := gm_ (List.mem_of_getElem? (i := 353) rfl) rfl
abbrev w_M_rest : List Cond := Cond.code y_M_rest b_M_rest 3 (some .int) :: lw_g
def y_M_with : MethodName := ⟨"WireSlaveModel", "with", "(II)I"⟩
abbrev b_M_with : ByteArray := prog_5_method_6_code
theorem cd_M_with : Cond.code y_M_with b_M_with 5 (some .int) ∈ lw_g := gm_ (List.mem_of_getElem? (i := 366) rfl) rfl
abbrev w_M_with : List Cond := Cond.code y_M_with b_M_with 5 (some .int) :: lw_g
def y_M_sumOf : MethodName := ⟨"WireSlaveModel", "sumOf", "([II)I"⟩
abbrev b_M_sumOf : ByteArray := prog_5_method_7_code
theorem cd_M_sumOf : Cond.code y_M_sumOf b_M_sumOf 5 (some .int) ∈ lw_g := gm_ (List.mem_of_getElem? (i := 361) rfl) rfl
abbrev w_M_sumOf : List Cond := Cond.code y_M_sumOf b_M_sumOf 5 (some .int) :: lw_g
def y_M_sum : MethodName := ⟨"WireSlaveModel", "sum", "(IJ)I"⟩
abbrev b_M_sum : ByteArray := prog_5_method_8_code
theorem cd_M_sum : Cond.code y_M_sum b_M_sum 6 (some .int) ∈ lw_g := gm_ (List.mem_of_getElem? (i := 400) rfl) rfl
abbrev w_M_sum : List Cond := Cond.code y_M_sum b_M_sum 6 (some .int) :: lw_g
def y_M_data : MethodName := ⟨"WireSlaveModel", "data", "(I)I"⟩
abbrev b_M_data : ByteArray := prog_5_method_9_code
theorem cd_M_data : Cond.code y_M_data b_M_data 2 (some .int) ∈ lw_g := gm_ (List.mem_of_getElem? (i := 375) rfl) rfl
abbrev w_M_data : List Cond := Cond.code y_M_data b_M_data 2 (some .int) :: lw_g
def y_M_two : MethodName := ⟨"WireSlaveModel", "two", "(I)I"⟩
abbrev b_M_two : ByteArray := prog_5_method_10_code
theorem cd_M_two : Cond.code y_M_two b_M_two 2 (some .int) ∈ lw_g := gm_ (List.mem_of_getElem? (i := 379) rfl) rfl
abbrev w_M_two : List Cond := Cond.code y_M_two b_M_two 2 (some .int) :: lw_g
def y_M_ends : MethodName := ⟨"WireSlaveModel", "ends", "()I"⟩
abbrev b_M_ends : ByteArray := prog_5_method_11_code
theorem cd_M_ends : Cond.code y_M_ends b_M_ends 4 (some .int) ∈ lw_g := gm_ (List.mem_of_getElem? (i := 357) rfl) rfl
abbrev w_M_ends : List Cond := Cond.code y_M_ends b_M_ends 4 (some .int) :: lw_g
def y_M_add : MethodName := ⟨"WireSlaveModel", "add", "(I)V"⟩
abbrev b_M_add : ByteArray := prog_5_method_12_code
theorem cd_M_add : Cond.code y_M_add b_M_add 2 none ∈ lw_g := gm_ (List.mem_of_getElem? (i := 392) rfl) rfl
abbrev w_M_add : List Cond := Cond.code y_M_add b_M_add 2 none :: lw_g
def y_M_table : MethodName := ⟨"WireSlaveModel", "table", "(I)[I"⟩
abbrev b_M_table : ByteArray := prog_5_method_13_code
theorem cd_M_table : Cond.code y_M_table b_M_table 2 (some (.array .int)) ∈ lw_g := gm_ (List.mem_of_getElem? (i := 384) rfl) rfl
abbrev w_M_table : List Cond := Cond.code y_M_table b_M_table 2 (some (.array .int)) :: lw_g
def y_M_why : MethodName := ⟨"WireSlaveModel", "why", "(II)I"⟩
abbrev b_M_why : ByteArray := prog_5_method_14_code
theorem cd_M_why : Cond.code y_M_why b_M_why 7 (some .int) ∈ lw_g := gm_ (List.mem_of_getElem? (i := 371) rfl) rfl
abbrev w_M_why : List Cond := Cond.code y_M_why b_M_why 7 (some .int) :: lw_g
def y_M_act : MethodName := ⟨"WireSlaveModel", "act", "(I)V"⟩
abbrev b_M_act : ByteArray := prog_5_method_15_code
theorem cd_M_act : Cond.code y_M_act b_M_act 5 none ∈ lw_g := gm_ (List.mem_of_getElem? (i := 388) rfl) rfl
abbrev w_M_act : List Cond := Cond.code y_M_act b_M_act 5 none :: lw_g
def y_M_answer : MethodName := ⟨"WireSlaveModel", "answer", "(I)V"⟩
abbrev b_M_answer : ByteArray := prog_5_method_16_code
theorem cd_M_answer : Cond.code y_M_answer b_M_answer 7 none ∈ lw_g := gm_ (List.mem_of_getElem? (i := 396) rfl) rfl
abbrev w_M_answer : List Cond := Cond.code y_M_answer b_M_answer 7 none :: lw_g
def y_M_reply : MethodName := ⟨"WireSlaveModel", "reply", "(I)I"⟩
abbrev b_M_reply : ByteArray := prog_5_method_17_code
theorem cd_M_reply : Cond.code y_M_reply b_M_reply 2 (some .int) ∈ lw_g := gm_ (List.mem_of_getElem? (i := 404) rfl) rfl
abbrev w_M_reply : List Cond := Cond.code y_M_reply b_M_reply 2 (some .int) :: lw_g
def y_M_noPlace : MethodName := ⟨"WireSlaveModel", "noPlace", "(II)Z"⟩
abbrev b_M_noPlace : ByteArray := prog_5_method_18_code
theorem cd_M_noPlace : Cond.code y_M_noPlace b_M_noPlace 3 (some .boolean) ∈ lw_g := gm_ (List.mem_of_getElem? (i := 412) rfl) rfl
abbrev w_M_noPlace : List Cond := Cond.code y_M_noPlace b_M_noPlace 3 (some .boolean) :: lw_g
def y_M_byNumber : MethodName := ⟨"WireSlaveModel", "byNumber", "(I)[I"⟩
abbrev b_M_byNumber : ByteArray := prog_5_method_19_code
theorem cd_M_byNumber : Cond.code y_M_byNumber b_M_byNumber 2 (some (.array .int)) ∈ lw_g := gm_ (List.mem_of_getElem? (i := 416) rfl) rfl
abbrev w_M_byNumber : List Cond := Cond.code y_M_byNumber b_M_byNumber 2 (some (.array .int)) :: lw_g
def y_M_set : MethodName := ⟨"WireSlaveModel", "set", "(III)I"⟩
abbrev b_M_set : ByteArray := prog_5_method_20_code
theorem cd_M_set : Cond.code y_M_set b_M_set 5 (some .int) ∈ lw_g := gm_ (List.mem_of_getElem? (i := 408) rfl) rfl
abbrev w_M_set : List Cond := Cond.code y_M_set b_M_set 5 (some .int) :: lw_g
def y_M_get : MethodName := ⟨"WireSlaveModel", "get", "(II)I"⟩
abbrev b_M_get : ByteArray := prog_5_method_21_code
theorem cd_M_get : Cond.code y_M_get b_M_get 3 (some .int) ∈ lw_g := gm_ (List.mem_of_getElem? (i := 420) rfl) rfl
abbrev w_M_get : List Cond := Cond.code y_M_get b_M_get 3 (some .int) :: lw_g
def y_M_count : MethodName := ⟨"WireSlaveModel", "count", "(I)I"⟩
abbrev b_M_count : ByteArray := prog_5_method_22_code
theorem cd_M_count : Cond.code y_M_count b_M_count 2 (some .int) ∈ lw_g := gm_ (List.mem_of_getElem? (i := 424) rfl) rfl
abbrev w_M_count : List Cond := Cond.code y_M_count b_M_count 2 (some .int) :: lw_g
def y_B_init : MethodName := ⟨"WireSlave$Bytes", "<init>", "([I)V"⟩
abbrev b_B_init : ByteArray := prog_2_method_1_code
theorem cd_B_init : Cond.code y_B_init b_B_init 2 none ∈ lw_g := gm_ (List.mem_of_getElem? (i := 73) rfl) rfl
abbrev w_B_init : List Cond := Cond.code y_B_init b_B_init 2 none :: lw_g
def y_B_size : MethodName := ⟨"WireSlave$Bytes", "size", "()I"⟩
abbrev b_B_size : ByteArray := prog_2_method_2_code
theorem cd_B_size : Cond.code y_B_size b_B_size 1 (some .int) ∈ lw_g := gm_ (List.mem_of_getElem? (i := 124) rfl) rfl
abbrev w_B_size : List Cond := Cond.code y_B_size b_B_size 1 (some .int) :: lw_g
def y_B_clear : MethodName := ⟨"WireSlave$Bytes", "clear", "()V"⟩
abbrev b_B_clear : ByteArray := prog_2_method_3_code
theorem cd_B_clear : Cond.code y_B_clear b_B_clear 1 none ∈ lw_g := gm_ (List.mem_of_getElem? (i := 147) rfl) rfl
abbrev w_B_clear : List Cond := Cond.code y_B_clear b_B_clear 1 none :: lw_g
def y_B_append : MethodName := ⟨"WireSlave$Bytes", "append", "(I)V"⟩
abbrev b_B_append : ByteArray := prog_2_method_4_code
theorem cd_B_append : Cond.code y_B_append b_B_append 2 none ∈ lw_g := gm_ (List.mem_of_getElem? (i := 128) rfl) rfl
abbrev w_B_append : List Cond := Cond.code y_B_append b_B_append 2 none :: lw_g
def y_B_at : MethodName := ⟨"WireSlave$Bytes", "at", "(I)I"⟩
abbrev b_B_at : ByteArray := prog_2_method_5_code
theorem cd_B_at : Cond.code y_B_at b_B_at 2 (some .int) ∈ lw_g := gm_ (List.mem_of_getElem? (i := 171) rfl) rfl
abbrev w_B_at : List Cond := Cond.code y_B_at b_B_at 2 (some .int) :: lw_g
def y_B_sumOfFirst : MethodName := ⟨"WireSlave$Bytes", "sumOfFirst", "(I)I"⟩
abbrev b_B_sumOfFirst : ByteArray := prog_2_method_6_code
theorem cd_B_sumOfFirst : Cond.code y_B_sumOfFirst b_B_sumOfFirst 4 (some .int) ∈ lw_g := gm_ (List.mem_of_getElem? (i := 166) rfl) rfl
abbrev w_B_sumOfFirst : List Cond := Cond.code y_B_sumOfFirst b_B_sumOfFirst 4 (some .int) :: lw_g
def y_B_endsWithItsSum : MethodName := ⟨"WireSlave$Bytes", "endsWithItsSum", "()Z"⟩
abbrev b_B_endsWithItsSum : ByteArray := prog_2_method_7_code
theorem cd_B_endsWithItsSum : Cond.code y_B_endsWithItsSum b_B_endsWithItsSum 2 (some .boolean) ∈ lw_g := gm_ (List.mem_of_getElem? (i := 162) rfl) rfl
abbrev w_B_endsWithItsSum : List Cond := Cond.code y_B_endsWithItsSum b_B_endsWithItsSum 2 (some .boolean) :: lw_g
def y_B_appendItsSum : MethodName := ⟨"WireSlave$Bytes", "appendItsSum", "()V"⟩
abbrev b_B_appendItsSum : ByteArray := prog_2_method_8_code
theorem cd_B_appendItsSum : Cond.code y_B_appendItsSum b_B_appendItsSum 2 none ∈ lw_g := gm_ (List.mem_of_getElem? (i := 264) rfl) rfl
abbrev w_B_appendItsSum : List Cond := Cond.code y_B_appendItsSum b_B_appendItsSum 2 none :: lw_g
def y_T_init : MethodName := ⟨"WireSlave$Table", "<init>", "([II)V"⟩
abbrev b_T_init : ByteArray := prog_3_method_1_code
theorem cd_T_init : Cond.code y_T_init b_T_init 3 none ∈ lw_g := gm_ (List.mem_of_getElem? (i := 58) rfl) rfl
abbrev w_T_init : List Cond := Cond.code y_T_init b_T_init 3 none :: lw_g
def y_T_has : MethodName := ⟨"WireSlave$Table", "has", "(I)Z"⟩
abbrev b_T_has : ByteArray := prog_3_method_2_code
theorem cd_T_has : Cond.code y_T_has b_T_has 2 (some .boolean) ∈ lw_g := gm_ (List.mem_of_getElem? (i := 220) rfl) rfl
abbrev w_T_has : List Cond := Cond.code y_T_has b_T_has 2 (some .boolean) :: lw_g
def y_T_at : MethodName := ⟨"WireSlave$Table", "at", "(I)I"⟩
abbrev b_T_at : ByteArray := prog_3_method_3_code
theorem cd_T_at : Cond.code y_T_at b_T_at 2 (some .int) ∈ lw_g := gm_ (List.mem_of_getElem? (i := 252) rfl) rfl
abbrev w_T_at : List Cond := Cond.code y_T_at b_T_at 2 (some .int) :: lw_g
def y_T_replace : MethodName := ⟨"WireSlave$Table", "replace", "(II)I"⟩
abbrev b_T_replace : ByteArray := prog_3_method_4_code
theorem cd_T_replace : Cond.code y_T_replace b_T_replace 4 (some .int) ∈ lw_g := gm_ (List.mem_of_getElem? (i := 228) rfl) rfl
abbrev w_T_replace : List Cond := Cond.code y_T_replace b_T_replace 4 (some .int) :: lw_g
def y_L_cell : MethodName := ⟨"WireSlaveLaw", "cell", "([II)I"⟩
abbrev b_L_cell : ByteArray := method_2_code
theorem cd_L_cell : Cond.code y_L_cell b_L_cell 2 (some .int) ∈ lw_g := gm_ (List.mem_of_getElem? (i := 293) rfl) rfl
abbrev w_L_cell : List Cond := Cond.code y_L_cell b_L_cell 2 (some .int) :: lw_g
def y_L_law : MethodName := ⟨"WireSlaveLaw", "law", "([I)Z"⟩
abbrev b_L_law : ByteArray := code
theorem fl_W_18 : Cond.fieldLink "WireSlave" 18 "WireSlave" "address" "I" ∈ lw_g := gm_ (List.mem_of_getElem? (i := 82) (by decide +kernel)) rfl
theorem fl_W_27 : Cond.fieldLink "WireSlave" 27 "WireSlave" "coils" "LWireSlave$Table;" ∈ lw_g := gm_ (List.mem_of_getElem? (i := 83) (by decide +kernel)) rfl
theorem fl_W_31 : Cond.fieldLink "WireSlave" 31 "WireSlave" "switches" "LWireSlave$Table;" ∈ lw_g := gm_ (List.mem_of_getElem? (i := 84) (by decide +kernel)) rfl
theorem fl_W_35 : Cond.fieldLink "WireSlave" 35 "WireSlave" "registers" "LWireSlave$Table;" ∈ lw_g := gm_ (List.mem_of_getElem? (i := 85) (by decide +kernel)) rfl
theorem fl_W_38 : Cond.fieldLink "WireSlave" 38 "WireSlave" "meters" "LWireSlave$Table;" ∈ lw_g := gm_ (List.mem_of_getElem? (i := 86) (by decide +kernel)) rfl
theorem fl_W_46 : Cond.fieldLink "WireSlave" 46 "WireSlave" "frame" "LWireSlave$Bytes;" ∈ lw_g := gm_ (List.mem_of_getElem? (i := 87) (by decide +kernel)) rfl
theorem fl_W_50 : Cond.fieldLink "WireSlave" 50 "WireSlave" "answer" "LWireSlave$Bytes;" ∈ lw_g := gm_ (List.mem_of_getElem? (i := 88) (by decide +kernel)) rfl
theorem fl_W_53 : Cond.fieldLink "WireSlave" 53 "WireSlave" "counts" "[I" ∈ lw_g := gm_ (List.mem_of_getElem? (i := 89) (by decide +kernel)) rfl
theorem fl_W_57 : Cond.fieldLink "WireSlave" 57 "WireSlave" "gap" "I" ∈ lw_g := gm_ (List.mem_of_getElem? (i := 90) (by decide +kernel)) rfl
theorem fl_W_60 : Cond.fieldLink "WireSlave" 60 "WireSlave" "spoilt" "Z" ∈ lw_g := gm_ (List.mem_of_getElem? (i := 91) (by decide +kernel)) rfl
theorem fl_B_9 : Cond.fieldLink "WireSlave$Bytes" 9 "WireSlave$Bytes" "row" "[I" ∈ lw_g := gm_ (List.mem_of_getElem? (i := 75) (by decide +kernel)) rfl
theorem fl_B_15 : Cond.fieldLink "WireSlave$Bytes" 15 "WireSlave$Bytes" "size" "I" ∈ lw_g := gm_ (List.mem_of_getElem? (i := 76) (by decide +kernel)) rfl
theorem fl_T_9 : Cond.fieldLink "WireSlave$Table" 9 "WireSlave$Table" "places" "[I" ∈ lw_g := gm_ (List.mem_of_getElem? (i := 60) (by decide +kernel)) rfl
theorem fl_T_15 : Cond.fieldLink "WireSlave$Table" 15 "WireSlave$Table" "most" "I" ∈ lw_g := gm_ (List.mem_of_getElem? (i := 61) (by decide +kernel)) rfl
theorem fl_M_7 : Cond.fieldLink "WireSlaveModel" 7 "WireSlaveModel" "coils" "[I" ∈ lw_g := gm_ (List.mem_of_getElem? (i := 302) (by decide +kernel)) rfl
theorem fl_M_13 : Cond.fieldLink "WireSlaveModel" 13 "WireSlaveModel" "switches" "[I" ∈ lw_g := gm_ (List.mem_of_getElem? (i := 303) (by decide +kernel)) rfl
theorem fl_M_16 : Cond.fieldLink "WireSlaveModel" 16 "WireSlaveModel" "registers" "[I" ∈ lw_g := gm_ (List.mem_of_getElem? (i := 304) (by decide +kernel)) rfl
theorem fl_M_19 : Cond.fieldLink "WireSlaveModel" 19 "WireSlaveModel" "meters" "[I" ∈ lw_g := gm_ (List.mem_of_getElem? (i := 305) (by decide +kernel)) rfl
theorem fl_M_22 : Cond.fieldLink "WireSlaveModel" 22 "WireSlaveModel" "frame" "[I" ∈ lw_g := gm_ (List.mem_of_getElem? (i := 306) (by decide +kernel)) rfl
theorem fl_M_25 : Cond.fieldLink "WireSlaveModel" 25 "WireSlaveModel" "reply" "[I" ∈ lw_g := gm_ (List.mem_of_getElem? (i := 310) (by decide +kernel)) rfl
theorem fl_M_28 : Cond.fieldLink "WireSlaveModel" 28 "WireSlaveModel" "counts" "[I" ∈ lw_g := gm_ (List.mem_of_getElem? (i := 312) (by decide +kernel)) rfl
theorem fl_M_31 : Cond.fieldLink "WireSlaveModel" 31 "WireSlaveModel" "own" "I" ∈ lw_g := gm_ (List.mem_of_getElem? (i := 301) (by decide +kernel)) rfl
theorem fl_M_35 : Cond.fieldLink "WireSlaveModel" 35 "WireSlaveModel" "thrown" "I" ∈ lw_g := gm_ (List.mem_of_getElem? (i := 300) (by decide +kernel)) rfl
theorem fl_M_38 : Cond.fieldLink "WireSlaveModel" 38 "WireSlaveModel" "spoilt" "Z" ∈ lw_g := gm_ (List.mem_of_getElem? (i := 309) (by decide +kernel)) rfl
theorem fl_M_42 : Cond.fieldLink "WireSlaveModel" 42 "WireSlaveModel" "many" "I" ∈ lw_g := gm_ (List.mem_of_getElem? (i := 307) (by decide +kernel)) rfl
theorem fl_M_45 : Cond.fieldLink "WireSlaveModel" 45 "WireSlaveModel" "gap" "I" ∈ lw_g := gm_ (List.mem_of_getElem? (i := 308) (by decide +kernel)) rfl
theorem fl_M_67 : Cond.fieldLink "WireSlaveModel" 67 "WireSlaveModel" "size" "I" ∈ lw_g := gm_ (List.mem_of_getElem? (i := 311) (by decide +kernel)) rfl
theorem kn_W_34 : Cond.constant "WireSlave" 34 65535 ∈ lw_g := gm_ (List.mem_of_getElem? (i := 68) (by decide +kernel)) rfl
theorem kn_W_94 : Cond.constant "WireSlave" 94 40961 ∈ lw_g := gm_ (List.mem_of_getElem? (i := 175) (by decide +kernel)) rfl
theorem kn_W_158 : Cond.constant "WireSlave" 158 65280 ∈ lw_g := gm_ (List.mem_of_getElem? (i := 213) (by decide +kernel)) rfl
theorem kn_B_19 : Cond.constant "WireSlave$Bytes" 19 65535 ∈ lw_g := gm_ (List.mem_of_getElem? (i := 167) (by decide +kernel)) rfl
theorem kn_L_26 : Cond.constantLong "WireSlaveLaw" 26 4294967295 ∈ lw_g := gm_ (List.mem_of_getElem? (i := 425) (by decide +kernel)) rfl
theorem kn_M_48 : Cond.constantLong "WireSlaveModel" 48 255 ∈ lw_g := gm_ (List.mem_of_getElem? (i := 348) (by decide +kernel)) rfl
theorem kn_M_58 : Cond.constant "WireSlaveModel" 58 40961 ∈ lw_g := gm_ (List.mem_of_getElem? (i := 367) (by decide +kernel)) rfl
theorem kn_M_59 : Cond.constant "WireSlaveModel" 59 65535 ∈ lw_g := gm_ (List.mem_of_getElem? (i := 362) (by decide +kernel)) rfl
theorem kn_M_90 : Cond.constant "WireSlaveModel" 90 65280 ∈ lw_g := gm_ (List.mem_of_getElem? (i := 380) (by decide +kernel)) rfl
theorem cl_W_22 : Cond.classLink "WireSlave" 22 "WireSlave$Table" ∈ lw_g := gm_ (List.mem_of_getElem? (i := 54) (by decide +kernel)) rfl
theorem cl_W_41 : Cond.classLink "WireSlave" 41 "WireSlave$Bytes" ∈ lw_g := gm_ (List.mem_of_getElem? (i := 69) (by decide +kernel)) rfl
theorem cl_L_7 : Cond.classLink "WireSlaveLaw" 7 "WireSlave" ∈ lw_g := gm_ (List.mem_of_getElem? (i := 40) (by decide +kernel)) rfl
theorem cl_L_18 : Cond.classLink "WireSlaveLaw" 18 "WireSlaveModel" ∈ lw_g := gm_ (List.mem_of_getElem? (i := 294) (by decide +kernel)) rfl
theorem is_W : Cond.instantiable "WireSlave" 10 ∈ lw_g := gm_ (List.mem_of_getElem? (i := 41) (by decide +kernel)) rfl
theorem is_T : Cond.instantiable "WireSlave$Table" 2 ∈ lw_g := gm_ (List.mem_of_getElem? (i := 55) (by decide +kernel)) rfl
theorem is_B : Cond.instantiable "WireSlave$Bytes" 2 ∈ lw_g := gm_ (List.mem_of_getElem? (i := 70) (by decide +kernel)) rfl
theorem is_M : Cond.instantiable "WireSlaveModel" 13 ∈ lw_g := gm_ (List.mem_of_getElem? (i := 295) (by decide +kernel)) rfl
theorem ini_L : Cond.initialized "WireSlaveLaw" ∈ lw_g := gm_ (List.mem_of_getElem? (i := 34) (by decide +kernel)) rfl
theorem ini_W : Cond.initialized "WireSlave" ∈ lw_g := gm_ (List.mem_of_getElem? (i := 35) (by decide +kernel)) rfl
theorem ini_T : Cond.initialized "WireSlave$Table" ∈ lw_g := gm_ (List.mem_of_getElem? (i := 37) (by decide +kernel)) rfl
theorem ini_B : Cond.initialized "WireSlave$Bytes" ∈ lw_g := gm_ (List.mem_of_getElem? (i := 38) (by decide +kernel)) rfl
theorem ini_M : Cond.initialized "WireSlaveModel" ∈ lw_g := gm_ (List.mem_of_getElem? (i := 39) (by decide +kernel)) rfl
theorem arr_I : Cond.arrayClass .int ∈ lw_g := gm_ (List.mem_of_getElem? (i := 67) (by decide +kernel)) rfl
theorem ml_W_24 : Cond.methodLink "WireSlave" 24 y_T_init ∈ lw_g := gm_ (List.mem_of_getElem? (i := 56) (by decide +kernel)) rfl
theorem mi_W_24 : Cond.instanceMethod y_T_init ∈ lw_g := gm_ (List.mem_of_getElem? (i := 57) (by decide +kernel)) rfl
theorem ml_W_43 : Cond.methodLink "WireSlave" 43 y_B_init ∈ lw_g := gm_ (List.mem_of_getElem? (i := 71) (by decide +kernel)) rfl
theorem mi_W_43 : Cond.instanceMethod y_B_init ∈ lw_g := gm_ (List.mem_of_getElem? (i := 72) (by decide +kernel)) rfl
theorem ml_W_64 : GoodIn lw_g (wsV "WireSlave" 64 "WireSlave" y_W_takeByte w_W_takeByte) := goodV_ (gm_ (List.mem_of_getElem? (i := 117) (by decide +kernel)) rfl) (gm_ (List.mem_of_getElem? (i := 119) (by decide +kernel)) rfl) (gm_ (List.mem_of_getElem? (i := 0) (by decide +kernel)) rfl) (ini_W) cd_W_takeByte
theorem ml_W_68 : GoodIn lw_g (wsV "WireSlave" 68 "WireSlave$Bytes" y_B_size w_B_size) := goodV_ (gm_ (List.mem_of_getElem? (i := 121) (by decide +kernel)) rfl) (gm_ (List.mem_of_getElem? (i := 122) (by decide +kernel)) rfl) (gm_ (List.mem_of_getElem? (i := 123) (by decide +kernel)) rfl) (ini_B) cd_B_size
theorem ml_W_72 : GoodIn lw_g (va_wsS "WireSlave" 72 y_W_byteOf w_W_byteOf) := goodS_ (gm_ (List.mem_of_getElem? (i := 133) (by decide +kernel)) rfl) (gm_ (List.mem_of_getElem? (i := 134) (by decide +kernel)) rfl) (ini_W) cd_W_byteOf
theorem ml_W_76 : GoodIn lw_g (wsV "WireSlave" 76 "WireSlave" y_W_endFrame w_W_endFrame) := goodV_ (gm_ (List.mem_of_getElem? (i := 140) (by decide +kernel)) rfl) (gm_ (List.mem_of_getElem? (i := 142) (by decide +kernel)) rfl) (gm_ (List.mem_of_getElem? (i := 1) (by decide +kernel)) rfl) (ini_W) cd_W_endFrame
theorem ml_W_79 : GoodIn lw_g (wsV "WireSlave" 79 "WireSlave$Bytes" y_B_at w_B_at) := goodV_ (gm_ (List.mem_of_getElem? (i := 180) (by decide +kernel)) rfl) (gm_ (List.mem_of_getElem? (i := 169) (by decide +kernel)) rfl) (gm_ (List.mem_of_getElem? (i := 170) (by decide +kernel)) rfl) (ini_B) cd_B_at
theorem ml_W_83 : GoodIn lw_g (wsV "WireSlave" 83 "WireSlave" y_W_tableNumbered w_W_tableNumbered) := goodV_ (gm_ (List.mem_of_getElem? (i := 274) (by decide +kernel)) rfl) (gm_ (List.mem_of_getElem? (i := 276) (by decide +kernel)) rfl) (gm_ (List.mem_of_getElem? (i := 21) (by decide +kernel)) rfl) (ini_W) cd_W_tableNumbered
theorem ml_W_87 : GoodIn lw_g (wsV "WireSlave" 87 "WireSlave$Table" y_T_replace w_T_replace) := goodV_ (gm_ (List.mem_of_getElem? (i := 225) (by decide +kernel)) rfl) (gm_ (List.mem_of_getElem? (i := 226) (by decide +kernel)) rfl) (gm_ (List.mem_of_getElem? (i := 227) (by decide +kernel)) rfl) (ini_T) cd_T_replace
theorem ml_W_90 : GoodIn lw_g (wsV "WireSlave" 90 "WireSlave$Table" y_T_at w_T_at) := goodV_ (gm_ (List.mem_of_getElem? (i := 249) (by decide +kernel)) rfl) (gm_ (List.mem_of_getElem? (i := 250) (by decide +kernel)) rfl) (gm_ (List.mem_of_getElem? (i := 251) (by decide +kernel)) rfl) (ini_T) cd_T_at
theorem ml_W_91 : GoodIn lw_g (va_wsS "WireSlave" 91 y_W_sumWith w_W_sumWith) := goodS_ (gm_ (List.mem_of_getElem? (i := 290) (by decide +kernel)) rfl) (gm_ (List.mem_of_getElem? (i := 173) (by decide +kernel)) rfl) (ini_W) cd_W_sumWith
theorem ml_W_95 : GoodIn lw_g (wsV "WireSlave" 95 "WireSlave$Bytes" y_B_append w_B_append) := goodV_ (gm_ (List.mem_of_getElem? (i := 125) (by decide +kernel)) rfl) (gm_ (List.mem_of_getElem? (i := 126) (by decide +kernel)) rfl) (gm_ (List.mem_of_getElem? (i := 127) (by decide +kernel)) rfl) (ini_B) cd_B_append
theorem ml_W_98 : GoodIn lw_g (wsV "WireSlave" 98 "WireSlave$Bytes" y_B_clear w_B_clear) := goodV_ (gm_ (List.mem_of_getElem? (i := 144) (by decide +kernel)) rfl) (gm_ (List.mem_of_getElem? (i := 145) (by decide +kernel)) rfl) (gm_ (List.mem_of_getElem? (i := 146) (by decide +kernel)) rfl) (ini_B) cd_B_clear
theorem ml_W_101 : GoodIn lw_g (wsV "WireSlave" 101 "WireSlave" y_W_tally w_W_tally) := goodV_ (gm_ (List.mem_of_getElem? (i := 148) (by decide +kernel)) rfl) (gm_ (List.mem_of_getElem? (i := 150) (by decide +kernel)) rfl) (gm_ (List.mem_of_getElem? (i := 2) (by decide +kernel)) rfl) (ini_W) cd_W_tally
theorem ml_W_104 : GoodIn lw_g (wsV "WireSlave" 104 "WireSlave" y_W_isThrownAway w_W_isThrownAway) := goodV_ (gm_ (List.mem_of_getElem? (i := 152) (by decide +kernel)) rfl) (gm_ (List.mem_of_getElem? (i := 154) (by decide +kernel)) rfl) (gm_ (List.mem_of_getElem? (i := 3) (by decide +kernel)) rfl) (ini_W) cd_W_isThrownAway
theorem ml_W_108 : GoodIn lw_g (wsV "WireSlave" 108 "WireSlave" y_W_isForOthers w_W_isForOthers) := goodV_ (gm_ (List.mem_of_getElem? (i := 176) (by decide +kernel)) rfl) (gm_ (List.mem_of_getElem? (i := 178) (by decide +kernel)) rfl) (gm_ (List.mem_of_getElem? (i := 5) (by decide +kernel)) rfl) (ini_W) cd_W_isForOthers
theorem ml_W_111 : GoodIn lw_g (wsV "WireSlave" 111 "WireSlave" y_W_answerRequest w_W_answerRequest) := goodV_ (gm_ (List.mem_of_getElem? (i := 181) (by decide +kernel)) rfl) (gm_ (List.mem_of_getElem? (i := 183) (by decide +kernel)) rfl) (gm_ (List.mem_of_getElem? (i := 6) (by decide +kernel)) rfl) (ini_W) cd_W_answerRequest
theorem ml_W_114 : GoodIn lw_g (va_wsS "WireSlave" 114 y_W_isFromTo w_W_isFromTo) := goodS_ (gm_ (List.mem_of_getElem? (i := 156) (by decide +kernel)) rfl) (gm_ (List.mem_of_getElem? (i := 157) (by decide +kernel)) rfl) (ini_W) cd_W_isFromTo
theorem ml_W_118 : GoodIn lw_g (wsV "WireSlave" 118 "WireSlave$Bytes" y_B_endsWithItsSum w_B_endsWithItsSum) := goodV_ (gm_ (List.mem_of_getElem? (i := 159) (by decide +kernel)) rfl) (gm_ (List.mem_of_getElem? (i := 160) (by decide +kernel)) rfl) (gm_ (List.mem_of_getElem? (i := 161) (by decide +kernel)) rfl) (ini_B) cd_B_endsWithItsSum
theorem ml_W_121 : GoodIn lw_g (wsV "WireSlave" 121 "WireSlave" y_W_data w_W_data) := goodV_ (gm_ (List.mem_of_getElem? (i := 189) (by decide +kernel)) rfl) (gm_ (List.mem_of_getElem? (i := 191) (by decide +kernel)) rfl) (gm_ (List.mem_of_getElem? (i := 8) (by decide +kernel)) rfl) (ini_W) cd_W_data
theorem ml_W_124 : GoodIn lw_g (wsV "WireSlave" 124 "WireSlave" y_W_dataNumber w_W_dataNumber) := goodV_ (gm_ (List.mem_of_getElem? (i := 185) (by decide +kernel)) rfl) (gm_ (List.mem_of_getElem? (i := 187) (by decide +kernel)) rfl) (gm_ (List.mem_of_getElem? (i := 7) (by decide +kernel)) rfl) (ini_W) cd_W_dataNumber
theorem ml_W_127 : GoodIn lw_g (wsV "WireSlave" 127 "WireSlave" y_W_refusalOf w_W_refusalOf) := goodV_ (gm_ (List.mem_of_getElem? (i := 193) (by decide +kernel)) rfl) (gm_ (List.mem_of_getElem? (i := 195) (by decide +kernel)) rfl) (gm_ (List.mem_of_getElem? (i := 9) (by decide +kernel)) rfl) (ini_W) cd_W_refusalOf
theorem ml_W_131 : GoodIn lw_g (wsV "WireSlave" 131 "WireSlave" y_W_carryOut w_W_carryOut) := goodV_ (gm_ (List.mem_of_getElem? (i := 221) (by decide +kernel)) rfl) (gm_ (List.mem_of_getElem? (i := 223) (by decide +kernel)) rfl) (gm_ (List.mem_of_getElem? (i := 14) (by decide +kernel)) rfl) (ini_W) cd_W_carryOut
theorem ml_W_135 : GoodIn lw_g (wsV "WireSlave" 135 "WireSlave" y_W_appendResult w_W_appendResult) := goodV_ (gm_ (List.mem_of_getElem? (i := 238) (by decide +kernel)) rfl) (gm_ (List.mem_of_getElem? (i := 240) (by decide +kernel)) rfl) (gm_ (List.mem_of_getElem? (i := 17) (by decide +kernel)) rfl) (ini_W) cd_W_appendResult
theorem ml_W_138 : GoodIn lw_g (wsV "WireSlave" 138 "WireSlave$Bytes" y_B_appendItsSum w_B_appendItsSum) := goodV_ (gm_ (List.mem_of_getElem? (i := 261) (by decide +kernel)) rfl) (gm_ (List.mem_of_getElem? (i := 262) (by decide +kernel)) rfl) (gm_ (List.mem_of_getElem? (i := 263) (by decide +kernel)) rfl) (ini_B) cd_B_appendItsSum
theorem ml_W_141 : GoodIn lw_g (wsV "WireSlave" 141 "WireSlave" y_W_tableOfFunction w_W_tableOfFunction) := goodV_ (gm_ (List.mem_of_getElem? (i := 197) (by decide +kernel)) rfl) (gm_ (List.mem_of_getElem? (i := 199) (by decide +kernel)) rfl) (gm_ (List.mem_of_getElem? (i := 10) (by decide +kernel)) rfl) (ini_W) cd_W_tableOfFunction
theorem ml_W_144 : GoodIn lw_g (wsV "WireSlave" 144 "WireSlave" y_W_isDueSize w_W_isDueSize) := goodV_ (gm_ (List.mem_of_getElem? (i := 201) (by decide +kernel)) rfl) (gm_ (List.mem_of_getElem? (i := 203) (by decide +kernel)) rfl) (gm_ (List.mem_of_getElem? (i := 11) (by decide +kernel)) rfl) (ini_W) cd_W_isDueSize
theorem ml_W_148 : GoodIn lw_g (wsV "WireSlave" 148 "WireSlave" y_W_isDueAmount w_W_isDueAmount) := goodV_ (gm_ (List.mem_of_getElem? (i := 209) (by decide +kernel)) rfl) (gm_ (List.mem_of_getElem? (i := 211) (by decide +kernel)) rfl) (gm_ (List.mem_of_getElem? (i := 13) (by decide +kernel)) rfl) (ini_W) cd_W_isDueAmount
theorem ml_W_152 : GoodIn lw_g (wsV "WireSlave" 152 "WireSlave$Table" y_T_has w_T_has) := goodV_ (gm_ (List.mem_of_getElem? (i := 217) (by decide +kernel)) rfl) (gm_ (List.mem_of_getElem? (i := 218) (by decide +kernel)) rfl) (gm_ (List.mem_of_getElem? (i := 219) (by decide +kernel)) rfl) (ini_T) cd_T_has
theorem ml_W_155 : GoodIn lw_g (wsV "WireSlave" 155 "WireSlave" y_W_dataSize w_W_dataSize) := goodV_ (gm_ (List.mem_of_getElem? (i := 205) (by decide +kernel)) rfl) (gm_ (List.mem_of_getElem? (i := 207) (by decide +kernel)) rfl) (gm_ (List.mem_of_getElem? (i := 12) (by decide +kernel)) rfl) (ini_W) cd_W_dataSize
theorem ml_W_159 : GoodIn lw_g (va_wsS "WireSlave" 159 y_W_bytesForBits w_W_bytesForBits) := goodS_ (gm_ (List.mem_of_getElem? (i := 214) (by decide +kernel)) rfl) (gm_ (List.mem_of_getElem? (i := 215) (by decide +kernel)) rfl) (ini_W) cd_W_bytesForBits
theorem ml_W_162 : GoodIn lw_g (wsV "WireSlave" 162 "WireSlave" y_W_writeCoils w_W_writeCoils) := goodV_ (gm_ (List.mem_of_getElem? (i := 230) (by decide +kernel)) rfl) (gm_ (List.mem_of_getElem? (i := 232) (by decide +kernel)) rfl) (gm_ (List.mem_of_getElem? (i := 15) (by decide +kernel)) rfl) (ini_W) cd_W_writeCoils
theorem ml_W_166 : GoodIn lw_g (wsV "WireSlave" 166 "WireSlave" y_W_writeRegisters w_W_writeRegisters) := goodV_ (gm_ (List.mem_of_getElem? (i := 234) (by decide +kernel)) rfl) (gm_ (List.mem_of_getElem? (i := 236) (by decide +kernel)) rfl) (gm_ (List.mem_of_getElem? (i := 16) (by decide +kernel)) rfl) (ini_W) cd_W_writeRegisters
theorem ml_W_169 : GoodIn lw_g (wsV "WireSlave" 169 "WireSlave" y_W_appendBits w_W_appendBits) := goodV_ (gm_ (List.mem_of_getElem? (i := 242) (by decide +kernel)) rfl) (gm_ (List.mem_of_getElem? (i := 244) (by decide +kernel)) rfl) (gm_ (List.mem_of_getElem? (i := 18) (by decide +kernel)) rfl) (ini_W) cd_W_appendBits
theorem ml_W_173 : GoodIn lw_g (wsV "WireSlave" 173 "WireSlave" y_W_appendNumbers w_W_appendNumbers) := goodV_ (gm_ (List.mem_of_getElem? (i := 253) (by decide +kernel)) rfl) (gm_ (List.mem_of_getElem? (i := 255) (by decide +kernel)) rfl) (gm_ (List.mem_of_getElem? (i := 19) (by decide +kernel)) rfl) (ini_W) cd_W_appendNumbers
theorem ml_W_176 : GoodIn lw_g (wsV "WireSlave" 176 "WireSlave" y_W_appendEcho w_W_appendEcho) := goodV_ (gm_ (List.mem_of_getElem? (i := 257) (by decide +kernel)) rfl) (gm_ (List.mem_of_getElem? (i := 259) (by decide +kernel)) rfl) (gm_ (List.mem_of_getElem? (i := 20) (by decide +kernel)) rfl) (ini_W) cd_W_appendEcho
theorem ml_W_179 : GoodIn lw_g (va_wsS "WireSlave" 179 y_W_packedBits w_W_packedBits) := goodS_ (gm_ (List.mem_of_getElem? (i := 246) (by decide +kernel)) rfl) (gm_ (List.mem_of_getElem? (i := 247) (by decide +kernel)) rfl) (ini_W) cd_W_packedBits
theorem ml_B_20 : GoodIn lw_g (wsV "WireSlave$Bytes" 20 "WireSlave$Bytes" y_B_at w_B_at) := goodV_ (gm_ (List.mem_of_getElem? (i := 168) (by decide +kernel)) rfl) (gm_ (List.mem_of_getElem? (i := 169) (by decide +kernel)) rfl) (gm_ (List.mem_of_getElem? (i := 170) (by decide +kernel)) rfl) (ini_B) cd_B_at
theorem ml_B_28 : GoodIn lw_g (wsV "WireSlave$Bytes" 28 "WireSlave$Bytes" y_B_sumOfFirst w_B_sumOfFirst) := goodV_ (gm_ (List.mem_of_getElem? (i := 163) (by decide +kernel)) rfl) (gm_ (List.mem_of_getElem? (i := 165) (by decide +kernel)) rfl) (gm_ (List.mem_of_getElem? (i := 4) (by decide +kernel)) rfl) (ini_B) cd_B_sumOfFirst
theorem ml_B_31 : GoodIn lw_g (wsV "WireSlave$Bytes" 31 "WireSlave$Bytes" y_B_append w_B_append) := goodV_ (gm_ (List.mem_of_getElem? (i := 265) (by decide +kernel)) rfl) (gm_ (List.mem_of_getElem? (i := 126) (by decide +kernel)) rfl) (gm_ (List.mem_of_getElem? (i := 127) (by decide +kernel)) rfl) (ini_B) cd_B_append
theorem ml_T_19 : GoodIn lw_g (wsV "WireSlave$Table" 19 "WireSlave$Table" y_T_has w_T_has) := goodV_ (gm_ (List.mem_of_getElem? (i := 229) (by decide +kernel)) rfl) (gm_ (List.mem_of_getElem? (i := 218) (by decide +kernel)) rfl) (gm_ (List.mem_of_getElem? (i := 219) (by decide +kernel)) rfl) (ini_T) cd_T_has
theorem ml_L_9 : GoodIn lw_g (va_wsS "WireSlaveLaw" 9 y_L_cell w_L_cell) := goodS_ (gm_ (List.mem_of_getElem? (i := 291) (by decide +kernel)) rfl) (gm_ (List.mem_of_getElem? (i := 292) (by decide +kernel)) rfl) (ini_L) cd_L_cell
theorem ml_L_15 : Cond.methodLink "WireSlaveLaw" 15 y_W_init ∈ lw_g := gm_ (List.mem_of_getElem? (i := 42) (by decide +kernel)) rfl
theorem mi_L_15 : Cond.instanceMethod y_W_init ∈ lw_g := gm_ (List.mem_of_getElem? (i := 43) (by decide +kernel)) rfl
theorem ml_L_20 : Cond.methodLink "WireSlaveLaw" 20 y_M_init ∈ lw_g := gm_ (List.mem_of_getElem? (i := 296) (by decide +kernel)) rfl
theorem mi_L_20 : Cond.instanceMethod y_M_init ∈ lw_g := gm_ (List.mem_of_getElem? (i := 297) (by decide +kernel)) rfl
theorem ml_L_21 : GoodIn lw_g (wsV "WireSlaveLaw" 21 "WireSlave" y_W_hear w_W_hear) := goodV_ (gm_ (List.mem_of_getElem? (i := 113) (by decide +kernel)) rfl) (gm_ (List.mem_of_getElem? (i := 114) (by decide +kernel)) rfl) (gm_ (List.mem_of_getElem? (i := 115) (by decide +kernel)) rfl) (ini_W) cd_W_hear
theorem ml_L_25 : GoodIn lw_g (wsV "WireSlaveLaw" 25 "WireSlaveModel" y_M_hear w_M_hear) := goodV_ (gm_ (List.mem_of_getElem? (i := 340) (by decide +kernel)) rfl) (gm_ (List.mem_of_getElem? (i := 341) (by decide +kernel)) rfl) (gm_ (List.mem_of_getElem? (i := 342) (by decide +kernel)) rfl) (ini_M) cd_M_hear
theorem ml_L_28 : GoodIn lw_g (wsV "WireSlaveLaw" 28 "WireSlave" y_W_listen w_W_listen) := goodV_ (gm_ (List.mem_of_getElem? (i := 129) (by decide +kernel)) rfl) (gm_ (List.mem_of_getElem? (i := 130) (by decide +kernel)) rfl) (gm_ (List.mem_of_getElem? (i := 131) (by decide +kernel)) rfl) (ini_W) cd_W_listen
theorem ml_L_32 : GoodIn lw_g (wsV "WireSlaveLaw" 32 "WireSlaveModel" y_M_listen w_M_listen) := goodV_ (gm_ (List.mem_of_getElem? (i := 344) (by decide +kernel)) rfl) (gm_ (List.mem_of_getElem? (i := 345) (by decide +kernel)) rfl) (gm_ (List.mem_of_getElem? (i := 346) (by decide +kernel)) rfl) (ini_M) cd_M_listen
theorem ml_L_33 : GoodIn lw_g (wsV "WireSlaveLaw" 33 "WireSlave" y_W_rest w_W_rest) := goodV_ (gm_ (List.mem_of_getElem? (i := 136) (by decide +kernel)) rfl) (gm_ (List.mem_of_getElem? (i := 137) (by decide +kernel)) rfl) (gm_ (List.mem_of_getElem? (i := 138) (by decide +kernel)) rfl) (ini_W) cd_W_rest
theorem ml_L_36 : GoodIn lw_g (wsV "WireSlaveLaw" 36 "WireSlaveModel" y_M_rest w_M_rest) := goodV_ (gm_ (List.mem_of_getElem? (i := 350) (by decide +kernel)) rfl) (gm_ (List.mem_of_getElem? (i := 351) (by decide +kernel)) rfl) (gm_ (List.mem_of_getElem? (i := 352) (by decide +kernel)) rfl) (ini_M) cd_M_rest
theorem ml_L_37 : GoodIn lw_g (wsV "WireSlaveLaw" 37 "WireSlave" y_W_reply w_W_reply) := goodV_ (gm_ (List.mem_of_getElem? (i := 266) (by decide +kernel)) rfl) (gm_ (List.mem_of_getElem? (i := 267) (by decide +kernel)) rfl) (gm_ (List.mem_of_getElem? (i := 268) (by decide +kernel)) rfl) (ini_W) cd_W_reply
theorem ml_L_40 : GoodIn lw_g (wsV "WireSlaveLaw" 40 "WireSlaveModel" y_M_reply w_M_reply) := goodV_ (gm_ (List.mem_of_getElem? (i := 401) (by decide +kernel)) rfl) (gm_ (List.mem_of_getElem? (i := 402) (by decide +kernel)) rfl) (gm_ (List.mem_of_getElem? (i := 403) (by decide +kernel)) rfl) (ini_M) cd_M_reply
theorem ml_L_41 : GoodIn lw_g (wsV "WireSlaveLaw" 41 "WireSlave" y_W_set w_W_set) := goodV_ (gm_ (List.mem_of_getElem? (i := 270) (by decide +kernel)) rfl) (gm_ (List.mem_of_getElem? (i := 271) (by decide +kernel)) rfl) (gm_ (List.mem_of_getElem? (i := 272) (by decide +kernel)) rfl) (ini_W) cd_W_set
theorem ml_L_45 : GoodIn lw_g (wsV "WireSlaveLaw" 45 "WireSlaveModel" y_M_set w_M_set) := goodV_ (gm_ (List.mem_of_getElem? (i := 405) (by decide +kernel)) rfl) (gm_ (List.mem_of_getElem? (i := 406) (by decide +kernel)) rfl) (gm_ (List.mem_of_getElem? (i := 407) (by decide +kernel)) rfl) (ini_M) cd_M_set
theorem ml_L_46 : GoodIn lw_g (wsV "WireSlaveLaw" 46 "WireSlave" y_W_get w_W_get) := goodV_ (gm_ (List.mem_of_getElem? (i := 278) (by decide +kernel)) rfl) (gm_ (List.mem_of_getElem? (i := 279) (by decide +kernel)) rfl) (gm_ (List.mem_of_getElem? (i := 280) (by decide +kernel)) rfl) (ini_W) cd_W_get
theorem ml_L_50 : GoodIn lw_g (wsV "WireSlaveLaw" 50 "WireSlaveModel" y_M_get w_M_get) := goodV_ (gm_ (List.mem_of_getElem? (i := 417) (by decide +kernel)) rfl) (gm_ (List.mem_of_getElem? (i := 418) (by decide +kernel)) rfl) (gm_ (List.mem_of_getElem? (i := 419) (by decide +kernel)) rfl) (ini_M) cd_M_get
theorem ml_L_51 : GoodIn lw_g (wsV "WireSlaveLaw" 51 "WireSlave" y_W_count w_W_count) := goodV_ (gm_ (List.mem_of_getElem? (i := 282) (by decide +kernel)) rfl) (gm_ (List.mem_of_getElem? (i := 283) (by decide +kernel)) rfl) (gm_ (List.mem_of_getElem? (i := 284) (by decide +kernel)) rfl) (ini_W) cd_W_count
theorem ml_L_54 : GoodIn lw_g (wsV "WireSlaveLaw" 54 "WireSlaveModel" y_M_count w_M_count) := goodV_ (gm_ (List.mem_of_getElem? (i := 421) (by decide +kernel)) rfl) (gm_ (List.mem_of_getElem? (i := 422) (by decide +kernel)) rfl) (gm_ (List.mem_of_getElem? (i := 423) (by decide +kernel)) rfl) (ini_M) cd_M_count
theorem ml_L_55 : GoodIn lw_g (wsV "WireSlaveLaw" 55 "WireSlave" y_W_sum w_W_sum) := goodV_ (gm_ (List.mem_of_getElem? (i := 286) (by decide +kernel)) rfl) (gm_ (List.mem_of_getElem? (i := 287) (by decide +kernel)) rfl) (gm_ (List.mem_of_getElem? (i := 288) (by decide +kernel)) rfl) (ini_W) cd_W_sum
theorem ml_L_58 : GoodIn lw_g (wsV "WireSlaveLaw" 58 "WireSlaveModel" y_M_sum w_M_sum) := goodV_ (gm_ (List.mem_of_getElem? (i := 397) (by decide +kernel)) rfl) (gm_ (List.mem_of_getElem? (i := 398) (by decide +kernel)) rfl) (gm_ (List.mem_of_getElem? (i := 399) (by decide +kernel)) rfl) (ini_M) cd_M_sum
theorem ml_M_50 : GoodIn lw_g (wsV "WireSlaveModel" 50 "WireSlaveModel" y_M_hear w_M_hear) := goodV_ (gm_ (List.mem_of_getElem? (i := 349) (by decide +kernel)) rfl) (gm_ (List.mem_of_getElem? (i := 341) (by decide +kernel)) rfl) (gm_ (List.mem_of_getElem? (i := 342) (by decide +kernel)) rfl) (ini_M) cd_M_hear
theorem ml_M_54 : GoodIn lw_g (wsV "WireSlaveModel" 54 "WireSlaveModel" y_M_ends w_M_ends) := goodV_ (gm_ (List.mem_of_getElem? (i := 354) (by decide +kernel)) rfl) (gm_ (List.mem_of_getElem? (i := 356) (by decide +kernel)) rfl) (gm_ (List.mem_of_getElem? (i := 22) (by decide +kernel)) rfl) (ini_M) cd_M_ends
theorem ml_M_60 : GoodIn lw_g (wsV "WireSlaveModel" 60 "WireSlaveModel" y_M_with w_M_with) := goodV_ (gm_ (List.mem_of_getElem? (i := 363) (by decide +kernel)) rfl) (gm_ (List.mem_of_getElem? (i := 365) (by decide +kernel)) rfl) (gm_ (List.mem_of_getElem? (i := 24) (by decide +kernel)) rfl) (ini_M) cd_M_with
theorem ml_M_64 : GoodIn lw_g (wsV "WireSlaveModel" 64 "WireSlaveModel" y_M_data w_M_data) := goodV_ (gm_ (List.mem_of_getElem? (i := 372) (by decide +kernel)) rfl) (gm_ (List.mem_of_getElem? (i := 374) (by decide +kernel)) rfl) (gm_ (List.mem_of_getElem? (i := 26) (by decide +kernel)) rfl) (ini_M) cd_M_data
theorem ml_M_70 : GoodIn lw_g (wsV "WireSlaveModel" 70 "WireSlaveModel" y_M_sumOf w_M_sumOf) := goodV_ (gm_ (List.mem_of_getElem? (i := 358) (by decide +kernel)) rfl) (gm_ (List.mem_of_getElem? (i := 360) (by decide +kernel)) rfl) (gm_ (List.mem_of_getElem? (i := 23) (by decide +kernel)) rfl) (ini_M) cd_M_sumOf
theorem ml_M_74 : GoodIn lw_g (wsV "WireSlaveModel" 74 "WireSlaveModel" y_M_why w_M_why) := goodV_ (gm_ (List.mem_of_getElem? (i := 368) (by decide +kernel)) rfl) (gm_ (List.mem_of_getElem? (i := 370) (by decide +kernel)) rfl) (gm_ (List.mem_of_getElem? (i := 25) (by decide +kernel)) rfl) (ini_M) cd_M_why
theorem ml_M_77 : GoodIn lw_g (wsV "WireSlaveModel" 77 "WireSlaveModel" y_M_act w_M_act) := goodV_ (gm_ (List.mem_of_getElem? (i := 385) (by decide +kernel)) rfl) (gm_ (List.mem_of_getElem? (i := 387) (by decide +kernel)) rfl) (gm_ (List.mem_of_getElem? (i := 29) (by decide +kernel)) rfl) (ini_M) cd_M_act
theorem ml_M_81 : GoodIn lw_g (wsV "WireSlaveModel" 81 "WireSlaveModel" y_M_add w_M_add) := goodV_ (gm_ (List.mem_of_getElem? (i := 389) (by decide +kernel)) rfl) (gm_ (List.mem_of_getElem? (i := 391) (by decide +kernel)) rfl) (gm_ (List.mem_of_getElem? (i := 30) (by decide +kernel)) rfl) (ini_M) cd_M_add
theorem ml_M_84 : GoodIn lw_g (wsV "WireSlaveModel" 84 "WireSlaveModel" y_M_answer w_M_answer) := goodV_ (gm_ (List.mem_of_getElem? (i := 393) (by decide +kernel)) rfl) (gm_ (List.mem_of_getElem? (i := 395) (by decide +kernel)) rfl) (gm_ (List.mem_of_getElem? (i := 31) (by decide +kernel)) rfl) (ini_M) cd_M_answer
theorem ml_M_87 : GoodIn lw_g (wsV "WireSlaveModel" 87 "WireSlaveModel" y_M_two w_M_two) := goodV_ (gm_ (List.mem_of_getElem? (i := 376) (by decide +kernel)) rfl) (gm_ (List.mem_of_getElem? (i := 378) (by decide +kernel)) rfl) (gm_ (List.mem_of_getElem? (i := 27) (by decide +kernel)) rfl) (ini_M) cd_M_two
theorem ml_M_91 : GoodIn lw_g (wsV "WireSlaveModel" 91 "WireSlaveModel" y_M_table w_M_table) := goodV_ (gm_ (List.mem_of_getElem? (i := 381) (by decide +kernel)) rfl) (gm_ (List.mem_of_getElem? (i := 383) (by decide +kernel)) rfl) (gm_ (List.mem_of_getElem? (i := 28) (by decide +kernel)) rfl) (ini_M) cd_M_table
theorem ml_M_95 : GoodIn lw_g (wsV "WireSlaveModel" 95 "WireSlaveModel" y_M_noPlace w_M_noPlace) := goodV_ (gm_ (List.mem_of_getElem? (i := 409) (by decide +kernel)) rfl) (gm_ (List.mem_of_getElem? (i := 411) (by decide +kernel)) rfl) (gm_ (List.mem_of_getElem? (i := 32) (by decide +kernel)) rfl) (ini_M) cd_M_noPlace
theorem ml_M_99 : GoodIn lw_g (wsV "WireSlaveModel" 99 "WireSlaveModel" y_M_byNumber w_M_byNumber) := goodV_ (gm_ (List.mem_of_getElem? (i := 413) (by decide +kernel)) rfl) (gm_ (List.mem_of_getElem? (i := 415) (by decide +kernel)) rfl) (gm_ (List.mem_of_getElem? (i := 33) (by decide +kernel)) rfl) (ini_M) cd_M_byNumber
theorem mo_W_1 : Cond.methodLink "WireSlave" 1 objectInit ∈ lw_g := gm_ (List.mem_of_getElem? (i := 45) (by decide +kernel)) rfl
theorem mj_W_9 : Cond.methodLink "WireSlave" 9 Lib.Math.min.name ∈ lw_g := gm_ (List.mem_of_getElem? (i := 48) (by decide +kernel)) rfl
theorem mj_W_15 : Cond.methodLink "WireSlave" 15 Lib.Math.max.name ∈ lw_g := gm_ (List.mem_of_getElem? (i := 51) (by decide +kernel)) rfl
theorem mo_B_3 : Cond.methodLink "WireSlave$Bytes" 3 objectInit ∈ lw_g := gm_ (List.mem_of_getElem? (i := 74) (by decide +kernel)) rfl
theorem mo_T_3 : Cond.methodLink "WireSlave$Table" 3 objectInit ∈ lw_g := gm_ (List.mem_of_getElem? (i := 59) (by decide +kernel)) rfl
theorem mo_M_1 : Cond.methodLink "WireSlaveModel" 1 objectInit ∈ lw_g := gm_ (List.mem_of_getElem? (i := 299) (by decide +kernel)) rfl
theorem io_ : Cond.instanceMethod objectInit ∈ lw_g := gm_ (List.mem_of_getElem? (i := 46) (by decide +kernel)) rfl
theorem co_ : Cond.code objectInit ⟨#[0xb1]⟩ 1 none ∈ lw_g := gm_ (List.mem_of_getElem? (i := 47) rfl) rfl
theorem cj_min : Cond.code Lib.Math.min.name Lib.Math.min.code 2 (some .int) ∈ lw_g := gm_ (List.mem_of_getElem? (i := 50) rfl) rfl
theorem sj_min : Cond.static Lib.Math.min.name ∈ lw_g := gm_ (List.mem_of_getElem? (i := 49) (by decide +kernel)) rfl
theorem cj_max : Cond.code Lib.Math.max.name Lib.Math.max.code 2 (some .int) ∈ lw_g := gm_ (List.mem_of_getElem? (i := 53) rfl) rfl
theorem sj_max : Cond.static Lib.Math.max.name ∈ lw_g := gm_ (List.mem_of_getElem? (i := 52) (by decide +kernel)) rfl
theorem ij_ : Cond.initialized "java/lang/Math" ∈ lw_g := gm_ (List.mem_of_getElem? (i := 36) (by decide +kernel)) rfl
abbrev NW : Cond := Cond.methodLinkNest "WireSlave$Bytes" 24 y_W_sumWith "WireSlave"
theorem nl_NW : NW ∈ lw_tbl := List.mem_of_getElem? (i := 172) (by decide +kernel)
theorem ns_B_24 : Cond.static y_W_sumWith ∈ lw_g := gm_ (List.mem_of_getElem? (i := 173) (by decide +kernel)) rfl
