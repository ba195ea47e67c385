section
-- ===== PART A: goes FIRST, ahead of the names: the tables' words, and 'selects' of the private methods out of them =====
/-- a private method of a class that the tables say can be made, by its rows of tables_1 -/
def lw_okq (q : MethodName × Nat) : Prop := (q.1.cls ≠ "java/lang/invoke/MethodHandle" ∧ q.1.cls ≠ "java/lang/invoke/VarHandle") ∧ Cond.instantiable q.1.cls q.2 ∈ tables_1 ∧ Cond.privateMethod q.1 ∈ tables_1 ∧ Cond.instanceMethod q.1 ∈ tables_1
theorem lw_p0 : lw_okq (⟨"DepositCodes$Bars", "rowLength", "()I"⟩, 3) := ⟨⟨by decide +kernel, by decide +kernel⟩, List.mem_of_getElem? (i := 25) (by decide +kernel), List.mem_of_getElem? (i := 208) (by decide +kernel), List.mem_of_getElem? (i := 209) (by decide +kernel)⟩
theorem lw_p1 : lw_okq (⟨"DepositCodes$Bars", "decode", "(IZ)Z"⟩, 3) := ⟨⟨by decide +kernel, by decide +kernel⟩, List.mem_of_getElem? (i := 25) (by decide +kernel), List.mem_of_getElem? (i := 212) (by decide +kernel), List.mem_of_getElem? (i := 213) (by decide +kernel)⟩
theorem lw_p2 : lw_okq (⟨"DepositCodes$Bars", "isEdge", "(I)Z"⟩, 3) := ⟨⟨by decide +kernel, by decide +kernel⟩, List.mem_of_getElem? (i := 25) (by decide +kernel), List.mem_of_getElem? (i := 216) (by decide +kernel), List.mem_of_getElem? (i := 217) (by decide +kernel)⟩
theorem lw_p3 : lw_okq (⟨"DepositCodes$Bars", "widthAt", "(I)I"⟩, 3) := ⟨⟨by decide +kernel, by decide +kernel⟩, List.mem_of_getElem? (i := 25) (by decide +kernel), List.mem_of_getElem? (i := 220) (by decide +kernel), List.mem_of_getElem? (i := 221) (by decide +kernel)⟩
theorem lw_p4 : lw_okq (⟨"DepositCodes$Bars", "digitOfGroup", "(IIZ)I"⟩, 3) := ⟨⟨by decide +kernel, by decide +kernel⟩, List.mem_of_getElem? (i := 25) (by decide +kernel), List.mem_of_getElem? (i := 224) (by decide +kernel), List.mem_of_getElem? (i := 225) (by decide +kernel)⟩
theorem lw_p5 : lw_okq (⟨"DepositCodes$Bars", "matches", "(IIIZ)Z"⟩, 3) := ⟨⟨by decide +kernel, by decide +kernel⟩, List.mem_of_getElem? (i := 25) (by decide +kernel), List.mem_of_getElem? (i := 228) (by decide +kernel), List.mem_of_getElem? (i := 229) (by decide +kernel)⟩
theorem lw_p6 : lw_okq (⟨"DepositCodes", "reasonToRefuse", "(IJII)I"⟩, 9) := ⟨⟨by decide +kernel, by decide +kernel⟩, List.mem_of_getElem? (i := 17) (by decide +kernel), List.mem_of_getElem? (i := 317) (by decide +kernel), List.mem_of_getElem? (i := 318) (by decide +kernel)⟩
theorem lw_p7 : lw_okq (⟨"DepositCodes", "noteRefusal", "(IJ)V"⟩, 9) := ⟨⟨by decide +kernel, by decide +kernel⟩, List.mem_of_getElem? (i := 17) (by decide +kernel), List.mem_of_getElem? (i := 347) (by decide +kernel), List.mem_of_getElem? (i := 348) (by decide +kernel)⟩
theorem lw_p8 : lw_okq (⟨"DepositCodes", "tellDoubles", "(II)I"⟩, 9) := ⟨⟨by decide +kernel, by decide +kernel⟩, List.mem_of_getElem? (i := 17) (by decide +kernel), List.mem_of_getElem? (i := 386) (by decide +kernel), List.mem_of_getElem? (i := 387) (by decide +kernel)⟩
theorem lw_p9 : lw_okq (⟨"java/lang/Throwable", "fillInStackTrace", "(I)Ljava/lang/Throwable;"⟩, 6) := ⟨⟨by decide +kernel, by decide +kernel⟩, List.mem_of_getElem? (i := 562) (by decide +kernel), List.mem_of_getElem? (i := 560) (by decide +kernel), List.mem_of_getElem? (i := 561) (by decide +kernel)⟩
theorem lw_p10 : lw_okq (⟨"DepositCodesModel", "readSo", "(Z)Z"⟩, 32) := ⟨⟨by decide +kernel, by decide +kernel⟩, List.mem_of_getElem? (i := 590) (by decide +kernel), List.mem_of_getElem? (i := 710) (by decide +kernel), List.mem_of_getElem? (i := 711) (by decide +kernel)⟩
theorem lw_p11 : lw_okq (⟨"DepositCodesModel", "size", "()I"⟩, 32) := ⟨⟨by decide +kernel, by decide +kernel⟩, List.mem_of_getElem? (i := 590) (by decide +kernel), List.mem_of_getElem? (i := 714) (by decide +kernel), List.mem_of_getElem? (i := 715) (by decide +kernel)⟩
theorem lw_p12 : lw_okq (⟨"DepositCodesModel", "at", "(IZ)I"⟩, 32) := ⟨⟨by decide +kernel, by decide +kernel⟩, List.mem_of_getElem? (i := 590) (by decide +kernel), List.mem_of_getElem? (i := 718) (by decide +kernel), List.mem_of_getElem? (i := 719) (by decide +kernel)⟩
theorem lw_p13 : lw_okq (⟨"DepositCodesModel", "digitAt", "(IZ)I"⟩, 32) := ⟨⟨by decide +kernel, by decide +kernel⟩, List.mem_of_getElem? (i := 590) (by decide +kernel), List.mem_of_getElem? (i := 722) (by decide +kernel), List.mem_of_getElem? (i := 723) (by decide +kernel)⟩
theorem lw_p14 : lw_okq (⟨"DepositCodesModel", "isMachine", "(I)Z"⟩, 32) := ⟨⟨by decide +kernel, by decide +kernel⟩, List.mem_of_getElem? (i := 590) (by decide +kernel), List.mem_of_getElem? (i := 771) (by decide +kernel), List.mem_of_getElem? (i := 772) (by decide +kernel)⟩
theorem lw_p15 : lw_okq (⟨"DepositCodesModel", "reasonFor", "(IJII)I"⟩, 32) := ⟨⟨by decide +kernel, by decide +kernel⟩, List.mem_of_getElem? (i := 590) (by decide +kernel), List.mem_of_getElem? (i := 784) (by decide +kernel), List.mem_of_getElem? (i := 785) (by decide +kernel)⟩
def lw_privs_1 : List (MethodName × Nat) := [(⟨"DepositCodes$Bars", "rowLength", "()I"⟩, 3), (⟨"DepositCodes$Bars", "decode", "(IZ)Z"⟩, 3), (⟨"DepositCodes$Bars", "isEdge", "(I)Z"⟩, 3), (⟨"DepositCodes$Bars", "widthAt", "(I)I"⟩, 3), (⟨"DepositCodes$Bars", "digitOfGroup", "(IIZ)I"⟩, 3), (⟨"DepositCodes$Bars", "matches", "(IIIZ)Z"⟩, 3), (⟨"DepositCodes", "reasonToRefuse", "(IJII)I"⟩, 9), (⟨"DepositCodes", "noteRefusal", "(IJ)V"⟩, 9), (⟨"DepositCodes", "tellDoubles", "(II)I"⟩, 9), (⟨"java/lang/Throwable", "fillInStackTrace", "(I)Ljava/lang/Throwable;"⟩, 6), (⟨"DepositCodesModel", "readSo", "(Z)Z"⟩, 32), (⟨"DepositCodesModel", "size", "()I"⟩, 32), (⟨"DepositCodesModel", "at", "(IZ)I"⟩, 32), (⟨"DepositCodesModel", "digitAt", "(IZ)I"⟩, 32), (⟨"DepositCodesModel", "isMachine", "(I)Z"⟩, 32), (⟨"DepositCodesModel", "reasonFor", "(IJII)I"⟩, 32)]
theorem lw_r1 : ∀ q ∈ lw_privs_1, lw_okq q := List.forall_mem_cons.mpr ⟨lw_p0, List.forall_mem_cons.mpr ⟨lw_p1, List.forall_mem_cons.mpr ⟨lw_p2, List.forall_mem_cons.mpr ⟨lw_p3, List.forall_mem_cons.mpr ⟨lw_p4, List.forall_mem_cons.mpr ⟨lw_p5, List.forall_mem_cons.mpr ⟨lw_p6, List.forall_mem_cons.mpr ⟨lw_p7, List.forall_mem_cons.mpr ⟨lw_p8, List.forall_mem_cons.mpr ⟨lw_p9, List.forall_mem_cons.mpr ⟨lw_p10, List.forall_mem_cons.mpr ⟨lw_p11, List.forall_mem_cons.mpr ⟨lw_p12, List.forall_mem_cons.mpr ⟨lw_p13, List.forall_mem_cons.mpr ⟨lw_p14, List.forall_mem_cons.mpr ⟨lw_p15, fun _ h => absurd h List.not_mem_nil⟩⟩⟩⟩⟩⟩⟩⟩⟩⟩⟩⟩⟩⟩⟩⟩
theorem lw_p16 : lw_okq (⟨"DepositCodesModel", "payingOf", "(JI)I"⟩, 32) := ⟨⟨by decide +kernel, by decide +kernel⟩, List.mem_of_getElem? (i := 590) (by decide +kernel), List.mem_of_getElem? (i := 788) (by decide +kernel), List.mem_of_getElem? (i := 789) (by decide +kernel)⟩
theorem lw_p17 : lw_okq (⟨"DepositCodesModel", "refuse", "(IJ)V"⟩, 32) := ⟨⟨by decide +kernel, by decide +kernel⟩, List.mem_of_getElem? (i := 590) (by decide +kernel), List.mem_of_getElem? (i := 792) (by decide +kernel), List.mem_of_getElem? (i := 793) (by decide +kernel)⟩
theorem lw_p18 : lw_okq (⟨"DepositCodesModel", "insert", "(IJII)V"⟩, 32) := ⟨⟨by decide +kernel, by decide +kernel⟩, List.mem_of_getElem? (i := 590) (by decide +kernel), List.mem_of_getElem? (i := 810) (by decide +kernel), List.mem_of_getElem? (i := 811) (by decide +kernel)⟩
def lw_privs_2 : List (MethodName × Nat) := [(⟨"DepositCodesModel", "payingOf", "(JI)I"⟩, 32), (⟨"DepositCodesModel", "refuse", "(IJ)V"⟩, 32), (⟨"DepositCodesModel", "insert", "(IJII)V"⟩, 32)]
theorem lw_r2 : ∀ q ∈ lw_privs_2, lw_okq q := List.forall_mem_cons.mpr ⟨lw_p16, List.forall_mem_cons.mpr ⟨lw_p17, List.forall_mem_cons.mpr ⟨lw_p18, fun _ h => absurd h List.not_mem_nil⟩⟩⟩
def lw_privs : List (MethodName × Nat) := lw_privs_1 ++ (lw_privs_2)
def lw_tbl : List Cond := k2_sels lw_privs ++ tables_1
theorem lw_privs_ok : ∀ q ∈ lw_privs, lw_okq q := by
  show ∀ q ∈ lw_privs_1 ++ (lw_privs_2), lw_okq q
  exact List.forall_mem_append.mpr ⟨lw_r1, lw_r2⟩
end
section
/-! ===== BEGIN words of one list among another's, by their places ===== -/
theorem goodIn_r {big : List Cond} (ws : List Cond) (ps : List Nat) (hp : ws = ps.filterMap (fun i => big[i]?)) (h : ws.all goodWord = true) : GoodIn big ws := by
  intro w hw
  have h1 := List.all_eq_true.mp h w hw
  rw [hp] at hw
  obtain ⟨i, -, hi⟩ := List.mem_filterMap.mp hw
  have hm : w ∈ big := by first | exact List.mem_of_getElem? hi | exact List.getElem?_mem hi
  exact ⟨hm, good_of_word h1⟩
theorem goodIn_app {big a b : List Cond} (ha : GoodIn big a) (hb : GoodIn big b) : GoodIn big (a ++ b) := fun w h => (List.mem_append.mp h).elim (ha w) (hb w)
theorem goodIn_ca {big a b : List Cond} {c : Cond} (ha : GoodIn big (c :: a)) (hb : GoodIn big b) : GoodIn big (c :: (a ++ b)) := fun w h => (List.mem_cons.mp h).elim (fun e => ha w (List.mem_cons.mpr (Or.inl e))) (fun h => (List.mem_append.mp h).elim (fun h => ha w (List.mem_cons.mpr (Or.inr h))) (hb w))
theorem goodIn_sub {big ws : List Cond} (hm : ∀ w ∈ ws, w ∈ big) (h : ws.all goodWord = true) : GoodIn big ws := fun w hw => ⟨hm w hw, good_of_word (List.all_eq_true.mp h w hw)⟩
/-! ===== END ===== -/

/-! ===== BEGIN printed: names, fields, word lists, decode rows ===== -/
def RX0 : String := "DepositCodes$Bars"
def TX0 : u_T := fun k => match k with
  | 0 => ("DepositCodes$Bars", "widths", "[I", true)
  | 1 => ("DepositCodes$Bars", "digits", "[I", true)
  | _ => ("DepositCodes$Bars", "digitCount", "I", false)
def tyX0 : Nat → FieldType := fun k => match k with
  | 0 => .array .int
  | 1 => .array .int
  | _ => .int
abbrev wsX00 : List Cond := u_ws RX0 TX0 3
theorem nmX0 : ∀ a, a < 3 → ∀ b, b < 3 → a ≠ b → (TX0 a).2.1 ≠ (TX0 b).2.1 := by decide +kernel
theorem tyX0_ok : ∀ k, k < 3 → parseFieldDescriptor (TX0 k).2.2.1 = some (tyX0 k) := by decide +kernel
abbrev cX0_init : ByteArray := prog_2_method_1_code
def yX0_init : MethodName := ⟨RX0, "<init>", "()V"⟩
abbrev cX0_setWidth : ByteArray := prog_2_method_2_code
def yX0_setWidth : MethodName := ⟨RX0, "setWidth", "(II)Z"⟩
abbrev cX0_scan : ByteArray := prog_2_method_3_code
def yX0_scan : MethodName := ⟨RX0, "scan", "(Z)I"⟩
abbrev cX0_digitAt : ByteArray := prog_2_method_4_code
def yX0_digitAt : MethodName := ⟨RX0, "digitAt", "(I)I"⟩
abbrev cX0_rowLength : ByteArray := prog_2_method_5_code
def yX0_rowLength : MethodName := ⟨RX0, "rowLength", "()I"⟩
abbrev cX0_decode : ByteArray := prog_2_method_6_code
def yX0_decode : MethodName := ⟨RX0, "decode", "(IZ)Z"⟩
abbrev cX0_isEdge : ByteArray := prog_2_method_7_code
def yX0_isEdge : MethodName := ⟨RX0, "isEdge", "(I)Z"⟩
abbrev cX0_digitOfGroup : ByteArray := prog_2_method_8_code
def yX0_digitOfGroup : MethodName := ⟨RX0, "digitOfGroup", "(IIZ)I"⟩
abbrev cX0_matches : ByteArray := prog_2_method_9_code
def yX0_matches : MethodName := ⟨RX0, "matches", "(IIIZ)Z"⟩
abbrev cX0_widthAt : ByteArray := prog_2_method_10_code
def yX0_widthAt : MethodName := ⟨RX0, "widthAt", "(I)I"⟩
def RX1 : String := "DepositCodes$Coupons"
def TX1 : u_T := fun k => match k with
  | 0 => ("DepositCodes$Coupons", "amounts", "[I", true)
  | 1 => ("DepositCodes$Coupons", "redeemed", "[Z", true)
  | 2 => ("DepositCodes$Coupons", "sums", "[J", true)
  | _ => ("DepositCodes$Coupons", "size", "I", false)
def tyX1 : Nat → FieldType := fun k => match k with
  | 0 => .array .int
  | 1 => .array .boolean
  | 2 => .array .long
  | _ => .int
abbrev wsX10 : List Cond := u_ws RX1 TX1 4
theorem nmX1 : ∀ a, a < 4 → ∀ b, b < 4 → a ≠ b → (TX1 a).2.1 ≠ (TX1 b).2.1 := by decide +kernel
theorem tyX1_ok : ∀ k, k < 4 → parseFieldDescriptor (TX1 k).2.2.1 = some (tyX1 k) := by decide +kernel
abbrev cX1_init : ByteArray := prog_3_method_1_code
def yX1_init : MethodName := ⟨RX1, "<init>", "()V"⟩
abbrev cX1_print : ByteArray := prog_3_method_2_code
def yX1_print : MethodName := ⟨RX1, "print", "(I)I"⟩
abbrev cX1_redeemAt : ByteArray := prog_3_method_3_code
def yX1_redeemAt : MethodName := ⟨RX1, "redeemAt", "(II)Z"⟩
abbrev cX1_redeemedBy : ByteArray := prog_3_method_4_code
def yX1_redeemedBy : MethodName := ⟨RX1, "redeemedBy", "(I)J"⟩
def RX2 : String := "DepositCodes$Doubles"
def TX2 : u_T := fun k => match k with
  | 0 => ("DepositCodes$Doubles", "serials", "[J", true)
  | 1 => ("DepositCodes$Doubles", "payersA", "[I", true)
  | 2 => ("DepositCodes$Doubles", "payersB", "[I", true)
  | _ => ("DepositCodes$Doubles", "size", "I", false)
def tyX2 : Nat → FieldType := fun k => match k with
  | 0 => .array .long
  | 1 => .array .int
  | 2 => .array .int
  | _ => .int
abbrev wsX20 : List Cond := u_ws RX2 TX2 4
theorem nmX2 : ∀ a, a < 4 → ∀ b, b < 4 → a ≠ b → (TX2 a).2.1 ≠ (TX2 b).2.1 := by decide +kernel
theorem tyX2_ok : ∀ k, k < 4 → parseFieldDescriptor (TX2 k).2.2.1 = some (tyX2 k) := by decide +kernel
abbrev cX2_init : ByteArray := prog_4_method_1_code
def yX2_init : MethodName := ⟨RX2, "<init>", "()V"⟩
abbrev cX2_size : ByteArray := prog_4_method_2_code
def yX2_size : MethodName := ⟨RX2, "size", "()I"⟩
abbrev cX2_insert : ByteArray := prog_4_method_3_code
def yX2_insert : MethodName := ⟨RX2, "insert", "(IJII)V"⟩
abbrev cX2_part : ByteArray := prog_4_method_4_code
def yX2_part : MethodName := ⟨RX2, "part", "(II)I"⟩
def RX3 : String := "DepositCodes$Frauds"
def TX3 : u_T := fun k => match k with
  | 0 => ("DepositCodes$Frauds", "places", "[I", true)
  | _ => ("DepositCodes$Frauds", "size", "I", false)
def tyX3 : Nat → FieldType := fun k => match k with
  | 0 => .array .int
  | _ => .int
abbrev wsX30 : List Cond := u_ws RX3 TX3 2
theorem nmX3 : ∀ a, a < 2 → ∀ b, b < 2 → a ≠ b → (TX3 a).2.1 ≠ (TX3 b).2.1 := by decide +kernel
theorem tyX3_ok : ∀ k, k < 2 → parseFieldDescriptor (TX3 k).2.2.1 = some (tyX3 k) := by decide +kernel
abbrev cX3_init : ByteArray := prog_5_method_1_code
def yX3_init : MethodName := ⟨RX3, "<init>", "()V"⟩
abbrev cX3_add : ByteArray := prog_5_method_2_code
def yX3_add : MethodName := ⟨RX3, "add", "(I)V"⟩
abbrev cX3_machineOf : ByteArray := prog_5_method_3_code
def yX3_machineOf : MethodName := ⟨RX3, "machineOf", "(I)I"⟩
def RX4 : String := "DepositCodes$Machines"
def TX4 : u_T := fun k => match k with
  | 0 => ("DepositCodes$Machines", "fullOnes", "[Z", true)
  | 1 => ("DepositCodes$Machines", "poweredOnes", "[Z", true)
  | 2 => ("DepositCodes$Machines", "sets", "[I", true)
  | 3 => ("DepositCodes$Machines", "unprinted", "[I", true)
  | _ => ("DepositCodes$Machines", "size", "I", false)
def tyX4 : Nat → FieldType := fun k => match k with
  | 0 => .array .boolean
  | 1 => .array .boolean
  | 2 => .array .int
  | 3 => .array .int
  | _ => .int
abbrev wsX40 : List Cond := u_ws RX4 TX4 5
theorem nmX4 : ∀ a, a < 5 → ∀ b, b < 5 → a ≠ b → (TX4 a).2.1 ≠ (TX4 b).2.1 := by decide +kernel
theorem tyX4_ok : ∀ k, k < 5 → parseFieldDescriptor (TX4 k).2.2.1 = some (tyX4 k) := by decide +kernel
abbrev cX4_init : ByteArray := prog_6_method_1_code
def yX4_init : MethodName := ⟨RX4, "<init>", "()V"⟩
abbrev cX4_addMachine : ByteArray := prog_6_method_2_code
def yX4_addMachine : MethodName := ⟨RX4, "addMachine", "()I"⟩
abbrev cX4_exists : ByteArray := prog_6_method_3_code
def yX4_exists : MethodName := ⟨RX4, "exists", "(I)Z"⟩
abbrev cX4_setFull : ByteArray := prog_6_method_4_code
def yX4_setFull : MethodName := ⟨RX4, "setFull", "(IZ)Z"⟩
abbrev cX4_setPower : ByteArray := prog_6_method_5_code
def yX4_setPower : MethodName := ⟨RX4, "setPower", "(IZ)Z"⟩
abbrev cX4_isFull : ByteArray := prog_6_method_6_code
def yX4_isFull : MethodName := ⟨RX4, "isFull", "(I)Z"⟩
abbrev cX4_hasPower : ByteArray := prog_6_method_7_code
def yX4_hasPower : MethodName := ⟨RX4, "hasPower", "(I)Z"⟩
abbrev cX4_setOf : ByteArray := prog_6_method_8_code
def yX4_setOf : MethodName := ⟨RX4, "setOf", "(I)I"⟩
abbrev cX4_moveSet : ByteArray := prog_6_method_9_code
def yX4_moveSet : MethodName := ⟨RX4, "moveSet", "(II)V"⟩
abbrev cX4_addUnprinted : ByteArray := prog_6_method_10_code
def yX4_addUnprinted : MethodName := ⟨RX4, "addUnprinted", "(I)V"⟩
abbrev cX4_takeUnprinted : ByteArray := prog_6_method_11_code
def yX4_takeUnprinted : MethodName := ⟨RX4, "takeUnprinted", "(I)I"⟩
def RX5 : String := "DepositCodes$Numbers"
def TX5 : u_T := fun k => match k with
  | _ => ("", "", "", false)
def tyX5 : Nat → FieldType := fun k => match k with
  | _ => .int
abbrev wsX50 : List Cond := u_ws RX5 TX5 0
theorem nmX5 : ∀ a, a < 0 → ∀ b, b < 0 → a ≠ b → (TX5 a).2.1 ≠ (TX5 b).2.1 := by decide +kernel
theorem tyX5_ok : ∀ k, k < 0 → parseFieldDescriptor (TX5 k).2.2.1 = some (tyX5 k) := by decide +kernel
abbrev cX5_isNumber : ByteArray := prog_7_method_2_code
def yX5_isNumber : MethodName := ⟨RX5, "isNumber", "(J)Z"⟩
abbrev cX5_isKind : ByteArray := prog_7_method_3_code
def yX5_isKind : MethodName := ⟨RX5, "isKind", "(I)Z"⟩
abbrev cX5_checkDigit : ByteArray := prog_7_method_4_code
def yX5_checkDigit : MethodName := ⟨RX5, "checkDigit", "(IJ)I"⟩
abbrev cX5_isGood : ByteArray := prog_7_method_5_code
def yX5_isGood : MethodName := ⟨RX5, "isGood", "(IJ)Z"⟩
abbrev cX5_decimals : ByteArray := prog_7_method_6_code
def yX5_decimals : MethodName := ⟨RX5, "decimals", "(J)I"⟩
abbrev cX5_decimalAt : ByteArray := prog_7_method_7_code
def yX5_decimalAt : MethodName := ⟨RX5, "decimalAt", "(JI)I"⟩
abbrev cX5_systemOfSerial : ByteArray := prog_7_method_8_code
def yX5_systemOfSerial : MethodName := ⟨RX5, "systemOfSerial", "(J)I"⟩
abbrev cX5_weighed : ByteArray := prog_7_method_9_code
def yX5_weighed : MethodName := ⟨RX5, "weighed", "(II)I"⟩
def RX6 : String := "DepositCodes$Payments"
def TX6 : u_T := fun k => match k with
  | 0 => ("DepositCodes$Payments", "serials", "[J", true)
  | 1 => ("DepositCodes$Payments", "payers", "[I", true)
  | 2 => ("DepositCodes$Payments", "sets", "[I", true)
  | 3 => ("DepositCodes$Payments", "shapes", "[I", true)
  | 4 => ("DepositCodes$Payments", "months", "[I", true)
  | 5 => ("DepositCodes$Payments", "refusals", "[I", true)
  | _ => ("DepositCodes$Payments", "size", "I", false)
def tyX6 : Nat → FieldType := fun k => match k with
  | 0 => .array .long
  | 1 => .array .int
  | 2 => .array .int
  | 3 => .array .int
  | 4 => .array .int
  | 5 => .array .int
  | _ => .int
abbrev wsX60 : List Cond := u_ws RX6 TX6 7
theorem nmX6 : ∀ a, a < 7 → ∀ b, b < 7 → a ≠ b → (TX6 a).2.1 ≠ (TX6 b).2.1 := by decide +kernel
theorem tyX6_ok : ∀ k, k < 7 → parseFieldDescriptor (TX6 k).2.2.1 = some (tyX6 k) := by decide +kernel
abbrev cX6_init : ByteArray := prog_8_method_1_code
def yX6_init : MethodName := ⟨RX6, "<init>", "()V"⟩
abbrev cX6_areAtLimit : ByteArray := prog_8_method_2_code
def yX6_areAtLimit : MethodName := ⟨RX6, "areAtLimit", "()Z"⟩
abbrev cX6_size : ByteArray := prog_8_method_3_code
def yX6_size : MethodName := ⟨RX6, "size", "()I"⟩
abbrev cX6_add : ByteArray := prog_8_method_4_code
def yX6_add : MethodName := ⟨RX6, "add", "(JIIII)V"⟩
abbrev cX6_serialOf : ByteArray := prog_8_method_5_code
def yX6_serialOf : MethodName := ⟨RX6, "serialOf", "(I)J"⟩
abbrev cX6_payerOf : ByteArray := prog_8_method_6_code
def yX6_payerOf : MethodName := ⟨RX6, "payerOf", "(I)I"⟩
abbrev cX6_isOf : ByteArray := prog_8_method_7_code
def yX6_isOf : MethodName := ⟨RX6, "isOf", "(II)Z"⟩
abbrev cX6_find : ByteArray := prog_8_method_8_code
def yX6_find : MethodName := ⟨RX6, "find", "(JI)I"⟩
abbrev cX6_leaveSet : ByteArray := prog_8_method_9_code
def yX6_leaveSet : MethodName := ⟨RX6, "leaveSet", "(I)V"⟩
abbrev cX6_moveSet : ByteArray := prog_8_method_10_code
def yX6_moveSet : MethodName := ⟨RX6, "moveSet", "(II)V"⟩
abbrev cX6_addRefusal : ByteArray := prog_8_method_11_code
def yX6_addRefusal : MethodName := ⟨RX6, "addRefusal", "(J)I"⟩
abbrev cX6_paidBy : ByteArray := prog_8_method_12_code
def yX6_paidBy : MethodName := ⟨RX6, "paidBy", "(II)I"⟩
abbrev cX6_balance : ByteArray := prog_8_method_13_code
def yX6_balance : MethodName := ⟨RX6, "balance", "(I[J)V"⟩
abbrev cX6_addTo : ByteArray := prog_8_method_14_code
def yX6_addTo : MethodName := ⟨RX6, "addTo", "([JII)V"⟩
def RX7 : String := "DepositCodes$Spans"
def TX7 : u_T := fun k => match k with
  | 0 => ("DepositCodes$Spans", "told", "[Z", true)
  | 1 => ("DepositCodes$Spans", "leasts", "[I", true)
  | _ => ("DepositCodes$Spans", "mosts", "[I", true)
def tyX7 : Nat → FieldType := fun k => match k with
  | 0 => .array .boolean
  | 1 => .array .int
  | _ => .array .int
abbrev wsX70 : List Cond := u_ws RX7 TX7 3
theorem nmX7 : ∀ a, a < 3 → ∀ b, b < 3 → a ≠ b → (TX7 a).2.1 ≠ (TX7 b).2.1 := by decide +kernel
theorem tyX7_ok : ∀ k, k < 3 → parseFieldDescriptor (TX7 k).2.2.1 = some (tyX7 k) := by decide +kernel
abbrev cX7_init : ByteArray := prog_9_method_1_code
def yX7_init : MethodName := ⟨RX7, "<init>", "()V"⟩
abbrev cX7_exists : ByteArray := prog_9_method_2_code
def yX7_exists : MethodName := ⟨RX7, "exists", "(I)Z"⟩
abbrev cX7_tell : ByteArray := prog_9_method_3_code
def yX7_tell : MethodName := ⟨RX7, "tell", "(III)Z"⟩
abbrev cX7_isTold : ByteArray := prog_9_method_4_code
def yX7_isTold : MethodName := ⟨RX7, "isTold", "(I)Z"⟩
abbrev cX7_holds : ByteArray := prog_9_method_5_code
def yX7_holds : MethodName := ⟨RX7, "holds", "(II)Z"⟩
def RX8 : String := "DepositCodes"
def TX8 : u_T := fun k => match k with
  | 0 => ("DepositCodes", "bars", "LDepositCodes$Bars;", true)
  | 1 => ("DepositCodes", "machines", "LDepositCodes$Machines;", true)
  | 2 => ("DepositCodes", "spans", "LDepositCodes$Spans;", true)
  | 3 => ("DepositCodes", "payments", "LDepositCodes$Payments;", true)
  | 4 => ("DepositCodes", "doubles", "LDepositCodes$Doubles;", true)
  | 5 => ("DepositCodes", "coupons", "LDepositCodes$Coupons;", true)
  | 6 => ("DepositCodes", "frauds", "LDepositCodes$Frauds;", true)
  | 7 => ("DepositCodes", "balances", "[J", true)
  | _ => ("DepositCodes", "latestReason", "I", false)
def tyX8 : Nat → FieldType := fun k => match k with
  | 0 => .object "DepositCodes$Bars"
  | 1 => .object "DepositCodes$Machines"
  | 2 => .object "DepositCodes$Spans"
  | 3 => .object "DepositCodes$Payments"
  | 4 => .object "DepositCodes$Doubles"
  | 5 => .object "DepositCodes$Coupons"
  | 6 => .object "DepositCodes$Frauds"
  | 7 => .array .long
  | _ => .int
abbrev wsX80 : List Cond := u_ws RX8 TX8 9
theorem nmX8 : ∀ a, a < 9 → ∀ b, b < 9 → a ≠ b → (TX8 a).2.1 ≠ (TX8 b).2.1 := by decide +kernel
theorem tyX8_ok : ∀ k, k < 9 → parseFieldDescriptor (TX8 k).2.2.1 = some (tyX8 k) := by decide +kernel
abbrev cX8_init : ByteArray := prog_1_method_1_code
def yX8_init : MethodName := ⟨RX8, "<init>", "()V"⟩
abbrev cX8_width : ByteArray := prog_1_method_2_code
def yX8_width : MethodName := ⟨RX8, "width", "(II)Z"⟩
abbrev cX8_read : ByteArray := prog_1_method_3_code
def yX8_read : MethodName := ⟨RX8, "read", "()I"⟩
abbrev cX8_back : ByteArray := prog_1_method_4_code
def yX8_back : MethodName := ⟨RX8, "back", "()I"⟩
abbrev cX8_digit : ByteArray := prog_1_method_5_code
def yX8_digit : MethodName := ⟨RX8, "digit", "(I)I"⟩
abbrev cX8_check : ByteArray := prog_1_method_6_code
def yX8_check : MethodName := ⟨RX8, "check", "(IJ)I"⟩
abbrev cX8_good : ByteArray := prog_1_method_7_code
def yX8_good : MethodName := ⟨RX8, "good", "(IJ)Z"⟩
abbrev cX8_machine : ByteArray := prog_1_method_8_code
def yX8_machine : MethodName := ⟨RX8, "machine", "()I"⟩
abbrev cX8_shape : ByteArray := prog_1_method_9_code
def yX8_shape : MethodName := ⟨RX8, "shape", "(III)Z"⟩
abbrev cX8_full : ByteArray := prog_1_method_10_code
def yX8_full : MethodName := ⟨RX8, "full", "(IZ)Z"⟩
abbrev cX8_power : ByteArray := prog_1_method_11_code
def yX8_power : MethodName := ⟨RX8, "power", "(IZ)Z"⟩
abbrev cX8_give : ByteArray := prog_1_method_12_code
def yX8_give : MethodName := ⟨RX8, "give", "(IJIIJ)I"⟩
abbrev cX8_reason : ByteArray := prog_1_method_13_code
def yX8_reason : MethodName := ⟨RX8, "reason", "()I"⟩
abbrev cX8_count : ByteArray := prog_1_method_14_code
def yX8_count : MethodName := ⟨RX8, "count", "(II)J"⟩
abbrev cX8_join : ByteArray := prog_1_method_15_code
def yX8_join : MethodName := ⟨RX8, "join", "(II)I"⟩
abbrev cX8_double2 : ByteArray := prog_1_method_16_code
def yX8_double2 : MethodName := ⟨RX8, "double2", "(II)I"⟩
abbrev cX8_mark : ByteArray := prog_1_method_17_code
def yX8_mark : MethodName := ⟨RX8, "mark", "(JJJ)Z"⟩
abbrev cX8_coupon : ByteArray := prog_1_method_18_code
def yX8_coupon : MethodName := ⟨RX8, "coupon", "(I)I"⟩
abbrev cX8_redeem : ByteArray := prog_1_method_19_code
def yX8_redeem : MethodName := ⟨RX8, "redeem", "(II)Z"⟩
abbrev cX8_shop : ByteArray := prog_1_method_20_code
def yX8_shop : MethodName := ⟨RX8, "shop", "(I)J"⟩
abbrev cX8_clear : ByteArray := prog_1_method_21_code
def yX8_clear : MethodName := ⟨RX8, "clear", "(I)I"⟩
abbrev cX8_cleared : ByteArray := prog_1_method_22_code
def yX8_cleared : MethodName := ⟨RX8, "cleared", "(I)J"⟩
abbrev cX8_fraud : ByteArray := prog_1_method_23_code
def yX8_fraud : MethodName := ⟨RX8, "fraud", "(I)I"⟩
abbrev cX8_reasonToRefuse : ByteArray := prog_1_method_24_code
def yX8_reasonToRefuse : MethodName := ⟨RX8, "reasonToRefuse", "(IJII)I"⟩
abbrev cX8_noteRefusal : ByteArray := prog_1_method_25_code
def yX8_noteRefusal : MethodName := ⟨RX8, "noteRefusal", "(IJ)V"⟩
abbrev cX8_tellDoubles : ByteArray := prog_1_method_26_code
def yX8_tellDoubles : MethodName := ⟨RX8, "tellDoubles", "(II)I"⟩
abbrev cX8_isIndex : ByteArray := prog_1_method_27_code
def yX8_isIndex : MethodName := ⟨RX8, "isIndex", "(II)Z"⟩
def RX9 : String := "DepositCodesModel"
def TX9 : u_T := fun k => match k with
  | 0 => ("DepositCodesModel", "widths", "[I", true)
  | 1 => ("DepositCodesModel", "digits", "[I", true)
  | 2 => ("DepositCodesModel", "digitCount", "I", false)
  | 3 => ("DepositCodesModel", "fault", "I", false)
  | 4 => ("DepositCodesModel", "machines", "I", false)
  | 5 => ("DepositCodesModel", "sets", "[I", true)
  | 6 => ("DepositCodesModel", "isFull", "[Z", true)
  | 7 => ("DepositCodesModel", "isDark", "[Z", true)
  | 8 => ("DepositCodesModel", "leasts", "[I", true)
  | 9 => ("DepositCodesModel", "mosts", "[I", true)
  | 10 => ("DepositCodesModel", "serials", "[J", true)
  | 11 => ("DepositCodesModel", "payers", "[I", true)
  | 12 => ("DepositCodesModel", "shapes", "[I", true)
  | 13 => ("DepositCodesModel", "months", "[J", true)
  | 14 => ("DepositCodesModel", "counts", "[Z", true)
  | 15 => ("DepositCodesModel", "printed", "[Z", true)
  | 16 => ("DepositCodesModel", "paid", "I", false)
  | 17 => ("DepositCodesModel", "reason", "I", false)
  | 18 => ("DepositCodesModel", "refused", "[J", true)
  | 19 => ("DepositCodesModel", "often", "[I", true)
  | 20 => ("DepositCodesModel", "refusedCount", "I", false)
  | 21 => ("DepositCodesModel", "frauds", "[I", true)
  | 22 => ("DepositCodesModel", "fraudCount", "I", false)
  | 23 => ("DepositCodesModel", "doubles", "[J", true)
  | 24 => ("DepositCodesModel", "doubleA", "[I", true)
  | 25 => ("DepositCodesModel", "doubleB", "[I", true)
  | 26 => ("DepositCodesModel", "doubleCount", "I", false)
  | 27 => ("DepositCodesModel", "coupons", "[I", true)
  | 28 => ("DepositCodesModel", "redeemed", "[Z", true)
  | 29 => ("DepositCodesModel", "couponCount", "I", false)
  | 30 => ("DepositCodesModel", "shops", "[J", true)
  | _ => ("DepositCodesModel", "balances", "[J", true)
def tyX9 : Nat → FieldType := fun k => match k with
  | 0 => .array .int
  | 1 => .array .int
  | 2 => .int
  | 3 => .int
  | 4 => .int
  | 5 => .array .int
  | 6 => .array .boolean
  | 7 => .array .boolean
  | 8 => .array .int
  | 9 => .array .int
  | 10 => .array .long
  | 11 => .array .int
  | 12 => .array .int
  | 13 => .array .long
  | 14 => .array .boolean
  | 15 => .array .boolean
  | 16 => .int
  | 17 => .int
  | 18 => .array .long
  | 19 => .array .int
  | 20 => .int
  | 21 => .array .int
  | 22 => .int
  | 23 => .array .long
  | 24 => .array .int
  | 25 => .array .int
  | 26 => .int
  | 27 => .array .int
  | 28 => .array .boolean
  | 29 => .int
  | 30 => .array .long
  | _ => .array .long
abbrev wsX90 : List Cond := u_ws RX9 TX9 32
theorem nmX9 : ∀ a, a < 32 → ∀ b, b < 32 → a ≠ b → (TX9 a).2.1 ≠ (TX9 b).2.1 := by decide +kernel
theorem tyX9_ok : ∀ k, k < 32 → parseFieldDescriptor (TX9 k).2.2.1 = some (tyX9 k) := by decide +kernel
abbrev cX9_init : ByteArray := prog_11_method_1_code
def yX9_init : MethodName := ⟨RX9, "<init>", "()V"⟩
abbrev cX9_thrown : ByteArray := prog_11_method_2_code
def yX9_thrown : MethodName := ⟨RX9, "thrown", "()I"⟩
abbrev cX9_isIn : ByteArray := prog_11_method_3_code
def yX9_isIn : MethodName := ⟨RX9, "isIn", "(JJ)Z"⟩
abbrev cX9_width : ByteArray := prog_11_method_4_code
def yX9_width : MethodName := ⟨RX9, "width", "(II)Z"⟩
abbrev cX9_size : ByteArray := prog_11_method_5_code
def yX9_size : MethodName := ⟨RX9, "size", "()I"⟩
abbrev cX9_at : ByteArray := prog_11_method_6_code
def yX9_at : MethodName := ⟨RX9, "at", "(IZ)I"⟩
abbrev cX9_pattern : ByteArray := prog_11_method_7_code
def yX9_pattern : MethodName := ⟨RX9, "pattern", "(II)I"⟩
abbrev cX9_digitAt : ByteArray := prog_11_method_8_code
def yX9_digitAt : MethodName := ⟨RX9, "digitAt", "(IZ)I"⟩
abbrev cX9_readSo : ByteArray := prog_11_method_9_code
def yX9_readSo : MethodName := ⟨RX9, "readSo", "(Z)Z"⟩
abbrev cX9_read : ByteArray := prog_11_method_10_code
def yX9_read : MethodName := ⟨RX9, "read", "()I"⟩
abbrev cX9_back : ByteArray := prog_11_method_11_code
def yX9_back : MethodName := ⟨RX9, "back", "()I"⟩
abbrev cX9_digit : ByteArray := prog_11_method_12_code
def yX9_digit : MethodName := ⟨RX9, "digit", "(I)I"⟩
abbrev cX9_checkOf : ByteArray := prog_11_method_13_code
def yX9_checkOf : MethodName := ⟨RX9, "checkOf", "(IJ)I"⟩
abbrev cX9_check : ByteArray := prog_11_method_14_code
def yX9_check : MethodName := ⟨RX9, "check", "(IJ)I"⟩
abbrev cX9_good : ByteArray := prog_11_method_15_code
def yX9_good : MethodName := ⟨RX9, "good", "(IJ)Z"⟩
abbrev cX9_mark : ByteArray := prog_11_method_16_code
def yX9_mark : MethodName := ⟨RX9, "mark", "(JJJ)Z"⟩
abbrev cX9_isMachine : ByteArray := prog_11_method_17_code
def yX9_isMachine : MethodName := ⟨RX9, "isMachine", "(I)Z"⟩
abbrev cX9_machine : ByteArray := prog_11_method_18_code
def yX9_machine : MethodName := ⟨RX9, "machine", "()I"⟩
abbrev cX9_shape : ByteArray := prog_11_method_19_code
def yX9_shape : MethodName := ⟨RX9, "shape", "(III)Z"⟩
abbrev cX9_full : ByteArray := prog_11_method_20_code
def yX9_full : MethodName := ⟨RX9, "full", "(IZ)Z"⟩
abbrev cX9_power : ByteArray := prog_11_method_21_code
def yX9_power : MethodName := ⟨RX9, "power", "(IZ)Z"⟩
abbrev cX9_payingOf : ByteArray := prog_11_method_22_code
def yX9_payingOf : MethodName := ⟨RX9, "payingOf", "(JI)I"⟩
abbrev cX9_reasonFor : ByteArray := prog_11_method_23_code
def yX9_reasonFor : MethodName := ⟨RX9, "reasonFor", "(IJII)I"⟩
abbrev cX9_refuse : ByteArray := prog_11_method_24_code
def yX9_refuse : MethodName := ⟨RX9, "refuse", "(IJ)V"⟩
abbrev cX9_give : ByteArray := prog_11_method_25_code
def yX9_give : MethodName := ⟨RX9, "give", "(IJIIJ)I"⟩
abbrev cX9_reason : ByteArray := prog_11_method_26_code
def yX9_reason : MethodName := ⟨RX9, "reason", "()I"⟩
abbrev cX9_count : ByteArray := prog_11_method_27_code
def yX9_count : MethodName := ⟨RX9, "count", "(II)J"⟩
abbrev cX9_join : ByteArray := prog_11_method_28_code
def yX9_join : MethodName := ⟨RX9, "join", "(II)I"⟩
abbrev cX9_insert : ByteArray := prog_11_method_29_code
def yX9_insert : MethodName := ⟨RX9, "insert", "(IJII)V"⟩
abbrev cX9_decimals : ByteArray := prog_11_method_30_code
def yX9_decimals : MethodName := ⟨RX9, "decimals", "(J)I"⟩
abbrev cX9_double2 : ByteArray := prog_11_method_31_code
def yX9_double2 : MethodName := ⟨RX9, "double2", "(II)I"⟩
abbrev cX9_coupon : ByteArray := prog_11_method_32_code
def yX9_coupon : MethodName := ⟨RX9, "coupon", "(I)I"⟩
abbrev cX9_redeem : ByteArray := prog_11_method_33_code
def yX9_redeem : MethodName := ⟨RX9, "redeem", "(II)Z"⟩
abbrev cX9_shop : ByteArray := prog_11_method_34_code
def yX9_shop : MethodName := ⟨RX9, "shop", "(I)J"⟩
abbrev cX9_clear : ByteArray := prog_11_method_35_code
def yX9_clear : MethodName := ⟨RX9, "clear", "(I)I"⟩
abbrev cX9_cleared : ByteArray := prog_11_method_36_code
def yX9_cleared : MethodName := ⟨RX9, "cleared", "(I)J"⟩
abbrev cX9_fraud : ByteArray := prog_11_method_37_code
def yX9_fraud : MethodName := ⟨RX9, "fraud", "(I)I"⟩
def RJx00060 : String := "java/lang/ArrayIndexOutOfBoundsException"
def TJx00060 : u_T := fun k => match k with
  | 0 => ("java/lang/Throwable", "cause", "Ljava/lang/Throwable;", false)
  | 1 => ("java/lang/Throwable", "stackTrace", "[Ljava/lang/StackTraceElement;", false)
  | 2 => ("java/lang/Throwable", "suppressedExceptions", "Ljava/util/List;", false)
  | 3 => ("java/lang/Throwable", "detailMessage", "Ljava/lang/String;", false)
  | 4 => ("java/lang/Throwable", "backtrace", "Ljava/lang/Object;", false)
  | _ => ("java/lang/Throwable", "depth", "I", false)
def tyJx00060 : Nat → FieldType := fun k => match k with
  | 0 => .object "java/lang/Throwable"
  | 1 => .array (.object "java/lang/StackTraceElement")
  | 2 => .object "java/util/List"
  | 3 => .object "java/lang/String"
  | 4 => .object "java/lang/Object"
  | _ => .int
abbrev wsJx000600 : List Cond := u_ws RJx00060 TJx00060 6
theorem nmJx00060 : ∀ a, a < 6 → ∀ b, b < 6 → a ≠ b → (TJx00060 a).2.1 ≠ (TJx00060 b).2.1 := by decide +kernel
theorem tyJx00060_ok : ∀ k, k < 6 → parseFieldDescriptor (TJx00060 k).2.2.1 = some (tyJx00060 k) := by decide +kernel
abbrev cJx00060_init_da8c8 : ByteArray := prog_12_method_1_code
def yJx00060_init_da8c8 : MethodName := ⟨RJx00060, "<init>", "()V"⟩
def RL : String := "DepositCodesLaw"
abbrev cL_digit : ByteArray := method_3_code
def yL_digit : MethodName := ⟨RL, "digit", "(LDepositCodes;I[J)I"⟩
abbrev cL_law : ByteArray := code
def yL_law : MethodName := ⟨RL, "law", "([I)Z"⟩
def wsX0_init : List Cond := .code yX0_init cX0_init 1 none :: ([.methodLink RX0 5 objectInit, .instanceMethod objectInit, .code objectInit ⟨#[0xb1]⟩ 1 none, .arrayClass .int, .fieldLink RX0 11 "DepositCodes$Bars" "widths" "[I", .fieldLink RX0 15 "DepositCodes$Bars" "digits" "[I", .fieldLink RX0 18 "DepositCodes$Bars" "digitCount" "I"] ++ wsX00)
def wsX8_isIndex : List Cond := .code yX8_isIndex cX8_isIndex 2 (some .boolean) :: ([])
def wsX0_setWidth : List Cond := .code yX0_setWidth cX0_setWidth 3 (some .boolean) :: ([.fieldLink RX0 11 "DepositCodes$Bars" "widths" "[I", .static yX8_isIndex, .initialized RX8, .code yX8_isIndex cX8_isIndex 2 (some .boolean)] ++ wsX00)
def wsX0_rowLength : List Cond := .code yX0_rowLength cX0_rowLength 2 (some .int) :: ([.fieldLink RX0 11 "DepositCodes$Bars" "widths" "[I"] ++ wsX00)
def wsX0_widthAt : List Cond := .code yX0_widthAt cX0_widthAt 2 (some .int) :: ([.fieldLink RX0 11 "DepositCodes$Bars" "widths" "[I", .static yX8_isIndex, .initialized RX8, .code yX8_isIndex cX8_isIndex 2 (some .boolean)] ++ wsX00)
def wsX0_isEdge : List Cond := .code yX0_isEdge cX0_isEdge 3 (some .boolean) :: ([.methodLink RX0 42 yX0_widthAt, .instanceMethod yX0_widthAt, .selects RX0 yX0_widthAt yX0_widthAt, .initialized RX0, .code yX0_widthAt cX0_widthAt 2 (some .int), .fieldLink RX0 11 "DepositCodes$Bars" "widths" "[I", .static yX8_isIndex, .initialized RX8, .code yX8_isIndex cX8_isIndex 2 (some .boolean)] ++ wsX00)
def wsX0_matches : List Cond := .code yX0_matches cX0_matches 9 (some .boolean) :: ([.fieldLink RX0 50 "DepositCodes$Bars" "PATTERNS" "[I", .methodLink RX0 42 yX0_widthAt, .instanceMethod yX0_widthAt, .selects RX0 yX0_widthAt yX0_widthAt, .initialized RX0, .code yX0_widthAt cX0_widthAt 2 (some .int), .fieldLink RX0 11 "DepositCodes$Bars" "widths" "[I", .static yX8_isIndex, .initialized RX8, .code yX8_isIndex cX8_isIndex 2 (some .boolean)] ++ wsX00)
def wsX0_digitOfGroup : List Cond := .code yX0_digitOfGroup cX0_digitOfGroup 5 (some .int) :: ([.methodLink RX0 46 yX0_matches, .instanceMethod yX0_matches, .selects RX0 yX0_matches yX0_matches, .initialized RX0, .code yX0_matches cX0_matches 9 (some .boolean), .fieldLink RX0 50 "DepositCodes$Bars" "PATTERNS" "[I", .methodLink RX0 42 yX0_widthAt, .instanceMethod yX0_widthAt, .selects RX0 yX0_widthAt yX0_widthAt, .code yX0_widthAt cX0_widthAt 2 (some .int), .fieldLink RX0 11 "DepositCodes$Bars" "widths" "[I", .static yX8_isIndex, .initialized RX8, .code yX8_isIndex cX8_isIndex 2 (some .boolean)] ++ wsX00)
def wsX0_decode : List Cond := .code yX0_decode cX0_decode 7 (some .boolean) :: ([.fieldLink RX0 15 "DepositCodes$Bars" "digits" "[I", .fieldLink RX0 18 "DepositCodes$Bars" "digitCount" "I", .methodLink RX0 34 yX0_isEdge, .instanceMethod yX0_isEdge, .selects RX0 yX0_isEdge yX0_isEdge, .initialized RX0, .code yX0_isEdge cX0_isEdge 3 (some .boolean), .methodLink RX0 42 yX0_widthAt, .instanceMethod yX0_widthAt, .selects RX0 yX0_widthAt yX0_widthAt, .code yX0_widthAt cX0_widthAt 2 (some .int), .fieldLink RX0 11 "DepositCodes$Bars" "widths" "[I", .static yX8_isIndex, .initialized RX8, .code yX8_isIndex cX8_isIndex 2 (some .boolean), .methodLink RX0 38 yX0_digitOfGroup, .instanceMethod yX0_digitOfGroup, .selects RX0 yX0_digitOfGroup yX0_digitOfGroup, .code yX0_digitOfGroup cX0_digitOfGroup 5 (some .int), .methodLink RX0 46 yX0_matches, .instanceMethod yX0_matches, .selects RX0 yX0_matches yX0_matches, .code yX0_matches cX0_matches 9 (some .boolean), .fieldLink RX0 50 "DepositCodes$Bars" "PATTERNS" "[I"] ++ wsX00)
def wsX0_scan_r1 : List Cond := [Cond.fieldLink RX0 18 "DepositCodes$Bars" "digitCount" "I", Cond.methodLink RX0 26 yX0_rowLength, Cond.instanceMethod yX0_rowLength, Cond.selects RX0 yX0_rowLength yX0_rowLength, Cond.initialized RX0, Cond.code yX0_rowLength cX0_rowLength 2 (some .int), Cond.fieldLink RX0 11 "DepositCodes$Bars" "widths" "[I", Cond.methodLink RX0 30 yX0_decode, Cond.instanceMethod yX0_decode, Cond.selects RX0 yX0_decode yX0_decode, Cond.code yX0_decode cX0_decode 7 (some .boolean), Cond.fieldLink RX0 15 "DepositCodes$Bars" "digits" "[I", Cond.methodLink RX0 34 yX0_isEdge, Cond.instanceMethod yX0_isEdge, Cond.selects RX0 yX0_isEdge yX0_isEdge, Cond.code yX0_isEdge cX0_isEdge 3 (some .boolean), Cond.methodLink RX0 42 yX0_widthAt, Cond.instanceMethod yX0_widthAt, Cond.selects RX0 yX0_widthAt yX0_widthAt, Cond.code yX0_widthAt cX0_widthAt 2 (some .int), Cond.static yX8_isIndex, Cond.initialized RX8, Cond.code yX8_isIndex cX8_isIndex 2 (some .boolean), Cond.methodLink RX0 38 yX0_digitOfGroup]
def wsX0_scan_r2 : List Cond := [Cond.instanceMethod yX0_digitOfGroup, Cond.selects RX0 yX0_digitOfGroup yX0_digitOfGroup, Cond.code yX0_digitOfGroup cX0_digitOfGroup 5 (some .int), Cond.methodLink RX0 46 yX0_matches, Cond.instanceMethod yX0_matches, Cond.selects RX0 yX0_matches yX0_matches, Cond.code yX0_matches cX0_matches 9 (some .boolean), Cond.fieldLink RX0 50 "DepositCodes$Bars" "PATTERNS" "[I"]
def wsX0_scan : List Cond := .code yX0_scan cX0_scan 3 (some .int) :: ((wsX0_scan_r1 ++ wsX0_scan_r2) ++ wsX00)
def wsX0_digitAt : List Cond := .code yX0_digitAt cX0_digitAt 2 (some .int) :: ([.fieldLink RX0 18 "DepositCodes$Bars" "digitCount" "I", .fieldLink RX0 15 "DepositCodes$Bars" "digits" "[I", .static yX8_isIndex, .initialized RX8, .code yX8_isIndex cX8_isIndex 2 (some .boolean)] ++ wsX00)
def wsX1_init : List Cond := .code yX1_init cX1_init 1 none :: ([.methodLink RX1 3 objectInit, .instanceMethod objectInit, .code objectInit ⟨#[0xb1]⟩ 1 none, .arrayClass .int, .fieldLink RX1 11 "DepositCodes$Coupons" "amounts" "[I", .arrayClass .boolean, .fieldLink RX1 17 "DepositCodes$Coupons" "redeemed" "[Z", .arrayClass .long, .fieldLink RX1 21 "DepositCodes$Coupons" "sums" "[J", .fieldLink RX1 25 "DepositCodes$Coupons" "size" "I"] ++ wsX10)
def wsX1_print : List Cond := .code yX1_print cX1_print 3 (some .int) :: ([.fieldLink RX1 25 "DepositCodes$Coupons" "size" "I", .fieldLink RX1 11 "DepositCodes$Coupons" "amounts" "[I"] ++ wsX10)
def wsX1_redeemAt : List Cond := .code yX1_redeemAt cX1_redeemAt 3 (some .boolean) :: ([.fieldLink RX1 25 "DepositCodes$Coupons" "size" "I", .fieldLink RX1 17 "DepositCodes$Coupons" "redeemed" "[Z", .fieldLink RX1 21 "DepositCodes$Coupons" "sums" "[J", .fieldLink RX1 11 "DepositCodes$Coupons" "amounts" "[I", .static yX8_isIndex, .initialized RX8, .code yX8_isIndex cX8_isIndex 2 (some .boolean)] ++ wsX10)
def wsX1_redeemedBy : List Cond := .code yX1_redeemedBy cX1_redeemedBy 2 (some .long) :: ([.fieldLink RX1 21 "DepositCodes$Coupons" "sums" "[J", .constantLong RX1 33 (-1), .static yX8_isIndex, .initialized RX8, .code yX8_isIndex cX8_isIndex 2 (some .boolean)] ++ wsX10)
def wsX2_init : List Cond := .code yX2_init cX2_init 1 none :: ([.methodLink RX2 3 objectInit, .instanceMethod objectInit, .code objectInit ⟨#[0xb1]⟩ 1 none, .arrayClass .long, .fieldLink RX2 11 "DepositCodes$Doubles" "serials" "[J", .arrayClass .int, .fieldLink RX2 17 "DepositCodes$Doubles" "payersA" "[I", .fieldLink RX2 21 "DepositCodes$Doubles" "payersB" "[I", .fieldLink RX2 24 "DepositCodes$Doubles" "size" "I"] ++ wsX20)
def wsX2_size : List Cond := .code yX2_size cX2_size 1 (some .int) :: ([.fieldLink RX2 24 "DepositCodes$Doubles" "size" "I"] ++ wsX20)
def wsX2_insert : List Cond := .code yX2_insert cX2_insert 7 none :: ([.fieldLink RX2 24 "DepositCodes$Doubles" "size" "I", .fieldLink RX2 11 "DepositCodes$Doubles" "serials" "[J", .fieldLink RX2 17 "DepositCodes$Doubles" "payersA" "[I", .fieldLink RX2 21 "DepositCodes$Doubles" "payersB" "[I"] ++ wsX20)
def wsX5_decimals : List Cond := .code yX5_decimals cX5_decimals 5 (some .int) :: ([.constantLong RX5 17 (10)])
def wsX5_decimalAt : List Cond := .code yX5_decimalAt cX5_decimalAt 7 (some .int) :: ([.constantLong RX5 17 (10), .methodLink RX5 27 yX5_decimals, .static yX5_decimals, .initialized RX5, .code yX5_decimals cX5_decimals 5 (some .int)])
def wsX2_part : List Cond := .code yX2_part cX2_part 3 (some .int) :: ([.fieldLink RX2 24 "DepositCodes$Doubles" "size" "I", .fieldLink RX2 17 "DepositCodes$Doubles" "payersA" "[I", .fieldLink RX2 21 "DepositCodes$Doubles" "payersB" "[I", .fieldLink RX2 11 "DepositCodes$Doubles" "serials" "[J", .static yX8_isIndex, .initialized RX8, .code yX8_isIndex cX8_isIndex 2 (some .boolean), .methodLink RX2 32 yX5_decimals, .static yX5_decimals, .initialized RX5, .code yX5_decimals cX5_decimals 5 (some .int), .constantLong RX5 17 (10), .methodLink RX2 38 yX5_decimalAt, .static yX5_decimalAt, .code yX5_decimalAt cX5_decimalAt 7 (some .int), .methodLink RX5 27 yX5_decimals] ++ wsX20)
def wsX3_init : List Cond := .code yX3_init cX3_init 1 none :: ([.methodLink RX3 5 objectInit, .instanceMethod objectInit, .code objectInit ⟨#[0xb1]⟩ 1 none, .arrayClass .int, .fieldLink RX3 11 "DepositCodes$Frauds" "places" "[I", .fieldLink RX3 15 "DepositCodes$Frauds" "size" "I"] ++ wsX30)
def wsX3_add : List Cond := .code yX3_add cX3_add 2 none :: ([.fieldLink RX3 15 "DepositCodes$Frauds" "size" "I", .fieldLink RX3 11 "DepositCodes$Frauds" "places" "[I"] ++ wsX30)
def wsX3_machineOf : List Cond := .code yX3_machineOf cX3_machineOf 2 (some .int) :: ([.fieldLink RX3 15 "DepositCodes$Frauds" "size" "I", .fieldLink RX3 11 "DepositCodes$Frauds" "places" "[I", .static yX8_isIndex, .initialized RX8, .code yX8_isIndex cX8_isIndex 2 (some .boolean)] ++ wsX30)
def wsX4_init : List Cond := .code yX4_init cX4_init 1 none :: ([.methodLink RX4 3 objectInit, .instanceMethod objectInit, .code objectInit ⟨#[0xb1]⟩ 1 none, .arrayClass .boolean, .fieldLink RX4 11 "DepositCodes$Machines" "fullOnes" "[Z", .fieldLink RX4 15 "DepositCodes$Machines" "poweredOnes" "[Z", .arrayClass .int, .fieldLink RX4 18 "DepositCodes$Machines" "sets" "[I", .fieldLink RX4 22 "DepositCodes$Machines" "unprinted" "[I", .fieldLink RX4 25 "DepositCodes$Machines" "size" "I"] ++ wsX40)
def wsX4_addMachine : List Cond := .code yX4_addMachine cX4_addMachine 2 (some .int) :: ([.fieldLink RX4 25 "DepositCodes$Machines" "size" "I", .fieldLink RX4 15 "DepositCodes$Machines" "poweredOnes" "[Z", .fieldLink RX4 18 "DepositCodes$Machines" "sets" "[I"] ++ wsX40)
def wsX4_exists : List Cond := .code yX4_exists cX4_exists 2 (some .boolean) :: ([.fieldLink RX4 25 "DepositCodes$Machines" "size" "I", .static yX8_isIndex, .initialized RX8, .code yX8_isIndex cX8_isIndex 2 (some .boolean)] ++ wsX40)
def wsX4_setFull : List Cond := .code yX4_setFull cX4_setFull 3 (some .boolean) :: ([.fieldLink RX4 11 "DepositCodes$Machines" "fullOnes" "[Z", .methodLink RX4 33 yX4_exists, .instanceMethod yX4_exists, .selects RX4 yX4_exists yX4_exists, .initialized RX4, .code yX4_exists cX4_exists 2 (some .boolean), .fieldLink RX4 25 "DepositCodes$Machines" "size" "I", .static yX8_isIndex, .initialized RX8, .code yX8_isIndex cX8_isIndex 2 (some .boolean)] ++ wsX40)
def wsX4_setPower : List Cond := .code yX4_setPower cX4_setPower 3 (some .boolean) :: ([.fieldLink RX4 15 "DepositCodes$Machines" "poweredOnes" "[Z", .methodLink RX4 33 yX4_exists, .instanceMethod yX4_exists, .selects RX4 yX4_exists yX4_exists, .initialized RX4, .code yX4_exists cX4_exists 2 (some .boolean), .fieldLink RX4 25 "DepositCodes$Machines" "size" "I", .static yX8_isIndex, .initialized RX8, .code yX8_isIndex cX8_isIndex 2 (some .boolean)] ++ wsX40)
def wsX4_isFull : List Cond := .code yX4_isFull cX4_isFull 2 (some .boolean) :: ([.fieldLink RX4 11 "DepositCodes$Machines" "fullOnes" "[Z", .methodLink RX4 33 yX4_exists, .instanceMethod yX4_exists, .selects RX4 yX4_exists yX4_exists, .initialized RX4, .code yX4_exists cX4_exists 2 (some .boolean), .fieldLink RX4 25 "DepositCodes$Machines" "size" "I", .static yX8_isIndex, .initialized RX8, .code yX8_isIndex cX8_isIndex 2 (some .boolean)] ++ wsX40)
def wsX4_hasPower : List Cond := .code yX4_hasPower cX4_hasPower 2 (some .boolean) :: ([.fieldLink RX4 15 "DepositCodes$Machines" "poweredOnes" "[Z", .methodLink RX4 33 yX4_exists, .instanceMethod yX4_exists, .selects RX4 yX4_exists yX4_exists, .initialized RX4, .code yX4_exists cX4_exists 2 (some .boolean), .fieldLink RX4 25 "DepositCodes$Machines" "size" "I", .static yX8_isIndex, .initialized RX8, .code yX8_isIndex cX8_isIndex 2 (some .boolean)] ++ wsX40)
def wsX4_setOf : List Cond := .code yX4_setOf cX4_setOf 2 (some .int) :: ([.fieldLink RX4 18 "DepositCodes$Machines" "sets" "[I", .methodLink RX4 33 yX4_exists, .instanceMethod yX4_exists, .selects RX4 yX4_exists yX4_exists, .initialized RX4, .code yX4_exists cX4_exists 2 (some .boolean), .fieldLink RX4 25 "DepositCodes$Machines" "size" "I", .static yX8_isIndex, .initialized RX8, .code yX8_isIndex cX8_isIndex 2 (some .boolean)] ++ wsX40)
def wsX4_moveSet : List Cond := .code yX4_moveSet cX4_moveSet 4 none :: ([.fieldLink RX4 25 "DepositCodes$Machines" "size" "I", .fieldLink RX4 18 "DepositCodes$Machines" "sets" "[I"] ++ wsX40)
def wsX4_addUnprinted : List Cond := .code yX4_addUnprinted cX4_addUnprinted 2 none :: ([.fieldLink RX4 22 "DepositCodes$Machines" "unprinted" "[I", .methodLink RX4 33 yX4_exists, .instanceMethod yX4_exists, .selects RX4 yX4_exists yX4_exists, .initialized RX4, .code yX4_exists cX4_exists 2 (some .boolean), .fieldLink RX4 25 "DepositCodes$Machines" "size" "I", .static yX8_isIndex, .initialized RX8, .code yX8_isIndex cX8_isIndex 2 (some .boolean)] ++ wsX40)
def wsX4_takeUnprinted : List Cond := .code yX4_takeUnprinted cX4_takeUnprinted 3 (some .int) :: ([.fieldLink RX4 22 "DepositCodes$Machines" "unprinted" "[I", .methodLink RX4 33 yX4_exists, .instanceMethod yX4_exists, .selects RX4 yX4_exists yX4_exists, .initialized RX4, .code yX4_exists cX4_exists 2 (some .boolean), .fieldLink RX4 25 "DepositCodes$Machines" "size" "I", .static yX8_isIndex, .initialized RX8, .code yX8_isIndex cX8_isIndex 2 (some .boolean)] ++ wsX40)
def wsX5_isNumber : List Cond := .code yX5_isNumber cX5_isNumber 2 (some .boolean) :: ([.constantLong RX5 11 (999999999999999999)])
def wsX5_isKind : List Cond := .code yX5_isKind cX5_isKind 1 (some .boolean) :: ([.static yX8_isIndex, .initialized RX8, .code yX8_isIndex cX8_isIndex 2 (some .boolean)])
def wsX5_weighed : List Cond := .code yX5_weighed cX5_weighed 2 (some .int) :: ([])
def wsX5_checkDigit : List Cond := .code yX5_checkDigit cX5_checkDigit 8 (some .int) :: ([.constantLong RX5 17 (10), .methodLink RX5 19 yX5_weighed, .static yX5_weighed, .initialized RX5, .code yX5_weighed cX5_weighed 2 (some .int)])
def wsX5_isGood : List Cond := .code yX5_isGood cX5_isGood 3 (some .boolean) :: ([.constantLong RX5 17 (10), .methodLink RX5 23 yX5_checkDigit, .static yX5_checkDigit, .initialized RX5, .code yX5_checkDigit cX5_checkDigit 8 (some .int), .methodLink RX5 19 yX5_weighed, .static yX5_weighed, .code yX5_weighed cX5_weighed 2 (some .int)])
def wsX5_systemOfSerial : List Cond := .code yX5_systemOfSerial cX5_systemOfSerial 2 (some .int) :: ([.constantLong RX5 17 (10), .constantLong RX5 31 (3)])
def wsX6_init : List Cond := .code yX6_init cX6_init 1 none :: ([.methodLink RX6 3 objectInit, .instanceMethod objectInit, .code objectInit ⟨#[0xb1]⟩ 1 none, .arrayClass .long, .fieldLink RX6 11 "DepositCodes$Payments" "serials" "[J", .arrayClass .int, .fieldLink RX6 15 "DepositCodes$Payments" "payers" "[I", .fieldLink RX6 19 "DepositCodes$Payments" "sets" "[I", .fieldLink RX6 22 "DepositCodes$Payments" "shapes" "[I", .fieldLink RX6 25 "DepositCodes$Payments" "months" "[I", .fieldLink RX6 28 "DepositCodes$Payments" "refusals" "[I", .fieldLink RX6 31 "DepositCodes$Payments" "size" "I"] ++ wsX60)
def wsX6_areAtLimit : List Cond := .code yX6_areAtLimit cX6_areAtLimit 1 (some .boolean) :: ([.fieldLink RX6 31 "DepositCodes$Payments" "size" "I"] ++ wsX60)
def wsX6_size : List Cond := .code yX6_size cX6_size 1 (some .int) :: ([.fieldLink RX6 31 "DepositCodes$Payments" "size" "I"] ++ wsX60)
def wsX6_add : List Cond := .code yX6_add cX6_add 7 none :: ([.fieldLink RX6 31 "DepositCodes$Payments" "size" "I", .fieldLink RX6 11 "DepositCodes$Payments" "serials" "[J", .fieldLink RX6 15 "DepositCodes$Payments" "payers" "[I", .fieldLink RX6 19 "DepositCodes$Payments" "sets" "[I", .fieldLink RX6 22 "DepositCodes$Payments" "shapes" "[I", .fieldLink RX6 25 "DepositCodes$Payments" "months" "[I"] ++ wsX60)
def wsX6_serialOf : List Cond := .code yX6_serialOf cX6_serialOf 2 (some .long) :: ([.fieldLink RX6 31 "DepositCodes$Payments" "size" "I", .fieldLink RX6 11 "DepositCodes$Payments" "serials" "[J", .constantLong RX6 39 (-1), .static yX8_isIndex, .initialized RX8, .code yX8_isIndex cX8_isIndex 2 (some .boolean)] ++ wsX60)
def wsX6_payerOf : List Cond := .code yX6_payerOf cX6_payerOf 2 (some .int) :: ([.fieldLink RX6 31 "DepositCodes$Payments" "size" "I", .fieldLink RX6 15 "DepositCodes$Payments" "payers" "[I", .static yX8_isIndex, .initialized RX8, .code yX8_isIndex cX8_isIndex 2 (some .boolean)] ++ wsX60)
def wsX6_isOf : List Cond := .code yX6_isOf cX6_isOf 3 (some .boolean) :: ([.fieldLink RX6 31 "DepositCodes$Payments" "size" "I", .fieldLink RX6 19 "DepositCodes$Payments" "sets" "[I", .static yX8_isIndex, .initialized RX8, .code yX8_isIndex cX8_isIndex 2 (some .boolean)] ++ wsX60)
def wsX6_find : List Cond := .code yX6_find cX6_find 5 (some .int) :: ([.fieldLink RX6 31 "DepositCodes$Payments" "size" "I", .fieldLink RX6 11 "DepositCodes$Payments" "serials" "[J", .fieldLink RX6 19 "DepositCodes$Payments" "sets" "[I"] ++ wsX60)
def wsX6_leaveSet : List Cond := .code yX6_leaveSet cX6_leaveSet 2 none :: ([.fieldLink RX6 31 "DepositCodes$Payments" "size" "I", .fieldLink RX6 19 "DepositCodes$Payments" "sets" "[I", .static yX8_isIndex, .initialized RX8, .code yX8_isIndex cX8_isIndex 2 (some .boolean)] ++ wsX60)
def wsX6_moveSet : List Cond := .code yX6_moveSet cX6_moveSet 4 none :: ([.fieldLink RX6 31 "DepositCodes$Payments" "size" "I", .fieldLink RX6 19 "DepositCodes$Payments" "sets" "[I"] ++ wsX60)
def wsX6_addRefusal : List Cond := .code yX6_addRefusal cX6_addRefusal 4 (some .int) :: ([.fieldLink RX6 31 "DepositCodes$Payments" "size" "I", .fieldLink RX6 11 "DepositCodes$Payments" "serials" "[J", .fieldLink RX6 28 "DepositCodes$Payments" "refusals" "[I"] ++ wsX60)
def wsX6_paidBy : List Cond := .code yX6_paidBy cX6_paidBy 5 (some .int) :: ([.fieldLink RX6 31 "DepositCodes$Payments" "size" "I", .fieldLink RX6 15 "DepositCodes$Payments" "payers" "[I", .fieldLink RX6 22 "DepositCodes$Payments" "shapes" "[I"] ++ wsX60)
def wsX6_addTo : List Cond := .code yX6_addTo cX6_addTo 3 none :: ([.static yX8_isIndex, .initialized RX8, .code yX8_isIndex cX8_isIndex 2 (some .boolean)])
def wsX6_balance : List Cond := .code yX6_balance cX6_balance 4 none :: ([.fieldLink RX6 31 "DepositCodes$Payments" "size" "I", .fieldLink RX6 25 "DepositCodes$Payments" "months" "[I", .fieldLink RX6 15 "DepositCodes$Payments" "payers" "[I", .fieldLink RX6 11 "DepositCodes$Payments" "serials" "[J", .methodLink RX6 41 yX6_addTo, .static yX6_addTo, .initialized RX6, .code yX6_addTo cX6_addTo 3 none, .static yX8_isIndex, .initialized RX8, .code yX8_isIndex cX8_isIndex 2 (some .boolean), .methodLink RX6 45 yX5_systemOfSerial, .static yX5_systemOfSerial, .initialized RX5, .code yX5_systemOfSerial cX5_systemOfSerial 2 (some .int), .constantLong RX5 17 (10), .constantLong RX5 31 (3)] ++ wsX60)
def wsX7_init : List Cond := .code yX7_init cX7_init 1 none :: ([.methodLink RX7 1 objectInit, .instanceMethod objectInit, .code objectInit ⟨#[0xb1]⟩ 1 none, .arrayClass .boolean, .fieldLink RX7 9 "DepositCodes$Spans" "told" "[Z", .arrayClass .int, .fieldLink RX7 13 "DepositCodes$Spans" "leasts" "[I", .fieldLink RX7 17 "DepositCodes$Spans" "mosts" "[I"] ++ wsX70)
def wsX7_exists : List Cond := .code yX7_exists cX7_exists 2 (some .boolean) :: ([.static yX8_isIndex, .initialized RX8, .code yX8_isIndex cX8_isIndex 2 (some .boolean)])
def wsX7_tell : List Cond := .code yX7_tell cX7_tell 4 (some .boolean) :: ([.constant RX7 30 (100000), .fieldLink RX7 9 "DepositCodes$Spans" "told" "[Z", .fieldLink RX7 13 "DepositCodes$Spans" "leasts" "[I", .fieldLink RX7 17 "DepositCodes$Spans" "mosts" "[I", .methodLink RX7 26 yX7_exists, .instanceMethod yX7_exists, .selects RX7 yX7_exists yX7_exists, .initialized RX7, .code yX7_exists cX7_exists 2 (some .boolean), .static yX8_isIndex, .initialized RX8, .code yX8_isIndex cX8_isIndex 2 (some .boolean)] ++ wsX70)
def wsX7_isTold : List Cond := .code yX7_isTold cX7_isTold 2 (some .boolean) :: ([.fieldLink RX7 9 "DepositCodes$Spans" "told" "[Z", .methodLink RX7 26 yX7_exists, .instanceMethod yX7_exists, .selects RX7 yX7_exists yX7_exists, .initialized RX7, .code yX7_exists cX7_exists 2 (some .boolean), .static yX8_isIndex, .initialized RX8, .code yX8_isIndex cX8_isIndex 2 (some .boolean)] ++ wsX70)
def wsX7_holds : List Cond := .code yX7_holds cX7_holds 3 (some .boolean) :: ([.fieldLink RX7 13 "DepositCodes$Spans" "leasts" "[I", .fieldLink RX7 17 "DepositCodes$Spans" "mosts" "[I", .methodLink RX7 31 yX7_isTold, .instanceMethod yX7_isTold, .selects RX7 yX7_isTold yX7_isTold, .initialized RX7, .code yX7_isTold cX7_isTold 2 (some .boolean), .fieldLink RX7 9 "DepositCodes$Spans" "told" "[Z", .methodLink RX7 26 yX7_exists, .instanceMethod yX7_exists, .selects RX7 yX7_exists yX7_exists, .code yX7_exists cX7_exists 2 (some .boolean), .static yX8_isIndex, .initialized RX8, .code yX8_isIndex cX8_isIndex 2 (some .boolean)] ++ wsX70)
def wsX8_init_r1 : List Cond := [Cond.methodLink RX8 1 objectInit, Cond.instanceMethod objectInit, Cond.code objectInit ⟨#[0xb1]⟩ 1 none, Cond.classLink RX8 7 RX0, Cond.instantiable RX0 3, Cond.initialized RX0, Cond.fieldLink RX8 10 "DepositCodes" "bars" "LDepositCodes$Bars;", Cond.classLink RX8 16 RX4, Cond.instantiable RX4 5, Cond.initialized RX4, Cond.fieldLink RX8 19 "DepositCodes" "machines" "LDepositCodes$Machines;", Cond.classLink RX8 23 RX7, Cond.instantiable RX7 3, Cond.initialized RX7, Cond.fieldLink RX8 26 "DepositCodes" "spans" "LDepositCodes$Spans;", Cond.classLink RX8 30 RX6, Cond.instantiable RX6 7, Cond.initialized RX6, Cond.fieldLink RX8 33 "DepositCodes" "payments" "LDepositCodes$Payments;", Cond.classLink RX8 37 RX2, Cond.instantiable RX2 4, Cond.initialized RX2, Cond.fieldLink RX8 40 "DepositCodes" "doubles" "LDepositCodes$Doubles;", Cond.classLink RX8 44 RX1]
def wsX8_init_r2 : List Cond := [Cond.instantiable RX1 4, Cond.initialized RX1, Cond.fieldLink RX8 47 "DepositCodes" "coupons" "LDepositCodes$Coupons;", Cond.classLink RX8 51 RX3, Cond.instantiable RX3 2, Cond.initialized RX3, Cond.fieldLink RX8 54 "DepositCodes" "frauds" "LDepositCodes$Frauds;", Cond.arrayClass .long, Cond.fieldLink RX8 58 "DepositCodes" "balances" "[J", Cond.fieldLink RX8 62 "DepositCodes" "latestReason" "I", Cond.methodLink RX8 9 yX0_init, Cond.instanceMethod yX0_init, Cond.code yX0_init cX0_init 1 none, Cond.methodLink RX0 5 objectInit, Cond.arrayClass .int, Cond.fieldLink RX0 11 "DepositCodes$Bars" "widths" "[I", Cond.fieldLink RX0 15 "DepositCodes$Bars" "digits" "[I", Cond.fieldLink RX0 18 "DepositCodes$Bars" "digitCount" "I", Cond.methodLink RX8 18 yX4_init, Cond.instanceMethod yX4_init, Cond.code yX4_init cX4_init 1 none, Cond.methodLink RX4 3 objectInit, Cond.arrayClass .boolean, Cond.fieldLink RX4 11 "DepositCodes$Machines" "fullOnes" "[Z"]
def wsX8_init_r3 : List Cond := [Cond.fieldLink RX4 15 "DepositCodes$Machines" "poweredOnes" "[Z", Cond.fieldLink RX4 18 "DepositCodes$Machines" "sets" "[I", Cond.fieldLink RX4 22 "DepositCodes$Machines" "unprinted" "[I", Cond.fieldLink RX4 25 "DepositCodes$Machines" "size" "I", Cond.methodLink RX8 25 yX7_init, Cond.instanceMethod yX7_init, Cond.code yX7_init cX7_init 1 none, Cond.methodLink RX7 1 objectInit, Cond.fieldLink RX7 9 "DepositCodes$Spans" "told" "[Z", Cond.fieldLink RX7 13 "DepositCodes$Spans" "leasts" "[I", Cond.fieldLink RX7 17 "DepositCodes$Spans" "mosts" "[I", Cond.methodLink RX8 32 yX6_init, Cond.instanceMethod yX6_init, Cond.code yX6_init cX6_init 1 none, Cond.methodLink RX6 3 objectInit, Cond.fieldLink RX6 11 "DepositCodes$Payments" "serials" "[J", Cond.fieldLink RX6 15 "DepositCodes$Payments" "payers" "[I", Cond.fieldLink RX6 19 "DepositCodes$Payments" "sets" "[I", Cond.fieldLink RX6 22 "DepositCodes$Payments" "shapes" "[I", Cond.fieldLink RX6 25 "DepositCodes$Payments" "months" "[I", Cond.fieldLink RX6 28 "DepositCodes$Payments" "refusals" "[I", Cond.fieldLink RX6 31 "DepositCodes$Payments" "size" "I", Cond.methodLink RX8 39 yX2_init, Cond.instanceMethod yX2_init]
def wsX8_init_r4 : List Cond := [Cond.code yX2_init cX2_init 1 none, Cond.methodLink RX2 3 objectInit, Cond.fieldLink RX2 11 "DepositCodes$Doubles" "serials" "[J", Cond.fieldLink RX2 17 "DepositCodes$Doubles" "payersA" "[I", Cond.fieldLink RX2 21 "DepositCodes$Doubles" "payersB" "[I", Cond.fieldLink RX2 24 "DepositCodes$Doubles" "size" "I", Cond.methodLink RX8 46 yX1_init, Cond.instanceMethod yX1_init, Cond.code yX1_init cX1_init 1 none, Cond.methodLink RX1 3 objectInit, Cond.fieldLink RX1 11 "DepositCodes$Coupons" "amounts" "[I", Cond.fieldLink RX1 17 "DepositCodes$Coupons" "redeemed" "[Z", Cond.fieldLink RX1 21 "DepositCodes$Coupons" "sums" "[J", Cond.fieldLink RX1 25 "DepositCodes$Coupons" "size" "I", Cond.methodLink RX8 53 yX3_init, Cond.instanceMethod yX3_init, Cond.code yX3_init cX3_init 1 none, Cond.methodLink RX3 5 objectInit, Cond.fieldLink RX3 11 "DepositCodes$Frauds" "places" "[I", Cond.fieldLink RX3 15 "DepositCodes$Frauds" "size" "I"]
def wsX8_init : List Cond := .code yX8_init cX8_init 1 none :: ((wsX8_init_r1 ++ (wsX8_init_r2 ++ (wsX8_init_r3 ++ wsX8_init_r4))) ++ wsX00 ++ wsX80 ++ wsX40 ++ wsX70 ++ wsX60 ++ wsX20 ++ wsX10 ++ wsX30)
def wsX8_width : List Cond := .code yX8_width cX8_width 3 (some .boolean) :: ([.fieldLink RX8 10 "DepositCodes" "bars" "LDepositCodes$Bars;", .methodLink RX8 66 yX0_setWidth, .instanceMethod yX0_setWidth, .selects RX0 yX0_setWidth yX0_setWidth, .initialized RX0, .code yX0_setWidth cX0_setWidth 3 (some .boolean), .fieldLink RX0 11 "DepositCodes$Bars" "widths" "[I", .static yX8_isIndex, .initialized RX8, .code yX8_isIndex cX8_isIndex 2 (some .boolean)] ++ wsX80 ++ wsX00)
def wsX8_read_r1 : List Cond := [Cond.fieldLink RX8 10 "DepositCodes" "bars" "LDepositCodes$Bars;", Cond.methodLink RX8 70 yX0_scan, Cond.instanceMethod yX0_scan, Cond.selects RX0 yX0_scan yX0_scan, Cond.initialized RX0, Cond.code yX0_scan cX0_scan 3 (some .int), Cond.fieldLink RX0 18 "DepositCodes$Bars" "digitCount" "I", Cond.methodLink RX0 26 yX0_rowLength, Cond.instanceMethod yX0_rowLength, Cond.selects RX0 yX0_rowLength yX0_rowLength, Cond.code yX0_rowLength cX0_rowLength 2 (some .int), Cond.fieldLink RX0 11 "DepositCodes$Bars" "widths" "[I", Cond.methodLink RX0 30 yX0_decode, Cond.instanceMethod yX0_decode, Cond.selects RX0 yX0_decode yX0_decode, Cond.code yX0_decode cX0_decode 7 (some .boolean), Cond.fieldLink RX0 15 "DepositCodes$Bars" "digits" "[I", Cond.methodLink RX0 34 yX0_isEdge, Cond.instanceMethod yX0_isEdge, Cond.selects RX0 yX0_isEdge yX0_isEdge, Cond.code yX0_isEdge cX0_isEdge 3 (some .boolean), Cond.methodLink RX0 42 yX0_widthAt, Cond.instanceMethod yX0_widthAt, Cond.selects RX0 yX0_widthAt yX0_widthAt]
def wsX8_read_r2 : List Cond := [Cond.code yX0_widthAt cX0_widthAt 2 (some .int), Cond.static yX8_isIndex, Cond.initialized RX8, Cond.code yX8_isIndex cX8_isIndex 2 (some .boolean), Cond.methodLink RX0 38 yX0_digitOfGroup, Cond.instanceMethod yX0_digitOfGroup, Cond.selects RX0 yX0_digitOfGroup yX0_digitOfGroup, Cond.code yX0_digitOfGroup cX0_digitOfGroup 5 (some .int), Cond.methodLink RX0 46 yX0_matches, Cond.instanceMethod yX0_matches, Cond.selects RX0 yX0_matches yX0_matches, Cond.code yX0_matches cX0_matches 9 (some .boolean), Cond.fieldLink RX0 50 "DepositCodes$Bars" "PATTERNS" "[I"]
def wsX8_read : List Cond := .code yX8_read cX8_read 1 (some .int) :: ((wsX8_read_r1 ++ wsX8_read_r2) ++ wsX80 ++ wsX00)
def wsX8_back_r1 : List Cond := [Cond.fieldLink RX8 10 "DepositCodes" "bars" "LDepositCodes$Bars;", Cond.methodLink RX8 70 yX0_scan, Cond.instanceMethod yX0_scan, Cond.selects RX0 yX0_scan yX0_scan, Cond.initialized RX0, Cond.code yX0_scan cX0_scan 3 (some .int), Cond.fieldLink RX0 18 "DepositCodes$Bars" "digitCount" "I", Cond.methodLink RX0 26 yX0_rowLength, Cond.instanceMethod yX0_rowLength, Cond.selects RX0 yX0_rowLength yX0_rowLength, Cond.code yX0_rowLength cX0_rowLength 2 (some .int), Cond.fieldLink RX0 11 "DepositCodes$Bars" "widths" "[I", Cond.methodLink RX0 30 yX0_decode, Cond.instanceMethod yX0_decode, Cond.selects RX0 yX0_decode yX0_decode, Cond.code yX0_decode cX0_decode 7 (some .boolean), Cond.fieldLink RX0 15 "DepositCodes$Bars" "digits" "[I", Cond.methodLink RX0 34 yX0_isEdge, Cond.instanceMethod yX0_isEdge, Cond.selects RX0 yX0_isEdge yX0_isEdge, Cond.code yX0_isEdge cX0_isEdge 3 (some .boolean), Cond.methodLink RX0 42 yX0_widthAt, Cond.instanceMethod yX0_widthAt, Cond.selects RX0 yX0_widthAt yX0_widthAt]
def wsX8_back_r2 : List Cond := [Cond.code yX0_widthAt cX0_widthAt 2 (some .int), Cond.static yX8_isIndex, Cond.initialized RX8, Cond.code yX8_isIndex cX8_isIndex 2 (some .boolean), Cond.methodLink RX0 38 yX0_digitOfGroup, Cond.instanceMethod yX0_digitOfGroup, Cond.selects RX0 yX0_digitOfGroup yX0_digitOfGroup, Cond.code yX0_digitOfGroup cX0_digitOfGroup 5 (some .int), Cond.methodLink RX0 46 yX0_matches, Cond.instanceMethod yX0_matches, Cond.selects RX0 yX0_matches yX0_matches, Cond.code yX0_matches cX0_matches 9 (some .boolean), Cond.fieldLink RX0 50 "DepositCodes$Bars" "PATTERNS" "[I"]
def wsX8_back : List Cond := .code yX8_back cX8_back 1 (some .int) :: ((wsX8_back_r1 ++ wsX8_back_r2) ++ wsX80 ++ wsX00)
def wsX8_digit : List Cond := .code yX8_digit cX8_digit 3 (some .int) :: ([.fieldLink RX8 10 "DepositCodes" "bars" "LDepositCodes$Bars;", .classLink RX8 78 RJx00060, .instantiable RJx00060 6, .initialized RJx00060, .methodLink RX8 74 yX0_digitAt, .instanceMethod yX0_digitAt, .selects RX0 yX0_digitAt yX0_digitAt, .initialized RX0, .code yX0_digitAt cX0_digitAt 2 (some .int), .fieldLink RX0 18 "DepositCodes$Bars" "digitCount" "I", .fieldLink RX0 15 "DepositCodes$Bars" "digits" "[I", .static yX8_isIndex, .initialized RX8, .code yX8_isIndex cX8_isIndex 2 (some .boolean)] ++ wsX80 ++ wsJx000600 ++ wsX00)
def wsX8_check : List Cond := .code yX8_check cX8_check 4 (some .int) :: ([.methodLink RX8 81 yX5_isKind, .static yX5_isKind, .initialized RX5, .code yX5_isKind cX5_isKind 1 (some .boolean), .static yX8_isIndex, .initialized RX8, .code yX8_isIndex cX8_isIndex 2 (some .boolean), .methodLink RX8 87 yX5_isNumber, .static yX5_isNumber, .code yX5_isNumber cX5_isNumber 2 (some .boolean), .constantLong RX5 11 (999999999999999999), .methodLink RX8 91 yX5_checkDigit, .static yX5_checkDigit, .code yX5_checkDigit cX5_checkDigit 8 (some .int), .constantLong RX5 17 (10), .methodLink RX5 19 yX5_weighed, .static yX5_weighed, .code yX5_weighed cX5_weighed 2 (some .int)])
def wsX8_good : List Cond := .code yX8_good cX8_good 4 (some .boolean) :: ([.methodLink RX8 81 yX5_isKind, .static yX5_isKind, .initialized RX5, .code yX5_isKind cX5_isKind 1 (some .boolean), .static yX8_isIndex, .initialized RX8, .code yX8_isIndex cX8_isIndex 2 (some .boolean), .methodLink RX8 87 yX5_isNumber, .static yX5_isNumber, .code yX5_isNumber cX5_isNumber 2 (some .boolean), .constantLong RX5 11 (999999999999999999), .methodLink RX8 95 yX5_isGood, .static yX5_isGood, .code yX5_isGood cX5_isGood 3 (some .boolean), .constantLong RX5 17 (10), .methodLink RX5 23 yX5_checkDigit, .static yX5_checkDigit, .code yX5_checkDigit cX5_checkDigit 8 (some .int), .methodLink RX5 19 yX5_weighed, .static yX5_weighed, .code yX5_weighed cX5_weighed 2 (some .int)])
def wsX8_machine : List Cond := .code yX8_machine cX8_machine 1 (some .int) :: ([.fieldLink RX8 19 "DepositCodes" "machines" "LDepositCodes$Machines;", .methodLink RX8 99 yX4_addMachine, .instanceMethod yX4_addMachine, .selects RX4 yX4_addMachine yX4_addMachine, .initialized RX4, .code yX4_addMachine cX4_addMachine 2 (some .int), .fieldLink RX4 25 "DepositCodes$Machines" "size" "I", .fieldLink RX4 15 "DepositCodes$Machines" "poweredOnes" "[Z", .fieldLink RX4 18 "DepositCodes$Machines" "sets" "[I"] ++ wsX80 ++ wsX40)
def wsX8_shape : List Cond := .code yX8_shape cX8_shape 4 (some .boolean) :: ([.fieldLink RX8 26 "DepositCodes" "spans" "LDepositCodes$Spans;", .methodLink RX8 103 yX7_tell, .instanceMethod yX7_tell, .selects RX7 yX7_tell yX7_tell, .initialized RX7, .code yX7_tell cX7_tell 4 (some .boolean), .constant RX7 30 (100000), .fieldLink RX7 9 "DepositCodes$Spans" "told" "[Z", .fieldLink RX7 13 "DepositCodes$Spans" "leasts" "[I", .fieldLink RX7 17 "DepositCodes$Spans" "mosts" "[I", .methodLink RX7 26 yX7_exists, .instanceMethod yX7_exists, .selects RX7 yX7_exists yX7_exists, .code yX7_exists cX7_exists 2 (some .boolean), .static yX8_isIndex, .initialized RX8, .code yX8_isIndex cX8_isIndex 2 (some .boolean)] ++ wsX80 ++ wsX70)
def wsX8_full : List Cond := .code yX8_full cX8_full 3 (some .boolean) :: ([.fieldLink RX8 19 "DepositCodes" "machines" "LDepositCodes$Machines;", .methodLink RX8 107 yX4_setFull, .instanceMethod yX4_setFull, .selects RX4 yX4_setFull yX4_setFull, .initialized RX4, .code yX4_setFull cX4_setFull 3 (some .boolean), .fieldLink RX4 11 "DepositCodes$Machines" "fullOnes" "[Z", .methodLink RX4 33 yX4_exists, .instanceMethod yX4_exists, .selects RX4 yX4_exists yX4_exists, .code yX4_exists cX4_exists 2 (some .boolean), .fieldLink RX4 25 "DepositCodes$Machines" "size" "I", .static yX8_isIndex, .initialized RX8, .code yX8_isIndex cX8_isIndex 2 (some .boolean)] ++ wsX80 ++ wsX40)
def wsX8_power : List Cond := .code yX8_power cX8_power 3 (some .boolean) :: ([.fieldLink RX8 19 "DepositCodes" "machines" "LDepositCodes$Machines;", .methodLink RX8 111 yX4_setPower, .instanceMethod yX4_setPower, .selects RX4 yX4_setPower yX4_setPower, .initialized RX4, .code yX4_setPower cX4_setPower 3 (some .boolean), .fieldLink RX4 15 "DepositCodes$Machines" "poweredOnes" "[Z", .methodLink RX4 33 yX4_exists, .instanceMethod yX4_exists, .selects RX4 yX4_exists yX4_exists, .code yX4_exists cX4_exists 2 (some .boolean), .fieldLink RX4 25 "DepositCodes$Machines" "size" "I", .static yX8_isIndex, .initialized RX8, .code yX8_isIndex cX8_isIndex 2 (some .boolean)] ++ wsX80 ++ wsX40)
def wsX8_reasonToRefuse_r1 : List Cond := [Cond.fieldLink RX8 19 "DepositCodes" "machines" "LDepositCodes$Machines;", Cond.fieldLink RX8 26 "DepositCodes" "spans" "LDepositCodes$Spans;", Cond.fieldLink RX8 33 "DepositCodes" "payments" "LDepositCodes$Payments;", Cond.methodLink RX8 141 yX4_exists, Cond.instanceMethod yX4_exists, Cond.selects RX4 yX4_exists yX4_exists, Cond.initialized RX4, Cond.code yX4_exists cX4_exists 2 (some .boolean), Cond.fieldLink RX4 25 "DepositCodes$Machines" "size" "I", Cond.static yX8_isIndex, Cond.initialized RX8, Cond.code yX8_isIndex cX8_isIndex 2 (some .boolean), Cond.methodLink RX8 197 yX4_isFull, Cond.instanceMethod yX4_isFull, Cond.selects RX4 yX4_isFull yX4_isFull, Cond.code yX4_isFull cX4_isFull 2 (some .boolean), Cond.fieldLink RX4 11 "DepositCodes$Machines" "fullOnes" "[Z", Cond.methodLink RX4 33 yX4_exists, Cond.methodLink RX8 170 yX4_hasPower, Cond.instanceMethod yX4_hasPower, Cond.selects RX4 yX4_hasPower yX4_hasPower, Cond.code yX4_hasPower cX4_hasPower 2 (some .boolean), Cond.fieldLink RX4 15 "DepositCodes$Machines" "poweredOnes" "[Z", Cond.methodLink RX8 200 yX7_isTold]
def wsX8_reasonToRefuse_r2 : List Cond := [Cond.instanceMethod yX7_isTold, Cond.selects RX7 yX7_isTold yX7_isTold, Cond.initialized RX7, Cond.code yX7_isTold cX7_isTold 2 (some .boolean), Cond.fieldLink RX7 9 "DepositCodes$Spans" "told" "[Z", Cond.methodLink RX7 26 yX7_exists, Cond.instanceMethod yX7_exists, Cond.selects RX7 yX7_exists yX7_exists, Cond.code yX7_exists cX7_exists 2 (some .boolean), Cond.methodLink RX8 203 yX7_holds, Cond.instanceMethod yX7_holds, Cond.selects RX7 yX7_holds yX7_holds, Cond.code yX7_holds cX7_holds 3 (some .boolean), Cond.fieldLink RX7 13 "DepositCodes$Spans" "leasts" "[I", Cond.fieldLink RX7 17 "DepositCodes$Spans" "mosts" "[I", Cond.methodLink RX7 31 yX7_isTold, Cond.methodLink RX8 95 yX5_isGood, Cond.static yX5_isGood, Cond.initialized RX5, Cond.code yX5_isGood cX5_isGood 3 (some .boolean), Cond.constantLong RX5 17 (10), Cond.methodLink RX5 23 yX5_checkDigit, Cond.static yX5_checkDigit, Cond.code yX5_checkDigit cX5_checkDigit 8 (some .int)]
def wsX8_reasonToRefuse_r3 : List Cond := [Cond.methodLink RX5 19 yX5_weighed, Cond.static yX5_weighed, Cond.code yX5_weighed cX5_weighed 2 (some .int), Cond.methodLink RX8 130 yX4_setOf, Cond.instanceMethod yX4_setOf, Cond.selects RX4 yX4_setOf yX4_setOf, Cond.code yX4_setOf cX4_setOf 2 (some .int), Cond.fieldLink RX4 18 "DepositCodes$Machines" "sets" "[I", Cond.methodLink RX8 206 yX6_find, Cond.instanceMethod yX6_find, Cond.selects RX6 yX6_find yX6_find, Cond.initialized RX6, Cond.code yX6_find cX6_find 5 (some .int), Cond.fieldLink RX6 31 "DepositCodes$Payments" "size" "I", Cond.fieldLink RX6 11 "DepositCodes$Payments" "serials" "[J", Cond.fieldLink RX6 19 "DepositCodes$Payments" "sets" "[I"]
def wsX8_reasonToRefuse : List Cond := .code yX8_reasonToRefuse cX8_reasonToRefuse 6 (some .int) :: ((wsX8_reasonToRefuse_r1 ++ (wsX8_reasonToRefuse_r2 ++ wsX8_reasonToRefuse_r3)) ++ wsX80 ++ wsX40 ++ wsX70 ++ wsX60)
def wsX8_noteRefusal : List Cond := .code yX8_noteRefusal cX8_noteRefusal 4 none :: ([.fieldLink RX8 33 "DepositCodes" "payments" "LDepositCodes$Payments;", .fieldLink RX8 54 "DepositCodes" "frauds" "LDepositCodes$Frauds;", .methodLink RX8 210 yX6_addRefusal, .instanceMethod yX6_addRefusal, .selects RX6 yX6_addRefusal yX6_addRefusal, .initialized RX6, .code yX6_addRefusal cX6_addRefusal 4 (some .int), .fieldLink RX6 31 "DepositCodes$Payments" "size" "I", .fieldLink RX6 11 "DepositCodes$Payments" "serials" "[J", .fieldLink RX6 28 "DepositCodes$Payments" "refusals" "[I", .methodLink RX8 214 yX3_add, .instanceMethod yX3_add, .selects RX3 yX3_add yX3_add, .initialized RX3, .code yX3_add cX3_add 2 none, .fieldLink RX3 15 "DepositCodes$Frauds" "size" "I", .fieldLink RX3 11 "DepositCodes$Frauds" "places" "[I"] ++ wsX80 ++ wsX60 ++ wsX30)
def wsX8_give_r1 : List Cond := [Cond.constantLong RX8 114 (100000000000), Cond.fieldLink RX8 33 "DepositCodes" "payments" "LDepositCodes$Payments;", Cond.fieldLink RX8 62 "DepositCodes" "latestReason" "I", Cond.constantLong RX8 128 (2592000), Cond.fieldLink RX8 19 "DepositCodes" "machines" "LDepositCodes$Machines;", Cond.methodLink RX8 87 yX5_isNumber, Cond.static yX5_isNumber, Cond.initialized RX5, Cond.code yX5_isNumber cX5_isNumber 2 (some .boolean), Cond.constantLong RX5 11 (999999999999999999), Cond.methodLink RX8 116 yX6_areAtLimit, Cond.instanceMethod yX6_areAtLimit, Cond.selects RX6 yX6_areAtLimit yX6_areAtLimit, Cond.initialized RX6, Cond.code yX6_areAtLimit cX6_areAtLimit 1 (some .boolean), Cond.fieldLink RX6 31 "DepositCodes$Payments" "size" "I", Cond.methodLink RX8 120 yX8_reasonToRefuse, Cond.instanceMethod yX8_reasonToRefuse, Cond.selects RX8 yX8_reasonToRefuse yX8_reasonToRefuse, Cond.initialized RX8, Cond.code yX8_reasonToRefuse cX8_reasonToRefuse 6 (some .int), Cond.fieldLink RX8 26 "DepositCodes" "spans" "LDepositCodes$Spans;", Cond.methodLink RX8 141 yX4_exists, Cond.instanceMethod yX4_exists]
def wsX8_give_r2 : List Cond := [Cond.selects RX4 yX4_exists yX4_exists, Cond.initialized RX4, Cond.code yX4_exists cX4_exists 2 (some .boolean), Cond.fieldLink RX4 25 "DepositCodes$Machines" "size" "I", Cond.static yX8_isIndex, Cond.code yX8_isIndex cX8_isIndex 2 (some .boolean), Cond.methodLink RX8 197 yX4_isFull, Cond.instanceMethod yX4_isFull, Cond.selects RX4 yX4_isFull yX4_isFull, Cond.code yX4_isFull cX4_isFull 2 (some .boolean), Cond.fieldLink RX4 11 "DepositCodes$Machines" "fullOnes" "[Z", Cond.methodLink RX4 33 yX4_exists, Cond.methodLink RX8 170 yX4_hasPower, Cond.instanceMethod yX4_hasPower, Cond.selects RX4 yX4_hasPower yX4_hasPower, Cond.code yX4_hasPower cX4_hasPower 2 (some .boolean), Cond.fieldLink RX4 15 "DepositCodes$Machines" "poweredOnes" "[Z", Cond.methodLink RX8 200 yX7_isTold, Cond.instanceMethod yX7_isTold, Cond.selects RX7 yX7_isTold yX7_isTold, Cond.initialized RX7, Cond.code yX7_isTold cX7_isTold 2 (some .boolean), Cond.fieldLink RX7 9 "DepositCodes$Spans" "told" "[Z", Cond.methodLink RX7 26 yX7_exists]
def wsX8_give_r3 : List Cond := [Cond.instanceMethod yX7_exists, Cond.selects RX7 yX7_exists yX7_exists, Cond.code yX7_exists cX7_exists 2 (some .boolean), Cond.methodLink RX8 203 yX7_holds, Cond.instanceMethod yX7_holds, Cond.selects RX7 yX7_holds yX7_holds, Cond.code yX7_holds cX7_holds 3 (some .boolean), Cond.fieldLink RX7 13 "DepositCodes$Spans" "leasts" "[I", Cond.fieldLink RX7 17 "DepositCodes$Spans" "mosts" "[I", Cond.methodLink RX7 31 yX7_isTold, Cond.methodLink RX8 95 yX5_isGood, Cond.static yX5_isGood, Cond.code yX5_isGood cX5_isGood 3 (some .boolean), Cond.constantLong RX5 17 (10), Cond.methodLink RX5 23 yX5_checkDigit, Cond.static yX5_checkDigit, Cond.code yX5_checkDigit cX5_checkDigit 8 (some .int), Cond.methodLink RX5 19 yX5_weighed, Cond.static yX5_weighed, Cond.code yX5_weighed cX5_weighed 2 (some .int), Cond.methodLink RX8 130 yX4_setOf, Cond.instanceMethod yX4_setOf, Cond.selects RX4 yX4_setOf yX4_setOf, Cond.code yX4_setOf cX4_setOf 2 (some .int)]
def wsX8_give_r4 : List Cond := [Cond.fieldLink RX4 18 "DepositCodes$Machines" "sets" "[I", Cond.methodLink RX8 206 yX6_find, Cond.instanceMethod yX6_find, Cond.selects RX6 yX6_find yX6_find, Cond.code yX6_find cX6_find 5 (some .int), Cond.fieldLink RX6 11 "DepositCodes$Payments" "serials" "[J", Cond.fieldLink RX6 19 "DepositCodes$Payments" "sets" "[I", Cond.methodLink RX8 124 yX8_noteRefusal, Cond.instanceMethod yX8_noteRefusal, Cond.selects RX8 yX8_noteRefusal yX8_noteRefusal, Cond.code yX8_noteRefusal cX8_noteRefusal 4 none, Cond.fieldLink RX8 54 "DepositCodes" "frauds" "LDepositCodes$Frauds;", Cond.methodLink RX8 210 yX6_addRefusal, Cond.instanceMethod yX6_addRefusal, Cond.selects RX6 yX6_addRefusal yX6_addRefusal, Cond.code yX6_addRefusal cX6_addRefusal 4 (some .int), Cond.fieldLink RX6 28 "DepositCodes$Payments" "refusals" "[I", Cond.methodLink RX8 214 yX3_add, Cond.instanceMethod yX3_add, Cond.selects RX3 yX3_add yX3_add, Cond.initialized RX3, Cond.code yX3_add cX3_add 2 none, Cond.fieldLink RX3 15 "DepositCodes$Frauds" "size" "I", Cond.fieldLink RX3 11 "DepositCodes$Frauds" "places" "[I"]
def wsX8_give_r5 : List Cond := [Cond.methodLink RX8 133 yX6_add, Cond.instanceMethod yX6_add, Cond.selects RX6 yX6_add yX6_add, Cond.code yX6_add cX6_add 7 none, Cond.fieldLink RX6 15 "DepositCodes$Payments" "payers" "[I", Cond.fieldLink RX6 22 "DepositCodes$Payments" "shapes" "[I", Cond.fieldLink RX6 25 "DepositCodes$Payments" "months" "[I", Cond.methodLink RX8 137 yX4_addUnprinted, Cond.instanceMethod yX4_addUnprinted, Cond.selects RX4 yX4_addUnprinted yX4_addUnprinted, Cond.code yX4_addUnprinted cX4_addUnprinted 2 none, Cond.fieldLink RX4 22 "DepositCodes$Machines" "unprinted" "[I"]
def wsX8_give : List Cond := .code yX8_give cX8_give 9 (some .int) :: ((wsX8_give_r1 ++ (wsX8_give_r2 ++ (wsX8_give_r3 ++ (wsX8_give_r4 ++ wsX8_give_r5)))) ++ wsX80 ++ wsX60 ++ wsX40 ++ wsX70 ++ wsX30)
def wsX8_reason : List Cond := .code yX8_reason cX8_reason 1 (some .int) :: ([.fieldLink RX8 62 "DepositCodes" "latestReason" "I"] ++ wsX80)
def wsX8_count_r1 : List Cond := [Cond.fieldLink RX8 19 "DepositCodes" "machines" "LDepositCodes$Machines;", Cond.fieldLink RX8 26 "DepositCodes" "spans" "LDepositCodes$Spans;", Cond.constantLong RX8 145 (-1), Cond.fieldLink RX8 33 "DepositCodes" "payments" "LDepositCodes$Payments;", Cond.methodLink RX8 141 yX4_exists, Cond.instanceMethod yX4_exists, Cond.selects RX4 yX4_exists yX4_exists, Cond.initialized RX4, Cond.code yX4_exists cX4_exists 2 (some .boolean), Cond.fieldLink RX4 25 "DepositCodes$Machines" "size" "I", Cond.static yX8_isIndex, Cond.initialized RX8, Cond.code yX8_isIndex cX8_isIndex 2 (some .boolean), Cond.methodLink RX8 144 yX7_exists, Cond.instanceMethod yX7_exists, Cond.selects RX7 yX7_exists yX7_exists, Cond.initialized RX7, Cond.code yX7_exists cX7_exists 2 (some .boolean), Cond.methodLink RX8 147 yX6_paidBy, Cond.instanceMethod yX6_paidBy, Cond.selects RX6 yX6_paidBy yX6_paidBy, Cond.initialized RX6, Cond.code yX6_paidBy cX6_paidBy 5 (some .int), Cond.fieldLink RX6 31 "DepositCodes$Payments" "size" "I"]
def wsX8_count_r2 : List Cond := [Cond.fieldLink RX6 15 "DepositCodes$Payments" "payers" "[I", Cond.fieldLink RX6 22 "DepositCodes$Payments" "shapes" "[I"]
def wsX8_count : List Cond := .code yX8_count cX8_count 3 (some .long) :: ((wsX8_count_r1 ++ wsX8_count_r2) ++ wsX80 ++ wsX40 ++ wsX60)
def wsX8_tellDoubles_r1 : List Cond := [Cond.fieldLink RX8 40 "DepositCodes" "doubles" "LDepositCodes$Doubles;", Cond.fieldLink RX8 33 "DepositCodes" "payments" "LDepositCodes$Payments;", Cond.methodLink RX8 216 yX2_size, Cond.instanceMethod yX2_size, Cond.selects RX2 yX2_size yX2_size, Cond.initialized RX2, Cond.code yX2_size cX2_size 1 (some .int), Cond.fieldLink RX2 24 "DepositCodes$Doubles" "size" "I", Cond.methodLink RX8 219 yX6_size, Cond.instanceMethod yX6_size, Cond.selects RX6 yX6_size yX6_size, Cond.initialized RX6, Cond.code yX6_size cX6_size 1 (some .int), Cond.fieldLink RX6 31 "DepositCodes$Payments" "size" "I", Cond.methodLink RX8 220 yX6_isOf, Cond.instanceMethod yX6_isOf, Cond.selects RX6 yX6_isOf yX6_isOf, Cond.code yX6_isOf cX6_isOf 3 (some .boolean), Cond.fieldLink RX6 19 "DepositCodes$Payments" "sets" "[I", Cond.static yX8_isIndex, Cond.initialized RX8, Cond.code yX8_isIndex cX8_isIndex 2 (some .boolean), Cond.methodLink RX8 223 yX6_serialOf, Cond.instanceMethod yX6_serialOf]
def wsX8_tellDoubles_r2 : List Cond := [Cond.selects RX6 yX6_serialOf yX6_serialOf, Cond.code yX6_serialOf cX6_serialOf 2 (some .long), Cond.fieldLink RX6 11 "DepositCodes$Payments" "serials" "[J", Cond.constantLong RX6 39 (-1), Cond.methodLink RX8 206 yX6_find, Cond.instanceMethod yX6_find, Cond.selects RX6 yX6_find yX6_find, Cond.code yX6_find cX6_find 5 (some .int), Cond.methodLink RX8 226 yX6_payerOf, Cond.instanceMethod yX6_payerOf, Cond.selects RX6 yX6_payerOf yX6_payerOf, Cond.code yX6_payerOf cX6_payerOf 2 (some .int), Cond.fieldLink RX6 15 "DepositCodes$Payments" "payers" "[I", Cond.methodLink RX8 229 yX2_insert, Cond.instanceMethod yX2_insert, Cond.selects RX2 yX2_insert yX2_insert, Cond.code yX2_insert cX2_insert 7 none, Cond.fieldLink RX2 11 "DepositCodes$Doubles" "serials" "[J", Cond.fieldLink RX2 17 "DepositCodes$Doubles" "payersA" "[I", Cond.fieldLink RX2 21 "DepositCodes$Doubles" "payersB" "[I", Cond.methodLink RX8 233 yX6_leaveSet, Cond.instanceMethod yX6_leaveSet, Cond.selects RX6 yX6_leaveSet yX6_leaveSet, Cond.code yX6_leaveSet cX6_leaveSet 2 none]
def wsX8_tellDoubles : List Cond := .code yX8_tellDoubles cX8_tellDoubles 6 (some .int) :: ((wsX8_tellDoubles_r1 ++ wsX8_tellDoubles_r2) ++ wsX80 ++ wsX20 ++ wsX60)
def wsX8_join_r1 : List Cond := [Cond.fieldLink RX8 19 "DepositCodes" "machines" "LDepositCodes$Machines;", Cond.fieldLink RX8 33 "DepositCodes" "payments" "LDepositCodes$Payments;", Cond.methodLink RX8 141 yX4_exists, Cond.instanceMethod yX4_exists, Cond.selects RX4 yX4_exists yX4_exists, Cond.initialized RX4, Cond.code yX4_exists cX4_exists 2 (some .boolean), Cond.fieldLink RX4 25 "DepositCodes$Machines" "size" "I", Cond.static yX8_isIndex, Cond.initialized RX8, Cond.code yX8_isIndex cX8_isIndex 2 (some .boolean), Cond.methodLink RX8 130 yX4_setOf, Cond.instanceMethod yX4_setOf, Cond.selects RX4 yX4_setOf yX4_setOf, Cond.code yX4_setOf cX4_setOf 2 (some .int), Cond.fieldLink RX4 18 "DepositCodes$Machines" "sets" "[I", Cond.methodLink RX4 33 yX4_exists, Cond.methodLink RX8 151 yX8_tellDoubles, Cond.instanceMethod yX8_tellDoubles, Cond.selects RX8 yX8_tellDoubles yX8_tellDoubles, Cond.code yX8_tellDoubles cX8_tellDoubles 6 (some .int), Cond.fieldLink RX8 40 "DepositCodes" "doubles" "LDepositCodes$Doubles;", Cond.methodLink RX8 216 yX2_size, Cond.instanceMethod yX2_size]
def wsX8_join_r2 : List Cond := [Cond.selects RX2 yX2_size yX2_size, Cond.initialized RX2, Cond.code yX2_size cX2_size 1 (some .int), Cond.fieldLink RX2 24 "DepositCodes$Doubles" "size" "I", Cond.methodLink RX8 219 yX6_size, Cond.instanceMethod yX6_size, Cond.selects RX6 yX6_size yX6_size, Cond.initialized RX6, Cond.code yX6_size cX6_size 1 (some .int), Cond.fieldLink RX6 31 "DepositCodes$Payments" "size" "I", Cond.methodLink RX8 220 yX6_isOf, Cond.instanceMethod yX6_isOf, Cond.selects RX6 yX6_isOf yX6_isOf, Cond.code yX6_isOf cX6_isOf 3 (some .boolean), Cond.fieldLink RX6 19 "DepositCodes$Payments" "sets" "[I", Cond.methodLink RX8 223 yX6_serialOf, Cond.instanceMethod yX6_serialOf, Cond.selects RX6 yX6_serialOf yX6_serialOf, Cond.code yX6_serialOf cX6_serialOf 2 (some .long), Cond.fieldLink RX6 11 "DepositCodes$Payments" "serials" "[J", Cond.constantLong RX6 39 (-1), Cond.methodLink RX8 206 yX6_find, Cond.instanceMethod yX6_find, Cond.selects RX6 yX6_find yX6_find]
def wsX8_join_r3 : List Cond := [Cond.code yX6_find cX6_find 5 (some .int), Cond.methodLink RX8 226 yX6_payerOf, Cond.instanceMethod yX6_payerOf, Cond.selects RX6 yX6_payerOf yX6_payerOf, Cond.code yX6_payerOf cX6_payerOf 2 (some .int), Cond.fieldLink RX6 15 "DepositCodes$Payments" "payers" "[I", Cond.methodLink RX8 229 yX2_insert, Cond.instanceMethod yX2_insert, Cond.selects RX2 yX2_insert yX2_insert, Cond.code yX2_insert cX2_insert 7 none, Cond.fieldLink RX2 11 "DepositCodes$Doubles" "serials" "[J", Cond.fieldLink RX2 17 "DepositCodes$Doubles" "payersA" "[I", Cond.fieldLink RX2 21 "DepositCodes$Doubles" "payersB" "[I", Cond.methodLink RX8 233 yX6_leaveSet, Cond.instanceMethod yX6_leaveSet, Cond.selects RX6 yX6_leaveSet yX6_leaveSet, Cond.code yX6_leaveSet cX6_leaveSet 2 none, Cond.methodLink RX8 154 yX6_moveSet, Cond.instanceMethod yX6_moveSet, Cond.selects RX6 yX6_moveSet yX6_moveSet, Cond.code yX6_moveSet cX6_moveSet 4 none, Cond.methodLink RX8 158 yX4_moveSet, Cond.instanceMethod yX4_moveSet, Cond.selects RX4 yX4_moveSet yX4_moveSet]
def wsX8_join_r4 : List Cond := [Cond.code yX4_moveSet cX4_moveSet 4 none]
def wsX8_join : List Cond := .code yX8_join cX8_join 6 (some .int) :: ((wsX8_join_r1 ++ (wsX8_join_r2 ++ (wsX8_join_r3 ++ wsX8_join_r4))) ++ wsX80 ++ wsX40 ++ wsX20 ++ wsX60)
def wsX8_double2 : List Cond := .code yX8_double2 cX8_double2 3 (some .int) :: ([.fieldLink RX8 40 "DepositCodes" "doubles" "LDepositCodes$Doubles;", .methodLink RX8 159 yX2_part, .instanceMethod yX2_part, .selects RX2 yX2_part yX2_part, .initialized RX2, .code yX2_part cX2_part 3 (some .int), .fieldLink RX2 24 "DepositCodes$Doubles" "size" "I", .fieldLink RX2 17 "DepositCodes$Doubles" "payersA" "[I", .fieldLink RX2 21 "DepositCodes$Doubles" "payersB" "[I", .fieldLink RX2 11 "DepositCodes$Doubles" "serials" "[J", .static yX8_isIndex, .initialized RX8, .code yX8_isIndex cX8_isIndex 2 (some .boolean), .methodLink RX2 32 yX5_decimals, .static yX5_decimals, .initialized RX5, .code yX5_decimals cX5_decimals 5 (some .int), .constantLong RX5 17 (10), .methodLink RX2 38 yX5_decimalAt, .static yX5_decimalAt, .code yX5_decimalAt cX5_decimalAt 7 (some .int), .methodLink RX5 27 yX5_decimals] ++ wsX80 ++ wsX20)
def wsX8_mark : List Cond := .code yX8_mark cX8_mark 11 (some .boolean) :: ([.constantLong RX8 162 (99991), .constantLong RX8 164 (7), .constantLong RX8 166 (13), .constantLong RX8 168 (10000), .methodLink RX8 87 yX5_isNumber, .static yX5_isNumber, .initialized RX5, .code yX5_isNumber cX5_isNumber 2 (some .boolean), .constantLong RX5 11 (999999999999999999)])
def wsX8_coupon_r1 : List Cond := [Cond.fieldLink RX8 19 "DepositCodes" "machines" "LDepositCodes$Machines;", Cond.fieldLink RX8 47 "DepositCodes" "coupons" "LDepositCodes$Coupons;", Cond.methodLink RX8 170 yX4_hasPower, Cond.instanceMethod yX4_hasPower, Cond.selects RX4 yX4_hasPower yX4_hasPower, Cond.initialized RX4, Cond.code yX4_hasPower cX4_hasPower 2 (some .boolean), Cond.fieldLink RX4 15 "DepositCodes$Machines" "poweredOnes" "[Z", Cond.methodLink RX4 33 yX4_exists, Cond.instanceMethod yX4_exists, Cond.selects RX4 yX4_exists yX4_exists, Cond.code yX4_exists cX4_exists 2 (some .boolean), Cond.fieldLink RX4 25 "DepositCodes$Machines" "size" "I", Cond.static yX8_isIndex, Cond.initialized RX8, Cond.code yX8_isIndex cX8_isIndex 2 (some .boolean), Cond.methodLink RX8 173 yX4_takeUnprinted, Cond.instanceMethod yX4_takeUnprinted, Cond.selects RX4 yX4_takeUnprinted yX4_takeUnprinted, Cond.code yX4_takeUnprinted cX4_takeUnprinted 3 (some .int), Cond.fieldLink RX4 22 "DepositCodes$Machines" "unprinted" "[I", Cond.methodLink RX8 176 yX1_print, Cond.instanceMethod yX1_print, Cond.selects RX1 yX1_print yX1_print]
def wsX8_coupon_r2 : List Cond := [Cond.initialized RX1, Cond.code yX1_print cX1_print 3 (some .int), Cond.fieldLink RX1 25 "DepositCodes$Coupons" "size" "I", Cond.fieldLink RX1 11 "DepositCodes$Coupons" "amounts" "[I"]
def wsX8_coupon : List Cond := .code yX8_coupon cX8_coupon 3 (some .int) :: ((wsX8_coupon_r1 ++ wsX8_coupon_r2) ++ wsX80 ++ wsX40 ++ wsX10)
def wsX8_redeem : List Cond := .code yX8_redeem cX8_redeem 3 (some .boolean) :: ([.fieldLink RX8 47 "DepositCodes" "coupons" "LDepositCodes$Coupons;", .methodLink RX8 179 yX1_redeemAt, .instanceMethod yX1_redeemAt, .selects RX1 yX1_redeemAt yX1_redeemAt, .initialized RX1, .code yX1_redeemAt cX1_redeemAt 3 (some .boolean), .fieldLink RX1 25 "DepositCodes$Coupons" "size" "I", .fieldLink RX1 17 "DepositCodes$Coupons" "redeemed" "[Z", .fieldLink RX1 21 "DepositCodes$Coupons" "sums" "[J", .fieldLink RX1 11 "DepositCodes$Coupons" "amounts" "[I", .static yX8_isIndex, .initialized RX8, .code yX8_isIndex cX8_isIndex 2 (some .boolean)] ++ wsX80 ++ wsX10)
def wsX8_shop : List Cond := .code yX8_shop cX8_shop 2 (some .long) :: ([.fieldLink RX8 47 "DepositCodes" "coupons" "LDepositCodes$Coupons;", .methodLink RX8 182 yX1_redeemedBy, .instanceMethod yX1_redeemedBy, .selects RX1 yX1_redeemedBy yX1_redeemedBy, .initialized RX1, .code yX1_redeemedBy cX1_redeemedBy 2 (some .long), .fieldLink RX1 21 "DepositCodes$Coupons" "sums" "[J", .constantLong RX1 33 (-1), .static yX8_isIndex, .initialized RX8, .code yX8_isIndex cX8_isIndex 2 (some .boolean)] ++ wsX80 ++ wsX10)
def wsX8_clear : List Cond := .code yX8_clear cX8_clear 4 (some .int) :: ([.constant RX8 186 (40000), .fieldLink RX8 33 "DepositCodes" "payments" "LDepositCodes$Payments;", .fieldLink RX8 58 "DepositCodes" "balances" "[J", .methodLink RX8 187 yX6_balance, .instanceMethod yX6_balance, .selects RX6 yX6_balance yX6_balance, .initialized RX6, .code yX6_balance cX6_balance 4 none, .fieldLink RX6 31 "DepositCodes$Payments" "size" "I", .fieldLink RX6 25 "DepositCodes$Payments" "months" "[I", .fieldLink RX6 15 "DepositCodes$Payments" "payers" "[I", .fieldLink RX6 11 "DepositCodes$Payments" "serials" "[J", .methodLink RX6 41 yX6_addTo, .static yX6_addTo, .code yX6_addTo cX6_addTo 3 none, .static yX8_isIndex, .initialized RX8, .code yX8_isIndex cX8_isIndex 2 (some .boolean), .methodLink RX6 45 yX5_systemOfSerial, .static yX5_systemOfSerial, .initialized RX5, .code yX5_systemOfSerial cX5_systemOfSerial 2 (some .int), .constantLong RX5 17 (10), .constantLong RX5 31 (3)] ++ wsX80 ++ wsX60)
def wsX8_cleared : List Cond := .code yX8_cleared cX8_cleared 2 (some .long) :: ([.fieldLink RX8 58 "DepositCodes" "balances" "[J", .methodLink RX8 191 yX8_isIndex, .static yX8_isIndex, .initialized RX8, .code yX8_isIndex cX8_isIndex 2 (some .boolean)] ++ wsX80)
def wsX8_fraud : List Cond := .code yX8_fraud cX8_fraud 2 (some .int) :: ([.fieldLink RX8 54 "DepositCodes" "frauds" "LDepositCodes$Frauds;", .methodLink RX8 194 yX3_machineOf, .instanceMethod yX3_machineOf, .selects RX3 yX3_machineOf yX3_machineOf, .initialized RX3, .code yX3_machineOf cX3_machineOf 2 (some .int), .fieldLink RX3 15 "DepositCodes$Frauds" "size" "I", .fieldLink RX3 11 "DepositCodes$Frauds" "places" "[I", .static yX8_isIndex, .initialized RX8, .code yX8_isIndex cX8_isIndex 2 (some .boolean)] ++ wsX80 ++ wsX30)
def wsX9_init_r1 : List Cond := [Cond.methodLink RX9 1 objectInit, Cond.instanceMethod objectInit, Cond.code objectInit ⟨#[0xb1]⟩ 1 none, Cond.arrayClass .int, Cond.fieldLink RX9 7 "DepositCodesModel" "widths" "[I", Cond.fieldLink RX9 13 "DepositCodesModel" "digits" "[I", Cond.fieldLink RX9 16 "DepositCodesModel" "sets" "[I", Cond.arrayClass .boolean, Cond.fieldLink RX9 19 "DepositCodesModel" "isFull" "[Z", Cond.fieldLink RX9 23 "DepositCodesModel" "isDark" "[Z", Cond.fieldLink RX9 26 "DepositCodesModel" "leasts" "[I", Cond.fieldLink RX9 29 "DepositCodesModel" "mosts" "[I", Cond.arrayClass .long, Cond.fieldLink RX9 32 "DepositCodesModel" "serials" "[J", Cond.fieldLink RX9 36 "DepositCodesModel" "payers" "[I", Cond.fieldLink RX9 39 "DepositCodesModel" "shapes" "[I", Cond.fieldLink RX9 42 "DepositCodesModel" "months" "[J", Cond.fieldLink RX9 45 "DepositCodesModel" "counts" "[Z", Cond.fieldLink RX9 48 "DepositCodesModel" "printed" "[Z", Cond.fieldLink RX9 51 "DepositCodesModel" "refused" "[J", Cond.fieldLink RX9 54 "DepositCodesModel" "often" "[I", Cond.fieldLink RX9 57 "DepositCodesModel" "frauds" "[I", Cond.fieldLink RX9 60 "DepositCodesModel" "doubles" "[J", Cond.fieldLink RX9 63 "DepositCodesModel" "doubleA" "[I"]
def wsX9_init_r2 : List Cond := [Cond.fieldLink RX9 66 "DepositCodesModel" "doubleB" "[I", Cond.fieldLink RX9 69 "DepositCodesModel" "coupons" "[I", Cond.fieldLink RX9 72 "DepositCodesModel" "redeemed" "[Z", Cond.fieldLink RX9 75 "DepositCodesModel" "shops" "[J", Cond.fieldLink RX9 78 "DepositCodesModel" "balances" "[J"]
def wsX9_init : List Cond := .code yX9_init cX9_init 2 none :: ((wsX9_init_r1 ++ wsX9_init_r2) ++ wsX90)
def wsX9_thrown : List Cond := .code yX9_thrown cX9_thrown 1 (some .int) :: ([.fieldLink RX9 81 "DepositCodesModel" "fault" "I"] ++ wsX90)
def wsX9_isIn : List Cond := .code yX9_isIn cX9_isIn 4 (some .boolean) :: ([])
def wsX9_width : List Cond := .code yX9_width cX9_width 3 (some .boolean) :: ([.fieldLink RX9 81 "DepositCodesModel" "fault" "I", .constantLong RX9 85 (63), .constantLong RX9 91 (1000), .fieldLink RX9 7 "DepositCodesModel" "widths" "[I", .methodLink RX9 87 yX9_isIn, .static yX9_isIn, .initialized RX9, .code yX9_isIn cX9_isIn 4 (some .boolean)] ++ wsX90)
def wsX9_size : List Cond := .code yX9_size cX9_size 2 (some .int) :: ([.fieldLink RX9 7 "DepositCodesModel" "widths" "[I"] ++ wsX90)
def wsX9_at : List Cond := .code yX9_at cX9_at 3 (some .int) :: ([.fieldLink RX9 7 "DepositCodesModel" "widths" "[I", .methodLink RX9 93 yX9_size, .instanceMethod yX9_size, .selects RX9 yX9_size yX9_size, .initialized RX9, .code yX9_size cX9_size 2 (some .int)] ++ wsX90)
def wsX9_pattern : List Cond := .code yX9_pattern cX9_pattern 4 (some .int) :: ([])
def wsX9_digitAt : List Cond := .code yX9_digitAt cX9_digitAt 8 (some .int) :: ([.methodLink RX9 97 yX9_at, .instanceMethod yX9_at, .selects RX9 yX9_at yX9_at, .initialized RX9, .code yX9_at cX9_at 3 (some .int), .fieldLink RX9 7 "DepositCodesModel" "widths" "[I", .methodLink RX9 93 yX9_size, .instanceMethod yX9_size, .selects RX9 yX9_size yX9_size, .code yX9_size cX9_size 2 (some .int), .methodLink RX9 101 yX9_pattern, .static yX9_pattern, .code yX9_pattern cX9_pattern 4 (some .int)] ++ wsX90)
def wsX9_readSo : List Cond := .code yX9_readSo cX9_readSo 6 (some .boolean) :: ([.fieldLink RX9 105 "DepositCodesModel" "digitCount" "I", .fieldLink RX9 13 "DepositCodesModel" "digits" "[I", .methodLink RX9 93 yX9_size, .instanceMethod yX9_size, .selects RX9 yX9_size yX9_size, .initialized RX9, .code yX9_size cX9_size 2 (some .int), .fieldLink RX9 7 "DepositCodesModel" "widths" "[I", .methodLink RX9 97 yX9_at, .instanceMethod yX9_at, .selects RX9 yX9_at yX9_at, .code yX9_at cX9_at 3 (some .int), .methodLink RX9 108 yX9_digitAt, .instanceMethod yX9_digitAt, .selects RX9 yX9_digitAt yX9_digitAt, .code yX9_digitAt cX9_digitAt 8 (some .int), .methodLink RX9 101 yX9_pattern, .static yX9_pattern, .code yX9_pattern cX9_pattern 4 (some .int)] ++ wsX90)
def wsX9_read : List Cond := .code yX9_read cX9_read 1 (some .int) :: ([.fieldLink RX9 81 "DepositCodesModel" "fault" "I", .fieldLink RX9 105 "DepositCodesModel" "digitCount" "I", .methodLink RX9 111 yX9_readSo, .instanceMethod yX9_readSo, .selects RX9 yX9_readSo yX9_readSo, .initialized RX9, .code yX9_readSo cX9_readSo 6 (some .boolean), .fieldLink RX9 13 "DepositCodesModel" "digits" "[I", .methodLink RX9 93 yX9_size, .instanceMethod yX9_size, .selects RX9 yX9_size yX9_size, .code yX9_size cX9_size 2 (some .int), .fieldLink RX9 7 "DepositCodesModel" "widths" "[I", .methodLink RX9 97 yX9_at, .instanceMethod yX9_at, .selects RX9 yX9_at yX9_at, .code yX9_at cX9_at 3 (some .int), .methodLink RX9 108 yX9_digitAt, .instanceMethod yX9_digitAt, .selects RX9 yX9_digitAt yX9_digitAt, .code yX9_digitAt cX9_digitAt 8 (some .int), .methodLink RX9 101 yX9_pattern, .static yX9_pattern, .code yX9_pattern cX9_pattern 4 (some .int)] ++ wsX90)
def wsX9_back : List Cond := .code yX9_back cX9_back 1 (some .int) :: ([.fieldLink RX9 81 "DepositCodesModel" "fault" "I", .fieldLink RX9 105 "DepositCodesModel" "digitCount" "I", .methodLink RX9 111 yX9_readSo, .instanceMethod yX9_readSo, .selects RX9 yX9_readSo yX9_readSo, .initialized RX9, .code yX9_readSo cX9_readSo 6 (some .boolean), .fieldLink RX9 13 "DepositCodesModel" "digits" "[I", .methodLink RX9 93 yX9_size, .instanceMethod yX9_size, .selects RX9 yX9_size yX9_size, .code yX9_size cX9_size 2 (some .int), .fieldLink RX9 7 "DepositCodesModel" "widths" "[I", .methodLink RX9 97 yX9_at, .instanceMethod yX9_at, .selects RX9 yX9_at yX9_at, .code yX9_at cX9_at 3 (some .int), .methodLink RX9 108 yX9_digitAt, .instanceMethod yX9_digitAt, .selects RX9 yX9_digitAt yX9_digitAt, .code yX9_digitAt cX9_digitAt 8 (some .int), .methodLink RX9 101 yX9_pattern, .static yX9_pattern, .code yX9_pattern cX9_pattern 4 (some .int)] ++ wsX90)
def wsX9_digit : List Cond := .code yX9_digit cX9_digit 2 (some .int) :: ([.fieldLink RX9 105 "DepositCodesModel" "digitCount" "I", .fieldLink RX9 81 "DepositCodesModel" "fault" "I", .fieldLink RX9 13 "DepositCodesModel" "digits" "[I"] ++ wsX90)
def wsX9_checkOf : List Cond := .code yX9_checkOf cX9_checkOf 9 (some .int) :: ([.constantLong RX9 115 (10)])
def wsX9_check : List Cond := .code yX9_check cX9_check 4 (some .int) :: ([.fieldLink RX9 81 "DepositCodesModel" "fault" "I", .constantLong RX9 117 (999999999999999999), .methodLink RX9 87 yX9_isIn, .static yX9_isIn, .initialized RX9, .code yX9_isIn cX9_isIn 4 (some .boolean), .methodLink RX9 119 yX9_checkOf, .static yX9_checkOf, .code yX9_checkOf cX9_checkOf 9 (some .int), .constantLong RX9 115 (10)] ++ wsX90)
def wsX9_good : List Cond := .code yX9_good cX9_good 4 (some .boolean) :: ([.fieldLink RX9 81 "DepositCodesModel" "fault" "I", .constantLong RX9 117 (999999999999999999), .constantLong RX9 115 (10), .methodLink RX9 87 yX9_isIn, .static yX9_isIn, .initialized RX9, .code yX9_isIn cX9_isIn 4 (some .boolean), .methodLink RX9 119 yX9_checkOf, .static yX9_checkOf, .code yX9_checkOf cX9_checkOf 9 (some .int)] ++ wsX90)
def wsX9_mark : List Cond := .code yX9_mark cX9_mark 11 (some .boolean) :: ([.fieldLink RX9 81 "DepositCodesModel" "fault" "I", .constantLong RX9 117 (999999999999999999), .constantLong RX9 123 (99991), .constantLong RX9 125 (7), .constantLong RX9 127 (13), .constantLong RX9 129 (10000), .methodLink RX9 87 yX9_isIn, .static yX9_isIn, .initialized RX9, .code yX9_isIn cX9_isIn 4 (some .boolean)] ++ wsX90)
def wsX9_isMachine : List Cond := .code yX9_isMachine cX9_isMachine 2 (some .boolean) :: ([.fieldLink RX9 81 "DepositCodesModel" "fault" "I", .fieldLink RX9 131 "DepositCodesModel" "machines" "I"] ++ wsX90)
def wsX9_machine : List Cond := .code yX9_machine cX9_machine 1 (some .int) :: ([.fieldLink RX9 81 "DepositCodesModel" "fault" "I", .fieldLink RX9 131 "DepositCodesModel" "machines" "I", .fieldLink RX9 16 "DepositCodesModel" "sets" "[I"] ++ wsX90)
def wsX9_shape : List Cond := .code yX9_shape cX9_shape 4 (some .boolean) :: ([.fieldLink RX9 81 "DepositCodesModel" "fault" "I", .constantLong RX9 125 (7), .constantLong RX9 134 (100000), .fieldLink RX9 26 "DepositCodesModel" "leasts" "[I", .fieldLink RX9 29 "DepositCodesModel" "mosts" "[I", .methodLink RX9 87 yX9_isIn, .static yX9_isIn, .initialized RX9, .code yX9_isIn cX9_isIn 4 (some .boolean)] ++ wsX90)
def wsX9_full : List Cond := .code yX9_full cX9_full 3 (some .boolean) :: ([.fieldLink RX9 19 "DepositCodesModel" "isFull" "[Z", .methodLink RX9 136 yX9_isMachine, .instanceMethod yX9_isMachine, .selects RX9 yX9_isMachine yX9_isMachine, .initialized RX9, .code yX9_isMachine cX9_isMachine 2 (some .boolean), .fieldLink RX9 81 "DepositCodesModel" "fault" "I", .fieldLink RX9 131 "DepositCodesModel" "machines" "I"] ++ wsX90)
def wsX9_power : List Cond := .code yX9_power cX9_power 3 (some .boolean) :: ([.fieldLink RX9 23 "DepositCodesModel" "isDark" "[Z", .methodLink RX9 136 yX9_isMachine, .instanceMethod yX9_isMachine, .selects RX9 yX9_isMachine yX9_isMachine, .initialized RX9, .code yX9_isMachine cX9_isMachine 2 (some .boolean), .fieldLink RX9 81 "DepositCodesModel" "fault" "I", .fieldLink RX9 131 "DepositCodesModel" "machines" "I"] ++ wsX90)
def wsX9_payingOf : List Cond := .code yX9_payingOf cX9_payingOf 6 (some .int) :: ([.fieldLink RX9 140 "DepositCodesModel" "paid" "I", .fieldLink RX9 45 "DepositCodesModel" "counts" "[Z", .fieldLink RX9 32 "DepositCodesModel" "serials" "[J", .fieldLink RX9 16 "DepositCodesModel" "sets" "[I", .fieldLink RX9 36 "DepositCodesModel" "payers" "[I"] ++ wsX90)
def wsX9_reasonFor_r1 : List Cond := [Cond.fieldLink RX9 19 "DepositCodesModel" "isFull" "[Z", Cond.fieldLink RX9 23 "DepositCodesModel" "isDark" "[Z", Cond.constantLong RX9 125 (7), Cond.fieldLink RX9 26 "DepositCodesModel" "leasts" "[I", Cond.fieldLink RX9 29 "DepositCodesModel" "mosts" "[I", Cond.constantLong RX9 115 (10), Cond.fieldLink RX9 16 "DepositCodesModel" "sets" "[I", Cond.methodLink RX9 136 yX9_isMachine, Cond.instanceMethod yX9_isMachine, Cond.selects RX9 yX9_isMachine yX9_isMachine, Cond.initialized RX9, Cond.code yX9_isMachine cX9_isMachine 2 (some .boolean), Cond.fieldLink RX9 81 "DepositCodesModel" "fault" "I", Cond.fieldLink RX9 131 "DepositCodesModel" "machines" "I", Cond.methodLink RX9 87 yX9_isIn, Cond.static yX9_isIn, Cond.code yX9_isIn cX9_isIn 4 (some .boolean), Cond.methodLink RX9 119 yX9_checkOf, Cond.static yX9_checkOf, Cond.code yX9_checkOf cX9_checkOf 9 (some .int), Cond.methodLink RX9 143 yX9_payingOf, Cond.instanceMethod yX9_payingOf, Cond.selects RX9 yX9_payingOf yX9_payingOf, Cond.code yX9_payingOf cX9_payingOf 6 (some .int)]
def wsX9_reasonFor_r2 : List Cond := [Cond.fieldLink RX9 140 "DepositCodesModel" "paid" "I", Cond.fieldLink RX9 45 "DepositCodesModel" "counts" "[Z", Cond.fieldLink RX9 32 "DepositCodesModel" "serials" "[J", Cond.fieldLink RX9 36 "DepositCodesModel" "payers" "[I"]
def wsX9_reasonFor : List Cond := .code yX9_reasonFor cX9_reasonFor 6 (some .int) :: ((wsX9_reasonFor_r1 ++ wsX9_reasonFor_r2) ++ wsX90)
def wsX9_refuse : List Cond := .code yX9_refuse cX9_refuse 5 none :: ([.fieldLink RX9 147 "DepositCodesModel" "refusedCount" "I", .fieldLink RX9 51 "DepositCodesModel" "refused" "[J", .fieldLink RX9 54 "DepositCodesModel" "often" "[I", .fieldLink RX9 57 "DepositCodesModel" "frauds" "[I", .fieldLink RX9 150 "DepositCodesModel" "fraudCount" "I"] ++ wsX90)
def wsX9_give_r1 : List Cond := [Cond.fieldLink RX9 81 "DepositCodesModel" "fault" "I", Cond.constantLong RX9 117 (999999999999999999), Cond.constantLong RX9 153 (100000000000), Cond.fieldLink RX9 140 "DepositCodesModel" "paid" "I", Cond.fieldLink RX9 159 "DepositCodesModel" "reason" "I", Cond.fieldLink RX9 32 "DepositCodesModel" "serials" "[J", Cond.fieldLink RX9 36 "DepositCodesModel" "payers" "[I", Cond.fieldLink RX9 39 "DepositCodesModel" "shapes" "[I", Cond.fieldLink RX9 42 "DepositCodesModel" "months" "[J", Cond.constantLong RX9 166 (2592000), Cond.fieldLink RX9 45 "DepositCodesModel" "counts" "[Z", Cond.fieldLink RX9 48 "DepositCodesModel" "printed" "[Z", Cond.methodLink RX9 87 yX9_isIn, Cond.static yX9_isIn, Cond.initialized RX9, Cond.code yX9_isIn cX9_isIn 4 (some .boolean), Cond.methodLink RX9 155 yX9_reasonFor, Cond.instanceMethod yX9_reasonFor, Cond.selects RX9 yX9_reasonFor yX9_reasonFor, Cond.code yX9_reasonFor cX9_reasonFor 6 (some .int), Cond.fieldLink RX9 19 "DepositCodesModel" "isFull" "[Z", Cond.fieldLink RX9 23 "DepositCodesModel" "isDark" "[Z", Cond.constantLong RX9 125 (7), Cond.fieldLink RX9 26 "DepositCodesModel" "leasts" "[I"]
def wsX9_give_r2 : List Cond := [Cond.fieldLink RX9 29 "DepositCodesModel" "mosts" "[I", Cond.constantLong RX9 115 (10), Cond.fieldLink RX9 16 "DepositCodesModel" "sets" "[I", Cond.methodLink RX9 136 yX9_isMachine, Cond.instanceMethod yX9_isMachine, Cond.selects RX9 yX9_isMachine yX9_isMachine, Cond.code yX9_isMachine cX9_isMachine 2 (some .boolean), Cond.fieldLink RX9 131 "DepositCodesModel" "machines" "I", Cond.methodLink RX9 119 yX9_checkOf, Cond.static yX9_checkOf, Cond.code yX9_checkOf cX9_checkOf 9 (some .int), Cond.methodLink RX9 143 yX9_payingOf, Cond.instanceMethod yX9_payingOf, Cond.selects RX9 yX9_payingOf yX9_payingOf, Cond.code yX9_payingOf cX9_payingOf 6 (some .int), Cond.methodLink RX9 162 yX9_refuse, Cond.instanceMethod yX9_refuse, Cond.selects RX9 yX9_refuse yX9_refuse, Cond.code yX9_refuse cX9_refuse 5 none, Cond.fieldLink RX9 147 "DepositCodesModel" "refusedCount" "I", Cond.fieldLink RX9 51 "DepositCodesModel" "refused" "[J", Cond.fieldLink RX9 54 "DepositCodesModel" "often" "[I", Cond.fieldLink RX9 57 "DepositCodesModel" "frauds" "[I", Cond.fieldLink RX9 150 "DepositCodesModel" "fraudCount" "I"]
def wsX9_give : List Cond := .code yX9_give cX9_give 8 (some .int) :: ((wsX9_give_r1 ++ wsX9_give_r2) ++ wsX90)
def wsX9_reason : List Cond := .code yX9_reason cX9_reason 1 (some .int) :: ([.fieldLink RX9 81 "DepositCodesModel" "fault" "I", .fieldLink RX9 159 "DepositCodesModel" "reason" "I"] ++ wsX90)
def wsX9_count : List Cond := .code yX9_count cX9_count 5 (some .long) :: ([.constantLong RX9 125 (7), .constantLong RX9 168 (-1), .fieldLink RX9 140 "DepositCodesModel" "paid" "I", .fieldLink RX9 36 "DepositCodesModel" "payers" "[I", .fieldLink RX9 39 "DepositCodesModel" "shapes" "[I", .methodLink RX9 136 yX9_isMachine, .instanceMethod yX9_isMachine, .selects RX9 yX9_isMachine yX9_isMachine, .initialized RX9, .code yX9_isMachine cX9_isMachine 2 (some .boolean), .fieldLink RX9 81 "DepositCodesModel" "fault" "I", .fieldLink RX9 131 "DepositCodesModel" "machines" "I", .methodLink RX9 87 yX9_isIn, .static yX9_isIn, .code yX9_isIn cX9_isIn 4 (some .boolean)] ++ wsX90)
def wsX9_insert : List Cond := .code yX9_insert cX9_insert 7 none :: ([.fieldLink RX9 170 "DepositCodesModel" "doubleCount" "I", .fieldLink RX9 60 "DepositCodesModel" "doubles" "[J", .fieldLink RX9 63 "DepositCodesModel" "doubleA" "[I", .fieldLink RX9 66 "DepositCodesModel" "doubleB" "[I"] ++ wsX90)
def wsX9_join : List Cond := .code yX9_join cX9_join 8 (some .int) :: ([.fieldLink RX9 16 "DepositCodesModel" "sets" "[I", .fieldLink RX9 170 "DepositCodesModel" "doubleCount" "I", .fieldLink RX9 140 "DepositCodesModel" "paid" "I", .fieldLink RX9 45 "DepositCodesModel" "counts" "[Z", .fieldLink RX9 36 "DepositCodesModel" "payers" "[I", .fieldLink RX9 32 "DepositCodesModel" "serials" "[J", .fieldLink RX9 60 "DepositCodesModel" "doubles" "[J", .fieldLink RX9 131 "DepositCodesModel" "machines" "I", .methodLink RX9 136 yX9_isMachine, .instanceMethod yX9_isMachine, .selects RX9 yX9_isMachine yX9_isMachine, .initialized RX9, .code yX9_isMachine cX9_isMachine 2 (some .boolean), .fieldLink RX9 81 "DepositCodesModel" "fault" "I", .methodLink RX9 143 yX9_payingOf, .instanceMethod yX9_payingOf, .selects RX9 yX9_payingOf yX9_payingOf, .code yX9_payingOf cX9_payingOf 6 (some .int), .methodLink RX9 173 yX9_insert, .instanceMethod yX9_insert, .selects RX9 yX9_insert yX9_insert, .code yX9_insert cX9_insert 7 none, .fieldLink RX9 63 "DepositCodesModel" "doubleA" "[I", .fieldLink RX9 66 "DepositCodesModel" "doubleB" "[I"] ++ wsX90)
def wsX9_decimals : List Cond := .code yX9_decimals cX9_decimals 5 (some .int) :: ([.constantLong RX9 177 (9), .constantLong RX9 115 (10)])
def wsX9_double2 : List Cond := .code yX9_double2 cX9_double2 7 (some .int) :: ([.fieldLink RX9 81 "DepositCodesModel" "fault" "I", .fieldLink RX9 170 "DepositCodesModel" "doubleCount" "I", .fieldLink RX9 60 "DepositCodesModel" "doubles" "[J", .fieldLink RX9 63 "DepositCodesModel" "doubleA" "[I", .fieldLink RX9 66 "DepositCodesModel" "doubleB" "[I", .constantLong RX9 115 (10), .methodLink RX9 179 yX9_decimals, .static yX9_decimals, .initialized RX9, .code yX9_decimals cX9_decimals 5 (some .int), .constantLong RX9 177 (9)] ++ wsX90)
def wsX9_coupon : List Cond := .code yX9_coupon cX9_coupon 4 (some .int) :: ([.fieldLink RX9 23 "DepositCodesModel" "isDark" "[Z", .fieldLink RX9 140 "DepositCodesModel" "paid" "I", .fieldLink RX9 36 "DepositCodesModel" "payers" "[I", .fieldLink RX9 48 "DepositCodesModel" "printed" "[Z", .fieldLink RX9 69 "DepositCodesModel" "coupons" "[I", .fieldLink RX9 183 "DepositCodesModel" "couponCount" "I", .methodLink RX9 136 yX9_isMachine, .instanceMethod yX9_isMachine, .selects RX9 yX9_isMachine yX9_isMachine, .initialized RX9, .code yX9_isMachine cX9_isMachine 2 (some .boolean), .fieldLink RX9 81 "DepositCodesModel" "fault" "I", .fieldLink RX9 131 "DepositCodesModel" "machines" "I"] ++ wsX90)
def wsX9_redeem : List Cond := .code yX9_redeem cX9_redeem 3 (some .boolean) :: ([.fieldLink RX9 81 "DepositCodesModel" "fault" "I", .fieldLink RX9 183 "DepositCodesModel" "couponCount" "I", .constantLong RX9 186 (99), .fieldLink RX9 72 "DepositCodesModel" "redeemed" "[Z", .fieldLink RX9 75 "DepositCodesModel" "shops" "[J", .fieldLink RX9 69 "DepositCodesModel" "coupons" "[I", .methodLink RX9 87 yX9_isIn, .static yX9_isIn, .initialized RX9, .code yX9_isIn cX9_isIn 4 (some .boolean)] ++ wsX90)
def wsX9_shop : List Cond := .code yX9_shop cX9_shop 2 (some .long) :: ([.fieldLink RX9 81 "DepositCodesModel" "fault" "I", .constantLong RX9 186 (99), .fieldLink RX9 75 "DepositCodesModel" "shops" "[J", .constantLong RX9 168 (-1), .methodLink RX9 87 yX9_isIn, .static yX9_isIn, .initialized RX9, .code yX9_isIn cX9_isIn 4 (some .boolean)] ++ wsX90)
def wsX9_clear : List Cond := .code yX9_clear cX9_clear 5 (some .int) :: ([.fieldLink RX9 81 "DepositCodesModel" "fault" "I", .constantLong RX9 188 (40000), .fieldLink RX9 78 "DepositCodesModel" "balances" "[J", .fieldLink RX9 140 "DepositCodesModel" "paid" "I", .fieldLink RX9 42 "DepositCodesModel" "months" "[J", .fieldLink RX9 36 "DepositCodesModel" "payers" "[I", .constantLong RX9 190 (25), .fieldLink RX9 32 "DepositCodesModel" "serials" "[J", .constantLong RX9 115 (10), .constantLong RX9 192 (3), .methodLink RX9 87 yX9_isIn, .static yX9_isIn, .initialized RX9, .code yX9_isIn cX9_isIn 4 (some .boolean)] ++ wsX90)
def wsX9_cleared : List Cond := .code yX9_cleared cX9_cleared 2 (some .long) :: ([.fieldLink RX9 81 "DepositCodesModel" "fault" "I", .constantLong RX9 194 (2), .fieldLink RX9 78 "DepositCodesModel" "balances" "[J", .methodLink RX9 87 yX9_isIn, .static yX9_isIn, .initialized RX9, .code yX9_isIn cX9_isIn 4 (some .boolean)] ++ wsX90)
def wsX9_fraud : List Cond := .code yX9_fraud cX9_fraud 2 (some .int) :: ([.fieldLink RX9 81 "DepositCodesModel" "fault" "I", .fieldLink RX9 150 "DepositCodesModel" "fraudCount" "I", .fieldLink RX9 57 "DepositCodesModel" "frauds" "[I"] ++ wsX90)
def wsJx00060_init_da8c8 : List Cond := .code yJx00060_init_da8c8 cJx00060_init_da8c8 1 none :: ([])
def wsL_digit : List Cond := .codeWith yL_digit cL_digit 4 (some .int) [(0, 9, 12, 13)] :: ([.methodLink RL 7 yX8_digit, .instanceMethod yX8_digit, .selects RX8 yX8_digit yX8_digit, .initialized RX8, .code yX8_digit cX8_digit 3 (some .int), .fieldLink RX8 10 "DepositCodes" "bars" "LDepositCodes$Bars;", .classLink RX8 78 RJx00060, .instantiable RJx00060 6, .initialized RJx00060, .methodLink RX8 74 yX0_digitAt, .instanceMethod yX0_digitAt, .selects RX0 yX0_digitAt yX0_digitAt, .initialized RX0, .code yX0_digitAt cX0_digitAt 2 (some .int), .fieldLink RX0 18 "DepositCodes$Bars" "digitCount" "I", .fieldLink RX0 15 "DepositCodes$Bars" "digits" "[I", .static yX8_isIndex, .code yX8_isIndex cX8_isIndex 2 (some .boolean)] ++ wsX80 ++ wsJx000600 ++ wsX00)
def wsL_law_r1 : List Cond := [Cond.classLink RL 8 RX8, Cond.instantiable RX8 9, Cond.initialized RX8, Cond.classLink RL 16 RX9, Cond.instantiable RX9 32, Cond.initialized RX9, Cond.arrayClass .long, Cond.constantLong RL 42 (4294967295), Cond.methodLink RL 15 yX8_init, Cond.instanceMethod yX8_init, Cond.code yX8_init cX8_init 1 none, Cond.methodLink RX8 1 objectInit, Cond.instanceMethod objectInit, Cond.code objectInit ⟨#[0xb1]⟩ 1 none, Cond.classLink RX8 7 RX0, Cond.instantiable RX0 3, Cond.initialized RX0, Cond.fieldLink RX8 10 "DepositCodes" "bars" "LDepositCodes$Bars;", Cond.classLink RX8 16 RX4, Cond.instantiable RX4 5, Cond.initialized RX4, Cond.fieldLink RX8 19 "DepositCodes" "machines" "LDepositCodes$Machines;", Cond.classLink RX8 23 RX7, Cond.instantiable RX7 3]
def wsL_law_r2 : List Cond := [Cond.initialized RX7, Cond.fieldLink RX8 26 "DepositCodes" "spans" "LDepositCodes$Spans;", Cond.classLink RX8 30 RX6, Cond.instantiable RX6 7, Cond.initialized RX6, Cond.fieldLink RX8 33 "DepositCodes" "payments" "LDepositCodes$Payments;", Cond.classLink RX8 37 RX2, Cond.instantiable RX2 4, Cond.initialized RX2, Cond.fieldLink RX8 40 "DepositCodes" "doubles" "LDepositCodes$Doubles;", Cond.classLink RX8 44 RX1, Cond.instantiable RX1 4, Cond.initialized RX1, Cond.fieldLink RX8 47 "DepositCodes" "coupons" "LDepositCodes$Coupons;", Cond.classLink RX8 51 RX3, Cond.instantiable RX3 2, Cond.initialized RX3, Cond.fieldLink RX8 54 "DepositCodes" "frauds" "LDepositCodes$Frauds;", Cond.fieldLink RX8 58 "DepositCodes" "balances" "[J", Cond.fieldLink RX8 62 "DepositCodes" "latestReason" "I", Cond.methodLink RX8 9 yX0_init, Cond.instanceMethod yX0_init, Cond.code yX0_init cX0_init 1 none, Cond.methodLink RX0 5 objectInit]
def wsL_law_r3 : List Cond := [Cond.arrayClass .int, Cond.fieldLink RX0 11 "DepositCodes$Bars" "widths" "[I", Cond.fieldLink RX0 15 "DepositCodes$Bars" "digits" "[I", Cond.fieldLink RX0 18 "DepositCodes$Bars" "digitCount" "I", Cond.methodLink RX8 18 yX4_init, Cond.instanceMethod yX4_init, Cond.code yX4_init cX4_init 1 none, Cond.methodLink RX4 3 objectInit, Cond.arrayClass .boolean, Cond.fieldLink RX4 11 "DepositCodes$Machines" "fullOnes" "[Z", Cond.fieldLink RX4 15 "DepositCodes$Machines" "poweredOnes" "[Z", Cond.fieldLink RX4 18 "DepositCodes$Machines" "sets" "[I", Cond.fieldLink RX4 22 "DepositCodes$Machines" "unprinted" "[I", Cond.fieldLink RX4 25 "DepositCodes$Machines" "size" "I", Cond.methodLink RX8 25 yX7_init, Cond.instanceMethod yX7_init, Cond.code yX7_init cX7_init 1 none, Cond.methodLink RX7 1 objectInit, Cond.fieldLink RX7 9 "DepositCodes$Spans" "told" "[Z", Cond.fieldLink RX7 13 "DepositCodes$Spans" "leasts" "[I", Cond.fieldLink RX7 17 "DepositCodes$Spans" "mosts" "[I", Cond.methodLink RX8 32 yX6_init, Cond.instanceMethod yX6_init, Cond.code yX6_init cX6_init 1 none]
def wsL_law_r4 : List Cond := [Cond.methodLink RX6 3 objectInit, Cond.fieldLink RX6 11 "DepositCodes$Payments" "serials" "[J", Cond.fieldLink RX6 15 "DepositCodes$Payments" "payers" "[I", Cond.fieldLink RX6 19 "DepositCodes$Payments" "sets" "[I", Cond.fieldLink RX6 22 "DepositCodes$Payments" "shapes" "[I", Cond.fieldLink RX6 25 "DepositCodes$Payments" "months" "[I", Cond.fieldLink RX6 28 "DepositCodes$Payments" "refusals" "[I", Cond.fieldLink RX6 31 "DepositCodes$Payments" "size" "I", Cond.methodLink RX8 39 yX2_init, Cond.instanceMethod yX2_init, Cond.code yX2_init cX2_init 1 none, Cond.methodLink RX2 3 objectInit, Cond.fieldLink RX2 11 "DepositCodes$Doubles" "serials" "[J", Cond.fieldLink RX2 17 "DepositCodes$Doubles" "payersA" "[I", Cond.fieldLink RX2 21 "DepositCodes$Doubles" "payersB" "[I", Cond.fieldLink RX2 24 "DepositCodes$Doubles" "size" "I", Cond.methodLink RX8 46 yX1_init, Cond.instanceMethod yX1_init, Cond.code yX1_init cX1_init 1 none, Cond.methodLink RX1 3 objectInit, Cond.fieldLink RX1 11 "DepositCodes$Coupons" "amounts" "[I", Cond.fieldLink RX1 17 "DepositCodes$Coupons" "redeemed" "[Z", Cond.fieldLink RX1 21 "DepositCodes$Coupons" "sums" "[J", Cond.fieldLink RX1 25 "DepositCodes$Coupons" "size" "I"]
def wsL_law_r5 : List Cond := [Cond.methodLink RX8 53 yX3_init, Cond.instanceMethod yX3_init, Cond.code yX3_init cX3_init 1 none, Cond.methodLink RX3 5 objectInit, Cond.fieldLink RX3 11 "DepositCodes$Frauds" "places" "[I", Cond.fieldLink RX3 15 "DepositCodes$Frauds" "size" "I", Cond.methodLink RL 18 yX9_init, Cond.instanceMethod yX9_init, Cond.code yX9_init cX9_init 2 none, Cond.methodLink RX9 1 objectInit, Cond.fieldLink RX9 7 "DepositCodesModel" "widths" "[I", Cond.fieldLink RX9 13 "DepositCodesModel" "digits" "[I", Cond.fieldLink RX9 16 "DepositCodesModel" "sets" "[I", Cond.fieldLink RX9 19 "DepositCodesModel" "isFull" "[Z", Cond.fieldLink RX9 23 "DepositCodesModel" "isDark" "[Z", Cond.fieldLink RX9 26 "DepositCodesModel" "leasts" "[I", Cond.fieldLink RX9 29 "DepositCodesModel" "mosts" "[I", Cond.fieldLink RX9 32 "DepositCodesModel" "serials" "[J", Cond.fieldLink RX9 36 "DepositCodesModel" "payers" "[I", Cond.fieldLink RX9 39 "DepositCodesModel" "shapes" "[I", Cond.fieldLink RX9 42 "DepositCodesModel" "months" "[J", Cond.fieldLink RX9 45 "DepositCodesModel" "counts" "[Z", Cond.fieldLink RX9 48 "DepositCodesModel" "printed" "[Z", Cond.fieldLink RX9 51 "DepositCodesModel" "refused" "[J"]
def wsL_law_r6 : List Cond := [Cond.fieldLink RX9 54 "DepositCodesModel" "often" "[I", Cond.fieldLink RX9 57 "DepositCodesModel" "frauds" "[I", Cond.fieldLink RX9 60 "DepositCodesModel" "doubles" "[J", Cond.fieldLink RX9 63 "DepositCodesModel" "doubleA" "[I", Cond.fieldLink RX9 66 "DepositCodesModel" "doubleB" "[I", Cond.fieldLink RX9 69 "DepositCodesModel" "coupons" "[I", Cond.fieldLink RX9 72 "DepositCodesModel" "redeemed" "[Z", Cond.fieldLink RX9 75 "DepositCodesModel" "shops" "[J", Cond.fieldLink RX9 78 "DepositCodesModel" "balances" "[J", Cond.methodLink RL 19 yX8_width, Cond.instanceMethod yX8_width, Cond.selects RX8 yX8_width yX8_width, Cond.code yX8_width cX8_width 3 (some .boolean), Cond.methodLink RX8 66 yX0_setWidth, Cond.instanceMethod yX0_setWidth, Cond.selects RX0 yX0_setWidth yX0_setWidth, Cond.code yX0_setWidth cX0_setWidth 3 (some .boolean), Cond.static yX8_isIndex, Cond.code yX8_isIndex cX8_isIndex 2 (some .boolean), Cond.methodLink RL 23 yX9_width, Cond.instanceMethod yX9_width, Cond.selects RX9 yX9_width yX9_width, Cond.code yX9_width cX9_width 3 (some .boolean), Cond.fieldLink RX9 81 "DepositCodesModel" "fault" "I"]
def wsL_law_r7 : List Cond := [Cond.constantLong RX9 85 (63), Cond.constantLong RX9 91 (1000), Cond.methodLink RX9 87 yX9_isIn, Cond.static yX9_isIn, Cond.code yX9_isIn cX9_isIn 4 (some .boolean), Cond.methodLink RL 24 yX8_read, Cond.instanceMethod yX8_read, Cond.selects RX8 yX8_read yX8_read, Cond.code yX8_read cX8_read 1 (some .int), Cond.methodLink RX8 70 yX0_scan, Cond.instanceMethod yX0_scan, Cond.selects RX0 yX0_scan yX0_scan, Cond.code yX0_scan cX0_scan 3 (some .int), Cond.methodLink RX0 26 yX0_rowLength, Cond.instanceMethod yX0_rowLength, Cond.selects RX0 yX0_rowLength yX0_rowLength, Cond.code yX0_rowLength cX0_rowLength 2 (some .int), Cond.methodLink RX0 30 yX0_decode, Cond.instanceMethod yX0_decode, Cond.selects RX0 yX0_decode yX0_decode, Cond.code yX0_decode cX0_decode 7 (some .boolean), Cond.methodLink RX0 34 yX0_isEdge, Cond.instanceMethod yX0_isEdge, Cond.selects RX0 yX0_isEdge yX0_isEdge]
def wsL_law_r8 : List Cond := [Cond.code yX0_isEdge cX0_isEdge 3 (some .boolean), Cond.methodLink RX0 42 yX0_widthAt, Cond.instanceMethod yX0_widthAt, Cond.selects RX0 yX0_widthAt yX0_widthAt, Cond.code yX0_widthAt cX0_widthAt 2 (some .int), Cond.methodLink RX0 38 yX0_digitOfGroup, Cond.instanceMethod yX0_digitOfGroup, Cond.selects RX0 yX0_digitOfGroup yX0_digitOfGroup, Cond.code yX0_digitOfGroup cX0_digitOfGroup 5 (some .int), Cond.methodLink RX0 46 yX0_matches, Cond.instanceMethod yX0_matches, Cond.selects RX0 yX0_matches yX0_matches, Cond.code yX0_matches cX0_matches 9 (some .boolean), Cond.fieldLink RX0 50 "DepositCodes$Bars" "PATTERNS" "[I", Cond.methodLink RL 28 yX9_read, Cond.instanceMethod yX9_read, Cond.selects RX9 yX9_read yX9_read, Cond.code yX9_read cX9_read 1 (some .int), Cond.fieldLink RX9 105 "DepositCodesModel" "digitCount" "I", Cond.methodLink RX9 111 yX9_readSo, Cond.instanceMethod yX9_readSo, Cond.selects RX9 yX9_readSo yX9_readSo, Cond.code yX9_readSo cX9_readSo 6 (some .boolean), Cond.methodLink RX9 93 yX9_size]
def wsL_law_r9 : List Cond := [Cond.instanceMethod yX9_size, Cond.selects RX9 yX9_size yX9_size, Cond.code yX9_size cX9_size 2 (some .int), Cond.methodLink RX9 97 yX9_at, Cond.instanceMethod yX9_at, Cond.selects RX9 yX9_at yX9_at, Cond.code yX9_at cX9_at 3 (some .int), Cond.methodLink RX9 108 yX9_digitAt, Cond.instanceMethod yX9_digitAt, Cond.selects RX9 yX9_digitAt yX9_digitAt, Cond.code yX9_digitAt cX9_digitAt 8 (some .int), Cond.methodLink RX9 101 yX9_pattern, Cond.static yX9_pattern, Cond.code yX9_pattern cX9_pattern 4 (some .int), Cond.methodLink RL 29 yX8_back, Cond.instanceMethod yX8_back, Cond.selects RX8 yX8_back yX8_back, Cond.code yX8_back cX8_back 1 (some .int), Cond.methodLink RL 32 yX9_back, Cond.instanceMethod yX9_back, Cond.selects RX9 yX9_back yX9_back, Cond.code yX9_back cX9_back 1 (some .int), Cond.methodLink RL 33 yL_digit, Cond.static yL_digit]
def wsL_law_r10 : List Cond := [Cond.initialized RL, Cond.codeWith yL_digit cL_digit 4 (some .int) [(0, 9, 12, 13)], Cond.methodLink RL 7 yX8_digit, Cond.instanceMethod yX8_digit, Cond.selects RX8 yX8_digit yX8_digit, Cond.code yX8_digit cX8_digit 3 (some .int), Cond.classLink RX8 78 RJx00060, Cond.instantiable RJx00060 6, Cond.initialized RJx00060, Cond.methodLink RX8 74 yX0_digitAt, Cond.instanceMethod yX0_digitAt, Cond.selects RX0 yX0_digitAt yX0_digitAt, Cond.code yX0_digitAt cX0_digitAt 2 (some .int), Cond.methodLink RL 38 yX9_digit, Cond.instanceMethod yX9_digit, Cond.selects RX9 yX9_digit yX9_digit, Cond.code yX9_digit cX9_digit 2 (some .int), Cond.methodLink RL 39 yX9_thrown, Cond.instanceMethod yX9_thrown, Cond.selects RX9 yX9_thrown yX9_thrown, Cond.code yX9_thrown cX9_thrown 1 (some .int), Cond.methodLink RL 44 yX8_check, Cond.instanceMethod yX8_check, Cond.selects RX8 yX8_check yX8_check]
def wsL_law_r11 : List Cond := [Cond.code yX8_check cX8_check 4 (some .int), Cond.methodLink RX8 81 yX5_isKind, Cond.static yX5_isKind, Cond.initialized RX5, Cond.code yX5_isKind cX5_isKind 1 (some .boolean), Cond.methodLink RX8 87 yX5_isNumber, Cond.static yX5_isNumber, Cond.code yX5_isNumber cX5_isNumber 2 (some .boolean), Cond.constantLong RX5 11 (999999999999999999), Cond.methodLink RX8 91 yX5_checkDigit, Cond.static yX5_checkDigit, Cond.code yX5_checkDigit cX5_checkDigit 8 (some .int), Cond.constantLong RX5 17 (10), Cond.methodLink RX5 19 yX5_weighed, Cond.static yX5_weighed, Cond.code yX5_weighed cX5_weighed 2 (some .int), Cond.methodLink RL 48 yX9_check, Cond.instanceMethod yX9_check, Cond.selects RX9 yX9_check yX9_check, Cond.code yX9_check cX9_check 4 (some .int), Cond.constantLong RX9 117 (999999999999999999), Cond.methodLink RX9 119 yX9_checkOf, Cond.static yX9_checkOf, Cond.code yX9_checkOf cX9_checkOf 9 (some .int)]
def wsL_law_r12 : List Cond := [Cond.constantLong RX9 115 (10), Cond.methodLink RL 49 yX8_good, Cond.instanceMethod yX8_good, Cond.selects RX8 yX8_good yX8_good, Cond.code yX8_good cX8_good 4 (some .boolean), Cond.methodLink RX8 95 yX5_isGood, Cond.static yX5_isGood, Cond.code yX5_isGood cX5_isGood 3 (some .boolean), Cond.methodLink RX5 23 yX5_checkDigit, Cond.methodLink RL 53 yX9_good, Cond.instanceMethod yX9_good, Cond.selects RX9 yX9_good yX9_good, Cond.code yX9_good cX9_good 4 (some .boolean), Cond.methodLink RL 54 yX8_machine, Cond.instanceMethod yX8_machine, Cond.selects RX8 yX8_machine yX8_machine, Cond.code yX8_machine cX8_machine 1 (some .int), Cond.methodLink RX8 99 yX4_addMachine, Cond.instanceMethod yX4_addMachine, Cond.selects RX4 yX4_addMachine yX4_addMachine, Cond.code yX4_addMachine cX4_addMachine 2 (some .int), Cond.methodLink RL 57 yX9_machine, Cond.instanceMethod yX9_machine, Cond.selects RX9 yX9_machine yX9_machine]
def wsL_law_r13 : List Cond := [Cond.code yX9_machine cX9_machine 1 (some .int), Cond.fieldLink RX9 131 "DepositCodesModel" "machines" "I", Cond.methodLink RL 58 yX8_shape, Cond.instanceMethod yX8_shape, Cond.selects RX8 yX8_shape yX8_shape, Cond.code yX8_shape cX8_shape 4 (some .boolean), Cond.methodLink RX8 103 yX7_tell, Cond.instanceMethod yX7_tell, Cond.selects RX7 yX7_tell yX7_tell, Cond.code yX7_tell cX7_tell 4 (some .boolean), Cond.constant RX7 30 (100000), Cond.methodLink RX7 26 yX7_exists, Cond.instanceMethod yX7_exists, Cond.selects RX7 yX7_exists yX7_exists, Cond.code yX7_exists cX7_exists 2 (some .boolean), Cond.methodLink RL 62 yX9_shape, Cond.instanceMethod yX9_shape, Cond.selects RX9 yX9_shape yX9_shape, Cond.code yX9_shape cX9_shape 4 (some .boolean), Cond.constantLong RX9 125 (7), Cond.constantLong RX9 134 (100000), Cond.methodLink RL 63 yX8_full, Cond.instanceMethod yX8_full, Cond.selects RX8 yX8_full yX8_full]
def wsL_law_r14 : List Cond := [Cond.code yX8_full cX8_full 3 (some .boolean), Cond.methodLink RX8 107 yX4_setFull, Cond.instanceMethod yX4_setFull, Cond.selects RX4 yX4_setFull yX4_setFull, Cond.code yX4_setFull cX4_setFull 3 (some .boolean), Cond.methodLink RX4 33 yX4_exists, Cond.instanceMethod yX4_exists, Cond.selects RX4 yX4_exists yX4_exists, Cond.code yX4_exists cX4_exists 2 (some .boolean), Cond.methodLink RL 67 yX9_full, Cond.instanceMethod yX9_full, Cond.selects RX9 yX9_full yX9_full, Cond.code yX9_full cX9_full 3 (some .boolean), Cond.methodLink RX9 136 yX9_isMachine, Cond.instanceMethod yX9_isMachine, Cond.selects RX9 yX9_isMachine yX9_isMachine, Cond.code yX9_isMachine cX9_isMachine 2 (some .boolean), Cond.methodLink RL 68 yX8_power, Cond.instanceMethod yX8_power, Cond.selects RX8 yX8_power yX8_power, Cond.code yX8_power cX8_power 3 (some .boolean), Cond.methodLink RX8 111 yX4_setPower, Cond.instanceMethod yX4_setPower, Cond.selects RX4 yX4_setPower yX4_setPower]
def wsL_law_r15 : List Cond := [Cond.code yX4_setPower cX4_setPower 3 (some .boolean), Cond.methodLink RL 71 yX9_power, Cond.instanceMethod yX9_power, Cond.selects RX9 yX9_power yX9_power, Cond.code yX9_power cX9_power 3 (some .boolean), Cond.methodLink RL 72 yX8_give, Cond.instanceMethod yX8_give, Cond.selects RX8 yX8_give yX8_give, Cond.code yX8_give cX8_give 9 (some .int), Cond.constantLong RX8 114 (100000000000), Cond.constantLong RX8 128 (2592000), Cond.methodLink RX8 116 yX6_areAtLimit, Cond.instanceMethod yX6_areAtLimit, Cond.selects RX6 yX6_areAtLimit yX6_areAtLimit, Cond.code yX6_areAtLimit cX6_areAtLimit 1 (some .boolean), Cond.methodLink RX8 120 yX8_reasonToRefuse, Cond.instanceMethod yX8_reasonToRefuse, Cond.selects RX8 yX8_reasonToRefuse yX8_reasonToRefuse, Cond.code yX8_reasonToRefuse cX8_reasonToRefuse 6 (some .int), Cond.methodLink RX8 141 yX4_exists, Cond.methodLink RX8 197 yX4_isFull, Cond.instanceMethod yX4_isFull, Cond.selects RX4 yX4_isFull yX4_isFull, Cond.code yX4_isFull cX4_isFull 2 (some .boolean)]
def wsL_law_r16 : List Cond := [Cond.methodLink RX8 170 yX4_hasPower, Cond.instanceMethod yX4_hasPower, Cond.selects RX4 yX4_hasPower yX4_hasPower, Cond.code yX4_hasPower cX4_hasPower 2 (some .boolean), Cond.methodLink RX8 200 yX7_isTold, Cond.instanceMethod yX7_isTold, Cond.selects RX7 yX7_isTold yX7_isTold, Cond.code yX7_isTold cX7_isTold 2 (some .boolean), Cond.methodLink RX8 203 yX7_holds, Cond.instanceMethod yX7_holds, Cond.selects RX7 yX7_holds yX7_holds, Cond.code yX7_holds cX7_holds 3 (some .boolean), Cond.methodLink RX7 31 yX7_isTold, Cond.methodLink RX8 130 yX4_setOf, Cond.instanceMethod yX4_setOf, Cond.selects RX4 yX4_setOf yX4_setOf, Cond.code yX4_setOf cX4_setOf 2 (some .int), Cond.methodLink RX8 206 yX6_find, Cond.instanceMethod yX6_find, Cond.selects RX6 yX6_find yX6_find, Cond.code yX6_find cX6_find 5 (some .int), Cond.methodLink RX8 124 yX8_noteRefusal, Cond.instanceMethod yX8_noteRefusal, Cond.selects RX8 yX8_noteRefusal yX8_noteRefusal]
def wsL_law_r17 : List Cond := [Cond.code yX8_noteRefusal cX8_noteRefusal 4 none, Cond.methodLink RX8 210 yX6_addRefusal, Cond.instanceMethod yX6_addRefusal, Cond.selects RX6 yX6_addRefusal yX6_addRefusal, Cond.code yX6_addRefusal cX6_addRefusal 4 (some .int), Cond.methodLink RX8 214 yX3_add, Cond.instanceMethod yX3_add, Cond.selects RX3 yX3_add yX3_add, Cond.code yX3_add cX3_add 2 none, Cond.methodLink RX8 133 yX6_add, Cond.instanceMethod yX6_add, Cond.selects RX6 yX6_add yX6_add, Cond.code yX6_add cX6_add 7 none, Cond.methodLink RX8 137 yX4_addUnprinted, Cond.instanceMethod yX4_addUnprinted, Cond.selects RX4 yX4_addUnprinted yX4_addUnprinted, Cond.code yX4_addUnprinted cX4_addUnprinted 2 none, Cond.methodLink RL 76 yX9_give, Cond.instanceMethod yX9_give, Cond.selects RX9 yX9_give yX9_give, Cond.code yX9_give cX9_give 8 (some .int), Cond.constantLong RX9 153 (100000000000), Cond.fieldLink RX9 140 "DepositCodesModel" "paid" "I", Cond.fieldLink RX9 159 "DepositCodesModel" "reason" "I"]
def wsL_law_r18 : List Cond := [Cond.constantLong RX9 166 (2592000), Cond.methodLink RX9 155 yX9_reasonFor, Cond.instanceMethod yX9_reasonFor, Cond.selects RX9 yX9_reasonFor yX9_reasonFor, Cond.code yX9_reasonFor cX9_reasonFor 6 (some .int), Cond.methodLink RX9 143 yX9_payingOf, Cond.instanceMethod yX9_payingOf, Cond.selects RX9 yX9_payingOf yX9_payingOf, Cond.code yX9_payingOf cX9_payingOf 6 (some .int), Cond.methodLink RX9 162 yX9_refuse, Cond.instanceMethod yX9_refuse, Cond.selects RX9 yX9_refuse yX9_refuse, Cond.code yX9_refuse cX9_refuse 5 none, Cond.fieldLink RX9 147 "DepositCodesModel" "refusedCount" "I", Cond.fieldLink RX9 150 "DepositCodesModel" "fraudCount" "I", Cond.methodLink RL 77 yX8_reason, Cond.instanceMethod yX8_reason, Cond.selects RX8 yX8_reason yX8_reason, Cond.code yX8_reason cX8_reason 1 (some .int), Cond.methodLink RL 80 yX9_reason, Cond.instanceMethod yX9_reason, Cond.selects RX9 yX9_reason yX9_reason, Cond.code yX9_reason cX9_reason 1 (some .int), Cond.methodLink RL 81 yX8_count]
def wsL_law_r19 : List Cond := [Cond.instanceMethod yX8_count, Cond.selects RX8 yX8_count yX8_count, Cond.code yX8_count cX8_count 3 (some .long), Cond.constantLong RX8 145 (-1), Cond.methodLink RX8 144 yX7_exists, Cond.methodLink RX8 147 yX6_paidBy, Cond.instanceMethod yX6_paidBy, Cond.selects RX6 yX6_paidBy yX6_paidBy, Cond.code yX6_paidBy cX6_paidBy 5 (some .int), Cond.methodLink RL 85 yX9_count, Cond.instanceMethod yX9_count, Cond.selects RX9 yX9_count yX9_count, Cond.code yX9_count cX9_count 5 (some .long), Cond.constantLong RX9 168 (-1), Cond.methodLink RL 86 yX8_join, Cond.instanceMethod yX8_join, Cond.selects RX8 yX8_join yX8_join, Cond.code yX8_join cX8_join 6 (some .int), Cond.methodLink RX8 151 yX8_tellDoubles, Cond.instanceMethod yX8_tellDoubles, Cond.selects RX8 yX8_tellDoubles yX8_tellDoubles, Cond.code yX8_tellDoubles cX8_tellDoubles 6 (some .int), Cond.methodLink RX8 216 yX2_size, Cond.instanceMethod yX2_size]
def wsL_law_r20 : List Cond := [Cond.selects RX2 yX2_size yX2_size, Cond.code yX2_size cX2_size 1 (some .int), Cond.methodLink RX8 219 yX6_size, Cond.instanceMethod yX6_size, Cond.selects RX6 yX6_size yX6_size, Cond.code yX6_size cX6_size 1 (some .int), Cond.methodLink RX8 220 yX6_isOf, Cond.instanceMethod yX6_isOf, Cond.selects RX6 yX6_isOf yX6_isOf, Cond.code yX6_isOf cX6_isOf 3 (some .boolean), Cond.methodLink RX8 223 yX6_serialOf, Cond.instanceMethod yX6_serialOf, Cond.selects RX6 yX6_serialOf yX6_serialOf, Cond.code yX6_serialOf cX6_serialOf 2 (some .long), Cond.constantLong RX6 39 (-1), Cond.methodLink RX8 226 yX6_payerOf, Cond.instanceMethod yX6_payerOf, Cond.selects RX6 yX6_payerOf yX6_payerOf, Cond.code yX6_payerOf cX6_payerOf 2 (some .int), Cond.methodLink RX8 229 yX2_insert, Cond.instanceMethod yX2_insert, Cond.selects RX2 yX2_insert yX2_insert, Cond.code yX2_insert cX2_insert 7 none, Cond.methodLink RX8 233 yX6_leaveSet]
def wsL_law_r21 : List Cond := [Cond.instanceMethod yX6_leaveSet, Cond.selects RX6 yX6_leaveSet yX6_leaveSet, Cond.code yX6_leaveSet cX6_leaveSet 2 none, Cond.methodLink RX8 154 yX6_moveSet, Cond.instanceMethod yX6_moveSet, Cond.selects RX6 yX6_moveSet yX6_moveSet, Cond.code yX6_moveSet cX6_moveSet 4 none, Cond.methodLink RX8 158 yX4_moveSet, Cond.instanceMethod yX4_moveSet, Cond.selects RX4 yX4_moveSet yX4_moveSet, Cond.code yX4_moveSet cX4_moveSet 4 none, Cond.methodLink RL 90 yX9_join, Cond.instanceMethod yX9_join, Cond.selects RX9 yX9_join yX9_join, Cond.code yX9_join cX9_join 8 (some .int), Cond.fieldLink RX9 170 "DepositCodesModel" "doubleCount" "I", Cond.methodLink RX9 173 yX9_insert, Cond.instanceMethod yX9_insert, Cond.selects RX9 yX9_insert yX9_insert, Cond.code yX9_insert cX9_insert 7 none, Cond.methodLink RL 91 yX8_double2, Cond.instanceMethod yX8_double2, Cond.selects RX8 yX8_double2 yX8_double2, Cond.code yX8_double2 cX8_double2 3 (some .int)]
def wsL_law_r22 : List Cond := [Cond.methodLink RX8 159 yX2_part, Cond.instanceMethod yX2_part, Cond.selects RX2 yX2_part yX2_part, Cond.code yX2_part cX2_part 3 (some .int), Cond.methodLink RX2 32 yX5_decimals, Cond.static yX5_decimals, Cond.code yX5_decimals cX5_decimals 5 (some .int), Cond.methodLink RX2 38 yX5_decimalAt, Cond.static yX5_decimalAt, Cond.code yX5_decimalAt cX5_decimalAt 7 (some .int), Cond.methodLink RX5 27 yX5_decimals, Cond.methodLink RL 94 yX9_double2, Cond.instanceMethod yX9_double2, Cond.selects RX9 yX9_double2 yX9_double2, Cond.code yX9_double2 cX9_double2 7 (some .int), Cond.methodLink RX9 179 yX9_decimals, Cond.static yX9_decimals, Cond.code yX9_decimals cX9_decimals 5 (some .int), Cond.constantLong RX9 177 (9), Cond.methodLink RL 95 yX8_mark, Cond.instanceMethod yX8_mark, Cond.selects RX8 yX8_mark yX8_mark, Cond.code yX8_mark cX8_mark 11 (some .boolean), Cond.constantLong RX8 162 (99991)]
def wsL_law_r23 : List Cond := [Cond.constantLong RX8 164 (7), Cond.constantLong RX8 166 (13), Cond.constantLong RX8 168 (10000), Cond.methodLink RL 99 yX9_mark, Cond.instanceMethod yX9_mark, Cond.selects RX9 yX9_mark yX9_mark, Cond.code yX9_mark cX9_mark 11 (some .boolean), Cond.constantLong RX9 123 (99991), Cond.constantLong RX9 127 (13), Cond.constantLong RX9 129 (10000), Cond.methodLink RL 100 yX8_coupon, Cond.instanceMethod yX8_coupon, Cond.selects RX8 yX8_coupon yX8_coupon, Cond.code yX8_coupon cX8_coupon 3 (some .int), Cond.methodLink RX8 173 yX4_takeUnprinted, Cond.instanceMethod yX4_takeUnprinted, Cond.selects RX4 yX4_takeUnprinted yX4_takeUnprinted, Cond.code yX4_takeUnprinted cX4_takeUnprinted 3 (some .int), Cond.methodLink RX8 176 yX1_print, Cond.instanceMethod yX1_print, Cond.selects RX1 yX1_print yX1_print, Cond.code yX1_print cX1_print 3 (some .int), Cond.methodLink RL 103 yX9_coupon, Cond.instanceMethod yX9_coupon]
def wsL_law_r24 : List Cond := [Cond.selects RX9 yX9_coupon yX9_coupon, Cond.code yX9_coupon cX9_coupon 4 (some .int), Cond.fieldLink RX9 183 "DepositCodesModel" "couponCount" "I", Cond.methodLink RL 104 yX8_redeem, Cond.instanceMethod yX8_redeem, Cond.selects RX8 yX8_redeem yX8_redeem, Cond.code yX8_redeem cX8_redeem 3 (some .boolean), Cond.methodLink RX8 179 yX1_redeemAt, Cond.instanceMethod yX1_redeemAt, Cond.selects RX1 yX1_redeemAt yX1_redeemAt, Cond.code yX1_redeemAt cX1_redeemAt 3 (some .boolean), Cond.methodLink RL 107 yX9_redeem, Cond.instanceMethod yX9_redeem, Cond.selects RX9 yX9_redeem yX9_redeem, Cond.code yX9_redeem cX9_redeem 3 (some .boolean), Cond.constantLong RX9 186 (99), Cond.methodLink RL 108 yX8_shop, Cond.instanceMethod yX8_shop, Cond.selects RX8 yX8_shop yX8_shop, Cond.code yX8_shop cX8_shop 2 (some .long), Cond.methodLink RX8 182 yX1_redeemedBy, Cond.instanceMethod yX1_redeemedBy, Cond.selects RX1 yX1_redeemedBy yX1_redeemedBy, Cond.code yX1_redeemedBy cX1_redeemedBy 2 (some .long)]
def wsL_law_r25 : List Cond := [Cond.constantLong RX1 33 (-1), Cond.methodLink RL 112 yX9_shop, Cond.instanceMethod yX9_shop, Cond.selects RX9 yX9_shop yX9_shop, Cond.code yX9_shop cX9_shop 2 (some .long), Cond.methodLink RL 113 yX8_clear, Cond.instanceMethod yX8_clear, Cond.selects RX8 yX8_clear yX8_clear, Cond.code yX8_clear cX8_clear 4 (some .int), Cond.constant RX8 186 (40000), Cond.methodLink RX8 187 yX6_balance, Cond.instanceMethod yX6_balance, Cond.selects RX6 yX6_balance yX6_balance, Cond.code yX6_balance cX6_balance 4 none, Cond.methodLink RX6 41 yX6_addTo, Cond.static yX6_addTo, Cond.code yX6_addTo cX6_addTo 3 none, Cond.methodLink RX6 45 yX5_systemOfSerial, Cond.static yX5_systemOfSerial, Cond.code yX5_systemOfSerial cX5_systemOfSerial 2 (some .int), Cond.constantLong RX5 31 (3), Cond.methodLink RL 116 yX9_clear, Cond.instanceMethod yX9_clear, Cond.selects RX9 yX9_clear yX9_clear]
def wsL_law_r26 : List Cond := [Cond.code yX9_clear cX9_clear 5 (some .int), Cond.constantLong RX9 188 (40000), Cond.constantLong RX9 190 (25), Cond.constantLong RX9 192 (3), Cond.methodLink RL 117 yX8_cleared, Cond.instanceMethod yX8_cleared, Cond.selects RX8 yX8_cleared yX8_cleared, Cond.code yX8_cleared cX8_cleared 2 (some .long), Cond.methodLink RX8 191 yX8_isIndex, Cond.methodLink RL 120 yX9_cleared, Cond.instanceMethod yX9_cleared, Cond.selects RX9 yX9_cleared yX9_cleared, Cond.code yX9_cleared cX9_cleared 2 (some .long), Cond.constantLong RX9 194 (2), Cond.methodLink RL 121 yX8_fraud, Cond.instanceMethod yX8_fraud, Cond.selects RX8 yX8_fraud yX8_fraud, Cond.code yX8_fraud cX8_fraud 2 (some .int), Cond.methodLink RX8 194 yX3_machineOf, Cond.instanceMethod yX3_machineOf, Cond.selects RX3 yX3_machineOf yX3_machineOf, Cond.code yX3_machineOf cX3_machineOf 2 (some .int), Cond.methodLink RL 124 yX9_fraud, Cond.instanceMethod yX9_fraud]
def wsL_law_r27 : List Cond := [Cond.selects RX9 yX9_fraud yX9_fraud, Cond.code yX9_fraud cX9_fraud 2 (some .int)]
def wsL_law : List Cond := (wsL_law_r1 ++ (wsL_law_r2 ++ (wsL_law_r3 ++ (wsL_law_r4 ++ (wsL_law_r5 ++ (wsL_law_r6 ++ (wsL_law_r7 ++ (wsL_law_r8 ++ (wsL_law_r9 ++ (wsL_law_r10 ++ (wsL_law_r11 ++ (wsL_law_r12 ++ (wsL_law_r13 ++ (wsL_law_r14 ++ (wsL_law_r15 ++ (wsL_law_r16 ++ (wsL_law_r17 ++ (wsL_law_r18 ++ (wsL_law_r19 ++ (wsL_law_r20 ++ (wsL_law_r21 ++ (wsL_law_r22 ++ (wsL_law_r23 ++ (wsL_law_r24 ++ (wsL_law_r25 ++ (wsL_law_r26 ++ wsL_law_r27)))))))))))))))))))))))))) ++ wsX80 ++ wsX90 ++ wsX00 ++ wsX40 ++ wsX70 ++ wsX60 ++ wsX20 ++ wsX10 ++ wsX30 ++ wsJx000600 ++ ([] : List Cond)
abbrev vwCl : List vw_C := [(RJx00060, TJx00060, 6), (RX0, TX0, 3), (RX1, TX1, 4), (RX2, TX2, 4), (RX3, TX3, 2), (RX4, TX4, 5), (RX6, TX6, 7), (RX7, TX7, 3), (RX8, TX8, 9), (RX9, TX9, 32)]
end
section
theorem dX0_init_0 : decode cX0_init 0 = .ok (.aload_n 0, 1) := by decide +kernel
theorem dX0_init_1 : decode cX0_init 1 = .ok (.invokespecial 5, 3) := by decide +kernel
theorem dX0_init_4 : decode cX0_init 4 = .ok (.aload_n 0, 1) := by decide +kernel
theorem dX0_init_5 : decode cX0_init 5 = .ok (.bipush 64, 2) := by decide +kernel
theorem dX0_init_7 : decode cX0_init 7 = .ok (.newarray .int, 2) := by decide +kernel
theorem dX0_init_9 : decode cX0_init 9 = .ok (.putfield 11, 3) := by decide +kernel
theorem dX0_init_12 : decode cX0_init 12 = .ok (.aload_n 0, 1) := by decide +kernel
theorem dX0_init_13 : decode cX0_init 13 = .ok (.bipush 14, 2) := by decide +kernel
theorem dX0_init_15 : decode cX0_init 15 = .ok (.newarray .int, 2) := by decide +kernel
theorem dX0_init_17 : decode cX0_init 17 = .ok (.putfield 15, 3) := by decide +kernel
theorem dX0_init_20 : decode cX0_init 20 = .ok (.aload_n 0, 1) := by decide +kernel
theorem dX0_init_21 : decode cX0_init 21 = .ok (.iconst 0, 1) := by decide +kernel
theorem dX0_init_22 : decode cX0_init 22 = .ok (.putfield 18, 3) := by decide +kernel
theorem dX0_init_25 : decode cX0_init 25 = .ok (.return_, 1) := by decide +kernel
set_option maxRecDepth 20000 in
theorem ggX0_setWidth_X8_isIndex : GoodIn wsX0_setWidth wsX8_isIndex := goodIn_r _ [4] (by decide +kernel) (by decide +kernel)
set_option maxRecDepth 20000 in
theorem gX0_setWidth_X8_isIndex_n22 : GoodIn wsX0_setWidth (wsX8_isIndex) := ggX0_setWidth_X8_isIndex
theorem dX0_setWidth_0 : decode cX0_setWidth 0 = .ok (.iload_n 1, 1) := by decide +kernel
theorem dX0_setWidth_1 : decode cX0_setWidth 1 = .ok (.bipush 64, 2) := by decide +kernel
theorem dX0_setWidth_3 : decode cX0_setWidth 3 = .ok (.invokestatic 22, 3) := by decide +kernel
theorem dX0_setWidth_6 : decode cX0_setWidth 6 = .ok (.ifCond .eq 14, 3) := by decide +kernel
theorem dX0_setWidth_9 : decode cX0_setWidth 9 = .ok (.iload_n 2, 1) := by decide +kernel
theorem dX0_setWidth_10 : decode cX0_setWidth 10 = .ok (.ifCond .lt 10, 3) := by decide +kernel
theorem dX0_setWidth_13 : decode cX0_setWidth 13 = .ok (.iload_n 2, 1) := by decide +kernel
theorem dX0_setWidth_14 : decode cX0_setWidth 14 = .ok (.sipush 1000, 3) := by decide +kernel
theorem dX0_setWidth_17 : decode cX0_setWidth 17 = .ok (.if_icmp .le 5, 3) := by decide +kernel
theorem dX0_setWidth_20 : decode cX0_setWidth 20 = .ok (.iconst 0, 1) := by decide +kernel
theorem dX0_setWidth_21 : decode cX0_setWidth 21 = .ok (.ireturn, 1) := by decide +kernel
theorem dX0_setWidth_22 : decode cX0_setWidth 22 = .ok (.aload_n 0, 1) := by decide +kernel
theorem dX0_setWidth_23 : decode cX0_setWidth 23 = .ok (.getfield 11, 3) := by decide +kernel
theorem dX0_setWidth_26 : decode cX0_setWidth 26 = .ok (.iload_n 1, 1) := by decide +kernel
theorem dX0_setWidth_27 : decode cX0_setWidth 27 = .ok (.iload_n 2, 1) := by decide +kernel
theorem dX0_setWidth_28 : decode cX0_setWidth 28 = .ok (.iastore, 1) := by decide +kernel
theorem dX0_setWidth_29 : decode cX0_setWidth 29 = .ok (.iconst 1, 1) := by decide +kernel
theorem dX0_setWidth_30 : decode cX0_setWidth 30 = .ok (.ireturn, 1) := by decide +kernel
set_option maxRecDepth 20000 in
theorem ggX0_scan_X0_rowLength : GoodIn wsX0_scan wsX0_rowLength := goodIn_r _ [6, 7, 33, 34, 35] (by decide +kernel) (by decide +kernel)
set_option maxRecDepth 20000 in
theorem gX0_scan_X0_rowLength : GoodIn wsX0_scan (wsV RX0 26 RX0 yX0_rowLength wsX0_rowLength) := goodIn_app (goodIn_of _ (by decide +kernel)) ggX0_scan_X0_rowLength
set_option maxRecDepth 20000 in
theorem ggX0_scan_X0_decode : GoodIn wsX0_scan wsX0_decode := goodIn_r _ [11, 12, 1, 13, 14, 15, 5, 16, 17, 18, 19, 20, 7, 21, 22, 23, 24, 25, 26, 27, 28, 29, 30, 31, 32, 33, 34, 35] (by decide +kernel) (by decide +kernel)
set_option maxRecDepth 20000 in
theorem gX0_scan_X0_decode : GoodIn wsX0_scan (wsV RX0 30 RX0 yX0_decode wsX0_decode) := goodIn_app (goodIn_of _ (by decide +kernel)) ggX0_scan_X0_decode
theorem dX0_scan_0 : decode cX0_scan 0 = .ok (.aload_n 0, 1) := by decide +kernel
theorem dX0_scan_1 : decode cX0_scan 1 = .ok (.invokevirtual 26, 3) := by decide +kernel
theorem dX0_scan_4 : decode cX0_scan 4 = .ok (.istore_n 2, 1) := by decide +kernel
theorem dX0_scan_5 : decode cX0_scan 5 = .ok (.aload_n 0, 1) := by decide +kernel
theorem dX0_scan_6 : decode cX0_scan 6 = .ok (.iload_n 2, 1) := by decide +kernel
theorem dX0_scan_7 : decode cX0_scan 7 = .ok (.iload_n 1, 1) := by decide +kernel
theorem dX0_scan_8 : decode cX0_scan 8 = .ok (.invokevirtual 30, 3) := by decide +kernel
theorem dX0_scan_11 : decode cX0_scan 11 = .ok (.ifCond .ne 20, 3) := by decide +kernel
theorem dX0_scan_14 : decode cX0_scan 14 = .ok (.aload_n 0, 1) := by decide +kernel
theorem dX0_scan_15 : decode cX0_scan 15 = .ok (.iload_n 2, 1) := by decide +kernel
theorem dX0_scan_16 : decode cX0_scan 16 = .ok (.iload_n 1, 1) := by decide +kernel
theorem dX0_scan_17 : decode cX0_scan 17 = .ok (.ifCond .ne 7, 3) := by decide +kernel
theorem dX0_scan_20 : decode cX0_scan 20 = .ok (.iconst 1, 1) := by decide +kernel
theorem dX0_scan_21 : decode cX0_scan 21 = .ok (.goto 4, 3) := by decide +kernel
theorem dX0_scan_24 : decode cX0_scan 24 = .ok (.iconst 0, 1) := by decide +kernel
theorem dX0_scan_25 : decode cX0_scan 25 = .ok (.invokevirtual 30, 3) := by decide +kernel
theorem dX0_scan_28 : decode cX0_scan 28 = .ok (.ifCond .eq 8, 3) := by decide +kernel
theorem dX0_scan_31 : decode cX0_scan 31 = .ok (.aload_n 0, 1) := by decide +kernel
theorem dX0_scan_32 : decode cX0_scan 32 = .ok (.getfield 18, 3) := by decide +kernel
theorem dX0_scan_35 : decode cX0_scan 35 = .ok (.ireturn, 1) := by decide +kernel
theorem dX0_scan_36 : decode cX0_scan 36 = .ok (.aload_n 0, 1) := by decide +kernel
theorem dX0_scan_37 : decode cX0_scan 37 = .ok (.iconst 0, 1) := by decide +kernel
theorem dX0_scan_38 : decode cX0_scan 38 = .ok (.putfield 18, 3) := by decide +kernel
theorem dX0_scan_41 : decode cX0_scan 41 = .ok (.iconst (-1), 1) := by decide +kernel
theorem dX0_scan_42 : decode cX0_scan 42 = .ok (.ireturn, 1) := by decide +kernel
set_option maxRecDepth 20000 in
theorem ggX0_digitAt_X8_isIndex : GoodIn wsX0_digitAt wsX8_isIndex := goodIn_r _ [5] (by decide +kernel) (by decide +kernel)
set_option maxRecDepth 20000 in
theorem gX0_digitAt_X8_isIndex_n22 : GoodIn wsX0_digitAt (wsX8_isIndex) := ggX0_digitAt_X8_isIndex
theorem dX0_digitAt_0 : decode cX0_digitAt 0 = .ok (.iload_n 1, 1) := by decide +kernel
theorem dX0_digitAt_1 : decode cX0_digitAt 1 = .ok (.aload_n 0, 1) := by decide +kernel
theorem dX0_digitAt_2 : decode cX0_digitAt 2 = .ok (.getfield 18, 3) := by decide +kernel
theorem dX0_digitAt_5 : decode cX0_digitAt 5 = .ok (.invokestatic 22, 3) := by decide +kernel
theorem dX0_digitAt_8 : decode cX0_digitAt 8 = .ok (.ifCond .eq 12, 3) := by decide +kernel
theorem dX0_digitAt_11 : decode cX0_digitAt 11 = .ok (.aload_n 0, 1) := by decide +kernel
theorem dX0_digitAt_12 : decode cX0_digitAt 12 = .ok (.getfield 15, 3) := by decide +kernel
theorem dX0_digitAt_15 : decode cX0_digitAt 15 = .ok (.iload_n 1, 1) := by decide +kernel
theorem dX0_digitAt_16 : decode cX0_digitAt 16 = .ok (.iaload, 1) := by decide +kernel
theorem dX0_digitAt_17 : decode cX0_digitAt 17 = .ok (.goto 4, 3) := by decide +kernel
theorem dX0_digitAt_20 : decode cX0_digitAt 20 = .ok (.iconst (-1), 1) := by decide +kernel
theorem dX0_digitAt_21 : decode cX0_digitAt 21 = .ok (.ireturn, 1) := by decide +kernel
theorem dX0_rowLength_0 : decode cX0_rowLength 0 = .ok (.iconst 0, 1) := by decide +kernel
theorem dX0_rowLength_1 : decode cX0_rowLength 1 = .ok (.istore_n 1, 1) := by decide +kernel
theorem dX0_rowLength_2 : decode cX0_rowLength 2 = .ok (.iload_n 1, 1) := by decide +kernel
theorem dX0_rowLength_3 : decode cX0_rowLength 3 = .ok (.bipush 64, 2) := by decide +kernel
theorem dX0_rowLength_5 : decode cX0_rowLength 5 = .ok (.if_icmp .ge 18, 3) := by decide +kernel
theorem dX0_rowLength_8 : decode cX0_rowLength 8 = .ok (.aload_n 0, 1) := by decide +kernel
theorem dX0_rowLength_9 : decode cX0_rowLength 9 = .ok (.getfield 11, 3) := by decide +kernel
theorem dX0_rowLength_12 : decode cX0_rowLength 12 = .ok (.iload_n 1, 1) := by decide +kernel
theorem dX0_rowLength_13 : decode cX0_rowLength 13 = .ok (.iaload, 1) := by decide +kernel
theorem dX0_rowLength_14 : decode cX0_rowLength 14 = .ok (.ifCond .eq 9, 3) := by decide +kernel
theorem dX0_rowLength_17 : decode cX0_rowLength 17 = .ok (.iinc 1 1, 3) := by decide +kernel
theorem dX0_rowLength_20 : decode cX0_rowLength 20 = .ok (.goto (-18), 3) := by decide +kernel
theorem dX0_rowLength_23 : decode cX0_rowLength 23 = .ok (.iload_n 1, 1) := by decide +kernel
theorem dX0_rowLength_24 : decode cX0_rowLength 24 = .ok (.ireturn, 1) := by decide +kernel
set_option maxRecDepth 20000 in
theorem ggX0_decode_X0_isEdge : GoodIn wsX0_decode wsX0_isEdge := goodIn_r _ [7, 8, 9, 10, 6, 11, 12, 13, 14, 15, 25, 26, 27] (by decide +kernel) (by decide +kernel)
set_option maxRecDepth 20000 in
theorem gX0_decode_X0_isEdge : GoodIn wsX0_decode (wsV RX0 34 RX0 yX0_isEdge wsX0_isEdge) := goodIn_app (goodIn_of _ (by decide +kernel)) ggX0_decode_X0_isEdge
set_option maxRecDepth 20000 in
theorem ggX0_decode_X0_digitOfGroup : GoodIn wsX0_decode wsX0_digitOfGroup := goodIn_r _ [19, 20, 21, 22, 6, 23, 24, 8, 9, 10, 11, 12, 13, 14, 15, 25, 26, 27] (by decide +kernel) (by decide +kernel)
set_option maxRecDepth 20000 in
theorem gX0_decode_X0_digitOfGroup : GoodIn wsX0_decode (wsV RX0 38 RX0 yX0_digitOfGroup wsX0_digitOfGroup) := goodIn_app (goodIn_of _ (by decide +kernel)) ggX0_decode_X0_digitOfGroup
theorem dX0_decode_0 : decode cX0_decode 0 = .ok (.iload_n 1, 1) := by decide +kernel
theorem dX0_decode_1 : decode cX0_decode 1 = .ok (.bipush 6, 2) := by decide +kernel
theorem dX0_decode_3 : decode cX0_decode 3 = .ok (.isub, 1) := by decide +kernel
theorem dX0_decode_4 : decode cX0_decode 4 = .ok (.istore_n 3, 1) := by decide +kernel
theorem dX0_decode_5 : decode cX0_decode 5 = .ok (.iload_n 3, 1) := by decide +kernel
theorem dX0_decode_6 : decode cX0_decode 6 = .ok (.iconst 4, 1) := by decide +kernel
theorem dX0_decode_7 : decode cX0_decode 7 = .ok (.if_icmp .lt 27, 3) := by decide +kernel
theorem dX0_decode_10 : decode cX0_decode 10 = .ok (.iload_n 3, 1) := by decide +kernel
theorem dX0_decode_11 : decode cX0_decode 11 = .ok (.iconst 4, 1) := by decide +kernel
theorem dX0_decode_12 : decode cX0_decode 12 = .ok (.irem, 1) := by decide +kernel
theorem dX0_decode_13 : decode cX0_decode 13 = .ok (.ifCond .ne 21, 3) := by decide +kernel
theorem dX0_decode_16 : decode cX0_decode 16 = .ok (.aload_n 0, 1) := by decide +kernel
theorem dX0_decode_17 : decode cX0_decode 17 = .ok (.iconst 0, 1) := by decide +kernel
theorem dX0_decode_18 : decode cX0_decode 18 = .ok (.invokevirtual 34, 3) := by decide +kernel
theorem dX0_decode_21 : decode cX0_decode 21 = .ok (.ifCond .eq 13, 3) := by decide +kernel
theorem dX0_decode_24 : decode cX0_decode 24 = .ok (.aload_n 0, 1) := by decide +kernel
theorem dX0_decode_25 : decode cX0_decode 25 = .ok (.iload_n 1, 1) := by decide +kernel
theorem dX0_decode_26 : decode cX0_decode 26 = .ok (.iconst 3, 1) := by decide +kernel
theorem dX0_decode_27 : decode cX0_decode 27 = .ok (.isub, 1) := by decide +kernel
theorem dX0_decode_28 : decode cX0_decode 28 = .ok (.invokevirtual 34, 3) := by decide +kernel
theorem dX0_decode_31 : decode cX0_decode 31 = .ok (.ifCond .ne 5, 3) := by decide +kernel
theorem dX0_decode_34 : decode cX0_decode 34 = .ok (.iconst 0, 1) := by decide +kernel
theorem dX0_decode_35 : decode cX0_decode 35 = .ok (.ireturn, 1) := by decide +kernel
theorem dX0_decode_36 : decode cX0_decode 36 = .ok (.iload_n 3, 1) := by decide +kernel
theorem dX0_decode_37 : decode cX0_decode 37 = .ok (.iconst 4, 1) := by decide +kernel
theorem dX0_decode_38 : decode cX0_decode 38 = .ok (.idiv, 1) := by decide +kernel
theorem dX0_decode_39 : decode cX0_decode 39 = .ok (.istore 4, 2) := by decide +kernel
theorem dX0_decode_41 : decode cX0_decode 41 = .ok (.iconst 0, 1) := by decide +kernel
theorem dX0_decode_42 : decode cX0_decode 42 = .ok (.istore 5, 2) := by decide +kernel
theorem dX0_decode_44 : decode cX0_decode 44 = .ok (.iload 5, 2) := by decide +kernel
theorem dX0_decode_46 : decode cX0_decode 46 = .ok (.iload 4, 2) := by decide +kernel
theorem dX0_decode_48 : decode cX0_decode 48 = .ok (.if_icmp .ge 47, 3) := by decide +kernel
theorem dX0_decode_51 : decode cX0_decode 51 = .ok (.iload 5, 2) := by decide +kernel
theorem dX0_decode_53 : decode cX0_decode 53 = .ok (.bipush 14, 2) := by decide +kernel
theorem dX0_decode_55 : decode cX0_decode 55 = .ok (.if_icmp .ge 40, 3) := by decide +kernel
theorem dX0_decode_58 : decode cX0_decode 58 = .ok (.aload_n 0, 1) := by decide +kernel
theorem dX0_decode_59 : decode cX0_decode 59 = .ok (.iconst 3, 1) := by decide +kernel
theorem dX0_decode_60 : decode cX0_decode 60 = .ok (.iload 5, 2) := by decide +kernel
theorem dX0_decode_62 : decode cX0_decode 62 = .ok (.iconst 4, 1) := by decide +kernel
theorem dX0_decode_63 : decode cX0_decode 63 = .ok (.imul, 1) := by decide +kernel
theorem dX0_decode_64 : decode cX0_decode 64 = .ok (.iadd, 1) := by decide +kernel
theorem dX0_decode_65 : decode cX0_decode 65 = .ok (.iload_n 1, 1) := by decide +kernel
theorem dX0_decode_66 : decode cX0_decode 66 = .ok (.iload_n 2, 1) := by decide +kernel
theorem dX0_decode_67 : decode cX0_decode 67 = .ok (.invokevirtual 38, 3) := by decide +kernel
theorem dX0_decode_70 : decode cX0_decode 70 = .ok (.istore 6, 2) := by decide +kernel
theorem dX0_decode_72 : decode cX0_decode 72 = .ok (.iload 6, 2) := by decide +kernel
theorem dX0_decode_74 : decode cX0_decode 74 = .ok (.iconst (-1), 1) := by decide +kernel
theorem dX0_decode_75 : decode cX0_decode 75 = .ok (.if_icmp .ne 5, 3) := by decide +kernel
theorem dX0_decode_78 : decode cX0_decode 78 = .ok (.iconst 0, 1) := by decide +kernel
theorem dX0_decode_79 : decode cX0_decode 79 = .ok (.ireturn, 1) := by decide +kernel
theorem dX0_decode_80 : decode cX0_decode 80 = .ok (.aload_n 0, 1) := by decide +kernel
theorem dX0_decode_81 : decode cX0_decode 81 = .ok (.getfield 15, 3) := by decide +kernel
theorem dX0_decode_84 : decode cX0_decode 84 = .ok (.iload 5, 2) := by decide +kernel
theorem dX0_decode_86 : decode cX0_decode 86 = .ok (.iload 6, 2) := by decide +kernel
theorem dX0_decode_88 : decode cX0_decode 88 = .ok (.iastore, 1) := by decide +kernel
theorem dX0_decode_89 : decode cX0_decode 89 = .ok (.iinc 5 1, 3) := by decide +kernel
theorem dX0_decode_92 : decode cX0_decode 92 = .ok (.goto (-48), 3) := by decide +kernel
theorem dX0_decode_95 : decode cX0_decode 95 = .ok (.aload_n 0, 1) := by decide +kernel
theorem dX0_decode_96 : decode cX0_decode 96 = .ok (.iload 4, 2) := by decide +kernel
theorem dX0_decode_98 : decode cX0_decode 98 = .ok (.putfield 18, 3) := by decide +kernel
theorem dX0_decode_101 : decode cX0_decode 101 = .ok (.iconst 1, 1) := by decide +kernel
theorem dX0_decode_102 : decode cX0_decode 102 = .ok (.ireturn, 1) := by decide +kernel
set_option maxRecDepth 20000 in
theorem ggX0_isEdge_X0_widthAt : GoodIn wsX0_isEdge wsX0_widthAt := goodIn_r _ [5, 6, 7, 8, 9, 10, 11, 12] (by decide +kernel) (by decide +kernel)
set_option maxRecDepth 20000 in
theorem gX0_isEdge_X0_widthAt : GoodIn wsX0_isEdge (wsV RX0 42 RX0 yX0_widthAt wsX0_widthAt) := goodIn_app (goodIn_of _ (by decide +kernel)) ggX0_isEdge_X0_widthAt
theorem dX0_isEdge_0 : decode cX0_isEdge 0 = .ok (.aload_n 0, 1) := by decide +kernel
theorem dX0_isEdge_1 : decode cX0_isEdge 1 = .ok (.iload_n 1, 1) := by decide +kernel
theorem dX0_isEdge_2 : decode cX0_isEdge 2 = .ok (.invokevirtual 42, 3) := by decide +kernel
theorem dX0_isEdge_5 : decode cX0_isEdge 5 = .ok (.istore_n 2, 1) := by decide +kernel
theorem dX0_isEdge_6 : decode cX0_isEdge 6 = .ok (.iload_n 2, 1) := by decide +kernel
theorem dX0_isEdge_7 : decode cX0_isEdge 7 = .ok (.aload_n 0, 1) := by decide +kernel
theorem dX0_isEdge_8 : decode cX0_isEdge 8 = .ok (.iload_n 1, 1) := by decide +kernel
theorem dX0_isEdge_9 : decode cX0_isEdge 9 = .ok (.iconst 1, 1) := by decide +kernel
theorem dX0_isEdge_10 : decode cX0_isEdge 10 = .ok (.iadd, 1) := by decide +kernel
theorem dX0_isEdge_11 : decode cX0_isEdge 11 = .ok (.invokevirtual 42, 3) := by decide +kernel
theorem dX0_isEdge_14 : decode cX0_isEdge 14 = .ok (.if_icmp .ne 18, 3) := by decide +kernel
theorem dX0_isEdge_17 : decode cX0_isEdge 17 = .ok (.iload_n 2, 1) := by decide +kernel
theorem dX0_isEdge_18 : decode cX0_isEdge 18 = .ok (.aload_n 0, 1) := by decide +kernel
theorem dX0_isEdge_19 : decode cX0_isEdge 19 = .ok (.iload_n 1, 1) := by decide +kernel
theorem dX0_isEdge_20 : decode cX0_isEdge 20 = .ok (.iconst 2, 1) := by decide +kernel
theorem dX0_isEdge_21 : decode cX0_isEdge 21 = .ok (.iadd, 1) := by decide +kernel
theorem dX0_isEdge_22 : decode cX0_isEdge 22 = .ok (.invokevirtual 42, 3) := by decide +kernel
theorem dX0_isEdge_25 : decode cX0_isEdge 25 = .ok (.if_icmp .ne 7, 3) := by decide +kernel
theorem dX0_isEdge_28 : decode cX0_isEdge 28 = .ok (.iconst 1, 1) := by decide +kernel
theorem dX0_isEdge_29 : decode cX0_isEdge 29 = .ok (.goto 4, 3) := by decide +kernel
theorem dX0_isEdge_32 : decode cX0_isEdge 32 = .ok (.iconst 0, 1) := by decide +kernel
theorem dX0_isEdge_33 : decode cX0_isEdge 33 = .ok (.ireturn, 1) := by decide +kernel
set_option maxRecDepth 20000 in
theorem ggX0_digitOfGroup_X0_matches : GoodIn wsX0_digitOfGroup wsX0_matches := goodIn_r _ [5, 6, 7, 8, 9, 4, 10, 11, 12, 13, 14, 15, 16, 17] (by decide +kernel) (by decide +kernel)
set_option maxRecDepth 20000 in
theorem gX0_digitOfGroup_X0_matches : GoodIn wsX0_digitOfGroup (wsV RX0 46 RX0 yX0_matches wsX0_matches) := goodIn_app (goodIn_of _ (by decide +kernel)) ggX0_digitOfGroup_X0_matches
theorem dX0_digitOfGroup_0 : decode cX0_digitOfGroup 0 = .ok (.iconst 0, 1) := by decide +kernel
theorem dX0_digitOfGroup_1 : decode cX0_digitOfGroup 1 = .ok (.istore 4, 2) := by decide +kernel
theorem dX0_digitOfGroup_3 : decode cX0_digitOfGroup 3 = .ok (.iload 4, 2) := by decide +kernel
theorem dX0_digitOfGroup_5 : decode cX0_digitOfGroup 5 = .ok (.bipush 10, 2) := by decide +kernel
theorem dX0_digitOfGroup_7 : decode cX0_digitOfGroup 7 = .ok (.if_icmp .ge 24, 3) := by decide +kernel
theorem dX0_digitOfGroup_10 : decode cX0_digitOfGroup 10 = .ok (.aload_n 0, 1) := by decide +kernel
theorem dX0_digitOfGroup_11 : decode cX0_digitOfGroup 11 = .ok (.iload 4, 2) := by decide +kernel
theorem dX0_digitOfGroup_13 : decode cX0_digitOfGroup 13 = .ok (.iload_n 1, 1) := by decide +kernel
theorem dX0_digitOfGroup_14 : decode cX0_digitOfGroup 14 = .ok (.iload_n 2, 1) := by decide +kernel
theorem dX0_digitOfGroup_15 : decode cX0_digitOfGroup 15 = .ok (.iload_n 3, 1) := by decide +kernel
theorem dX0_digitOfGroup_16 : decode cX0_digitOfGroup 16 = .ok (.invokevirtual 46, 3) := by decide +kernel
theorem dX0_digitOfGroup_19 : decode cX0_digitOfGroup 19 = .ok (.ifCond .eq 6, 3) := by decide +kernel
theorem dX0_digitOfGroup_22 : decode cX0_digitOfGroup 22 = .ok (.iload 4, 2) := by decide +kernel
theorem dX0_digitOfGroup_24 : decode cX0_digitOfGroup 24 = .ok (.ireturn, 1) := by decide +kernel
theorem dX0_digitOfGroup_25 : decode cX0_digitOfGroup 25 = .ok (.iinc 4 1, 3) := by decide +kernel
theorem dX0_digitOfGroup_28 : decode cX0_digitOfGroup 28 = .ok (.goto (-25), 3) := by decide +kernel
theorem dX0_digitOfGroup_31 : decode cX0_digitOfGroup 31 = .ok (.iconst (-1), 1) := by decide +kernel
theorem dX0_digitOfGroup_32 : decode cX0_digitOfGroup 32 = .ok (.ireturn, 1) := by decide +kernel
set_option maxRecDepth 20000 in
theorem ggX0_matches_X0_widthAt : GoodIn wsX0_matches wsX0_widthAt := goodIn_r _ [6, 7, 8, 9, 10, 11, 12, 13] (by decide +kernel) (by decide +kernel)
set_option maxRecDepth 20000 in
theorem gX0_matches_X0_widthAt : GoodIn wsX0_matches (wsV RX0 42 RX0 yX0_widthAt wsX0_widthAt) := goodIn_app (goodIn_of _ (by decide +kernel)) ggX0_matches_X0_widthAt
theorem dX0_matches_0 : decode cX0_matches 0 = .ok (.iload 4, 2) := by decide +kernel
theorem dX0_matches_2 : decode cX0_matches 2 = .ok (.ifCond .eq 7, 3) := by decide +kernel
theorem dX0_matches_5 : decode cX0_matches 5 = .ok (.iconst (-1), 1) := by decide +kernel
theorem dX0_matches_6 : decode cX0_matches 6 = .ok (.goto 4, 3) := by decide +kernel
theorem dX0_matches_9 : decode cX0_matches 9 = .ok (.iconst 1, 1) := by decide +kernel
theorem dX0_matches_10 : decode cX0_matches 10 = .ok (.istore 5, 2) := by decide +kernel
theorem dX0_matches_12 : decode cX0_matches 12 = .ok (.iload 4, 2) := by decide +kernel
theorem dX0_matches_14 : decode cX0_matches 14 = .ok (.ifCond .eq 11, 3) := by decide +kernel
theorem dX0_matches_17 : decode cX0_matches 17 = .ok (.iload_n 3, 1) := by decide +kernel
theorem dX0_matches_18 : decode cX0_matches 18 = .ok (.iconst 1, 1) := by decide +kernel
theorem dX0_matches_19 : decode cX0_matches 19 = .ok (.isub, 1) := by decide +kernel
theorem dX0_matches_20 : decode cX0_matches 20 = .ok (.iload_n 2, 1) := by decide +kernel
theorem dX0_matches_21 : decode cX0_matches 21 = .ok (.isub, 1) := by decide +kernel
theorem dX0_matches_22 : decode cX0_matches 22 = .ok (.goto 4, 3) := by decide +kernel
theorem dX0_matches_25 : decode cX0_matches 25 = .ok (.iload_n 2, 1) := by decide +kernel
theorem dX0_matches_26 : decode cX0_matches 26 = .ok (.istore 6, 2) := by decide +kernel
theorem dX0_matches_28 : decode cX0_matches 28 = .ok (.iconst 0, 1) := by decide +kernel
theorem dX0_matches_29 : decode cX0_matches 29 = .ok (.istore 7, 2) := by decide +kernel
theorem dX0_matches_31 : decode cX0_matches 31 = .ok (.iconst 0, 1) := by decide +kernel
theorem dX0_matches_32 : decode cX0_matches 32 = .ok (.istore 8, 2) := by decide +kernel
theorem dX0_matches_34 : decode cX0_matches 34 = .ok (.iload 8, 2) := by decide +kernel
theorem dX0_matches_36 : decode cX0_matches 36 = .ok (.iconst 4, 1) := by decide +kernel
theorem dX0_matches_37 : decode cX0_matches 37 = .ok (.if_icmp .ge 26, 3) := by decide +kernel
theorem dX0_matches_40 : decode cX0_matches 40 = .ok (.iload 7, 2) := by decide +kernel
theorem dX0_matches_42 : decode cX0_matches 42 = .ok (.aload_n 0, 1) := by decide +kernel
theorem dX0_matches_43 : decode cX0_matches 43 = .ok (.iload 6, 2) := by decide +kernel
theorem dX0_matches_45 : decode cX0_matches 45 = .ok (.iload 8, 2) := by decide +kernel
theorem dX0_matches_47 : decode cX0_matches 47 = .ok (.iload 5, 2) := by decide +kernel
theorem dX0_matches_49 : decode cX0_matches 49 = .ok (.imul, 1) := by decide +kernel
theorem dX0_matches_50 : decode cX0_matches 50 = .ok (.iadd, 1) := by decide +kernel
theorem dX0_matches_51 : decode cX0_matches 51 = .ok (.invokevirtual 42, 3) := by decide +kernel
theorem dX0_matches_54 : decode cX0_matches 54 = .ok (.iadd, 1) := by decide +kernel
theorem dX0_matches_55 : decode cX0_matches 55 = .ok (.istore 7, 2) := by decide +kernel
theorem dX0_matches_57 : decode cX0_matches 57 = .ok (.iinc 8 1, 3) := by decide +kernel
theorem dX0_matches_60 : decode cX0_matches 60 = .ok (.goto (-26), 3) := by decide +kernel
theorem dX0_matches_63 : decode cX0_matches 63 = .ok (.iconst 0, 1) := by decide +kernel
theorem dX0_matches_64 : decode cX0_matches 64 = .ok (.istore 8, 2) := by decide +kernel
theorem dX0_matches_66 : decode cX0_matches 66 = .ok (.iload 8, 2) := by decide +kernel
theorem dX0_matches_68 : decode cX0_matches 68 = .ok (.iconst 4, 1) := by decide +kernel
theorem dX0_matches_69 : decode cX0_matches 69 = .ok (.if_icmp .ge 42, 3) := by decide +kernel
theorem dX0_matches_72 : decode cX0_matches 72 = .ok (.bipush 7, 2) := by decide +kernel
theorem dX0_matches_74 : decode cX0_matches 74 = .ok (.aload_n 0, 1) := by decide +kernel
theorem dX0_matches_75 : decode cX0_matches 75 = .ok (.iload 6, 2) := by decide +kernel
theorem dX0_matches_77 : decode cX0_matches 77 = .ok (.iload 8, 2) := by decide +kernel
theorem dX0_matches_79 : decode cX0_matches 79 = .ok (.iload 5, 2) := by decide +kernel
theorem dX0_matches_81 : decode cX0_matches 81 = .ok (.imul, 1) := by decide +kernel
theorem dX0_matches_82 : decode cX0_matches 82 = .ok (.iadd, 1) := by decide +kernel
theorem dX0_matches_83 : decode cX0_matches 83 = .ok (.invokevirtual 42, 3) := by decide +kernel
theorem dX0_matches_86 : decode cX0_matches 86 = .ok (.imul, 1) := by decide +kernel
theorem dX0_matches_87 : decode cX0_matches 87 = .ok (.iload 7, 2) := by decide +kernel
theorem dX0_matches_89 : decode cX0_matches 89 = .ok (.getstatic 50, 3) := by decide +kernel
theorem dX0_matches_92 : decode cX0_matches 92 = .ok (.iload_n 1, 1) := by decide +kernel
theorem dX0_matches_93 : decode cX0_matches 93 = .ok (.iconst 4, 1) := by decide +kernel
theorem dX0_matches_94 : decode cX0_matches 94 = .ok (.imul, 1) := by decide +kernel
theorem dX0_matches_95 : decode cX0_matches 95 = .ok (.iload 8, 2) := by decide +kernel
theorem dX0_matches_97 : decode cX0_matches 97 = .ok (.iadd, 1) := by decide +kernel
theorem dX0_matches_98 : decode cX0_matches 98 = .ok (.iaload, 1) := by decide +kernel
theorem dX0_matches_99 : decode cX0_matches 99 = .ok (.imul, 1) := by decide +kernel
theorem dX0_matches_100 : decode cX0_matches 100 = .ok (.if_icmp .eq 5, 3) := by decide +kernel
theorem dX0_matches_103 : decode cX0_matches 103 = .ok (.iconst 0, 1) := by decide +kernel
theorem dX0_matches_104 : decode cX0_matches 104 = .ok (.ireturn, 1) := by decide +kernel
theorem dX0_matches_105 : decode cX0_matches 105 = .ok (.iinc 8 1, 3) := by decide +kernel
theorem dX0_matches_108 : decode cX0_matches 108 = .ok (.goto (-42), 3) := by decide +kernel
theorem dX0_matches_111 : decode cX0_matches 111 = .ok (.iconst 1, 1) := by decide +kernel
theorem dX0_matches_112 : decode cX0_matches 112 = .ok (.ireturn, 1) := by decide +kernel
set_option maxRecDepth 20000 in
theorem ggX0_widthAt_X8_isIndex : GoodIn wsX0_widthAt wsX8_isIndex := goodIn_r _ [4] (by decide +kernel) (by decide +kernel)
set_option maxRecDepth 20000 in
theorem gX0_widthAt_X8_isIndex_n22 : GoodIn wsX0_widthAt (wsX8_isIndex) := ggX0_widthAt_X8_isIndex
theorem dX0_widthAt_0 : decode cX0_widthAt 0 = .ok (.iload_n 1, 1) := by decide +kernel
theorem dX0_widthAt_1 : decode cX0_widthAt 1 = .ok (.bipush 64, 2) := by decide +kernel
theorem dX0_widthAt_3 : decode cX0_widthAt 3 = .ok (.invokestatic 22, 3) := by decide +kernel
theorem dX0_widthAt_6 : decode cX0_widthAt 6 = .ok (.ifCond .eq 12, 3) := by decide +kernel
theorem dX0_widthAt_9 : decode cX0_widthAt 9 = .ok (.aload_n 0, 1) := by decide +kernel
theorem dX0_widthAt_10 : decode cX0_widthAt 10 = .ok (.getfield 11, 3) := by decide +kernel
theorem dX0_widthAt_13 : decode cX0_widthAt 13 = .ok (.iload_n 1, 1) := by decide +kernel
theorem dX0_widthAt_14 : decode cX0_widthAt 14 = .ok (.iaload, 1) := by decide +kernel
theorem dX0_widthAt_15 : decode cX0_widthAt 15 = .ok (.goto 4, 3) := by decide +kernel
theorem dX0_widthAt_18 : decode cX0_widthAt 18 = .ok (.iconst 0, 1) := by decide +kernel
theorem dX0_widthAt_19 : decode cX0_widthAt 19 = .ok (.ireturn, 1) := by decide +kernel
theorem dX1_init_0 : decode cX1_init 0 = .ok (.aload_n 0, 1) := by decide +kernel
theorem dX1_init_1 : decode cX1_init 1 = .ok (.invokespecial 3, 3) := by decide +kernel
theorem dX1_init_4 : decode cX1_init 4 = .ok (.aload_n 0, 1) := by decide +kernel
theorem dX1_init_5 : decode cX1_init 5 = .ok (.sipush 200, 3) := by decide +kernel
theorem dX1_init_8 : decode cX1_init 8 = .ok (.newarray .int, 2) := by decide +kernel
theorem dX1_init_10 : decode cX1_init 10 = .ok (.putfield 11, 3) := by decide +kernel
theorem dX1_init_13 : decode cX1_init 13 = .ok (.aload_n 0, 1) := by decide +kernel
theorem dX1_init_14 : decode cX1_init 14 = .ok (.sipush 200, 3) := by decide +kernel
theorem dX1_init_17 : decode cX1_init 17 = .ok (.newarray .boolean, 2) := by decide +kernel
theorem dX1_init_19 : decode cX1_init 19 = .ok (.putfield 17, 3) := by decide +kernel
theorem dX1_init_22 : decode cX1_init 22 = .ok (.aload_n 0, 1) := by decide +kernel
theorem dX1_init_23 : decode cX1_init 23 = .ok (.bipush 100, 2) := by decide +kernel
theorem dX1_init_25 : decode cX1_init 25 = .ok (.newarray .long, 2) := by decide +kernel
theorem dX1_init_27 : decode cX1_init 27 = .ok (.putfield 21, 3) := by decide +kernel
theorem dX1_init_30 : decode cX1_init 30 = .ok (.aload_n 0, 1) := by decide +kernel
theorem dX1_init_31 : decode cX1_init 31 = .ok (.iconst 0, 1) := by decide +kernel
theorem dX1_init_32 : decode cX1_init 32 = .ok (.putfield 25, 3) := by decide +kernel
theorem dX1_init_35 : decode cX1_init 35 = .ok (.return_, 1) := by decide +kernel
theorem dX1_print_0 : decode cX1_print 0 = .ok (.aload_n 0, 1) := by decide +kernel
theorem dX1_print_1 : decode cX1_print 1 = .ok (.getfield 25, 3) := by decide +kernel
theorem dX1_print_4 : decode cX1_print 4 = .ok (.sipush 200, 3) := by decide +kernel
theorem dX1_print_7 : decode cX1_print 7 = .ok (.if_icmp .lt 5, 3) := by decide +kernel
theorem dX1_print_10 : decode cX1_print 10 = .ok (.iconst (-1), 1) := by decide +kernel
theorem dX1_print_11 : decode cX1_print 11 = .ok (.ireturn, 1) := by decide +kernel
theorem dX1_print_12 : decode cX1_print 12 = .ok (.aload_n 0, 1) := by decide +kernel
theorem dX1_print_13 : decode cX1_print 13 = .ok (.getfield 25, 3) := by decide +kernel
theorem dX1_print_16 : decode cX1_print 16 = .ok (.istore_n 2, 1) := by decide +kernel
theorem dX1_print_17 : decode cX1_print 17 = .ok (.aload_n 0, 1) := by decide +kernel
theorem dX1_print_18 : decode cX1_print 18 = .ok (.getfield 11, 3) := by decide +kernel
theorem dX1_print_21 : decode cX1_print 21 = .ok (.iload_n 2, 1) := by decide +kernel
theorem dX1_print_22 : decode cX1_print 22 = .ok (.iload_n 1, 1) := by decide +kernel
theorem dX1_print_23 : decode cX1_print 23 = .ok (.iastore, 1) := by decide +kernel
theorem dX1_print_24 : decode cX1_print 24 = .ok (.aload_n 0, 1) := by decide +kernel
theorem dX1_print_25 : decode cX1_print 25 = .ok (.dup, 1) := by decide +kernel
theorem dX1_print_26 : decode cX1_print 26 = .ok (.getfield 25, 3) := by decide +kernel
theorem dX1_print_29 : decode cX1_print 29 = .ok (.iconst 1, 1) := by decide +kernel
theorem dX1_print_30 : decode cX1_print 30 = .ok (.iadd, 1) := by decide +kernel
theorem dX1_print_31 : decode cX1_print 31 = .ok (.putfield 25, 3) := by decide +kernel
theorem dX1_print_34 : decode cX1_print 34 = .ok (.iload_n 2, 1) := by decide +kernel
theorem dX1_print_35 : decode cX1_print 35 = .ok (.ireturn, 1) := by decide +kernel
set_option maxRecDepth 20000 in
theorem ggX1_redeemAt_X8_isIndex : GoodIn wsX1_redeemAt wsX8_isIndex := goodIn_r _ [7] (by decide +kernel) (by decide +kernel)
set_option maxRecDepth 20000 in
theorem gX1_redeemAt_X8_isIndex_n29 : GoodIn wsX1_redeemAt (wsX8_isIndex) := ggX1_redeemAt_X8_isIndex
theorem dX1_redeemAt_0 : decode cX1_redeemAt 0 = .ok (.iload_n 1, 1) := by decide +kernel
theorem dX1_redeemAt_1 : decode cX1_redeemAt 1 = .ok (.aload_n 0, 1) := by decide +kernel
theorem dX1_redeemAt_2 : decode cX1_redeemAt 2 = .ok (.getfield 25, 3) := by decide +kernel
theorem dX1_redeemAt_5 : decode cX1_redeemAt 5 = .ok (.invokestatic 29, 3) := by decide +kernel
theorem dX1_redeemAt_8 : decode cX1_redeemAt 8 = .ok (.ifCond .eq 21, 3) := by decide +kernel
theorem dX1_redeemAt_11 : decode cX1_redeemAt 11 = .ok (.iload_n 2, 1) := by decide +kernel
theorem dX1_redeemAt_12 : decode cX1_redeemAt 12 = .ok (.bipush 100, 2) := by decide +kernel
theorem dX1_redeemAt_14 : decode cX1_redeemAt 14 = .ok (.invokestatic 29, 3) := by decide +kernel
theorem dX1_redeemAt_17 : decode cX1_redeemAt 17 = .ok (.ifCond .eq 12, 3) := by decide +kernel
theorem dX1_redeemAt_20 : decode cX1_redeemAt 20 = .ok (.aload_n 0, 1) := by decide +kernel
theorem dX1_redeemAt_21 : decode cX1_redeemAt 21 = .ok (.getfield 17, 3) := by decide +kernel
theorem dX1_redeemAt_24 : decode cX1_redeemAt 24 = .ok (.iload_n 1, 1) := by decide +kernel
theorem dX1_redeemAt_25 : decode cX1_redeemAt 25 = .ok (.baload, 1) := by decide +kernel
theorem dX1_redeemAt_26 : decode cX1_redeemAt 26 = .ok (.ifCond .eq 5, 3) := by decide +kernel
theorem dX1_redeemAt_29 : decode cX1_redeemAt 29 = .ok (.iconst 0, 1) := by decide +kernel
theorem dX1_redeemAt_30 : decode cX1_redeemAt 30 = .ok (.ireturn, 1) := by decide +kernel
theorem dX1_redeemAt_31 : decode cX1_redeemAt 31 = .ok (.aload_n 0, 1) := by decide +kernel
theorem dX1_redeemAt_32 : decode cX1_redeemAt 32 = .ok (.getfield 17, 3) := by decide +kernel
theorem dX1_redeemAt_35 : decode cX1_redeemAt 35 = .ok (.iload_n 1, 1) := by decide +kernel
theorem dX1_redeemAt_36 : decode cX1_redeemAt 36 = .ok (.iconst 1, 1) := by decide +kernel
theorem dX1_redeemAt_37 : decode cX1_redeemAt 37 = .ok (.bastore, 1) := by decide +kernel
theorem dX1_redeemAt_38 : decode cX1_redeemAt 38 = .ok (.aload_n 0, 1) := by decide +kernel
theorem dX1_redeemAt_39 : decode cX1_redeemAt 39 = .ok (.getfield 21, 3) := by decide +kernel
theorem dX1_redeemAt_42 : decode cX1_redeemAt 42 = .ok (.iload_n 2, 1) := by decide +kernel
theorem dX1_redeemAt_43 : decode cX1_redeemAt 43 = .ok (.dup2, 1) := by decide +kernel
theorem dX1_redeemAt_44 : decode cX1_redeemAt 44 = .ok (.laload, 1) := by decide +kernel
theorem dX1_redeemAt_45 : decode cX1_redeemAt 45 = .ok (.aload_n 0, 1) := by decide +kernel
theorem dX1_redeemAt_46 : decode cX1_redeemAt 46 = .ok (.getfield 11, 3) := by decide +kernel
theorem dX1_redeemAt_49 : decode cX1_redeemAt 49 = .ok (.iload_n 1, 1) := by decide +kernel
theorem dX1_redeemAt_50 : decode cX1_redeemAt 50 = .ok (.iaload, 1) := by decide +kernel
theorem dX1_redeemAt_51 : decode cX1_redeemAt 51 = .ok (.i2l, 1) := by decide +kernel
theorem dX1_redeemAt_52 : decode cX1_redeemAt 52 = .ok (.ladd, 1) := by decide +kernel
theorem dX1_redeemAt_53 : decode cX1_redeemAt 53 = .ok (.lastore, 1) := by decide +kernel
theorem dX1_redeemAt_54 : decode cX1_redeemAt 54 = .ok (.iconst 1, 1) := by decide +kernel
theorem dX1_redeemAt_55 : decode cX1_redeemAt 55 = .ok (.ireturn, 1) := by decide +kernel
set_option maxRecDepth 20000 in
theorem ggX1_redeemedBy_X8_isIndex : GoodIn wsX1_redeemedBy wsX8_isIndex := goodIn_r _ [5] (by decide +kernel) (by decide +kernel)
set_option maxRecDepth 20000 in
theorem gX1_redeemedBy_X8_isIndex_n29 : GoodIn wsX1_redeemedBy (wsX8_isIndex) := ggX1_redeemedBy_X8_isIndex
theorem dX1_redeemedBy_0 : decode cX1_redeemedBy 0 = .ok (.iload_n 1, 1) := by decide +kernel
theorem dX1_redeemedBy_1 : decode cX1_redeemedBy 1 = .ok (.bipush 100, 2) := by decide +kernel
theorem dX1_redeemedBy_3 : decode cX1_redeemedBy 3 = .ok (.invokestatic 29, 3) := by decide +kernel
theorem dX1_redeemedBy_6 : decode cX1_redeemedBy 6 = .ok (.ifCond .eq 12, 3) := by decide +kernel
theorem dX1_redeemedBy_9 : decode cX1_redeemedBy 9 = .ok (.aload_n 0, 1) := by decide +kernel
theorem dX1_redeemedBy_10 : decode cX1_redeemedBy 10 = .ok (.getfield 21, 3) := by decide +kernel
theorem dX1_redeemedBy_13 : decode cX1_redeemedBy 13 = .ok (.iload_n 1, 1) := by decide +kernel
theorem dX1_redeemedBy_14 : decode cX1_redeemedBy 14 = .ok (.laload, 1) := by decide +kernel
theorem dX1_redeemedBy_15 : decode cX1_redeemedBy 15 = .ok (.goto 6, 3) := by decide +kernel
theorem dX1_redeemedBy_18 : decode cX1_redeemedBy 18 = .ok (.ldc2_w 33, 3) := by decide +kernel
theorem dX1_redeemedBy_21 : decode cX1_redeemedBy 21 = .ok (.lreturn, 1) := by decide +kernel
theorem dX2_init_0 : decode cX2_init 0 = .ok (.aload_n 0, 1) := by decide +kernel
theorem dX2_init_1 : decode cX2_init 1 = .ok (.invokespecial 3, 3) := by decide +kernel
theorem dX2_init_4 : decode cX2_init 4 = .ok (.aload_n 0, 1) := by decide +kernel
theorem dX2_init_5 : decode cX2_init 5 = .ok (.sipush 200, 3) := by decide +kernel
theorem dX2_init_8 : decode cX2_init 8 = .ok (.newarray .long, 2) := by decide +kernel
theorem dX2_init_10 : decode cX2_init 10 = .ok (.putfield 11, 3) := by decide +kernel
theorem dX2_init_13 : decode cX2_init 13 = .ok (.aload_n 0, 1) := by decide +kernel
theorem dX2_init_14 : decode cX2_init 14 = .ok (.sipush 200, 3) := by decide +kernel
theorem dX2_init_17 : decode cX2_init 17 = .ok (.newarray .int, 2) := by decide +kernel
theorem dX2_init_19 : decode cX2_init 19 = .ok (.putfield 17, 3) := by decide +kernel
theorem dX2_init_22 : decode cX2_init 22 = .ok (.aload_n 0, 1) := by decide +kernel
theorem dX2_init_23 : decode cX2_init 23 = .ok (.sipush 200, 3) := by decide +kernel
theorem dX2_init_26 : decode cX2_init 26 = .ok (.newarray .int, 2) := by decide +kernel
theorem dX2_init_28 : decode cX2_init 28 = .ok (.putfield 21, 3) := by decide +kernel
theorem dX2_init_31 : decode cX2_init 31 = .ok (.aload_n 0, 1) := by decide +kernel
theorem dX2_init_32 : decode cX2_init 32 = .ok (.iconst 0, 1) := by decide +kernel
theorem dX2_init_33 : decode cX2_init 33 = .ok (.putfield 24, 3) := by decide +kernel
theorem dX2_init_36 : decode cX2_init 36 = .ok (.return_, 1) := by decide +kernel
theorem dX2_size_0 : decode cX2_size 0 = .ok (.aload_n 0, 1) := by decide +kernel
theorem dX2_size_1 : decode cX2_size 1 = .ok (.getfield 24, 3) := by decide +kernel
theorem dX2_size_4 : decode cX2_size 4 = .ok (.ireturn, 1) := by decide +kernel
theorem dX2_insert_0 : decode cX2_insert 0 = .ok (.aload_n 0, 1) := by decide +kernel
theorem dX2_insert_1 : decode cX2_insert 1 = .ok (.getfield 24, 3) := by decide +kernel
theorem dX2_insert_4 : decode cX2_insert 4 = .ok (.sipush 200, 3) := by decide +kernel
theorem dX2_insert_7 : decode cX2_insert 7 = .ok (.if_icmp .ge 7, 3) := by decide +kernel
theorem dX2_insert_10 : decode cX2_insert 10 = .ok (.iload_n 1, 1) := by decide +kernel
theorem dX2_insert_11 : decode cX2_insert 11 = .ok (.ifCond .ge 4, 3) := by decide +kernel
theorem dX2_insert_14 : decode cX2_insert 14 = .ok (.return_, 1) := by decide +kernel
theorem dX2_insert_15 : decode cX2_insert 15 = .ok (.aload_n 0, 1) := by decide +kernel
theorem dX2_insert_16 : decode cX2_insert 16 = .ok (.getfield 24, 3) := by decide +kernel
theorem dX2_insert_19 : decode cX2_insert 19 = .ok (.istore 6, 2) := by decide +kernel
theorem dX2_insert_21 : decode cX2_insert 21 = .ok (.iload 6, 2) := by decide +kernel
theorem dX2_insert_23 : decode cX2_insert 23 = .ok (.iload_n 1, 1) := by decide +kernel
theorem dX2_insert_24 : decode cX2_insert 24 = .ok (.if_icmp .le 71, 3) := by decide +kernel
theorem dX2_insert_27 : decode cX2_insert 27 = .ok (.aload_n 0, 1) := by decide +kernel
theorem dX2_insert_28 : decode cX2_insert 28 = .ok (.getfield 11, 3) := by decide +kernel
theorem dX2_insert_31 : decode cX2_insert 31 = .ok (.iload 6, 2) := by decide +kernel
theorem dX2_insert_33 : decode cX2_insert 33 = .ok (.iconst 1, 1) := by decide +kernel
theorem dX2_insert_34 : decode cX2_insert 34 = .ok (.isub, 1) := by decide +kernel
theorem dX2_insert_35 : decode cX2_insert 35 = .ok (.laload, 1) := by decide +kernel
theorem dX2_insert_36 : decode cX2_insert 36 = .ok (.lload_n 2, 1) := by decide +kernel
theorem dX2_insert_37 : decode cX2_insert 37 = .ok (.lcmp, 1) := by decide +kernel
theorem dX2_insert_38 : decode cX2_insert 38 = .ok (.ifCond .le 57, 3) := by decide +kernel
theorem dX2_insert_41 : decode cX2_insert 41 = .ok (.aload_n 0, 1) := by decide +kernel
theorem dX2_insert_42 : decode cX2_insert 42 = .ok (.getfield 11, 3) := by decide +kernel
theorem dX2_insert_45 : decode cX2_insert 45 = .ok (.iload 6, 2) := by decide +kernel
theorem dX2_insert_47 : decode cX2_insert 47 = .ok (.aload_n 0, 1) := by decide +kernel
theorem dX2_insert_48 : decode cX2_insert 48 = .ok (.getfield 11, 3) := by decide +kernel
theorem dX2_insert_51 : decode cX2_insert 51 = .ok (.iload 6, 2) := by decide +kernel
theorem dX2_insert_53 : decode cX2_insert 53 = .ok (.iconst 1, 1) := by decide +kernel
theorem dX2_insert_54 : decode cX2_insert 54 = .ok (.isub, 1) := by decide +kernel
theorem dX2_insert_55 : decode cX2_insert 55 = .ok (.laload, 1) := by decide +kernel
theorem dX2_insert_56 : decode cX2_insert 56 = .ok (.lastore, 1) := by decide +kernel
theorem dX2_insert_57 : decode cX2_insert 57 = .ok (.aload_n 0, 1) := by decide +kernel
theorem dX2_insert_58 : decode cX2_insert 58 = .ok (.getfield 17, 3) := by decide +kernel
theorem dX2_insert_61 : decode cX2_insert 61 = .ok (.iload 6, 2) := by decide +kernel
theorem dX2_insert_63 : decode cX2_insert 63 = .ok (.aload_n 0, 1) := by decide +kernel
theorem dX2_insert_64 : decode cX2_insert 64 = .ok (.getfield 17, 3) := by decide +kernel
theorem dX2_insert_67 : decode cX2_insert 67 = .ok (.iload 6, 2) := by decide +kernel
theorem dX2_insert_69 : decode cX2_insert 69 = .ok (.iconst 1, 1) := by decide +kernel
theorem dX2_insert_70 : decode cX2_insert 70 = .ok (.isub, 1) := by decide +kernel
theorem dX2_insert_71 : decode cX2_insert 71 = .ok (.iaload, 1) := by decide +kernel
theorem dX2_insert_72 : decode cX2_insert 72 = .ok (.iastore, 1) := by decide +kernel
theorem dX2_insert_73 : decode cX2_insert 73 = .ok (.aload_n 0, 1) := by decide +kernel
theorem dX2_insert_74 : decode cX2_insert 74 = .ok (.getfield 21, 3) := by decide +kernel
theorem dX2_insert_77 : decode cX2_insert 77 = .ok (.iload 6, 2) := by decide +kernel
theorem dX2_insert_79 : decode cX2_insert 79 = .ok (.aload_n 0, 1) := by decide +kernel
theorem dX2_insert_80 : decode cX2_insert 80 = .ok (.getfield 21, 3) := by decide +kernel
theorem dX2_insert_83 : decode cX2_insert 83 = .ok (.iload 6, 2) := by decide +kernel
theorem dX2_insert_85 : decode cX2_insert 85 = .ok (.iconst 1, 1) := by decide +kernel
theorem dX2_insert_86 : decode cX2_insert 86 = .ok (.isub, 1) := by decide +kernel
theorem dX2_insert_87 : decode cX2_insert 87 = .ok (.iaload, 1) := by decide +kernel
theorem dX2_insert_88 : decode cX2_insert 88 = .ok (.iastore, 1) := by decide +kernel
theorem dX2_insert_89 : decode cX2_insert 89 = .ok (.iinc 6 (-1), 3) := by decide +kernel
theorem dX2_insert_92 : decode cX2_insert 92 = .ok (.goto (-71), 3) := by decide +kernel
theorem dX2_insert_95 : decode cX2_insert 95 = .ok (.aload_n 0, 1) := by decide +kernel
theorem dX2_insert_96 : decode cX2_insert 96 = .ok (.getfield 11, 3) := by decide +kernel
theorem dX2_insert_99 : decode cX2_insert 99 = .ok (.iload 6, 2) := by decide +kernel
theorem dX2_insert_101 : decode cX2_insert 101 = .ok (.lload_n 2, 1) := by decide +kernel
theorem dX2_insert_102 : decode cX2_insert 102 = .ok (.lastore, 1) := by decide +kernel
theorem dX2_insert_103 : decode cX2_insert 103 = .ok (.aload_n 0, 1) := by decide +kernel
theorem dX2_insert_104 : decode cX2_insert 104 = .ok (.getfield 17, 3) := by decide +kernel
theorem dX2_insert_107 : decode cX2_insert 107 = .ok (.iload 6, 2) := by decide +kernel
theorem dX2_insert_109 : decode cX2_insert 109 = .ok (.iload 4, 2) := by decide +kernel
theorem dX2_insert_111 : decode cX2_insert 111 = .ok (.iastore, 1) := by decide +kernel
theorem dX2_insert_112 : decode cX2_insert 112 = .ok (.aload_n 0, 1) := by decide +kernel
theorem dX2_insert_113 : decode cX2_insert 113 = .ok (.getfield 21, 3) := by decide +kernel
theorem dX2_insert_116 : decode cX2_insert 116 = .ok (.iload 6, 2) := by decide +kernel
theorem dX2_insert_118 : decode cX2_insert 118 = .ok (.iload 5, 2) := by decide +kernel
theorem dX2_insert_120 : decode cX2_insert 120 = .ok (.iastore, 1) := by decide +kernel
theorem dX2_insert_121 : decode cX2_insert 121 = .ok (.aload_n 0, 1) := by decide +kernel
theorem dX2_insert_122 : decode cX2_insert 122 = .ok (.dup, 1) := by decide +kernel
theorem dX2_insert_123 : decode cX2_insert 123 = .ok (.getfield 24, 3) := by decide +kernel
theorem dX2_insert_126 : decode cX2_insert 126 = .ok (.iconst 1, 1) := by decide +kernel
theorem dX2_insert_127 : decode cX2_insert 127 = .ok (.iadd, 1) := by decide +kernel
theorem dX2_insert_128 : decode cX2_insert 128 = .ok (.putfield 24, 3) := by decide +kernel
theorem dX2_insert_131 : decode cX2_insert 131 = .ok (.return_, 1) := by decide +kernel
set_option maxRecDepth 20000 in
theorem ggX2_part_X8_isIndex : GoodIn wsX2_part wsX8_isIndex := goodIn_r _ [7] (by decide +kernel) (by decide +kernel)
set_option maxRecDepth 20000 in
theorem gX2_part_X8_isIndex_n28 : GoodIn wsX2_part (wsX8_isIndex) := ggX2_part_X8_isIndex
set_option maxRecDepth 20000 in
theorem ggX2_part_X5_decimals : GoodIn wsX2_part wsX5_decimals := goodIn_r _ [11, 12] (by decide +kernel) (by decide +kernel)
set_option maxRecDepth 20000 in
theorem gX2_part_X5_decimals : GoodIn wsX2_part (va_wsS RX2 32 yX5_decimals wsX5_decimals) := goodIn_app (goodIn_of _ (by decide +kernel)) ggX2_part_X5_decimals
set_option maxRecDepth 20000 in
theorem ggX2_part_X5_decimalAt : GoodIn wsX2_part wsX5_decimalAt := goodIn_r _ [15, 12, 16, 9, 10, 11] (by decide +kernel) (by decide +kernel)
set_option maxRecDepth 20000 in
theorem gX2_part_X5_decimalAt : GoodIn wsX2_part (va_wsS RX2 38 yX5_decimalAt wsX5_decimalAt) := goodIn_app (goodIn_of _ (by decide +kernel)) ggX2_part_X5_decimalAt
theorem dX2_part_0 : decode cX2_part 0 = .ok (.iload_n 1, 1) := by decide +kernel
theorem dX2_part_1 : decode cX2_part 1 = .ok (.aload_n 0, 1) := by decide +kernel
theorem dX2_part_2 : decode cX2_part 2 = .ok (.getfield 24, 3) := by decide +kernel
theorem dX2_part_5 : decode cX2_part 5 = .ok (.invokestatic 28, 3) := by decide +kernel
theorem dX2_part_8 : decode cX2_part 8 = .ok (.ifCond .eq 7, 3) := by decide +kernel
theorem dX2_part_11 : decode cX2_part 11 = .ok (.iload_n 2, 1) := by decide +kernel
theorem dX2_part_12 : decode cX2_part 12 = .ok (.ifCond .ge 5, 3) := by decide +kernel
theorem dX2_part_15 : decode cX2_part 15 = .ok (.iconst (-1), 1) := by decide +kernel
theorem dX2_part_16 : decode cX2_part 16 = .ok (.ireturn, 1) := by decide +kernel
theorem dX2_part_17 : decode cX2_part 17 = .ok (.iload_n 2, 1) := by decide +kernel
theorem dX2_part_18 : decode cX2_part 18 = .ok (.tableswitch 50 0 2 #[26, 33, 40], 26) := by decide +kernel
theorem dX2_part_44 : decode cX2_part 44 = .ok (.aload_n 0, 1) := by decide +kernel
theorem dX2_part_45 : decode cX2_part 45 = .ok (.getfield 17, 3) := by decide +kernel
theorem dX2_part_48 : decode cX2_part 48 = .ok (.iload_n 1, 1) := by decide +kernel
theorem dX2_part_49 : decode cX2_part 49 = .ok (.iaload, 1) := by decide +kernel
theorem dX2_part_50 : decode cX2_part 50 = .ok (.ireturn, 1) := by decide +kernel
theorem dX2_part_51 : decode cX2_part 51 = .ok (.aload_n 0, 1) := by decide +kernel
theorem dX2_part_52 : decode cX2_part 52 = .ok (.getfield 21, 3) := by decide +kernel
theorem dX2_part_55 : decode cX2_part 55 = .ok (.iload_n 1, 1) := by decide +kernel
theorem dX2_part_56 : decode cX2_part 56 = .ok (.iaload, 1) := by decide +kernel
theorem dX2_part_57 : decode cX2_part 57 = .ok (.ireturn, 1) := by decide +kernel
theorem dX2_part_58 : decode cX2_part 58 = .ok (.aload_n 0, 1) := by decide +kernel
theorem dX2_part_59 : decode cX2_part 59 = .ok (.getfield 11, 3) := by decide +kernel
theorem dX2_part_62 : decode cX2_part 62 = .ok (.iload_n 1, 1) := by decide +kernel
theorem dX2_part_63 : decode cX2_part 63 = .ok (.laload, 1) := by decide +kernel
theorem dX2_part_64 : decode cX2_part 64 = .ok (.invokestatic 32, 3) := by decide +kernel
theorem dX2_part_67 : decode cX2_part 67 = .ok (.ireturn, 1) := by decide +kernel
theorem dX2_part_68 : decode cX2_part 68 = .ok (.aload_n 0, 1) := by decide +kernel
theorem dX2_part_69 : decode cX2_part 69 = .ok (.getfield 11, 3) := by decide +kernel
theorem dX2_part_72 : decode cX2_part 72 = .ok (.iload_n 1, 1) := by decide +kernel
theorem dX2_part_73 : decode cX2_part 73 = .ok (.laload, 1) := by decide +kernel
theorem dX2_part_74 : decode cX2_part 74 = .ok (.iload_n 2, 1) := by decide +kernel
theorem dX2_part_75 : decode cX2_part 75 = .ok (.iconst 3, 1) := by decide +kernel
theorem dX2_part_76 : decode cX2_part 76 = .ok (.isub, 1) := by decide +kernel
theorem dX2_part_77 : decode cX2_part 77 = .ok (.invokestatic 38, 3) := by decide +kernel
theorem dX2_part_80 : decode cX2_part 80 = .ok (.ireturn, 1) := by decide +kernel
theorem dX3_init_0 : decode cX3_init 0 = .ok (.aload_n 0, 1) := by decide +kernel
theorem dX3_init_1 : decode cX3_init 1 = .ok (.invokespecial 5, 3) := by decide +kernel
theorem dX3_init_4 : decode cX3_init 4 = .ok (.aload_n 0, 1) := by decide +kernel
theorem dX3_init_5 : decode cX3_init 5 = .ok (.sipush 170, 3) := by decide +kernel
theorem dX3_init_8 : decode cX3_init 8 = .ok (.newarray .int, 2) := by decide +kernel
theorem dX3_init_10 : decode cX3_init 10 = .ok (.putfield 11, 3) := by decide +kernel
theorem dX3_init_13 : decode cX3_init 13 = .ok (.aload_n 0, 1) := by decide +kernel
theorem dX3_init_14 : decode cX3_init 14 = .ok (.iconst 0, 1) := by decide +kernel
theorem dX3_init_15 : decode cX3_init 15 = .ok (.putfield 15, 3) := by decide +kernel
theorem dX3_init_18 : decode cX3_init 18 = .ok (.return_, 1) := by decide +kernel
theorem dX3_add_0 : decode cX3_add 0 = .ok (.aload_n 0, 1) := by decide +kernel
theorem dX3_add_1 : decode cX3_add 1 = .ok (.getfield 15, 3) := by decide +kernel
theorem dX3_add_4 : decode cX3_add 4 = .ok (.sipush 170, 3) := by decide +kernel
theorem dX3_add_7 : decode cX3_add 7 = .ok (.if_icmp .ge 23, 3) := by decide +kernel
theorem dX3_add_10 : decode cX3_add 10 = .ok (.aload_n 0, 1) := by decide +kernel
theorem dX3_add_11 : decode cX3_add 11 = .ok (.getfield 11, 3) := by decide +kernel
theorem dX3_add_14 : decode cX3_add 14 = .ok (.aload_n 0, 1) := by decide +kernel
theorem dX3_add_15 : decode cX3_add 15 = .ok (.getfield 15, 3) := by decide +kernel
theorem dX3_add_18 : decode cX3_add 18 = .ok (.iload_n 1, 1) := by decide +kernel
theorem dX3_add_19 : decode cX3_add 19 = .ok (.iastore, 1) := by decide +kernel
theorem dX3_add_20 : decode cX3_add 20 = .ok (.aload_n 0, 1) := by decide +kernel
theorem dX3_add_21 : decode cX3_add 21 = .ok (.dup, 1) := by decide +kernel
theorem dX3_add_22 : decode cX3_add 22 = .ok (.getfield 15, 3) := by decide +kernel
theorem dX3_add_25 : decode cX3_add 25 = .ok (.iconst 1, 1) := by decide +kernel
theorem dX3_add_26 : decode cX3_add 26 = .ok (.iadd, 1) := by decide +kernel
theorem dX3_add_27 : decode cX3_add 27 = .ok (.putfield 15, 3) := by decide +kernel
theorem dX3_add_30 : decode cX3_add 30 = .ok (.return_, 1) := by decide +kernel
set_option maxRecDepth 20000 in
theorem ggX3_machineOf_X8_isIndex : GoodIn wsX3_machineOf wsX8_isIndex := goodIn_r _ [5] (by decide +kernel) (by decide +kernel)
set_option maxRecDepth 20000 in
theorem gX3_machineOf_X8_isIndex_n19 : GoodIn wsX3_machineOf (wsX8_isIndex) := ggX3_machineOf_X8_isIndex
theorem dX3_machineOf_0 : decode cX3_machineOf 0 = .ok (.iload_n 1, 1) := by decide +kernel
theorem dX3_machineOf_1 : decode cX3_machineOf 1 = .ok (.aload_n 0, 1) := by decide +kernel
theorem dX3_machineOf_2 : decode cX3_machineOf 2 = .ok (.getfield 15, 3) := by decide +kernel
theorem dX3_machineOf_5 : decode cX3_machineOf 5 = .ok (.invokestatic 19, 3) := by decide +kernel
theorem dX3_machineOf_8 : decode cX3_machineOf 8 = .ok (.ifCond .eq 12, 3) := by decide +kernel
theorem dX3_machineOf_11 : decode cX3_machineOf 11 = .ok (.aload_n 0, 1) := by decide +kernel
theorem dX3_machineOf_12 : decode cX3_machineOf 12 = .ok (.getfield 11, 3) := by decide +kernel
theorem dX3_machineOf_15 : decode cX3_machineOf 15 = .ok (.iload_n 1, 1) := by decide +kernel
theorem dX3_machineOf_16 : decode cX3_machineOf 16 = .ok (.iaload, 1) := by decide +kernel
theorem dX3_machineOf_17 : decode cX3_machineOf 17 = .ok (.goto 4, 3) := by decide +kernel
theorem dX3_machineOf_20 : decode cX3_machineOf 20 = .ok (.iconst (-1), 1) := by decide +kernel
theorem dX3_machineOf_21 : decode cX3_machineOf 21 = .ok (.ireturn, 1) := by decide +kernel
theorem dX4_init_0 : decode cX4_init 0 = .ok (.aload_n 0, 1) := by decide +kernel
theorem dX4_init_1 : decode cX4_init 1 = .ok (.invokespecial 3, 3) := by decide +kernel
theorem dX4_init_4 : decode cX4_init 4 = .ok (.aload_n 0, 1) := by decide +kernel
theorem dX4_init_5 : decode cX4_init 5 = .ok (.bipush 6, 2) := by decide +kernel
theorem dX4_init_7 : decode cX4_init 7 = .ok (.newarray .boolean, 2) := by decide +kernel
theorem dX4_init_9 : decode cX4_init 9 = .ok (.putfield 11, 3) := by decide +kernel
theorem dX4_init_12 : decode cX4_init 12 = .ok (.aload_n 0, 1) := by decide +kernel
theorem dX4_init_13 : decode cX4_init 13 = .ok (.bipush 6, 2) := by decide +kernel
theorem dX4_init_15 : decode cX4_init 15 = .ok (.newarray .boolean, 2) := by decide +kernel
theorem dX4_init_17 : decode cX4_init 17 = .ok (.putfield 15, 3) := by decide +kernel
theorem dX4_init_20 : decode cX4_init 20 = .ok (.aload_n 0, 1) := by decide +kernel
theorem dX4_init_21 : decode cX4_init 21 = .ok (.bipush 6, 2) := by decide +kernel
theorem dX4_init_23 : decode cX4_init 23 = .ok (.newarray .int, 2) := by decide +kernel
theorem dX4_init_25 : decode cX4_init 25 = .ok (.putfield 18, 3) := by decide +kernel
theorem dX4_init_28 : decode cX4_init 28 = .ok (.aload_n 0, 1) := by decide +kernel
theorem dX4_init_29 : decode cX4_init 29 = .ok (.bipush 6, 2) := by decide +kernel
theorem dX4_init_31 : decode cX4_init 31 = .ok (.newarray .int, 2) := by decide +kernel
theorem dX4_init_33 : decode cX4_init 33 = .ok (.putfield 22, 3) := by decide +kernel
theorem dX4_init_36 : decode cX4_init 36 = .ok (.aload_n 0, 1) := by decide +kernel
theorem dX4_init_37 : decode cX4_init 37 = .ok (.iconst 0, 1) := by decide +kernel
theorem dX4_init_38 : decode cX4_init 38 = .ok (.putfield 25, 3) := by decide +kernel
theorem dX4_init_41 : decode cX4_init 41 = .ok (.return_, 1) := by decide +kernel
theorem dX4_addMachine_0 : decode cX4_addMachine 0 = .ok (.aload_n 0, 1) := by decide +kernel
theorem dX4_addMachine_1 : decode cX4_addMachine 1 = .ok (.getfield 25, 3) := by decide +kernel
theorem dX4_addMachine_4 : decode cX4_addMachine 4 = .ok (.bipush 6, 2) := by decide +kernel
theorem dX4_addMachine_6 : decode cX4_addMachine 6 = .ok (.if_icmp .lt 5, 3) := by decide +kernel
theorem dX4_addMachine_9 : decode cX4_addMachine 9 = .ok (.iconst (-1), 1) := by decide +kernel
theorem dX4_addMachine_10 : decode cX4_addMachine 10 = .ok (.ireturn, 1) := by decide +kernel
theorem dX4_addMachine_11 : decode cX4_addMachine 11 = .ok (.aload_n 0, 1) := by decide +kernel
theorem dX4_addMachine_12 : decode cX4_addMachine 12 = .ok (.getfield 25, 3) := by decide +kernel
theorem dX4_addMachine_15 : decode cX4_addMachine 15 = .ok (.istore_n 1, 1) := by decide +kernel
theorem dX4_addMachine_16 : decode cX4_addMachine 16 = .ok (.aload_n 0, 1) := by decide +kernel
theorem dX4_addMachine_17 : decode cX4_addMachine 17 = .ok (.getfield 15, 3) := by decide +kernel
theorem dX4_addMachine_20 : decode cX4_addMachine 20 = .ok (.iload_n 1, 1) := by decide +kernel
theorem dX4_addMachine_21 : decode cX4_addMachine 21 = .ok (.iconst 1, 1) := by decide +kernel
theorem dX4_addMachine_22 : decode cX4_addMachine 22 = .ok (.bastore, 1) := by decide +kernel
theorem dX4_addMachine_23 : decode cX4_addMachine 23 = .ok (.aload_n 0, 1) := by decide +kernel
theorem dX4_addMachine_24 : decode cX4_addMachine 24 = .ok (.getfield 18, 3) := by decide +kernel
theorem dX4_addMachine_27 : decode cX4_addMachine 27 = .ok (.iload_n 1, 1) := by decide +kernel
theorem dX4_addMachine_28 : decode cX4_addMachine 28 = .ok (.iload_n 1, 1) := by decide +kernel
theorem dX4_addMachine_29 : decode cX4_addMachine 29 = .ok (.iastore, 1) := by decide +kernel
theorem dX4_addMachine_30 : decode cX4_addMachine 30 = .ok (.aload_n 0, 1) := by decide +kernel
theorem dX4_addMachine_31 : decode cX4_addMachine 31 = .ok (.dup, 1) := by decide +kernel
theorem dX4_addMachine_32 : decode cX4_addMachine 32 = .ok (.getfield 25, 3) := by decide +kernel
theorem dX4_addMachine_35 : decode cX4_addMachine 35 = .ok (.iconst 1, 1) := by decide +kernel
theorem dX4_addMachine_36 : decode cX4_addMachine 36 = .ok (.iadd, 1) := by decide +kernel
theorem dX4_addMachine_37 : decode cX4_addMachine 37 = .ok (.putfield 25, 3) := by decide +kernel
theorem dX4_addMachine_40 : decode cX4_addMachine 40 = .ok (.iload_n 1, 1) := by decide +kernel
theorem dX4_addMachine_41 : decode cX4_addMachine 41 = .ok (.ireturn, 1) := by decide +kernel
set_option maxRecDepth 20000 in
theorem ggX4_exists_X8_isIndex : GoodIn wsX4_exists wsX8_isIndex := goodIn_r _ [4] (by decide +kernel) (by decide +kernel)
set_option maxRecDepth 20000 in
theorem gX4_exists_X8_isIndex_n29 : GoodIn wsX4_exists (wsX8_isIndex) := ggX4_exists_X8_isIndex
theorem dX4_exists_0 : decode cX4_exists 0 = .ok (.iload_n 1, 1) := by decide +kernel
theorem dX4_exists_1 : decode cX4_exists 1 = .ok (.aload_n 0, 1) := by decide +kernel
theorem dX4_exists_2 : decode cX4_exists 2 = .ok (.getfield 25, 3) := by decide +kernel
theorem dX4_exists_5 : decode cX4_exists 5 = .ok (.invokestatic 29, 3) := by decide +kernel
theorem dX4_exists_8 : decode cX4_exists 8 = .ok (.ireturn, 1) := by decide +kernel
set_option maxRecDepth 20000 in
theorem ggX4_setFull_X4_exists : GoodIn wsX4_setFull wsX4_exists := goodIn_r _ [6, 7, 8, 9, 10, 11, 12, 13, 14, 15] (by decide +kernel) (by decide +kernel)
set_option maxRecDepth 20000 in
theorem gX4_setFull_X4_exists : GoodIn wsX4_setFull (wsV RX4 33 RX4 yX4_exists wsX4_exists) := goodIn_app (goodIn_of _ (by decide +kernel)) ggX4_setFull_X4_exists
theorem dX4_setFull_0 : decode cX4_setFull 0 = .ok (.aload_n 0, 1) := by decide +kernel
theorem dX4_setFull_1 : decode cX4_setFull 1 = .ok (.iload_n 1, 1) := by decide +kernel
theorem dX4_setFull_2 : decode cX4_setFull 2 = .ok (.invokevirtual 33, 3) := by decide +kernel
theorem dX4_setFull_5 : decode cX4_setFull 5 = .ok (.ifCond .ne 5, 3) := by decide +kernel
theorem dX4_setFull_8 : decode cX4_setFull 8 = .ok (.iconst 0, 1) := by decide +kernel
theorem dX4_setFull_9 : decode cX4_setFull 9 = .ok (.ireturn, 1) := by decide +kernel
theorem dX4_setFull_10 : decode cX4_setFull 10 = .ok (.aload_n 0, 1) := by decide +kernel
theorem dX4_setFull_11 : decode cX4_setFull 11 = .ok (.getfield 11, 3) := by decide +kernel
theorem dX4_setFull_14 : decode cX4_setFull 14 = .ok (.iload_n 1, 1) := by decide +kernel
theorem dX4_setFull_15 : decode cX4_setFull 15 = .ok (.iload_n 2, 1) := by decide +kernel
theorem dX4_setFull_16 : decode cX4_setFull 16 = .ok (.bastore, 1) := by decide +kernel
theorem dX4_setFull_17 : decode cX4_setFull 17 = .ok (.iconst 1, 1) := by decide +kernel
theorem dX4_setFull_18 : decode cX4_setFull 18 = .ok (.ireturn, 1) := by decide +kernel
set_option maxRecDepth 20000 in
theorem ggX4_setPower_X4_exists : GoodIn wsX4_setPower wsX4_exists := goodIn_r _ [6, 7, 8, 9, 10, 11, 12, 13, 14, 15] (by decide +kernel) (by decide +kernel)
set_option maxRecDepth 20000 in
theorem gX4_setPower_X4_exists : GoodIn wsX4_setPower (wsV RX4 33 RX4 yX4_exists wsX4_exists) := goodIn_app (goodIn_of _ (by decide +kernel)) ggX4_setPower_X4_exists
theorem dX4_setPower_0 : decode cX4_setPower 0 = .ok (.aload_n 0, 1) := by decide +kernel
theorem dX4_setPower_1 : decode cX4_setPower 1 = .ok (.iload_n 1, 1) := by decide +kernel
theorem dX4_setPower_2 : decode cX4_setPower 2 = .ok (.invokevirtual 33, 3) := by decide +kernel
theorem dX4_setPower_5 : decode cX4_setPower 5 = .ok (.ifCond .ne 5, 3) := by decide +kernel
theorem dX4_setPower_8 : decode cX4_setPower 8 = .ok (.iconst 0, 1) := by decide +kernel
theorem dX4_setPower_9 : decode cX4_setPower 9 = .ok (.ireturn, 1) := by decide +kernel
theorem dX4_setPower_10 : decode cX4_setPower 10 = .ok (.aload_n 0, 1) := by decide +kernel
theorem dX4_setPower_11 : decode cX4_setPower 11 = .ok (.getfield 15, 3) := by decide +kernel
theorem dX4_setPower_14 : decode cX4_setPower 14 = .ok (.iload_n 1, 1) := by decide +kernel
theorem dX4_setPower_15 : decode cX4_setPower 15 = .ok (.iload_n 2, 1) := by decide +kernel
theorem dX4_setPower_16 : decode cX4_setPower 16 = .ok (.bastore, 1) := by decide +kernel
theorem dX4_setPower_17 : decode cX4_setPower 17 = .ok (.iconst 1, 1) := by decide +kernel
theorem dX4_setPower_18 : decode cX4_setPower 18 = .ok (.ireturn, 1) := by decide +kernel
set_option maxRecDepth 20000 in
theorem ggX4_isFull_X4_exists : GoodIn wsX4_isFull wsX4_exists := goodIn_r _ [6, 7, 8, 9, 10, 11, 12, 13, 14, 15] (by decide +kernel) (by decide +kernel)
set_option maxRecDepth 20000 in
theorem gX4_isFull_X4_exists : GoodIn wsX4_isFull (wsV RX4 33 RX4 yX4_exists wsX4_exists) := goodIn_app (goodIn_of _ (by decide +kernel)) ggX4_isFull_X4_exists
theorem dX4_isFull_0 : decode cX4_isFull 0 = .ok (.aload_n 0, 1) := by decide +kernel
theorem dX4_isFull_1 : decode cX4_isFull 1 = .ok (.iload_n 1, 1) := by decide +kernel
theorem dX4_isFull_2 : decode cX4_isFull 2 = .ok (.invokevirtual 33, 3) := by decide +kernel
theorem dX4_isFull_5 : decode cX4_isFull 5 = .ok (.ifCond .eq 16, 3) := by decide +kernel
theorem dX4_isFull_8 : decode cX4_isFull 8 = .ok (.aload_n 0, 1) := by decide +kernel
theorem dX4_isFull_9 : decode cX4_isFull 9 = .ok (.getfield 11, 3) := by decide +kernel
theorem dX4_isFull_12 : decode cX4_isFull 12 = .ok (.iload_n 1, 1) := by decide +kernel
theorem dX4_isFull_13 : decode cX4_isFull 13 = .ok (.baload, 1) := by decide +kernel
theorem dX4_isFull_14 : decode cX4_isFull 14 = .ok (.ifCond .eq 7, 3) := by decide +kernel
theorem dX4_isFull_17 : decode cX4_isFull 17 = .ok (.iconst 1, 1) := by decide +kernel
theorem dX4_isFull_18 : decode cX4_isFull 18 = .ok (.goto 4, 3) := by decide +kernel
theorem dX4_isFull_21 : decode cX4_isFull 21 = .ok (.iconst 0, 1) := by decide +kernel
theorem dX4_isFull_22 : decode cX4_isFull 22 = .ok (.ireturn, 1) := by decide +kernel
set_option maxRecDepth 20000 in
theorem ggX4_hasPower_X4_exists : GoodIn wsX4_hasPower wsX4_exists := goodIn_r _ [6, 7, 8, 9, 10, 11, 12, 13, 14, 15] (by decide +kernel) (by decide +kernel)
set_option maxRecDepth 20000 in
theorem gX4_hasPower_X4_exists : GoodIn wsX4_hasPower (wsV RX4 33 RX4 yX4_exists wsX4_exists) := goodIn_app (goodIn_of _ (by decide +kernel)) ggX4_hasPower_X4_exists
theorem dX4_hasPower_0 : decode cX4_hasPower 0 = .ok (.aload_n 0, 1) := by decide +kernel
theorem dX4_hasPower_1 : decode cX4_hasPower 1 = .ok (.iload_n 1, 1) := by decide +kernel
theorem dX4_hasPower_2 : decode cX4_hasPower 2 = .ok (.invokevirtual 33, 3) := by decide +kernel
theorem dX4_hasPower_5 : decode cX4_hasPower 5 = .ok (.ifCond .eq 16, 3) := by decide +kernel
theorem dX4_hasPower_8 : decode cX4_hasPower 8 = .ok (.aload_n 0, 1) := by decide +kernel
theorem dX4_hasPower_9 : decode cX4_hasPower 9 = .ok (.getfield 15, 3) := by decide +kernel
theorem dX4_hasPower_12 : decode cX4_hasPower 12 = .ok (.iload_n 1, 1) := by decide +kernel
theorem dX4_hasPower_13 : decode cX4_hasPower 13 = .ok (.baload, 1) := by decide +kernel
theorem dX4_hasPower_14 : decode cX4_hasPower 14 = .ok (.ifCond .eq 7, 3) := by decide +kernel
theorem dX4_hasPower_17 : decode cX4_hasPower 17 = .ok (.iconst 1, 1) := by decide +kernel
theorem dX4_hasPower_18 : decode cX4_hasPower 18 = .ok (.goto 4, 3) := by decide +kernel
theorem dX4_hasPower_21 : decode cX4_hasPower 21 = .ok (.iconst 0, 1) := by decide +kernel
theorem dX4_hasPower_22 : decode cX4_hasPower 22 = .ok (.ireturn, 1) := by decide +kernel
set_option maxRecDepth 20000 in
theorem ggX4_setOf_X4_exists : GoodIn wsX4_setOf wsX4_exists := goodIn_r _ [6, 7, 8, 9, 10, 11, 12, 13, 14, 15] (by decide +kernel) (by decide +kernel)
set_option maxRecDepth 20000 in
theorem gX4_setOf_X4_exists : GoodIn wsX4_setOf (wsV RX4 33 RX4 yX4_exists wsX4_exists) := goodIn_app (goodIn_of _ (by decide +kernel)) ggX4_setOf_X4_exists
theorem dX4_setOf_0 : decode cX4_setOf 0 = .ok (.aload_n 0, 1) := by decide +kernel
theorem dX4_setOf_1 : decode cX4_setOf 1 = .ok (.iload_n 1, 1) := by decide +kernel
theorem dX4_setOf_2 : decode cX4_setOf 2 = .ok (.invokevirtual 33, 3) := by decide +kernel
theorem dX4_setOf_5 : decode cX4_setOf 5 = .ok (.ifCond .eq 12, 3) := by decide +kernel
theorem dX4_setOf_8 : decode cX4_setOf 8 = .ok (.aload_n 0, 1) := by decide +kernel
theorem dX4_setOf_9 : decode cX4_setOf 9 = .ok (.getfield 18, 3) := by decide +kernel
theorem dX4_setOf_12 : decode cX4_setOf 12 = .ok (.iload_n 1, 1) := by decide +kernel
theorem dX4_setOf_13 : decode cX4_setOf 13 = .ok (.iaload, 1) := by decide +kernel
theorem dX4_setOf_14 : decode cX4_setOf 14 = .ok (.goto 4, 3) := by decide +kernel
theorem dX4_setOf_17 : decode cX4_setOf 17 = .ok (.iconst (-1), 1) := by decide +kernel
theorem dX4_setOf_18 : decode cX4_setOf 18 = .ok (.ireturn, 1) := by decide +kernel
theorem dX4_moveSet_0 : decode cX4_moveSet 0 = .ok (.iconst 0, 1) := by decide +kernel
theorem dX4_moveSet_1 : decode cX4_moveSet 1 = .ok (.istore_n 3, 1) := by decide +kernel
theorem dX4_moveSet_2 : decode cX4_moveSet 2 = .ok (.iload_n 3, 1) := by decide +kernel
theorem dX4_moveSet_3 : decode cX4_moveSet 3 = .ok (.aload_n 0, 1) := by decide +kernel
theorem dX4_moveSet_4 : decode cX4_moveSet 4 = .ok (.getfield 25, 3) := by decide +kernel
theorem dX4_moveSet_7 : decode cX4_moveSet 7 = .ok (.if_icmp .ge 26, 3) := by decide +kernel
theorem dX4_moveSet_10 : decode cX4_moveSet 10 = .ok (.aload_n 0, 1) := by decide +kernel
theorem dX4_moveSet_11 : decode cX4_moveSet 11 = .ok (.getfield 18, 3) := by decide +kernel
theorem dX4_moveSet_14 : decode cX4_moveSet 14 = .ok (.iload_n 3, 1) := by decide +kernel
theorem dX4_moveSet_15 : decode cX4_moveSet 15 = .ok (.iaload, 1) := by decide +kernel
theorem dX4_moveSet_16 : decode cX4_moveSet 16 = .ok (.iload_n 1, 1) := by decide +kernel
theorem dX4_moveSet_17 : decode cX4_moveSet 17 = .ok (.if_icmp .ne 10, 3) := by decide +kernel
theorem dX4_moveSet_20 : decode cX4_moveSet 20 = .ok (.aload_n 0, 1) := by decide +kernel
theorem dX4_moveSet_21 : decode cX4_moveSet 21 = .ok (.getfield 18, 3) := by decide +kernel
theorem dX4_moveSet_24 : decode cX4_moveSet 24 = .ok (.iload_n 3, 1) := by decide +kernel
theorem dX4_moveSet_25 : decode cX4_moveSet 25 = .ok (.iload_n 2, 1) := by decide +kernel
theorem dX4_moveSet_26 : decode cX4_moveSet 26 = .ok (.iastore, 1) := by decide +kernel
theorem dX4_moveSet_27 : decode cX4_moveSet 27 = .ok (.iinc 3 1, 3) := by decide +kernel
theorem dX4_moveSet_30 : decode cX4_moveSet 30 = .ok (.goto (-28), 3) := by decide +kernel
theorem dX4_moveSet_33 : decode cX4_moveSet 33 = .ok (.return_, 1) := by decide +kernel
set_option maxRecDepth 20000 in
theorem ggX4_addUnprinted_X4_exists : GoodIn wsX4_addUnprinted wsX4_exists := goodIn_r _ [6, 7, 8, 9, 10, 11, 12, 13, 14, 15] (by decide +kernel) (by decide +kernel)
set_option maxRecDepth 20000 in
theorem gX4_addUnprinted_X4_exists : GoodIn wsX4_addUnprinted (wsV RX4 33 RX4 yX4_exists wsX4_exists) := goodIn_app (goodIn_of _ (by decide +kernel)) ggX4_addUnprinted_X4_exists
theorem dX4_addUnprinted_0 : decode cX4_addUnprinted 0 = .ok (.aload_n 0, 1) := by decide +kernel
theorem dX4_addUnprinted_1 : decode cX4_addUnprinted 1 = .ok (.iload_n 1, 1) := by decide +kernel
theorem dX4_addUnprinted_2 : decode cX4_addUnprinted 2 = .ok (.invokevirtual 33, 3) := by decide +kernel
theorem dX4_addUnprinted_5 : decode cX4_addUnprinted 5 = .ok (.ifCond .eq 13, 3) := by decide +kernel
theorem dX4_addUnprinted_8 : decode cX4_addUnprinted 8 = .ok (.aload_n 0, 1) := by decide +kernel
theorem dX4_addUnprinted_9 : decode cX4_addUnprinted 9 = .ok (.getfield 22, 3) := by decide +kernel
theorem dX4_addUnprinted_12 : decode cX4_addUnprinted 12 = .ok (.iload_n 1, 1) := by decide +kernel
theorem dX4_addUnprinted_13 : decode cX4_addUnprinted 13 = .ok (.dup2, 1) := by decide +kernel
theorem dX4_addUnprinted_14 : decode cX4_addUnprinted 14 = .ok (.iaload, 1) := by decide +kernel
theorem dX4_addUnprinted_15 : decode cX4_addUnprinted 15 = .ok (.iconst 1, 1) := by decide +kernel
theorem dX4_addUnprinted_16 : decode cX4_addUnprinted 16 = .ok (.iadd, 1) := by decide +kernel
theorem dX4_addUnprinted_17 : decode cX4_addUnprinted 17 = .ok (.iastore, 1) := by decide +kernel
theorem dX4_addUnprinted_18 : decode cX4_addUnprinted 18 = .ok (.return_, 1) := by decide +kernel
set_option maxRecDepth 20000 in
theorem ggX4_takeUnprinted_X4_exists : GoodIn wsX4_takeUnprinted wsX4_exists := goodIn_r _ [6, 7, 8, 9, 10, 11, 12, 13, 14, 15] (by decide +kernel) (by decide +kernel)
set_option maxRecDepth 20000 in
theorem gX4_takeUnprinted_X4_exists : GoodIn wsX4_takeUnprinted (wsV RX4 33 RX4 yX4_exists wsX4_exists) := goodIn_app (goodIn_of _ (by decide +kernel)) ggX4_takeUnprinted_X4_exists
theorem dX4_takeUnprinted_0 : decode cX4_takeUnprinted 0 = .ok (.aload_n 0, 1) := by decide +kernel
theorem dX4_takeUnprinted_1 : decode cX4_takeUnprinted 1 = .ok (.iload_n 1, 1) := by decide +kernel
theorem dX4_takeUnprinted_2 : decode cX4_takeUnprinted 2 = .ok (.invokevirtual 33, 3) := by decide +kernel
theorem dX4_takeUnprinted_5 : decode cX4_takeUnprinted 5 = .ok (.ifCond .ne 5, 3) := by decide +kernel
theorem dX4_takeUnprinted_8 : decode cX4_takeUnprinted 8 = .ok (.iconst 0, 1) := by decide +kernel
theorem dX4_takeUnprinted_9 : decode cX4_takeUnprinted 9 = .ok (.ireturn, 1) := by decide +kernel
theorem dX4_takeUnprinted_10 : decode cX4_takeUnprinted 10 = .ok (.aload_n 0, 1) := by decide +kernel
theorem dX4_takeUnprinted_11 : decode cX4_takeUnprinted 11 = .ok (.getfield 22, 3) := by decide +kernel
theorem dX4_takeUnprinted_14 : decode cX4_takeUnprinted 14 = .ok (.iload_n 1, 1) := by decide +kernel
theorem dX4_takeUnprinted_15 : decode cX4_takeUnprinted 15 = .ok (.iaload, 1) := by decide +kernel
theorem dX4_takeUnprinted_16 : decode cX4_takeUnprinted 16 = .ok (.istore_n 2, 1) := by decide +kernel
theorem dX4_takeUnprinted_17 : decode cX4_takeUnprinted 17 = .ok (.aload_n 0, 1) := by decide +kernel
theorem dX4_takeUnprinted_18 : decode cX4_takeUnprinted 18 = .ok (.getfield 22, 3) := by decide +kernel
theorem dX4_takeUnprinted_21 : decode cX4_takeUnprinted 21 = .ok (.iload_n 1, 1) := by decide +kernel
theorem dX4_takeUnprinted_22 : decode cX4_takeUnprinted 22 = .ok (.iconst 0, 1) := by decide +kernel
theorem dX4_takeUnprinted_23 : decode cX4_takeUnprinted 23 = .ok (.iastore, 1) := by decide +kernel
theorem dX4_takeUnprinted_24 : decode cX4_takeUnprinted 24 = .ok (.iload_n 2, 1) := by decide +kernel
theorem dX4_takeUnprinted_25 : decode cX4_takeUnprinted 25 = .ok (.ireturn, 1) := by decide +kernel
theorem dX5_isNumber_0 : decode cX5_isNumber 0 = .ok (.lload_n 0, 1) := by decide +kernel
theorem dX5_isNumber_1 : decode cX5_isNumber 1 = .ok (.lconst 0, 1) := by decide +kernel
theorem dX5_isNumber_2 : decode cX5_isNumber 2 = .ok (.lcmp, 1) := by decide +kernel
theorem dX5_isNumber_3 : decode cX5_isNumber 3 = .ok (.ifCond .lt 15, 3) := by decide +kernel
theorem dX5_isNumber_6 : decode cX5_isNumber 6 = .ok (.lload_n 0, 1) := by decide +kernel
theorem dX5_isNumber_7 : decode cX5_isNumber 7 = .ok (.ldc2_w 11, 3) := by decide +kernel
theorem dX5_isNumber_10 : decode cX5_isNumber 10 = .ok (.lcmp, 1) := by decide +kernel
theorem dX5_isNumber_11 : decode cX5_isNumber 11 = .ok (.ifCond .gt 7, 3) := by decide +kernel
theorem dX5_isNumber_14 : decode cX5_isNumber 14 = .ok (.iconst 1, 1) := by decide +kernel
theorem dX5_isNumber_15 : decode cX5_isNumber 15 = .ok (.goto 4, 3) := by decide +kernel
theorem dX5_isNumber_18 : decode cX5_isNumber 18 = .ok (.iconst 0, 1) := by decide +kernel
theorem dX5_isNumber_19 : decode cX5_isNumber 19 = .ok (.ireturn, 1) := by decide +kernel
set_option maxRecDepth 20000 in
theorem ggX5_isKind_X8_isIndex : GoodIn wsX5_isKind wsX8_isIndex := goodIn_r _ [3] (by decide +kernel) (by decide +kernel)
set_option maxRecDepth 20000 in
theorem gX5_isKind_X8_isIndex_n13 : GoodIn wsX5_isKind (wsX8_isIndex) := ggX5_isKind_X8_isIndex
theorem dX5_isKind_0 : decode cX5_isKind 0 = .ok (.iload_n 0, 1) := by decide +kernel
theorem dX5_isKind_1 : decode cX5_isKind 1 = .ok (.iconst 2, 1) := by decide +kernel
theorem dX5_isKind_2 : decode cX5_isKind 2 = .ok (.invokestatic 13, 3) := by decide +kernel
theorem dX5_isKind_5 : decode cX5_isKind 5 = .ok (.ireturn, 1) := by decide +kernel
set_option maxRecDepth 20000 in
theorem ggX5_checkDigit_X5_weighed : GoodIn wsX5_checkDigit wsX5_weighed := goodIn_r _ [5] (by decide +kernel) (by decide +kernel)
set_option maxRecDepth 20000 in
theorem gX5_checkDigit_X5_weighed : GoodIn wsX5_checkDigit (va_wsS RX5 19 yX5_weighed wsX5_weighed) := goodIn_app (goodIn_of _ (by decide +kernel)) ggX5_checkDigit_X5_weighed
theorem dX5_checkDigit_0 : decode cX5_checkDigit 0 = .ok (.iconst 0, 1) := by decide +kernel
theorem dX5_checkDigit_1 : decode cX5_checkDigit 1 = .ok (.istore_n 3, 1) := by decide +kernel
theorem dX5_checkDigit_2 : decode cX5_checkDigit 2 = .ok (.lload_n 1, 1) := by decide +kernel
theorem dX5_checkDigit_3 : decode cX5_checkDigit 3 = .ok (.lstore 4, 2) := by decide +kernel
theorem dX5_checkDigit_5 : decode cX5_checkDigit 5 = .ok (.iconst 0, 1) := by decide +kernel
theorem dX5_checkDigit_6 : decode cX5_checkDigit 6 = .ok (.istore 6, 2) := by decide +kernel
theorem dX5_checkDigit_8 : decode cX5_checkDigit 8 = .ok (.iload 6, 2) := by decide +kernel
theorem dX5_checkDigit_10 : decode cX5_checkDigit 10 = .ok (.bipush 18, 2) := by decide +kernel
theorem dX5_checkDigit_12 : decode cX5_checkDigit 12 = .ok (.if_icmp .ge 47, 3) := by decide +kernel
theorem dX5_checkDigit_15 : decode cX5_checkDigit 15 = .ok (.lload 4, 2) := by decide +kernel
theorem dX5_checkDigit_17 : decode cX5_checkDigit 17 = .ok (.ldc2_w 17, 3) := by decide +kernel
theorem dX5_checkDigit_20 : decode cX5_checkDigit 20 = .ok (.lrem, 1) := by decide +kernel
theorem dX5_checkDigit_21 : decode cX5_checkDigit 21 = .ok (.l2i, 1) := by decide +kernel
theorem dX5_checkDigit_22 : decode cX5_checkDigit 22 = .ok (.istore 7, 2) := by decide +kernel
theorem dX5_checkDigit_24 : decode cX5_checkDigit 24 = .ok (.iload_n 3, 1) := by decide +kernel
theorem dX5_checkDigit_25 : decode cX5_checkDigit 25 = .ok (.iload 6, 2) := by decide +kernel
theorem dX5_checkDigit_27 : decode cX5_checkDigit 27 = .ok (.iconst 2, 1) := by decide +kernel
theorem dX5_checkDigit_28 : decode cX5_checkDigit 28 = .ok (.irem, 1) := by decide +kernel
theorem dX5_checkDigit_29 : decode cX5_checkDigit 29 = .ok (.ifCond .ne 12, 3) := by decide +kernel
theorem dX5_checkDigit_32 : decode cX5_checkDigit 32 = .ok (.iload_n 0, 1) := by decide +kernel
theorem dX5_checkDigit_33 : decode cX5_checkDigit 33 = .ok (.iload 7, 2) := by decide +kernel
theorem dX5_checkDigit_35 : decode cX5_checkDigit 35 = .ok (.invokestatic 19, 3) := by decide +kernel
theorem dX5_checkDigit_38 : decode cX5_checkDigit 38 = .ok (.goto 5, 3) := by decide +kernel
theorem dX5_checkDigit_41 : decode cX5_checkDigit 41 = .ok (.iload 7, 2) := by decide +kernel
theorem dX5_checkDigit_43 : decode cX5_checkDigit 43 = .ok (.iadd, 1) := by decide +kernel
theorem dX5_checkDigit_44 : decode cX5_checkDigit 44 = .ok (.istore_n 3, 1) := by decide +kernel
theorem dX5_checkDigit_45 : decode cX5_checkDigit 45 = .ok (.lload 4, 2) := by decide +kernel
theorem dX5_checkDigit_47 : decode cX5_checkDigit 47 = .ok (.ldc2_w 17, 3) := by decide +kernel
theorem dX5_checkDigit_50 : decode cX5_checkDigit 50 = .ok (.ldiv, 1) := by decide +kernel
theorem dX5_checkDigit_51 : decode cX5_checkDigit 51 = .ok (.lstore 4, 2) := by decide +kernel
theorem dX5_checkDigit_53 : decode cX5_checkDigit 53 = .ok (.iinc 6 1, 3) := by decide +kernel
theorem dX5_checkDigit_56 : decode cX5_checkDigit 56 = .ok (.goto (-48), 3) := by decide +kernel
theorem dX5_checkDigit_59 : decode cX5_checkDigit 59 = .ok (.bipush 10, 2) := by decide +kernel
theorem dX5_checkDigit_61 : decode cX5_checkDigit 61 = .ok (.iload_n 3, 1) := by decide +kernel
theorem dX5_checkDigit_62 : decode cX5_checkDigit 62 = .ok (.bipush 10, 2) := by decide +kernel
theorem dX5_checkDigit_64 : decode cX5_checkDigit 64 = .ok (.irem, 1) := by decide +kernel
theorem dX5_checkDigit_65 : decode cX5_checkDigit 65 = .ok (.isub, 1) := by decide +kernel
theorem dX5_checkDigit_66 : decode cX5_checkDigit 66 = .ok (.bipush 10, 2) := by decide +kernel
theorem dX5_checkDigit_68 : decode cX5_checkDigit 68 = .ok (.irem, 1) := by decide +kernel
theorem dX5_checkDigit_69 : decode cX5_checkDigit 69 = .ok (.ireturn, 1) := by decide +kernel
set_option maxRecDepth 20000 in
theorem ggX5_isGood_X5_checkDigit : GoodIn wsX5_isGood wsX5_checkDigit := goodIn_r _ [5, 1, 6, 7, 4, 8] (by decide +kernel) (by decide +kernel)
set_option maxRecDepth 20000 in
theorem gX5_isGood_X5_checkDigit : GoodIn wsX5_isGood (va_wsS RX5 23 yX5_checkDigit wsX5_checkDigit) := goodIn_app (goodIn_of _ (by decide +kernel)) ggX5_isGood_X5_checkDigit
theorem dX5_isGood_0 : decode cX5_isGood 0 = .ok (.lload_n 1, 1) := by decide +kernel
theorem dX5_isGood_1 : decode cX5_isGood 1 = .ok (.ldc2_w 17, 3) := by decide +kernel
theorem dX5_isGood_4 : decode cX5_isGood 4 = .ok (.lrem, 1) := by decide +kernel
theorem dX5_isGood_5 : decode cX5_isGood 5 = .ok (.iload_n 0, 1) := by decide +kernel
theorem dX5_isGood_6 : decode cX5_isGood 6 = .ok (.lload_n 1, 1) := by decide +kernel
theorem dX5_isGood_7 : decode cX5_isGood 7 = .ok (.ldc2_w 17, 3) := by decide +kernel
theorem dX5_isGood_10 : decode cX5_isGood 10 = .ok (.ldiv, 1) := by decide +kernel
theorem dX5_isGood_11 : decode cX5_isGood 11 = .ok (.invokestatic 23, 3) := by decide +kernel
theorem dX5_isGood_14 : decode cX5_isGood 14 = .ok (.i2l, 1) := by decide +kernel
theorem dX5_isGood_15 : decode cX5_isGood 15 = .ok (.lcmp, 1) := by decide +kernel
theorem dX5_isGood_16 : decode cX5_isGood 16 = .ok (.ifCond .ne 7, 3) := by decide +kernel
theorem dX5_isGood_19 : decode cX5_isGood 19 = .ok (.iconst 1, 1) := by decide +kernel
theorem dX5_isGood_20 : decode cX5_isGood 20 = .ok (.goto 4, 3) := by decide +kernel
theorem dX5_isGood_23 : decode cX5_isGood 23 = .ok (.iconst 0, 1) := by decide +kernel
theorem dX5_isGood_24 : decode cX5_isGood 24 = .ok (.ireturn, 1) := by decide +kernel
theorem dX5_decimals_0 : decode cX5_decimals 0 = .ok (.iconst 1, 1) := by decide +kernel
theorem dX5_decimals_1 : decode cX5_decimals 1 = .ok (.istore_n 2, 1) := by decide +kernel
theorem dX5_decimals_2 : decode cX5_decimals 2 = .ok (.lload_n 0, 1) := by decide +kernel
theorem dX5_decimals_3 : decode cX5_decimals 3 = .ok (.ldc2_w 17, 3) := by decide +kernel
theorem dX5_decimals_6 : decode cX5_decimals 6 = .ok (.ldiv, 1) := by decide +kernel
theorem dX5_decimals_7 : decode cX5_decimals 7 = .ok (.lstore_n 3, 1) := by decide +kernel
theorem dX5_decimals_8 : decode cX5_decimals 8 = .ok (.lload_n 3, 1) := by decide +kernel
theorem dX5_decimals_9 : decode cX5_decimals 9 = .ok (.lconst 0, 1) := by decide +kernel
theorem dX5_decimals_10 : decode cX5_decimals 10 = .ok (.lcmp, 1) := by decide +kernel
theorem dX5_decimals_11 : decode cX5_decimals 11 = .ok (.ifCond .le 21, 3) := by decide +kernel
theorem dX5_decimals_14 : decode cX5_decimals 14 = .ok (.iload_n 2, 1) := by decide +kernel
theorem dX5_decimals_15 : decode cX5_decimals 15 = .ok (.bipush 18, 2) := by decide +kernel
theorem dX5_decimals_17 : decode cX5_decimals 17 = .ok (.if_icmp .ge 15, 3) := by decide +kernel
theorem dX5_decimals_20 : decode cX5_decimals 20 = .ok (.iinc 2 1, 3) := by decide +kernel
theorem dX5_decimals_23 : decode cX5_decimals 23 = .ok (.lload_n 3, 1) := by decide +kernel
theorem dX5_decimals_24 : decode cX5_decimals 24 = .ok (.ldc2_w 17, 3) := by decide +kernel
theorem dX5_decimals_27 : decode cX5_decimals 27 = .ok (.ldiv, 1) := by decide +kernel
theorem dX5_decimals_28 : decode cX5_decimals 28 = .ok (.lstore_n 3, 1) := by decide +kernel
theorem dX5_decimals_29 : decode cX5_decimals 29 = .ok (.goto (-21), 3) := by decide +kernel
theorem dX5_decimals_32 : decode cX5_decimals 32 = .ok (.iload_n 2, 1) := by decide +kernel
theorem dX5_decimals_33 : decode cX5_decimals 33 = .ok (.ireturn, 1) := by decide +kernel
set_option maxRecDepth 20000 in
theorem ggX5_decimalAt_X5_decimals : GoodIn wsX5_decimalAt wsX5_decimals := goodIn_r _ [5, 1] (by decide +kernel) (by decide +kernel)
set_option maxRecDepth 20000 in
theorem gX5_decimalAt_X5_decimals : GoodIn wsX5_decimalAt (va_wsS RX5 27 yX5_decimals wsX5_decimals) := goodIn_app (goodIn_of _ (by decide +kernel)) ggX5_decimalAt_X5_decimals
theorem dX5_decimalAt_0 : decode cX5_decimalAt 0 = .ok (.lload_n 0, 1) := by decide +kernel
theorem dX5_decimalAt_1 : decode cX5_decimalAt 1 = .ok (.invokestatic 27, 3) := by decide +kernel
theorem dX5_decimalAt_4 : decode cX5_decimalAt 4 = .ok (.iconst 1, 1) := by decide +kernel
theorem dX5_decimalAt_5 : decode cX5_decimalAt 5 = .ok (.isub, 1) := by decide +kernel
theorem dX5_decimalAt_6 : decode cX5_decimalAt 6 = .ok (.iload_n 2, 1) := by decide +kernel
theorem dX5_decimalAt_7 : decode cX5_decimalAt 7 = .ok (.isub, 1) := by decide +kernel
theorem dX5_decimalAt_8 : decode cX5_decimalAt 8 = .ok (.istore_n 3, 1) := by decide +kernel
theorem dX5_decimalAt_9 : decode cX5_decimalAt 9 = .ok (.iload_n 2, 1) := by decide +kernel
theorem dX5_decimalAt_10 : decode cX5_decimalAt 10 = .ok (.ifCond .lt 7, 3) := by decide +kernel
theorem dX5_decimalAt_13 : decode cX5_decimalAt 13 = .ok (.iload_n 3, 1) := by decide +kernel
theorem dX5_decimalAt_14 : decode cX5_decimalAt 14 = .ok (.ifCond .ge 5, 3) := by decide +kernel
theorem dX5_decimalAt_17 : decode cX5_decimalAt 17 = .ok (.iconst (-1), 1) := by decide +kernel
theorem dX5_decimalAt_18 : decode cX5_decimalAt 18 = .ok (.ireturn, 1) := by decide +kernel
theorem dX5_decimalAt_19 : decode cX5_decimalAt 19 = .ok (.lload_n 0, 1) := by decide +kernel
theorem dX5_decimalAt_20 : decode cX5_decimalAt 20 = .ok (.lstore 4, 2) := by decide +kernel
theorem dX5_decimalAt_22 : decode cX5_decimalAt 22 = .ok (.iconst 0, 1) := by decide +kernel
theorem dX5_decimalAt_23 : decode cX5_decimalAt 23 = .ok (.istore 6, 2) := by decide +kernel
theorem dX5_decimalAt_25 : decode cX5_decimalAt 25 = .ok (.iload 6, 2) := by decide +kernel
theorem dX5_decimalAt_27 : decode cX5_decimalAt 27 = .ok (.iload_n 3, 1) := by decide +kernel
theorem dX5_decimalAt_28 : decode cX5_decimalAt 28 = .ok (.if_icmp .ge 17, 3) := by decide +kernel
theorem dX5_decimalAt_31 : decode cX5_decimalAt 31 = .ok (.lload 4, 2) := by decide +kernel
theorem dX5_decimalAt_33 : decode cX5_decimalAt 33 = .ok (.ldc2_w 17, 3) := by decide +kernel
theorem dX5_decimalAt_36 : decode cX5_decimalAt 36 = .ok (.ldiv, 1) := by decide +kernel
theorem dX5_decimalAt_37 : decode cX5_decimalAt 37 = .ok (.lstore 4, 2) := by decide +kernel
theorem dX5_decimalAt_39 : decode cX5_decimalAt 39 = .ok (.iinc 6 1, 3) := by decide +kernel
theorem dX5_decimalAt_42 : decode cX5_decimalAt 42 = .ok (.goto (-17), 3) := by decide +kernel
theorem dX5_decimalAt_45 : decode cX5_decimalAt 45 = .ok (.lload 4, 2) := by decide +kernel
theorem dX5_decimalAt_47 : decode cX5_decimalAt 47 = .ok (.ldc2_w 17, 3) := by decide +kernel
theorem dX5_decimalAt_50 : decode cX5_decimalAt 50 = .ok (.lrem, 1) := by decide +kernel
theorem dX5_decimalAt_51 : decode cX5_decimalAt 51 = .ok (.l2i, 1) := by decide +kernel
theorem dX5_decimalAt_52 : decode cX5_decimalAt 52 = .ok (.ireturn, 1) := by decide +kernel
theorem dX5_systemOfSerial_0 : decode cX5_systemOfSerial 0 = .ok (.lload_n 0, 1) := by decide +kernel
theorem dX5_systemOfSerial_1 : decode cX5_systemOfSerial 1 = .ok (.ldc2_w 17, 3) := by decide +kernel
theorem dX5_systemOfSerial_4 : decode cX5_systemOfSerial 4 = .ok (.ldiv, 1) := by decide +kernel
theorem dX5_systemOfSerial_5 : decode cX5_systemOfSerial 5 = .ok (.ldc2_w 17, 3) := by decide +kernel
theorem dX5_systemOfSerial_8 : decode cX5_systemOfSerial 8 = .ok (.lrem, 1) := by decide +kernel
theorem dX5_systemOfSerial_9 : decode cX5_systemOfSerial 9 = .ok (.ldc2_w 31, 3) := by decide +kernel
theorem dX5_systemOfSerial_12 : decode cX5_systemOfSerial 12 = .ok (.lrem, 1) := by decide +kernel
theorem dX5_systemOfSerial_13 : decode cX5_systemOfSerial 13 = .ok (.l2i, 1) := by decide +kernel
theorem dX5_systemOfSerial_14 : decode cX5_systemOfSerial 14 = .ok (.ireturn, 1) := by decide +kernel
theorem dX5_weighed_0 : decode cX5_weighed 0 = .ok (.iload_n 0, 1) := by decide +kernel
theorem dX5_weighed_1 : decode cX5_weighed 1 = .ok (.ifCond .ne 7, 3) := by decide +kernel
theorem dX5_weighed_4 : decode cX5_weighed 4 = .ok (.iconst 3, 1) := by decide +kernel
theorem dX5_weighed_5 : decode cX5_weighed 5 = .ok (.iload_n 1, 1) := by decide +kernel
theorem dX5_weighed_6 : decode cX5_weighed 6 = .ok (.imul, 1) := by decide +kernel
theorem dX5_weighed_7 : decode cX5_weighed 7 = .ok (.ireturn, 1) := by decide +kernel
theorem dX5_weighed_8 : decode cX5_weighed 8 = .ok (.iconst 2, 1) := by decide +kernel
theorem dX5_weighed_9 : decode cX5_weighed 9 = .ok (.iload_n 1, 1) := by decide +kernel
theorem dX5_weighed_10 : decode cX5_weighed 10 = .ok (.imul, 1) := by decide +kernel
theorem dX5_weighed_11 : decode cX5_weighed 11 = .ok (.bipush 9, 2) := by decide +kernel
theorem dX5_weighed_13 : decode cX5_weighed 13 = .ok (.if_icmp .le 12, 3) := by decide +kernel
theorem dX5_weighed_16 : decode cX5_weighed 16 = .ok (.iconst 2, 1) := by decide +kernel
theorem dX5_weighed_17 : decode cX5_weighed 17 = .ok (.iload_n 1, 1) := by decide +kernel
theorem dX5_weighed_18 : decode cX5_weighed 18 = .ok (.imul, 1) := by decide +kernel
theorem dX5_weighed_19 : decode cX5_weighed 19 = .ok (.bipush 9, 2) := by decide +kernel
theorem dX5_weighed_21 : decode cX5_weighed 21 = .ok (.isub, 1) := by decide +kernel
theorem dX5_weighed_22 : decode cX5_weighed 22 = .ok (.goto 6, 3) := by decide +kernel
theorem dX5_weighed_25 : decode cX5_weighed 25 = .ok (.iconst 2, 1) := by decide +kernel
theorem dX5_weighed_26 : decode cX5_weighed 26 = .ok (.iload_n 1, 1) := by decide +kernel
theorem dX5_weighed_27 : decode cX5_weighed 27 = .ok (.imul, 1) := by decide +kernel
theorem dX5_weighed_28 : decode cX5_weighed 28 = .ok (.ireturn, 1) := by decide +kernel
theorem dX6_init_0 : decode cX6_init 0 = .ok (.aload_n 0, 1) := by decide +kernel
theorem dX6_init_1 : decode cX6_init 1 = .ok (.invokespecial 3, 3) := by decide +kernel
theorem dX6_init_4 : decode cX6_init 4 = .ok (.aload_n 0, 1) := by decide +kernel
theorem dX6_init_5 : decode cX6_init 5 = .ok (.sipush 200, 3) := by decide +kernel
theorem dX6_init_8 : decode cX6_init 8 = .ok (.newarray .long, 2) := by decide +kernel
theorem dX6_init_10 : decode cX6_init 10 = .ok (.putfield 11, 3) := by decide +kernel
theorem dX6_init_13 : decode cX6_init 13 = .ok (.aload_n 0, 1) := by decide +kernel
theorem dX6_init_14 : decode cX6_init 14 = .ok (.sipush 200, 3) := by decide +kernel
theorem dX6_init_17 : decode cX6_init 17 = .ok (.newarray .int, 2) := by decide +kernel
theorem dX6_init_19 : decode cX6_init 19 = .ok (.putfield 15, 3) := by decide +kernel
theorem dX6_init_22 : decode cX6_init 22 = .ok (.aload_n 0, 1) := by decide +kernel
theorem dX6_init_23 : decode cX6_init 23 = .ok (.sipush 200, 3) := by decide +kernel
theorem dX6_init_26 : decode cX6_init 26 = .ok (.newarray .int, 2) := by decide +kernel
theorem dX6_init_28 : decode cX6_init 28 = .ok (.putfield 19, 3) := by decide +kernel
theorem dX6_init_31 : decode cX6_init 31 = .ok (.aload_n 0, 1) := by decide +kernel
theorem dX6_init_32 : decode cX6_init 32 = .ok (.sipush 200, 3) := by decide +kernel
theorem dX6_init_35 : decode cX6_init 35 = .ok (.newarray .int, 2) := by decide +kernel
theorem dX6_init_37 : decode cX6_init 37 = .ok (.putfield 22, 3) := by decide +kernel
theorem dX6_init_40 : decode cX6_init 40 = .ok (.aload_n 0, 1) := by decide +kernel
theorem dX6_init_41 : decode cX6_init 41 = .ok (.sipush 200, 3) := by decide +kernel
theorem dX6_init_44 : decode cX6_init 44 = .ok (.newarray .int, 2) := by decide +kernel
theorem dX6_init_46 : decode cX6_init 46 = .ok (.putfield 25, 3) := by decide +kernel
theorem dX6_init_49 : decode cX6_init 49 = .ok (.aload_n 0, 1) := by decide +kernel
theorem dX6_init_50 : decode cX6_init 50 = .ok (.sipush 200, 3) := by decide +kernel
theorem dX6_init_53 : decode cX6_init 53 = .ok (.newarray .int, 2) := by decide +kernel
theorem dX6_init_55 : decode cX6_init 55 = .ok (.putfield 28, 3) := by decide +kernel
theorem dX6_init_58 : decode cX6_init 58 = .ok (.aload_n 0, 1) := by decide +kernel
theorem dX6_init_59 : decode cX6_init 59 = .ok (.iconst 0, 1) := by decide +kernel
theorem dX6_init_60 : decode cX6_init 60 = .ok (.putfield 31, 3) := by decide +kernel
theorem dX6_init_63 : decode cX6_init 63 = .ok (.return_, 1) := by decide +kernel
theorem dX6_areAtLimit_0 : decode cX6_areAtLimit 0 = .ok (.aload_n 0, 1) := by decide +kernel
theorem dX6_areAtLimit_1 : decode cX6_areAtLimit 1 = .ok (.getfield 31, 3) := by decide +kernel
theorem dX6_areAtLimit_4 : decode cX6_areAtLimit 4 = .ok (.sipush 200, 3) := by decide +kernel
theorem dX6_areAtLimit_7 : decode cX6_areAtLimit 7 = .ok (.if_icmp .lt 7, 3) := by decide +kernel
theorem dX6_areAtLimit_10 : decode cX6_areAtLimit 10 = .ok (.iconst 1, 1) := by decide +kernel
theorem dX6_areAtLimit_11 : decode cX6_areAtLimit 11 = .ok (.goto 4, 3) := by decide +kernel
theorem dX6_areAtLimit_14 : decode cX6_areAtLimit 14 = .ok (.iconst 0, 1) := by decide +kernel
theorem dX6_areAtLimit_15 : decode cX6_areAtLimit 15 = .ok (.ireturn, 1) := by decide +kernel
theorem dX6_size_0 : decode cX6_size 0 = .ok (.aload_n 0, 1) := by decide +kernel
theorem dX6_size_1 : decode cX6_size 1 = .ok (.getfield 31, 3) := by decide +kernel
theorem dX6_size_4 : decode cX6_size 4 = .ok (.ireturn, 1) := by decide +kernel
theorem dX6_add_0 : decode cX6_add 0 = .ok (.aload_n 0, 1) := by decide +kernel
theorem dX6_add_1 : decode cX6_add 1 = .ok (.getfield 31, 3) := by decide +kernel
theorem dX6_add_4 : decode cX6_add 4 = .ok (.sipush 200, 3) := by decide +kernel
theorem dX6_add_7 : decode cX6_add 7 = .ok (.if_icmp .lt 4, 3) := by decide +kernel
theorem dX6_add_10 : decode cX6_add 10 = .ok (.return_, 1) := by decide +kernel
theorem dX6_add_11 : decode cX6_add 11 = .ok (.aload_n 0, 1) := by decide +kernel
theorem dX6_add_12 : decode cX6_add 12 = .ok (.getfield 11, 3) := by decide +kernel
theorem dX6_add_15 : decode cX6_add 15 = .ok (.aload_n 0, 1) := by decide +kernel
theorem dX6_add_16 : decode cX6_add 16 = .ok (.getfield 31, 3) := by decide +kernel
theorem dX6_add_19 : decode cX6_add 19 = .ok (.lload_n 1, 1) := by decide +kernel
theorem dX6_add_20 : decode cX6_add 20 = .ok (.lastore, 1) := by decide +kernel
theorem dX6_add_21 : decode cX6_add 21 = .ok (.aload_n 0, 1) := by decide +kernel
theorem dX6_add_22 : decode cX6_add 22 = .ok (.getfield 15, 3) := by decide +kernel
theorem dX6_add_25 : decode cX6_add 25 = .ok (.aload_n 0, 1) := by decide +kernel
theorem dX6_add_26 : decode cX6_add 26 = .ok (.getfield 31, 3) := by decide +kernel
theorem dX6_add_29 : decode cX6_add 29 = .ok (.iload_n 3, 1) := by decide +kernel
theorem dX6_add_30 : decode cX6_add 30 = .ok (.iastore, 1) := by decide +kernel
theorem dX6_add_31 : decode cX6_add 31 = .ok (.aload_n 0, 1) := by decide +kernel
theorem dX6_add_32 : decode cX6_add 32 = .ok (.getfield 19, 3) := by decide +kernel
theorem dX6_add_35 : decode cX6_add 35 = .ok (.aload_n 0, 1) := by decide +kernel
theorem dX6_add_36 : decode cX6_add 36 = .ok (.getfield 31, 3) := by decide +kernel
theorem dX6_add_39 : decode cX6_add 39 = .ok (.iload 4, 2) := by decide +kernel
theorem dX6_add_41 : decode cX6_add 41 = .ok (.iastore, 1) := by decide +kernel
theorem dX6_add_42 : decode cX6_add 42 = .ok (.aload_n 0, 1) := by decide +kernel
theorem dX6_add_43 : decode cX6_add 43 = .ok (.getfield 22, 3) := by decide +kernel
theorem dX6_add_46 : decode cX6_add 46 = .ok (.aload_n 0, 1) := by decide +kernel
theorem dX6_add_47 : decode cX6_add 47 = .ok (.getfield 31, 3) := by decide +kernel
theorem dX6_add_50 : decode cX6_add 50 = .ok (.iload 5, 2) := by decide +kernel
theorem dX6_add_52 : decode cX6_add 52 = .ok (.iastore, 1) := by decide +kernel
theorem dX6_add_53 : decode cX6_add 53 = .ok (.aload_n 0, 1) := by decide +kernel
theorem dX6_add_54 : decode cX6_add 54 = .ok (.getfield 25, 3) := by decide +kernel
theorem dX6_add_57 : decode cX6_add 57 = .ok (.aload_n 0, 1) := by decide +kernel
theorem dX6_add_58 : decode cX6_add 58 = .ok (.getfield 31, 3) := by decide +kernel
theorem dX6_add_61 : decode cX6_add 61 = .ok (.iload 6, 2) := by decide +kernel
theorem dX6_add_63 : decode cX6_add 63 = .ok (.iastore, 1) := by decide +kernel
theorem dX6_add_64 : decode cX6_add 64 = .ok (.aload_n 0, 1) := by decide +kernel
theorem dX6_add_65 : decode cX6_add 65 = .ok (.dup, 1) := by decide +kernel
theorem dX6_add_66 : decode cX6_add 66 = .ok (.getfield 31, 3) := by decide +kernel
theorem dX6_add_69 : decode cX6_add 69 = .ok (.iconst 1, 1) := by decide +kernel
theorem dX6_add_70 : decode cX6_add 70 = .ok (.iadd, 1) := by decide +kernel
theorem dX6_add_71 : decode cX6_add 71 = .ok (.putfield 31, 3) := by decide +kernel
theorem dX6_add_74 : decode cX6_add 74 = .ok (.return_, 1) := by decide +kernel
set_option maxRecDepth 20000 in
theorem ggX6_serialOf_X8_isIndex : GoodIn wsX6_serialOf wsX8_isIndex := goodIn_r _ [6] (by decide +kernel) (by decide +kernel)
set_option maxRecDepth 20000 in
theorem gX6_serialOf_X8_isIndex_n35 : GoodIn wsX6_serialOf (wsX8_isIndex) := ggX6_serialOf_X8_isIndex
theorem dX6_serialOf_0 : decode cX6_serialOf 0 = .ok (.iload_n 1, 1) := by decide +kernel
theorem dX6_serialOf_1 : decode cX6_serialOf 1 = .ok (.aload_n 0, 1) := by decide +kernel
theorem dX6_serialOf_2 : decode cX6_serialOf 2 = .ok (.getfield 31, 3) := by decide +kernel
theorem dX6_serialOf_5 : decode cX6_serialOf 5 = .ok (.invokestatic 35, 3) := by decide +kernel
theorem dX6_serialOf_8 : decode cX6_serialOf 8 = .ok (.ifCond .eq 12, 3) := by decide +kernel
theorem dX6_serialOf_11 : decode cX6_serialOf 11 = .ok (.aload_n 0, 1) := by decide +kernel
theorem dX6_serialOf_12 : decode cX6_serialOf 12 = .ok (.getfield 11, 3) := by decide +kernel
theorem dX6_serialOf_15 : decode cX6_serialOf 15 = .ok (.iload_n 1, 1) := by decide +kernel
theorem dX6_serialOf_16 : decode cX6_serialOf 16 = .ok (.laload, 1) := by decide +kernel
theorem dX6_serialOf_17 : decode cX6_serialOf 17 = .ok (.goto 6, 3) := by decide +kernel
theorem dX6_serialOf_20 : decode cX6_serialOf 20 = .ok (.ldc2_w 39, 3) := by decide +kernel
theorem dX6_serialOf_23 : decode cX6_serialOf 23 = .ok (.lreturn, 1) := by decide +kernel
set_option maxRecDepth 20000 in
theorem ggX6_payerOf_X8_isIndex : GoodIn wsX6_payerOf wsX8_isIndex := goodIn_r _ [5] (by decide +kernel) (by decide +kernel)
set_option maxRecDepth 20000 in
theorem gX6_payerOf_X8_isIndex_n35 : GoodIn wsX6_payerOf (wsX8_isIndex) := ggX6_payerOf_X8_isIndex
theorem dX6_payerOf_0 : decode cX6_payerOf 0 = .ok (.iload_n 1, 1) := by decide +kernel
theorem dX6_payerOf_1 : decode cX6_payerOf 1 = .ok (.aload_n 0, 1) := by decide +kernel
theorem dX6_payerOf_2 : decode cX6_payerOf 2 = .ok (.getfield 31, 3) := by decide +kernel
theorem dX6_payerOf_5 : decode cX6_payerOf 5 = .ok (.invokestatic 35, 3) := by decide +kernel
theorem dX6_payerOf_8 : decode cX6_payerOf 8 = .ok (.ifCond .eq 12, 3) := by decide +kernel
theorem dX6_payerOf_11 : decode cX6_payerOf 11 = .ok (.aload_n 0, 1) := by decide +kernel
theorem dX6_payerOf_12 : decode cX6_payerOf 12 = .ok (.getfield 15, 3) := by decide +kernel
theorem dX6_payerOf_15 : decode cX6_payerOf 15 = .ok (.iload_n 1, 1) := by decide +kernel
theorem dX6_payerOf_16 : decode cX6_payerOf 16 = .ok (.iaload, 1) := by decide +kernel
theorem dX6_payerOf_17 : decode cX6_payerOf 17 = .ok (.goto 4, 3) := by decide +kernel
theorem dX6_payerOf_20 : decode cX6_payerOf 20 = .ok (.iconst (-1), 1) := by decide +kernel
theorem dX6_payerOf_21 : decode cX6_payerOf 21 = .ok (.ireturn, 1) := by decide +kernel
set_option maxRecDepth 20000 in
theorem ggX6_isOf_X8_isIndex : GoodIn wsX6_isOf wsX8_isIndex := goodIn_r _ [5] (by decide +kernel) (by decide +kernel)
set_option maxRecDepth 20000 in
theorem gX6_isOf_X8_isIndex_n35 : GoodIn wsX6_isOf (wsX8_isIndex) := ggX6_isOf_X8_isIndex
theorem dX6_isOf_0 : decode cX6_isOf 0 = .ok (.iload_n 1, 1) := by decide +kernel
theorem dX6_isOf_1 : decode cX6_isOf 1 = .ok (.aload_n 0, 1) := by decide +kernel
theorem dX6_isOf_2 : decode cX6_isOf 2 = .ok (.getfield 31, 3) := by decide +kernel
theorem dX6_isOf_5 : decode cX6_isOf 5 = .ok (.invokestatic 35, 3) := by decide +kernel
theorem dX6_isOf_8 : decode cX6_isOf 8 = .ok (.ifCond .eq 17, 3) := by decide +kernel
theorem dX6_isOf_11 : decode cX6_isOf 11 = .ok (.aload_n 0, 1) := by decide +kernel
theorem dX6_isOf_12 : decode cX6_isOf 12 = .ok (.getfield 19, 3) := by decide +kernel
theorem dX6_isOf_15 : decode cX6_isOf 15 = .ok (.iload_n 1, 1) := by decide +kernel
theorem dX6_isOf_16 : decode cX6_isOf 16 = .ok (.iaload, 1) := by decide +kernel
theorem dX6_isOf_17 : decode cX6_isOf 17 = .ok (.iload_n 2, 1) := by decide +kernel
theorem dX6_isOf_18 : decode cX6_isOf 18 = .ok (.if_icmp .ne 7, 3) := by decide +kernel
theorem dX6_isOf_21 : decode cX6_isOf 21 = .ok (.iconst 1, 1) := by decide +kernel
theorem dX6_isOf_22 : decode cX6_isOf 22 = .ok (.goto 4, 3) := by decide +kernel
theorem dX6_isOf_25 : decode cX6_isOf 25 = .ok (.iconst 0, 1) := by decide +kernel
theorem dX6_isOf_26 : decode cX6_isOf 26 = .ok (.ireturn, 1) := by decide +kernel
theorem dX6_find_0 : decode cX6_find 0 = .ok (.iconst 0, 1) := by decide +kernel
theorem dX6_find_1 : decode cX6_find 1 = .ok (.istore 4, 2) := by decide +kernel
theorem dX6_find_3 : decode cX6_find 3 = .ok (.iload 4, 2) := by decide +kernel
theorem dX6_find_5 : decode cX6_find 5 = .ok (.aload_n 0, 1) := by decide +kernel
theorem dX6_find_6 : decode cX6_find 6 = .ok (.getfield 31, 3) := by decide +kernel
theorem dX6_find_9 : decode cX6_find 9 = .ok (.if_icmp .ge 35, 3) := by decide +kernel
theorem dX6_find_12 : decode cX6_find 12 = .ok (.aload_n 0, 1) := by decide +kernel
theorem dX6_find_13 : decode cX6_find 13 = .ok (.getfield 11, 3) := by decide +kernel
theorem dX6_find_16 : decode cX6_find 16 = .ok (.iload 4, 2) := by decide +kernel
theorem dX6_find_18 : decode cX6_find 18 = .ok (.laload, 1) := by decide +kernel
theorem dX6_find_19 : decode cX6_find 19 = .ok (.lload_n 1, 1) := by decide +kernel
theorem dX6_find_20 : decode cX6_find 20 = .ok (.lcmp, 1) := by decide +kernel
theorem dX6_find_21 : decode cX6_find 21 = .ok (.ifCond .ne 17, 3) := by decide +kernel
theorem dX6_find_24 : decode cX6_find 24 = .ok (.aload_n 0, 1) := by decide +kernel
theorem dX6_find_25 : decode cX6_find 25 = .ok (.getfield 19, 3) := by decide +kernel
theorem dX6_find_28 : decode cX6_find 28 = .ok (.iload 4, 2) := by decide +kernel
theorem dX6_find_30 : decode cX6_find 30 = .ok (.iaload, 1) := by decide +kernel
theorem dX6_find_31 : decode cX6_find 31 = .ok (.iload_n 3, 1) := by decide +kernel
theorem dX6_find_32 : decode cX6_find 32 = .ok (.if_icmp .ne 6, 3) := by decide +kernel
theorem dX6_find_35 : decode cX6_find 35 = .ok (.iload 4, 2) := by decide +kernel
theorem dX6_find_37 : decode cX6_find 37 = .ok (.ireturn, 1) := by decide +kernel
theorem dX6_find_38 : decode cX6_find 38 = .ok (.iinc 4 1, 3) := by decide +kernel
theorem dX6_find_41 : decode cX6_find 41 = .ok (.goto (-38), 3) := by decide +kernel
theorem dX6_find_44 : decode cX6_find 44 = .ok (.iconst (-1), 1) := by decide +kernel
theorem dX6_find_45 : decode cX6_find 45 = .ok (.ireturn, 1) := by decide +kernel
set_option maxRecDepth 20000 in
theorem ggX6_leaveSet_X8_isIndex : GoodIn wsX6_leaveSet wsX8_isIndex := goodIn_r _ [5] (by decide +kernel) (by decide +kernel)
set_option maxRecDepth 20000 in
theorem gX6_leaveSet_X8_isIndex_n35 : GoodIn wsX6_leaveSet (wsX8_isIndex) := ggX6_leaveSet_X8_isIndex
theorem dX6_leaveSet_0 : decode cX6_leaveSet 0 = .ok (.iload_n 1, 1) := by decide +kernel
theorem dX6_leaveSet_1 : decode cX6_leaveSet 1 = .ok (.aload_n 0, 1) := by decide +kernel
theorem dX6_leaveSet_2 : decode cX6_leaveSet 2 = .ok (.getfield 31, 3) := by decide +kernel
theorem dX6_leaveSet_5 : decode cX6_leaveSet 5 = .ok (.invokestatic 35, 3) := by decide +kernel
theorem dX6_leaveSet_8 : decode cX6_leaveSet 8 = .ok (.ifCond .eq 10, 3) := by decide +kernel
theorem dX6_leaveSet_11 : decode cX6_leaveSet 11 = .ok (.aload_n 0, 1) := by decide +kernel
theorem dX6_leaveSet_12 : decode cX6_leaveSet 12 = .ok (.getfield 19, 3) := by decide +kernel
theorem dX6_leaveSet_15 : decode cX6_leaveSet 15 = .ok (.iload_n 1, 1) := by decide +kernel
theorem dX6_leaveSet_16 : decode cX6_leaveSet 16 = .ok (.iconst (-1), 1) := by decide +kernel
theorem dX6_leaveSet_17 : decode cX6_leaveSet 17 = .ok (.iastore, 1) := by decide +kernel
theorem dX6_leaveSet_18 : decode cX6_leaveSet 18 = .ok (.return_, 1) := by decide +kernel
theorem dX6_moveSet_0 : decode cX6_moveSet 0 = .ok (.iconst 0, 1) := by decide +kernel
theorem dX6_moveSet_1 : decode cX6_moveSet 1 = .ok (.istore_n 3, 1) := by decide +kernel
theorem dX6_moveSet_2 : decode cX6_moveSet 2 = .ok (.iload_n 3, 1) := by decide +kernel
theorem dX6_moveSet_3 : decode cX6_moveSet 3 = .ok (.aload_n 0, 1) := by decide +kernel
theorem dX6_moveSet_4 : decode cX6_moveSet 4 = .ok (.getfield 31, 3) := by decide +kernel
theorem dX6_moveSet_7 : decode cX6_moveSet 7 = .ok (.if_icmp .ge 26, 3) := by decide +kernel
theorem dX6_moveSet_10 : decode cX6_moveSet 10 = .ok (.aload_n 0, 1) := by decide +kernel
theorem dX6_moveSet_11 : decode cX6_moveSet 11 = .ok (.getfield 19, 3) := by decide +kernel
theorem dX6_moveSet_14 : decode cX6_moveSet 14 = .ok (.iload_n 3, 1) := by decide +kernel
theorem dX6_moveSet_15 : decode cX6_moveSet 15 = .ok (.iaload, 1) := by decide +kernel
theorem dX6_moveSet_16 : decode cX6_moveSet 16 = .ok (.iload_n 1, 1) := by decide +kernel
theorem dX6_moveSet_17 : decode cX6_moveSet 17 = .ok (.if_icmp .ne 10, 3) := by decide +kernel
theorem dX6_moveSet_20 : decode cX6_moveSet 20 = .ok (.aload_n 0, 1) := by decide +kernel
theorem dX6_moveSet_21 : decode cX6_moveSet 21 = .ok (.getfield 19, 3) := by decide +kernel
theorem dX6_moveSet_24 : decode cX6_moveSet 24 = .ok (.iload_n 3, 1) := by decide +kernel
theorem dX6_moveSet_25 : decode cX6_moveSet 25 = .ok (.iload_n 2, 1) := by decide +kernel
theorem dX6_moveSet_26 : decode cX6_moveSet 26 = .ok (.iastore, 1) := by decide +kernel
theorem dX6_moveSet_27 : decode cX6_moveSet 27 = .ok (.iinc 3 1, 3) := by decide +kernel
theorem dX6_moveSet_30 : decode cX6_moveSet 30 = .ok (.goto (-28), 3) := by decide +kernel
theorem dX6_moveSet_33 : decode cX6_moveSet 33 = .ok (.return_, 1) := by decide +kernel
theorem dX6_addRefusal_0 : decode cX6_addRefusal 0 = .ok (.iconst 0, 1) := by decide +kernel
theorem dX6_addRefusal_1 : decode cX6_addRefusal 1 = .ok (.istore_n 3, 1) := by decide +kernel
theorem dX6_addRefusal_2 : decode cX6_addRefusal 2 = .ok (.iload_n 3, 1) := by decide +kernel
theorem dX6_addRefusal_3 : decode cX6_addRefusal 3 = .ok (.aload_n 0, 1) := by decide +kernel
theorem dX6_addRefusal_4 : decode cX6_addRefusal 4 = .ok (.getfield 31, 3) := by decide +kernel
theorem dX6_addRefusal_7 : decode cX6_addRefusal 7 = .ok (.if_icmp .ge 37, 3) := by decide +kernel
theorem dX6_addRefusal_10 : decode cX6_addRefusal 10 = .ok (.aload_n 0, 1) := by decide +kernel
theorem dX6_addRefusal_11 : decode cX6_addRefusal 11 = .ok (.getfield 11, 3) := by decide +kernel
theorem dX6_addRefusal_14 : decode cX6_addRefusal 14 = .ok (.iload_n 3, 1) := by decide +kernel
theorem dX6_addRefusal_15 : decode cX6_addRefusal 15 = .ok (.laload, 1) := by decide +kernel
theorem dX6_addRefusal_16 : decode cX6_addRefusal 16 = .ok (.lload_n 1, 1) := by decide +kernel
theorem dX6_addRefusal_17 : decode cX6_addRefusal 17 = .ok (.lcmp, 1) := by decide +kernel
theorem dX6_addRefusal_18 : decode cX6_addRefusal 18 = .ok (.ifCond .ne 20, 3) := by decide +kernel
theorem dX6_addRefusal_21 : decode cX6_addRefusal 21 = .ok (.aload_n 0, 1) := by decide +kernel
theorem dX6_addRefusal_22 : decode cX6_addRefusal 22 = .ok (.getfield 28, 3) := by decide +kernel
theorem dX6_addRefusal_25 : decode cX6_addRefusal 25 = .ok (.iload_n 3, 1) := by decide +kernel
theorem dX6_addRefusal_26 : decode cX6_addRefusal 26 = .ok (.dup2, 1) := by decide +kernel
theorem dX6_addRefusal_27 : decode cX6_addRefusal 27 = .ok (.iaload, 1) := by decide +kernel
theorem dX6_addRefusal_28 : decode cX6_addRefusal 28 = .ok (.iconst 1, 1) := by decide +kernel
theorem dX6_addRefusal_29 : decode cX6_addRefusal 29 = .ok (.iadd, 1) := by decide +kernel
theorem dX6_addRefusal_30 : decode cX6_addRefusal 30 = .ok (.iastore, 1) := by decide +kernel
theorem dX6_addRefusal_31 : decode cX6_addRefusal 31 = .ok (.aload_n 0, 1) := by decide +kernel
theorem dX6_addRefusal_32 : decode cX6_addRefusal 32 = .ok (.getfield 28, 3) := by decide +kernel
theorem dX6_addRefusal_35 : decode cX6_addRefusal 35 = .ok (.iload_n 3, 1) := by decide +kernel
theorem dX6_addRefusal_36 : decode cX6_addRefusal 36 = .ok (.iaload, 1) := by decide +kernel
theorem dX6_addRefusal_37 : decode cX6_addRefusal 37 = .ok (.ireturn, 1) := by decide +kernel
theorem dX6_addRefusal_38 : decode cX6_addRefusal 38 = .ok (.iinc 3 1, 3) := by decide +kernel
theorem dX6_addRefusal_41 : decode cX6_addRefusal 41 = .ok (.goto (-39), 3) := by decide +kernel
theorem dX6_addRefusal_44 : decode cX6_addRefusal 44 = .ok (.iconst (-1), 1) := by decide +kernel
theorem dX6_addRefusal_45 : decode cX6_addRefusal 45 = .ok (.ireturn, 1) := by decide +kernel
theorem dX6_paidBy_0 : decode cX6_paidBy 0 = .ok (.iconst 0, 1) := by decide +kernel
theorem dX6_paidBy_1 : decode cX6_paidBy 1 = .ok (.istore_n 3, 1) := by decide +kernel
theorem dX6_paidBy_2 : decode cX6_paidBy 2 = .ok (.iconst 0, 1) := by decide +kernel
theorem dX6_paidBy_3 : decode cX6_paidBy 3 = .ok (.istore 4, 2) := by decide +kernel
theorem dX6_paidBy_5 : decode cX6_paidBy 5 = .ok (.iload 4, 2) := by decide +kernel
theorem dX6_paidBy_7 : decode cX6_paidBy 7 = .ok (.aload_n 0, 1) := by decide +kernel
theorem dX6_paidBy_8 : decode cX6_paidBy 8 = .ok (.getfield 31, 3) := by decide +kernel
theorem dX6_paidBy_11 : decode cX6_paidBy 11 = .ok (.if_icmp .ge 34, 3) := by decide +kernel
theorem dX6_paidBy_14 : decode cX6_paidBy 14 = .ok (.aload_n 0, 1) := by decide +kernel
theorem dX6_paidBy_15 : decode cX6_paidBy 15 = .ok (.getfield 15, 3) := by decide +kernel
theorem dX6_paidBy_18 : decode cX6_paidBy 18 = .ok (.iload 4, 2) := by decide +kernel
theorem dX6_paidBy_20 : decode cX6_paidBy 20 = .ok (.iaload, 1) := by decide +kernel
theorem dX6_paidBy_21 : decode cX6_paidBy 21 = .ok (.iload_n 1, 1) := by decide +kernel
theorem dX6_paidBy_22 : decode cX6_paidBy 22 = .ok (.if_icmp .ne 17, 3) := by decide +kernel
theorem dX6_paidBy_25 : decode cX6_paidBy 25 = .ok (.aload_n 0, 1) := by decide +kernel
theorem dX6_paidBy_26 : decode cX6_paidBy 26 = .ok (.getfield 22, 3) := by decide +kernel
theorem dX6_paidBy_29 : decode cX6_paidBy 29 = .ok (.iload 4, 2) := by decide +kernel
theorem dX6_paidBy_31 : decode cX6_paidBy 31 = .ok (.iaload, 1) := by decide +kernel
theorem dX6_paidBy_32 : decode cX6_paidBy 32 = .ok (.iload_n 2, 1) := by decide +kernel
theorem dX6_paidBy_33 : decode cX6_paidBy 33 = .ok (.if_icmp .ne 6, 3) := by decide +kernel
theorem dX6_paidBy_36 : decode cX6_paidBy 36 = .ok (.iinc 3 1, 3) := by decide +kernel
theorem dX6_paidBy_39 : decode cX6_paidBy 39 = .ok (.iinc 4 1, 3) := by decide +kernel
theorem dX6_paidBy_42 : decode cX6_paidBy 42 = .ok (.goto (-37), 3) := by decide +kernel
theorem dX6_paidBy_45 : decode cX6_paidBy 45 = .ok (.iload_n 3, 1) := by decide +kernel
theorem dX6_paidBy_46 : decode cX6_paidBy 46 = .ok (.ireturn, 1) := by decide +kernel
set_option maxRecDepth 20000 in
theorem ggX6_balance_X6_addTo : GoodIn wsX6_balance wsX6_addTo := goodIn_r _ [8, 9, 10, 11] (by decide +kernel) (by decide +kernel)
set_option maxRecDepth 20000 in
theorem gX6_balance_X6_addTo : GoodIn wsX6_balance (va_wsS RX6 41 yX6_addTo wsX6_addTo) := goodIn_app (goodIn_of _ (by decide +kernel)) ggX6_balance_X6_addTo
set_option maxRecDepth 20000 in
theorem ggX6_balance_X5_systemOfSerial : GoodIn wsX6_balance wsX5_systemOfSerial := goodIn_r _ [15, 16, 17] (by decide +kernel) (by decide +kernel)
set_option maxRecDepth 20000 in
theorem gX6_balance_X5_systemOfSerial : GoodIn wsX6_balance (va_wsS RX6 45 yX5_systemOfSerial wsX5_systemOfSerial) := goodIn_app (goodIn_of _ (by decide +kernel)) ggX6_balance_X5_systemOfSerial
theorem dX6_balance_0 : decode cX6_balance 0 = .ok (.iconst 0, 1) := by decide +kernel
theorem dX6_balance_1 : decode cX6_balance 1 = .ok (.istore_n 3, 1) := by decide +kernel
theorem dX6_balance_2 : decode cX6_balance 2 = .ok (.iload_n 3, 1) := by decide +kernel
theorem dX6_balance_3 : decode cX6_balance 3 = .ok (.aload_n 2, 1) := by decide +kernel
theorem dX6_balance_4 : decode cX6_balance 4 = .ok (.arraylength, 1) := by decide +kernel
theorem dX6_balance_5 : decode cX6_balance 5 = .ok (.if_icmp .ge 13, 3) := by decide +kernel
theorem dX6_balance_8 : decode cX6_balance 8 = .ok (.aload_n 2, 1) := by decide +kernel
theorem dX6_balance_9 : decode cX6_balance 9 = .ok (.iload_n 3, 1) := by decide +kernel
theorem dX6_balance_10 : decode cX6_balance 10 = .ok (.lconst 0, 1) := by decide +kernel
theorem dX6_balance_11 : decode cX6_balance 11 = .ok (.lastore, 1) := by decide +kernel
theorem dX6_balance_12 : decode cX6_balance 12 = .ok (.iinc 3 1, 3) := by decide +kernel
theorem dX6_balance_15 : decode cX6_balance 15 = .ok (.goto (-13), 3) := by decide +kernel
theorem dX6_balance_18 : decode cX6_balance 18 = .ok (.iconst 0, 1) := by decide +kernel
theorem dX6_balance_19 : decode cX6_balance 19 = .ok (.istore_n 3, 1) := by decide +kernel
theorem dX6_balance_20 : decode cX6_balance 20 = .ok (.iload_n 3, 1) := by decide +kernel
theorem dX6_balance_21 : decode cX6_balance 21 = .ok (.aload_n 0, 1) := by decide +kernel
theorem dX6_balance_22 : decode cX6_balance 22 = .ok (.getfield 31, 3) := by decide +kernel
theorem dX6_balance_25 : decode cX6_balance 25 = .ok (.if_icmp .ge 48, 3) := by decide +kernel
theorem dX6_balance_28 : decode cX6_balance 28 = .ok (.aload_n 0, 1) := by decide +kernel
theorem dX6_balance_29 : decode cX6_balance 29 = .ok (.getfield 25, 3) := by decide +kernel
theorem dX6_balance_32 : decode cX6_balance 32 = .ok (.iload_n 3, 1) := by decide +kernel
theorem dX6_balance_33 : decode cX6_balance 33 = .ok (.iaload, 1) := by decide +kernel
theorem dX6_balance_34 : decode cX6_balance 34 = .ok (.iload_n 1, 1) := by decide +kernel
theorem dX6_balance_35 : decode cX6_balance 35 = .ok (.if_icmp .ne 32, 3) := by decide +kernel
theorem dX6_balance_38 : decode cX6_balance 38 = .ok (.aload_n 2, 1) := by decide +kernel
theorem dX6_balance_39 : decode cX6_balance 39 = .ok (.aload_n 0, 1) := by decide +kernel
theorem dX6_balance_40 : decode cX6_balance 40 = .ok (.getfield 15, 3) := by decide +kernel
theorem dX6_balance_43 : decode cX6_balance 43 = .ok (.iload_n 3, 1) := by decide +kernel
theorem dX6_balance_44 : decode cX6_balance 44 = .ok (.iaload, 1) := by decide +kernel
theorem dX6_balance_45 : decode cX6_balance 45 = .ok (.iconst 3, 1) := by decide +kernel
theorem dX6_balance_46 : decode cX6_balance 46 = .ok (.irem, 1) := by decide +kernel
theorem dX6_balance_47 : decode cX6_balance 47 = .ok (.bipush (-25), 2) := by decide +kernel
theorem dX6_balance_49 : decode cX6_balance 49 = .ok (.invokestatic 41, 3) := by decide +kernel
theorem dX6_balance_52 : decode cX6_balance 52 = .ok (.aload_n 2, 1) := by decide +kernel
theorem dX6_balance_53 : decode cX6_balance 53 = .ok (.aload_n 0, 1) := by decide +kernel
theorem dX6_balance_54 : decode cX6_balance 54 = .ok (.getfield 11, 3) := by decide +kernel
theorem dX6_balance_57 : decode cX6_balance 57 = .ok (.iload_n 3, 1) := by decide +kernel
theorem dX6_balance_58 : decode cX6_balance 58 = .ok (.laload, 1) := by decide +kernel
theorem dX6_balance_59 : decode cX6_balance 59 = .ok (.invokestatic 45, 3) := by decide +kernel
theorem dX6_balance_62 : decode cX6_balance 62 = .ok (.bipush 25, 2) := by decide +kernel
theorem dX6_balance_64 : decode cX6_balance 64 = .ok (.invokestatic 41, 3) := by decide +kernel
theorem dX6_balance_67 : decode cX6_balance 67 = .ok (.iinc 3 1, 3) := by decide +kernel
theorem dX6_balance_70 : decode cX6_balance 70 = .ok (.goto (-50), 3) := by decide +kernel
theorem dX6_balance_73 : decode cX6_balance 73 = .ok (.return_, 1) := by decide +kernel
set_option maxRecDepth 20000 in
theorem ggX6_addTo_X8_isIndex : GoodIn wsX6_addTo wsX8_isIndex := goodIn_r _ [3] (by decide +kernel) (by decide +kernel)
set_option maxRecDepth 20000 in
theorem gX6_addTo_X8_isIndex_n35 : GoodIn wsX6_addTo (wsX8_isIndex) := ggX6_addTo_X8_isIndex
theorem dX6_addTo_0 : decode cX6_addTo 0 = .ok (.iload_n 1, 1) := by decide +kernel
theorem dX6_addTo_1 : decode cX6_addTo 1 = .ok (.aload_n 0, 1) := by decide +kernel
theorem dX6_addTo_2 : decode cX6_addTo 2 = .ok (.arraylength, 1) := by decide +kernel
theorem dX6_addTo_3 : decode cX6_addTo 3 = .ok (.invokestatic 35, 3) := by decide +kernel
theorem dX6_addTo_6 : decode cX6_addTo 6 = .ok (.ifCond .eq 11, 3) := by decide +kernel
theorem dX6_addTo_9 : decode cX6_addTo 9 = .ok (.aload_n 0, 1) := by decide +kernel
theorem dX6_addTo_10 : decode cX6_addTo 10 = .ok (.iload_n 1, 1) := by decide +kernel
theorem dX6_addTo_11 : decode cX6_addTo 11 = .ok (.dup2, 1) := by decide +kernel
theorem dX6_addTo_12 : decode cX6_addTo 12 = .ok (.laload, 1) := by decide +kernel
theorem dX6_addTo_13 : decode cX6_addTo 13 = .ok (.iload_n 2, 1) := by decide +kernel
theorem dX6_addTo_14 : decode cX6_addTo 14 = .ok (.i2l, 1) := by decide +kernel
theorem dX6_addTo_15 : decode cX6_addTo 15 = .ok (.ladd, 1) := by decide +kernel
theorem dX6_addTo_16 : decode cX6_addTo 16 = .ok (.lastore, 1) := by decide +kernel
theorem dX6_addTo_17 : decode cX6_addTo 17 = .ok (.return_, 1) := by decide +kernel
theorem dX7_init_0 : decode cX7_init 0 = .ok (.aload_n 0, 1) := by decide +kernel
theorem dX7_init_1 : decode cX7_init 1 = .ok (.invokespecial 1, 3) := by decide +kernel
theorem dX7_init_4 : decode cX7_init 4 = .ok (.aload_n 0, 1) := by decide +kernel
theorem dX7_init_5 : decode cX7_init 5 = .ok (.bipush 8, 2) := by decide +kernel
theorem dX7_init_7 : decode cX7_init 7 = .ok (.newarray .boolean, 2) := by decide +kernel
theorem dX7_init_9 : decode cX7_init 9 = .ok (.putfield 9, 3) := by decide +kernel
theorem dX7_init_12 : decode cX7_init 12 = .ok (.aload_n 0, 1) := by decide +kernel
theorem dX7_init_13 : decode cX7_init 13 = .ok (.bipush 8, 2) := by decide +kernel
theorem dX7_init_15 : decode cX7_init 15 = .ok (.newarray .int, 2) := by decide +kernel
theorem dX7_init_17 : decode cX7_init 17 = .ok (.putfield 13, 3) := by decide +kernel
theorem dX7_init_20 : decode cX7_init 20 = .ok (.aload_n 0, 1) := by decide +kernel
theorem dX7_init_21 : decode cX7_init 21 = .ok (.bipush 8, 2) := by decide +kernel
theorem dX7_init_23 : decode cX7_init 23 = .ok (.newarray .int, 2) := by decide +kernel
theorem dX7_init_25 : decode cX7_init 25 = .ok (.putfield 17, 3) := by decide +kernel
theorem dX7_init_28 : decode cX7_init 28 = .ok (.return_, 1) := by decide +kernel
set_option maxRecDepth 20000 in
theorem ggX7_exists_X8_isIndex : GoodIn wsX7_exists wsX8_isIndex := goodIn_r _ [3] (by decide +kernel) (by decide +kernel)
set_option maxRecDepth 20000 in
theorem gX7_exists_X8_isIndex_n20 : GoodIn wsX7_exists (wsX8_isIndex) := ggX7_exists_X8_isIndex
theorem dX7_exists_0 : decode cX7_exists 0 = .ok (.iload_n 1, 1) := by decide +kernel
theorem dX7_exists_1 : decode cX7_exists 1 = .ok (.bipush 8, 2) := by decide +kernel
theorem dX7_exists_3 : decode cX7_exists 3 = .ok (.invokestatic 20, 3) := by decide +kernel
theorem dX7_exists_6 : decode cX7_exists 6 = .ok (.ireturn, 1) := by decide +kernel
set_option maxRecDepth 20000 in
theorem ggX7_tell_X7_exists : GoodIn wsX7_tell wsX7_exists := goodIn_r _ [9, 10, 11, 12] (by decide +kernel) (by decide +kernel)
set_option maxRecDepth 20000 in
theorem gX7_tell_X7_exists : GoodIn wsX7_tell (wsV RX7 26 RX7 yX7_exists wsX7_exists) := goodIn_app (goodIn_of _ (by decide +kernel)) ggX7_tell_X7_exists
theorem dX7_tell_0 : decode cX7_tell 0 = .ok (.aload_n 0, 1) := by decide +kernel
theorem dX7_tell_1 : decode cX7_tell 1 = .ok (.iload_n 1, 1) := by decide +kernel
theorem dX7_tell_2 : decode cX7_tell 2 = .ok (.invokevirtual 26, 3) := by decide +kernel
theorem dX7_tell_5 : decode cX7_tell 5 = .ok (.ifCond .eq 18, 3) := by decide +kernel
theorem dX7_tell_8 : decode cX7_tell 8 = .ok (.iload_n 2, 1) := by decide +kernel
theorem dX7_tell_9 : decode cX7_tell 9 = .ok (.ifCond .lt 14, 3) := by decide +kernel
theorem dX7_tell_12 : decode cX7_tell 12 = .ok (.iload_n 3, 1) := by decide +kernel
theorem dX7_tell_13 : decode cX7_tell 13 = .ok (.ldc 30, 2) := by decide +kernel
theorem dX7_tell_15 : decode cX7_tell 15 = .ok (.if_icmp .gt 8, 3) := by decide +kernel
theorem dX7_tell_18 : decode cX7_tell 18 = .ok (.iload_n 2, 1) := by decide +kernel
theorem dX7_tell_19 : decode cX7_tell 19 = .ok (.iload_n 3, 1) := by decide +kernel
theorem dX7_tell_20 : decode cX7_tell 20 = .ok (.if_icmp .le 5, 3) := by decide +kernel
theorem dX7_tell_23 : decode cX7_tell 23 = .ok (.iconst 0, 1) := by decide +kernel
theorem dX7_tell_24 : decode cX7_tell 24 = .ok (.ireturn, 1) := by decide +kernel
theorem dX7_tell_25 : decode cX7_tell 25 = .ok (.aload_n 0, 1) := by decide +kernel
theorem dX7_tell_26 : decode cX7_tell 26 = .ok (.getfield 9, 3) := by decide +kernel
theorem dX7_tell_29 : decode cX7_tell 29 = .ok (.iload_n 1, 1) := by decide +kernel
theorem dX7_tell_30 : decode cX7_tell 30 = .ok (.iconst 1, 1) := by decide +kernel
theorem dX7_tell_31 : decode cX7_tell 31 = .ok (.bastore, 1) := by decide +kernel
theorem dX7_tell_32 : decode cX7_tell 32 = .ok (.aload_n 0, 1) := by decide +kernel
theorem dX7_tell_33 : decode cX7_tell 33 = .ok (.getfield 13, 3) := by decide +kernel
theorem dX7_tell_36 : decode cX7_tell 36 = .ok (.iload_n 1, 1) := by decide +kernel
theorem dX7_tell_37 : decode cX7_tell 37 = .ok (.iload_n 2, 1) := by decide +kernel
theorem dX7_tell_38 : decode cX7_tell 38 = .ok (.iastore, 1) := by decide +kernel
theorem dX7_tell_39 : decode cX7_tell 39 = .ok (.aload_n 0, 1) := by decide +kernel
theorem dX7_tell_40 : decode cX7_tell 40 = .ok (.getfield 17, 3) := by decide +kernel
theorem dX7_tell_43 : decode cX7_tell 43 = .ok (.iload_n 1, 1) := by decide +kernel
theorem dX7_tell_44 : decode cX7_tell 44 = .ok (.iload_n 3, 1) := by decide +kernel
theorem dX7_tell_45 : decode cX7_tell 45 = .ok (.iastore, 1) := by decide +kernel
theorem dX7_tell_46 : decode cX7_tell 46 = .ok (.iconst 1, 1) := by decide +kernel
theorem dX7_tell_47 : decode cX7_tell 47 = .ok (.ireturn, 1) := by decide +kernel
set_option maxRecDepth 20000 in
theorem ggX7_isTold_X7_exists : GoodIn wsX7_isTold wsX7_exists := goodIn_r _ [6, 7, 8, 9] (by decide +kernel) (by decide +kernel)
set_option maxRecDepth 20000 in
theorem gX7_isTold_X7_exists : GoodIn wsX7_isTold (wsV RX7 26 RX7 yX7_exists wsX7_exists) := goodIn_app (goodIn_of _ (by decide +kernel)) ggX7_isTold_X7_exists
theorem dX7_isTold_0 : decode cX7_isTold 0 = .ok (.aload_n 0, 1) := by decide +kernel
theorem dX7_isTold_1 : decode cX7_isTold 1 = .ok (.iload_n 1, 1) := by decide +kernel
theorem dX7_isTold_2 : decode cX7_isTold 2 = .ok (.invokevirtual 26, 3) := by decide +kernel
theorem dX7_isTold_5 : decode cX7_isTold 5 = .ok (.ifCond .eq 16, 3) := by decide +kernel
theorem dX7_isTold_8 : decode cX7_isTold 8 = .ok (.aload_n 0, 1) := by decide +kernel
theorem dX7_isTold_9 : decode cX7_isTold 9 = .ok (.getfield 9, 3) := by decide +kernel
theorem dX7_isTold_12 : decode cX7_isTold 12 = .ok (.iload_n 1, 1) := by decide +kernel
theorem dX7_isTold_13 : decode cX7_isTold 13 = .ok (.baload, 1) := by decide +kernel
theorem dX7_isTold_14 : decode cX7_isTold 14 = .ok (.ifCond .eq 7, 3) := by decide +kernel
theorem dX7_isTold_17 : decode cX7_isTold 17 = .ok (.iconst 1, 1) := by decide +kernel
theorem dX7_isTold_18 : decode cX7_isTold 18 = .ok (.goto 4, 3) := by decide +kernel
theorem dX7_isTold_21 : decode cX7_isTold 21 = .ok (.iconst 0, 1) := by decide +kernel
theorem dX7_isTold_22 : decode cX7_isTold 22 = .ok (.ireturn, 1) := by decide +kernel
set_option maxRecDepth 20000 in
theorem ggX7_holds_X7_isTold : GoodIn wsX7_holds wsX7_isTold := goodIn_r _ [7, 8, 9, 10, 11, 6, 12, 13, 14, 15, 16, 17, 18] (by decide +kernel) (by decide +kernel)
set_option maxRecDepth 20000 in
theorem gX7_holds_X7_isTold : GoodIn wsX7_holds (wsV RX7 31 RX7 yX7_isTold wsX7_isTold) := goodIn_app (goodIn_of _ (by decide +kernel)) ggX7_holds_X7_isTold
theorem dX7_holds_0 : decode cX7_holds 0 = .ok (.aload_n 0, 1) := by decide +kernel
theorem dX7_holds_1 : decode cX7_holds 1 = .ok (.iload_n 1, 1) := by decide +kernel
theorem dX7_holds_2 : decode cX7_holds 2 = .ok (.invokevirtual 31, 3) := by decide +kernel
theorem dX7_holds_5 : decode cX7_holds 5 = .ok (.ifCond .eq 27, 3) := by decide +kernel
theorem dX7_holds_8 : decode cX7_holds 8 = .ok (.iload_n 2, 1) := by decide +kernel
theorem dX7_holds_9 : decode cX7_holds 9 = .ok (.aload_n 0, 1) := by decide +kernel
theorem dX7_holds_10 : decode cX7_holds 10 = .ok (.getfield 13, 3) := by decide +kernel
theorem dX7_holds_13 : decode cX7_holds 13 = .ok (.iload_n 1, 1) := by decide +kernel
theorem dX7_holds_14 : decode cX7_holds 14 = .ok (.iaload, 1) := by decide +kernel
theorem dX7_holds_15 : decode cX7_holds 15 = .ok (.if_icmp .lt 17, 3) := by decide +kernel
theorem dX7_holds_18 : decode cX7_holds 18 = .ok (.iload_n 2, 1) := by decide +kernel
theorem dX7_holds_19 : decode cX7_holds 19 = .ok (.aload_n 0, 1) := by decide +kernel
theorem dX7_holds_20 : decode cX7_holds 20 = .ok (.getfield 17, 3) := by decide +kernel
theorem dX7_holds_23 : decode cX7_holds 23 = .ok (.iload_n 1, 1) := by decide +kernel
theorem dX7_holds_24 : decode cX7_holds 24 = .ok (.iaload, 1) := by decide +kernel
theorem dX7_holds_25 : decode cX7_holds 25 = .ok (.if_icmp .gt 7, 3) := by decide +kernel
theorem dX7_holds_28 : decode cX7_holds 28 = .ok (.iconst 1, 1) := by decide +kernel
theorem dX7_holds_29 : decode cX7_holds 29 = .ok (.goto 4, 3) := by decide +kernel
theorem dX7_holds_32 : decode cX7_holds 32 = .ok (.iconst 0, 1) := by decide +kernel
theorem dX7_holds_33 : decode cX7_holds 33 = .ok (.ireturn, 1) := by decide +kernel
theorem dJx00060_init_da8c8_0 : decode cJx00060_init_da8c8 0 = .ok (.aload_n 0, 1) := by decide +kernel
theorem dJx00060_init_da8c8_1 : decode cJx00060_init_da8c8 1 = .ok (.invokespecial 1, 3) := by decide +kernel
theorem dJx00060_init_da8c8_4 : decode cJx00060_init_da8c8 4 = .ok (.return_, 1) := by decide +kernel
end
section
set_option maxRecDepth 20000 in
theorem ggX8_init_X0_init : GoodIn wsX8_init wsX0_init := goodIn_r _ [37, 38, 2, 3, 39, 40, 41, 42, 93, 94, 95] (by decide +kernel) (by decide +kernel)
set_option maxRecDepth 20000 in
theorem gX8_init_X0_init : GoodIn wsX8_init (wsX0_init) := ggX8_init_X0_init
set_option maxRecDepth 20000 in
theorem ggX8_init_X4_init : GoodIn wsX8_init wsX4_init := goodIn_r _ [45, 46, 2, 3, 47, 48, 49, 39, 50, 51, 52, 105, 106, 107, 108, 109] (by decide +kernel) (by decide +kernel)
set_option maxRecDepth 20000 in
theorem gX8_init_X4_init : GoodIn wsX8_init (wsX4_init) := ggX8_init_X4_init
set_option maxRecDepth 20000 in
theorem ggX8_init_X7_init : GoodIn wsX8_init wsX7_init := goodIn_r _ [55, 56, 2, 3, 47, 57, 39, 58, 59, 110, 111, 112] (by decide +kernel) (by decide +kernel)
set_option maxRecDepth 20000 in
theorem gX8_init_X7_init : GoodIn wsX8_init (wsX7_init) := ggX8_init_X7_init
set_option maxRecDepth 20000 in
theorem ggX8_init_X6_init : GoodIn wsX8_init wsX6_init := goodIn_r _ [62, 63, 2, 3, 32, 64, 39, 65, 66, 67, 68, 69, 70, 113, 114, 115, 116, 117, 118, 119] (by decide +kernel) (by decide +kernel)
set_option maxRecDepth 20000 in
theorem gX8_init_X6_init : GoodIn wsX8_init (wsX6_init) := ggX8_init_X6_init
set_option maxRecDepth 20000 in
theorem ggX8_init_X2_init : GoodIn wsX8_init wsX2_init := goodIn_r _ [73, 74, 2, 3, 32, 75, 39, 76, 77, 78, 120, 121, 122, 123] (by decide +kernel) (by decide +kernel)
set_option maxRecDepth 20000 in
theorem gX8_init_X2_init : GoodIn wsX8_init (wsX2_init) := ggX8_init_X2_init
set_option maxRecDepth 20000 in
theorem ggX8_init_X1_init : GoodIn wsX8_init wsX1_init := goodIn_r _ [81, 82, 2, 3, 39, 83, 47, 84, 32, 85, 86, 124, 125, 126, 127] (by decide +kernel) (by decide +kernel)
set_option maxRecDepth 20000 in
theorem gX8_init_X1_init : GoodIn wsX8_init (wsX1_init) := ggX8_init_X1_init
set_option maxRecDepth 20000 in
theorem ggX8_init_X3_init : GoodIn wsX8_init wsX3_init := goodIn_r _ [89, 90, 2, 3, 39, 91, 92, 128, 129] (by decide +kernel) (by decide +kernel)
set_option maxRecDepth 20000 in
theorem gX8_init_X3_init : GoodIn wsX8_init (wsX3_init) := ggX8_init_X3_init
theorem dX8_init_0 : decode cX8_init 0 = .ok (.aload_n 0, 1) := by decide +kernel
theorem dX8_init_1 : decode cX8_init 1 = .ok (.invokespecial 1, 3) := by decide +kernel
theorem dX8_init_4 : decode cX8_init 4 = .ok (.aload_n 0, 1) := by decide +kernel
theorem dX8_init_5 : decode cX8_init 5 = .ok (.new 7, 3) := by decide +kernel
theorem dX8_init_8 : decode cX8_init 8 = .ok (.dup, 1) := by decide +kernel
theorem dX8_init_9 : decode cX8_init 9 = .ok (.invokespecial 9, 3) := by decide +kernel
theorem dX8_init_12 : decode cX8_init 12 = .ok (.putfield 10, 3) := by decide +kernel
theorem dX8_init_15 : decode cX8_init 15 = .ok (.aload_n 0, 1) := by decide +kernel
theorem dX8_init_16 : decode cX8_init 16 = .ok (.new 16, 3) := by decide +kernel
theorem dX8_init_19 : decode cX8_init 19 = .ok (.dup, 1) := by decide +kernel
theorem dX8_init_20 : decode cX8_init 20 = .ok (.invokespecial 18, 3) := by decide +kernel
theorem dX8_init_23 : decode cX8_init 23 = .ok (.putfield 19, 3) := by decide +kernel
theorem dX8_init_26 : decode cX8_init 26 = .ok (.aload_n 0, 1) := by decide +kernel
theorem dX8_init_27 : decode cX8_init 27 = .ok (.new 23, 3) := by decide +kernel
theorem dX8_init_30 : decode cX8_init 30 = .ok (.dup, 1) := by decide +kernel
theorem dX8_init_31 : decode cX8_init 31 = .ok (.invokespecial 25, 3) := by decide +kernel
theorem dX8_init_34 : decode cX8_init 34 = .ok (.putfield 26, 3) := by decide +kernel
theorem dX8_init_37 : decode cX8_init 37 = .ok (.aload_n 0, 1) := by decide +kernel
theorem dX8_init_38 : decode cX8_init 38 = .ok (.new 30, 3) := by decide +kernel
theorem dX8_init_41 : decode cX8_init 41 = .ok (.dup, 1) := by decide +kernel
theorem dX8_init_42 : decode cX8_init 42 = .ok (.invokespecial 32, 3) := by decide +kernel
theorem dX8_init_45 : decode cX8_init 45 = .ok (.putfield 33, 3) := by decide +kernel
theorem dX8_init_48 : decode cX8_init 48 = .ok (.aload_n 0, 1) := by decide +kernel
theorem dX8_init_49 : decode cX8_init 49 = .ok (.new 37, 3) := by decide +kernel
theorem dX8_init_52 : decode cX8_init 52 = .ok (.dup, 1) := by decide +kernel
theorem dX8_init_53 : decode cX8_init 53 = .ok (.invokespecial 39, 3) := by decide +kernel
theorem dX8_init_56 : decode cX8_init 56 = .ok (.putfield 40, 3) := by decide +kernel
theorem dX8_init_59 : decode cX8_init 59 = .ok (.aload_n 0, 1) := by decide +kernel
theorem dX8_init_60 : decode cX8_init 60 = .ok (.new 44, 3) := by decide +kernel
theorem dX8_init_63 : decode cX8_init 63 = .ok (.dup, 1) := by decide +kernel
theorem dX8_init_64 : decode cX8_init 64 = .ok (.invokespecial 46, 3) := by decide +kernel
theorem dX8_init_67 : decode cX8_init 67 = .ok (.putfield 47, 3) := by decide +kernel
theorem dX8_init_70 : decode cX8_init 70 = .ok (.aload_n 0, 1) := by decide +kernel
theorem dX8_init_71 : decode cX8_init 71 = .ok (.new 51, 3) := by decide +kernel
theorem dX8_init_74 : decode cX8_init 74 = .ok (.dup, 1) := by decide +kernel
theorem dX8_init_75 : decode cX8_init 75 = .ok (.invokespecial 53, 3) := by decide +kernel
theorem dX8_init_78 : decode cX8_init 78 = .ok (.putfield 54, 3) := by decide +kernel
theorem dX8_init_81 : decode cX8_init 81 = .ok (.aload_n 0, 1) := by decide +kernel
theorem dX8_init_82 : decode cX8_init 82 = .ok (.iconst 3, 1) := by decide +kernel
theorem dX8_init_83 : decode cX8_init 83 = .ok (.newarray .long, 2) := by decide +kernel
theorem dX8_init_85 : decode cX8_init 85 = .ok (.putfield 58, 3) := by decide +kernel
theorem dX8_init_88 : decode cX8_init 88 = .ok (.aload_n 0, 1) := by decide +kernel
theorem dX8_init_89 : decode cX8_init 89 = .ok (.iconst 0, 1) := by decide +kernel
theorem dX8_init_90 : decode cX8_init 90 = .ok (.putfield 62, 3) := by decide +kernel
theorem dX8_init_93 : decode cX8_init 93 = .ok (.return_, 1) := by decide +kernel
set_option maxRecDepth 20000 in
theorem ggX8_width_X0_setWidth : GoodIn wsX8_width wsX0_setWidth := goodIn_r _ [6, 7, 8, 9, 10, 20, 21, 22] (by decide +kernel) (by decide +kernel)
set_option maxRecDepth 20000 in
theorem gX8_width_X0_setWidth : GoodIn wsX8_width (wsV RX8 66 RX0 yX0_setWidth wsX0_setWidth) := goodIn_app (goodIn_of _ (by decide +kernel)) ggX8_width_X0_setWidth
theorem dX8_width_0 : decode cX8_width 0 = .ok (.aload_n 0, 1) := by decide +kernel
theorem dX8_width_1 : decode cX8_width 1 = .ok (.getfield 10, 3) := by decide +kernel
theorem dX8_width_4 : decode cX8_width 4 = .ok (.iload_n 1, 1) := by decide +kernel
theorem dX8_width_5 : decode cX8_width 5 = .ok (.iload_n 2, 1) := by decide +kernel
theorem dX8_width_6 : decode cX8_width 6 = .ok (.invokevirtual 66, 3) := by decide +kernel
theorem dX8_width_9 : decode cX8_width 9 = .ok (.ireturn, 1) := by decide +kernel
set_option maxRecDepth 20000 in
theorem ggX8_read_X0_scan : GoodIn wsX8_read wsX0_scan := goodIn_r _ [6, 7, 8, 9, 10, 5, 11, 12, 13, 14, 15, 16, 17, 18, 19, 20, 21, 22, 23, 24, 25, 26, 27, 28, 29, 30, 31, 32, 33, 34, 35, 36, 37, 47, 48, 49] (by decide +kernel) (by decide +kernel)
set_option maxRecDepth 20000 in
theorem gX8_read_X0_scan : GoodIn wsX8_read (wsV RX8 70 RX0 yX0_scan wsX0_scan) := goodIn_app (goodIn_of _ (by decide +kernel)) ggX8_read_X0_scan
theorem dX8_read_0 : decode cX8_read 0 = .ok (.aload_n 0, 1) := by decide +kernel
theorem dX8_read_1 : decode cX8_read 1 = .ok (.getfield 10, 3) := by decide +kernel
theorem dX8_read_4 : decode cX8_read 4 = .ok (.iconst 0, 1) := by decide +kernel
theorem dX8_read_5 : decode cX8_read 5 = .ok (.invokevirtual 70, 3) := by decide +kernel
theorem dX8_read_8 : decode cX8_read 8 = .ok (.ireturn, 1) := by decide +kernel
set_option maxRecDepth 20000 in
theorem ggX8_back_X0_scan : GoodIn wsX8_back wsX0_scan := goodIn_r _ [6, 7, 8, 9, 10, 5, 11, 12, 13, 14, 15, 16, 17, 18, 19, 20, 21, 22, 23, 24, 25, 26, 27, 28, 29, 30, 31, 32, 33, 34, 35, 36, 37, 47, 48, 49] (by decide +kernel) (by decide +kernel)
set_option maxRecDepth 20000 in
theorem gX8_back_X0_scan : GoodIn wsX8_back (wsV RX8 70 RX0 yX0_scan wsX0_scan) := goodIn_app (goodIn_of _ (by decide +kernel)) ggX8_back_X0_scan
theorem dX8_back_0 : decode cX8_back 0 = .ok (.aload_n 0, 1) := by decide +kernel
theorem dX8_back_1 : decode cX8_back 1 = .ok (.getfield 10, 3) := by decide +kernel
theorem dX8_back_4 : decode cX8_back 4 = .ok (.iconst 1, 1) := by decide +kernel
theorem dX8_back_5 : decode cX8_back 5 = .ok (.invokevirtual 70, 3) := by decide +kernel
theorem dX8_back_8 : decode cX8_back 8 = .ok (.ireturn, 1) := by decide +kernel
set_option maxRecDepth 20000 in
theorem ggX8_digit_X0_digitAt : GoodIn wsX8_digit wsX0_digitAt := goodIn_r _ [9, 10, 11, 12, 13, 14, 30, 31, 32] (by decide +kernel) (by decide +kernel)
set_option maxRecDepth 20000 in
theorem gX8_digit_X0_digitAt : GoodIn wsX8_digit (wsV RX8 74 RX0 yX0_digitAt wsX0_digitAt) := goodIn_app (goodIn_of _ (by decide +kernel)) ggX8_digit_X0_digitAt
theorem dX8_digit_0 : decode cX8_digit 0 = .ok (.aload_n 0, 1) := by decide +kernel
theorem dX8_digit_1 : decode cX8_digit 1 = .ok (.getfield 10, 3) := by decide +kernel
theorem dX8_digit_4 : decode cX8_digit 4 = .ok (.iload_n 1, 1) := by decide +kernel
theorem dX8_digit_5 : decode cX8_digit 5 = .ok (.invokevirtual 74, 3) := by decide +kernel
theorem dX8_digit_8 : decode cX8_digit 8 = .ok (.istore_n 2, 1) := by decide +kernel
theorem dX8_digit_9 : decode cX8_digit 9 = .ok (.iload_n 2, 1) := by decide +kernel
theorem dX8_digit_10 : decode cX8_digit 10 = .ok (.iconst (-1), 1) := by decide +kernel
theorem dX8_digit_11 : decode cX8_digit 11 = .ok (.if_icmp .ne 11, 3) := by decide +kernel
theorem dX8_digit_14 : decode cX8_digit 14 = .ok (.new 78, 3) := by decide +kernel
theorem dX8_digit_17 : decode cX8_digit 17 = .ok (.dup, 1) := by decide +kernel
theorem dX8_digit_18 : decode cX8_digit 18 = .ok (.invokespecial 80, 3) := by decide +kernel
theorem dX8_digit_21 : decode cX8_digit 21 = .ok (.athrow, 1) := by decide +kernel
theorem dX8_digit_22 : decode cX8_digit 22 = .ok (.iload_n 2, 1) := by decide +kernel
theorem dX8_digit_23 : decode cX8_digit 23 = .ok (.ireturn, 1) := by decide +kernel
set_option maxRecDepth 20000 in
theorem ggX8_check_X5_isKind : GoodIn wsX8_check wsX5_isKind := goodIn_r _ [4, 5, 6, 7] (by decide +kernel) (by decide +kernel)
set_option maxRecDepth 20000 in
theorem gX8_check_X5_isKind : GoodIn wsX8_check (va_wsS RX8 81 yX5_isKind wsX5_isKind) := goodIn_app (goodIn_of _ (by decide +kernel)) ggX8_check_X5_isKind
set_option maxRecDepth 20000 in
theorem ggX8_check_X5_isNumber : GoodIn wsX8_check wsX5_isNumber := goodIn_r _ [10, 11] (by decide +kernel) (by decide +kernel)
set_option maxRecDepth 20000 in
theorem gX8_check_X5_isNumber : GoodIn wsX8_check (va_wsS RX8 87 yX5_isNumber wsX5_isNumber) := goodIn_app (goodIn_of _ (by decide +kernel)) ggX8_check_X5_isNumber
set_option maxRecDepth 20000 in
theorem ggX8_check_X5_checkDigit : GoodIn wsX8_check wsX5_checkDigit := goodIn_r _ [14, 15, 16, 17, 3, 18] (by decide +kernel) (by decide +kernel)
set_option maxRecDepth 20000 in
theorem gX8_check_X5_checkDigit : GoodIn wsX8_check (va_wsS RX8 91 yX5_checkDigit wsX5_checkDigit) := goodIn_app (goodIn_of _ (by decide +kernel)) ggX8_check_X5_checkDigit
theorem dX8_check_0 : decode cX8_check 0 = .ok (.iload_n 1, 1) := by decide +kernel
theorem dX8_check_1 : decode cX8_check 1 = .ok (.invokestatic 81, 3) := by decide +kernel
theorem dX8_check_4 : decode cX8_check 4 = .ok (.ifCond .eq 10, 3) := by decide +kernel
theorem dX8_check_7 : decode cX8_check 7 = .ok (.lload_n 2, 1) := by decide +kernel
theorem dX8_check_8 : decode cX8_check 8 = .ok (.invokestatic 87, 3) := by decide +kernel
theorem dX8_check_11 : decode cX8_check 11 = .ok (.ifCond .ne 5, 3) := by decide +kernel
theorem dX8_check_14 : decode cX8_check 14 = .ok (.iconst (-1), 1) := by decide +kernel
theorem dX8_check_15 : decode cX8_check 15 = .ok (.ireturn, 1) := by decide +kernel
theorem dX8_check_16 : decode cX8_check 16 = .ok (.iload_n 1, 1) := by decide +kernel
theorem dX8_check_17 : decode cX8_check 17 = .ok (.lload_n 2, 1) := by decide +kernel
theorem dX8_check_18 : decode cX8_check 18 = .ok (.invokestatic 91, 3) := by decide +kernel
theorem dX8_check_21 : decode cX8_check 21 = .ok (.ireturn, 1) := by decide +kernel
set_option maxRecDepth 20000 in
theorem ggX8_good_X5_isKind : GoodIn wsX8_good wsX5_isKind := goodIn_r _ [4, 5, 6, 7] (by decide +kernel) (by decide +kernel)
set_option maxRecDepth 20000 in
theorem gX8_good_X5_isKind : GoodIn wsX8_good (va_wsS RX8 81 yX5_isKind wsX5_isKind) := goodIn_app (goodIn_of _ (by decide +kernel)) ggX8_good_X5_isKind
set_option maxRecDepth 20000 in
theorem ggX8_good_X5_isNumber : GoodIn wsX8_good wsX5_isNumber := goodIn_r _ [10, 11] (by decide +kernel) (by decide +kernel)
set_option maxRecDepth 20000 in
theorem gX8_good_X5_isNumber : GoodIn wsX8_good (va_wsS RX8 87 yX5_isNumber wsX5_isNumber) := goodIn_app (goodIn_of _ (by decide +kernel)) ggX8_good_X5_isNumber
set_option maxRecDepth 20000 in
theorem ggX8_good_X5_isGood : GoodIn wsX8_good wsX5_isGood := goodIn_r _ [14, 15, 16, 17, 3, 18, 19, 20, 21] (by decide +kernel) (by decide +kernel)
set_option maxRecDepth 20000 in
theorem gX8_good_X5_isGood : GoodIn wsX8_good (va_wsS RX8 95 yX5_isGood wsX5_isGood) := goodIn_app (goodIn_of _ (by decide +kernel)) ggX8_good_X5_isGood
theorem dX8_good_0 : decode cX8_good 0 = .ok (.iload_n 1, 1) := by decide +kernel
theorem dX8_good_1 : decode cX8_good 1 = .ok (.invokestatic 81, 3) := by decide +kernel
theorem dX8_good_4 : decode cX8_good 4 = .ok (.ifCond .eq 22, 3) := by decide +kernel
theorem dX8_good_7 : decode cX8_good 7 = .ok (.lload_n 2, 1) := by decide +kernel
theorem dX8_good_8 : decode cX8_good 8 = .ok (.invokestatic 87, 3) := by decide +kernel
theorem dX8_good_11 : decode cX8_good 11 = .ok (.ifCond .eq 15, 3) := by decide +kernel
theorem dX8_good_14 : decode cX8_good 14 = .ok (.iload_n 1, 1) := by decide +kernel
theorem dX8_good_15 : decode cX8_good 15 = .ok (.lload_n 2, 1) := by decide +kernel
theorem dX8_good_16 : decode cX8_good 16 = .ok (.invokestatic 95, 3) := by decide +kernel
theorem dX8_good_19 : decode cX8_good 19 = .ok (.ifCond .eq 7, 3) := by decide +kernel
theorem dX8_good_22 : decode cX8_good 22 = .ok (.iconst 1, 1) := by decide +kernel
theorem dX8_good_23 : decode cX8_good 23 = .ok (.goto 4, 3) := by decide +kernel
theorem dX8_good_26 : decode cX8_good 26 = .ok (.iconst 0, 1) := by decide +kernel
theorem dX8_good_27 : decode cX8_good 27 = .ok (.ireturn, 1) := by decide +kernel
set_option maxRecDepth 20000 in
theorem ggX8_machine_X4_addMachine : GoodIn wsX8_machine wsX4_addMachine := goodIn_r _ [6, 7, 8, 9, 19, 20, 21, 22, 23] (by decide +kernel) (by decide +kernel)
set_option maxRecDepth 20000 in
theorem gX8_machine_X4_addMachine : GoodIn wsX8_machine (wsV RX8 99 RX4 yX4_addMachine wsX4_addMachine) := goodIn_app (goodIn_of _ (by decide +kernel)) ggX8_machine_X4_addMachine
theorem dX8_machine_0 : decode cX8_machine 0 = .ok (.aload_n 0, 1) := by decide +kernel
theorem dX8_machine_1 : decode cX8_machine 1 = .ok (.getfield 19, 3) := by decide +kernel
theorem dX8_machine_4 : decode cX8_machine 4 = .ok (.invokevirtual 99, 3) := by decide +kernel
theorem dX8_machine_7 : decode cX8_machine 7 = .ok (.ireturn, 1) := by decide +kernel
set_option maxRecDepth 20000 in
theorem ggX8_shape_X7_tell : GoodIn wsX8_shape wsX7_tell := goodIn_r _ [6, 7, 8, 9, 10, 11, 12, 13, 5, 14, 15, 16, 17, 27, 28, 29] (by decide +kernel) (by decide +kernel)
set_option maxRecDepth 20000 in
theorem gX8_shape_X7_tell : GoodIn wsX8_shape (wsV RX8 103 RX7 yX7_tell wsX7_tell) := goodIn_app (goodIn_of _ (by decide +kernel)) ggX8_shape_X7_tell
theorem dX8_shape_0 : decode cX8_shape 0 = .ok (.aload_n 0, 1) := by decide +kernel
theorem dX8_shape_1 : decode cX8_shape 1 = .ok (.getfield 26, 3) := by decide +kernel
theorem dX8_shape_4 : decode cX8_shape 4 = .ok (.iload_n 1, 1) := by decide +kernel
theorem dX8_shape_5 : decode cX8_shape 5 = .ok (.iload_n 2, 1) := by decide +kernel
theorem dX8_shape_6 : decode cX8_shape 6 = .ok (.iload_n 3, 1) := by decide +kernel
theorem dX8_shape_7 : decode cX8_shape 7 = .ok (.invokevirtual 103, 3) := by decide +kernel
theorem dX8_shape_10 : decode cX8_shape 10 = .ok (.ireturn, 1) := by decide +kernel
set_option maxRecDepth 20000 in
theorem ggX8_full_X4_setFull : GoodIn wsX8_full wsX4_setFull := goodIn_r _ [6, 7, 8, 9, 10, 5, 11, 12, 13, 14, 15, 25, 26, 27, 28, 29] (by decide +kernel) (by decide +kernel)
set_option maxRecDepth 20000 in
theorem gX8_full_X4_setFull : GoodIn wsX8_full (wsV RX8 107 RX4 yX4_setFull wsX4_setFull) := goodIn_app (goodIn_of _ (by decide +kernel)) ggX8_full_X4_setFull
theorem dX8_full_0 : decode cX8_full 0 = .ok (.aload_n 0, 1) := by decide +kernel
theorem dX8_full_1 : decode cX8_full 1 = .ok (.getfield 19, 3) := by decide +kernel
theorem dX8_full_4 : decode cX8_full 4 = .ok (.iload_n 1, 1) := by decide +kernel
theorem dX8_full_5 : decode cX8_full 5 = .ok (.iload_n 2, 1) := by decide +kernel
theorem dX8_full_6 : decode cX8_full 6 = .ok (.invokevirtual 107, 3) := by decide +kernel
theorem dX8_full_9 : decode cX8_full 9 = .ok (.ireturn, 1) := by decide +kernel
set_option maxRecDepth 20000 in
theorem ggX8_power_X4_setPower : GoodIn wsX8_power wsX4_setPower := goodIn_r _ [6, 7, 8, 9, 10, 5, 11, 12, 13, 14, 15, 25, 26, 27, 28, 29] (by decide +kernel) (by decide +kernel)
set_option maxRecDepth 20000 in
theorem gX8_power_X4_setPower : GoodIn wsX8_power (wsV RX8 111 RX4 yX4_setPower wsX4_setPower) := goodIn_app (goodIn_of _ (by decide +kernel)) ggX8_power_X4_setPower
theorem dX8_power_0 : decode cX8_power 0 = .ok (.aload_n 0, 1) := by decide +kernel
theorem dX8_power_1 : decode cX8_power 1 = .ok (.getfield 19, 3) := by decide +kernel
theorem dX8_power_4 : decode cX8_power 4 = .ok (.iload_n 1, 1) := by decide +kernel
theorem dX8_power_5 : decode cX8_power 5 = .ok (.iload_n 2, 1) := by decide +kernel
theorem dX8_power_6 : decode cX8_power 6 = .ok (.invokevirtual 111, 3) := by decide +kernel
theorem dX8_power_9 : decode cX8_power 9 = .ok (.ireturn, 1) := by decide +kernel
set_option maxRecDepth 20000 in
theorem ggX8_give_X5_isNumber : GoodIn wsX8_give wsX5_isNumber := goodIn_r _ [9, 10] (by decide +kernel) (by decide +kernel)
set_option maxRecDepth 20000 in
theorem gX8_give_X5_isNumber : GoodIn wsX8_give (va_wsS RX8 87 yX5_isNumber wsX5_isNumber) := goodIn_app (goodIn_of _ (by decide +kernel)) ggX8_give_X5_isNumber
set_option maxRecDepth 20000 in
theorem ggX8_give_X6_areAtLimit : GoodIn wsX8_give wsX6_areAtLimit := goodIn_r _ [15, 16, 118, 119, 120, 121, 122, 123, 124] (by decide +kernel) (by decide +kernel)
set_option maxRecDepth 20000 in
theorem gX8_give_X6_areAtLimit : GoodIn wsX8_give (wsV RX8 116 RX6 yX6_areAtLimit wsX6_areAtLimit) := goodIn_app (goodIn_of _ (by decide +kernel)) ggX8_give_X6_areAtLimit
set_option maxRecDepth 20000 in
theorem ggX8_give_X8_reasonToRefuse : GoodIn wsX8_give wsX8_reasonToRefuse := goodIn_r _ [21, 5, 22, 2, 23, 24, 25, 26, 27, 28, 29, 20, 30, 31, 32, 33, 34, 35, 36, 37, 38, 39, 40, 41, 42, 43, 44, 45, 46, 47, 48, 49, 50, 51, 52, 53, 54, 55, 56, 57, 58, 59, 60, 8, 61, 62, 63, 64, 65, 66, 67, 68, 69, 70, 71, 72, 73, 74, 75, 76, 14, 77, 16, 78, 79, 109, 110, 111, 112, 113, 114, 115, 116, 117, 125, 126, 127, 128, 129, 130, 131, 132, 118, 119, 120, 121, 122, 123, 124] (by decide +kernel) (by decide +kernel)
set_option maxRecDepth 20000 in
theorem gX8_give_X8_reasonToRefuse : GoodIn wsX8_give (wsV RX8 120 RX8 yX8_reasonToRefuse wsX8_reasonToRefuse) := goodIn_app (goodIn_of _ (by decide +kernel)) ggX8_give_X8_reasonToRefuse
set_option maxRecDepth 20000 in
theorem ggX8_give_X8_noteRefusal : GoodIn wsX8_give wsX8_noteRefusal := goodIn_r _ [83, 2, 84, 85, 86, 87, 14, 88, 16, 78, 89, 90, 91, 92, 93, 94, 95, 96, 109, 110, 111, 112, 113, 114, 115, 116, 117, 118, 119, 120, 121, 122, 123, 124, 133, 134] (by decide +kernel) (by decide +kernel)
set_option maxRecDepth 20000 in
theorem gX8_give_X8_noteRefusal : GoodIn wsX8_give (wsV RX8 124 RX8 yX8_noteRefusal wsX8_noteRefusal) := goodIn_app (goodIn_of _ (by decide +kernel)) ggX8_give_X8_noteRefusal
set_option maxRecDepth 20000 in
theorem ggX8_give_X4_setOf : GoodIn wsX8_give wsX4_setOf := goodIn_r _ [72, 73, 36, 24, 25, 26, 27, 28, 29, 20, 30, 125, 126, 127, 128, 129] (by decide +kernel) (by decide +kernel)
set_option maxRecDepth 20000 in
theorem gX8_give_X4_setOf : GoodIn wsX8_give (wsV RX8 130 RX4 yX4_setOf wsX4_setOf) := goodIn_app (goodIn_of _ (by decide +kernel)) ggX8_give_X4_setOf
set_option maxRecDepth 20000 in
theorem ggX8_give_X6_add : GoodIn wsX8_give wsX6_add := goodIn_r _ [100, 16, 78, 101, 79, 102, 103, 118, 119, 120, 121, 122, 123, 124] (by decide +kernel) (by decide +kernel)
set_option maxRecDepth 20000 in
theorem gX8_give_X6_add : GoodIn wsX8_give (wsV RX8 133 RX6 yX6_add wsX6_add) := goodIn_app (goodIn_of _ (by decide +kernel)) ggX8_give_X6_add
set_option maxRecDepth 20000 in
theorem ggX8_give_X4_addUnprinted : GoodIn wsX8_give wsX4_addUnprinted := goodIn_r _ [107, 108, 36, 24, 25, 26, 27, 28, 29, 20, 30, 125, 126, 127, 128, 129] (by decide +kernel) (by decide +kernel)
set_option maxRecDepth 20000 in
theorem gX8_give_X4_addUnprinted : GoodIn wsX8_give (wsV RX8 137 RX4 yX4_addUnprinted wsX4_addUnprinted) := goodIn_app (goodIn_of _ (by decide +kernel)) ggX8_give_X4_addUnprinted
theorem dX8_give_0 : decode cX8_give 0 = .ok (.lload_n 2, 1) := by decide +kernel
theorem dX8_give_1 : decode cX8_give 1 = .ok (.invokestatic 87, 3) := by decide +kernel
theorem dX8_give_4 : decode cX8_give 4 = .ok (.ifCond .eq 29, 3) := by decide +kernel
theorem dX8_give_7 : decode cX8_give 7 = .ok (.lload 6, 2) := by decide +kernel
theorem dX8_give_9 : decode cX8_give 9 = .ok (.lconst 0, 1) := by decide +kernel
theorem dX8_give_10 : decode cX8_give 10 = .ok (.lcmp, 1) := by decide +kernel
theorem dX8_give_11 : decode cX8_give 11 = .ok (.ifCond .lt 22, 3) := by decide +kernel
theorem dX8_give_14 : decode cX8_give 14 = .ok (.lload 6, 2) := by decide +kernel
theorem dX8_give_16 : decode cX8_give 16 = .ok (.ldc2_w 114, 3) := by decide +kernel
theorem dX8_give_19 : decode cX8_give 19 = .ok (.lcmp, 1) := by decide +kernel
theorem dX8_give_20 : decode cX8_give 20 = .ok (.ifCond .gt 13, 3) := by decide +kernel
theorem dX8_give_23 : decode cX8_give 23 = .ok (.aload_n 0, 1) := by decide +kernel
theorem dX8_give_24 : decode cX8_give 24 = .ok (.getfield 33, 3) := by decide +kernel
theorem dX8_give_27 : decode cX8_give 27 = .ok (.invokevirtual 116, 3) := by decide +kernel
theorem dX8_give_30 : decode cX8_give 30 = .ok (.ifCond .eq 5, 3) := by decide +kernel
theorem dX8_give_33 : decode cX8_give 33 = .ok (.iconst (-1), 1) := by decide +kernel
theorem dX8_give_34 : decode cX8_give 34 = .ok (.ireturn, 1) := by decide +kernel
theorem dX8_give_35 : decode cX8_give 35 = .ok (.aload_n 0, 1) := by decide +kernel
theorem dX8_give_36 : decode cX8_give 36 = .ok (.aload_n 0, 1) := by decide +kernel
theorem dX8_give_37 : decode cX8_give 37 = .ok (.iload_n 1, 1) := by decide +kernel
theorem dX8_give_38 : decode cX8_give 38 = .ok (.lload_n 2, 1) := by decide +kernel
theorem dX8_give_39 : decode cX8_give 39 = .ok (.iload 4, 2) := by decide +kernel
theorem dX8_give_41 : decode cX8_give 41 = .ok (.iload 5, 2) := by decide +kernel
theorem dX8_give_43 : decode cX8_give 43 = .ok (.invokevirtual 120, 3) := by decide +kernel
theorem dX8_give_46 : decode cX8_give 46 = .ok (.putfield 62, 3) := by decide +kernel
theorem dX8_give_49 : decode cX8_give 49 = .ok (.aload_n 0, 1) := by decide +kernel
theorem dX8_give_50 : decode cX8_give 50 = .ok (.getfield 62, 3) := by decide +kernel
theorem dX8_give_53 : decode cX8_give 53 = .ok (.bipush 7, 2) := by decide +kernel
theorem dX8_give_55 : decode cX8_give 55 = .ok (.if_icmp .ne 9, 3) := by decide +kernel
theorem dX8_give_58 : decode cX8_give 58 = .ok (.aload_n 0, 1) := by decide +kernel
theorem dX8_give_59 : decode cX8_give 59 = .ok (.iload_n 1, 1) := by decide +kernel
theorem dX8_give_60 : decode cX8_give 60 = .ok (.lload_n 2, 1) := by decide +kernel
theorem dX8_give_61 : decode cX8_give 61 = .ok (.invokevirtual 124, 3) := by decide +kernel
theorem dX8_give_64 : decode cX8_give 64 = .ok (.aload_n 0, 1) := by decide +kernel
theorem dX8_give_65 : decode cX8_give 65 = .ok (.getfield 62, 3) := by decide +kernel
theorem dX8_give_68 : decode cX8_give 68 = .ok (.ifCond .eq 5, 3) := by decide +kernel
theorem dX8_give_71 : decode cX8_give 71 = .ok (.iconst 0, 1) := by decide +kernel
theorem dX8_give_72 : decode cX8_give 72 = .ok (.ireturn, 1) := by decide +kernel
theorem dX8_give_73 : decode cX8_give 73 = .ok (.lload 6, 2) := by decide +kernel
theorem dX8_give_75 : decode cX8_give 75 = .ok (.ldc2_w 128, 3) := by decide +kernel
theorem dX8_give_78 : decode cX8_give 78 = .ok (.ldiv, 1) := by decide +kernel
theorem dX8_give_79 : decode cX8_give 79 = .ok (.l2i, 1) := by decide +kernel
theorem dX8_give_80 : decode cX8_give 80 = .ok (.istore 8, 2) := by decide +kernel
theorem dX8_give_82 : decode cX8_give 82 = .ok (.aload_n 0, 1) := by decide +kernel
theorem dX8_give_83 : decode cX8_give 83 = .ok (.getfield 33, 3) := by decide +kernel
theorem dX8_give_86 : decode cX8_give 86 = .ok (.lload_n 2, 1) := by decide +kernel
theorem dX8_give_87 : decode cX8_give 87 = .ok (.iload_n 1, 1) := by decide +kernel
theorem dX8_give_88 : decode cX8_give 88 = .ok (.aload_n 0, 1) := by decide +kernel
theorem dX8_give_89 : decode cX8_give 89 = .ok (.getfield 19, 3) := by decide +kernel
theorem dX8_give_92 : decode cX8_give 92 = .ok (.iload_n 1, 1) := by decide +kernel
theorem dX8_give_93 : decode cX8_give 93 = .ok (.invokevirtual 130, 3) := by decide +kernel
theorem dX8_give_96 : decode cX8_give 96 = .ok (.iload 4, 2) := by decide +kernel
theorem dX8_give_98 : decode cX8_give 98 = .ok (.iload 8, 2) := by decide +kernel
theorem dX8_give_100 : decode cX8_give 100 = .ok (.invokevirtual 133, 3) := by decide +kernel
theorem dX8_give_103 : decode cX8_give 103 = .ok (.aload_n 0, 1) := by decide +kernel
theorem dX8_give_104 : decode cX8_give 104 = .ok (.getfield 19, 3) := by decide +kernel
theorem dX8_give_107 : decode cX8_give 107 = .ok (.iload_n 1, 1) := by decide +kernel
theorem dX8_give_108 : decode cX8_give 108 = .ok (.invokevirtual 137, 3) := by decide +kernel
theorem dX8_give_111 : decode cX8_give 111 = .ok (.iconst 1, 1) := by decide +kernel
theorem dX8_give_112 : decode cX8_give 112 = .ok (.ireturn, 1) := by decide +kernel
theorem dX8_reason_0 : decode cX8_reason 0 = .ok (.aload_n 0, 1) := by decide +kernel
theorem dX8_reason_1 : decode cX8_reason 1 = .ok (.getfield 62, 3) := by decide +kernel
theorem dX8_reason_4 : decode cX8_reason 4 = .ok (.ireturn, 1) := by decide +kernel
set_option maxRecDepth 20000 in
theorem ggX8_count_X4_exists : GoodIn wsX8_count wsX4_exists := goodIn_r _ [9, 10, 11, 12, 13, 36, 37, 38, 39, 40] (by decide +kernel) (by decide +kernel)
set_option maxRecDepth 20000 in
theorem gX8_count_X4_exists : GoodIn wsX8_count (wsV RX8 141 RX4 yX4_exists wsX4_exists) := goodIn_app (goodIn_of _ (by decide +kernel)) ggX8_count_X4_exists
set_option maxRecDepth 20000 in
theorem ggX8_count_X7_exists : GoodIn wsX8_count wsX7_exists := goodIn_r _ [18, 11, 12, 13] (by decide +kernel) (by decide +kernel)
set_option maxRecDepth 20000 in
theorem gX8_count_X7_exists : GoodIn wsX8_count (wsV RX8 144 RX7 yX7_exists wsX7_exists) := goodIn_app (goodIn_of _ (by decide +kernel)) ggX8_count_X7_exists
set_option maxRecDepth 20000 in
theorem ggX8_count_X6_paidBy : GoodIn wsX8_count wsX6_paidBy := goodIn_r _ [23, 24, 25, 26, 41, 42, 43, 44, 45, 46, 47] (by decide +kernel) (by decide +kernel)
set_option maxRecDepth 20000 in
theorem gX8_count_X6_paidBy : GoodIn wsX8_count (wsV RX8 147 RX6 yX6_paidBy wsX6_paidBy) := goodIn_app (goodIn_of _ (by decide +kernel)) ggX8_count_X6_paidBy
theorem dX8_count_0 : decode cX8_count 0 = .ok (.aload_n 0, 1) := by decide +kernel
theorem dX8_count_1 : decode cX8_count 1 = .ok (.getfield 19, 3) := by decide +kernel
theorem dX8_count_4 : decode cX8_count 4 = .ok (.iload_n 1, 1) := by decide +kernel
theorem dX8_count_5 : decode cX8_count 5 = .ok (.invokevirtual 141, 3) := by decide +kernel
theorem dX8_count_8 : decode cX8_count 8 = .ok (.ifCond .eq 14, 3) := by decide +kernel
theorem dX8_count_11 : decode cX8_count 11 = .ok (.aload_n 0, 1) := by decide +kernel
theorem dX8_count_12 : decode cX8_count 12 = .ok (.getfield 26, 3) := by decide +kernel
theorem dX8_count_15 : decode cX8_count 15 = .ok (.iload_n 2, 1) := by decide +kernel
theorem dX8_count_16 : decode cX8_count 16 = .ok (.invokevirtual 144, 3) := by decide +kernel
theorem dX8_count_19 : decode cX8_count 19 = .ok (.ifCond .ne 7, 3) := by decide +kernel
theorem dX8_count_22 : decode cX8_count 22 = .ok (.ldc2_w 145, 3) := by decide +kernel
theorem dX8_count_25 : decode cX8_count 25 = .ok (.lreturn, 1) := by decide +kernel
theorem dX8_count_26 : decode cX8_count 26 = .ok (.aload_n 0, 1) := by decide +kernel
theorem dX8_count_27 : decode cX8_count 27 = .ok (.getfield 33, 3) := by decide +kernel
theorem dX8_count_30 : decode cX8_count 30 = .ok (.iload_n 1, 1) := by decide +kernel
theorem dX8_count_31 : decode cX8_count 31 = .ok (.iload_n 2, 1) := by decide +kernel
theorem dX8_count_32 : decode cX8_count 32 = .ok (.invokevirtual 147, 3) := by decide +kernel
theorem dX8_count_35 : decode cX8_count 35 = .ok (.i2l, 1) := by decide +kernel
theorem dX8_count_36 : decode cX8_count 36 = .ok (.lreturn, 1) := by decide +kernel
set_option maxRecDepth 20000 in
theorem ggX8_join_X4_exists : GoodIn wsX8_join wsX4_exists := goodIn_r _ [7, 8, 9, 10, 11, 83, 84, 85, 86, 87] (by decide +kernel) (by decide +kernel)
set_option maxRecDepth 20000 in
theorem gX8_join_X4_exists : GoodIn wsX8_join (wsV RX8 141 RX4 yX4_exists wsX4_exists) := goodIn_app (goodIn_of _ (by decide +kernel)) ggX8_join_X4_exists
set_option maxRecDepth 20000 in
theorem ggX8_join_X4_setOf : GoodIn wsX8_join wsX4_setOf := goodIn_r _ [15, 16, 17, 4, 5, 6, 7, 8, 9, 10, 11, 83, 84, 85, 86, 87] (by decide +kernel) (by decide +kernel)
set_option maxRecDepth 20000 in
theorem gX8_join_X4_setOf : GoodIn wsX8_join (wsV RX8 130 RX4 yX4_setOf wsX4_setOf) := goodIn_app (goodIn_of _ (by decide +kernel)) ggX8_join_X4_setOf
set_option maxRecDepth 20000 in
theorem ggX8_join_X8_tellDoubles : GoodIn wsX8_join wsX8_tellDoubles := goodIn_r _ [21, 22, 2, 23, 24, 25, 26, 27, 28, 29, 30, 31, 32, 33, 34, 35, 36, 37, 38, 39, 9, 10, 11, 40, 41, 42, 43, 44, 45, 46, 47, 48, 49, 50, 51, 52, 53, 54, 55, 56, 57, 58, 59, 60, 61, 62, 63, 64, 65, 74, 75, 76, 77, 78, 79, 80, 81, 82, 88, 89, 90, 91, 92, 93, 94, 95, 96, 97, 98] (by decide +kernel) (by decide +kernel)
set_option maxRecDepth 20000 in
theorem gX8_join_X8_tellDoubles : GoodIn wsX8_join (wsV RX8 151 RX8 yX8_tellDoubles wsX8_tellDoubles) := goodIn_app (goodIn_of _ (by decide +kernel)) ggX8_join_X8_tellDoubles
set_option maxRecDepth 20000 in
theorem ggX8_join_X6_moveSet : GoodIn wsX8_join wsX6_moveSet := goodIn_r _ [69, 34, 39, 92, 93, 94, 95, 96, 97, 98] (by decide +kernel) (by decide +kernel)
set_option maxRecDepth 20000 in
theorem gX8_join_X6_moveSet : GoodIn wsX8_join (wsV RX8 154 RX6 yX6_moveSet wsX6_moveSet) := goodIn_app (goodIn_of _ (by decide +kernel)) ggX8_join_X6_moveSet
set_option maxRecDepth 20000 in
theorem ggX8_join_X4_moveSet : GoodIn wsX8_join wsX4_moveSet := goodIn_r _ [73, 8, 16, 83, 84, 85, 86, 87] (by decide +kernel) (by decide +kernel)
set_option maxRecDepth 20000 in
theorem gX8_join_X4_moveSet : GoodIn wsX8_join (wsV RX8 158 RX4 yX4_moveSet wsX4_moveSet) := goodIn_app (goodIn_of _ (by decide +kernel)) ggX8_join_X4_moveSet
theorem dX8_join_0 : decode cX8_join 0 = .ok (.aload_n 0, 1) := by decide +kernel
theorem dX8_join_1 : decode cX8_join 1 = .ok (.getfield 19, 3) := by decide +kernel
theorem dX8_join_4 : decode cX8_join 4 = .ok (.iload_n 1, 1) := by decide +kernel
theorem dX8_join_5 : decode cX8_join 5 = .ok (.invokevirtual 141, 3) := by decide +kernel
theorem dX8_join_8 : decode cX8_join 8 = .ok (.ifCond .eq 14, 3) := by decide +kernel
theorem dX8_join_11 : decode cX8_join 11 = .ok (.aload_n 0, 1) := by decide +kernel
theorem dX8_join_12 : decode cX8_join 12 = .ok (.getfield 19, 3) := by decide +kernel
theorem dX8_join_15 : decode cX8_join 15 = .ok (.iload_n 2, 1) := by decide +kernel
theorem dX8_join_16 : decode cX8_join 16 = .ok (.invokevirtual 141, 3) := by decide +kernel
theorem dX8_join_19 : decode cX8_join 19 = .ok (.ifCond .ne 5, 3) := by decide +kernel
theorem dX8_join_22 : decode cX8_join 22 = .ok (.iconst (-1), 1) := by decide +kernel
theorem dX8_join_23 : decode cX8_join 23 = .ok (.ireturn, 1) := by decide +kernel
theorem dX8_join_24 : decode cX8_join 24 = .ok (.aload_n 0, 1) := by decide +kernel
theorem dX8_join_25 : decode cX8_join 25 = .ok (.getfield 19, 3) := by decide +kernel
theorem dX8_join_28 : decode cX8_join 28 = .ok (.iload_n 1, 1) := by decide +kernel
theorem dX8_join_29 : decode cX8_join 29 = .ok (.invokevirtual 130, 3) := by decide +kernel
theorem dX8_join_32 : decode cX8_join 32 = .ok (.istore_n 3, 1) := by decide +kernel
theorem dX8_join_33 : decode cX8_join 33 = .ok (.aload_n 0, 1) := by decide +kernel
theorem dX8_join_34 : decode cX8_join 34 = .ok (.getfield 19, 3) := by decide +kernel
theorem dX8_join_37 : decode cX8_join 37 = .ok (.iload_n 2, 1) := by decide +kernel
theorem dX8_join_38 : decode cX8_join 38 = .ok (.invokevirtual 130, 3) := by decide +kernel
theorem dX8_join_41 : decode cX8_join 41 = .ok (.istore 4, 2) := by decide +kernel
theorem dX8_join_43 : decode cX8_join 43 = .ok (.iload_n 3, 1) := by decide +kernel
theorem dX8_join_44 : decode cX8_join 44 = .ok (.iload 4, 2) := by decide +kernel
theorem dX8_join_46 : decode cX8_join 46 = .ok (.if_icmp .ne 5, 3) := by decide +kernel
theorem dX8_join_49 : decode cX8_join 49 = .ok (.iconst 0, 1) := by decide +kernel
theorem dX8_join_50 : decode cX8_join 50 = .ok (.ireturn, 1) := by decide +kernel
theorem dX8_join_51 : decode cX8_join 51 = .ok (.aload_n 0, 1) := by decide +kernel
theorem dX8_join_52 : decode cX8_join 52 = .ok (.iload_n 3, 1) := by decide +kernel
theorem dX8_join_53 : decode cX8_join 53 = .ok (.iload 4, 2) := by decide +kernel
theorem dX8_join_55 : decode cX8_join 55 = .ok (.invokevirtual 151, 3) := by decide +kernel
theorem dX8_join_58 : decode cX8_join 58 = .ok (.istore 5, 2) := by decide +kernel
theorem dX8_join_60 : decode cX8_join 60 = .ok (.aload_n 0, 1) := by decide +kernel
theorem dX8_join_61 : decode cX8_join 61 = .ok (.getfield 33, 3) := by decide +kernel
theorem dX8_join_64 : decode cX8_join 64 = .ok (.iload 4, 2) := by decide +kernel
theorem dX8_join_66 : decode cX8_join 66 = .ok (.iload_n 3, 1) := by decide +kernel
theorem dX8_join_67 : decode cX8_join 67 = .ok (.invokevirtual 154, 3) := by decide +kernel
theorem dX8_join_70 : decode cX8_join 70 = .ok (.aload_n 0, 1) := by decide +kernel
theorem dX8_join_71 : decode cX8_join 71 = .ok (.getfield 19, 3) := by decide +kernel
theorem dX8_join_74 : decode cX8_join 74 = .ok (.iload 4, 2) := by decide +kernel
theorem dX8_join_76 : decode cX8_join 76 = .ok (.iload_n 3, 1) := by decide +kernel
theorem dX8_join_77 : decode cX8_join 77 = .ok (.invokevirtual 158, 3) := by decide +kernel
theorem dX8_join_80 : decode cX8_join 80 = .ok (.iload 5, 2) := by decide +kernel
theorem dX8_join_82 : decode cX8_join 82 = .ok (.ireturn, 1) := by decide +kernel
set_option maxRecDepth 20000 in
theorem ggX8_double2_X2_part : GoodIn wsX8_double2 wsX2_part := goodIn_r _ [6, 7, 8, 9, 10, 11, 12, 13, 14, 15, 16, 17, 18, 19, 20, 21, 22, 32, 33, 34, 35] (by decide +kernel) (by decide +kernel)
set_option maxRecDepth 20000 in
theorem gX8_double2_X2_part : GoodIn wsX8_double2 (wsV RX8 159 RX2 yX2_part wsX2_part) := goodIn_app (goodIn_of _ (by decide +kernel)) ggX8_double2_X2_part
theorem dX8_double2_0 : decode cX8_double2 0 = .ok (.aload_n 0, 1) := by decide +kernel
theorem dX8_double2_1 : decode cX8_double2 1 = .ok (.getfield 40, 3) := by decide +kernel
theorem dX8_double2_4 : decode cX8_double2 4 = .ok (.iload_n 1, 1) := by decide +kernel
theorem dX8_double2_5 : decode cX8_double2 5 = .ok (.iload_n 2, 1) := by decide +kernel
theorem dX8_double2_6 : decode cX8_double2 6 = .ok (.invokevirtual 159, 3) := by decide +kernel
theorem dX8_double2_9 : decode cX8_double2 9 = .ok (.ireturn, 1) := by decide +kernel
set_option maxRecDepth 20000 in
theorem ggX8_mark_X5_isNumber : GoodIn wsX8_mark wsX5_isNumber := goodIn_r _ [8, 9] (by decide +kernel) (by decide +kernel)
set_option maxRecDepth 20000 in
theorem gX8_mark_X5_isNumber : GoodIn wsX8_mark (va_wsS RX8 87 yX5_isNumber wsX5_isNumber) := goodIn_app (goodIn_of _ (by decide +kernel)) ggX8_mark_X5_isNumber
theorem dX8_mark_0 : decode cX8_mark 0 = .ok (.lload_n 1, 1) := by decide +kernel
theorem dX8_mark_1 : decode cX8_mark 1 = .ok (.invokestatic 87, 3) := by decide +kernel
theorem dX8_mark_4 : decode cX8_mark 4 = .ok (.ifCond .eq 18, 3) := by decide +kernel
theorem dX8_mark_7 : decode cX8_mark 7 = .ok (.lload_n 3, 1) := by decide +kernel
theorem dX8_mark_8 : decode cX8_mark 8 = .ok (.invokestatic 87, 3) := by decide +kernel
theorem dX8_mark_11 : decode cX8_mark 11 = .ok (.ifCond .eq 11, 3) := by decide +kernel
theorem dX8_mark_14 : decode cX8_mark 14 = .ok (.lload 5, 2) := by decide +kernel
theorem dX8_mark_16 : decode cX8_mark 16 = .ok (.invokestatic 87, 3) := by decide +kernel
theorem dX8_mark_19 : decode cX8_mark 19 = .ok (.ifCond .ne 5, 3) := by decide +kernel
theorem dX8_mark_22 : decode cX8_mark 22 = .ok (.iconst 0, 1) := by decide +kernel
theorem dX8_mark_23 : decode cX8_mark 23 = .ok (.ireturn, 1) := by decide +kernel
theorem dX8_mark_24 : decode cX8_mark 24 = .ok (.lload_n 1, 1) := by decide +kernel
theorem dX8_mark_25 : decode cX8_mark 25 = .ok (.ldc2_w 162, 3) := by decide +kernel
theorem dX8_mark_28 : decode cX8_mark 28 = .ok (.lrem, 1) := by decide +kernel
theorem dX8_mark_29 : decode cX8_mark 29 = .ok (.lstore 7, 2) := by decide +kernel
theorem dX8_mark_31 : decode cX8_mark 31 = .ok (.lload_n 3, 1) := by decide +kernel
theorem dX8_mark_32 : decode cX8_mark 32 = .ok (.ldc2_w 162, 3) := by decide +kernel
theorem dX8_mark_35 : decode cX8_mark 35 = .ok (.lrem, 1) := by decide +kernel
theorem dX8_mark_36 : decode cX8_mark 36 = .ok (.lstore 9, 2) := by decide +kernel
theorem dX8_mark_38 : decode cX8_mark 38 = .ok (.lload 5, 2) := by decide +kernel
theorem dX8_mark_40 : decode cX8_mark 40 = .ok (.lload 7, 2) := by decide +kernel
theorem dX8_mark_42 : decode cX8_mark 42 = .ok (.ldc2_w 164, 3) := by decide +kernel
theorem dX8_mark_45 : decode cX8_mark 45 = .ok (.lload 9, 2) := by decide +kernel
theorem dX8_mark_47 : decode cX8_mark 47 = .ok (.lmul, 1) := by decide +kernel
theorem dX8_mark_48 : decode cX8_mark 48 = .ok (.ladd, 1) := by decide +kernel
theorem dX8_mark_49 : decode cX8_mark 49 = .ok (.lload 7, 2) := by decide +kernel
theorem dX8_mark_51 : decode cX8_mark 51 = .ok (.ldc2_w 166, 3) := by decide +kernel
theorem dX8_mark_54 : decode cX8_mark 54 = .ok (.lload 9, 2) := by decide +kernel
theorem dX8_mark_56 : decode cX8_mark 56 = .ok (.lmul, 1) := by decide +kernel
theorem dX8_mark_57 : decode cX8_mark 57 = .ok (.ladd, 1) := by decide +kernel
theorem dX8_mark_58 : decode cX8_mark 58 = .ok (.lconst 1, 1) := by decide +kernel
theorem dX8_mark_59 : decode cX8_mark 59 = .ok (.ladd, 1) := by decide +kernel
theorem dX8_mark_60 : decode cX8_mark 60 = .ok (.lmul, 1) := by decide +kernel
theorem dX8_mark_61 : decode cX8_mark 61 = .ok (.ldc2_w 168, 3) := by decide +kernel
theorem dX8_mark_64 : decode cX8_mark 64 = .ok (.lrem, 1) := by decide +kernel
theorem dX8_mark_65 : decode cX8_mark 65 = .ok (.lcmp, 1) := by decide +kernel
theorem dX8_mark_66 : decode cX8_mark 66 = .ok (.ifCond .ne 7, 3) := by decide +kernel
theorem dX8_mark_69 : decode cX8_mark 69 = .ok (.iconst 1, 1) := by decide +kernel
theorem dX8_mark_70 : decode cX8_mark 70 = .ok (.goto 4, 3) := by decide +kernel
theorem dX8_mark_73 : decode cX8_mark 73 = .ok (.iconst 0, 1) := by decide +kernel
theorem dX8_mark_74 : decode cX8_mark 74 = .ok (.ireturn, 1) := by decide +kernel
set_option maxRecDepth 20000 in
theorem ggX8_coupon_X4_hasPower : GoodIn wsX8_coupon wsX4_hasPower := goodIn_r _ [7, 8, 9, 10, 11, 6, 12, 13, 14, 15, 16, 38, 39, 40, 41, 42] (by decide +kernel) (by decide +kernel)
set_option maxRecDepth 20000 in
theorem gX8_coupon_X4_hasPower : GoodIn wsX8_coupon (wsV RX8 170 RX4 yX4_hasPower wsX4_hasPower) := goodIn_app (goodIn_of _ (by decide +kernel)) ggX8_coupon_X4_hasPower
set_option maxRecDepth 20000 in
theorem ggX8_coupon_X4_takeUnprinted : GoodIn wsX8_coupon wsX4_takeUnprinted := goodIn_r _ [20, 21, 9, 10, 11, 6, 12, 13, 14, 15, 16, 38, 39, 40, 41, 42] (by decide +kernel) (by decide +kernel)
set_option maxRecDepth 20000 in
theorem gX8_coupon_X4_takeUnprinted : GoodIn wsX8_coupon (wsV RX8 173 RX4 yX4_takeUnprinted wsX4_takeUnprinted) := goodIn_app (goodIn_of _ (by decide +kernel)) ggX8_coupon_X4_takeUnprinted
set_option maxRecDepth 20000 in
theorem ggX8_coupon_X1_print : GoodIn wsX8_coupon wsX1_print := goodIn_r _ [26, 27, 28, 43, 44, 45, 46] (by decide +kernel) (by decide +kernel)
set_option maxRecDepth 20000 in
theorem gX8_coupon_X1_print : GoodIn wsX8_coupon (wsV RX8 176 RX1 yX1_print wsX1_print) := goodIn_app (goodIn_of _ (by decide +kernel)) ggX8_coupon_X1_print
theorem dX8_coupon_0 : decode cX8_coupon 0 = .ok (.aload_n 0, 1) := by decide +kernel
theorem dX8_coupon_1 : decode cX8_coupon 1 = .ok (.getfield 19, 3) := by decide +kernel
theorem dX8_coupon_4 : decode cX8_coupon 4 = .ok (.iload_n 1, 1) := by decide +kernel
theorem dX8_coupon_5 : decode cX8_coupon 5 = .ok (.invokevirtual 170, 3) := by decide +kernel
theorem dX8_coupon_8 : decode cX8_coupon 8 = .ok (.ifCond .ne 5, 3) := by decide +kernel
theorem dX8_coupon_11 : decode cX8_coupon 11 = .ok (.iconst (-1), 1) := by decide +kernel
theorem dX8_coupon_12 : decode cX8_coupon 12 = .ok (.ireturn, 1) := by decide +kernel
theorem dX8_coupon_13 : decode cX8_coupon 13 = .ok (.aload_n 0, 1) := by decide +kernel
theorem dX8_coupon_14 : decode cX8_coupon 14 = .ok (.getfield 19, 3) := by decide +kernel
theorem dX8_coupon_17 : decode cX8_coupon 17 = .ok (.iload_n 1, 1) := by decide +kernel
theorem dX8_coupon_18 : decode cX8_coupon 18 = .ok (.invokevirtual 173, 3) := by decide +kernel
theorem dX8_coupon_21 : decode cX8_coupon 21 = .ok (.istore_n 2, 1) := by decide +kernel
theorem dX8_coupon_22 : decode cX8_coupon 22 = .ok (.iload_n 2, 1) := by decide +kernel
theorem dX8_coupon_23 : decode cX8_coupon 23 = .ok (.ifCond .ne 7, 3) := by decide +kernel
theorem dX8_coupon_26 : decode cX8_coupon 26 = .ok (.iconst (-1), 1) := by decide +kernel
theorem dX8_coupon_27 : decode cX8_coupon 27 = .ok (.goto 14, 3) := by decide +kernel
theorem dX8_coupon_30 : decode cX8_coupon 30 = .ok (.aload_n 0, 1) := by decide +kernel
theorem dX8_coupon_31 : decode cX8_coupon 31 = .ok (.getfield 47, 3) := by decide +kernel
theorem dX8_coupon_34 : decode cX8_coupon 34 = .ok (.iload_n 2, 1) := by decide +kernel
theorem dX8_coupon_35 : decode cX8_coupon 35 = .ok (.bipush 25, 2) := by decide +kernel
theorem dX8_coupon_37 : decode cX8_coupon 37 = .ok (.imul, 1) := by decide +kernel
theorem dX8_coupon_38 : decode cX8_coupon 38 = .ok (.invokevirtual 176, 3) := by decide +kernel
theorem dX8_coupon_41 : decode cX8_coupon 41 = .ok (.ireturn, 1) := by decide +kernel
set_option maxRecDepth 20000 in
theorem ggX8_redeem_X1_redeemAt : GoodIn wsX8_redeem wsX1_redeemAt := goodIn_r _ [6, 7, 8, 9, 10, 11, 12, 13, 23, 24, 25, 26] (by decide +kernel) (by decide +kernel)
set_option maxRecDepth 20000 in
theorem gX8_redeem_X1_redeemAt : GoodIn wsX8_redeem (wsV RX8 179 RX1 yX1_redeemAt wsX1_redeemAt) := goodIn_app (goodIn_of _ (by decide +kernel)) ggX8_redeem_X1_redeemAt
theorem dX8_redeem_0 : decode cX8_redeem 0 = .ok (.aload_n 0, 1) := by decide +kernel
theorem dX8_redeem_1 : decode cX8_redeem 1 = .ok (.getfield 47, 3) := by decide +kernel
theorem dX8_redeem_4 : decode cX8_redeem 4 = .ok (.iload_n 1, 1) := by decide +kernel
theorem dX8_redeem_5 : decode cX8_redeem 5 = .ok (.iload_n 2, 1) := by decide +kernel
theorem dX8_redeem_6 : decode cX8_redeem 6 = .ok (.invokevirtual 179, 3) := by decide +kernel
theorem dX8_redeem_9 : decode cX8_redeem 9 = .ok (.ireturn, 1) := by decide +kernel
set_option maxRecDepth 20000 in
theorem ggX8_shop_X1_redeemedBy : GoodIn wsX8_shop wsX1_redeemedBy := goodIn_r _ [6, 7, 8, 9, 10, 11, 21, 22, 23, 24] (by decide +kernel) (by decide +kernel)
set_option maxRecDepth 20000 in
theorem gX8_shop_X1_redeemedBy : GoodIn wsX8_shop (wsV RX8 182 RX1 yX1_redeemedBy wsX1_redeemedBy) := goodIn_app (goodIn_of _ (by decide +kernel)) ggX8_shop_X1_redeemedBy
theorem dX8_shop_0 : decode cX8_shop 0 = .ok (.aload_n 0, 1) := by decide +kernel
theorem dX8_shop_1 : decode cX8_shop 1 = .ok (.getfield 47, 3) := by decide +kernel
theorem dX8_shop_4 : decode cX8_shop 4 = .ok (.iload_n 1, 1) := by decide +kernel
theorem dX8_shop_5 : decode cX8_shop 5 = .ok (.invokevirtual 182, 3) := by decide +kernel
theorem dX8_shop_8 : decode cX8_shop 8 = .ok (.lreturn, 1) := by decide +kernel
set_option maxRecDepth 20000 in
theorem ggX8_clear_X6_balance : GoodIn wsX8_clear wsX6_balance := goodIn_r _ [8, 9, 10, 11, 12, 13, 14, 7, 15, 16, 17, 18, 19, 20, 21, 22, 23, 24, 34, 35, 36, 37, 38, 39, 40] (by decide +kernel) (by decide +kernel)
set_option maxRecDepth 20000 in
theorem gX8_clear_X6_balance : GoodIn wsX8_clear (wsV RX8 187 RX6 yX6_balance wsX6_balance) := goodIn_app (goodIn_of _ (by decide +kernel)) ggX8_clear_X6_balance
theorem dX8_clear_0 : decode cX8_clear 0 = .ok (.iload_n 1, 1) := by decide +kernel
theorem dX8_clear_1 : decode cX8_clear 1 = .ok (.ifCond .lt 9, 3) := by decide +kernel
theorem dX8_clear_4 : decode cX8_clear 4 = .ok (.iload_n 1, 1) := by decide +kernel
theorem dX8_clear_5 : decode cX8_clear 5 = .ok (.ldc 186, 2) := by decide +kernel
theorem dX8_clear_7 : decode cX8_clear 7 = .ok (.if_icmp .le 5, 3) := by decide +kernel
theorem dX8_clear_10 : decode cX8_clear 10 = .ok (.iconst (-1), 1) := by decide +kernel
theorem dX8_clear_11 : decode cX8_clear 11 = .ok (.ireturn, 1) := by decide +kernel
theorem dX8_clear_12 : decode cX8_clear 12 = .ok (.aload_n 0, 1) := by decide +kernel
theorem dX8_clear_13 : decode cX8_clear 13 = .ok (.getfield 33, 3) := by decide +kernel
theorem dX8_clear_16 : decode cX8_clear 16 = .ok (.iload_n 1, 1) := by decide +kernel
theorem dX8_clear_17 : decode cX8_clear 17 = .ok (.aload_n 0, 1) := by decide +kernel
theorem dX8_clear_18 : decode cX8_clear 18 = .ok (.getfield 58, 3) := by decide +kernel
theorem dX8_clear_21 : decode cX8_clear 21 = .ok (.invokevirtual 187, 3) := by decide +kernel
theorem dX8_clear_24 : decode cX8_clear 24 = .ok (.iconst 0, 1) := by decide +kernel
theorem dX8_clear_25 : decode cX8_clear 25 = .ok (.istore_n 2, 1) := by decide +kernel
theorem dX8_clear_26 : decode cX8_clear 26 = .ok (.iconst 0, 1) := by decide +kernel
theorem dX8_clear_27 : decode cX8_clear 27 = .ok (.istore_n 3, 1) := by decide +kernel
theorem dX8_clear_28 : decode cX8_clear 28 = .ok (.iload_n 3, 1) := by decide +kernel
theorem dX8_clear_29 : decode cX8_clear 29 = .ok (.aload_n 0, 1) := by decide +kernel
theorem dX8_clear_30 : decode cX8_clear 30 = .ok (.getfield 58, 3) := by decide +kernel
theorem dX8_clear_33 : decode cX8_clear 33 = .ok (.arraylength, 1) := by decide +kernel
theorem dX8_clear_34 : decode cX8_clear 34 = .ok (.if_icmp .ge 23, 3) := by decide +kernel
theorem dX8_clear_37 : decode cX8_clear 37 = .ok (.aload_n 0, 1) := by decide +kernel
theorem dX8_clear_38 : decode cX8_clear 38 = .ok (.getfield 58, 3) := by decide +kernel
theorem dX8_clear_41 : decode cX8_clear 41 = .ok (.iload_n 3, 1) := by decide +kernel
theorem dX8_clear_42 : decode cX8_clear 42 = .ok (.laload, 1) := by decide +kernel
theorem dX8_clear_43 : decode cX8_clear 43 = .ok (.lconst 0, 1) := by decide +kernel
theorem dX8_clear_44 : decode cX8_clear 44 = .ok (.lcmp, 1) := by decide +kernel
theorem dX8_clear_45 : decode cX8_clear 45 = .ok (.ifCond .eq 6, 3) := by decide +kernel
theorem dX8_clear_48 : decode cX8_clear 48 = .ok (.iinc 2 1, 3) := by decide +kernel
theorem dX8_clear_51 : decode cX8_clear 51 = .ok (.iinc 3 1, 3) := by decide +kernel
theorem dX8_clear_54 : decode cX8_clear 54 = .ok (.goto (-26), 3) := by decide +kernel
theorem dX8_clear_57 : decode cX8_clear 57 = .ok (.iload_n 2, 1) := by decide +kernel
theorem dX8_clear_58 : decode cX8_clear 58 = .ok (.ireturn, 1) := by decide +kernel
set_option maxRecDepth 20000 in
theorem ggX8_cleared_X8_isIndex : GoodIn wsX8_cleared wsX8_isIndex := goodIn_r _ [5] (by decide +kernel) (by decide +kernel)
set_option maxRecDepth 20000 in
theorem gX8_cleared_X8_isIndex : GoodIn wsX8_cleared (va_wsS RX8 191 yX8_isIndex wsX8_isIndex) := goodIn_app (goodIn_of _ (by decide +kernel)) ggX8_cleared_X8_isIndex
theorem dX8_cleared_0 : decode cX8_cleared 0 = .ok (.iload_n 1, 1) := by decide +kernel
theorem dX8_cleared_1 : decode cX8_cleared 1 = .ok (.aload_n 0, 1) := by decide +kernel
theorem dX8_cleared_2 : decode cX8_cleared 2 = .ok (.getfield 58, 3) := by decide +kernel
theorem dX8_cleared_5 : decode cX8_cleared 5 = .ok (.arraylength, 1) := by decide +kernel
theorem dX8_cleared_6 : decode cX8_cleared 6 = .ok (.invokestatic 191, 3) := by decide +kernel
theorem dX8_cleared_9 : decode cX8_cleared 9 = .ok (.ifCond .eq 12, 3) := by decide +kernel
theorem dX8_cleared_12 : decode cX8_cleared 12 = .ok (.aload_n 0, 1) := by decide +kernel
theorem dX8_cleared_13 : decode cX8_cleared 13 = .ok (.getfield 58, 3) := by decide +kernel
theorem dX8_cleared_16 : decode cX8_cleared 16 = .ok (.iload_n 1, 1) := by decide +kernel
theorem dX8_cleared_17 : decode cX8_cleared 17 = .ok (.laload, 1) := by decide +kernel
theorem dX8_cleared_18 : decode cX8_cleared 18 = .ok (.goto 4, 3) := by decide +kernel
theorem dX8_cleared_21 : decode cX8_cleared 21 = .ok (.lconst 0, 1) := by decide +kernel
theorem dX8_cleared_22 : decode cX8_cleared 22 = .ok (.lreturn, 1) := by decide +kernel
set_option maxRecDepth 20000 in
theorem ggX8_fraud_X3_machineOf : GoodIn wsX8_fraud wsX3_machineOf := goodIn_r _ [6, 7, 8, 9, 10, 11, 21, 22] (by decide +kernel) (by decide +kernel)
set_option maxRecDepth 20000 in
theorem gX8_fraud_X3_machineOf : GoodIn wsX8_fraud (wsV RX8 194 RX3 yX3_machineOf wsX3_machineOf) := goodIn_app (goodIn_of _ (by decide +kernel)) ggX8_fraud_X3_machineOf
theorem dX8_fraud_0 : decode cX8_fraud 0 = .ok (.aload_n 0, 1) := by decide +kernel
theorem dX8_fraud_1 : decode cX8_fraud 1 = .ok (.getfield 54, 3) := by decide +kernel
theorem dX8_fraud_4 : decode cX8_fraud 4 = .ok (.iload_n 1, 1) := by decide +kernel
theorem dX8_fraud_5 : decode cX8_fraud 5 = .ok (.invokevirtual 194, 3) := by decide +kernel
theorem dX8_fraud_8 : decode cX8_fraud 8 = .ok (.ireturn, 1) := by decide +kernel
set_option maxRecDepth 20000 in
theorem ggX8_reasonToRefuse_X4_exists : GoodIn wsX8_reasonToRefuse wsX4_exists := goodIn_r _ [8, 9, 10, 11, 12, 74, 75, 76, 77, 78] (by decide +kernel) (by decide +kernel)
set_option maxRecDepth 20000 in
theorem gX8_reasonToRefuse_X4_exists : GoodIn wsX8_reasonToRefuse (wsV RX8 141 RX4 yX4_exists wsX4_exists) := goodIn_app (goodIn_of _ (by decide +kernel)) ggX8_reasonToRefuse_X4_exists
set_option maxRecDepth 20000 in
theorem ggX8_reasonToRefuse_X4_isFull : GoodIn wsX8_reasonToRefuse wsX4_isFull := goodIn_r _ [16, 17, 18, 5, 6, 7, 8, 9, 10, 11, 12, 74, 75, 76, 77, 78] (by decide +kernel) (by decide +kernel)
set_option maxRecDepth 20000 in
theorem gX8_reasonToRefuse_X4_isFull : GoodIn wsX8_reasonToRefuse (wsV RX8 197 RX4 yX4_isFull wsX4_isFull) := goodIn_app (goodIn_of _ (by decide +kernel)) ggX8_reasonToRefuse_X4_isFull
set_option maxRecDepth 20000 in
theorem ggX8_reasonToRefuse_X4_hasPower : GoodIn wsX8_reasonToRefuse wsX4_hasPower := goodIn_r _ [22, 23, 18, 5, 6, 7, 8, 9, 10, 11, 12, 74, 75, 76, 77, 78] (by decide +kernel) (by decide +kernel)
set_option maxRecDepth 20000 in
theorem gX8_reasonToRefuse_X4_hasPower : GoodIn wsX8_reasonToRefuse (wsV RX8 170 RX4 yX4_hasPower wsX4_hasPower) := goodIn_app (goodIn_of _ (by decide +kernel)) ggX8_reasonToRefuse_X4_hasPower
set_option maxRecDepth 20000 in
theorem ggX8_reasonToRefuse_X7_isTold : GoodIn wsX8_reasonToRefuse wsX7_isTold := goodIn_r _ [28, 29, 30, 31, 32, 27, 33, 10, 11, 12, 79, 80, 81] (by decide +kernel) (by decide +kernel)
set_option maxRecDepth 20000 in
theorem gX8_reasonToRefuse_X7_isTold : GoodIn wsX8_reasonToRefuse (wsV RX8 200 RX7 yX7_isTold wsX7_isTold) := goodIn_app (goodIn_of _ (by decide +kernel)) ggX8_reasonToRefuse_X7_isTold
set_option maxRecDepth 20000 in
theorem ggX8_reasonToRefuse_X7_holds : GoodIn wsX8_reasonToRefuse wsX7_holds := goodIn_r _ [37, 38, 39, 40, 25, 26, 27, 28, 29, 30, 31, 32, 33, 10, 11, 12, 79, 80, 81] (by decide +kernel) (by decide +kernel)
set_option maxRecDepth 20000 in
theorem gX8_reasonToRefuse_X7_holds : GoodIn wsX8_reasonToRefuse (wsV RX8 203 RX7 yX7_holds wsX7_holds) := goodIn_app (goodIn_of _ (by decide +kernel)) ggX8_reasonToRefuse_X7_holds
set_option maxRecDepth 20000 in
theorem ggX8_reasonToRefuse_X5_isGood : GoodIn wsX8_reasonToRefuse wsX5_isGood := goodIn_r _ [44, 45, 46, 47, 43, 48, 49, 50, 51] (by decide +kernel) (by decide +kernel)
set_option maxRecDepth 20000 in
theorem gX8_reasonToRefuse_X5_isGood : GoodIn wsX8_reasonToRefuse (va_wsS RX8 95 yX5_isGood wsX5_isGood) := goodIn_app (goodIn_of _ (by decide +kernel)) ggX8_reasonToRefuse_X5_isGood
set_option maxRecDepth 20000 in
theorem ggX8_reasonToRefuse_X4_setOf : GoodIn wsX8_reasonToRefuse wsX4_setOf := goodIn_r _ [55, 56, 18, 5, 6, 7, 8, 9, 10, 11, 12, 74, 75, 76, 77, 78] (by decide +kernel) (by decide +kernel)
set_option maxRecDepth 20000 in
theorem gX8_reasonToRefuse_X4_setOf : GoodIn wsX8_reasonToRefuse (wsV RX8 130 RX4 yX4_setOf wsX4_setOf) := goodIn_app (goodIn_of _ (by decide +kernel)) ggX8_reasonToRefuse_X4_setOf
set_option maxRecDepth 20000 in
theorem ggX8_reasonToRefuse_X6_find : GoodIn wsX8_reasonToRefuse wsX6_find := goodIn_r _ [61, 62, 63, 64, 82, 83, 84, 85, 86, 87, 88] (by decide +kernel) (by decide +kernel)
set_option maxRecDepth 20000 in
theorem gX8_reasonToRefuse_X6_find : GoodIn wsX8_reasonToRefuse (wsV RX8 206 RX6 yX6_find wsX6_find) := goodIn_app (goodIn_of _ (by decide +kernel)) ggX8_reasonToRefuse_X6_find
theorem dX8_reasonToRefuse_0 : decode cX8_reasonToRefuse 0 = .ok (.aload_n 0, 1) := by decide +kernel
theorem dX8_reasonToRefuse_1 : decode cX8_reasonToRefuse 1 = .ok (.getfield 19, 3) := by decide +kernel
theorem dX8_reasonToRefuse_4 : decode cX8_reasonToRefuse 4 = .ok (.iload_n 1, 1) := by decide +kernel
theorem dX8_reasonToRefuse_5 : decode cX8_reasonToRefuse 5 = .ok (.invokevirtual 141, 3) := by decide +kernel
theorem dX8_reasonToRefuse_8 : decode cX8_reasonToRefuse 8 = .ok (.ifCond .ne 5, 3) := by decide +kernel
theorem dX8_reasonToRefuse_11 : decode cX8_reasonToRefuse 11 = .ok (.iconst 1, 1) := by decide +kernel
theorem dX8_reasonToRefuse_12 : decode cX8_reasonToRefuse 12 = .ok (.ireturn, 1) := by decide +kernel
theorem dX8_reasonToRefuse_13 : decode cX8_reasonToRefuse 13 = .ok (.aload_n 0, 1) := by decide +kernel
theorem dX8_reasonToRefuse_14 : decode cX8_reasonToRefuse 14 = .ok (.getfield 19, 3) := by decide +kernel
theorem dX8_reasonToRefuse_17 : decode cX8_reasonToRefuse 17 = .ok (.iload_n 1, 1) := by decide +kernel
theorem dX8_reasonToRefuse_18 : decode cX8_reasonToRefuse 18 = .ok (.invokevirtual 197, 3) := by decide +kernel
theorem dX8_reasonToRefuse_21 : decode cX8_reasonToRefuse 21 = .ok (.ifCond .eq 5, 3) := by decide +kernel
theorem dX8_reasonToRefuse_24 : decode cX8_reasonToRefuse 24 = .ok (.iconst 2, 1) := by decide +kernel
theorem dX8_reasonToRefuse_25 : decode cX8_reasonToRefuse 25 = .ok (.ireturn, 1) := by decide +kernel
theorem dX8_reasonToRefuse_26 : decode cX8_reasonToRefuse 26 = .ok (.aload_n 0, 1) := by decide +kernel
theorem dX8_reasonToRefuse_27 : decode cX8_reasonToRefuse 27 = .ok (.getfield 19, 3) := by decide +kernel
theorem dX8_reasonToRefuse_30 : decode cX8_reasonToRefuse 30 = .ok (.iload_n 1, 1) := by decide +kernel
theorem dX8_reasonToRefuse_31 : decode cX8_reasonToRefuse 31 = .ok (.invokevirtual 170, 3) := by decide +kernel
theorem dX8_reasonToRefuse_34 : decode cX8_reasonToRefuse 34 = .ok (.ifCond .ne 5, 3) := by decide +kernel
theorem dX8_reasonToRefuse_37 : decode cX8_reasonToRefuse 37 = .ok (.iconst 3, 1) := by decide +kernel
theorem dX8_reasonToRefuse_38 : decode cX8_reasonToRefuse 38 = .ok (.ireturn, 1) := by decide +kernel
theorem dX8_reasonToRefuse_39 : decode cX8_reasonToRefuse 39 = .ok (.aload_n 0, 1) := by decide +kernel
theorem dX8_reasonToRefuse_40 : decode cX8_reasonToRefuse 40 = .ok (.getfield 26, 3) := by decide +kernel
theorem dX8_reasonToRefuse_43 : decode cX8_reasonToRefuse 43 = .ok (.iload 4, 2) := by decide +kernel
theorem dX8_reasonToRefuse_45 : decode cX8_reasonToRefuse 45 = .ok (.invokevirtual 200, 3) := by decide +kernel
theorem dX8_reasonToRefuse_48 : decode cX8_reasonToRefuse 48 = .ok (.ifCond .ne 5, 3) := by decide +kernel
theorem dX8_reasonToRefuse_51 : decode cX8_reasonToRefuse 51 = .ok (.iconst 4, 1) := by decide +kernel
theorem dX8_reasonToRefuse_52 : decode cX8_reasonToRefuse 52 = .ok (.ireturn, 1) := by decide +kernel
theorem dX8_reasonToRefuse_53 : decode cX8_reasonToRefuse 53 = .ok (.aload_n 0, 1) := by decide +kernel
theorem dX8_reasonToRefuse_54 : decode cX8_reasonToRefuse 54 = .ok (.getfield 26, 3) := by decide +kernel
theorem dX8_reasonToRefuse_57 : decode cX8_reasonToRefuse 57 = .ok (.iload 4, 2) := by decide +kernel
theorem dX8_reasonToRefuse_59 : decode cX8_reasonToRefuse 59 = .ok (.iload 5, 2) := by decide +kernel
theorem dX8_reasonToRefuse_61 : decode cX8_reasonToRefuse 61 = .ok (.invokevirtual 203, 3) := by decide +kernel
theorem dX8_reasonToRefuse_64 : decode cX8_reasonToRefuse 64 = .ok (.ifCond .ne 5, 3) := by decide +kernel
theorem dX8_reasonToRefuse_67 : decode cX8_reasonToRefuse 67 = .ok (.iconst 5, 1) := by decide +kernel
theorem dX8_reasonToRefuse_68 : decode cX8_reasonToRefuse 68 = .ok (.ireturn, 1) := by decide +kernel
theorem dX8_reasonToRefuse_69 : decode cX8_reasonToRefuse 69 = .ok (.iconst 0, 1) := by decide +kernel
theorem dX8_reasonToRefuse_70 : decode cX8_reasonToRefuse 70 = .ok (.lload_n 2, 1) := by decide +kernel
theorem dX8_reasonToRefuse_71 : decode cX8_reasonToRefuse 71 = .ok (.invokestatic 95, 3) := by decide +kernel
theorem dX8_reasonToRefuse_74 : decode cX8_reasonToRefuse 74 = .ok (.ifCond .ne 6, 3) := by decide +kernel
theorem dX8_reasonToRefuse_77 : decode cX8_reasonToRefuse 77 = .ok (.bipush 6, 2) := by decide +kernel
theorem dX8_reasonToRefuse_79 : decode cX8_reasonToRefuse 79 = .ok (.ireturn, 1) := by decide +kernel
theorem dX8_reasonToRefuse_80 : decode cX8_reasonToRefuse 80 = .ok (.aload_n 0, 1) := by decide +kernel
theorem dX8_reasonToRefuse_81 : decode cX8_reasonToRefuse 81 = .ok (.getfield 33, 3) := by decide +kernel
theorem dX8_reasonToRefuse_84 : decode cX8_reasonToRefuse 84 = .ok (.lload_n 2, 1) := by decide +kernel
theorem dX8_reasonToRefuse_85 : decode cX8_reasonToRefuse 85 = .ok (.aload_n 0, 1) := by decide +kernel
theorem dX8_reasonToRefuse_86 : decode cX8_reasonToRefuse 86 = .ok (.getfield 19, 3) := by decide +kernel
theorem dX8_reasonToRefuse_89 : decode cX8_reasonToRefuse 89 = .ok (.iload_n 1, 1) := by decide +kernel
theorem dX8_reasonToRefuse_90 : decode cX8_reasonToRefuse 90 = .ok (.invokevirtual 130, 3) := by decide +kernel
theorem dX8_reasonToRefuse_93 : decode cX8_reasonToRefuse 93 = .ok (.invokevirtual 206, 3) := by decide +kernel
theorem dX8_reasonToRefuse_96 : decode cX8_reasonToRefuse 96 = .ok (.iconst (-1), 1) := by decide +kernel
theorem dX8_reasonToRefuse_97 : decode cX8_reasonToRefuse 97 = .ok (.if_icmp .ne 7, 3) := by decide +kernel
theorem dX8_reasonToRefuse_100 : decode cX8_reasonToRefuse 100 = .ok (.iconst 0, 1) := by decide +kernel
theorem dX8_reasonToRefuse_101 : decode cX8_reasonToRefuse 101 = .ok (.goto 5, 3) := by decide +kernel
theorem dX8_reasonToRefuse_104 : decode cX8_reasonToRefuse 104 = .ok (.bipush 7, 2) := by decide +kernel
theorem dX8_reasonToRefuse_106 : decode cX8_reasonToRefuse 106 = .ok (.ireturn, 1) := by decide +kernel
set_option maxRecDepth 20000 in
theorem ggX8_noteRefusal_X6_addRefusal : GoodIn wsX8_noteRefusal wsX6_addRefusal := goodIn_r _ [7, 8, 9, 10, 27, 28, 29, 30, 31, 32, 33] (by decide +kernel) (by decide +kernel)
set_option maxRecDepth 20000 in
theorem gX8_noteRefusal_X6_addRefusal : GoodIn wsX8_noteRefusal (wsV RX8 210 RX6 yX6_addRefusal wsX6_addRefusal) := goodIn_app (goodIn_of _ (by decide +kernel)) ggX8_noteRefusal_X6_addRefusal
set_option maxRecDepth 20000 in
theorem ggX8_noteRefusal_X3_add : GoodIn wsX8_noteRefusal wsX3_add := goodIn_r _ [15, 16, 17, 34, 35] (by decide +kernel) (by decide +kernel)
set_option maxRecDepth 20000 in
theorem gX8_noteRefusal_X3_add : GoodIn wsX8_noteRefusal (wsV RX8 214 RX3 yX3_add wsX3_add) := goodIn_app (goodIn_of _ (by decide +kernel)) ggX8_noteRefusal_X3_add
theorem dX8_noteRefusal_0 : decode cX8_noteRefusal 0 = .ok (.aload_n 0, 1) := by decide +kernel
theorem dX8_noteRefusal_1 : decode cX8_noteRefusal 1 = .ok (.getfield 33, 3) := by decide +kernel
theorem dX8_noteRefusal_4 : decode cX8_noteRefusal 4 = .ok (.lload_n 2, 1) := by decide +kernel
theorem dX8_noteRefusal_5 : decode cX8_noteRefusal 5 = .ok (.invokevirtual 210, 3) := by decide +kernel
theorem dX8_noteRefusal_8 : decode cX8_noteRefusal 8 = .ok (.iconst 3, 1) := by decide +kernel
theorem dX8_noteRefusal_9 : decode cX8_noteRefusal 9 = .ok (.irem, 1) := by decide +kernel
theorem dX8_noteRefusal_10 : decode cX8_noteRefusal 10 = .ok (.ifCond .ne 11, 3) := by decide +kernel
theorem dX8_noteRefusal_13 : decode cX8_noteRefusal 13 = .ok (.aload_n 0, 1) := by decide +kernel
theorem dX8_noteRefusal_14 : decode cX8_noteRefusal 14 = .ok (.getfield 54, 3) := by decide +kernel
theorem dX8_noteRefusal_17 : decode cX8_noteRefusal 17 = .ok (.iload_n 1, 1) := by decide +kernel
theorem dX8_noteRefusal_18 : decode cX8_noteRefusal 18 = .ok (.invokevirtual 214, 3) := by decide +kernel
theorem dX8_noteRefusal_21 : decode cX8_noteRefusal 21 = .ok (.return_, 1) := by decide +kernel
set_option maxRecDepth 20000 in
theorem ggX8_tellDoubles_X2_size : GoodIn wsX8_tellDoubles wsX2_size := goodIn_r _ [7, 8, 58, 59, 60, 61] (by decide +kernel) (by decide +kernel)
set_option maxRecDepth 20000 in
theorem gX8_tellDoubles_X2_size : GoodIn wsX8_tellDoubles (wsV RX8 216 RX2 yX2_size wsX2_size) := goodIn_app (goodIn_of _ (by decide +kernel)) ggX8_tellDoubles_X2_size
set_option maxRecDepth 20000 in
theorem ggX8_tellDoubles_X6_size : GoodIn wsX8_tellDoubles wsX6_size := goodIn_r _ [13, 14, 62, 63, 64, 65, 66, 67, 68] (by decide +kernel) (by decide +kernel)
set_option maxRecDepth 20000 in
theorem gX8_tellDoubles_X6_size : GoodIn wsX8_tellDoubles (wsV RX8 219 RX6 yX6_size wsX6_size) := goodIn_app (goodIn_of _ (by decide +kernel)) ggX8_tellDoubles_X6_size
set_option maxRecDepth 20000 in
theorem ggX8_tellDoubles_X6_isOf : GoodIn wsX8_tellDoubles wsX6_isOf := goodIn_r _ [18, 14, 19, 20, 21, 22, 62, 63, 64, 65, 66, 67, 68] (by decide +kernel) (by decide +kernel)
set_option maxRecDepth 20000 in
theorem gX8_tellDoubles_X6_isOf : GoodIn wsX8_tellDoubles (wsV RX8 220 RX6 yX6_isOf wsX6_isOf) := goodIn_app (goodIn_of _ (by decide +kernel)) ggX8_tellDoubles_X6_isOf
set_option maxRecDepth 20000 in
theorem ggX8_tellDoubles_X6_serialOf : GoodIn wsX8_tellDoubles wsX6_serialOf := goodIn_r _ [26, 14, 27, 28, 20, 21, 22, 62, 63, 64, 65, 66, 67, 68] (by decide +kernel) (by decide +kernel)
set_option maxRecDepth 20000 in
theorem gX8_tellDoubles_X6_serialOf : GoodIn wsX8_tellDoubles (wsV RX8 223 RX6 yX6_serialOf wsX6_serialOf) := goodIn_app (goodIn_of _ (by decide +kernel)) ggX8_tellDoubles_X6_serialOf
set_option maxRecDepth 20000 in
theorem ggX8_tellDoubles_X6_find : GoodIn wsX8_tellDoubles wsX6_find := goodIn_r _ [32, 14, 27, 19, 62, 63, 64, 65, 66, 67, 68] (by decide +kernel) (by decide +kernel)
set_option maxRecDepth 20000 in
theorem gX8_tellDoubles_X6_find : GoodIn wsX8_tellDoubles (wsV RX8 206 RX6 yX6_find wsX6_find) := goodIn_app (goodIn_of _ (by decide +kernel)) ggX8_tellDoubles_X6_find
set_option maxRecDepth 20000 in
theorem ggX8_tellDoubles_X6_payerOf : GoodIn wsX8_tellDoubles wsX6_payerOf := goodIn_r _ [36, 14, 37, 20, 21, 22, 62, 63, 64, 65, 66, 67, 68] (by decide +kernel) (by decide +kernel)
set_option maxRecDepth 20000 in
theorem gX8_tellDoubles_X6_payerOf : GoodIn wsX8_tellDoubles (wsV RX8 226 RX6 yX6_payerOf wsX6_payerOf) := goodIn_app (goodIn_of _ (by decide +kernel)) ggX8_tellDoubles_X6_payerOf
set_option maxRecDepth 20000 in
theorem ggX8_tellDoubles_X2_insert : GoodIn wsX8_tellDoubles wsX2_insert := goodIn_r _ [41, 8, 42, 43, 44, 58, 59, 60, 61] (by decide +kernel) (by decide +kernel)
set_option maxRecDepth 20000 in
theorem gX8_tellDoubles_X2_insert : GoodIn wsX8_tellDoubles (wsV RX8 229 RX2 yX2_insert wsX2_insert) := goodIn_app (goodIn_of _ (by decide +kernel)) ggX8_tellDoubles_X2_insert
set_option maxRecDepth 20000 in
theorem ggX8_tellDoubles_X6_leaveSet : GoodIn wsX8_tellDoubles wsX6_leaveSet := goodIn_r _ [48, 14, 19, 20, 21, 22, 62, 63, 64, 65, 66, 67, 68] (by decide +kernel) (by decide +kernel)
set_option maxRecDepth 20000 in
theorem gX8_tellDoubles_X6_leaveSet : GoodIn wsX8_tellDoubles (wsV RX8 233 RX6 yX6_leaveSet wsX6_leaveSet) := goodIn_app (goodIn_of _ (by decide +kernel)) ggX8_tellDoubles_X6_leaveSet
theorem dX8_tellDoubles_0 : decode cX8_tellDoubles 0 = .ok (.aload_n 0, 1) := by decide +kernel
theorem dX8_tellDoubles_1 : decode cX8_tellDoubles 1 = .ok (.getfield 40, 3) := by decide +kernel
theorem dX8_tellDoubles_4 : decode cX8_tellDoubles 4 = .ok (.invokevirtual 216, 3) := by decide +kernel
theorem dX8_tellDoubles_7 : decode cX8_tellDoubles 7 = .ok (.istore_n 3, 1) := by decide +kernel
theorem dX8_tellDoubles_8 : decode cX8_tellDoubles 8 = .ok (.iconst 0, 1) := by decide +kernel
theorem dX8_tellDoubles_9 : decode cX8_tellDoubles 9 = .ok (.istore 4, 2) := by decide +kernel
theorem dX8_tellDoubles_11 : decode cX8_tellDoubles 11 = .ok (.iload 4, 2) := by decide +kernel
theorem dX8_tellDoubles_13 : decode cX8_tellDoubles 13 = .ok (.aload_n 0, 1) := by decide +kernel
theorem dX8_tellDoubles_14 : decode cX8_tellDoubles 14 = .ok (.getfield 33, 3) := by decide +kernel
theorem dX8_tellDoubles_17 : decode cX8_tellDoubles 17 = .ok (.invokevirtual 219, 3) := by decide +kernel
theorem dX8_tellDoubles_20 : decode cX8_tellDoubles 20 = .ok (.if_icmp .ge 91, 3) := by decide +kernel
theorem dX8_tellDoubles_23 : decode cX8_tellDoubles 23 = .ok (.aload_n 0, 1) := by decide +kernel
theorem dX8_tellDoubles_24 : decode cX8_tellDoubles 24 = .ok (.getfield 33, 3) := by decide +kernel
theorem dX8_tellDoubles_27 : decode cX8_tellDoubles 27 = .ok (.iload 4, 2) := by decide +kernel
theorem dX8_tellDoubles_29 : decode cX8_tellDoubles 29 = .ok (.iload_n 2, 1) := by decide +kernel
theorem dX8_tellDoubles_30 : decode cX8_tellDoubles 30 = .ok (.invokevirtual 220, 3) := by decide +kernel
theorem dX8_tellDoubles_33 : decode cX8_tellDoubles 33 = .ok (.ifCond .eq 72, 3) := by decide +kernel
theorem dX8_tellDoubles_36 : decode cX8_tellDoubles 36 = .ok (.aload_n 0, 1) := by decide +kernel
theorem dX8_tellDoubles_37 : decode cX8_tellDoubles 37 = .ok (.getfield 33, 3) := by decide +kernel
theorem dX8_tellDoubles_40 : decode cX8_tellDoubles 40 = .ok (.aload_n 0, 1) := by decide +kernel
theorem dX8_tellDoubles_41 : decode cX8_tellDoubles 41 = .ok (.getfield 33, 3) := by decide +kernel
theorem dX8_tellDoubles_44 : decode cX8_tellDoubles 44 = .ok (.iload 4, 2) := by decide +kernel
theorem dX8_tellDoubles_46 : decode cX8_tellDoubles 46 = .ok (.invokevirtual 223, 3) := by decide +kernel
theorem dX8_tellDoubles_49 : decode cX8_tellDoubles 49 = .ok (.iload_n 1, 1) := by decide +kernel
theorem dX8_tellDoubles_50 : decode cX8_tellDoubles 50 = .ok (.invokevirtual 206, 3) := by decide +kernel
theorem dX8_tellDoubles_53 : decode cX8_tellDoubles 53 = .ok (.istore 5, 2) := by decide +kernel
theorem dX8_tellDoubles_55 : decode cX8_tellDoubles 55 = .ok (.iload 5, 2) := by decide +kernel
theorem dX8_tellDoubles_57 : decode cX8_tellDoubles 57 = .ok (.iconst (-1), 1) := by decide +kernel
theorem dX8_tellDoubles_58 : decode cX8_tellDoubles 58 = .ok (.if_icmp .eq 47, 3) := by decide +kernel
theorem dX8_tellDoubles_61 : decode cX8_tellDoubles 61 = .ok (.aload_n 0, 1) := by decide +kernel
theorem dX8_tellDoubles_62 : decode cX8_tellDoubles 62 = .ok (.getfield 40, 3) := by decide +kernel
theorem dX8_tellDoubles_65 : decode cX8_tellDoubles 65 = .ok (.iload_n 3, 1) := by decide +kernel
theorem dX8_tellDoubles_66 : decode cX8_tellDoubles 66 = .ok (.aload_n 0, 1) := by decide +kernel
theorem dX8_tellDoubles_67 : decode cX8_tellDoubles 67 = .ok (.getfield 33, 3) := by decide +kernel
theorem dX8_tellDoubles_70 : decode cX8_tellDoubles 70 = .ok (.iload 4, 2) := by decide +kernel
theorem dX8_tellDoubles_72 : decode cX8_tellDoubles 72 = .ok (.invokevirtual 223, 3) := by decide +kernel
theorem dX8_tellDoubles_75 : decode cX8_tellDoubles 75 = .ok (.aload_n 0, 1) := by decide +kernel
theorem dX8_tellDoubles_76 : decode cX8_tellDoubles 76 = .ok (.getfield 33, 3) := by decide +kernel
theorem dX8_tellDoubles_79 : decode cX8_tellDoubles 79 = .ok (.iload 5, 2) := by decide +kernel
theorem dX8_tellDoubles_81 : decode cX8_tellDoubles 81 = .ok (.invokevirtual 226, 3) := by decide +kernel
theorem dX8_tellDoubles_84 : decode cX8_tellDoubles 84 = .ok (.aload_n 0, 1) := by decide +kernel
theorem dX8_tellDoubles_85 : decode cX8_tellDoubles 85 = .ok (.getfield 33, 3) := by decide +kernel
theorem dX8_tellDoubles_88 : decode cX8_tellDoubles 88 = .ok (.iload 4, 2) := by decide +kernel
theorem dX8_tellDoubles_90 : decode cX8_tellDoubles 90 = .ok (.invokevirtual 226, 3) := by decide +kernel
theorem dX8_tellDoubles_93 : decode cX8_tellDoubles 93 = .ok (.invokevirtual 229, 3) := by decide +kernel
theorem dX8_tellDoubles_96 : decode cX8_tellDoubles 96 = .ok (.aload_n 0, 1) := by decide +kernel
theorem dX8_tellDoubles_97 : decode cX8_tellDoubles 97 = .ok (.getfield 33, 3) := by decide +kernel
theorem dX8_tellDoubles_100 : decode cX8_tellDoubles 100 = .ok (.iload 4, 2) := by decide +kernel
theorem dX8_tellDoubles_102 : decode cX8_tellDoubles 102 = .ok (.invokevirtual 233, 3) := by decide +kernel
theorem dX8_tellDoubles_105 : decode cX8_tellDoubles 105 = .ok (.iinc 4 1, 3) := by decide +kernel
theorem dX8_tellDoubles_108 : decode cX8_tellDoubles 108 = .ok (.goto (-97), 3) := by decide +kernel
theorem dX8_tellDoubles_111 : decode cX8_tellDoubles 111 = .ok (.aload_n 0, 1) := by decide +kernel
theorem dX8_tellDoubles_112 : decode cX8_tellDoubles 112 = .ok (.getfield 40, 3) := by decide +kernel
theorem dX8_tellDoubles_115 : decode cX8_tellDoubles 115 = .ok (.invokevirtual 216, 3) := by decide +kernel
theorem dX8_tellDoubles_118 : decode cX8_tellDoubles 118 = .ok (.iload_n 3, 1) := by decide +kernel
theorem dX8_tellDoubles_119 : decode cX8_tellDoubles 119 = .ok (.isub, 1) := by decide +kernel
theorem dX8_tellDoubles_120 : decode cX8_tellDoubles 120 = .ok (.ireturn, 1) := by decide +kernel
theorem dX8_isIndex_0 : decode cX8_isIndex 0 = .ok (.iload_n 0, 1) := by decide +kernel
theorem dX8_isIndex_1 : decode cX8_isIndex 1 = .ok (.ifCond .lt 12, 3) := by decide +kernel
theorem dX8_isIndex_4 : decode cX8_isIndex 4 = .ok (.iload_n 0, 1) := by decide +kernel
theorem dX8_isIndex_5 : decode cX8_isIndex 5 = .ok (.iload_n 1, 1) := by decide +kernel
theorem dX8_isIndex_6 : decode cX8_isIndex 6 = .ok (.if_icmp .ge 7, 3) := by decide +kernel
theorem dX8_isIndex_9 : decode cX8_isIndex 9 = .ok (.iconst 1, 1) := by decide +kernel
theorem dX8_isIndex_10 : decode cX8_isIndex 10 = .ok (.goto 4, 3) := by decide +kernel
theorem dX8_isIndex_13 : decode cX8_isIndex 13 = .ok (.iconst 0, 1) := by decide +kernel
theorem dX8_isIndex_14 : decode cX8_isIndex 14 = .ok (.ireturn, 1) := by decide +kernel
end
section
theorem dX9_init_0 : decode cX9_init 0 = .ok (.aload_n 0, 1) := by decide +kernel
theorem dX9_init_1 : decode cX9_init 1 = .ok (.invokespecial 1, 3) := by decide +kernel
theorem dX9_init_4 : decode cX9_init 4 = .ok (.aload_n 0, 1) := by decide +kernel
theorem dX9_init_5 : decode cX9_init 5 = .ok (.bipush 64, 2) := by decide +kernel
theorem dX9_init_7 : decode cX9_init 7 = .ok (.newarray .int, 2) := by decide +kernel
theorem dX9_init_9 : decode cX9_init 9 = .ok (.putfield 7, 3) := by decide +kernel
theorem dX9_init_12 : decode cX9_init 12 = .ok (.aload_n 0, 1) := by decide +kernel
theorem dX9_init_13 : decode cX9_init 13 = .ok (.bipush 16, 2) := by decide +kernel
theorem dX9_init_15 : decode cX9_init 15 = .ok (.newarray .int, 2) := by decide +kernel
theorem dX9_init_17 : decode cX9_init 17 = .ok (.putfield 13, 3) := by decide +kernel
theorem dX9_init_20 : decode cX9_init 20 = .ok (.aload_n 0, 1) := by decide +kernel
theorem dX9_init_21 : decode cX9_init 21 = .ok (.bipush 6, 2) := by decide +kernel
theorem dX9_init_23 : decode cX9_init 23 = .ok (.newarray .int, 2) := by decide +kernel
theorem dX9_init_25 : decode cX9_init 25 = .ok (.putfield 16, 3) := by decide +kernel
theorem dX9_init_28 : decode cX9_init 28 = .ok (.aload_n 0, 1) := by decide +kernel
theorem dX9_init_29 : decode cX9_init 29 = .ok (.bipush 6, 2) := by decide +kernel
theorem dX9_init_31 : decode cX9_init 31 = .ok (.newarray .boolean, 2) := by decide +kernel
theorem dX9_init_33 : decode cX9_init 33 = .ok (.putfield 19, 3) := by decide +kernel
theorem dX9_init_36 : decode cX9_init 36 = .ok (.aload_n 0, 1) := by decide +kernel
theorem dX9_init_37 : decode cX9_init 37 = .ok (.bipush 6, 2) := by decide +kernel
theorem dX9_init_39 : decode cX9_init 39 = .ok (.newarray .boolean, 2) := by decide +kernel
theorem dX9_init_41 : decode cX9_init 41 = .ok (.putfield 23, 3) := by decide +kernel
theorem dX9_init_44 : decode cX9_init 44 = .ok (.aload_n 0, 1) := by decide +kernel
theorem dX9_init_45 : decode cX9_init 45 = .ok (.bipush 8, 2) := by decide +kernel
theorem dX9_init_47 : decode cX9_init 47 = .ok (.newarray .int, 2) := by decide +kernel
theorem dX9_init_49 : decode cX9_init 49 = .ok (.putfield 26, 3) := by decide +kernel
theorem dX9_init_52 : decode cX9_init 52 = .ok (.aload_n 0, 1) := by decide +kernel
theorem dX9_init_53 : decode cX9_init 53 = .ok (.bipush 8, 2) := by decide +kernel
theorem dX9_init_55 : decode cX9_init 55 = .ok (.newarray .int, 2) := by decide +kernel
theorem dX9_init_57 : decode cX9_init 57 = .ok (.putfield 29, 3) := by decide +kernel
theorem dX9_init_60 : decode cX9_init 60 = .ok (.aload_n 0, 1) := by decide +kernel
theorem dX9_init_61 : decode cX9_init 61 = .ok (.sipush 200, 3) := by decide +kernel
theorem dX9_init_64 : decode cX9_init 64 = .ok (.newarray .long, 2) := by decide +kernel
theorem dX9_init_66 : decode cX9_init 66 = .ok (.putfield 32, 3) := by decide +kernel
theorem dX9_init_69 : decode cX9_init 69 = .ok (.aload_n 0, 1) := by decide +kernel
theorem dX9_init_70 : decode cX9_init 70 = .ok (.sipush 200, 3) := by decide +kernel
theorem dX9_init_73 : decode cX9_init 73 = .ok (.newarray .int, 2) := by decide +kernel
theorem dX9_init_75 : decode cX9_init 75 = .ok (.putfield 36, 3) := by decide +kernel
theorem dX9_init_78 : decode cX9_init 78 = .ok (.aload_n 0, 1) := by decide +kernel
theorem dX9_init_79 : decode cX9_init 79 = .ok (.sipush 200, 3) := by decide +kernel
theorem dX9_init_82 : decode cX9_init 82 = .ok (.newarray .int, 2) := by decide +kernel
theorem dX9_init_84 : decode cX9_init 84 = .ok (.putfield 39, 3) := by decide +kernel
theorem dX9_init_87 : decode cX9_init 87 = .ok (.aload_n 0, 1) := by decide +kernel
theorem dX9_init_88 : decode cX9_init 88 = .ok (.sipush 200, 3) := by decide +kernel
theorem dX9_init_91 : decode cX9_init 91 = .ok (.newarray .long, 2) := by decide +kernel
theorem dX9_init_93 : decode cX9_init 93 = .ok (.putfield 42, 3) := by decide +kernel
theorem dX9_init_96 : decode cX9_init 96 = .ok (.aload_n 0, 1) := by decide +kernel
theorem dX9_init_97 : decode cX9_init 97 = .ok (.sipush 200, 3) := by decide +kernel
theorem dX9_init_100 : decode cX9_init 100 = .ok (.newarray .boolean, 2) := by decide +kernel
theorem dX9_init_102 : decode cX9_init 102 = .ok (.putfield 45, 3) := by decide +kernel
theorem dX9_init_105 : decode cX9_init 105 = .ok (.aload_n 0, 1) := by decide +kernel
theorem dX9_init_106 : decode cX9_init 106 = .ok (.sipush 200, 3) := by decide +kernel
theorem dX9_init_109 : decode cX9_init 109 = .ok (.newarray .boolean, 2) := by decide +kernel
theorem dX9_init_111 : decode cX9_init 111 = .ok (.putfield 48, 3) := by decide +kernel
theorem dX9_init_114 : decode cX9_init 114 = .ok (.aload_n 0, 1) := by decide +kernel
theorem dX9_init_115 : decode cX9_init 115 = .ok (.sipush 1100, 3) := by decide +kernel
theorem dX9_init_118 : decode cX9_init 118 = .ok (.newarray .long, 2) := by decide +kernel
theorem dX9_init_120 : decode cX9_init 120 = .ok (.putfield 51, 3) := by decide +kernel
theorem dX9_init_123 : decode cX9_init 123 = .ok (.aload_n 0, 1) := by decide +kernel
theorem dX9_init_124 : decode cX9_init 124 = .ok (.sipush 1100, 3) := by decide +kernel
theorem dX9_init_127 : decode cX9_init 127 = .ok (.newarray .int, 2) := by decide +kernel
theorem dX9_init_129 : decode cX9_init 129 = .ok (.putfield 54, 3) := by decide +kernel
theorem dX9_init_132 : decode cX9_init 132 = .ok (.aload_n 0, 1) := by decide +kernel
theorem dX9_init_133 : decode cX9_init 133 = .ok (.sipush 1100, 3) := by decide +kernel
theorem dX9_init_136 : decode cX9_init 136 = .ok (.newarray .int, 2) := by decide +kernel
theorem dX9_init_138 : decode cX9_init 138 = .ok (.putfield 57, 3) := by decide +kernel
theorem dX9_init_141 : decode cX9_init 141 = .ok (.aload_n 0, 1) := by decide +kernel
theorem dX9_init_142 : decode cX9_init 142 = .ok (.sipush 1100, 3) := by decide +kernel
theorem dX9_init_145 : decode cX9_init 145 = .ok (.newarray .long, 2) := by decide +kernel
theorem dX9_init_147 : decode cX9_init 147 = .ok (.putfield 60, 3) := by decide +kernel
theorem dX9_init_150 : decode cX9_init 150 = .ok (.aload_n 0, 1) := by decide +kernel
theorem dX9_init_151 : decode cX9_init 151 = .ok (.sipush 1100, 3) := by decide +kernel
theorem dX9_init_154 : decode cX9_init 154 = .ok (.newarray .int, 2) := by decide +kernel
theorem dX9_init_156 : decode cX9_init 156 = .ok (.putfield 63, 3) := by decide +kernel
theorem dX9_init_159 : decode cX9_init 159 = .ok (.aload_n 0, 1) := by decide +kernel
theorem dX9_init_160 : decode cX9_init 160 = .ok (.sipush 1100, 3) := by decide +kernel
theorem dX9_init_163 : decode cX9_init 163 = .ok (.newarray .int, 2) := by decide +kernel
theorem dX9_init_165 : decode cX9_init 165 = .ok (.putfield 66, 3) := by decide +kernel
theorem dX9_init_168 : decode cX9_init 168 = .ok (.aload_n 0, 1) := by decide +kernel
theorem dX9_init_169 : decode cX9_init 169 = .ok (.sipush 1100, 3) := by decide +kernel
theorem dX9_init_172 : decode cX9_init 172 = .ok (.newarray .int, 2) := by decide +kernel
theorem dX9_init_174 : decode cX9_init 174 = .ok (.putfield 69, 3) := by decide +kernel
theorem dX9_init_177 : decode cX9_init 177 = .ok (.aload_n 0, 1) := by decide +kernel
theorem dX9_init_178 : decode cX9_init 178 = .ok (.sipush 1100, 3) := by decide +kernel
theorem dX9_init_181 : decode cX9_init 181 = .ok (.newarray .boolean, 2) := by decide +kernel
theorem dX9_init_183 : decode cX9_init 183 = .ok (.putfield 72, 3) := by decide +kernel
theorem dX9_init_186 : decode cX9_init 186 = .ok (.aload_n 0, 1) := by decide +kernel
theorem dX9_init_187 : decode cX9_init 187 = .ok (.bipush 100, 2) := by decide +kernel
theorem dX9_init_189 : decode cX9_init 189 = .ok (.newarray .long, 2) := by decide +kernel
theorem dX9_init_191 : decode cX9_init 191 = .ok (.putfield 75, 3) := by decide +kernel
theorem dX9_init_194 : decode cX9_init 194 = .ok (.aload_n 0, 1) := by decide +kernel
theorem dX9_init_195 : decode cX9_init 195 = .ok (.iconst 3, 1) := by decide +kernel
theorem dX9_init_196 : decode cX9_init 196 = .ok (.newarray .long, 2) := by decide +kernel
theorem dX9_init_198 : decode cX9_init 198 = .ok (.putfield 78, 3) := by decide +kernel
theorem dX9_init_201 : decode cX9_init 201 = .ok (.iconst 0, 1) := by decide +kernel
theorem dX9_init_202 : decode cX9_init 202 = .ok (.istore_n 1, 1) := by decide +kernel
theorem dX9_init_203 : decode cX9_init 203 = .ok (.iload_n 1, 1) := by decide +kernel
theorem dX9_init_204 : decode cX9_init 204 = .ok (.bipush 8, 2) := by decide +kernel
theorem dX9_init_206 : decode cX9_init 206 = .ok (.if_icmp .ge 16, 3) := by decide +kernel
theorem dX9_init_209 : decode cX9_init 209 = .ok (.aload_n 0, 1) := by decide +kernel
theorem dX9_init_210 : decode cX9_init 210 = .ok (.getfield 26, 3) := by decide +kernel
theorem dX9_init_213 : decode cX9_init 213 = .ok (.iload_n 1, 1) := by decide +kernel
theorem dX9_init_214 : decode cX9_init 214 = .ok (.iconst (-1), 1) := by decide +kernel
theorem dX9_init_215 : decode cX9_init 215 = .ok (.iastore, 1) := by decide +kernel
theorem dX9_init_216 : decode cX9_init 216 = .ok (.iinc 1 1, 3) := by decide +kernel
theorem dX9_init_219 : decode cX9_init 219 = .ok (.goto (-16), 3) := by decide +kernel
theorem dX9_init_222 : decode cX9_init 222 = .ok (.return_, 1) := by decide +kernel
theorem dX9_thrown_0 : decode cX9_thrown 0 = .ok (.aload_n 0, 1) := by decide +kernel
theorem dX9_thrown_1 : decode cX9_thrown 1 = .ok (.getfield 81, 3) := by decide +kernel
theorem dX9_thrown_4 : decode cX9_thrown 4 = .ok (.ireturn, 1) := by decide +kernel
theorem dX9_isIn_0 : decode cX9_isIn 0 = .ok (.lload_n 0, 1) := by decide +kernel
theorem dX9_isIn_1 : decode cX9_isIn 1 = .ok (.lconst 0, 1) := by decide +kernel
theorem dX9_isIn_2 : decode cX9_isIn 2 = .ok (.lcmp, 1) := by decide +kernel
theorem dX9_isIn_3 : decode cX9_isIn 3 = .ok (.ifCond .lt 13, 3) := by decide +kernel
theorem dX9_isIn_6 : decode cX9_isIn 6 = .ok (.lload_n 0, 1) := by decide +kernel
theorem dX9_isIn_7 : decode cX9_isIn 7 = .ok (.lload_n 2, 1) := by decide +kernel
theorem dX9_isIn_8 : decode cX9_isIn 8 = .ok (.lcmp, 1) := by decide +kernel
theorem dX9_isIn_9 : decode cX9_isIn 9 = .ok (.ifCond .gt 7, 3) := by decide +kernel
theorem dX9_isIn_12 : decode cX9_isIn 12 = .ok (.iconst 1, 1) := by decide +kernel
theorem dX9_isIn_13 : decode cX9_isIn 13 = .ok (.goto 4, 3) := by decide +kernel
theorem dX9_isIn_16 : decode cX9_isIn 16 = .ok (.iconst 0, 1) := by decide +kernel
theorem dX9_isIn_17 : decode cX9_isIn 17 = .ok (.ireturn, 1) := by decide +kernel
set_option maxRecDepth 20000 in
theorem ggX9_width_X9_isIn : GoodIn wsX9_width wsX9_isIn := goodIn_r _ [8] (by decide +kernel) (by decide +kernel)
set_option maxRecDepth 20000 in
theorem gX9_width_X9_isIn : GoodIn wsX9_width (va_wsS RX9 87 yX9_isIn wsX9_isIn) := goodIn_app (goodIn_of _ (by decide +kernel)) ggX9_width_X9_isIn
theorem dX9_width_0 : decode cX9_width 0 = .ok (.aload_n 0, 1) := by decide +kernel
theorem dX9_width_1 : decode cX9_width 1 = .ok (.iconst 0, 1) := by decide +kernel
theorem dX9_width_2 : decode cX9_width 2 = .ok (.putfield 81, 3) := by decide +kernel
theorem dX9_width_5 : decode cX9_width 5 = .ok (.iload_n 1, 1) := by decide +kernel
theorem dX9_width_6 : decode cX9_width 6 = .ok (.i2l, 1) := by decide +kernel
theorem dX9_width_7 : decode cX9_width 7 = .ok (.ldc2_w 85, 3) := by decide +kernel
theorem dX9_width_10 : decode cX9_width 10 = .ok (.invokestatic 87, 3) := by decide +kernel
theorem dX9_width_13 : decode cX9_width 13 = .ok (.ifCond .eq 14, 3) := by decide +kernel
theorem dX9_width_16 : decode cX9_width 16 = .ok (.iload_n 2, 1) := by decide +kernel
theorem dX9_width_17 : decode cX9_width 17 = .ok (.i2l, 1) := by decide +kernel
theorem dX9_width_18 : decode cX9_width 18 = .ok (.ldc2_w 91, 3) := by decide +kernel
theorem dX9_width_21 : decode cX9_width 21 = .ok (.invokestatic 87, 3) := by decide +kernel
theorem dX9_width_24 : decode cX9_width 24 = .ok (.ifCond .ne 5, 3) := by decide +kernel
theorem dX9_width_27 : decode cX9_width 27 = .ok (.iconst 0, 1) := by decide +kernel
theorem dX9_width_28 : decode cX9_width 28 = .ok (.ireturn, 1) := by decide +kernel
theorem dX9_width_29 : decode cX9_width 29 = .ok (.aload_n 0, 1) := by decide +kernel
theorem dX9_width_30 : decode cX9_width 30 = .ok (.getfield 7, 3) := by decide +kernel
theorem dX9_width_33 : decode cX9_width 33 = .ok (.iload_n 1, 1) := by decide +kernel
theorem dX9_width_34 : decode cX9_width 34 = .ok (.iload_n 2, 1) := by decide +kernel
theorem dX9_width_35 : decode cX9_width 35 = .ok (.iastore, 1) := by decide +kernel
theorem dX9_width_36 : decode cX9_width 36 = .ok (.iconst 1, 1) := by decide +kernel
theorem dX9_width_37 : decode cX9_width 37 = .ok (.ireturn, 1) := by decide +kernel
theorem dX9_size_0 : decode cX9_size 0 = .ok (.iconst 0, 1) := by decide +kernel
theorem dX9_size_1 : decode cX9_size 1 = .ok (.istore_n 1, 1) := by decide +kernel
theorem dX9_size_2 : decode cX9_size 2 = .ok (.iload_n 1, 1) := by decide +kernel
theorem dX9_size_3 : decode cX9_size 3 = .ok (.bipush 64, 2) := by decide +kernel
theorem dX9_size_5 : decode cX9_size 5 = .ok (.if_icmp .ge 18, 3) := by decide +kernel
theorem dX9_size_8 : decode cX9_size 8 = .ok (.aload_n 0, 1) := by decide +kernel
theorem dX9_size_9 : decode cX9_size 9 = .ok (.getfield 7, 3) := by decide +kernel
theorem dX9_size_12 : decode cX9_size 12 = .ok (.iload_n 1, 1) := by decide +kernel
theorem dX9_size_13 : decode cX9_size 13 = .ok (.iaload, 1) := by decide +kernel
theorem dX9_size_14 : decode cX9_size 14 = .ok (.ifCond .le 9, 3) := by decide +kernel
theorem dX9_size_17 : decode cX9_size 17 = .ok (.iinc 1 1, 3) := by decide +kernel
theorem dX9_size_20 : decode cX9_size 20 = .ok (.goto (-18), 3) := by decide +kernel
theorem dX9_size_23 : decode cX9_size 23 = .ok (.iload_n 1, 1) := by decide +kernel
theorem dX9_size_24 : decode cX9_size 24 = .ok (.ireturn, 1) := by decide +kernel
set_option maxRecDepth 20000 in
theorem ggX9_at_X9_size : GoodIn wsX9_at wsX9_size := goodIn_r _ [6, 1, 7, 8, 9, 10, 11, 12, 13, 14, 15, 16, 17, 18, 19, 20, 21, 22, 23, 24, 25, 26, 27, 28, 29, 30, 31, 32, 33, 34, 35, 36, 37, 38] (by decide +kernel) (by decide +kernel)
set_option maxRecDepth 20000 in
theorem gX9_at_X9_size : GoodIn wsX9_at (wsV RX9 93 RX9 yX9_size wsX9_size) := goodIn_app (goodIn_of _ (by decide +kernel)) ggX9_at_X9_size
theorem dX9_at_0 : decode cX9_at 0 = .ok (.aload_n 0, 1) := by decide +kernel
theorem dX9_at_1 : decode cX9_at 1 = .ok (.getfield 7, 3) := by decide +kernel
theorem dX9_at_4 : decode cX9_at 4 = .ok (.iload_n 2, 1) := by decide +kernel
theorem dX9_at_5 : decode cX9_at 5 = .ok (.ifCond .eq 14, 3) := by decide +kernel
theorem dX9_at_8 : decode cX9_at 8 = .ok (.aload_n 0, 1) := by decide +kernel
theorem dX9_at_9 : decode cX9_at 9 = .ok (.invokevirtual 93, 3) := by decide +kernel
theorem dX9_at_12 : decode cX9_at 12 = .ok (.iconst 1, 1) := by decide +kernel
theorem dX9_at_13 : decode cX9_at 13 = .ok (.isub, 1) := by decide +kernel
theorem dX9_at_14 : decode cX9_at 14 = .ok (.iload_n 1, 1) := by decide +kernel
theorem dX9_at_15 : decode cX9_at 15 = .ok (.isub, 1) := by decide +kernel
theorem dX9_at_16 : decode cX9_at 16 = .ok (.goto 4, 3) := by decide +kernel
theorem dX9_at_19 : decode cX9_at 19 = .ok (.iload_n 1, 1) := by decide +kernel
theorem dX9_at_20 : decode cX9_at 20 = .ok (.iaload, 1) := by decide +kernel
theorem dX9_at_21 : decode cX9_at 21 = .ok (.ireturn, 1) := by decide +kernel
theorem dX9_pattern_0 : decode cX9_pattern 0 = .ok (.iconst 0, 1) := by decide +kernel
theorem dX9_pattern_1 : decode cX9_pattern 1 = .ok (.istore_n 2, 1) := by decide +kernel
theorem dX9_pattern_2 : decode cX9_pattern 2 = .ok (.iload_n 0, 1) := by decide +kernel
theorem dX9_pattern_3 : decode cX9_pattern 3 = .ok (.tableswitch 112 0 8 #[49, 56, 63, 70, 77, 84, 91, 98, 105], 49) := by decide +kernel
theorem dX9_pattern_52 : decode cX9_pattern 52 = .ok (.sipush 3211, 3) := by decide +kernel
theorem dX9_pattern_55 : decode cX9_pattern 55 = .ok (.istore_n 2, 1) := by decide +kernel
theorem dX9_pattern_56 : decode cX9_pattern 56 = .ok (.goto 63, 3) := by decide +kernel
theorem dX9_pattern_59 : decode cX9_pattern 59 = .ok (.sipush 2221, 3) := by decide +kernel
theorem dX9_pattern_62 : decode cX9_pattern 62 = .ok (.istore_n 2, 1) := by decide +kernel
theorem dX9_pattern_63 : decode cX9_pattern 63 = .ok (.goto 56, 3) := by decide +kernel
theorem dX9_pattern_66 : decode cX9_pattern 66 = .ok (.sipush 2122, 3) := by decide +kernel
theorem dX9_pattern_69 : decode cX9_pattern 69 = .ok (.istore_n 2, 1) := by decide +kernel
theorem dX9_pattern_70 : decode cX9_pattern 70 = .ok (.goto 49, 3) := by decide +kernel
theorem dX9_pattern_73 : decode cX9_pattern 73 = .ok (.sipush 1411, 3) := by decide +kernel
theorem dX9_pattern_76 : decode cX9_pattern 76 = .ok (.istore_n 2, 1) := by decide +kernel
theorem dX9_pattern_77 : decode cX9_pattern 77 = .ok (.goto 42, 3) := by decide +kernel
theorem dX9_pattern_80 : decode cX9_pattern 80 = .ok (.sipush 1132, 3) := by decide +kernel
theorem dX9_pattern_83 : decode cX9_pattern 83 = .ok (.istore_n 2, 1) := by decide +kernel
theorem dX9_pattern_84 : decode cX9_pattern 84 = .ok (.goto 35, 3) := by decide +kernel
theorem dX9_pattern_87 : decode cX9_pattern 87 = .ok (.sipush 1231, 3) := by decide +kernel
theorem dX9_pattern_90 : decode cX9_pattern 90 = .ok (.istore_n 2, 1) := by decide +kernel
theorem dX9_pattern_91 : decode cX9_pattern 91 = .ok (.goto 28, 3) := by decide +kernel
theorem dX9_pattern_94 : decode cX9_pattern 94 = .ok (.sipush 1114, 3) := by decide +kernel
theorem dX9_pattern_97 : decode cX9_pattern 97 = .ok (.istore_n 2, 1) := by decide +kernel
theorem dX9_pattern_98 : decode cX9_pattern 98 = .ok (.goto 21, 3) := by decide +kernel
theorem dX9_pattern_101 : decode cX9_pattern 101 = .ok (.sipush 1312, 3) := by decide +kernel
theorem dX9_pattern_104 : decode cX9_pattern 104 = .ok (.istore_n 2, 1) := by decide +kernel
theorem dX9_pattern_105 : decode cX9_pattern 105 = .ok (.goto 14, 3) := by decide +kernel
theorem dX9_pattern_108 : decode cX9_pattern 108 = .ok (.sipush 1213, 3) := by decide +kernel
theorem dX9_pattern_111 : decode cX9_pattern 111 = .ok (.istore_n 2, 1) := by decide +kernel
theorem dX9_pattern_112 : decode cX9_pattern 112 = .ok (.goto 7, 3) := by decide +kernel
theorem dX9_pattern_115 : decode cX9_pattern 115 = .ok (.sipush 3112, 3) := by decide +kernel
theorem dX9_pattern_118 : decode cX9_pattern 118 = .ok (.istore_n 2, 1) := by decide +kernel
theorem dX9_pattern_119 : decode cX9_pattern 119 = .ok (.iconst 3, 1) := by decide +kernel
theorem dX9_pattern_120 : decode cX9_pattern 120 = .ok (.istore_n 3, 1) := by decide +kernel
theorem dX9_pattern_121 : decode cX9_pattern 121 = .ok (.iload_n 3, 1) := by decide +kernel
theorem dX9_pattern_122 : decode cX9_pattern 122 = .ok (.iload_n 1, 1) := by decide +kernel
theorem dX9_pattern_123 : decode cX9_pattern 123 = .ok (.if_icmp .le 14, 3) := by decide +kernel
theorem dX9_pattern_126 : decode cX9_pattern 126 = .ok (.iload_n 2, 1) := by decide +kernel
theorem dX9_pattern_127 : decode cX9_pattern 127 = .ok (.bipush 10, 2) := by decide +kernel
theorem dX9_pattern_129 : decode cX9_pattern 129 = .ok (.idiv, 1) := by decide +kernel
theorem dX9_pattern_130 : decode cX9_pattern 130 = .ok (.istore_n 2, 1) := by decide +kernel
theorem dX9_pattern_131 : decode cX9_pattern 131 = .ok (.iinc 3 (-1), 3) := by decide +kernel
theorem dX9_pattern_134 : decode cX9_pattern 134 = .ok (.goto (-13), 3) := by decide +kernel
theorem dX9_pattern_137 : decode cX9_pattern 137 = .ok (.iload_n 2, 1) := by decide +kernel
theorem dX9_pattern_138 : decode cX9_pattern 138 = .ok (.bipush 10, 2) := by decide +kernel
theorem dX9_pattern_140 : decode cX9_pattern 140 = .ok (.irem, 1) := by decide +kernel
theorem dX9_pattern_141 : decode cX9_pattern 141 = .ok (.ireturn, 1) := by decide +kernel
set_option maxRecDepth 20000 in
theorem ggX9_digitAt_X9_at : GoodIn wsX9_digitAt wsX9_at := goodIn_r _ [5, 6, 7, 8, 9, 4, 10, 14, 15, 16, 17, 18, 19, 20, 21, 22, 23, 24, 25, 26, 27, 28, 29, 30, 31, 32, 33, 34, 35, 36, 37, 38, 39, 40, 41, 42, 43, 44, 45] (by decide +kernel) (by decide +kernel)
set_option maxRecDepth 20000 in
theorem gX9_digitAt_X9_at : GoodIn wsX9_digitAt (wsV RX9 97 RX9 yX9_at wsX9_at) := goodIn_app (goodIn_of _ (by decide +kernel)) ggX9_digitAt_X9_at
set_option maxRecDepth 20000 in
theorem ggX9_digitAt_X9_pattern : GoodIn wsX9_digitAt wsX9_pattern := goodIn_r _ [13] (by decide +kernel) (by decide +kernel)
set_option maxRecDepth 20000 in
theorem gX9_digitAt_X9_pattern : GoodIn wsX9_digitAt (va_wsS RX9 101 yX9_pattern wsX9_pattern) := goodIn_app (goodIn_of _ (by decide +kernel)) ggX9_digitAt_X9_pattern
theorem dX9_digitAt_0 : decode cX9_digitAt 0 = .ok (.iconst 0, 1) := by decide +kernel
theorem dX9_digitAt_1 : decode cX9_digitAt 1 = .ok (.istore_n 3, 1) := by decide +kernel
theorem dX9_digitAt_2 : decode cX9_digitAt 2 = .ok (.iconst 0, 1) := by decide +kernel
theorem dX9_digitAt_3 : decode cX9_digitAt 3 = .ok (.istore 4, 2) := by decide +kernel
theorem dX9_digitAt_5 : decode cX9_digitAt 5 = .ok (.iload 4, 2) := by decide +kernel
theorem dX9_digitAt_7 : decode cX9_digitAt 7 = .ok (.iconst 4, 1) := by decide +kernel
theorem dX9_digitAt_8 : decode cX9_digitAt 8 = .ok (.if_icmp .ge 21, 3) := by decide +kernel
theorem dX9_digitAt_11 : decode cX9_digitAt 11 = .ok (.iload_n 3, 1) := by decide +kernel
theorem dX9_digitAt_12 : decode cX9_digitAt 12 = .ok (.aload_n 0, 1) := by decide +kernel
theorem dX9_digitAt_13 : decode cX9_digitAt 13 = .ok (.iload_n 1, 1) := by decide +kernel
theorem dX9_digitAt_14 : decode cX9_digitAt 14 = .ok (.iload 4, 2) := by decide +kernel
theorem dX9_digitAt_16 : decode cX9_digitAt 16 = .ok (.iadd, 1) := by decide +kernel
theorem dX9_digitAt_17 : decode cX9_digitAt 17 = .ok (.iload_n 2, 1) := by decide +kernel
theorem dX9_digitAt_18 : decode cX9_digitAt 18 = .ok (.invokevirtual 97, 3) := by decide +kernel
theorem dX9_digitAt_21 : decode cX9_digitAt 21 = .ok (.iadd, 1) := by decide +kernel
theorem dX9_digitAt_22 : decode cX9_digitAt 22 = .ok (.istore_n 3, 1) := by decide +kernel
theorem dX9_digitAt_23 : decode cX9_digitAt 23 = .ok (.iinc 4 1, 3) := by decide +kernel
theorem dX9_digitAt_26 : decode cX9_digitAt 26 = .ok (.goto (-21), 3) := by decide +kernel
theorem dX9_digitAt_29 : decode cX9_digitAt 29 = .ok (.iconst (-1), 1) := by decide +kernel
theorem dX9_digitAt_30 : decode cX9_digitAt 30 = .ok (.istore 4, 2) := by decide +kernel
theorem dX9_digitAt_32 : decode cX9_digitAt 32 = .ok (.iconst 0, 1) := by decide +kernel
theorem dX9_digitAt_33 : decode cX9_digitAt 33 = .ok (.istore 5, 2) := by decide +kernel
theorem dX9_digitAt_35 : decode cX9_digitAt 35 = .ok (.iload 5, 2) := by decide +kernel
theorem dX9_digitAt_37 : decode cX9_digitAt 37 = .ok (.bipush 10, 2) := by decide +kernel
theorem dX9_digitAt_39 : decode cX9_digitAt 39 = .ok (.if_icmp .ge 77, 3) := by decide +kernel
theorem dX9_digitAt_42 : decode cX9_digitAt 42 = .ok (.iconst 1, 1) := by decide +kernel
theorem dX9_digitAt_43 : decode cX9_digitAt 43 = .ok (.istore 6, 2) := by decide +kernel
theorem dX9_digitAt_45 : decode cX9_digitAt 45 = .ok (.iconst 0, 1) := by decide +kernel
theorem dX9_digitAt_46 : decode cX9_digitAt 46 = .ok (.istore 7, 2) := by decide +kernel
theorem dX9_digitAt_48 : decode cX9_digitAt 48 = .ok (.iload 7, 2) := by decide +kernel
theorem dX9_digitAt_50 : decode cX9_digitAt 50 = .ok (.iconst 4, 1) := by decide +kernel
theorem dX9_digitAt_51 : decode cX9_digitAt 51 = .ok (.if_icmp .ge 45, 3) := by decide +kernel
theorem dX9_digitAt_54 : decode cX9_digitAt 54 = .ok (.iload 6, 2) := by decide +kernel
theorem dX9_digitAt_56 : decode cX9_digitAt 56 = .ok (.ifCond .eq 31, 3) := by decide +kernel
theorem dX9_digitAt_59 : decode cX9_digitAt 59 = .ok (.bipush 7, 2) := by decide +kernel
theorem dX9_digitAt_61 : decode cX9_digitAt 61 = .ok (.aload_n 0, 1) := by decide +kernel
theorem dX9_digitAt_62 : decode cX9_digitAt 62 = .ok (.iload_n 1, 1) := by decide +kernel
theorem dX9_digitAt_63 : decode cX9_digitAt 63 = .ok (.iload 7, 2) := by decide +kernel
theorem dX9_digitAt_65 : decode cX9_digitAt 65 = .ok (.iadd, 1) := by decide +kernel
theorem dX9_digitAt_66 : decode cX9_digitAt 66 = .ok (.iload_n 2, 1) := by decide +kernel
theorem dX9_digitAt_67 : decode cX9_digitAt 67 = .ok (.invokevirtual 97, 3) := by decide +kernel
theorem dX9_digitAt_70 : decode cX9_digitAt 70 = .ok (.imul, 1) := by decide +kernel
theorem dX9_digitAt_71 : decode cX9_digitAt 71 = .ok (.iload_n 3, 1) := by decide +kernel
theorem dX9_digitAt_72 : decode cX9_digitAt 72 = .ok (.iload 5, 2) := by decide +kernel
theorem dX9_digitAt_74 : decode cX9_digitAt 74 = .ok (.iload 7, 2) := by decide +kernel
theorem dX9_digitAt_76 : decode cX9_digitAt 76 = .ok (.invokestatic 101, 3) := by decide +kernel
theorem dX9_digitAt_79 : decode cX9_digitAt 79 = .ok (.imul, 1) := by decide +kernel
theorem dX9_digitAt_80 : decode cX9_digitAt 80 = .ok (.if_icmp .ne 7, 3) := by decide +kernel
theorem dX9_digitAt_83 : decode cX9_digitAt 83 = .ok (.iconst 1, 1) := by decide +kernel
theorem dX9_digitAt_84 : decode cX9_digitAt 84 = .ok (.goto 4, 3) := by decide +kernel
theorem dX9_digitAt_87 : decode cX9_digitAt 87 = .ok (.iconst 0, 1) := by decide +kernel
theorem dX9_digitAt_88 : decode cX9_digitAt 88 = .ok (.istore 6, 2) := by decide +kernel
theorem dX9_digitAt_90 : decode cX9_digitAt 90 = .ok (.iinc 7 1, 3) := by decide +kernel
theorem dX9_digitAt_93 : decode cX9_digitAt 93 = .ok (.goto (-45), 3) := by decide +kernel
theorem dX9_digitAt_96 : decode cX9_digitAt 96 = .ok (.iload 6, 2) := by decide +kernel
theorem dX9_digitAt_98 : decode cX9_digitAt 98 = .ok (.ifCond .eq 8, 3) := by decide +kernel
theorem dX9_digitAt_101 : decode cX9_digitAt 101 = .ok (.iload 5, 2) := by decide +kernel
theorem dX9_digitAt_103 : decode cX9_digitAt 103 = .ok (.goto 5, 3) := by decide +kernel
theorem dX9_digitAt_106 : decode cX9_digitAt 106 = .ok (.iload 4, 2) := by decide +kernel
theorem dX9_digitAt_108 : decode cX9_digitAt 108 = .ok (.istore 4, 2) := by decide +kernel
theorem dX9_digitAt_110 : decode cX9_digitAt 110 = .ok (.iinc 5 1, 3) := by decide +kernel
theorem dX9_digitAt_113 : decode cX9_digitAt 113 = .ok (.goto (-78), 3) := by decide +kernel
theorem dX9_digitAt_116 : decode cX9_digitAt 116 = .ok (.iload 4, 2) := by decide +kernel
theorem dX9_digitAt_118 : decode cX9_digitAt 118 = .ok (.ireturn, 1) := by decide +kernel
set_option maxRecDepth 20000 in
theorem ggX9_readSo_X9_size : GoodIn wsX9_readSo wsX9_size := goodIn_r _ [7, 8, 20, 21, 22, 23, 24, 25, 26, 27, 28, 29, 30, 31, 32, 33, 34, 35, 36, 37, 38, 39, 40, 41, 42, 43, 44, 45, 46, 47, 48, 49, 50, 51] (by decide +kernel) (by decide +kernel)
set_option maxRecDepth 20000 in
theorem gX9_readSo_X9_size : GoodIn wsX9_readSo (wsV RX9 93 RX9 yX9_size wsX9_size) := goodIn_app (goodIn_of _ (by decide +kernel)) ggX9_readSo_X9_size
set_option maxRecDepth 20000 in
theorem ggX9_readSo_X9_at : GoodIn wsX9_readSo wsX9_at := goodIn_r _ [12, 8, 3, 4, 5, 6, 7, 20, 21, 22, 23, 24, 25, 26, 27, 28, 29, 30, 31, 32, 33, 34, 35, 36, 37, 38, 39, 40, 41, 42, 43, 44, 45, 46, 47, 48, 49, 50, 51] (by decide +kernel) (by decide +kernel)
set_option maxRecDepth 20000 in
theorem gX9_readSo_X9_at : GoodIn wsX9_readSo (wsV RX9 97 RX9 yX9_at wsX9_at) := goodIn_app (goodIn_of _ (by decide +kernel)) ggX9_readSo_X9_at
set_option maxRecDepth 20000 in
theorem ggX9_readSo_X9_digitAt : GoodIn wsX9_readSo wsX9_digitAt := goodIn_r _ [16, 9, 10, 11, 6, 12, 8, 3, 4, 5, 7, 17, 18, 19, 20, 21, 22, 23, 24, 25, 26, 27, 28, 29, 30, 31, 32, 33, 34, 35, 36, 37, 38, 39, 40, 41, 42, 43, 44, 45, 46, 47, 48, 49, 50, 51] (by decide +kernel) (by decide +kernel)
set_option maxRecDepth 20000 in
theorem gX9_readSo_X9_digitAt : GoodIn wsX9_readSo (wsV RX9 108 RX9 yX9_digitAt wsX9_digitAt) := goodIn_app (goodIn_of _ (by decide +kernel)) ggX9_readSo_X9_digitAt
theorem dX9_readSo_0 : decode cX9_readSo 0 = .ok (.aload_n 0, 1) := by decide +kernel
theorem dX9_readSo_1 : decode cX9_readSo 1 = .ok (.invokevirtual 93, 3) := by decide +kernel
theorem dX9_readSo_4 : decode cX9_readSo 4 = .ok (.istore_n 2, 1) := by decide +kernel
theorem dX9_readSo_5 : decode cX9_readSo 5 = .ok (.aload_n 0, 1) := by decide +kernel
theorem dX9_readSo_6 : decode cX9_readSo 6 = .ok (.iconst 0, 1) := by decide +kernel
theorem dX9_readSo_7 : decode cX9_readSo 7 = .ok (.putfield 105, 3) := by decide +kernel
theorem dX9_readSo_10 : decode cX9_readSo 10 = .ok (.iload_n 2, 1) := by decide +kernel
theorem dX9_readSo_11 : decode cX9_readSo 11 = .ok (.bipush 10, 2) := by decide +kernel
theorem dX9_readSo_13 : decode cX9_readSo 13 = .ok (.if_icmp .lt 12, 3) := by decide +kernel
theorem dX9_readSo_16 : decode cX9_readSo 16 = .ok (.iload_n 2, 1) := by decide +kernel
theorem dX9_readSo_17 : decode cX9_readSo 17 = .ok (.bipush 6, 2) := by decide +kernel
theorem dX9_readSo_19 : decode cX9_readSo 19 = .ok (.isub, 1) := by decide +kernel
theorem dX9_readSo_20 : decode cX9_readSo 20 = .ok (.iconst 4, 1) := by decide +kernel
theorem dX9_readSo_21 : decode cX9_readSo 21 = .ok (.irem, 1) := by decide +kernel
theorem dX9_readSo_22 : decode cX9_readSo 22 = .ok (.ifCond .eq 5, 3) := by decide +kernel
theorem dX9_readSo_25 : decode cX9_readSo 25 = .ok (.iconst 0, 1) := by decide +kernel
theorem dX9_readSo_26 : decode cX9_readSo 26 = .ok (.ireturn, 1) := by decide +kernel
theorem dX9_readSo_27 : decode cX9_readSo 27 = .ok (.aload_n 0, 1) := by decide +kernel
theorem dX9_readSo_28 : decode cX9_readSo 28 = .ok (.iconst 0, 1) := by decide +kernel
theorem dX9_readSo_29 : decode cX9_readSo 29 = .ok (.iload_n 1, 1) := by decide +kernel
theorem dX9_readSo_30 : decode cX9_readSo 30 = .ok (.invokevirtual 97, 3) := by decide +kernel
theorem dX9_readSo_33 : decode cX9_readSo 33 = .ok (.aload_n 0, 1) := by decide +kernel
theorem dX9_readSo_34 : decode cX9_readSo 34 = .ok (.iconst 1, 1) := by decide +kernel
theorem dX9_readSo_35 : decode cX9_readSo 35 = .ok (.iload_n 1, 1) := by decide +kernel
theorem dX9_readSo_36 : decode cX9_readSo 36 = .ok (.invokevirtual 97, 3) := by decide +kernel
theorem dX9_readSo_39 : decode cX9_readSo 39 = .ok (.if_icmp .ne 60, 3) := by decide +kernel
theorem dX9_readSo_42 : decode cX9_readSo 42 = .ok (.aload_n 0, 1) := by decide +kernel
theorem dX9_readSo_43 : decode cX9_readSo 43 = .ok (.iconst 1, 1) := by decide +kernel
theorem dX9_readSo_44 : decode cX9_readSo 44 = .ok (.iload_n 1, 1) := by decide +kernel
theorem dX9_readSo_45 : decode cX9_readSo 45 = .ok (.invokevirtual 97, 3) := by decide +kernel
theorem dX9_readSo_48 : decode cX9_readSo 48 = .ok (.aload_n 0, 1) := by decide +kernel
theorem dX9_readSo_49 : decode cX9_readSo 49 = .ok (.iconst 2, 1) := by decide +kernel
theorem dX9_readSo_50 : decode cX9_readSo 50 = .ok (.iload_n 1, 1) := by decide +kernel
theorem dX9_readSo_51 : decode cX9_readSo 51 = .ok (.invokevirtual 97, 3) := by decide +kernel
theorem dX9_readSo_54 : decode cX9_readSo 54 = .ok (.if_icmp .ne 45, 3) := by decide +kernel
theorem dX9_readSo_57 : decode cX9_readSo 57 = .ok (.aload_n 0, 1) := by decide +kernel
theorem dX9_readSo_58 : decode cX9_readSo 58 = .ok (.iload_n 2, 1) := by decide +kernel
theorem dX9_readSo_59 : decode cX9_readSo 59 = .ok (.iconst 1, 1) := by decide +kernel
theorem dX9_readSo_60 : decode cX9_readSo 60 = .ok (.isub, 1) := by decide +kernel
theorem dX9_readSo_61 : decode cX9_readSo 61 = .ok (.iload_n 1, 1) := by decide +kernel
theorem dX9_readSo_62 : decode cX9_readSo 62 = .ok (.invokevirtual 97, 3) := by decide +kernel
theorem dX9_readSo_65 : decode cX9_readSo 65 = .ok (.aload_n 0, 1) := by decide +kernel
theorem dX9_readSo_66 : decode cX9_readSo 66 = .ok (.iload_n 2, 1) := by decide +kernel
theorem dX9_readSo_67 : decode cX9_readSo 67 = .ok (.iconst 2, 1) := by decide +kernel
theorem dX9_readSo_68 : decode cX9_readSo 68 = .ok (.isub, 1) := by decide +kernel
theorem dX9_readSo_69 : decode cX9_readSo 69 = .ok (.iload_n 1, 1) := by decide +kernel
theorem dX9_readSo_70 : decode cX9_readSo 70 = .ok (.invokevirtual 97, 3) := by decide +kernel
theorem dX9_readSo_73 : decode cX9_readSo 73 = .ok (.if_icmp .ne 26, 3) := by decide +kernel
theorem dX9_readSo_76 : decode cX9_readSo 76 = .ok (.aload_n 0, 1) := by decide +kernel
theorem dX9_readSo_77 : decode cX9_readSo 77 = .ok (.iload_n 2, 1) := by decide +kernel
theorem dX9_readSo_78 : decode cX9_readSo 78 = .ok (.iconst 2, 1) := by decide +kernel
theorem dX9_readSo_79 : decode cX9_readSo 79 = .ok (.isub, 1) := by decide +kernel
theorem dX9_readSo_80 : decode cX9_readSo 80 = .ok (.iload_n 1, 1) := by decide +kernel
theorem dX9_readSo_81 : decode cX9_readSo 81 = .ok (.invokevirtual 97, 3) := by decide +kernel
theorem dX9_readSo_84 : decode cX9_readSo 84 = .ok (.aload_n 0, 1) := by decide +kernel
theorem dX9_readSo_85 : decode cX9_readSo 85 = .ok (.iload_n 2, 1) := by decide +kernel
theorem dX9_readSo_86 : decode cX9_readSo 86 = .ok (.iconst 3, 1) := by decide +kernel
theorem dX9_readSo_87 : decode cX9_readSo 87 = .ok (.isub, 1) := by decide +kernel
theorem dX9_readSo_88 : decode cX9_readSo 88 = .ok (.iload_n 1, 1) := by decide +kernel
theorem dX9_readSo_89 : decode cX9_readSo 89 = .ok (.invokevirtual 97, 3) := by decide +kernel
theorem dX9_readSo_92 : decode cX9_readSo 92 = .ok (.if_icmp .ne 7, 3) := by decide +kernel
theorem dX9_readSo_95 : decode cX9_readSo 95 = .ok (.iconst 1, 1) := by decide +kernel
theorem dX9_readSo_96 : decode cX9_readSo 96 = .ok (.goto 4, 3) := by decide +kernel
theorem dX9_readSo_99 : decode cX9_readSo 99 = .ok (.iconst 0, 1) := by decide +kernel
theorem dX9_readSo_100 : decode cX9_readSo 100 = .ok (.istore_n 3, 1) := by decide +kernel
theorem dX9_readSo_101 : decode cX9_readSo 101 = .ok (.iload_n 2, 1) := by decide +kernel
theorem dX9_readSo_102 : decode cX9_readSo 102 = .ok (.bipush 6, 2) := by decide +kernel
theorem dX9_readSo_104 : decode cX9_readSo 104 = .ok (.isub, 1) := by decide +kernel
theorem dX9_readSo_105 : decode cX9_readSo 105 = .ok (.iconst 4, 1) := by decide +kernel
theorem dX9_readSo_106 : decode cX9_readSo 106 = .ok (.idiv, 1) := by decide +kernel
theorem dX9_readSo_107 : decode cX9_readSo 107 = .ok (.istore 4, 2) := by decide +kernel
theorem dX9_readSo_109 : decode cX9_readSo 109 = .ok (.iconst 0, 1) := by decide +kernel
theorem dX9_readSo_110 : decode cX9_readSo 110 = .ok (.istore 5, 2) := by decide +kernel
theorem dX9_readSo_112 : decode cX9_readSo 112 = .ok (.iload 5, 2) := by decide +kernel
theorem dX9_readSo_114 : decode cX9_readSo 114 = .ok (.iload 4, 2) := by decide +kernel
theorem dX9_readSo_116 : decode cX9_readSo 116 = .ok (.if_icmp .ge 47, 3) := by decide +kernel
theorem dX9_readSo_119 : decode cX9_readSo 119 = .ok (.iload_n 3, 1) := by decide +kernel
theorem dX9_readSo_120 : decode cX9_readSo 120 = .ok (.ifCond .eq 43, 3) := by decide +kernel
theorem dX9_readSo_123 : decode cX9_readSo 123 = .ok (.aload_n 0, 1) := by decide +kernel
theorem dX9_readSo_124 : decode cX9_readSo 124 = .ok (.getfield 13, 3) := by decide +kernel
theorem dX9_readSo_127 : decode cX9_readSo 127 = .ok (.iload 5, 2) := by decide +kernel
theorem dX9_readSo_129 : decode cX9_readSo 129 = .ok (.aload_n 0, 1) := by decide +kernel
theorem dX9_readSo_130 : decode cX9_readSo 130 = .ok (.iconst 3, 1) := by decide +kernel
theorem dX9_readSo_131 : decode cX9_readSo 131 = .ok (.iconst 4, 1) := by decide +kernel
theorem dX9_readSo_132 : decode cX9_readSo 132 = .ok (.iload 5, 2) := by decide +kernel
theorem dX9_readSo_134 : decode cX9_readSo 134 = .ok (.imul, 1) := by decide +kernel
theorem dX9_readSo_135 : decode cX9_readSo 135 = .ok (.iadd, 1) := by decide +kernel
theorem dX9_readSo_136 : decode cX9_readSo 136 = .ok (.iload_n 1, 1) := by decide +kernel
theorem dX9_readSo_137 : decode cX9_readSo 137 = .ok (.invokevirtual 108, 3) := by decide +kernel
theorem dX9_readSo_140 : decode cX9_readSo 140 = .ok (.iastore, 1) := by decide +kernel
theorem dX9_readSo_141 : decode cX9_readSo 141 = .ok (.aload_n 0, 1) := by decide +kernel
theorem dX9_readSo_142 : decode cX9_readSo 142 = .ok (.getfield 13, 3) := by decide +kernel
theorem dX9_readSo_145 : decode cX9_readSo 145 = .ok (.iload 5, 2) := by decide +kernel
theorem dX9_readSo_147 : decode cX9_readSo 147 = .ok (.iaload, 1) := by decide +kernel
theorem dX9_readSo_148 : decode cX9_readSo 148 = .ok (.ifCond .lt 7, 3) := by decide +kernel
theorem dX9_readSo_151 : decode cX9_readSo 151 = .ok (.iconst 1, 1) := by decide +kernel
theorem dX9_readSo_152 : decode cX9_readSo 152 = .ok (.goto 4, 3) := by decide +kernel
theorem dX9_readSo_155 : decode cX9_readSo 155 = .ok (.iconst 0, 1) := by decide +kernel
theorem dX9_readSo_156 : decode cX9_readSo 156 = .ok (.istore_n 3, 1) := by decide +kernel
theorem dX9_readSo_157 : decode cX9_readSo 157 = .ok (.iinc 5 1, 3) := by decide +kernel
theorem dX9_readSo_160 : decode cX9_readSo 160 = .ok (.goto (-48), 3) := by decide +kernel
theorem dX9_readSo_163 : decode cX9_readSo 163 = .ok (.aload_n 0, 1) := by decide +kernel
theorem dX9_readSo_164 : decode cX9_readSo 164 = .ok (.iload_n 3, 1) := by decide +kernel
theorem dX9_readSo_165 : decode cX9_readSo 165 = .ok (.ifCond .eq 8, 3) := by decide +kernel
theorem dX9_readSo_168 : decode cX9_readSo 168 = .ok (.iload 4, 2) := by decide +kernel
theorem dX9_readSo_170 : decode cX9_readSo 170 = .ok (.goto 4, 3) := by decide +kernel
theorem dX9_readSo_173 : decode cX9_readSo 173 = .ok (.iconst 0, 1) := by decide +kernel
theorem dX9_readSo_174 : decode cX9_readSo 174 = .ok (.putfield 105, 3) := by decide +kernel
theorem dX9_readSo_177 : decode cX9_readSo 177 = .ok (.iload_n 3, 1) := by decide +kernel
theorem dX9_readSo_178 : decode cX9_readSo 178 = .ok (.ireturn, 1) := by decide +kernel
set_option maxRecDepth 20000 in
theorem ggX9_read_X9_readSo : GoodIn wsX9_read wsX9_readSo := goodIn_r _ [7, 2, 8, 9, 10, 11, 6, 12, 13, 14, 15, 16, 17, 18, 19, 20, 21, 22, 23, 24, 25, 26, 27, 28, 29, 30, 31, 32, 33, 34, 35, 36, 37, 38, 39, 40, 41, 42, 43, 44, 45, 46, 47, 48, 49, 50, 51, 52, 53, 54, 55, 56] (by decide +kernel) (by decide +kernel)
set_option maxRecDepth 20000 in
theorem gX9_read_X9_readSo : GoodIn wsX9_read (wsV RX9 111 RX9 yX9_readSo wsX9_readSo) := goodIn_app (goodIn_of _ (by decide +kernel)) ggX9_read_X9_readSo
theorem dX9_read_0 : decode cX9_read 0 = .ok (.aload_n 0, 1) := by decide +kernel
theorem dX9_read_1 : decode cX9_read 1 = .ok (.iconst 0, 1) := by decide +kernel
theorem dX9_read_2 : decode cX9_read 2 = .ok (.putfield 81, 3) := by decide +kernel
theorem dX9_read_5 : decode cX9_read 5 = .ok (.aload_n 0, 1) := by decide +kernel
theorem dX9_read_6 : decode cX9_read 6 = .ok (.iconst 0, 1) := by decide +kernel
theorem dX9_read_7 : decode cX9_read 7 = .ok (.invokevirtual 111, 3) := by decide +kernel
theorem dX9_read_10 : decode cX9_read 10 = .ok (.ifCond .ne 11, 3) := by decide +kernel
theorem dX9_read_13 : decode cX9_read 13 = .ok (.aload_n 0, 1) := by decide +kernel
theorem dX9_read_14 : decode cX9_read 14 = .ok (.iconst 1, 1) := by decide +kernel
theorem dX9_read_15 : decode cX9_read 15 = .ok (.invokevirtual 111, 3) := by decide +kernel
theorem dX9_read_18 : decode cX9_read 18 = .ok (.ifCond .eq 10, 3) := by decide +kernel
theorem dX9_read_21 : decode cX9_read 21 = .ok (.aload_n 0, 1) := by decide +kernel
theorem dX9_read_22 : decode cX9_read 22 = .ok (.getfield 105, 3) := by decide +kernel
theorem dX9_read_25 : decode cX9_read 25 = .ok (.goto 4, 3) := by decide +kernel
theorem dX9_read_28 : decode cX9_read 28 = .ok (.iconst (-1), 1) := by decide +kernel
theorem dX9_read_29 : decode cX9_read 29 = .ok (.ireturn, 1) := by decide +kernel
set_option maxRecDepth 20000 in
theorem ggX9_back_X9_readSo : GoodIn wsX9_back wsX9_readSo := goodIn_r _ [7, 2, 8, 9, 10, 11, 6, 12, 13, 14, 15, 16, 17, 18, 19, 20, 21, 22, 23, 24, 25, 26, 27, 28, 29, 30, 31, 32, 33, 34, 35, 36, 37, 38, 39, 40, 41, 42, 43, 44, 45, 46, 47, 48, 49, 50, 51, 52, 53, 54, 55, 56] (by decide +kernel) (by decide +kernel)
set_option maxRecDepth 20000 in
theorem gX9_back_X9_readSo : GoodIn wsX9_back (wsV RX9 111 RX9 yX9_readSo wsX9_readSo) := goodIn_app (goodIn_of _ (by decide +kernel)) ggX9_back_X9_readSo
theorem dX9_back_0 : decode cX9_back 0 = .ok (.aload_n 0, 1) := by decide +kernel
theorem dX9_back_1 : decode cX9_back 1 = .ok (.iconst 0, 1) := by decide +kernel
theorem dX9_back_2 : decode cX9_back 2 = .ok (.putfield 81, 3) := by decide +kernel
theorem dX9_back_5 : decode cX9_back 5 = .ok (.aload_n 0, 1) := by decide +kernel
theorem dX9_back_6 : decode cX9_back 6 = .ok (.iconst 1, 1) := by decide +kernel
theorem dX9_back_7 : decode cX9_back 7 = .ok (.invokevirtual 111, 3) := by decide +kernel
theorem dX9_back_10 : decode cX9_back 10 = .ok (.ifCond .ne 11, 3) := by decide +kernel
theorem dX9_back_13 : decode cX9_back 13 = .ok (.aload_n 0, 1) := by decide +kernel
theorem dX9_back_14 : decode cX9_back 14 = .ok (.iconst 0, 1) := by decide +kernel
theorem dX9_back_15 : decode cX9_back 15 = .ok (.invokevirtual 111, 3) := by decide +kernel
theorem dX9_back_18 : decode cX9_back 18 = .ok (.ifCond .eq 10, 3) := by decide +kernel
theorem dX9_back_21 : decode cX9_back 21 = .ok (.aload_n 0, 1) := by decide +kernel
theorem dX9_back_22 : decode cX9_back 22 = .ok (.getfield 105, 3) := by decide +kernel
theorem dX9_back_25 : decode cX9_back 25 = .ok (.goto 4, 3) := by decide +kernel
theorem dX9_back_28 : decode cX9_back 28 = .ok (.iconst (-1), 1) := by decide +kernel
theorem dX9_back_29 : decode cX9_back 29 = .ok (.ireturn, 1) := by decide +kernel
theorem dX9_digit_0 : decode cX9_digit 0 = .ok (.aload_n 0, 1) := by decide +kernel
theorem dX9_digit_1 : decode cX9_digit 1 = .ok (.iload_n 1, 1) := by decide +kernel
theorem dX9_digit_2 : decode cX9_digit 2 = .ok (.ifCond .lt 11, 3) := by decide +kernel
theorem dX9_digit_5 : decode cX9_digit 5 = .ok (.iload_n 1, 1) := by decide +kernel
theorem dX9_digit_6 : decode cX9_digit 6 = .ok (.aload_n 0, 1) := by decide +kernel
theorem dX9_digit_7 : decode cX9_digit 7 = .ok (.getfield 105, 3) := by decide +kernel
theorem dX9_digit_10 : decode cX9_digit 10 = .ok (.if_icmp .lt 7, 3) := by decide +kernel
theorem dX9_digit_13 : decode cX9_digit 13 = .ok (.iconst 1, 1) := by decide +kernel
theorem dX9_digit_14 : decode cX9_digit 14 = .ok (.goto 4, 3) := by decide +kernel
theorem dX9_digit_17 : decode cX9_digit 17 = .ok (.iconst 0, 1) := by decide +kernel
theorem dX9_digit_18 : decode cX9_digit 18 = .ok (.putfield 81, 3) := by decide +kernel
theorem dX9_digit_21 : decode cX9_digit 21 = .ok (.aload_n 0, 1) := by decide +kernel
theorem dX9_digit_22 : decode cX9_digit 22 = .ok (.getfield 81, 3) := by decide +kernel
theorem dX9_digit_25 : decode cX9_digit 25 = .ok (.ifCond .le 7, 3) := by decide +kernel
theorem dX9_digit_28 : decode cX9_digit 28 = .ok (.iconst 0, 1) := by decide +kernel
theorem dX9_digit_29 : decode cX9_digit 29 = .ok (.goto 9, 3) := by decide +kernel
theorem dX9_digit_32 : decode cX9_digit 32 = .ok (.aload_n 0, 1) := by decide +kernel
theorem dX9_digit_33 : decode cX9_digit 33 = .ok (.getfield 13, 3) := by decide +kernel
theorem dX9_digit_36 : decode cX9_digit 36 = .ok (.iload_n 1, 1) := by decide +kernel
theorem dX9_digit_37 : decode cX9_digit 37 = .ok (.iaload, 1) := by decide +kernel
theorem dX9_digit_38 : decode cX9_digit 38 = .ok (.ireturn, 1) := by decide +kernel
theorem dX9_checkOf_0 : decode cX9_checkOf 0 = .ok (.iconst 0, 1) := by decide +kernel
theorem dX9_checkOf_1 : decode cX9_checkOf 1 = .ok (.istore_n 3, 1) := by decide +kernel
theorem dX9_checkOf_2 : decode cX9_checkOf 2 = .ok (.iconst 1, 1) := by decide +kernel
theorem dX9_checkOf_3 : decode cX9_checkOf 3 = .ok (.istore 4, 2) := by decide +kernel
theorem dX9_checkOf_5 : decode cX9_checkOf 5 = .ok (.lload_n 1, 1) := by decide +kernel
theorem dX9_checkOf_6 : decode cX9_checkOf 6 = .ok (.lstore 5, 2) := by decide +kernel
theorem dX9_checkOf_8 : decode cX9_checkOf 8 = .ok (.lload 5, 2) := by decide +kernel
theorem dX9_checkOf_10 : decode cX9_checkOf 10 = .ok (.lconst 0, 1) := by decide +kernel
theorem dX9_checkOf_11 : decode cX9_checkOf 11 = .ok (.lcmp, 1) := by decide +kernel
theorem dX9_checkOf_12 : decode cX9_checkOf 12 = .ok (.ifCond .le 86, 3) := by decide +kernel
theorem dX9_checkOf_15 : decode cX9_checkOf 15 = .ok (.lload 5, 2) := by decide +kernel
theorem dX9_checkOf_17 : decode cX9_checkOf 17 = .ok (.ldc2_w 115, 3) := by decide +kernel
theorem dX9_checkOf_20 : decode cX9_checkOf 20 = .ok (.lrem, 1) := by decide +kernel
theorem dX9_checkOf_21 : decode cX9_checkOf 21 = .ok (.l2i, 1) := by decide +kernel
theorem dX9_checkOf_22 : decode cX9_checkOf 22 = .ok (.istore 7, 2) := by decide +kernel
theorem dX9_checkOf_24 : decode cX9_checkOf 24 = .ok (.iconst 2, 1) := by decide +kernel
theorem dX9_checkOf_25 : decode cX9_checkOf 25 = .ok (.iload 7, 2) := by decide +kernel
theorem dX9_checkOf_27 : decode cX9_checkOf 27 = .ok (.imul, 1) := by decide +kernel
theorem dX9_checkOf_28 : decode cX9_checkOf 28 = .ok (.bipush 9, 2) := by decide +kernel
theorem dX9_checkOf_30 : decode cX9_checkOf 30 = .ok (.if_icmp .le 13, 3) := by decide +kernel
theorem dX9_checkOf_33 : decode cX9_checkOf 33 = .ok (.iconst 2, 1) := by decide +kernel
theorem dX9_checkOf_34 : decode cX9_checkOf 34 = .ok (.iload 7, 2) := by decide +kernel
theorem dX9_checkOf_36 : decode cX9_checkOf 36 = .ok (.imul, 1) := by decide +kernel
theorem dX9_checkOf_37 : decode cX9_checkOf 37 = .ok (.bipush 9, 2) := by decide +kernel
theorem dX9_checkOf_39 : decode cX9_checkOf 39 = .ok (.isub, 1) := by decide +kernel
theorem dX9_checkOf_40 : decode cX9_checkOf 40 = .ok (.goto 7, 3) := by decide +kernel
theorem dX9_checkOf_43 : decode cX9_checkOf 43 = .ok (.iconst 2, 1) := by decide +kernel
theorem dX9_checkOf_44 : decode cX9_checkOf 44 = .ok (.iload 7, 2) := by decide +kernel
theorem dX9_checkOf_46 : decode cX9_checkOf 46 = .ok (.imul, 1) := by decide +kernel
theorem dX9_checkOf_47 : decode cX9_checkOf 47 = .ok (.istore 8, 2) := by decide +kernel
theorem dX9_checkOf_49 : decode cX9_checkOf 49 = .ok (.iload_n 3, 1) := by decide +kernel
theorem dX9_checkOf_50 : decode cX9_checkOf 50 = .ok (.iload 4, 2) := by decide +kernel
theorem dX9_checkOf_52 : decode cX9_checkOf 52 = .ok (.ifCond .ne 8, 3) := by decide +kernel
theorem dX9_checkOf_55 : decode cX9_checkOf 55 = .ok (.iload 7, 2) := by decide +kernel
theorem dX9_checkOf_57 : decode cX9_checkOf 57 = .ok (.goto 16, 3) := by decide +kernel
theorem dX9_checkOf_60 : decode cX9_checkOf 60 = .ok (.iload_n 0, 1) := by decide +kernel
theorem dX9_checkOf_61 : decode cX9_checkOf 61 = .ok (.ifCond .ne 10, 3) := by decide +kernel
theorem dX9_checkOf_64 : decode cX9_checkOf 64 = .ok (.iconst 3, 1) := by decide +kernel
theorem dX9_checkOf_65 : decode cX9_checkOf 65 = .ok (.iload 7, 2) := by decide +kernel
theorem dX9_checkOf_67 : decode cX9_checkOf 67 = .ok (.imul, 1) := by decide +kernel
theorem dX9_checkOf_68 : decode cX9_checkOf 68 = .ok (.goto 5, 3) := by decide +kernel
theorem dX9_checkOf_71 : decode cX9_checkOf 71 = .ok (.iload 8, 2) := by decide +kernel
theorem dX9_checkOf_73 : decode cX9_checkOf 73 = .ok (.iadd, 1) := by decide +kernel
theorem dX9_checkOf_74 : decode cX9_checkOf 74 = .ok (.istore_n 3, 1) := by decide +kernel
theorem dX9_checkOf_75 : decode cX9_checkOf 75 = .ok (.iload 4, 2) := by decide +kernel
theorem dX9_checkOf_77 : decode cX9_checkOf 77 = .ok (.ifCond .ne 7, 3) := by decide +kernel
theorem dX9_checkOf_80 : decode cX9_checkOf 80 = .ok (.iconst 1, 1) := by decide +kernel
theorem dX9_checkOf_81 : decode cX9_checkOf 81 = .ok (.goto 4, 3) := by decide +kernel
theorem dX9_checkOf_84 : decode cX9_checkOf 84 = .ok (.iconst 0, 1) := by decide +kernel
theorem dX9_checkOf_85 : decode cX9_checkOf 85 = .ok (.istore 4, 2) := by decide +kernel
theorem dX9_checkOf_87 : decode cX9_checkOf 87 = .ok (.lload 5, 2) := by decide +kernel
theorem dX9_checkOf_89 : decode cX9_checkOf 89 = .ok (.ldc2_w 115, 3) := by decide +kernel
theorem dX9_checkOf_92 : decode cX9_checkOf 92 = .ok (.ldiv, 1) := by decide +kernel
theorem dX9_checkOf_93 : decode cX9_checkOf 93 = .ok (.lstore 5, 2) := by decide +kernel
theorem dX9_checkOf_95 : decode cX9_checkOf 95 = .ok (.goto (-87), 3) := by decide +kernel
theorem dX9_checkOf_98 : decode cX9_checkOf 98 = .ok (.bipush 10, 2) := by decide +kernel
theorem dX9_checkOf_100 : decode cX9_checkOf 100 = .ok (.iload_n 3, 1) := by decide +kernel
theorem dX9_checkOf_101 : decode cX9_checkOf 101 = .ok (.bipush 10, 2) := by decide +kernel
theorem dX9_checkOf_103 : decode cX9_checkOf 103 = .ok (.irem, 1) := by decide +kernel
theorem dX9_checkOf_104 : decode cX9_checkOf 104 = .ok (.isub, 1) := by decide +kernel
theorem dX9_checkOf_105 : decode cX9_checkOf 105 = .ok (.bipush 10, 2) := by decide +kernel
theorem dX9_checkOf_107 : decode cX9_checkOf 107 = .ok (.irem, 1) := by decide +kernel
theorem dX9_checkOf_108 : decode cX9_checkOf 108 = .ok (.ireturn, 1) := by decide +kernel
set_option maxRecDepth 20000 in
theorem ggX9_check_X9_isIn : GoodIn wsX9_check wsX9_isIn := goodIn_r _ [6] (by decide +kernel) (by decide +kernel)
set_option maxRecDepth 20000 in
theorem gX9_check_X9_isIn : GoodIn wsX9_check (va_wsS RX9 87 yX9_isIn wsX9_isIn) := goodIn_app (goodIn_of _ (by decide +kernel)) ggX9_check_X9_isIn
set_option maxRecDepth 20000 in
theorem ggX9_check_X9_checkOf : GoodIn wsX9_check wsX9_checkOf := goodIn_r _ [9, 10] (by decide +kernel) (by decide +kernel)
set_option maxRecDepth 20000 in
theorem gX9_check_X9_checkOf : GoodIn wsX9_check (va_wsS RX9 119 yX9_checkOf wsX9_checkOf) := goodIn_app (goodIn_of _ (by decide +kernel)) ggX9_check_X9_checkOf
theorem dX9_check_0 : decode cX9_check 0 = .ok (.aload_n 0, 1) := by decide +kernel
theorem dX9_check_1 : decode cX9_check 1 = .ok (.iconst 0, 1) := by decide +kernel
theorem dX9_check_2 : decode cX9_check 2 = .ok (.putfield 81, 3) := by decide +kernel
theorem dX9_check_5 : decode cX9_check 5 = .ok (.iload_n 1, 1) := by decide +kernel
theorem dX9_check_6 : decode cX9_check 6 = .ok (.i2l, 1) := by decide +kernel
theorem dX9_check_7 : decode cX9_check 7 = .ok (.lconst 1, 1) := by decide +kernel
theorem dX9_check_8 : decode cX9_check 8 = .ok (.invokestatic 87, 3) := by decide +kernel
theorem dX9_check_11 : decode cX9_check 11 = .ok (.ifCond .eq 21, 3) := by decide +kernel
theorem dX9_check_14 : decode cX9_check 14 = .ok (.lload_n 2, 1) := by decide +kernel
theorem dX9_check_15 : decode cX9_check 15 = .ok (.ldc2_w 117, 3) := by decide +kernel
theorem dX9_check_18 : decode cX9_check 18 = .ok (.invokestatic 87, 3) := by decide +kernel
theorem dX9_check_21 : decode cX9_check 21 = .ok (.ifCond .eq 11, 3) := by decide +kernel
theorem dX9_check_24 : decode cX9_check 24 = .ok (.iload_n 1, 1) := by decide +kernel
theorem dX9_check_25 : decode cX9_check 25 = .ok (.lload_n 2, 1) := by decide +kernel
theorem dX9_check_26 : decode cX9_check 26 = .ok (.invokestatic 119, 3) := by decide +kernel
theorem dX9_check_29 : decode cX9_check 29 = .ok (.goto 4, 3) := by decide +kernel
theorem dX9_check_32 : decode cX9_check 32 = .ok (.iconst (-1), 1) := by decide +kernel
theorem dX9_check_33 : decode cX9_check 33 = .ok (.ireturn, 1) := by decide +kernel
set_option maxRecDepth 20000 in
theorem ggX9_good_X9_isIn : GoodIn wsX9_good wsX9_isIn := goodIn_r _ [7] (by decide +kernel) (by decide +kernel)
set_option maxRecDepth 20000 in
theorem gX9_good_X9_isIn : GoodIn wsX9_good (va_wsS RX9 87 yX9_isIn wsX9_isIn) := goodIn_app (goodIn_of _ (by decide +kernel)) ggX9_good_X9_isIn
set_option maxRecDepth 20000 in
theorem ggX9_good_X9_checkOf : GoodIn wsX9_good wsX9_checkOf := goodIn_r _ [10, 3] (by decide +kernel) (by decide +kernel)
set_option maxRecDepth 20000 in
theorem gX9_good_X9_checkOf : GoodIn wsX9_good (va_wsS RX9 119 yX9_checkOf wsX9_checkOf) := goodIn_app (goodIn_of _ (by decide +kernel)) ggX9_good_X9_checkOf
theorem dX9_good_0 : decode cX9_good 0 = .ok (.aload_n 0, 1) := by decide +kernel
theorem dX9_good_1 : decode cX9_good 1 = .ok (.iconst 0, 1) := by decide +kernel
theorem dX9_good_2 : decode cX9_good 2 = .ok (.putfield 81, 3) := by decide +kernel
theorem dX9_good_5 : decode cX9_good 5 = .ok (.iload_n 1, 1) := by decide +kernel
theorem dX9_good_6 : decode cX9_good 6 = .ok (.i2l, 1) := by decide +kernel
theorem dX9_good_7 : decode cX9_good 7 = .ok (.lconst 1, 1) := by decide +kernel
theorem dX9_good_8 : decode cX9_good 8 = .ok (.invokestatic 87, 3) := by decide +kernel
theorem dX9_good_11 : decode cX9_good 11 = .ok (.ifCond .eq 36, 3) := by decide +kernel
theorem dX9_good_14 : decode cX9_good 14 = .ok (.lload_n 2, 1) := by decide +kernel
theorem dX9_good_15 : decode cX9_good 15 = .ok (.ldc2_w 117, 3) := by decide +kernel
theorem dX9_good_18 : decode cX9_good 18 = .ok (.invokestatic 87, 3) := by decide +kernel
theorem dX9_good_21 : decode cX9_good 21 = .ok (.ifCond .eq 26, 3) := by decide +kernel
theorem dX9_good_24 : decode cX9_good 24 = .ok (.lload_n 2, 1) := by decide +kernel
theorem dX9_good_25 : decode cX9_good 25 = .ok (.ldc2_w 115, 3) := by decide +kernel
theorem dX9_good_28 : decode cX9_good 28 = .ok (.lrem, 1) := by decide +kernel
theorem dX9_good_29 : decode cX9_good 29 = .ok (.iload_n 1, 1) := by decide +kernel
theorem dX9_good_30 : decode cX9_good 30 = .ok (.lload_n 2, 1) := by decide +kernel
theorem dX9_good_31 : decode cX9_good 31 = .ok (.ldc2_w 115, 3) := by decide +kernel
theorem dX9_good_34 : decode cX9_good 34 = .ok (.ldiv, 1) := by decide +kernel
theorem dX9_good_35 : decode cX9_good 35 = .ok (.invokestatic 119, 3) := by decide +kernel
theorem dX9_good_38 : decode cX9_good 38 = .ok (.i2l, 1) := by decide +kernel
theorem dX9_good_39 : decode cX9_good 39 = .ok (.lcmp, 1) := by decide +kernel
theorem dX9_good_40 : decode cX9_good 40 = .ok (.ifCond .ne 7, 3) := by decide +kernel
theorem dX9_good_43 : decode cX9_good 43 = .ok (.iconst 1, 1) := by decide +kernel
theorem dX9_good_44 : decode cX9_good 44 = .ok (.goto 4, 3) := by decide +kernel
theorem dX9_good_47 : decode cX9_good 47 = .ok (.iconst 0, 1) := by decide +kernel
theorem dX9_good_48 : decode cX9_good 48 = .ok (.ireturn, 1) := by decide +kernel
set_option maxRecDepth 20000 in
theorem ggX9_mark_X9_isIn : GoodIn wsX9_mark wsX9_isIn := goodIn_r _ [10] (by decide +kernel) (by decide +kernel)
set_option maxRecDepth 20000 in
theorem gX9_mark_X9_isIn : GoodIn wsX9_mark (va_wsS RX9 87 yX9_isIn wsX9_isIn) := goodIn_app (goodIn_of _ (by decide +kernel)) ggX9_mark_X9_isIn
theorem dX9_mark_0 : decode cX9_mark 0 = .ok (.aload_n 0, 1) := by decide +kernel
theorem dX9_mark_1 : decode cX9_mark 1 = .ok (.iconst 0, 1) := by decide +kernel
theorem dX9_mark_2 : decode cX9_mark 2 = .ok (.putfield 81, 3) := by decide +kernel
theorem dX9_mark_5 : decode cX9_mark 5 = .ok (.lload_n 1, 1) := by decide +kernel
theorem dX9_mark_6 : decode cX9_mark 6 = .ok (.ldc2_w 117, 3) := by decide +kernel
theorem dX9_mark_9 : decode cX9_mark 9 = .ok (.invokestatic 87, 3) := by decide +kernel
theorem dX9_mark_12 : decode cX9_mark 12 = .ok (.ifCond .eq 24, 3) := by decide +kernel
theorem dX9_mark_15 : decode cX9_mark 15 = .ok (.lload_n 3, 1) := by decide +kernel
theorem dX9_mark_16 : decode cX9_mark 16 = .ok (.ldc2_w 117, 3) := by decide +kernel
theorem dX9_mark_19 : decode cX9_mark 19 = .ok (.invokestatic 87, 3) := by decide +kernel
theorem dX9_mark_22 : decode cX9_mark 22 = .ok (.ifCond .eq 14, 3) := by decide +kernel
theorem dX9_mark_25 : decode cX9_mark 25 = .ok (.lload 5, 2) := by decide +kernel
theorem dX9_mark_27 : decode cX9_mark 27 = .ok (.ldc2_w 117, 3) := by decide +kernel
theorem dX9_mark_30 : decode cX9_mark 30 = .ok (.invokestatic 87, 3) := by decide +kernel
theorem dX9_mark_33 : decode cX9_mark 33 = .ok (.ifCond .ne 5, 3) := by decide +kernel
theorem dX9_mark_36 : decode cX9_mark 36 = .ok (.iconst 0, 1) := by decide +kernel
theorem dX9_mark_37 : decode cX9_mark 37 = .ok (.ireturn, 1) := by decide +kernel
theorem dX9_mark_38 : decode cX9_mark 38 = .ok (.lload_n 1, 1) := by decide +kernel
theorem dX9_mark_39 : decode cX9_mark 39 = .ok (.ldc2_w 123, 3) := by decide +kernel
theorem dX9_mark_42 : decode cX9_mark 42 = .ok (.lrem, 1) := by decide +kernel
theorem dX9_mark_43 : decode cX9_mark 43 = .ok (.lstore 7, 2) := by decide +kernel
theorem dX9_mark_45 : decode cX9_mark 45 = .ok (.lload_n 3, 1) := by decide +kernel
theorem dX9_mark_46 : decode cX9_mark 46 = .ok (.ldc2_w 123, 3) := by decide +kernel
theorem dX9_mark_49 : decode cX9_mark 49 = .ok (.lrem, 1) := by decide +kernel
theorem dX9_mark_50 : decode cX9_mark 50 = .ok (.lstore 9, 2) := by decide +kernel
theorem dX9_mark_52 : decode cX9_mark 52 = .ok (.lload 7, 2) := by decide +kernel
theorem dX9_mark_54 : decode cX9_mark 54 = .ok (.ldc2_w 125, 3) := by decide +kernel
theorem dX9_mark_57 : decode cX9_mark 57 = .ok (.lload 9, 2) := by decide +kernel
theorem dX9_mark_59 : decode cX9_mark 59 = .ok (.lmul, 1) := by decide +kernel
theorem dX9_mark_60 : decode cX9_mark 60 = .ok (.ladd, 1) := by decide +kernel
theorem dX9_mark_61 : decode cX9_mark 61 = .ok (.lload 7, 2) := by decide +kernel
theorem dX9_mark_63 : decode cX9_mark 63 = .ok (.ldc2_w 127, 3) := by decide +kernel
theorem dX9_mark_66 : decode cX9_mark 66 = .ok (.lload 9, 2) := by decide +kernel
theorem dX9_mark_68 : decode cX9_mark 68 = .ok (.lmul, 1) := by decide +kernel
theorem dX9_mark_69 : decode cX9_mark 69 = .ok (.ladd, 1) := by decide +kernel
theorem dX9_mark_70 : decode cX9_mark 70 = .ok (.lconst 1, 1) := by decide +kernel
theorem dX9_mark_71 : decode cX9_mark 71 = .ok (.ladd, 1) := by decide +kernel
theorem dX9_mark_72 : decode cX9_mark 72 = .ok (.lmul, 1) := by decide +kernel
theorem dX9_mark_73 : decode cX9_mark 73 = .ok (.ldc2_w 129, 3) := by decide +kernel
theorem dX9_mark_76 : decode cX9_mark 76 = .ok (.lrem, 1) := by decide +kernel
theorem dX9_mark_77 : decode cX9_mark 77 = .ok (.lload 5, 2) := by decide +kernel
theorem dX9_mark_79 : decode cX9_mark 79 = .ok (.lcmp, 1) := by decide +kernel
theorem dX9_mark_80 : decode cX9_mark 80 = .ok (.ifCond .ne 7, 3) := by decide +kernel
theorem dX9_mark_83 : decode cX9_mark 83 = .ok (.iconst 1, 1) := by decide +kernel
theorem dX9_mark_84 : decode cX9_mark 84 = .ok (.goto 4, 3) := by decide +kernel
theorem dX9_mark_87 : decode cX9_mark 87 = .ok (.iconst 0, 1) := by decide +kernel
theorem dX9_mark_88 : decode cX9_mark 88 = .ok (.ireturn, 1) := by decide +kernel
theorem dX9_isMachine_0 : decode cX9_isMachine 0 = .ok (.aload_n 0, 1) := by decide +kernel
theorem dX9_isMachine_1 : decode cX9_isMachine 1 = .ok (.iconst 0, 1) := by decide +kernel
theorem dX9_isMachine_2 : decode cX9_isMachine 2 = .ok (.putfield 81, 3) := by decide +kernel
theorem dX9_isMachine_5 : decode cX9_isMachine 5 = .ok (.iload_n 1, 1) := by decide +kernel
theorem dX9_isMachine_6 : decode cX9_isMachine 6 = .ok (.ifCond .lt 15, 3) := by decide +kernel
theorem dX9_isMachine_9 : decode cX9_isMachine 9 = .ok (.iload_n 1, 1) := by decide +kernel
theorem dX9_isMachine_10 : decode cX9_isMachine 10 = .ok (.aload_n 0, 1) := by decide +kernel
theorem dX9_isMachine_11 : decode cX9_isMachine 11 = .ok (.getfield 131, 3) := by decide +kernel
theorem dX9_isMachine_14 : decode cX9_isMachine 14 = .ok (.if_icmp .ge 7, 3) := by decide +kernel
theorem dX9_isMachine_17 : decode cX9_isMachine 17 = .ok (.iconst 1, 1) := by decide +kernel
theorem dX9_isMachine_18 : decode cX9_isMachine 18 = .ok (.goto 4, 3) := by decide +kernel
theorem dX9_isMachine_21 : decode cX9_isMachine 21 = .ok (.iconst 0, 1) := by decide +kernel
theorem dX9_isMachine_22 : decode cX9_isMachine 22 = .ok (.ireturn, 1) := by decide +kernel
theorem dX9_machine_0 : decode cX9_machine 0 = .ok (.aload_n 0, 1) := by decide +kernel
theorem dX9_machine_1 : decode cX9_machine 1 = .ok (.iconst 0, 1) := by decide +kernel
theorem dX9_machine_2 : decode cX9_machine 2 = .ok (.putfield 81, 3) := by decide +kernel
theorem dX9_machine_5 : decode cX9_machine 5 = .ok (.aload_n 0, 1) := by decide +kernel
theorem dX9_machine_6 : decode cX9_machine 6 = .ok (.getfield 131, 3) := by decide +kernel
theorem dX9_machine_9 : decode cX9_machine 9 = .ok (.bipush 6, 2) := by decide +kernel
theorem dX9_machine_11 : decode cX9_machine 11 = .ok (.if_icmp .ne 5, 3) := by decide +kernel
theorem dX9_machine_14 : decode cX9_machine 14 = .ok (.iconst (-1), 1) := by decide +kernel
theorem dX9_machine_15 : decode cX9_machine 15 = .ok (.ireturn, 1) := by decide +kernel
theorem dX9_machine_16 : decode cX9_machine 16 = .ok (.aload_n 0, 1) := by decide +kernel
theorem dX9_machine_17 : decode cX9_machine 17 = .ok (.getfield 16, 3) := by decide +kernel
theorem dX9_machine_20 : decode cX9_machine 20 = .ok (.aload_n 0, 1) := by decide +kernel
theorem dX9_machine_21 : decode cX9_machine 21 = .ok (.getfield 131, 3) := by decide +kernel
theorem dX9_machine_24 : decode cX9_machine 24 = .ok (.aload_n 0, 1) := by decide +kernel
theorem dX9_machine_25 : decode cX9_machine 25 = .ok (.getfield 131, 3) := by decide +kernel
theorem dX9_machine_28 : decode cX9_machine 28 = .ok (.iastore, 1) := by decide +kernel
theorem dX9_machine_29 : decode cX9_machine 29 = .ok (.aload_n 0, 1) := by decide +kernel
theorem dX9_machine_30 : decode cX9_machine 30 = .ok (.dup, 1) := by decide +kernel
theorem dX9_machine_31 : decode cX9_machine 31 = .ok (.getfield 131, 3) := by decide +kernel
theorem dX9_machine_34 : decode cX9_machine 34 = .ok (.iconst 1, 1) := by decide +kernel
theorem dX9_machine_35 : decode cX9_machine 35 = .ok (.iadd, 1) := by decide +kernel
theorem dX9_machine_36 : decode cX9_machine 36 = .ok (.putfield 131, 3) := by decide +kernel
theorem dX9_machine_39 : decode cX9_machine 39 = .ok (.aload_n 0, 1) := by decide +kernel
theorem dX9_machine_40 : decode cX9_machine 40 = .ok (.getfield 131, 3) := by decide +kernel
theorem dX9_machine_43 : decode cX9_machine 43 = .ok (.iconst 1, 1) := by decide +kernel
theorem dX9_machine_44 : decode cX9_machine 44 = .ok (.isub, 1) := by decide +kernel
theorem dX9_machine_45 : decode cX9_machine 45 = .ok (.ireturn, 1) := by decide +kernel
set_option maxRecDepth 20000 in
theorem ggX9_shape_X9_isIn : GoodIn wsX9_shape wsX9_isIn := goodIn_r _ [9] (by decide +kernel) (by decide +kernel)
set_option maxRecDepth 20000 in
theorem gX9_shape_X9_isIn : GoodIn wsX9_shape (va_wsS RX9 87 yX9_isIn wsX9_isIn) := goodIn_app (goodIn_of _ (by decide +kernel)) ggX9_shape_X9_isIn
theorem dX9_shape_0 : decode cX9_shape 0 = .ok (.aload_n 0, 1) := by decide +kernel
theorem dX9_shape_1 : decode cX9_shape 1 = .ok (.iconst 0, 1) := by decide +kernel
theorem dX9_shape_2 : decode cX9_shape 2 = .ok (.putfield 81, 3) := by decide +kernel
theorem dX9_shape_5 : decode cX9_shape 5 = .ok (.iload_n 1, 1) := by decide +kernel
theorem dX9_shape_6 : decode cX9_shape 6 = .ok (.i2l, 1) := by decide +kernel
theorem dX9_shape_7 : decode cX9_shape 7 = .ok (.ldc2_w 125, 3) := by decide +kernel
theorem dX9_shape_10 : decode cX9_shape 10 = .ok (.invokestatic 87, 3) := by decide +kernel
theorem dX9_shape_13 : decode cX9_shape 13 = .ok (.ifCond .eq 30, 3) := by decide +kernel
theorem dX9_shape_16 : decode cX9_shape 16 = .ok (.iload_n 2, 1) := by decide +kernel
theorem dX9_shape_17 : decode cX9_shape 17 = .ok (.i2l, 1) := by decide +kernel
theorem dX9_shape_18 : decode cX9_shape 18 = .ok (.ldc2_w 134, 3) := by decide +kernel
theorem dX9_shape_21 : decode cX9_shape 21 = .ok (.invokestatic 87, 3) := by decide +kernel
theorem dX9_shape_24 : decode cX9_shape 24 = .ok (.ifCond .eq 19, 3) := by decide +kernel
theorem dX9_shape_27 : decode cX9_shape 27 = .ok (.iload_n 3, 1) := by decide +kernel
theorem dX9_shape_28 : decode cX9_shape 28 = .ok (.i2l, 1) := by decide +kernel
theorem dX9_shape_29 : decode cX9_shape 29 = .ok (.ldc2_w 134, 3) := by decide +kernel
theorem dX9_shape_32 : decode cX9_shape 32 = .ok (.invokestatic 87, 3) := by decide +kernel
theorem dX9_shape_35 : decode cX9_shape 35 = .ok (.ifCond .eq 8, 3) := by decide +kernel
theorem dX9_shape_38 : decode cX9_shape 38 = .ok (.iload_n 2, 1) := by decide +kernel
theorem dX9_shape_39 : decode cX9_shape 39 = .ok (.iload_n 3, 1) := by decide +kernel
theorem dX9_shape_40 : decode cX9_shape 40 = .ok (.if_icmp .le 5, 3) := by decide +kernel
theorem dX9_shape_43 : decode cX9_shape 43 = .ok (.iconst 0, 1) := by decide +kernel
theorem dX9_shape_44 : decode cX9_shape 44 = .ok (.ireturn, 1) := by decide +kernel
theorem dX9_shape_45 : decode cX9_shape 45 = .ok (.aload_n 0, 1) := by decide +kernel
theorem dX9_shape_46 : decode cX9_shape 46 = .ok (.getfield 26, 3) := by decide +kernel
theorem dX9_shape_49 : decode cX9_shape 49 = .ok (.iload_n 1, 1) := by decide +kernel
theorem dX9_shape_50 : decode cX9_shape 50 = .ok (.iload_n 2, 1) := by decide +kernel
theorem dX9_shape_51 : decode cX9_shape 51 = .ok (.iastore, 1) := by decide +kernel
theorem dX9_shape_52 : decode cX9_shape 52 = .ok (.aload_n 0, 1) := by decide +kernel
theorem dX9_shape_53 : decode cX9_shape 53 = .ok (.getfield 29, 3) := by decide +kernel
theorem dX9_shape_56 : decode cX9_shape 56 = .ok (.iload_n 1, 1) := by decide +kernel
theorem dX9_shape_57 : decode cX9_shape 57 = .ok (.iload_n 3, 1) := by decide +kernel
theorem dX9_shape_58 : decode cX9_shape 58 = .ok (.iastore, 1) := by decide +kernel
theorem dX9_shape_59 : decode cX9_shape 59 = .ok (.iconst 1, 1) := by decide +kernel
theorem dX9_shape_60 : decode cX9_shape 60 = .ok (.ireturn, 1) := by decide +kernel
set_option maxRecDepth 20000 in
theorem ggX9_full_X9_isMachine : GoodIn wsX9_full wsX9_isMachine := goodIn_r _ [6, 7, 8, 9, 10, 11, 12, 13, 14, 15, 16, 17, 18, 19, 20, 21, 22, 23, 24, 25, 26, 27, 28, 29, 30, 31, 32, 33, 34, 35, 36, 37, 38, 39, 40] (by decide +kernel) (by decide +kernel)
set_option maxRecDepth 20000 in
theorem gX9_full_X9_isMachine : GoodIn wsX9_full (wsV RX9 136 RX9 yX9_isMachine wsX9_isMachine) := goodIn_app (goodIn_of _ (by decide +kernel)) ggX9_full_X9_isMachine
theorem dX9_full_0 : decode cX9_full 0 = .ok (.aload_n 0, 1) := by decide +kernel
theorem dX9_full_1 : decode cX9_full 1 = .ok (.iload_n 1, 1) := by decide +kernel
theorem dX9_full_2 : decode cX9_full 2 = .ok (.invokevirtual 136, 3) := by decide +kernel
theorem dX9_full_5 : decode cX9_full 5 = .ok (.ifCond .ne 5, 3) := by decide +kernel
theorem dX9_full_8 : decode cX9_full 8 = .ok (.iconst 0, 1) := by decide +kernel
theorem dX9_full_9 : decode cX9_full 9 = .ok (.ireturn, 1) := by decide +kernel
theorem dX9_full_10 : decode cX9_full 10 = .ok (.aload_n 0, 1) := by decide +kernel
theorem dX9_full_11 : decode cX9_full 11 = .ok (.getfield 19, 3) := by decide +kernel
theorem dX9_full_14 : decode cX9_full 14 = .ok (.iload_n 1, 1) := by decide +kernel
theorem dX9_full_15 : decode cX9_full 15 = .ok (.iload_n 2, 1) := by decide +kernel
theorem dX9_full_16 : decode cX9_full 16 = .ok (.bastore, 1) := by decide +kernel
theorem dX9_full_17 : decode cX9_full 17 = .ok (.iconst 1, 1) := by decide +kernel
theorem dX9_full_18 : decode cX9_full 18 = .ok (.ireturn, 1) := by decide +kernel
set_option maxRecDepth 20000 in
theorem ggX9_power_X9_isMachine : GoodIn wsX9_power wsX9_isMachine := goodIn_r _ [6, 7, 8, 9, 10, 11, 12, 13, 14, 15, 16, 17, 18, 19, 20, 21, 22, 23, 24, 25, 26, 27, 28, 29, 30, 31, 32, 33, 34, 35, 36, 37, 38, 39, 40] (by decide +kernel) (by decide +kernel)
set_option maxRecDepth 20000 in
theorem gX9_power_X9_isMachine : GoodIn wsX9_power (wsV RX9 136 RX9 yX9_isMachine wsX9_isMachine) := goodIn_app (goodIn_of _ (by decide +kernel)) ggX9_power_X9_isMachine
theorem dX9_power_0 : decode cX9_power 0 = .ok (.aload_n 0, 1) := by decide +kernel
theorem dX9_power_1 : decode cX9_power 1 = .ok (.iload_n 1, 1) := by decide +kernel
theorem dX9_power_2 : decode cX9_power 2 = .ok (.invokevirtual 136, 3) := by decide +kernel
theorem dX9_power_5 : decode cX9_power 5 = .ok (.ifCond .ne 5, 3) := by decide +kernel
theorem dX9_power_8 : decode cX9_power 8 = .ok (.iconst 0, 1) := by decide +kernel
theorem dX9_power_9 : decode cX9_power 9 = .ok (.ireturn, 1) := by decide +kernel
theorem dX9_power_10 : decode cX9_power 10 = .ok (.aload_n 0, 1) := by decide +kernel
theorem dX9_power_11 : decode cX9_power 11 = .ok (.getfield 23, 3) := by decide +kernel
theorem dX9_power_14 : decode cX9_power 14 = .ok (.iload_n 1, 1) := by decide +kernel
theorem dX9_power_15 : decode cX9_power 15 = .ok (.iload_n 2, 1) := by decide +kernel
theorem dX9_power_16 : decode cX9_power 16 = .ok (.ifCond .ne 7, 3) := by decide +kernel
theorem dX9_power_19 : decode cX9_power 19 = .ok (.iconst 1, 1) := by decide +kernel
theorem dX9_power_20 : decode cX9_power 20 = .ok (.goto 4, 3) := by decide +kernel
theorem dX9_power_23 : decode cX9_power 23 = .ok (.iconst 0, 1) := by decide +kernel
theorem dX9_power_24 : decode cX9_power 24 = .ok (.bastore, 1) := by decide +kernel
theorem dX9_power_25 : decode cX9_power 25 = .ok (.iconst 1, 1) := by decide +kernel
theorem dX9_power_26 : decode cX9_power 26 = .ok (.ireturn, 1) := by decide +kernel
theorem dX9_payingOf_0 : decode cX9_payingOf 0 = .ok (.iconst (-1), 1) := by decide +kernel
theorem dX9_payingOf_1 : decode cX9_payingOf 1 = .ok (.istore 4, 2) := by decide +kernel
theorem dX9_payingOf_3 : decode cX9_payingOf 3 = .ok (.iconst 0, 1) := by decide +kernel
theorem dX9_payingOf_4 : decode cX9_payingOf 4 = .ok (.istore 5, 2) := by decide +kernel
theorem dX9_payingOf_6 : decode cX9_payingOf 6 = .ok (.iload 5, 2) := by decide +kernel
theorem dX9_payingOf_8 : decode cX9_payingOf 8 = .ok (.aload_n 0, 1) := by decide +kernel
theorem dX9_payingOf_9 : decode cX9_payingOf 9 = .ok (.getfield 140, 3) := by decide +kernel
theorem dX9_payingOf_12 : decode cX9_payingOf 12 = .ok (.if_icmp .ge 56, 3) := by decide +kernel
theorem dX9_payingOf_15 : decode cX9_payingOf 15 = .ok (.aload_n 0, 1) := by decide +kernel
theorem dX9_payingOf_16 : decode cX9_payingOf 16 = .ok (.getfield 45, 3) := by decide +kernel
theorem dX9_payingOf_19 : decode cX9_payingOf 19 = .ok (.iload 5, 2) := by decide +kernel
theorem dX9_payingOf_21 : decode cX9_payingOf 21 = .ok (.baload, 1) := by decide +kernel
theorem dX9_payingOf_22 : decode cX9_payingOf 22 = .ok (.ifCond .eq 36, 3) := by decide +kernel
theorem dX9_payingOf_25 : decode cX9_payingOf 25 = .ok (.aload_n 0, 1) := by decide +kernel
theorem dX9_payingOf_26 : decode cX9_payingOf 26 = .ok (.getfield 32, 3) := by decide +kernel
theorem dX9_payingOf_29 : decode cX9_payingOf 29 = .ok (.iload 5, 2) := by decide +kernel
theorem dX9_payingOf_31 : decode cX9_payingOf 31 = .ok (.laload, 1) := by decide +kernel
theorem dX9_payingOf_32 : decode cX9_payingOf 32 = .ok (.lload_n 1, 1) := by decide +kernel
theorem dX9_payingOf_33 : decode cX9_payingOf 33 = .ok (.lcmp, 1) := by decide +kernel
theorem dX9_payingOf_34 : decode cX9_payingOf 34 = .ok (.ifCond .ne 24, 3) := by decide +kernel
theorem dX9_payingOf_37 : decode cX9_payingOf 37 = .ok (.aload_n 0, 1) := by decide +kernel
theorem dX9_payingOf_38 : decode cX9_payingOf 38 = .ok (.getfield 16, 3) := by decide +kernel
theorem dX9_payingOf_41 : decode cX9_payingOf 41 = .ok (.aload_n 0, 1) := by decide +kernel
theorem dX9_payingOf_42 : decode cX9_payingOf 42 = .ok (.getfield 36, 3) := by decide +kernel
theorem dX9_payingOf_45 : decode cX9_payingOf 45 = .ok (.iload 5, 2) := by decide +kernel
theorem dX9_payingOf_47 : decode cX9_payingOf 47 = .ok (.iaload, 1) := by decide +kernel
theorem dX9_payingOf_48 : decode cX9_payingOf 48 = .ok (.iaload, 1) := by decide +kernel
theorem dX9_payingOf_49 : decode cX9_payingOf 49 = .ok (.iload_n 3, 1) := by decide +kernel
theorem dX9_payingOf_50 : decode cX9_payingOf 50 = .ok (.if_icmp .ne 8, 3) := by decide +kernel
theorem dX9_payingOf_53 : decode cX9_payingOf 53 = .ok (.iload 5, 2) := by decide +kernel
theorem dX9_payingOf_55 : decode cX9_payingOf 55 = .ok (.goto 5, 3) := by decide +kernel
theorem dX9_payingOf_58 : decode cX9_payingOf 58 = .ok (.iload 4, 2) := by decide +kernel
theorem dX9_payingOf_60 : decode cX9_payingOf 60 = .ok (.istore 4, 2) := by decide +kernel
theorem dX9_payingOf_62 : decode cX9_payingOf 62 = .ok (.iinc 5 1, 3) := by decide +kernel
theorem dX9_payingOf_65 : decode cX9_payingOf 65 = .ok (.goto (-59), 3) := by decide +kernel
theorem dX9_payingOf_68 : decode cX9_payingOf 68 = .ok (.iload 4, 2) := by decide +kernel
theorem dX9_payingOf_70 : decode cX9_payingOf 70 = .ok (.ireturn, 1) := by decide +kernel
set_option maxRecDepth 20000 in
theorem ggX9_reasonFor_X9_isMachine : GoodIn wsX9_reasonFor wsX9_isMachine := goodIn_r _ [12, 13, 14, 29, 30, 31, 32, 33, 34, 35, 36, 37, 38, 39, 40, 41, 42, 43, 44, 45, 46, 47, 48, 49, 50, 51, 52, 53, 54, 55, 56, 57, 58, 59, 60] (by decide +kernel) (by decide +kernel)
set_option maxRecDepth 20000 in
theorem gX9_reasonFor_X9_isMachine : GoodIn wsX9_reasonFor (wsV RX9 136 RX9 yX9_isMachine wsX9_isMachine) := goodIn_app (goodIn_of _ (by decide +kernel)) ggX9_reasonFor_X9_isMachine
set_option maxRecDepth 20000 in
theorem ggX9_reasonFor_X9_isIn : GoodIn wsX9_reasonFor wsX9_isIn := goodIn_r _ [17] (by decide +kernel) (by decide +kernel)
set_option maxRecDepth 20000 in
theorem gX9_reasonFor_X9_isIn : GoodIn wsX9_reasonFor (va_wsS RX9 87 yX9_isIn wsX9_isIn) := goodIn_app (goodIn_of _ (by decide +kernel)) ggX9_reasonFor_X9_isIn
set_option maxRecDepth 20000 in
theorem ggX9_reasonFor_X9_checkOf : GoodIn wsX9_reasonFor wsX9_checkOf := goodIn_r _ [20, 6] (by decide +kernel) (by decide +kernel)
set_option maxRecDepth 20000 in
theorem gX9_reasonFor_X9_checkOf : GoodIn wsX9_reasonFor (va_wsS RX9 119 yX9_checkOf wsX9_checkOf) := goodIn_app (goodIn_of _ (by decide +kernel)) ggX9_reasonFor_X9_checkOf
set_option maxRecDepth 20000 in
theorem ggX9_reasonFor_X9_payingOf : GoodIn wsX9_reasonFor wsX9_payingOf := goodIn_r _ [24, 25, 26, 27, 7, 28, 29, 30, 31, 32, 33, 34, 35, 36, 37, 38, 39, 40, 41, 42, 43, 44, 45, 46, 47, 48, 49, 50, 51, 52, 53, 54, 55, 56, 57, 58, 59, 60] (by decide +kernel) (by decide +kernel)
set_option maxRecDepth 20000 in
theorem gX9_reasonFor_X9_payingOf : GoodIn wsX9_reasonFor (wsV RX9 143 RX9 yX9_payingOf wsX9_payingOf) := goodIn_app (goodIn_of _ (by decide +kernel)) ggX9_reasonFor_X9_payingOf
theorem dX9_reasonFor_0 : decode cX9_reasonFor 0 = .ok (.aload_n 0, 1) := by decide +kernel
theorem dX9_reasonFor_1 : decode cX9_reasonFor 1 = .ok (.iload_n 1, 1) := by decide +kernel
theorem dX9_reasonFor_2 : decode cX9_reasonFor 2 = .ok (.invokevirtual 136, 3) := by decide +kernel
theorem dX9_reasonFor_5 : decode cX9_reasonFor 5 = .ok (.ifCond .ne 5, 3) := by decide +kernel
theorem dX9_reasonFor_8 : decode cX9_reasonFor 8 = .ok (.iconst 1, 1) := by decide +kernel
theorem dX9_reasonFor_9 : decode cX9_reasonFor 9 = .ok (.ireturn, 1) := by decide +kernel
theorem dX9_reasonFor_10 : decode cX9_reasonFor 10 = .ok (.aload_n 0, 1) := by decide +kernel
theorem dX9_reasonFor_11 : decode cX9_reasonFor 11 = .ok (.getfield 19, 3) := by decide +kernel
theorem dX9_reasonFor_14 : decode cX9_reasonFor 14 = .ok (.iload_n 1, 1) := by decide +kernel
theorem dX9_reasonFor_15 : decode cX9_reasonFor 15 = .ok (.baload, 1) := by decide +kernel
theorem dX9_reasonFor_16 : decode cX9_reasonFor 16 = .ok (.ifCond .eq 5, 3) := by decide +kernel
theorem dX9_reasonFor_19 : decode cX9_reasonFor 19 = .ok (.iconst 2, 1) := by decide +kernel
theorem dX9_reasonFor_20 : decode cX9_reasonFor 20 = .ok (.ireturn, 1) := by decide +kernel
theorem dX9_reasonFor_21 : decode cX9_reasonFor 21 = .ok (.aload_n 0, 1) := by decide +kernel
theorem dX9_reasonFor_22 : decode cX9_reasonFor 22 = .ok (.getfield 23, 3) := by decide +kernel
theorem dX9_reasonFor_25 : decode cX9_reasonFor 25 = .ok (.iload_n 1, 1) := by decide +kernel
theorem dX9_reasonFor_26 : decode cX9_reasonFor 26 = .ok (.baload, 1) := by decide +kernel
theorem dX9_reasonFor_27 : decode cX9_reasonFor 27 = .ok (.ifCond .eq 5, 3) := by decide +kernel
theorem dX9_reasonFor_30 : decode cX9_reasonFor 30 = .ok (.iconst 3, 1) := by decide +kernel
theorem dX9_reasonFor_31 : decode cX9_reasonFor 31 = .ok (.ireturn, 1) := by decide +kernel
theorem dX9_reasonFor_32 : decode cX9_reasonFor 32 = .ok (.iload 4, 2) := by decide +kernel
theorem dX9_reasonFor_34 : decode cX9_reasonFor 34 = .ok (.i2l, 1) := by decide +kernel
theorem dX9_reasonFor_35 : decode cX9_reasonFor 35 = .ok (.ldc2_w 125, 3) := by decide +kernel
theorem dX9_reasonFor_38 : decode cX9_reasonFor 38 = .ok (.invokestatic 87, 3) := by decide +kernel
theorem dX9_reasonFor_41 : decode cX9_reasonFor 41 = .ok (.ifCond .eq 14, 3) := by decide +kernel
theorem dX9_reasonFor_44 : decode cX9_reasonFor 44 = .ok (.aload_n 0, 1) := by decide +kernel
theorem dX9_reasonFor_45 : decode cX9_reasonFor 45 = .ok (.getfield 26, 3) := by decide +kernel
theorem dX9_reasonFor_48 : decode cX9_reasonFor 48 = .ok (.iload 4, 2) := by decide +kernel
theorem dX9_reasonFor_50 : decode cX9_reasonFor 50 = .ok (.iaload, 1) := by decide +kernel
theorem dX9_reasonFor_51 : decode cX9_reasonFor 51 = .ok (.iconst (-1), 1) := by decide +kernel
theorem dX9_reasonFor_52 : decode cX9_reasonFor 52 = .ok (.if_icmp .ne 5, 3) := by decide +kernel
theorem dX9_reasonFor_55 : decode cX9_reasonFor 55 = .ok (.iconst 4, 1) := by decide +kernel
theorem dX9_reasonFor_56 : decode cX9_reasonFor 56 = .ok (.ireturn, 1) := by decide +kernel
theorem dX9_reasonFor_57 : decode cX9_reasonFor 57 = .ok (.iload 5, 2) := by decide +kernel
theorem dX9_reasonFor_59 : decode cX9_reasonFor 59 = .ok (.aload_n 0, 1) := by decide +kernel
theorem dX9_reasonFor_60 : decode cX9_reasonFor 60 = .ok (.getfield 26, 3) := by decide +kernel
theorem dX9_reasonFor_63 : decode cX9_reasonFor 63 = .ok (.iload 4, 2) := by decide +kernel
theorem dX9_reasonFor_65 : decode cX9_reasonFor 65 = .ok (.iaload, 1) := by decide +kernel
theorem dX9_reasonFor_66 : decode cX9_reasonFor 66 = .ok (.if_icmp .lt 15, 3) := by decide +kernel
theorem dX9_reasonFor_69 : decode cX9_reasonFor 69 = .ok (.iload 5, 2) := by decide +kernel
theorem dX9_reasonFor_71 : decode cX9_reasonFor 71 = .ok (.aload_n 0, 1) := by decide +kernel
theorem dX9_reasonFor_72 : decode cX9_reasonFor 72 = .ok (.getfield 29, 3) := by decide +kernel
theorem dX9_reasonFor_75 : decode cX9_reasonFor 75 = .ok (.iload 4, 2) := by decide +kernel
theorem dX9_reasonFor_77 : decode cX9_reasonFor 77 = .ok (.iaload, 1) := by decide +kernel
theorem dX9_reasonFor_78 : decode cX9_reasonFor 78 = .ok (.if_icmp .le 5, 3) := by decide +kernel
theorem dX9_reasonFor_81 : decode cX9_reasonFor 81 = .ok (.iconst 5, 1) := by decide +kernel
theorem dX9_reasonFor_82 : decode cX9_reasonFor 82 = .ok (.ireturn, 1) := by decide +kernel
theorem dX9_reasonFor_83 : decode cX9_reasonFor 83 = .ok (.lload_n 2, 1) := by decide +kernel
theorem dX9_reasonFor_84 : decode cX9_reasonFor 84 = .ok (.ldc2_w 115, 3) := by decide +kernel
theorem dX9_reasonFor_87 : decode cX9_reasonFor 87 = .ok (.lrem, 1) := by decide +kernel
theorem dX9_reasonFor_88 : decode cX9_reasonFor 88 = .ok (.iconst 0, 1) := by decide +kernel
theorem dX9_reasonFor_89 : decode cX9_reasonFor 89 = .ok (.lload_n 2, 1) := by decide +kernel
theorem dX9_reasonFor_90 : decode cX9_reasonFor 90 = .ok (.ldc2_w 115, 3) := by decide +kernel
theorem dX9_reasonFor_93 : decode cX9_reasonFor 93 = .ok (.ldiv, 1) := by decide +kernel
theorem dX9_reasonFor_94 : decode cX9_reasonFor 94 = .ok (.invokestatic 119, 3) := by decide +kernel
theorem dX9_reasonFor_97 : decode cX9_reasonFor 97 = .ok (.i2l, 1) := by decide +kernel
theorem dX9_reasonFor_98 : decode cX9_reasonFor 98 = .ok (.lcmp, 1) := by decide +kernel
theorem dX9_reasonFor_99 : decode cX9_reasonFor 99 = .ok (.ifCond .eq 6, 3) := by decide +kernel
theorem dX9_reasonFor_102 : decode cX9_reasonFor 102 = .ok (.bipush 6, 2) := by decide +kernel
theorem dX9_reasonFor_104 : decode cX9_reasonFor 104 = .ok (.ireturn, 1) := by decide +kernel
theorem dX9_reasonFor_105 : decode cX9_reasonFor 105 = .ok (.aload_n 0, 1) := by decide +kernel
theorem dX9_reasonFor_106 : decode cX9_reasonFor 106 = .ok (.lload_n 2, 1) := by decide +kernel
theorem dX9_reasonFor_107 : decode cX9_reasonFor 107 = .ok (.aload_n 0, 1) := by decide +kernel
theorem dX9_reasonFor_108 : decode cX9_reasonFor 108 = .ok (.getfield 16, 3) := by decide +kernel
theorem dX9_reasonFor_111 : decode cX9_reasonFor 111 = .ok (.iload_n 1, 1) := by decide +kernel
theorem dX9_reasonFor_112 : decode cX9_reasonFor 112 = .ok (.iaload, 1) := by decide +kernel
theorem dX9_reasonFor_113 : decode cX9_reasonFor 113 = .ok (.invokevirtual 143, 3) := by decide +kernel
theorem dX9_reasonFor_116 : decode cX9_reasonFor 116 = .ok (.ifCond .ge 7, 3) := by decide +kernel
theorem dX9_reasonFor_119 : decode cX9_reasonFor 119 = .ok (.iconst 0, 1) := by decide +kernel
theorem dX9_reasonFor_120 : decode cX9_reasonFor 120 = .ok (.goto 5, 3) := by decide +kernel
theorem dX9_reasonFor_123 : decode cX9_reasonFor 123 = .ok (.bipush 7, 2) := by decide +kernel
theorem dX9_reasonFor_125 : decode cX9_reasonFor 125 = .ok (.ireturn, 1) := by decide +kernel
theorem dX9_refuse_0 : decode cX9_refuse 0 = .ok (.iconst 0, 1) := by decide +kernel
theorem dX9_refuse_1 : decode cX9_refuse 1 = .ok (.istore 4, 2) := by decide +kernel
theorem dX9_refuse_3 : decode cX9_refuse 3 = .ok (.iload 4, 2) := by decide +kernel
theorem dX9_refuse_5 : decode cX9_refuse 5 = .ok (.aload_n 0, 1) := by decide +kernel
theorem dX9_refuse_6 : decode cX9_refuse 6 = .ok (.getfield 147, 3) := by decide +kernel
theorem dX9_refuse_9 : decode cX9_refuse 9 = .ok (.if_icmp .ge 21, 3) := by decide +kernel
theorem dX9_refuse_12 : decode cX9_refuse 12 = .ok (.aload_n 0, 1) := by decide +kernel
theorem dX9_refuse_13 : decode cX9_refuse 13 = .ok (.getfield 51, 3) := by decide +kernel
theorem dX9_refuse_16 : decode cX9_refuse 16 = .ok (.iload 4, 2) := by decide +kernel
theorem dX9_refuse_18 : decode cX9_refuse 18 = .ok (.laload, 1) := by decide +kernel
theorem dX9_refuse_19 : decode cX9_refuse 19 = .ok (.lload_n 2, 1) := by decide +kernel
theorem dX9_refuse_20 : decode cX9_refuse 20 = .ok (.lcmp, 1) := by decide +kernel
theorem dX9_refuse_21 : decode cX9_refuse 21 = .ok (.ifCond .eq 9, 3) := by decide +kernel
theorem dX9_refuse_24 : decode cX9_refuse 24 = .ok (.iinc 4 1, 3) := by decide +kernel
theorem dX9_refuse_27 : decode cX9_refuse 27 = .ok (.goto (-24), 3) := by decide +kernel
theorem dX9_refuse_30 : decode cX9_refuse 30 = .ok (.aload_n 0, 1) := by decide +kernel
theorem dX9_refuse_31 : decode cX9_refuse 31 = .ok (.getfield 51, 3) := by decide +kernel
theorem dX9_refuse_34 : decode cX9_refuse 34 = .ok (.iload 4, 2) := by decide +kernel
theorem dX9_refuse_36 : decode cX9_refuse 36 = .ok (.lload_n 2, 1) := by decide +kernel
theorem dX9_refuse_37 : decode cX9_refuse 37 = .ok (.lastore, 1) := by decide +kernel
theorem dX9_refuse_38 : decode cX9_refuse 38 = .ok (.aload_n 0, 1) := by decide +kernel
theorem dX9_refuse_39 : decode cX9_refuse 39 = .ok (.getfield 54, 3) := by decide +kernel
theorem dX9_refuse_42 : decode cX9_refuse 42 = .ok (.iload 4, 2) := by decide +kernel
theorem dX9_refuse_44 : decode cX9_refuse 44 = .ok (.iload 4, 2) := by decide +kernel
theorem dX9_refuse_46 : decode cX9_refuse 46 = .ok (.aload_n 0, 1) := by decide +kernel
theorem dX9_refuse_47 : decode cX9_refuse 47 = .ok (.getfield 147, 3) := by decide +kernel
theorem dX9_refuse_50 : decode cX9_refuse 50 = .ok (.if_icmp .ne 7, 3) := by decide +kernel
theorem dX9_refuse_53 : decode cX9_refuse 53 = .ok (.iconst 1, 1) := by decide +kernel
theorem dX9_refuse_54 : decode cX9_refuse 54 = .ok (.goto 12, 3) := by decide +kernel
theorem dX9_refuse_57 : decode cX9_refuse 57 = .ok (.aload_n 0, 1) := by decide +kernel
theorem dX9_refuse_58 : decode cX9_refuse 58 = .ok (.getfield 54, 3) := by decide +kernel
theorem dX9_refuse_61 : decode cX9_refuse 61 = .ok (.iload 4, 2) := by decide +kernel
theorem dX9_refuse_63 : decode cX9_refuse 63 = .ok (.iaload, 1) := by decide +kernel
theorem dX9_refuse_64 : decode cX9_refuse 64 = .ok (.iconst 1, 1) := by decide +kernel
theorem dX9_refuse_65 : decode cX9_refuse 65 = .ok (.iadd, 1) := by decide +kernel
theorem dX9_refuse_66 : decode cX9_refuse 66 = .ok (.iastore, 1) := by decide +kernel
theorem dX9_refuse_67 : decode cX9_refuse 67 = .ok (.aload_n 0, 1) := by decide +kernel
theorem dX9_refuse_68 : decode cX9_refuse 68 = .ok (.iload 4, 2) := by decide +kernel
theorem dX9_refuse_70 : decode cX9_refuse 70 = .ok (.aload_n 0, 1) := by decide +kernel
theorem dX9_refuse_71 : decode cX9_refuse 71 = .ok (.getfield 147, 3) := by decide +kernel
theorem dX9_refuse_74 : decode cX9_refuse 74 = .ok (.if_icmp .ne 12, 3) := by decide +kernel
theorem dX9_refuse_77 : decode cX9_refuse 77 = .ok (.aload_n 0, 1) := by decide +kernel
theorem dX9_refuse_78 : decode cX9_refuse 78 = .ok (.getfield 147, 3) := by decide +kernel
theorem dX9_refuse_81 : decode cX9_refuse 81 = .ok (.iconst 1, 1) := by decide +kernel
theorem dX9_refuse_82 : decode cX9_refuse 82 = .ok (.iadd, 1) := by decide +kernel
theorem dX9_refuse_83 : decode cX9_refuse 83 = .ok (.goto 7, 3) := by decide +kernel
theorem dX9_refuse_86 : decode cX9_refuse 86 = .ok (.aload_n 0, 1) := by decide +kernel
theorem dX9_refuse_87 : decode cX9_refuse 87 = .ok (.getfield 147, 3) := by decide +kernel
theorem dX9_refuse_90 : decode cX9_refuse 90 = .ok (.putfield 147, 3) := by decide +kernel
theorem dX9_refuse_93 : decode cX9_refuse 93 = .ok (.aload_n 0, 1) := by decide +kernel
theorem dX9_refuse_94 : decode cX9_refuse 94 = .ok (.getfield 54, 3) := by decide +kernel
theorem dX9_refuse_97 : decode cX9_refuse 97 = .ok (.iload 4, 2) := by decide +kernel
theorem dX9_refuse_99 : decode cX9_refuse 99 = .ok (.iaload, 1) := by decide +kernel
theorem dX9_refuse_100 : decode cX9_refuse 100 = .ok (.iconst 3, 1) := by decide +kernel
theorem dX9_refuse_101 : decode cX9_refuse 101 = .ok (.irem, 1) := by decide +kernel
theorem dX9_refuse_102 : decode cX9_refuse 102 = .ok (.ifCond .ne 23, 3) := by decide +kernel
theorem dX9_refuse_105 : decode cX9_refuse 105 = .ok (.aload_n 0, 1) := by decide +kernel
theorem dX9_refuse_106 : decode cX9_refuse 106 = .ok (.getfield 57, 3) := by decide +kernel
theorem dX9_refuse_109 : decode cX9_refuse 109 = .ok (.aload_n 0, 1) := by decide +kernel
theorem dX9_refuse_110 : decode cX9_refuse 110 = .ok (.getfield 150, 3) := by decide +kernel
theorem dX9_refuse_113 : decode cX9_refuse 113 = .ok (.iload_n 1, 1) := by decide +kernel
theorem dX9_refuse_114 : decode cX9_refuse 114 = .ok (.iastore, 1) := by decide +kernel
theorem dX9_refuse_115 : decode cX9_refuse 115 = .ok (.aload_n 0, 1) := by decide +kernel
theorem dX9_refuse_116 : decode cX9_refuse 116 = .ok (.dup, 1) := by decide +kernel
theorem dX9_refuse_117 : decode cX9_refuse 117 = .ok (.getfield 150, 3) := by decide +kernel
theorem dX9_refuse_120 : decode cX9_refuse 120 = .ok (.iconst 1, 1) := by decide +kernel
theorem dX9_refuse_121 : decode cX9_refuse 121 = .ok (.iadd, 1) := by decide +kernel
theorem dX9_refuse_122 : decode cX9_refuse 122 = .ok (.putfield 150, 3) := by decide +kernel
theorem dX9_refuse_125 : decode cX9_refuse 125 = .ok (.return_, 1) := by decide +kernel
set_option maxRecDepth 20000 in
theorem ggX9_give_X9_isIn : GoodIn wsX9_give wsX9_isIn := goodIn_r _ [16] (by decide +kernel) (by decide +kernel)
set_option maxRecDepth 20000 in
theorem gX9_give_X9_isIn : GoodIn wsX9_give (va_wsS RX9 87 yX9_isIn wsX9_isIn) := goodIn_app (goodIn_of _ (by decide +kernel)) ggX9_give_X9_isIn
set_option maxRecDepth 20000 in
theorem ggX9_give_X9_reasonFor : GoodIn wsX9_give wsX9_reasonFor := goodIn_r _ [20, 21, 22, 23, 24, 25, 26, 27, 28, 29, 30, 15, 31, 1, 32, 13, 14, 16, 33, 34, 35, 36, 37, 38, 39, 4, 11, 6, 7, 49, 50, 51, 52, 53, 54, 55, 56, 57, 58, 59, 60, 61, 62, 63, 64, 65, 66, 67, 68, 69, 70, 71, 72, 73, 74, 75, 76, 77, 78, 79, 80] (by decide +kernel) (by decide +kernel)
set_option maxRecDepth 20000 in
theorem gX9_give_X9_reasonFor : GoodIn wsX9_give (wsV RX9 155 RX9 yX9_reasonFor wsX9_reasonFor) := goodIn_app (goodIn_of _ (by decide +kernel)) ggX9_give_X9_reasonFor
set_option maxRecDepth 20000 in
theorem ggX9_give_X9_refuse : GoodIn wsX9_give wsX9_refuse := goodIn_r _ [43, 44, 45, 46, 47, 48, 49, 50, 51, 52, 53, 54, 55, 56, 57, 58, 59, 60, 61, 62, 63, 64, 65, 66, 67, 68, 69, 70, 71, 72, 73, 74, 75, 76, 77, 78, 79, 80] (by decide +kernel) (by decide +kernel)
set_option maxRecDepth 20000 in
theorem gX9_give_X9_refuse : GoodIn wsX9_give (wsV RX9 162 RX9 yX9_refuse wsX9_refuse) := goodIn_app (goodIn_of _ (by decide +kernel)) ggX9_give_X9_refuse
theorem dX9_give_0 : decode cX9_give 0 = .ok (.aload_n 0, 1) := by decide +kernel
theorem dX9_give_1 : decode cX9_give 1 = .ok (.iconst 0, 1) := by decide +kernel
theorem dX9_give_2 : decode cX9_give 2 = .ok (.putfield 81, 3) := by decide +kernel
theorem dX9_give_5 : decode cX9_give 5 = .ok (.lload_n 2, 1) := by decide +kernel
theorem dX9_give_6 : decode cX9_give 6 = .ok (.ldc2_w 117, 3) := by decide +kernel
theorem dX9_give_9 : decode cX9_give 9 = .ok (.invokestatic 87, 3) := by decide +kernel
theorem dX9_give_12 : decode cX9_give 12 = .ok (.ifCond .eq 24, 3) := by decide +kernel
theorem dX9_give_15 : decode cX9_give 15 = .ok (.lload 6, 2) := by decide +kernel
theorem dX9_give_17 : decode cX9_give 17 = .ok (.ldc2_w 153, 3) := by decide +kernel
theorem dX9_give_20 : decode cX9_give 20 = .ok (.invokestatic 87, 3) := by decide +kernel
theorem dX9_give_23 : decode cX9_give 23 = .ok (.ifCond .eq 13, 3) := by decide +kernel
theorem dX9_give_26 : decode cX9_give 26 = .ok (.aload_n 0, 1) := by decide +kernel
theorem dX9_give_27 : decode cX9_give 27 = .ok (.getfield 140, 3) := by decide +kernel
theorem dX9_give_30 : decode cX9_give 30 = .ok (.sipush 200, 3) := by decide +kernel
theorem dX9_give_33 : decode cX9_give 33 = .ok (.if_icmp .ne 5, 3) := by decide +kernel
theorem dX9_give_36 : decode cX9_give 36 = .ok (.iconst (-1), 1) := by decide +kernel
theorem dX9_give_37 : decode cX9_give 37 = .ok (.ireturn, 1) := by decide +kernel
theorem dX9_give_38 : decode cX9_give 38 = .ok (.aload_n 0, 1) := by decide +kernel
theorem dX9_give_39 : decode cX9_give 39 = .ok (.aload_n 0, 1) := by decide +kernel
theorem dX9_give_40 : decode cX9_give 40 = .ok (.iload_n 1, 1) := by decide +kernel
theorem dX9_give_41 : decode cX9_give 41 = .ok (.lload_n 2, 1) := by decide +kernel
theorem dX9_give_42 : decode cX9_give 42 = .ok (.iload 4, 2) := by decide +kernel
theorem dX9_give_44 : decode cX9_give 44 = .ok (.iload 5, 2) := by decide +kernel
theorem dX9_give_46 : decode cX9_give 46 = .ok (.invokevirtual 155, 3) := by decide +kernel
theorem dX9_give_49 : decode cX9_give 49 = .ok (.putfield 159, 3) := by decide +kernel
theorem dX9_give_52 : decode cX9_give 52 = .ok (.aload_n 0, 1) := by decide +kernel
theorem dX9_give_53 : decode cX9_give 53 = .ok (.getfield 159, 3) := by decide +kernel
theorem dX9_give_56 : decode cX9_give 56 = .ok (.bipush 7, 2) := by decide +kernel
theorem dX9_give_58 : decode cX9_give 58 = .ok (.if_icmp .ne 9, 3) := by decide +kernel
theorem dX9_give_61 : decode cX9_give 61 = .ok (.aload_n 0, 1) := by decide +kernel
theorem dX9_give_62 : decode cX9_give 62 = .ok (.iload_n 1, 1) := by decide +kernel
theorem dX9_give_63 : decode cX9_give 63 = .ok (.lload_n 2, 1) := by decide +kernel
theorem dX9_give_64 : decode cX9_give 64 = .ok (.invokevirtual 162, 3) := by decide +kernel
theorem dX9_give_67 : decode cX9_give 67 = .ok (.aload_n 0, 1) := by decide +kernel
theorem dX9_give_68 : decode cX9_give 68 = .ok (.getfield 159, 3) := by decide +kernel
theorem dX9_give_71 : decode cX9_give 71 = .ok (.ifCond .le 5, 3) := by decide +kernel
theorem dX9_give_74 : decode cX9_give 74 = .ok (.iconst 0, 1) := by decide +kernel
theorem dX9_give_75 : decode cX9_give 75 = .ok (.ireturn, 1) := by decide +kernel
theorem dX9_give_76 : decode cX9_give 76 = .ok (.aload_n 0, 1) := by decide +kernel
theorem dX9_give_77 : decode cX9_give 77 = .ok (.getfield 32, 3) := by decide +kernel
theorem dX9_give_80 : decode cX9_give 80 = .ok (.aload_n 0, 1) := by decide +kernel
theorem dX9_give_81 : decode cX9_give 81 = .ok (.getfield 140, 3) := by decide +kernel
theorem dX9_give_84 : decode cX9_give 84 = .ok (.lload_n 2, 1) := by decide +kernel
theorem dX9_give_85 : decode cX9_give 85 = .ok (.lastore, 1) := by decide +kernel
theorem dX9_give_86 : decode cX9_give 86 = .ok (.aload_n 0, 1) := by decide +kernel
theorem dX9_give_87 : decode cX9_give 87 = .ok (.getfield 36, 3) := by decide +kernel
theorem dX9_give_90 : decode cX9_give 90 = .ok (.aload_n 0, 1) := by decide +kernel
theorem dX9_give_91 : decode cX9_give 91 = .ok (.getfield 140, 3) := by decide +kernel
theorem dX9_give_94 : decode cX9_give 94 = .ok (.iload_n 1, 1) := by decide +kernel
theorem dX9_give_95 : decode cX9_give 95 = .ok (.iastore, 1) := by decide +kernel
theorem dX9_give_96 : decode cX9_give 96 = .ok (.aload_n 0, 1) := by decide +kernel
theorem dX9_give_97 : decode cX9_give 97 = .ok (.getfield 39, 3) := by decide +kernel
theorem dX9_give_100 : decode cX9_give 100 = .ok (.aload_n 0, 1) := by decide +kernel
theorem dX9_give_101 : decode cX9_give 101 = .ok (.getfield 140, 3) := by decide +kernel
theorem dX9_give_104 : decode cX9_give 104 = .ok (.iload 4, 2) := by decide +kernel
theorem dX9_give_106 : decode cX9_give 106 = .ok (.iastore, 1) := by decide +kernel
theorem dX9_give_107 : decode cX9_give 107 = .ok (.aload_n 0, 1) := by decide +kernel
theorem dX9_give_108 : decode cX9_give 108 = .ok (.getfield 42, 3) := by decide +kernel
theorem dX9_give_111 : decode cX9_give 111 = .ok (.aload_n 0, 1) := by decide +kernel
theorem dX9_give_112 : decode cX9_give 112 = .ok (.getfield 140, 3) := by decide +kernel
theorem dX9_give_115 : decode cX9_give 115 = .ok (.lload 6, 2) := by decide +kernel
theorem dX9_give_117 : decode cX9_give 117 = .ok (.ldc2_w 166, 3) := by decide +kernel
theorem dX9_give_120 : decode cX9_give 120 = .ok (.ldiv, 1) := by decide +kernel
theorem dX9_give_121 : decode cX9_give 121 = .ok (.lastore, 1) := by decide +kernel
theorem dX9_give_122 : decode cX9_give 122 = .ok (.aload_n 0, 1) := by decide +kernel
theorem dX9_give_123 : decode cX9_give 123 = .ok (.getfield 45, 3) := by decide +kernel
theorem dX9_give_126 : decode cX9_give 126 = .ok (.aload_n 0, 1) := by decide +kernel
theorem dX9_give_127 : decode cX9_give 127 = .ok (.getfield 140, 3) := by decide +kernel
theorem dX9_give_130 : decode cX9_give 130 = .ok (.iconst 1, 1) := by decide +kernel
theorem dX9_give_131 : decode cX9_give 131 = .ok (.bastore, 1) := by decide +kernel
theorem dX9_give_132 : decode cX9_give 132 = .ok (.aload_n 0, 1) := by decide +kernel
theorem dX9_give_133 : decode cX9_give 133 = .ok (.getfield 48, 3) := by decide +kernel
theorem dX9_give_136 : decode cX9_give 136 = .ok (.aload_n 0, 1) := by decide +kernel
theorem dX9_give_137 : decode cX9_give 137 = .ok (.getfield 140, 3) := by decide +kernel
theorem dX9_give_140 : decode cX9_give 140 = .ok (.iconst 0, 1) := by decide +kernel
theorem dX9_give_141 : decode cX9_give 141 = .ok (.bastore, 1) := by decide +kernel
theorem dX9_give_142 : decode cX9_give 142 = .ok (.aload_n 0, 1) := by decide +kernel
theorem dX9_give_143 : decode cX9_give 143 = .ok (.dup, 1) := by decide +kernel
theorem dX9_give_144 : decode cX9_give 144 = .ok (.getfield 140, 3) := by decide +kernel
theorem dX9_give_147 : decode cX9_give 147 = .ok (.iconst 1, 1) := by decide +kernel
theorem dX9_give_148 : decode cX9_give 148 = .ok (.iadd, 1) := by decide +kernel
theorem dX9_give_149 : decode cX9_give 149 = .ok (.putfield 140, 3) := by decide +kernel
theorem dX9_give_152 : decode cX9_give 152 = .ok (.iconst 1, 1) := by decide +kernel
theorem dX9_give_153 : decode cX9_give 153 = .ok (.ireturn, 1) := by decide +kernel
theorem dX9_reason_0 : decode cX9_reason 0 = .ok (.aload_n 0, 1) := by decide +kernel
theorem dX9_reason_1 : decode cX9_reason 1 = .ok (.iconst 0, 1) := by decide +kernel
theorem dX9_reason_2 : decode cX9_reason 2 = .ok (.putfield 81, 3) := by decide +kernel
theorem dX9_reason_5 : decode cX9_reason 5 = .ok (.aload_n 0, 1) := by decide +kernel
theorem dX9_reason_6 : decode cX9_reason 6 = .ok (.getfield 159, 3) := by decide +kernel
theorem dX9_reason_9 : decode cX9_reason 9 = .ok (.ireturn, 1) := by decide +kernel
set_option maxRecDepth 20000 in
theorem ggX9_count_X9_isMachine : GoodIn wsX9_count wsX9_isMachine := goodIn_r _ [10, 11, 12, 16, 17, 18, 19, 20, 21, 22, 23, 24, 25, 26, 27, 28, 29, 30, 31, 32, 33, 34, 35, 36, 37, 38, 39, 40, 41, 42, 43, 44, 45, 46, 47] (by decide +kernel) (by decide +kernel)
set_option maxRecDepth 20000 in
theorem gX9_count_X9_isMachine : GoodIn wsX9_count (wsV RX9 136 RX9 yX9_isMachine wsX9_isMachine) := goodIn_app (goodIn_of _ (by decide +kernel)) ggX9_count_X9_isMachine
set_option maxRecDepth 20000 in
theorem ggX9_count_X9_isIn : GoodIn wsX9_count wsX9_isIn := goodIn_r _ [15] (by decide +kernel) (by decide +kernel)
set_option maxRecDepth 20000 in
theorem gX9_count_X9_isIn : GoodIn wsX9_count (va_wsS RX9 87 yX9_isIn wsX9_isIn) := goodIn_app (goodIn_of _ (by decide +kernel)) ggX9_count_X9_isIn
theorem dX9_count_0 : decode cX9_count 0 = .ok (.aload_n 0, 1) := by decide +kernel
theorem dX9_count_1 : decode cX9_count 1 = .ok (.iload_n 1, 1) := by decide +kernel
theorem dX9_count_2 : decode cX9_count 2 = .ok (.invokevirtual 136, 3) := by decide +kernel
theorem dX9_count_5 : decode cX9_count 5 = .ok (.ifCond .eq 14, 3) := by decide +kernel
theorem dX9_count_8 : decode cX9_count 8 = .ok (.iload_n 2, 1) := by decide +kernel
theorem dX9_count_9 : decode cX9_count 9 = .ok (.i2l, 1) := by decide +kernel
theorem dX9_count_10 : decode cX9_count 10 = .ok (.ldc2_w 125, 3) := by decide +kernel
theorem dX9_count_13 : decode cX9_count 13 = .ok (.invokestatic 87, 3) := by decide +kernel
theorem dX9_count_16 : decode cX9_count 16 = .ok (.ifCond .ne 7, 3) := by decide +kernel
theorem dX9_count_19 : decode cX9_count 19 = .ok (.ldc2_w 168, 3) := by decide +kernel
theorem dX9_count_22 : decode cX9_count 22 = .ok (.lreturn, 1) := by decide +kernel
theorem dX9_count_23 : decode cX9_count 23 = .ok (.iconst 0, 1) := by decide +kernel
theorem dX9_count_24 : decode cX9_count 24 = .ok (.istore_n 3, 1) := by decide +kernel
theorem dX9_count_25 : decode cX9_count 25 = .ok (.iconst 0, 1) := by decide +kernel
theorem dX9_count_26 : decode cX9_count 26 = .ok (.istore 4, 2) := by decide +kernel
theorem dX9_count_28 : decode cX9_count 28 = .ok (.iload 4, 2) := by decide +kernel
theorem dX9_count_30 : decode cX9_count 30 = .ok (.aload_n 0, 1) := by decide +kernel
theorem dX9_count_31 : decode cX9_count 31 = .ok (.getfield 140, 3) := by decide +kernel
theorem dX9_count_34 : decode cX9_count 34 = .ok (.if_icmp .ge 39, 3) := by decide +kernel
theorem dX9_count_37 : decode cX9_count 37 = .ok (.aload_n 0, 1) := by decide +kernel
theorem dX9_count_38 : decode cX9_count 38 = .ok (.getfield 36, 3) := by decide +kernel
theorem dX9_count_41 : decode cX9_count 41 = .ok (.iload 4, 2) := by decide +kernel
theorem dX9_count_43 : decode cX9_count 43 = .ok (.iaload, 1) := by decide +kernel
theorem dX9_count_44 : decode cX9_count 44 = .ok (.iload_n 1, 1) := by decide +kernel
theorem dX9_count_45 : decode cX9_count 45 = .ok (.if_icmp .ne 20, 3) := by decide +kernel
theorem dX9_count_48 : decode cX9_count 48 = .ok (.aload_n 0, 1) := by decide +kernel
theorem dX9_count_49 : decode cX9_count 49 = .ok (.getfield 39, 3) := by decide +kernel
theorem dX9_count_52 : decode cX9_count 52 = .ok (.iload 4, 2) := by decide +kernel
theorem dX9_count_54 : decode cX9_count 54 = .ok (.iaload, 1) := by decide +kernel
theorem dX9_count_55 : decode cX9_count 55 = .ok (.iload_n 2, 1) := by decide +kernel
theorem dX9_count_56 : decode cX9_count 56 = .ok (.if_icmp .ne 9, 3) := by decide +kernel
theorem dX9_count_59 : decode cX9_count 59 = .ok (.iload_n 3, 1) := by decide +kernel
theorem dX9_count_60 : decode cX9_count 60 = .ok (.iconst 1, 1) := by decide +kernel
theorem dX9_count_61 : decode cX9_count 61 = .ok (.iadd, 1) := by decide +kernel
theorem dX9_count_62 : decode cX9_count 62 = .ok (.goto 4, 3) := by decide +kernel
theorem dX9_count_65 : decode cX9_count 65 = .ok (.iload_n 3, 1) := by decide +kernel
theorem dX9_count_66 : decode cX9_count 66 = .ok (.istore_n 3, 1) := by decide +kernel
theorem dX9_count_67 : decode cX9_count 67 = .ok (.iinc 4 1, 3) := by decide +kernel
theorem dX9_count_70 : decode cX9_count 70 = .ok (.goto (-42), 3) := by decide +kernel
theorem dX9_count_73 : decode cX9_count 73 = .ok (.iload_n 3, 1) := by decide +kernel
theorem dX9_count_74 : decode cX9_count 74 = .ok (.i2l, 1) := by decide +kernel
theorem dX9_count_75 : decode cX9_count 75 = .ok (.lreturn, 1) := by decide +kernel
set_option maxRecDepth 20000 in
theorem ggX9_join_X9_isMachine : GoodIn wsX9_join wsX9_isMachine := goodIn_r _ [13, 14, 8, 25, 26, 27, 28, 29, 30, 31, 32, 33, 34, 35, 36, 37, 38, 39, 40, 41, 42, 43, 44, 45, 46, 47, 48, 49, 50, 51, 52, 53, 54, 55, 56] (by decide +kernel) (by decide +kernel)
set_option maxRecDepth 20000 in
theorem gX9_join_X9_isMachine : GoodIn wsX9_join (wsV RX9 136 RX9 yX9_isMachine wsX9_isMachine) := goodIn_app (goodIn_of _ (by decide +kernel)) ggX9_join_X9_isMachine
set_option maxRecDepth 20000 in
theorem ggX9_join_X9_payingOf : GoodIn wsX9_join wsX9_payingOf := goodIn_r _ [18, 3, 4, 6, 1, 5, 25, 26, 27, 28, 29, 30, 31, 32, 33, 34, 35, 36, 37, 38, 39, 40, 41, 42, 43, 44, 45, 46, 47, 48, 49, 50, 51, 52, 53, 54, 55, 56] (by decide +kernel) (by decide +kernel)
set_option maxRecDepth 20000 in
theorem gX9_join_X9_payingOf : GoodIn wsX9_join (wsV RX9 143 RX9 yX9_payingOf wsX9_payingOf) := goodIn_app (goodIn_of _ (by decide +kernel)) ggX9_join_X9_payingOf
set_option maxRecDepth 20000 in
theorem ggX9_join_X9_insert : GoodIn wsX9_join wsX9_insert := goodIn_r _ [22, 2, 7, 23, 24, 25, 26, 27, 28, 29, 30, 31, 32, 33, 34, 35, 36, 37, 38, 39, 40, 41, 42, 43, 44, 45, 46, 47, 48, 49, 50, 51, 52, 53, 54, 55, 56] (by decide +kernel) (by decide +kernel)
set_option maxRecDepth 20000 in
theorem gX9_join_X9_insert : GoodIn wsX9_join (wsV RX9 173 RX9 yX9_insert wsX9_insert) := goodIn_app (goodIn_of _ (by decide +kernel)) ggX9_join_X9_insert
theorem dX9_join_0 : decode cX9_join 0 = .ok (.aload_n 0, 1) := by decide +kernel
theorem dX9_join_1 : decode cX9_join 1 = .ok (.iload_n 1, 1) := by decide +kernel
theorem dX9_join_2 : decode cX9_join 2 = .ok (.invokevirtual 136, 3) := by decide +kernel
theorem dX9_join_5 : decode cX9_join 5 = .ok (.ifCond .eq 11, 3) := by decide +kernel
theorem dX9_join_8 : decode cX9_join 8 = .ok (.aload_n 0, 1) := by decide +kernel
theorem dX9_join_9 : decode cX9_join 9 = .ok (.iload_n 2, 1) := by decide +kernel
theorem dX9_join_10 : decode cX9_join 10 = .ok (.invokevirtual 136, 3) := by decide +kernel
theorem dX9_join_13 : decode cX9_join 13 = .ok (.ifCond .ne 5, 3) := by decide +kernel
theorem dX9_join_16 : decode cX9_join 16 = .ok (.iconst (-1), 1) := by decide +kernel
theorem dX9_join_17 : decode cX9_join 17 = .ok (.ireturn, 1) := by decide +kernel
theorem dX9_join_18 : decode cX9_join 18 = .ok (.aload_n 0, 1) := by decide +kernel
theorem dX9_join_19 : decode cX9_join 19 = .ok (.getfield 16, 3) := by decide +kernel
theorem dX9_join_22 : decode cX9_join 22 = .ok (.iload_n 1, 1) := by decide +kernel
theorem dX9_join_23 : decode cX9_join 23 = .ok (.iaload, 1) := by decide +kernel
theorem dX9_join_24 : decode cX9_join 24 = .ok (.istore_n 3, 1) := by decide +kernel
theorem dX9_join_25 : decode cX9_join 25 = .ok (.aload_n 0, 1) := by decide +kernel
theorem dX9_join_26 : decode cX9_join 26 = .ok (.getfield 16, 3) := by decide +kernel
theorem dX9_join_29 : decode cX9_join 29 = .ok (.iload_n 2, 1) := by decide +kernel
theorem dX9_join_30 : decode cX9_join 30 = .ok (.iaload, 1) := by decide +kernel
theorem dX9_join_31 : decode cX9_join 31 = .ok (.istore 4, 2) := by decide +kernel
theorem dX9_join_33 : decode cX9_join 33 = .ok (.iload_n 3, 1) := by decide +kernel
theorem dX9_join_34 : decode cX9_join 34 = .ok (.iload 4, 2) := by decide +kernel
theorem dX9_join_36 : decode cX9_join 36 = .ok (.if_icmp .ne 5, 3) := by decide +kernel
theorem dX9_join_39 : decode cX9_join 39 = .ok (.iconst 0, 1) := by decide +kernel
theorem dX9_join_40 : decode cX9_join 40 = .ok (.ireturn, 1) := by decide +kernel
theorem dX9_join_41 : decode cX9_join 41 = .ok (.aload_n 0, 1) := by decide +kernel
theorem dX9_join_42 : decode cX9_join 42 = .ok (.getfield 170, 3) := by decide +kernel
theorem dX9_join_45 : decode cX9_join 45 = .ok (.istore 5, 2) := by decide +kernel
theorem dX9_join_47 : decode cX9_join 47 = .ok (.iconst 0, 1) := by decide +kernel
theorem dX9_join_48 : decode cX9_join 48 = .ok (.istore 6, 2) := by decide +kernel
theorem dX9_join_50 : decode cX9_join 50 = .ok (.iload 6, 2) := by decide +kernel
theorem dX9_join_52 : decode cX9_join 52 = .ok (.aload_n 0, 1) := by decide +kernel
theorem dX9_join_53 : decode cX9_join 53 = .ok (.getfield 140, 3) := by decide +kernel
theorem dX9_join_56 : decode cX9_join 56 = .ok (.if_icmp .ge 86, 3) := by decide +kernel
theorem dX9_join_59 : decode cX9_join 59 = .ok (.aload_n 0, 1) := by decide +kernel
theorem dX9_join_60 : decode cX9_join 60 = .ok (.getfield 45, 3) := by decide +kernel
theorem dX9_join_63 : decode cX9_join 63 = .ok (.iload 6, 2) := by decide +kernel
theorem dX9_join_65 : decode cX9_join 65 = .ok (.baload, 1) := by decide +kernel
theorem dX9_join_66 : decode cX9_join 66 = .ok (.ifCond .eq 35, 3) := by decide +kernel
theorem dX9_join_69 : decode cX9_join 69 = .ok (.aload_n 0, 1) := by decide +kernel
theorem dX9_join_70 : decode cX9_join 70 = .ok (.getfield 16, 3) := by decide +kernel
theorem dX9_join_73 : decode cX9_join 73 = .ok (.aload_n 0, 1) := by decide +kernel
theorem dX9_join_74 : decode cX9_join 74 = .ok (.getfield 36, 3) := by decide +kernel
theorem dX9_join_77 : decode cX9_join 77 = .ok (.iload 6, 2) := by decide +kernel
theorem dX9_join_79 : decode cX9_join 79 = .ok (.iaload, 1) := by decide +kernel
theorem dX9_join_80 : decode cX9_join 80 = .ok (.iaload, 1) := by decide +kernel
theorem dX9_join_81 : decode cX9_join 81 = .ok (.iload_n 3, 1) := by decide +kernel
theorem dX9_join_82 : decode cX9_join 82 = .ok (.if_icmp .ne 19, 3) := by decide +kernel
theorem dX9_join_85 : decode cX9_join 85 = .ok (.aload_n 0, 1) := by decide +kernel
theorem dX9_join_86 : decode cX9_join 86 = .ok (.aload_n 0, 1) := by decide +kernel
theorem dX9_join_87 : decode cX9_join 87 = .ok (.getfield 32, 3) := by decide +kernel
theorem dX9_join_90 : decode cX9_join 90 = .ok (.iload 6, 2) := by decide +kernel
theorem dX9_join_92 : decode cX9_join 92 = .ok (.laload, 1) := by decide +kernel
theorem dX9_join_93 : decode cX9_join 93 = .ok (.iload 4, 2) := by decide +kernel
theorem dX9_join_95 : decode cX9_join 95 = .ok (.invokevirtual 143, 3) := by decide +kernel
theorem dX9_join_98 : decode cX9_join 98 = .ok (.goto 4, 3) := by decide +kernel
theorem dX9_join_101 : decode cX9_join 101 = .ok (.iconst (-1), 1) := by decide +kernel
theorem dX9_join_102 : decode cX9_join 102 = .ok (.istore 7, 2) := by decide +kernel
theorem dX9_join_104 : decode cX9_join 104 = .ok (.iload 7, 2) := by decide +kernel
theorem dX9_join_106 : decode cX9_join 106 = .ok (.ifCond .lt 30, 3) := by decide +kernel
theorem dX9_join_109 : decode cX9_join 109 = .ok (.aload_n 0, 1) := by decide +kernel
theorem dX9_join_110 : decode cX9_join 110 = .ok (.iload 5, 2) := by decide +kernel
theorem dX9_join_112 : decode cX9_join 112 = .ok (.aload_n 0, 1) := by decide +kernel
theorem dX9_join_113 : decode cX9_join 113 = .ok (.getfield 32, 3) := by decide +kernel
theorem dX9_join_116 : decode cX9_join 116 = .ok (.iload 6, 2) := by decide +kernel
theorem dX9_join_118 : decode cX9_join 118 = .ok (.laload, 1) := by decide +kernel
theorem dX9_join_119 : decode cX9_join 119 = .ok (.aload_n 0, 1) := by decide +kernel
theorem dX9_join_120 : decode cX9_join 120 = .ok (.getfield 36, 3) := by decide +kernel
theorem dX9_join_123 : decode cX9_join 123 = .ok (.iload 6, 2) := by decide +kernel
theorem dX9_join_125 : decode cX9_join 125 = .ok (.iaload, 1) := by decide +kernel
theorem dX9_join_126 : decode cX9_join 126 = .ok (.aload_n 0, 1) := by decide +kernel
theorem dX9_join_127 : decode cX9_join 127 = .ok (.getfield 36, 3) := by decide +kernel
theorem dX9_join_130 : decode cX9_join 130 = .ok (.iload 7, 2) := by decide +kernel
theorem dX9_join_132 : decode cX9_join 132 = .ok (.iaload, 1) := by decide +kernel
theorem dX9_join_133 : decode cX9_join 133 = .ok (.invokevirtual 173, 3) := by decide +kernel
theorem dX9_join_136 : decode cX9_join 136 = .ok (.iinc 6 1, 3) := by decide +kernel
theorem dX9_join_139 : decode cX9_join 139 = .ok (.goto (-89), 3) := by decide +kernel
theorem dX9_join_142 : decode cX9_join 142 = .ok (.iload 5, 2) := by decide +kernel
theorem dX9_join_144 : decode cX9_join 144 = .ok (.istore 6, 2) := by decide +kernel
theorem dX9_join_146 : decode cX9_join 146 = .ok (.iload 6, 2) := by decide +kernel
theorem dX9_join_148 : decode cX9_join 148 = .ok (.aload_n 0, 1) := by decide +kernel
theorem dX9_join_149 : decode cX9_join 149 = .ok (.getfield 170, 3) := by decide +kernel
theorem dX9_join_152 : decode cX9_join 152 = .ok (.if_icmp .ge 28, 3) := by decide +kernel
theorem dX9_join_155 : decode cX9_join 155 = .ok (.aload_n 0, 1) := by decide +kernel
theorem dX9_join_156 : decode cX9_join 156 = .ok (.getfield 45, 3) := by decide +kernel
theorem dX9_join_159 : decode cX9_join 159 = .ok (.aload_n 0, 1) := by decide +kernel
theorem dX9_join_160 : decode cX9_join 160 = .ok (.aload_n 0, 1) := by decide +kernel
theorem dX9_join_161 : decode cX9_join 161 = .ok (.getfield 60, 3) := by decide +kernel
theorem dX9_join_164 : decode cX9_join 164 = .ok (.iload 6, 2) := by decide +kernel
theorem dX9_join_166 : decode cX9_join 166 = .ok (.laload, 1) := by decide +kernel
theorem dX9_join_167 : decode cX9_join 167 = .ok (.iload 4, 2) := by decide +kernel
theorem dX9_join_169 : decode cX9_join 169 = .ok (.invokevirtual 143, 3) := by decide +kernel
theorem dX9_join_172 : decode cX9_join 172 = .ok (.iconst 0, 1) := by decide +kernel
theorem dX9_join_173 : decode cX9_join 173 = .ok (.bastore, 1) := by decide +kernel
theorem dX9_join_174 : decode cX9_join 174 = .ok (.iinc 6 1, 3) := by decide +kernel
theorem dX9_join_177 : decode cX9_join 177 = .ok (.goto (-31), 3) := by decide +kernel
theorem dX9_join_180 : decode cX9_join 180 = .ok (.iconst 0, 1) := by decide +kernel
theorem dX9_join_181 : decode cX9_join 181 = .ok (.istore 6, 2) := by decide +kernel
theorem dX9_join_183 : decode cX9_join 183 = .ok (.iload 6, 2) := by decide +kernel
theorem dX9_join_185 : decode cX9_join 185 = .ok (.aload_n 0, 1) := by decide +kernel
theorem dX9_join_186 : decode cX9_join 186 = .ok (.getfield 131, 3) := by decide +kernel
theorem dX9_join_189 : decode cX9_join 189 = .ok (.if_icmp .ge 39, 3) := by decide +kernel
theorem dX9_join_192 : decode cX9_join 192 = .ok (.aload_n 0, 1) := by decide +kernel
theorem dX9_join_193 : decode cX9_join 193 = .ok (.getfield 16, 3) := by decide +kernel
theorem dX9_join_196 : decode cX9_join 196 = .ok (.iload 6, 2) := by decide +kernel
theorem dX9_join_198 : decode cX9_join 198 = .ok (.aload_n 0, 1) := by decide +kernel
theorem dX9_join_199 : decode cX9_join 199 = .ok (.getfield 16, 3) := by decide +kernel
theorem dX9_join_202 : decode cX9_join 202 = .ok (.iload 6, 2) := by decide +kernel
theorem dX9_join_204 : decode cX9_join 204 = .ok (.iaload, 1) := by decide +kernel
theorem dX9_join_205 : decode cX9_join 205 = .ok (.iload 4, 2) := by decide +kernel
theorem dX9_join_207 : decode cX9_join 207 = .ok (.if_icmp .ne 7, 3) := by decide +kernel
theorem dX9_join_210 : decode cX9_join 210 = .ok (.iload_n 3, 1) := by decide +kernel
theorem dX9_join_211 : decode cX9_join 211 = .ok (.goto 10, 3) := by decide +kernel
theorem dX9_join_214 : decode cX9_join 214 = .ok (.aload_n 0, 1) := by decide +kernel
theorem dX9_join_215 : decode cX9_join 215 = .ok (.getfield 16, 3) := by decide +kernel
theorem dX9_join_218 : decode cX9_join 218 = .ok (.iload 6, 2) := by decide +kernel
theorem dX9_join_220 : decode cX9_join 220 = .ok (.iaload, 1) := by decide +kernel
theorem dX9_join_221 : decode cX9_join 221 = .ok (.iastore, 1) := by decide +kernel
theorem dX9_join_222 : decode cX9_join 222 = .ok (.iinc 6 1, 3) := by decide +kernel
theorem dX9_join_225 : decode cX9_join 225 = .ok (.goto (-42), 3) := by decide +kernel
theorem dX9_join_228 : decode cX9_join 228 = .ok (.aload_n 0, 1) := by decide +kernel
theorem dX9_join_229 : decode cX9_join 229 = .ok (.getfield 170, 3) := by decide +kernel
theorem dX9_join_232 : decode cX9_join 232 = .ok (.iload 5, 2) := by decide +kernel
theorem dX9_join_234 : decode cX9_join 234 = .ok (.isub, 1) := by decide +kernel
theorem dX9_join_235 : decode cX9_join 235 = .ok (.ireturn, 1) := by decide +kernel
theorem dX9_insert_0 : decode cX9_insert 0 = .ok (.aload_n 0, 1) := by decide +kernel
theorem dX9_insert_1 : decode cX9_insert 1 = .ok (.getfield 170, 3) := by decide +kernel
theorem dX9_insert_4 : decode cX9_insert 4 = .ok (.istore 6, 2) := by decide +kernel
theorem dX9_insert_6 : decode cX9_insert 6 = .ok (.iload 6, 2) := by decide +kernel
theorem dX9_insert_8 : decode cX9_insert 8 = .ok (.iload_n 1, 1) := by decide +kernel
theorem dX9_insert_9 : decode cX9_insert 9 = .ok (.if_icmp .le 71, 3) := by decide +kernel
theorem dX9_insert_12 : decode cX9_insert 12 = .ok (.aload_n 0, 1) := by decide +kernel
theorem dX9_insert_13 : decode cX9_insert 13 = .ok (.getfield 60, 3) := by decide +kernel
theorem dX9_insert_16 : decode cX9_insert 16 = .ok (.iload 6, 2) := by decide +kernel
theorem dX9_insert_18 : decode cX9_insert 18 = .ok (.iconst 1, 1) := by decide +kernel
theorem dX9_insert_19 : decode cX9_insert 19 = .ok (.isub, 1) := by decide +kernel
theorem dX9_insert_20 : decode cX9_insert 20 = .ok (.laload, 1) := by decide +kernel
theorem dX9_insert_21 : decode cX9_insert 21 = .ok (.lload_n 2, 1) := by decide +kernel
theorem dX9_insert_22 : decode cX9_insert 22 = .ok (.lcmp, 1) := by decide +kernel
theorem dX9_insert_23 : decode cX9_insert 23 = .ok (.ifCond .le 57, 3) := by decide +kernel
theorem dX9_insert_26 : decode cX9_insert 26 = .ok (.aload_n 0, 1) := by decide +kernel
theorem dX9_insert_27 : decode cX9_insert 27 = .ok (.getfield 60, 3) := by decide +kernel
theorem dX9_insert_30 : decode cX9_insert 30 = .ok (.iload 6, 2) := by decide +kernel
theorem dX9_insert_32 : decode cX9_insert 32 = .ok (.aload_n 0, 1) := by decide +kernel
theorem dX9_insert_33 : decode cX9_insert 33 = .ok (.getfield 60, 3) := by decide +kernel
theorem dX9_insert_36 : decode cX9_insert 36 = .ok (.iload 6, 2) := by decide +kernel
theorem dX9_insert_38 : decode cX9_insert 38 = .ok (.iconst 1, 1) := by decide +kernel
theorem dX9_insert_39 : decode cX9_insert 39 = .ok (.isub, 1) := by decide +kernel
theorem dX9_insert_40 : decode cX9_insert 40 = .ok (.laload, 1) := by decide +kernel
theorem dX9_insert_41 : decode cX9_insert 41 = .ok (.lastore, 1) := by decide +kernel
theorem dX9_insert_42 : decode cX9_insert 42 = .ok (.aload_n 0, 1) := by decide +kernel
theorem dX9_insert_43 : decode cX9_insert 43 = .ok (.getfield 63, 3) := by decide +kernel
theorem dX9_insert_46 : decode cX9_insert 46 = .ok (.iload 6, 2) := by decide +kernel
theorem dX9_insert_48 : decode cX9_insert 48 = .ok (.aload_n 0, 1) := by decide +kernel
theorem dX9_insert_49 : decode cX9_insert 49 = .ok (.getfield 63, 3) := by decide +kernel
theorem dX9_insert_52 : decode cX9_insert 52 = .ok (.iload 6, 2) := by decide +kernel
theorem dX9_insert_54 : decode cX9_insert 54 = .ok (.iconst 1, 1) := by decide +kernel
theorem dX9_insert_55 : decode cX9_insert 55 = .ok (.isub, 1) := by decide +kernel
theorem dX9_insert_56 : decode cX9_insert 56 = .ok (.iaload, 1) := by decide +kernel
theorem dX9_insert_57 : decode cX9_insert 57 = .ok (.iastore, 1) := by decide +kernel
theorem dX9_insert_58 : decode cX9_insert 58 = .ok (.aload_n 0, 1) := by decide +kernel
theorem dX9_insert_59 : decode cX9_insert 59 = .ok (.getfield 66, 3) := by decide +kernel
theorem dX9_insert_62 : decode cX9_insert 62 = .ok (.iload 6, 2) := by decide +kernel
theorem dX9_insert_64 : decode cX9_insert 64 = .ok (.aload_n 0, 1) := by decide +kernel
theorem dX9_insert_65 : decode cX9_insert 65 = .ok (.getfield 66, 3) := by decide +kernel
theorem dX9_insert_68 : decode cX9_insert 68 = .ok (.iload 6, 2) := by decide +kernel
theorem dX9_insert_70 : decode cX9_insert 70 = .ok (.iconst 1, 1) := by decide +kernel
theorem dX9_insert_71 : decode cX9_insert 71 = .ok (.isub, 1) := by decide +kernel
theorem dX9_insert_72 : decode cX9_insert 72 = .ok (.iaload, 1) := by decide +kernel
theorem dX9_insert_73 : decode cX9_insert 73 = .ok (.iastore, 1) := by decide +kernel
theorem dX9_insert_74 : decode cX9_insert 74 = .ok (.iinc 6 (-1), 3) := by decide +kernel
theorem dX9_insert_77 : decode cX9_insert 77 = .ok (.goto (-71), 3) := by decide +kernel
theorem dX9_insert_80 : decode cX9_insert 80 = .ok (.aload_n 0, 1) := by decide +kernel
theorem dX9_insert_81 : decode cX9_insert 81 = .ok (.getfield 60, 3) := by decide +kernel
theorem dX9_insert_84 : decode cX9_insert 84 = .ok (.iload 6, 2) := by decide +kernel
theorem dX9_insert_86 : decode cX9_insert 86 = .ok (.lload_n 2, 1) := by decide +kernel
theorem dX9_insert_87 : decode cX9_insert 87 = .ok (.lastore, 1) := by decide +kernel
theorem dX9_insert_88 : decode cX9_insert 88 = .ok (.aload_n 0, 1) := by decide +kernel
theorem dX9_insert_89 : decode cX9_insert 89 = .ok (.getfield 63, 3) := by decide +kernel
theorem dX9_insert_92 : decode cX9_insert 92 = .ok (.iload 6, 2) := by decide +kernel
theorem dX9_insert_94 : decode cX9_insert 94 = .ok (.iload 4, 2) := by decide +kernel
theorem dX9_insert_96 : decode cX9_insert 96 = .ok (.iastore, 1) := by decide +kernel
theorem dX9_insert_97 : decode cX9_insert 97 = .ok (.aload_n 0, 1) := by decide +kernel
theorem dX9_insert_98 : decode cX9_insert 98 = .ok (.getfield 66, 3) := by decide +kernel
theorem dX9_insert_101 : decode cX9_insert 101 = .ok (.iload 6, 2) := by decide +kernel
theorem dX9_insert_103 : decode cX9_insert 103 = .ok (.iload 5, 2) := by decide +kernel
theorem dX9_insert_105 : decode cX9_insert 105 = .ok (.iastore, 1) := by decide +kernel
theorem dX9_insert_106 : decode cX9_insert 106 = .ok (.aload_n 0, 1) := by decide +kernel
theorem dX9_insert_107 : decode cX9_insert 107 = .ok (.dup, 1) := by decide +kernel
theorem dX9_insert_108 : decode cX9_insert 108 = .ok (.getfield 170, 3) := by decide +kernel
theorem dX9_insert_111 : decode cX9_insert 111 = .ok (.iconst 1, 1) := by decide +kernel
theorem dX9_insert_112 : decode cX9_insert 112 = .ok (.iadd, 1) := by decide +kernel
theorem dX9_insert_113 : decode cX9_insert 113 = .ok (.putfield 170, 3) := by decide +kernel
theorem dX9_insert_116 : decode cX9_insert 116 = .ok (.return_, 1) := by decide +kernel
theorem dX9_decimals_0 : decode cX9_decimals 0 = .ok (.iconst 1, 1) := by decide +kernel
theorem dX9_decimals_1 : decode cX9_decimals 1 = .ok (.istore_n 2, 1) := by decide +kernel
theorem dX9_decimals_2 : decode cX9_decimals 2 = .ok (.lload_n 0, 1) := by decide +kernel
theorem dX9_decimals_3 : decode cX9_decimals 3 = .ok (.lstore_n 3, 1) := by decide +kernel
theorem dX9_decimals_4 : decode cX9_decimals 4 = .ok (.lload_n 3, 1) := by decide +kernel
theorem dX9_decimals_5 : decode cX9_decimals 5 = .ok (.ldc2_w 177, 3) := by decide +kernel
theorem dX9_decimals_8 : decode cX9_decimals 8 = .ok (.lcmp, 1) := by decide +kernel
theorem dX9_decimals_9 : decode cX9_decimals 9 = .ok (.ifCond .le 15, 3) := by decide +kernel
theorem dX9_decimals_12 : decode cX9_decimals 12 = .ok (.iinc 2 1, 3) := by decide +kernel
theorem dX9_decimals_15 : decode cX9_decimals 15 = .ok (.lload_n 3, 1) := by decide +kernel
theorem dX9_decimals_16 : decode cX9_decimals 16 = .ok (.ldc2_w 115, 3) := by decide +kernel
theorem dX9_decimals_19 : decode cX9_decimals 19 = .ok (.ldiv, 1) := by decide +kernel
theorem dX9_decimals_20 : decode cX9_decimals 20 = .ok (.lstore_n 3, 1) := by decide +kernel
theorem dX9_decimals_21 : decode cX9_decimals 21 = .ok (.goto (-17), 3) := by decide +kernel
theorem dX9_decimals_24 : decode cX9_decimals 24 = .ok (.iload_n 2, 1) := by decide +kernel
theorem dX9_decimals_25 : decode cX9_decimals 25 = .ok (.ireturn, 1) := by decide +kernel
set_option maxRecDepth 20000 in
theorem ggX9_double2_X9_decimals : GoodIn wsX9_double2 wsX9_decimals := goodIn_r _ [10, 11, 6] (by decide +kernel) (by decide +kernel)
set_option maxRecDepth 20000 in
theorem gX9_double2_X9_decimals : GoodIn wsX9_double2 (va_wsS RX9 179 yX9_decimals wsX9_decimals) := goodIn_app (goodIn_of _ (by decide +kernel)) ggX9_double2_X9_decimals
theorem dX9_double2_0 : decode cX9_double2 0 = .ok (.aload_n 0, 1) := by decide +kernel
theorem dX9_double2_1 : decode cX9_double2 1 = .ok (.iconst 0, 1) := by decide +kernel
theorem dX9_double2_2 : decode cX9_double2 2 = .ok (.putfield 81, 3) := by decide +kernel
theorem dX9_double2_5 : decode cX9_double2 5 = .ok (.iload_n 1, 1) := by decide +kernel
theorem dX9_double2_6 : decode cX9_double2 6 = .ok (.ifCond .lt 21, 3) := by decide +kernel
theorem dX9_double2_9 : decode cX9_double2 9 = .ok (.iload_n 1, 1) := by decide +kernel
theorem dX9_double2_10 : decode cX9_double2 10 = .ok (.aload_n 0, 1) := by decide +kernel
theorem dX9_double2_11 : decode cX9_double2 11 = .ok (.getfield 170, 3) := by decide +kernel
theorem dX9_double2_14 : decode cX9_double2 14 = .ok (.if_icmp .ge 13, 3) := by decide +kernel
theorem dX9_double2_17 : decode cX9_double2 17 = .ok (.iload_n 2, 1) := by decide +kernel
theorem dX9_double2_18 : decode cX9_double2 18 = .ok (.ifCond .lt 9, 3) := by decide +kernel
theorem dX9_double2_21 : decode cX9_double2 21 = .ok (.iload_n 2, 1) := by decide +kernel
theorem dX9_double2_22 : decode cX9_double2 22 = .ok (.bipush 20, 2) := by decide +kernel
theorem dX9_double2_24 : decode cX9_double2 24 = .ok (.if_icmp .le 5, 3) := by decide +kernel
theorem dX9_double2_27 : decode cX9_double2 27 = .ok (.iconst (-1), 1) := by decide +kernel
theorem dX9_double2_28 : decode cX9_double2 28 = .ok (.ireturn, 1) := by decide +kernel
theorem dX9_double2_29 : decode cX9_double2 29 = .ok (.aload_n 0, 1) := by decide +kernel
theorem dX9_double2_30 : decode cX9_double2 30 = .ok (.getfield 60, 3) := by decide +kernel
theorem dX9_double2_33 : decode cX9_double2 33 = .ok (.iload_n 1, 1) := by decide +kernel
theorem dX9_double2_34 : decode cX9_double2 34 = .ok (.laload, 1) := by decide +kernel
theorem dX9_double2_35 : decode cX9_double2 35 = .ok (.invokestatic 179, 3) := by decide +kernel
theorem dX9_double2_38 : decode cX9_double2 38 = .ok (.istore_n 3, 1) := by decide +kernel
theorem dX9_double2_39 : decode cX9_double2 39 = .ok (.iload_n 2, 1) := by decide +kernel
theorem dX9_double2_40 : decode cX9_double2 40 = .ok (.iconst 3, 1) := by decide +kernel
theorem dX9_double2_41 : decode cX9_double2 41 = .ok (.if_icmp .ge 32, 3) := by decide +kernel
theorem dX9_double2_44 : decode cX9_double2 44 = .ok (.iload_n 2, 1) := by decide +kernel
theorem dX9_double2_45 : decode cX9_double2 45 = .ok (.ifCond .ne 12, 3) := by decide +kernel
theorem dX9_double2_48 : decode cX9_double2 48 = .ok (.aload_n 0, 1) := by decide +kernel
theorem dX9_double2_49 : decode cX9_double2 49 = .ok (.getfield 63, 3) := by decide +kernel
theorem dX9_double2_52 : decode cX9_double2 52 = .ok (.iload_n 1, 1) := by decide +kernel
theorem dX9_double2_53 : decode cX9_double2 53 = .ok (.iaload, 1) := by decide +kernel
theorem dX9_double2_54 : decode cX9_double2 54 = .ok (.goto 18, 3) := by decide +kernel
theorem dX9_double2_57 : decode cX9_double2 57 = .ok (.iload_n 2, 1) := by decide +kernel
theorem dX9_double2_58 : decode cX9_double2 58 = .ok (.iconst 1, 1) := by decide +kernel
theorem dX9_double2_59 : decode cX9_double2 59 = .ok (.if_icmp .ne 12, 3) := by decide +kernel
theorem dX9_double2_62 : decode cX9_double2 62 = .ok (.aload_n 0, 1) := by decide +kernel
theorem dX9_double2_63 : decode cX9_double2 63 = .ok (.getfield 66, 3) := by decide +kernel
theorem dX9_double2_66 : decode cX9_double2 66 = .ok (.iload_n 1, 1) := by decide +kernel
theorem dX9_double2_67 : decode cX9_double2 67 = .ok (.iaload, 1) := by decide +kernel
theorem dX9_double2_68 : decode cX9_double2 68 = .ok (.goto 4, 3) := by decide +kernel
theorem dX9_double2_71 : decode cX9_double2 71 = .ok (.iload_n 3, 1) := by decide +kernel
theorem dX9_double2_72 : decode cX9_double2 72 = .ok (.ireturn, 1) := by decide +kernel
theorem dX9_double2_73 : decode cX9_double2 73 = .ok (.iload_n 2, 1) := by decide +kernel
theorem dX9_double2_74 : decode cX9_double2 74 = .ok (.iconst 3, 1) := by decide +kernel
theorem dX9_double2_75 : decode cX9_double2 75 = .ok (.isub, 1) := by decide +kernel
theorem dX9_double2_76 : decode cX9_double2 76 = .ok (.iload_n 3, 1) := by decide +kernel
theorem dX9_double2_77 : decode cX9_double2 77 = .ok (.if_icmp .lt 5, 3) := by decide +kernel
theorem dX9_double2_80 : decode cX9_double2 80 = .ok (.iconst (-1), 1) := by decide +kernel
theorem dX9_double2_81 : decode cX9_double2 81 = .ok (.ireturn, 1) := by decide +kernel
theorem dX9_double2_82 : decode cX9_double2 82 = .ok (.aload_n 0, 1) := by decide +kernel
theorem dX9_double2_83 : decode cX9_double2 83 = .ok (.getfield 60, 3) := by decide +kernel
theorem dX9_double2_86 : decode cX9_double2 86 = .ok (.iload_n 1, 1) := by decide +kernel
theorem dX9_double2_87 : decode cX9_double2 87 = .ok (.laload, 1) := by decide +kernel
theorem dX9_double2_88 : decode cX9_double2 88 = .ok (.lstore 4, 2) := by decide +kernel
theorem dX9_double2_90 : decode cX9_double2 90 = .ok (.iload_n 3, 1) := by decide +kernel
theorem dX9_double2_91 : decode cX9_double2 91 = .ok (.iconst 1, 1) := by decide +kernel
theorem dX9_double2_92 : decode cX9_double2 92 = .ok (.isub, 1) := by decide +kernel
theorem dX9_double2_93 : decode cX9_double2 93 = .ok (.istore 6, 2) := by decide +kernel
theorem dX9_double2_95 : decode cX9_double2 95 = .ok (.iload 6, 2) := by decide +kernel
theorem dX9_double2_97 : decode cX9_double2 97 = .ok (.iload_n 2, 1) := by decide +kernel
theorem dX9_double2_98 : decode cX9_double2 98 = .ok (.iconst 3, 1) := by decide +kernel
theorem dX9_double2_99 : decode cX9_double2 99 = .ok (.isub, 1) := by decide +kernel
theorem dX9_double2_100 : decode cX9_double2 100 = .ok (.if_icmp .le 17, 3) := by decide +kernel
theorem dX9_double2_103 : decode cX9_double2 103 = .ok (.lload 4, 2) := by decide +kernel
theorem dX9_double2_105 : decode cX9_double2 105 = .ok (.ldc2_w 115, 3) := by decide +kernel
theorem dX9_double2_108 : decode cX9_double2 108 = .ok (.ldiv, 1) := by decide +kernel
theorem dX9_double2_109 : decode cX9_double2 109 = .ok (.lstore 4, 2) := by decide +kernel
theorem dX9_double2_111 : decode cX9_double2 111 = .ok (.iinc 6 (-1), 3) := by decide +kernel
theorem dX9_double2_114 : decode cX9_double2 114 = .ok (.goto (-19), 3) := by decide +kernel
theorem dX9_double2_117 : decode cX9_double2 117 = .ok (.lload 4, 2) := by decide +kernel
theorem dX9_double2_119 : decode cX9_double2 119 = .ok (.ldc2_w 115, 3) := by decide +kernel
theorem dX9_double2_122 : decode cX9_double2 122 = .ok (.lrem, 1) := by decide +kernel
theorem dX9_double2_123 : decode cX9_double2 123 = .ok (.l2i, 1) := by decide +kernel
theorem dX9_double2_124 : decode cX9_double2 124 = .ok (.ireturn, 1) := by decide +kernel
set_option maxRecDepth 20000 in
theorem ggX9_coupon_X9_isMachine : GoodIn wsX9_coupon wsX9_isMachine := goodIn_r _ [11, 12, 13, 14, 15, 16, 17, 18, 19, 20, 21, 22, 23, 24, 25, 26, 27, 28, 29, 30, 31, 32, 33, 34, 35, 36, 37, 38, 39, 40, 41, 42, 43, 44, 45] (by decide +kernel) (by decide +kernel)
set_option maxRecDepth 20000 in
theorem gX9_coupon_X9_isMachine : GoodIn wsX9_coupon (wsV RX9 136 RX9 yX9_isMachine wsX9_isMachine) := goodIn_app (goodIn_of _ (by decide +kernel)) ggX9_coupon_X9_isMachine
theorem dX9_coupon_0 : decode cX9_coupon 0 = .ok (.aload_n 0, 1) := by decide +kernel
theorem dX9_coupon_1 : decode cX9_coupon 1 = .ok (.iload_n 1, 1) := by decide +kernel
theorem dX9_coupon_2 : decode cX9_coupon 2 = .ok (.invokevirtual 136, 3) := by decide +kernel
theorem dX9_coupon_5 : decode cX9_coupon 5 = .ok (.ifCond .eq 12, 3) := by decide +kernel
theorem dX9_coupon_8 : decode cX9_coupon 8 = .ok (.aload_n 0, 1) := by decide +kernel
theorem dX9_coupon_9 : decode cX9_coupon 9 = .ok (.getfield 23, 3) := by decide +kernel
theorem dX9_coupon_12 : decode cX9_coupon 12 = .ok (.iload_n 1, 1) := by decide +kernel
theorem dX9_coupon_13 : decode cX9_coupon 13 = .ok (.baload, 1) := by decide +kernel
theorem dX9_coupon_14 : decode cX9_coupon 14 = .ok (.ifCond .eq 5, 3) := by decide +kernel
theorem dX9_coupon_17 : decode cX9_coupon 17 = .ok (.iconst (-1), 1) := by decide +kernel
theorem dX9_coupon_18 : decode cX9_coupon 18 = .ok (.ireturn, 1) := by decide +kernel
theorem dX9_coupon_19 : decode cX9_coupon 19 = .ok (.iconst 0, 1) := by decide +kernel
theorem dX9_coupon_20 : decode cX9_coupon 20 = .ok (.istore_n 2, 1) := by decide +kernel
theorem dX9_coupon_21 : decode cX9_coupon 21 = .ok (.iconst 0, 1) := by decide +kernel
theorem dX9_coupon_22 : decode cX9_coupon 22 = .ok (.istore_n 3, 1) := by decide +kernel
theorem dX9_coupon_23 : decode cX9_coupon 23 = .ok (.iload_n 3, 1) := by decide +kernel
theorem dX9_coupon_24 : decode cX9_coupon 24 = .ok (.aload_n 0, 1) := by decide +kernel
theorem dX9_coupon_25 : decode cX9_coupon 25 = .ok (.getfield 140, 3) := by decide +kernel
theorem dX9_coupon_28 : decode cX9_coupon 28 = .ok (.if_icmp .ge 38, 3) := by decide +kernel
theorem dX9_coupon_31 : decode cX9_coupon 31 = .ok (.aload_n 0, 1) := by decide +kernel
theorem dX9_coupon_32 : decode cX9_coupon 32 = .ok (.getfield 36, 3) := by decide +kernel
theorem dX9_coupon_35 : decode cX9_coupon 35 = .ok (.iload_n 3, 1) := by decide +kernel
theorem dX9_coupon_36 : decode cX9_coupon 36 = .ok (.iaload, 1) := by decide +kernel
theorem dX9_coupon_37 : decode cX9_coupon 37 = .ok (.iload_n 1, 1) := by decide +kernel
theorem dX9_coupon_38 : decode cX9_coupon 38 = .ok (.if_icmp .ne 22, 3) := by decide +kernel
theorem dX9_coupon_41 : decode cX9_coupon 41 = .ok (.aload_n 0, 1) := by decide +kernel
theorem dX9_coupon_42 : decode cX9_coupon 42 = .ok (.getfield 48, 3) := by decide +kernel
theorem dX9_coupon_45 : decode cX9_coupon 45 = .ok (.iload_n 3, 1) := by decide +kernel
theorem dX9_coupon_46 : decode cX9_coupon 46 = .ok (.baload, 1) := by decide +kernel
theorem dX9_coupon_47 : decode cX9_coupon 47 = .ok (.ifCond .ne 13, 3) := by decide +kernel
theorem dX9_coupon_50 : decode cX9_coupon 50 = .ok (.aload_n 0, 1) := by decide +kernel
theorem dX9_coupon_51 : decode cX9_coupon 51 = .ok (.getfield 48, 3) := by decide +kernel
theorem dX9_coupon_54 : decode cX9_coupon 54 = .ok (.iload_n 3, 1) := by decide +kernel
theorem dX9_coupon_55 : decode cX9_coupon 55 = .ok (.iconst 1, 1) := by decide +kernel
theorem dX9_coupon_56 : decode cX9_coupon 56 = .ok (.bastore, 1) := by decide +kernel
theorem dX9_coupon_57 : decode cX9_coupon 57 = .ok (.iinc 2 1, 3) := by decide +kernel
theorem dX9_coupon_60 : decode cX9_coupon 60 = .ok (.iinc 3 1, 3) := by decide +kernel
theorem dX9_coupon_63 : decode cX9_coupon 63 = .ok (.goto (-40), 3) := by decide +kernel
theorem dX9_coupon_66 : decode cX9_coupon 66 = .ok (.iload_n 2, 1) := by decide +kernel
theorem dX9_coupon_67 : decode cX9_coupon 67 = .ok (.ifCond .ne 5, 3) := by decide +kernel
theorem dX9_coupon_70 : decode cX9_coupon 70 = .ok (.iconst (-1), 1) := by decide +kernel
theorem dX9_coupon_71 : decode cX9_coupon 71 = .ok (.ireturn, 1) := by decide +kernel
theorem dX9_coupon_72 : decode cX9_coupon 72 = .ok (.aload_n 0, 1) := by decide +kernel
theorem dX9_coupon_73 : decode cX9_coupon 73 = .ok (.getfield 69, 3) := by decide +kernel
theorem dX9_coupon_76 : decode cX9_coupon 76 = .ok (.aload_n 0, 1) := by decide +kernel
theorem dX9_coupon_77 : decode cX9_coupon 77 = .ok (.getfield 183, 3) := by decide +kernel
theorem dX9_coupon_80 : decode cX9_coupon 80 = .ok (.bipush 25, 2) := by decide +kernel
theorem dX9_coupon_82 : decode cX9_coupon 82 = .ok (.iload_n 2, 1) := by decide +kernel
theorem dX9_coupon_83 : decode cX9_coupon 83 = .ok (.imul, 1) := by decide +kernel
theorem dX9_coupon_84 : decode cX9_coupon 84 = .ok (.iastore, 1) := by decide +kernel
theorem dX9_coupon_85 : decode cX9_coupon 85 = .ok (.aload_n 0, 1) := by decide +kernel
theorem dX9_coupon_86 : decode cX9_coupon 86 = .ok (.dup, 1) := by decide +kernel
theorem dX9_coupon_87 : decode cX9_coupon 87 = .ok (.getfield 183, 3) := by decide +kernel
theorem dX9_coupon_90 : decode cX9_coupon 90 = .ok (.iconst 1, 1) := by decide +kernel
theorem dX9_coupon_91 : decode cX9_coupon 91 = .ok (.iadd, 1) := by decide +kernel
theorem dX9_coupon_92 : decode cX9_coupon 92 = .ok (.putfield 183, 3) := by decide +kernel
theorem dX9_coupon_95 : decode cX9_coupon 95 = .ok (.aload_n 0, 1) := by decide +kernel
theorem dX9_coupon_96 : decode cX9_coupon 96 = .ok (.getfield 183, 3) := by decide +kernel
theorem dX9_coupon_99 : decode cX9_coupon 99 = .ok (.iconst 1, 1) := by decide +kernel
theorem dX9_coupon_100 : decode cX9_coupon 100 = .ok (.isub, 1) := by decide +kernel
theorem dX9_coupon_101 : decode cX9_coupon 101 = .ok (.ireturn, 1) := by decide +kernel
set_option maxRecDepth 20000 in
theorem ggX9_redeem_X9_isIn : GoodIn wsX9_redeem wsX9_isIn := goodIn_r _ [10] (by decide +kernel) (by decide +kernel)
set_option maxRecDepth 20000 in
theorem gX9_redeem_X9_isIn : GoodIn wsX9_redeem (va_wsS RX9 87 yX9_isIn wsX9_isIn) := goodIn_app (goodIn_of _ (by decide +kernel)) ggX9_redeem_X9_isIn
theorem dX9_redeem_0 : decode cX9_redeem 0 = .ok (.aload_n 0, 1) := by decide +kernel
theorem dX9_redeem_1 : decode cX9_redeem 1 = .ok (.iconst 0, 1) := by decide +kernel
theorem dX9_redeem_2 : decode cX9_redeem 2 = .ok (.putfield 81, 3) := by decide +kernel
theorem dX9_redeem_5 : decode cX9_redeem 5 = .ok (.iload_n 1, 1) := by decide +kernel
theorem dX9_redeem_6 : decode cX9_redeem 6 = .ok (.ifCond .lt 31, 3) := by decide +kernel
theorem dX9_redeem_9 : decode cX9_redeem 9 = .ok (.iload_n 1, 1) := by decide +kernel
theorem dX9_redeem_10 : decode cX9_redeem 10 = .ok (.aload_n 0, 1) := by decide +kernel
theorem dX9_redeem_11 : decode cX9_redeem 11 = .ok (.getfield 183, 3) := by decide +kernel
theorem dX9_redeem_14 : decode cX9_redeem 14 = .ok (.if_icmp .ge 23, 3) := by decide +kernel
theorem dX9_redeem_17 : decode cX9_redeem 17 = .ok (.iload_n 2, 1) := by decide +kernel
theorem dX9_redeem_18 : decode cX9_redeem 18 = .ok (.i2l, 1) := by decide +kernel
theorem dX9_redeem_19 : decode cX9_redeem 19 = .ok (.ldc2_w 186, 3) := by decide +kernel
theorem dX9_redeem_22 : decode cX9_redeem 22 = .ok (.invokestatic 87, 3) := by decide +kernel
theorem dX9_redeem_25 : decode cX9_redeem 25 = .ok (.ifCond .eq 12, 3) := by decide +kernel
theorem dX9_redeem_28 : decode cX9_redeem 28 = .ok (.aload_n 0, 1) := by decide +kernel
theorem dX9_redeem_29 : decode cX9_redeem 29 = .ok (.getfield 72, 3) := by decide +kernel
theorem dX9_redeem_32 : decode cX9_redeem 32 = .ok (.iload_n 1, 1) := by decide +kernel
theorem dX9_redeem_33 : decode cX9_redeem 33 = .ok (.baload, 1) := by decide +kernel
theorem dX9_redeem_34 : decode cX9_redeem 34 = .ok (.ifCond .eq 5, 3) := by decide +kernel
theorem dX9_redeem_37 : decode cX9_redeem 37 = .ok (.iconst 0, 1) := by decide +kernel
theorem dX9_redeem_38 : decode cX9_redeem 38 = .ok (.ireturn, 1) := by decide +kernel
theorem dX9_redeem_39 : decode cX9_redeem 39 = .ok (.aload_n 0, 1) := by decide +kernel
theorem dX9_redeem_40 : decode cX9_redeem 40 = .ok (.getfield 72, 3) := by decide +kernel
theorem dX9_redeem_43 : decode cX9_redeem 43 = .ok (.iload_n 1, 1) := by decide +kernel
theorem dX9_redeem_44 : decode cX9_redeem 44 = .ok (.iconst 1, 1) := by decide +kernel
theorem dX9_redeem_45 : decode cX9_redeem 45 = .ok (.bastore, 1) := by decide +kernel
theorem dX9_redeem_46 : decode cX9_redeem 46 = .ok (.aload_n 0, 1) := by decide +kernel
theorem dX9_redeem_47 : decode cX9_redeem 47 = .ok (.getfield 75, 3) := by decide +kernel
theorem dX9_redeem_50 : decode cX9_redeem 50 = .ok (.iload_n 2, 1) := by decide +kernel
theorem dX9_redeem_51 : decode cX9_redeem 51 = .ok (.dup2, 1) := by decide +kernel
theorem dX9_redeem_52 : decode cX9_redeem 52 = .ok (.laload, 1) := by decide +kernel
theorem dX9_redeem_53 : decode cX9_redeem 53 = .ok (.aload_n 0, 1) := by decide +kernel
theorem dX9_redeem_54 : decode cX9_redeem 54 = .ok (.getfield 69, 3) := by decide +kernel
theorem dX9_redeem_57 : decode cX9_redeem 57 = .ok (.iload_n 1, 1) := by decide +kernel
theorem dX9_redeem_58 : decode cX9_redeem 58 = .ok (.iaload, 1) := by decide +kernel
theorem dX9_redeem_59 : decode cX9_redeem 59 = .ok (.i2l, 1) := by decide +kernel
theorem dX9_redeem_60 : decode cX9_redeem 60 = .ok (.ladd, 1) := by decide +kernel
theorem dX9_redeem_61 : decode cX9_redeem 61 = .ok (.lastore, 1) := by decide +kernel
theorem dX9_redeem_62 : decode cX9_redeem 62 = .ok (.iconst 1, 1) := by decide +kernel
theorem dX9_redeem_63 : decode cX9_redeem 63 = .ok (.ireturn, 1) := by decide +kernel
set_option maxRecDepth 20000 in
theorem ggX9_shop_X9_isIn : GoodIn wsX9_shop wsX9_isIn := goodIn_r _ [8] (by decide +kernel) (by decide +kernel)
set_option maxRecDepth 20000 in
theorem gX9_shop_X9_isIn : GoodIn wsX9_shop (va_wsS RX9 87 yX9_isIn wsX9_isIn) := goodIn_app (goodIn_of _ (by decide +kernel)) ggX9_shop_X9_isIn
theorem dX9_shop_0 : decode cX9_shop 0 = .ok (.aload_n 0, 1) := by decide +kernel
theorem dX9_shop_1 : decode cX9_shop 1 = .ok (.iconst 0, 1) := by decide +kernel
theorem dX9_shop_2 : decode cX9_shop 2 = .ok (.putfield 81, 3) := by decide +kernel
theorem dX9_shop_5 : decode cX9_shop 5 = .ok (.iload_n 1, 1) := by decide +kernel
theorem dX9_shop_6 : decode cX9_shop 6 = .ok (.i2l, 1) := by decide +kernel
theorem dX9_shop_7 : decode cX9_shop 7 = .ok (.ldc2_w 186, 3) := by decide +kernel
theorem dX9_shop_10 : decode cX9_shop 10 = .ok (.invokestatic 87, 3) := by decide +kernel
theorem dX9_shop_13 : decode cX9_shop 13 = .ok (.ifCond .eq 12, 3) := by decide +kernel
theorem dX9_shop_16 : decode cX9_shop 16 = .ok (.aload_n 0, 1) := by decide +kernel
theorem dX9_shop_17 : decode cX9_shop 17 = .ok (.getfield 75, 3) := by decide +kernel
theorem dX9_shop_20 : decode cX9_shop 20 = .ok (.iload_n 1, 1) := by decide +kernel
theorem dX9_shop_21 : decode cX9_shop 21 = .ok (.laload, 1) := by decide +kernel
theorem dX9_shop_22 : decode cX9_shop 22 = .ok (.goto 6, 3) := by decide +kernel
theorem dX9_shop_25 : decode cX9_shop 25 = .ok (.ldc2_w 168, 3) := by decide +kernel
theorem dX9_shop_28 : decode cX9_shop 28 = .ok (.lreturn, 1) := by decide +kernel
set_option maxRecDepth 20000 in
theorem ggX9_clear_X9_isIn : GoodIn wsX9_clear wsX9_isIn := goodIn_r _ [14] (by decide +kernel) (by decide +kernel)
set_option maxRecDepth 20000 in
theorem gX9_clear_X9_isIn : GoodIn wsX9_clear (va_wsS RX9 87 yX9_isIn wsX9_isIn) := goodIn_app (goodIn_of _ (by decide +kernel)) ggX9_clear_X9_isIn
theorem dX9_clear_0 : decode cX9_clear 0 = .ok (.aload_n 0, 1) := by decide +kernel
theorem dX9_clear_1 : decode cX9_clear 1 = .ok (.iconst 0, 1) := by decide +kernel
theorem dX9_clear_2 : decode cX9_clear 2 = .ok (.putfield 81, 3) := by decide +kernel
theorem dX9_clear_5 : decode cX9_clear 5 = .ok (.iload_n 1, 1) := by decide +kernel
theorem dX9_clear_6 : decode cX9_clear 6 = .ok (.i2l, 1) := by decide +kernel
theorem dX9_clear_7 : decode cX9_clear 7 = .ok (.ldc2_w 188, 3) := by decide +kernel
theorem dX9_clear_10 : decode cX9_clear 10 = .ok (.invokestatic 87, 3) := by decide +kernel
theorem dX9_clear_13 : decode cX9_clear 13 = .ok (.ifCond .ne 5, 3) := by decide +kernel
theorem dX9_clear_16 : decode cX9_clear 16 = .ok (.iconst (-1), 1) := by decide +kernel
theorem dX9_clear_17 : decode cX9_clear 17 = .ok (.ireturn, 1) := by decide +kernel
theorem dX9_clear_18 : decode cX9_clear 18 = .ok (.iconst 0, 1) := by decide +kernel
theorem dX9_clear_19 : decode cX9_clear 19 = .ok (.istore_n 2, 1) := by decide +kernel
theorem dX9_clear_20 : decode cX9_clear 20 = .ok (.iconst 0, 1) := by decide +kernel
theorem dX9_clear_21 : decode cX9_clear 21 = .ok (.istore_n 3, 1) := by decide +kernel
theorem dX9_clear_22 : decode cX9_clear 22 = .ok (.iload_n 3, 1) := by decide +kernel
theorem dX9_clear_23 : decode cX9_clear 23 = .ok (.iconst 3, 1) := by decide +kernel
theorem dX9_clear_24 : decode cX9_clear 24 = .ok (.if_icmp .ge 136, 3) := by decide +kernel
theorem dX9_clear_27 : decode cX9_clear 27 = .ok (.aload_n 0, 1) := by decide +kernel
theorem dX9_clear_28 : decode cX9_clear 28 = .ok (.getfield 78, 3) := by decide +kernel
theorem dX9_clear_31 : decode cX9_clear 31 = .ok (.iload_n 3, 1) := by decide +kernel
theorem dX9_clear_32 : decode cX9_clear 32 = .ok (.lconst 0, 1) := by decide +kernel
theorem dX9_clear_33 : decode cX9_clear 33 = .ok (.lastore, 1) := by decide +kernel
theorem dX9_clear_34 : decode cX9_clear 34 = .ok (.iconst 0, 1) := by decide +kernel
theorem dX9_clear_35 : decode cX9_clear 35 = .ok (.istore 4, 2) := by decide +kernel
theorem dX9_clear_37 : decode cX9_clear 37 = .ok (.iload 4, 2) := by decide +kernel
theorem dX9_clear_39 : decode cX9_clear 39 = .ok (.aload_n 0, 1) := by decide +kernel
theorem dX9_clear_40 : decode cX9_clear 40 = .ok (.getfield 140, 3) := by decide +kernel
theorem dX9_clear_43 : decode cX9_clear 43 = .ok (.if_icmp .ge 92, 3) := by decide +kernel
theorem dX9_clear_46 : decode cX9_clear 46 = .ok (.aload_n 0, 1) := by decide +kernel
theorem dX9_clear_47 : decode cX9_clear 47 = .ok (.getfield 42, 3) := by decide +kernel
theorem dX9_clear_50 : decode cX9_clear 50 = .ok (.iload 4, 2) := by decide +kernel
theorem dX9_clear_52 : decode cX9_clear 52 = .ok (.laload, 1) := by decide +kernel
theorem dX9_clear_53 : decode cX9_clear 53 = .ok (.iload_n 1, 1) := by decide +kernel
theorem dX9_clear_54 : decode cX9_clear 54 = .ok (.i2l, 1) := by decide +kernel
theorem dX9_clear_55 : decode cX9_clear 55 = .ok (.lcmp, 1) := by decide +kernel
theorem dX9_clear_56 : decode cX9_clear 56 = .ok (.ifCond .ne 73, 3) := by decide +kernel
theorem dX9_clear_59 : decode cX9_clear 59 = .ok (.aload_n 0, 1) := by decide +kernel
theorem dX9_clear_60 : decode cX9_clear 60 = .ok (.getfield 78, 3) := by decide +kernel
theorem dX9_clear_63 : decode cX9_clear 63 = .ok (.iload_n 3, 1) := by decide +kernel
theorem dX9_clear_64 : decode cX9_clear 64 = .ok (.dup2, 1) := by decide +kernel
theorem dX9_clear_65 : decode cX9_clear 65 = .ok (.laload, 1) := by decide +kernel
theorem dX9_clear_66 : decode cX9_clear 66 = .ok (.aload_n 0, 1) := by decide +kernel
theorem dX9_clear_67 : decode cX9_clear 67 = .ok (.getfield 36, 3) := by decide +kernel
theorem dX9_clear_70 : decode cX9_clear 70 = .ok (.iload 4, 2) := by decide +kernel
theorem dX9_clear_72 : decode cX9_clear 72 = .ok (.iaload, 1) := by decide +kernel
theorem dX9_clear_73 : decode cX9_clear 73 = .ok (.iconst 3, 1) := by decide +kernel
theorem dX9_clear_74 : decode cX9_clear 74 = .ok (.irem, 1) := by decide +kernel
theorem dX9_clear_75 : decode cX9_clear 75 = .ok (.iload_n 3, 1) := by decide +kernel
theorem dX9_clear_76 : decode cX9_clear 76 = .ok (.if_icmp .ne 9, 3) := by decide +kernel
theorem dX9_clear_79 : decode cX9_clear 79 = .ok (.ldc2_w 190, 3) := by decide +kernel
theorem dX9_clear_82 : decode cX9_clear 82 = .ok (.goto 4, 3) := by decide +kernel
theorem dX9_clear_85 : decode cX9_clear 85 = .ok (.lconst 0, 1) := by decide +kernel
theorem dX9_clear_86 : decode cX9_clear 86 = .ok (.lsub, 1) := by decide +kernel
theorem dX9_clear_87 : decode cX9_clear 87 = .ok (.lastore, 1) := by decide +kernel
theorem dX9_clear_88 : decode cX9_clear 88 = .ok (.aload_n 0, 1) := by decide +kernel
theorem dX9_clear_89 : decode cX9_clear 89 = .ok (.getfield 78, 3) := by decide +kernel
theorem dX9_clear_92 : decode cX9_clear 92 = .ok (.iload_n 3, 1) := by decide +kernel
theorem dX9_clear_93 : decode cX9_clear 93 = .ok (.dup2, 1) := by decide +kernel
theorem dX9_clear_94 : decode cX9_clear 94 = .ok (.laload, 1) := by decide +kernel
theorem dX9_clear_95 : decode cX9_clear 95 = .ok (.aload_n 0, 1) := by decide +kernel
theorem dX9_clear_96 : decode cX9_clear 96 = .ok (.getfield 32, 3) := by decide +kernel
theorem dX9_clear_99 : decode cX9_clear 99 = .ok (.iload 4, 2) := by decide +kernel
theorem dX9_clear_101 : decode cX9_clear 101 = .ok (.laload, 1) := by decide +kernel
theorem dX9_clear_102 : decode cX9_clear 102 = .ok (.ldc2_w 115, 3) := by decide +kernel
theorem dX9_clear_105 : decode cX9_clear 105 = .ok (.ldiv, 1) := by decide +kernel
theorem dX9_clear_106 : decode cX9_clear 106 = .ok (.ldc2_w 115, 3) := by decide +kernel
theorem dX9_clear_109 : decode cX9_clear 109 = .ok (.lrem, 1) := by decide +kernel
theorem dX9_clear_110 : decode cX9_clear 110 = .ok (.ldc2_w 192, 3) := by decide +kernel
theorem dX9_clear_113 : decode cX9_clear 113 = .ok (.lrem, 1) := by decide +kernel
theorem dX9_clear_114 : decode cX9_clear 114 = .ok (.iload_n 3, 1) := by decide +kernel
theorem dX9_clear_115 : decode cX9_clear 115 = .ok (.i2l, 1) := by decide +kernel
theorem dX9_clear_116 : decode cX9_clear 116 = .ok (.lcmp, 1) := by decide +kernel
theorem dX9_clear_117 : decode cX9_clear 117 = .ok (.ifCond .ne 9, 3) := by decide +kernel
theorem dX9_clear_120 : decode cX9_clear 120 = .ok (.ldc2_w 190, 3) := by decide +kernel
theorem dX9_clear_123 : decode cX9_clear 123 = .ok (.goto 4, 3) := by decide +kernel
theorem dX9_clear_126 : decode cX9_clear 126 = .ok (.lconst 0, 1) := by decide +kernel
theorem dX9_clear_127 : decode cX9_clear 127 = .ok (.ladd, 1) := by decide +kernel
theorem dX9_clear_128 : decode cX9_clear 128 = .ok (.lastore, 1) := by decide +kernel
theorem dX9_clear_129 : decode cX9_clear 129 = .ok (.iinc 4 1, 3) := by decide +kernel
theorem dX9_clear_132 : decode cX9_clear 132 = .ok (.goto (-95), 3) := by decide +kernel
theorem dX9_clear_135 : decode cX9_clear 135 = .ok (.aload_n 0, 1) := by decide +kernel
theorem dX9_clear_136 : decode cX9_clear 136 = .ok (.getfield 78, 3) := by decide +kernel
theorem dX9_clear_139 : decode cX9_clear 139 = .ok (.iload_n 3, 1) := by decide +kernel
theorem dX9_clear_140 : decode cX9_clear 140 = .ok (.laload, 1) := by decide +kernel
theorem dX9_clear_141 : decode cX9_clear 141 = .ok (.lconst 0, 1) := by decide +kernel
theorem dX9_clear_142 : decode cX9_clear 142 = .ok (.lcmp, 1) := by decide +kernel
theorem dX9_clear_143 : decode cX9_clear 143 = .ok (.ifCond .ne 7, 3) := by decide +kernel
theorem dX9_clear_146 : decode cX9_clear 146 = .ok (.iload_n 2, 1) := by decide +kernel
theorem dX9_clear_147 : decode cX9_clear 147 = .ok (.goto 6, 3) := by decide +kernel
theorem dX9_clear_150 : decode cX9_clear 150 = .ok (.iload_n 2, 1) := by decide +kernel
theorem dX9_clear_151 : decode cX9_clear 151 = .ok (.iconst 1, 1) := by decide +kernel
theorem dX9_clear_152 : decode cX9_clear 152 = .ok (.iadd, 1) := by decide +kernel
theorem dX9_clear_153 : decode cX9_clear 153 = .ok (.istore_n 2, 1) := by decide +kernel
theorem dX9_clear_154 : decode cX9_clear 154 = .ok (.iinc 3 1, 3) := by decide +kernel
theorem dX9_clear_157 : decode cX9_clear 157 = .ok (.goto (-135), 3) := by decide +kernel
theorem dX9_clear_160 : decode cX9_clear 160 = .ok (.iload_n 2, 1) := by decide +kernel
theorem dX9_clear_161 : decode cX9_clear 161 = .ok (.ireturn, 1) := by decide +kernel
set_option maxRecDepth 20000 in
theorem ggX9_cleared_X9_isIn : GoodIn wsX9_cleared wsX9_isIn := goodIn_r _ [7] (by decide +kernel) (by decide +kernel)
set_option maxRecDepth 20000 in
theorem gX9_cleared_X9_isIn : GoodIn wsX9_cleared (va_wsS RX9 87 yX9_isIn wsX9_isIn) := goodIn_app (goodIn_of _ (by decide +kernel)) ggX9_cleared_X9_isIn
theorem dX9_cleared_0 : decode cX9_cleared 0 = .ok (.aload_n 0, 1) := by decide +kernel
theorem dX9_cleared_1 : decode cX9_cleared 1 = .ok (.iconst 0, 1) := by decide +kernel
theorem dX9_cleared_2 : decode cX9_cleared 2 = .ok (.putfield 81, 3) := by decide +kernel
theorem dX9_cleared_5 : decode cX9_cleared 5 = .ok (.iload_n 1, 1) := by decide +kernel
theorem dX9_cleared_6 : decode cX9_cleared 6 = .ok (.i2l, 1) := by decide +kernel
theorem dX9_cleared_7 : decode cX9_cleared 7 = .ok (.ldc2_w 194, 3) := by decide +kernel
theorem dX9_cleared_10 : decode cX9_cleared 10 = .ok (.invokestatic 87, 3) := by decide +kernel
theorem dX9_cleared_13 : decode cX9_cleared 13 = .ok (.ifCond .eq 12, 3) := by decide +kernel
theorem dX9_cleared_16 : decode cX9_cleared 16 = .ok (.aload_n 0, 1) := by decide +kernel
theorem dX9_cleared_17 : decode cX9_cleared 17 = .ok (.getfield 78, 3) := by decide +kernel
theorem dX9_cleared_20 : decode cX9_cleared 20 = .ok (.iload_n 1, 1) := by decide +kernel
theorem dX9_cleared_21 : decode cX9_cleared 21 = .ok (.laload, 1) := by decide +kernel
theorem dX9_cleared_22 : decode cX9_cleared 22 = .ok (.goto 4, 3) := by decide +kernel
theorem dX9_cleared_25 : decode cX9_cleared 25 = .ok (.lconst 0, 1) := by decide +kernel
theorem dX9_cleared_26 : decode cX9_cleared 26 = .ok (.lreturn, 1) := by decide +kernel
theorem dX9_fraud_0 : decode cX9_fraud 0 = .ok (.aload_n 0, 1) := by decide +kernel
theorem dX9_fraud_1 : decode cX9_fraud 1 = .ok (.iconst 0, 1) := by decide +kernel
theorem dX9_fraud_2 : decode cX9_fraud 2 = .ok (.putfield 81, 3) := by decide +kernel
theorem dX9_fraud_5 : decode cX9_fraud 5 = .ok (.iload_n 1, 1) := by decide +kernel
theorem dX9_fraud_6 : decode cX9_fraud 6 = .ok (.ifCond .lt 20, 3) := by decide +kernel
theorem dX9_fraud_9 : decode cX9_fraud 9 = .ok (.iload_n 1, 1) := by decide +kernel
theorem dX9_fraud_10 : decode cX9_fraud 10 = .ok (.aload_n 0, 1) := by decide +kernel
theorem dX9_fraud_11 : decode cX9_fraud 11 = .ok (.getfield 150, 3) := by decide +kernel
theorem dX9_fraud_14 : decode cX9_fraud 14 = .ok (.if_icmp .ge 12, 3) := by decide +kernel
theorem dX9_fraud_17 : decode cX9_fraud 17 = .ok (.aload_n 0, 1) := by decide +kernel
theorem dX9_fraud_18 : decode cX9_fraud 18 = .ok (.getfield 57, 3) := by decide +kernel
theorem dX9_fraud_21 : decode cX9_fraud 21 = .ok (.iload_n 1, 1) := by decide +kernel
theorem dX9_fraud_22 : decode cX9_fraud 22 = .ok (.iaload, 1) := by decide +kernel
theorem dX9_fraud_23 : decode cX9_fraud 23 = .ok (.goto 4, 3) := by decide +kernel
theorem dX9_fraud_26 : decode cX9_fraud 26 = .ok (.iconst (-1), 1) := by decide +kernel
theorem dX9_fraud_27 : decode cX9_fraud 27 = .ok (.ireturn, 1) := by decide +kernel
end
section
/-! My own base rows: contracts that tell their end by terms (no existential): rP and k2_QcV for methods that write nothing, mP and mQ for those that do. One list of array classes (tz) for all worlds. -/
def isB (x : Int32) : Prop := x = 0 ∨ x = 1
theorem isB_0 : isB 0 := Or.inl rfl
theorem isB_1 : isB 1 := Or.inr rfl
theorem isB_nar {x : Int32} (h : isB x) : narrow .boolean (.int x) = .int x := by rcases h with rfl | rfl <;> rfl
theorem isB_vp {x : Int32} (h : isB x) : vp_nar .boolean x = x := by rcases h with rfl | rfl <;> rfl
theorem isB_ite {c : Prop} [Decidable c] {a b : Int32} (ha : isB a) (hb : isB b) : isB (if c then a else b) := by split <;> assumption
theorem isB_upd {f : Nat → Int32} {k : Nat} {x : Int32} (hf : ∀ j, isB (f j)) (hx : isB x) : ∀ j, isB (upd f k x j) := fun j => by
  unfold upd
  split
  · exact hx
  · exact hf j
abbrev tz (cI cJ cZ : ClassId) : List (ClassId × FieldType) := [(cI, .int), (cJ, .long), (cZ, .boolean)]
/-- the links of the nested classes to the private DepositCodes.isIndex -/
def NW (U : State) : Prop := va_Nw (.methodLinkNest RX0 22 yX8_isIndex "DepositCodes") U ∧ va_Nw (.methodLinkNest RX1 29 yX8_isIndex "DepositCodes") U ∧ va_Nw (.methodLinkNest RX2 28 yX8_isIndex "DepositCodes") U ∧ va_Nw (.methodLinkNest RX3 19 yX8_isIndex "DepositCodes") U ∧ va_Nw (.methodLinkNest RX4 29 yX8_isIndex "DepositCodes") U ∧ va_Nw (.methodLinkNest RX5 13 yX8_isIndex "DepositCodes") U ∧ va_Nw (.methodLinkNest RX6 35 yX8_isIndex "DepositCodes") U ∧ va_Nw (.methodLinkNest RX7 20 yX8_isIndex "DepositCodes") U
theorem NW.warm {s U : State} (hW : s.WarmedH U.vm) (h : NW s) : NW U := ⟨va_Nw.warmM hW h.1, va_Nw.warmM hW h.2.1, va_Nw.warmM hW h.2.2.1, va_Nw.warmM hW h.2.2.2.1, va_Nw.warmM hW h.2.2.2.2.1, va_Nw.warmM hW h.2.2.2.2.2.1, va_Nw.warmM hW h.2.2.2.2.2.2.1, va_Nw.warmM hW h.2.2.2.2.2.2.2⟩
theorem NW.same {u U : State} (e : u.vm = U.vm) (h : NW u) : NW U := ⟨va_Nw.same rfl e h.1, va_Nw.same rfl e h.2.1, va_Nw.same rfl e h.2.2.1, va_Nw.same rfl e h.2.2.2.1, va_Nw.same rfl e h.2.2.2.2.1, va_Nw.same rfl e h.2.2.2.2.2.1, va_Nw.same rfl e h.2.2.2.2.2.2.1, va_Nw.same rfl e h.2.2.2.2.2.2.2⟩
def rP (D : va_G) (T : List (ClassId × FieldType)) (av : List Value) (ws : va_W) : Array Value → State → Prop := fun v U => v = av.toArray ∧ va_P D vwCl ws U.heap ∧ va_K D vwCl T U ∧ NW U
theorem rP_blind {D : va_G} {T : List (ClassId × FieldType)} {av : List Value} {ws : va_W} : FrameBlind (rP D T av ws) := fun a U g mk q => ⟨q.1, q.2.1, va_K.moved (u := U) (U := U.calling g mk a) (Vm.Alike.refl U.vm) q.2.2.1, NW.same (u := U) (U := U.calling g mk a) rfl q.2.2.2⟩
theorem rP_pre {D : va_G} {T : List (ClassId × FieldType)} {av : List Value} {ws : va_W} {s : State} {H : Heap} (hP : va_P D vwCl ws H) (hK : va_K D vwCl T s) (hN : NW s) : ∀ U : State, U.heap = H → s.WarmedH U.vm → rP D T av ws av.toArray U :=
  fun U hU hW => ⟨rfl, by rw [hU]; exact hP, va_K.moved hW.alike hK, hN.warm hW⟩
theorem va_P_nil {D : va_G} {cl : List vw_C} {H : Heap} : va_P D cl [] H := fun k q h => by simp at h
def mP (D : va_G) (T : List (ClassId × FieldType)) (av : List Value) (sz : Nat) (ws : va_W) : Array Value → State → Prop := fun v U => v = av.toArray ∧ U.heap.size = sz ∧ va_P D vwCl ws U.heap ∧ va_K D vwCl T U ∧ va_D (fun _ => True) ws ∧ NW U
theorem mP_blind {D : va_G} {T : List (ClassId × FieldType)} {av : List Value} {sz : Nat} {ws : va_W} : FrameBlind (mP D T av sz ws) := fun a U g mk q => ⟨q.1, q.2.1, q.2.2.1, va_K.moved (u := U) (U := U.calling g mk a) (Vm.Alike.refl U.vm) q.2.2.2.1, q.2.2.2.2.1, NW.same (u := U) (U := U.calling g mk a) rfl q.2.2.2.2.2⟩
theorem mP_pre {D : va_G} {T : List (ClassId × FieldType)} {av : List Value} {ws : va_W} {s : State} {H : Heap} {A : Nat → Prop} (hP : va_P D vwCl ws H) (hD : va_D A ws) (hK : va_K D vwCl T s) (hN : NW s) : ∀ U : State, U.heap = H → s.WarmedH U.vm → mP D T av H.size ws av.toArray U :=
  fun U hU hW => ⟨rfl, by rw [hU], by rw [hU]; exact hP, va_K.moved hW.alike hK, hD.weaken (fun _ _ _ _ => trivial), hN.warm hW⟩
def mQ (D : va_G) (rv : Option Value) (ws : va_W) (A : Nat → Prop) : Array Value → State → Outcome → State → Prop := fun _ st o t => o = .returned rv ∧ va_P D vwCl ws t.heap ∧ va_D A ws ∧ va_F A st t
/-- the patterns' static row -/
def patF (j : Nat) : Int32 := ([3, 2, 1, 1, 2, 2, 2, 1, 2, 1, 2, 2, 1, 4, 1, 1, 1, 1, 3, 2, 1, 2, 3, 1, 1, 1, 1, 4, 1, 3, 1, 2, 1, 2, 1, 3, 3, 1, 1, 2] : List Int32).getD j 0
def ZPA (A : Nat → Prop) (U : State) (H : Heap) : Prop := ∃ t : Nat, va_Z "DepositCodes$Bars" "PATTERNS" "[I" (.ref t) A U H ∧ va_T .int t 40 (fun j => .int (patF j)) A U H
abbrev ZP (U : State) (H : Heap) : Prop := ZPA (fun _ => False) U H
theorem ZPA.moved {A : Nat → Prop} {u U : State} {H : Heap} (hvm : u.vm.Alike U.vm) (h : ZPA A u H) : ZPA A U H := by
  obtain ⟨t, h1, h2⟩ := h
  exact ⟨t, h1.moved hvm, h2.moved hvm⟩
theorem ZPA.sub {A B : Nat → Prop} {s : State} {H : Heap} {locs : List Loc} (h : ZPA A s s.heap) (hS : va_S A s.heap H locs) (hAB : ∀ q, B q → A q) : ZPA B s H := by
  obtain ⟨t, h1, h2⟩ := h
  exact ⟨t, (h1.kept hS.2.1).narrow hAB, (h2.kept hS.2.1).narrow hAB⟩
theorem ZPA.ro {A : Nat → Prop} {s : State} {H : Heap} {locs : List Loc} (h : ZPA A s s.heap) (hS : va_S A s.heap H locs) : ZP s H := h.sub hS (fun _ q => q.elim)
def rPz (D : va_G) (T : List (ClassId × FieldType)) (av : List Value) (ws : va_W) : Array Value → State → Prop := fun v U => rP D T av ws v U ∧ ZP U U.heap
theorem rPz_blind {D : va_G} {T : List (ClassId × FieldType)} {av : List Value} {ws : va_W} : FrameBlind (rPz D T av ws) := fun a U g mk q => ⟨rP_blind a U g mk q.1, ZPA.moved (u := U) (U := U.calling g mk a) (Vm.Alike.refl U.vm) q.2⟩
theorem rPz_pre {D : va_G} {T : List (ClassId × FieldType)} {av : List Value} {ws : va_W} {s : State} {H : Heap} (hP : va_P D vwCl ws H) (hK : va_K D vwCl T s) (hN : NW s) (hZ : ZP s H) : ∀ U : State, U.heap = H → s.WarmedH U.vm → rPz D T av ws av.toArray U :=
  fun U hU hW => ⟨rP_pre hP hK hN U hU hW, by rw [hU]; exact hZ.moved hW.alike⟩
def mPz (D : va_G) (T : List (ClassId × FieldType)) (av : List Value) (sz : Nat) (ws : va_W) : Array Value → State → Prop := fun v U => mP D T av sz ws v U ∧ ZPA (va_A ws sz) U U.heap
theorem mPz_blind {D : va_G} {T : List (ClassId × FieldType)} {av : List Value} {sz : Nat} {ws : va_W} : FrameBlind (mPz D T av sz ws) := fun a U g mk q => ⟨mP_blind a U g mk q.1, ZPA.moved (u := U) (U := U.calling g mk a) (Vm.Alike.refl U.vm) q.2⟩
theorem mPz_pre {D : va_G} {T : List (ClassId × FieldType)} {av : List Value} {ws : va_W} {s : State} {H : Heap} {A : Nat → Prop} (hP : va_P D vwCl ws H) (hD : va_D A ws) (hK : va_K D vwCl T s) (hN : NW s) (hZ : ZPA (va_A ws H.size) s H) : ∀ U : State, U.heap = H → s.WarmedH U.vm → mPz D T av H.size ws av.toArray U :=
  fun U hU hW => ⟨mP_pre hP hD hK hN U hU hW, by rw [hU]; exact hZ.moved hW.alike⟩
section rows
variable {p : Program} {l : Launch} {e : Env} {R : Room} {s : State} {m : MethodId} {args : Array Value} {below : List Frame} {meth : Method} {c : Code} {H H0 : Heap} {locs : List Loc} {cells slots : Nat} {Q : State → Prop}
  {cc : ByteArray} {pc : Nat} {ls : Array Slot} {rest st0 : List Value} {D : va_G} {cl : List vw_C} {tys : List (ClassId × FieldType)} {ws : va_W} {A : Nat → Prop} {a : Nat}
theorem na_iald (hx : p.tables.exec = Jvm.exec) (hb : c.code = cc) (hK : va_K D cl tys s) (hP : va_P D cl ws H) (q0 t0 : Nat) {cA : ClassId} {n : Nat} {f : Nat → Int32} (ha : ws[q0]? = some (a, .inl (cA, n, .inl f))) (ht : tys[t0]? = some (cA, .int)) {k : Nat} (hk : k < n) (hn : n < 2 ^ 31) (hdg : decode cc pc = .ok (.iaload, 1))
    (kk : W p l e R s m args below meth c H locs cells slots Q (F0 m (pc + 1) ls (.int (f k) :: rest))) : W p l e R s m args below meth c H locs cells slots Q (F0 m pc ls (.int (nI k) :: .ref a :: rest)) :=
  va_iald hx hb hK hP q0 t0 ha ht (vp_in_nI hk hn) hdg (by rw [nI_clamp (Nat.lt_trans hk hn)]; exact kk)
theorem na_zald (hx : p.tables.exec = Jvm.exec) (hb : c.code = cc) (hK : va_K D cl tys s) (hP : va_P D cl ws H) (q0 t0 : Nat) {cA : ClassId} {n : Nat} {f : Nat → Int32} (ha : ws[q0]? = some (a, .inl (cA, n, .inl f))) (ht : tys[t0]? = some (cA, .boolean)) {k : Nat} (hk : k < n) (hn : n < 2 ^ 31) (hdg : decode cc pc = .ok (.baload, 1))
    (kk : W p l e R s m args below meth c H locs cells slots Q (F0 m (pc + 1) ls (.int (f k) :: rest))) : W p l e R s m args below meth c H locs cells slots Q (F0 m pc ls (.int (nI k) :: .ref a :: rest)) :=
  va_zald hx hb hK hP q0 t0 ha ht (vp_in_nI hk hn) hdg (by rw [nI_clamp (Nat.lt_trans hk hn)]; exact kk)
theorem na_lald (hx : p.tables.exec = Jvm.exec) (hb : c.code = cc) (hK : va_K D cl tys s) (hP : va_P D cl ws H) (q0 t0 : Nat) {cA : ClassId} {n : Nat} {f : Nat → Int64} (ha : ws[q0]? = some (a, .inl (cA, n, .inr (.inl f)))) (ht : tys[t0]? = some (cA, .long)) {k : Nat} (hk : k < n) (hn : n < 2 ^ 31) (hdg : decode cc pc = .ok (.laload, 1))
    (kk : W p l e R s m args below meth c H locs cells slots Q (F0 m (pc + 1) ls (.long (f k) :: rest))) : W p l e R s m args below meth c H locs cells slots Q (F0 m pc ls (.int (nI k) :: .ref a :: rest)) :=
  va_lald hx hb hK hP q0 t0 ha ht (vp_in_nI hk hn) hdg (by rw [nI_clamp (Nat.lt_trans hk hn)]; exact kk)
theorem na_iast (hx : p.tables.exec = Jvm.exec) (hb : c.code = cc) (hK : va_K D cl tys s) (hP : va_P D cl ws H) (hD : va_D A ws) (hS : va_S A H0 H locs) (q0 t0 : Nat) {cA : ClassId} {n : Nat} {f : Nat → Int32} (ha : ws[q0]? = some (a, .inl (cA, n, .inl f))) (ht : tys[t0]? = some (cA, .int)) {k : Nat} {x : Int32} (hk : k < n) (hn : n < 2 ^ 31) (hdg : decode cc pc = .ok (.iastore, 1))
    (kk : ∀ (H1 : Heap) (locs1 : List Loc), va_P D cl (ws.set q0 (a, .inl (cA, n, .inl (upd f k x)))) H1 → va_D A (ws.set q0 (a, .inl (cA, n, .inl (upd f k x)))) → va_S A H0 H1 locs1 → W p l e R s m args below meth c H1 locs1 cells slots Q (F0 m (pc + 1) ls rest)) : W p l e R s m args below meth c H locs cells slots Q (F0 m pc ls (.int x :: .int (nI k) :: .ref a :: rest)) :=
  va_iast hx hb hK hP hD hS q0 t0 ha ht (vp_in_nI hk hn) hdg (by rw [nI_clamp (Nat.lt_trans hk hn)]; exact kk)
theorem na_last (hx : p.tables.exec = Jvm.exec) (hb : c.code = cc) (hK : va_K D cl tys s) (hP : va_P D cl ws H) (hD : va_D A ws) (hS : va_S A H0 H locs) (q0 t0 : Nat) {cA : ClassId} {n : Nat} {f : Nat → Int64} (ha : ws[q0]? = some (a, .inl (cA, n, .inr (.inl f)))) (ht : tys[t0]? = some (cA, .long)) {k : Nat} {x : Int64} (hk : k < n) (hn : n < 2 ^ 31) (hdg : decode cc pc = .ok (.lastore, 1))
    (kk : ∀ (H1 : Heap) (locs1 : List Loc), va_P D cl (ws.set q0 (a, .inl (cA, n, .inr (.inl (vp_updL f k x))))) H1 → va_D A (ws.set q0 (a, .inl (cA, n, .inr (.inl (vp_updL f k x))))) → va_S A H0 H1 locs1 → W p l e R s m args below meth c H1 locs1 cells slots Q (F0 m (pc + 1) ls rest)) : W p l e R s m args below meth c H locs cells slots Q (F0 m pc ls (.long x :: .int (nI k) :: .ref a :: rest)) :=
  va_last hx hb hK hP hD hS q0 t0 ha ht (vp_in_nI hk hn) hdg (by rw [nI_clamp (Nat.lt_trans hk hn)]; exact kk)
theorem na_zast (hx : p.tables.exec = Jvm.exec) (hb : c.code = cc) (hK : va_K D cl tys s) (hP : va_P D cl ws H) (hD : va_D A ws) (hS : va_S A H0 H locs) (q0 t0 : Nat) {cA : ClassId} {n : Nat} {f : Nat → Int32} (ha : ws[q0]? = some (a, .inl (cA, n, .inl f))) (ht : tys[t0]? = some (cA, .boolean)) {k : Nat} {x : Int32} (hk : k < n) (hn : n < 2 ^ 31) (hdg : decode cc pc = .ok (.bastore, 1))
    (kk : ∀ (H1 : Heap) (locs1 : List Loc), va_P D cl (ws.set q0 (a, .inl (cA, n, .inl (upd f k (vp_nar .boolean x))))) H1 → va_D A (ws.set q0 (a, .inl (cA, n, .inl (upd f k (vp_nar .boolean x))))) → va_S A H0 H1 locs1 → W p l e R s m args below meth c H1 locs1 cells slots Q (F0 m (pc + 1) ls rest)) : W p l e R s m args below meth c H locs cells slots Q (F0 m pc ls (.int x :: .int (nI k) :: .ref a :: rest)) :=
  va_zast hx hb hK hP hD hS q0 t0 ha ht (vp_in_nI hk hn) hdg (by rw [nI_clamp (Nat.lt_trans hk hn)]; exact kk)
theorem na_top {x y : Int32} (h : x = y) (kk : W p l e R s m args below meth c H locs cells slots Q (F0 m pc ls (.int y :: rest))) : W p l e R s m args below meth c H locs cells slots Q (F0 m pc ls (.int x :: rest)) := by rw [h]; exact kk
theorem na_ti {t N : Nat} {f : Nat → Value} (hx : p.tables.exec = Jvm.exec) (hb : c.code = cc) (hT : va_T .int t N f A s s.heap) (hS : va_S A s.heap H locs) {k : Nat} (hk : k < N) (hN : N < 2 ^ 31) {v : Value} (hv : f k = v) (hdg : decode cc pc = .ok (.iaload, 1))
    (kk : W p l e R s m args below meth c H locs cells slots Q (F0 m (pc + 1) ls (v :: rest))) : W p l e R s m args below meth c H locs cells slots Q (F0 m pc ls (.int (nI k) :: .ref t :: rest)) :=
  va_ti hx hb hT hS (vp_in_nI hk hN) (by rw [nI_clamp (Nat.lt_trans hk hN)]; exact hv) hdg kk
/-- behind a call that writes nothing: the heap, the places, the room are as they were -/
theorem rd_call {r : Value} {aa : Array Value} (hr : va_Run p l e R s m args below meth c H locs cells slots 0 0 (F0 m pc ls st0) rest (k2_QcV r aa) (fun _ => False)) (kk : W p l e R s m args below meth c H locs cells slots Q (F0 m (pc + 3) ls (r :: rest))) : W p l e R s m args below meth c H locs cells slots Q (F0 m pc ls st0) := by
  intro T hT X
  obtain ⟨v, st₀, t, T', L, h0, X', hL, e1, e2, ⟨hv, hk⟩, st⟩ := hr T hT X
  cases hv
  have hL0 : L = [] := by
    cases L with
    | nil => rfl
    | cons q L => exact absurd (hL q List.mem_cons_self) id
  subst hL0
  rw [List.append_nil] at X'
  obtain ⟨t2, a1, b1⟩ := kk T' (by rw [e1, hk, h0]) X'
  exact ⟨t2, st t2 a1, b1⟩
/-- behind a call that writes its own cells: the caller's world with those cells as they are now -/
theorem mt_call {mc ms : Nat} {rv : Option Value} {wc wr w1 ws' : va_W} {aa : Array Value} (hr : va_Run p l e R s m args below meth c H locs cells slots mc ms (F0 m pc ls st0) rest (mQ D rv w1 (va_A wc H.size) aa) (va_A wc H.size)) (hP : va_P D vwCl ws H) (hD : va_D A ws) (hS : va_S A H0 H locs) (hA : ∀ q, H0.size ≤ q → A q)
    (isC isR perm : List Nat) (hC : isC.map (fun i => ws[i]?) = wc.map some) (hR : isR.map (fun i => ws[i]?) = wr.map some) (hn : va_nd isR = true) (hdis : ∀ i ∈ isR, i ∉ isC) (hpn : va_nd perm = true) (hpm : perm.map (fun i => (wr ++ w1)[i]?) = ws'.map some)
    (kk : ∀ (H1 : Heap) (locs1 : List Loc), va_P D vwCl ws' H1 → va_D A ws' → va_S A H0 H1 locs1 → W p l e R s m args below meth c H1 locs1 (cells + mc) (slots + ms) Q (F0 m (pc + 3) ls (rv.toList ++ rest))) : W p l e R s m args below meth c H locs cells slots Q (F0 m pc ls st0) := by
  intro T hT X
  obtain ⟨v, st₀, t, T', L, h0, X', hL, e1, e2, ⟨hv, hP1, hD1, hz, hk⟩, st⟩ := hr T hT X
  cases hv
  rw [h0] at hz hk
  have hF := va_free hD hS hA isC hC
  obtain ⟨hP2, hD2⟩ := va_join hP hD isC isR hC hR hn hdis hk hF hP1 hD1
  have hP3 : va_P D vwCl ws' t.heap := by
    intro k q hq
    have h1 : (perm.map (fun i => (wr ++ w1)[i]?))[k]? = some (some q) := by rw [hpm, List.getElem?_map, hq]; rfl
    rw [List.getElem?_map] at h1
    cases hi : perm[k]? with
    | none => rw [hi] at h1; cases h1
    | some i => rw [hi] at h1; exact hP2 i q (Option.some.inj h1)
  have hD3 : va_D A ws' := hD2.sub perm hpn hpm
  obtain ⟨t2, a1, b1⟩ := kk t.heap (locs ++ L) hP3 hD3
    ⟨Nat.le_trans hS.1 hz, fun q h1 h2 => by rw [hk q (Nat.lt_of_lt_of_le h1 hS.1) (fun z => h2 (hF q z))]; exact hS.2.1 q h1 h2, fun q hq => by
      rcases List.mem_append.mp hq with h | h
      · exact hS.2.2 q h
      · exact hF _ (hL q h)⟩ T' e1 X'
  exact ⟨t2, st t2 a1, b1⟩
/-- the same, where nothing is made -/
theorem mt_call0 {rv : Option Value} {wc wr w1 ws' : va_W} {aa : Array Value} {st1 : List Value} (hr : va_Run p l e R s m args below meth c H locs cells slots 0 0 (F0 m pc ls st0) rest (mQ D rv w1 (va_A wc H.size) aa) (va_A wc H.size)) (hP : va_P D vwCl ws H) (hD : va_D A ws) (hS : va_S A H0 H locs) (hA : ∀ q, H0.size ≤ q → A q)
    (isC isR perm : List Nat) (hC : isC.map (fun i => ws[i]?) = wc.map some) (hR : isR.map (fun i => ws[i]?) = wr.map some) (hn : va_nd isR = true) (hdis : ∀ i ∈ isR, i ∉ isC) (hpn : va_nd perm = true) (hpm : perm.map (fun i => (wr ++ w1)[i]?) = ws'.map some) (hst : rv.toList ++ rest = st1)
    (kk : ∀ (H1 : Heap) (locs1 : List Loc), va_P D vwCl ws' H1 → va_D A ws' → va_S A H0 H1 locs1 → W p l e R s m args below meth c H1 locs1 cells slots Q (F0 m (pc + 3) ls st1)) : W p l e R s m args below meth c H locs cells slots Q (F0 m pc ls st0) :=
  mt_call hr hP hD hS hA isC isR perm hC hR hn hdis hpn hpm (by rw [hst]; exact kk)
end rows
theorem sw_out3 {x : Int32} (h0 : ¬ x = 0) (h1 : ¬ x = 1) (h2 : ¬ x = 2) : x.toInt < 0 ∨ 2 < x.toInt := by
  have a0 : x.toInt ≠ 0 := fun h => h0 (Int32.toInt_inj.mp h)
  have a1 : x.toInt ≠ 1 := fun h => h1 (Int32.toInt_inj.mp h)
  have a2 : x.toInt ≠ 2 := fun h => h2 (Int32.toInt_inj.mp h)
  omega
end
section
def FX8_isIndex (k : Int32) (n : Int32) : Int32 := if k < 0 then 0 else (if n ≤ k then 0 else 1)
theorem FX8_isIndex_b (k : Int32) (n : Int32) : isB (FX8_isIndex k n) := by
  unfold FX8_isIndex
  repeat' split
  all_goals first | exact isB_0 | exact isB_1
set_option maxHeartbeats 4000000 in
set_option maxRecDepth 100000 in
theorem kX8_isIndex (l : Launch) (D : va_G) (cI cJ cZ : ClassId) (k : Int32) (n : Int32) : Met l yX8_isIndex wsX8_isIndex ({ frames := 0, cells := 0, slots := 0, locals := 0 }) (rP D (tz cI cJ cZ) [.int k, .int n] []) (k2_QcV (.int (FX8_isIndex k n))) 0 0 (fun _ => False) := by
  refine Met.ofW (cc := cX8_isIndex) (maxL := 2) (ret := (some .boolean)) (by decide) rfl ?_
  intro p e s m args below meth c s₁ B hml hv
  obtain ⟨rfl, hP, hK, hN⟩ := hv
  have hx := B.exec
  have hb := B.bytes
  have hr := B.returns
  have hts := atoms_spec (ws := wsX8_isIndex) B.pre
  have hown : s.vm.findClass RX8 = some m.cls := findClass_of_methodNamed B.named
  have hlocks := B.notSynchronized
  generalize hE : FX8_isIndex k n = R0
  rw [FX8_isIndex] at hE
  have hl := lv_entry ([.int k, .int n]) (n := 2) (Nat.le_of_ble_eq_true rfl)
  rw [lg_entry_eq]
  generalize (lg_sl ([.int k, .int n]) ++ List.replicate (2 - (lg_sl ([.int k, .int n])).length) Slot.unset).toArray = ls at hl ⊢
  have hl : lv_has ls 2 [(0, .int k), (1, .int n)] := hl
  refine lv_iload_n hx hb dX8_isIndex_0 rfl (lv_at hl 0 rfl) ?_
  refine lv_if_lt (tgt := 13) hx hb dX8_isIndex_1 (by decide) (fun c_1 => ?_) (fun c_1 => ?_)
  · rw [if_pos c_1] at hE
    refine lv_iconst (v := 0) hx hb dX8_isIndex_13 (by decide) ?_
    exact W.zret hx hb hr narrow_b0 (fun t ht hW => ⟨by rw [← hE], ht⟩) (fun q h => absurd h List.not_mem_nil) dX8_isIndex_14
  · rw [if_neg c_1] at hE
    refine lv_iload_n hx hb dX8_isIndex_4 rfl (lv_at hl 0 rfl) ?_
    refine lv_iload_n hx hb dX8_isIndex_5 rfl (lv_at hl 1 rfl) ?_
    refine lv_icmp_ge (tgt := 13) hx hb dX8_isIndex_6 (by decide) (fun c_2 => ?_) (fun c_2 => ?_)
    · rw [if_pos c_2] at hE
      refine lv_iconst (v := 0) hx hb dX8_isIndex_13 (by decide) ?_
      exact W.zret hx hb hr narrow_b0 (fun t ht hW => ⟨by rw [← hE], ht⟩) (fun q h => absurd h List.not_mem_nil) dX8_isIndex_14
    · rw [if_neg c_2] at hE
      refine lv_iconst (v := 1) hx hb dX8_isIndex_9 (by decide) ?_
      refine lv_goto (tgt := 14) hx hb dX8_isIndex_10 (by decide) ?_
      exact W.zret hx hb hr narrow_b1 (fun t ht hW => ⟨by rw [← hE], ht⟩) (fun q h => absurd h List.not_mem_nil) dX8_isIndex_14
def FX5_isNumber (k : Int64) : Int32 := if (lg_cmp k 0) < 0 then 0 else (if 0 < (lg_cmp k 999999999999999999) then 0 else 1)
theorem FX5_isNumber_b (k : Int64) : isB (FX5_isNumber k) := by
  unfold FX5_isNumber
  repeat' split
  all_goals first | exact isB_0 | exact isB_1
set_option maxHeartbeats 4000000 in
set_option maxRecDepth 100000 in
theorem kX5_isNumber (l : Launch) (D : va_G) (cI cJ cZ : ClassId) (k : Int64) : Met l yX5_isNumber wsX5_isNumber ({ frames := 0, cells := 0, slots := 0, locals := 0 }) (rP D (tz cI cJ cZ) [.long k] []) (k2_QcV (.int (FX5_isNumber k))) 0 0 (fun _ => False) := by
  refine Met.ofW (cc := cX5_isNumber) (maxL := 2) (ret := (some .boolean)) (by decide) rfl ?_
  intro p e s m args below meth c s₁ B hml hv
  obtain ⟨rfl, hP, hK, hN⟩ := hv
  have hx := B.exec
  have hb := B.bytes
  have hr := B.returns
  have hts := atoms_spec (ws := wsX5_isNumber) B.pre
  have hown : s.vm.findClass RX5 = some m.cls := findClass_of_methodNamed B.named
  have hlocks := B.notSynchronized
  generalize hE : FX5_isNumber k = R0
  rw [FX5_isNumber] at hE
  have hl := lv_entry ([.long k]) (n := 2) (Nat.le_of_ble_eq_true rfl)
  rw [lg_entry_eq]
  generalize (lg_sl ([.long k]) ++ List.replicate (2 - (lg_sl ([.long k])).length) Slot.unset).toArray = ls at hl ⊢
  have hl : lv_has ls 2 [(0, .long k)] := hl
  refine lv_lload_n hx hb dX5_isNumber_0 rfl (lv_at hl 0 rfl) ?_
  refine lv_lconst (v := 0) hx hb dX5_isNumber_1 (by decide) ?_
  refine W.lcmp hx hb dX5_isNumber_2 ?_
  refine lv_if_lt (tgt := 18) hx hb dX5_isNumber_3 (by decide) (fun c_1 => ?_) (fun c_1 => ?_)
  · rw [if_pos c_1] at hE
    refine lv_iconst (v := 0) hx hb dX5_isNumber_18 (by decide) ?_
    exact W.zret hx hb hr narrow_b0 (fun t ht hW => ⟨by rw [← hE], ht⟩) (fun q h => absurd h List.not_mem_nil) dX5_isNumber_19
  · rw [if_neg c_1] at hE
    refine lv_lload_n hx hb dX5_isNumber_6 rfl (lv_at hl 0 rfl) ?_
    refine lv_ldc2 hx hb hown (hts (.constantLong RX5 11 999999999999999999) (by decide +kernel)) dX5_isNumber_7 ?_
    refine W.lcmp hx hb dX5_isNumber_10 ?_
    refine lv_if_gt (tgt := 18) hx hb dX5_isNumber_11 (by decide) (fun c_2 => ?_) (fun c_2 => ?_)
    · rw [if_pos c_2] at hE
      refine lv_iconst (v := 0) hx hb dX5_isNumber_18 (by decide) ?_
      exact W.zret hx hb hr narrow_b0 (fun t ht hW => ⟨by rw [← hE], ht⟩) (fun q h => absurd h List.not_mem_nil) dX5_isNumber_19
    · rw [if_neg c_2] at hE
      refine lv_iconst (v := 1) hx hb dX5_isNumber_14 (by decide) ?_
      refine lv_goto (tgt := 19) hx hb dX5_isNumber_15 (by decide) ?_
      exact W.zret hx hb hr narrow_b1 (fun t ht hW => ⟨by rw [← hE], ht⟩) (fun q h => absurd h List.not_mem_nil) dX5_isNumber_19
def FX5_isKind (k : Int32) : Int32 := FX8_isIndex k 2
theorem FX5_isKind_b (k : Int32) : isB (FX5_isKind k) := by
  unfold FX5_isKind
  repeat' split
  all_goals first | exact isB_0 | exact isB_1 | exact FX8_isIndex_b _ _
set_option maxHeartbeats 4000000 in
set_option maxRecDepth 100000 in
theorem kX5_isKind (l : Launch) (D : va_G) (cI cJ cZ : ClassId) (k : Int32) : Met l yX5_isKind wsX5_isKind ({ frames := 1, cells := 0, slots := 0, locals := 21 }) (rP D (tz cI cJ cZ) [.int k] []) (k2_QcV (.int (FX5_isKind k))) 0 0 (fun _ => False) := by
  refine Met.ofW (cc := cX5_isKind) (maxL := 1) (ret := (some .boolean)) (by decide) rfl ?_
  intro p e s m args below meth c s₁ B hml hv
  obtain ⟨rfl, hP, hK, hN⟩ := hv
  have hx := B.exec
  have hb := B.bytes
  have hr := B.returns
  have hts := atoms_spec (ws := wsX5_isKind) B.pre
  have hown : s.vm.findClass RX5 = some m.cls := findClass_of_methodNamed B.named
  have hlocks := B.notSynchronized
  generalize hE : FX5_isKind k = R0
  rw [FX5_isKind] at hE
  have hl := lv_entry ([.int k]) (n := 1) (Nat.le_of_ble_eq_true rfl)
  rw [lg_entry_eq]
  generalize (lg_sl ([.int k]) ++ List.replicate (1 - (lg_sl ([.int k])).length) Slot.unset).toArray = ls at hl ⊢
  have hl : lv_has ls 1 [(0, .int k)] := hl
  refine lv_iload_n hx hb dX5_isKind_0 rfl (lv_at hl 0 rfl) ?_
  refine lv_iconst (v := 2) hx hb dX5_isKind_1 (by decide) ?_
  refine rd_call (va_runSN (As := [.int k, .int 2]) (rest := []) ⟨hx, hb, hml, hown, hts⟩ (kX8_isIndex l D cI cJ cZ k 2) ⟨va_cnB 2 hts gX5_isKind_X8_isIndex_n13 rfl rfl rfl hN.2.2.2.2.2.1 (hts (.initialized RX8) (by decide +kernel)) (by decide +kernel) ⟨Nat.le_of_ble_eq_true rfl, Nat.le_of_ble_eq_true rfl⟩, hts (.static yX8_isIndex) (by decide +kernel), trivial⟩ ⟨rP_blind, rP_pre (va_P_nil) hK hN⟩ rfl rfl hl.1 rfl (lv_room (Nat.le_of_ble_eq_true rfl)) dX5_isKind_2 ⟨Nat.zero_le _, Nat.zero_le _⟩) ?_
  exact W.zret hx hb hr (isB_nar (FX8_isIndex_b _ _)) (fun t ht hW => ⟨by rw [← hE], ht⟩) (fun q h => absurd h List.not_mem_nil) dX5_isKind_5
def FX5_weighed (k : Int32) (d : Int32) : Int32 := if k = 0 then 3 * d else (if (2 * d) ≤ 9 then 2 * d else (2 * d) - 9)
set_option maxHeartbeats 4000000 in
set_option maxRecDepth 100000 in
theorem kX5_weighed (l : Launch) (D : va_G) (cI cJ cZ : ClassId) (k : Int32) (d : Int32) : Met l yX5_weighed wsX5_weighed ({ frames := 0, cells := 0, slots := 0, locals := 0 }) (rP D (tz cI cJ cZ) [.int k, .int d] []) (k2_QcV (.int (FX5_weighed k d))) 0 0 (fun _ => False) := by
  refine Met.ofW (cc := cX5_weighed) (maxL := 2) (ret := (some .int)) (by decide) rfl ?_
  intro p e s m args below meth c s₁ B hml hv
  obtain ⟨rfl, hP, hK, hN⟩ := hv
  have hx := B.exec
  have hb := B.bytes
  have hr := B.returns
  have hts := atoms_spec (ws := wsX5_weighed) B.pre
  have hown : s.vm.findClass RX5 = some m.cls := findClass_of_methodNamed B.named
  have hlocks := B.notSynchronized
  generalize hE : FX5_weighed k d = R0
  rw [FX5_weighed] at hE
  have hl := lv_entry ([.int k, .int d]) (n := 2) (Nat.le_of_ble_eq_true rfl)
  rw [lg_entry_eq]
  generalize (lg_sl ([.int k, .int d]) ++ List.replicate (2 - (lg_sl ([.int k, .int d])).length) Slot.unset).toArray = ls at hl ⊢
  have hl : lv_has ls 2 [(0, .int k), (1, .int d)] := hl
  refine lv_iload_n hx hb dX5_weighed_0 rfl (lv_at hl 0 rfl) ?_
  refine lv_if_ne (tgt := 8) hx hb dX5_weighed_1 (by decide) (fun c_1 => ?_) (fun c_1 => ?_)
  · rw [if_neg c_1] at hE
    refine lv_iconst (v := 2) hx hb dX5_weighed_8 (by decide) ?_
    refine lv_iload_n hx hb dX5_weighed_9 rfl (lv_at hl 1 rfl) ?_
    refine lv_imul hx hb dX5_weighed_10 ?_
    refine lv_bipush (v := 9) hx hb dX5_weighed_11 (by decide) ?_
    refine lv_icmp_le (tgt := 25) hx hb dX5_weighed_13 (by decide) (fun c_2 => ?_) (fun c_2 => ?_)
    · rw [if_pos c_2] at hE
      refine lv_iconst (v := 2) hx hb dX5_weighed_25 (by decide) ?_
      refine lv_iload_n hx hb dX5_weighed_26 rfl (lv_at hl 1 rfl) ?_
      refine lv_imul hx hb dX5_weighed_27 ?_
      exact W.iret hx hb hr (fun t ht hW => ⟨by rw [← hE], ht⟩) (fun q h => absurd h List.not_mem_nil) dX5_weighed_28
    · rw [if_neg c_2] at hE
      refine lv_iconst (v := 2) hx hb dX5_weighed_16 (by decide) ?_
      refine lv_iload_n hx hb dX5_weighed_17 rfl (lv_at hl 1 rfl) ?_
      refine lv_imul hx hb dX5_weighed_18 ?_
      refine lv_bipush (v := 9) hx hb dX5_weighed_19 (by decide) ?_
      refine lv_isub hx hb dX5_weighed_21 ?_
      refine lv_goto (tgt := 28) hx hb dX5_weighed_22 (by decide) ?_
      exact W.iret hx hb hr (fun t ht hW => ⟨by rw [← hE], ht⟩) (fun q h => absurd h List.not_mem_nil) dX5_weighed_28
  · rw [if_pos c_1] at hE
    refine lv_iconst (v := 3) hx hb dX5_weighed_4 (by decide) ?_
    refine lv_iload_n hx hb dX5_weighed_5 rfl (lv_at hl 1 rfl) ?_
    refine lv_imul hx hb dX5_weighed_6 ?_
    exact W.iret hx hb hr (fun t ht hW => ⟨by rw [← hE], ht⟩) (fun q h => absurd h List.not_mem_nil) dX5_weighed_7
def FX5_systemOfSerial (k : Int64) : Int32 := (((k / 10) - (k / 10) / 10 * 10) - ((k / 10) - (k / 10) / 10 * 10) / 3 * 3).toInt32
set_option maxHeartbeats 4000000 in
set_option maxRecDepth 100000 in
theorem kX5_systemOfSerial (l : Launch) (D : va_G) (cI cJ cZ : ClassId) (k : Int64) : Met l yX5_systemOfSerial wsX5_systemOfSerial ({ frames := 0, cells := 0, slots := 0, locals := 0 }) (rP D (tz cI cJ cZ) [.long k] []) (k2_QcV (.int (FX5_systemOfSerial k))) 0 0 (fun _ => False) := by
  refine Met.ofW (cc := cX5_systemOfSerial) (maxL := 2) (ret := (some .int)) (by decide) rfl ?_
  intro p e s m args below meth c s₁ B hml hv
  obtain ⟨rfl, hP, hK, hN⟩ := hv
  have hx := B.exec
  have hb := B.bytes
  have hr := B.returns
  have hts := atoms_spec (ws := wsX5_systemOfSerial) B.pre
  have hown : s.vm.findClass RX5 = some m.cls := findClass_of_methodNamed B.named
  have hlocks := B.notSynchronized
  generalize hE : FX5_systemOfSerial k = R0
  rw [FX5_systemOfSerial] at hE
  have hl := lv_entry ([.long k]) (n := 2) (Nat.le_of_ble_eq_true rfl)
  rw [lg_entry_eq]
  generalize (lg_sl ([.long k]) ++ List.replicate (2 - (lg_sl ([.long k])).length) Slot.unset).toArray = ls at hl ⊢
  have hl : lv_has ls 2 [(0, .long k)] := hl
  refine lv_lload_n hx hb dX5_systemOfSerial_0 rfl (lv_at hl 0 rfl) ?_
  refine lv_ldc2 hx hb hown (hts (.constantLong RX5 17 10) (by decide +kernel)) dX5_systemOfSerial_1 ?_
  refine lv_ldiv hx hb dX5_systemOfSerial_4 (by decide) ?_
  refine lv_ldc2 hx hb hown (hts (.constantLong RX5 17 10) (by decide +kernel)) dX5_systemOfSerial_5 ?_
  refine lv_lrem hx hb dX5_systemOfSerial_8 (by decide) ?_
  refine lv_ldc2 hx hb hown (hts (.constantLong RX5 31 3) (by decide +kernel)) dX5_systemOfSerial_9 ?_
  refine lv_lrem hx hb dX5_systemOfSerial_12 (by decide) ?_
  refine lv_l2i hx hb dX5_systemOfSerial_13 rfl ?_
  exact W.iret hx hb hr (fun t ht hW => ⟨by rw [← hE], ht⟩) (fun q h => absurd h List.not_mem_nil) dX5_systemOfSerial_14
theorem isIx_in {k : Int32} {n N : Nat} (h : ¬ FX8_isIndex k (nI n) = 0) (hn : n ≤ N) (hN : N < 2 ^ 31) : vp_in k N := by
  unfold FX8_isIndex at h
  by_cases h1 : k < 0
  · rw [if_pos h1] at h; exact absurd rfl h
  · rw [if_neg h1] at h
    by_cases h2 : nI n ≤ k
    · rw [if_pos h2] at h; exact absurd rfl h
    · rcases pk_ix k (n := n) (by omega) with a | a | ⟨j, hj, rfl⟩
      · exact absurd a h1
      · exact absurd a h2
      · exact vp_in_nI (by omega) hN
theorem isIx_lt {k : Int32} {n : Nat} (h : ¬ FX8_isIndex k (nI n) = 0) (hn : n < 2 ^ 31) : ∃ j : Nat, j < n ∧ k = nI j := by
  obtain ⟨j, hj, rfl⟩ := vp_in_of (isIx_in h (Nat.le_refl n) hn) hn
  exact ⟨j, hj, rfl⟩
end
section
def FX5_checkDigit_l8 (kd : Int32) : Nat → Nat → Int32 → Int64 → Int32
  | 0, _, _, _ => 0
  | n + 1, k, sm, r => if 18 ≤ k then (10 - (sm - sm / 10 * 10)) - (10 - (sm - sm / 10 * 10)) / 10 * 10 else (if (k % 2) = 0 then FX5_checkDigit_l8 kd n (k + 1) (sm + (FX5_weighed kd ((r - r / 10 * 10).toInt32))) (r / 10) else FX5_checkDigit_l8 kd n (k + 1) (sm + ((r - r / 10 * 10).toInt32)) (r / 10))
def FX5_checkDigit (kd : Int32) (v : Int64) : Int32 := FX5_checkDigit_l8 kd 19 0 0 v
set_option maxHeartbeats 4000000 in
set_option maxRecDepth 100000 in
theorem kX5_checkDigit (l : Launch) (D : va_G) (cI cJ cZ : ClassId) (kd : Int32) (v : Int64) : Met l yX5_checkDigit wsX5_checkDigit ({ frames := 1, cells := 0, slots := 0, locals := 21 }) (rP D (tz cI cJ cZ) [.int kd, .long v] []) (k2_QcV (.int (FX5_checkDigit kd v))) 0 0 (fun _ => False) := by
  refine Met.ofW (cc := cX5_checkDigit) (maxL := 8) (ret := (some .int)) (by decide) rfl ?_
  intro p e s m args below meth c s₁ B hml hv
  obtain ⟨rfl, hP, hK, hN⟩ := hv
  have hx := B.exec
  have hb := B.bytes
  have hr := B.returns
  have hts := atoms_spec (ws := wsX5_checkDigit) B.pre
  have hown : s.vm.findClass RX5 = some m.cls := findClass_of_methodNamed B.named
  have hlocks := B.notSynchronized
  generalize hE : FX5_checkDigit kd v = R0
  rw [FX5_checkDigit] at hE
  have hl := lv_entry ([.int kd, .long v]) (n := 8) (Nat.le_of_ble_eq_true rfl)
  rw [lg_entry_eq]
  generalize (lg_sl ([.int kd, .long v]) ++ List.replicate (8 - (lg_sl ([.int kd, .long v])).length) Slot.unset).toArray = ls at hl ⊢
  have hl : lv_has ls 8 [(0, .int kd), (1, .long v)] := hl
  have loop_8 : ∀ (n : Nat) (k : Nat) (sm : Int32) (r : Int64), k ≤ 18 → k + n = 19 → FX5_checkDigit_l8 kd n k sm r = R0 → ∀ ls : Array Slot, lv_has ls 8 [(6, .int (nI k)), (4, .long r), (3, .int sm), (0, .int kd), (1, .long v)] → W p l e (headSpec wsX5_checkDigit ({ frames := 1, cells := 0, slots := 0, locals := 21 })).room s m ([.int kd, .long v] : List Value).toArray below meth c s.heap [] 0 0 (MQ below (k2_QcV (.int R0)) ([.int kd, .long v] : List Value).toArray s 0 0 (fun _ => False)) (F0 m 8 ls []) := by
    intro n
    induction n with
    | zero =>
      intro k sm r i_1 i_2
      exact absurd i_1 (by omega)
    | succ n ih =>
      intro k sm r i_1 i_2 hE ls hl
      rw [FX5_checkDigit_l8] at hE
      refine lv_iload hx hb dX5_checkDigit_8 (lv_at hl 0 rfl) ?_
      refine lv_bipush (v := 18) hx hb dX5_checkDigit_10 (by decide) ?_
      refine lv_icmp_ge (tgt := 59) hx hb dX5_checkDigit_12 (by decide) (fun c_1 => ?_) (fun c_1 => ?_)
      · have c_1 : 18 ≤ k := (nI_leI (a := 18) (b := k) (by omega) (by omega)).mp c_1
        rw [if_pos c_1] at hE
        refine lv_bipush (v := 10) hx hb dX5_checkDigit_59 (by decide) ?_
        refine lv_iload_n hx hb dX5_checkDigit_61 rfl (lv_at hl 2 rfl) ?_
        refine lv_bipush (v := 10) hx hb dX5_checkDigit_62 (by decide) ?_
        refine lv_irem hx hb dX5_checkDigit_64 (by decide) ?_
        refine lv_isub hx hb dX5_checkDigit_65 ?_
        refine lv_bipush (v := 10) hx hb dX5_checkDigit_66 (by decide) ?_
        refine lv_irem hx hb dX5_checkDigit_68 (by decide) ?_
        exact W.iret hx hb hr (fun t ht hW => ⟨by rw [← hE], ht⟩) (fun q h => absurd h List.not_mem_nil) dX5_checkDigit_69
      · have c_1 : ¬ 18 ≤ k := fun h9 => c_1 ((nI_leI (a := 18) (b := k) (by omega) (by omega)).mpr h9)
        rw [if_neg c_1] at hE
        refine lv_lload hx hb dX5_checkDigit_15 (lv_at hl 1 rfl) ?_
        refine lv_ldc2 hx hb hown (hts (.constantLong RX5 17 10) (by decide +kernel)) dX5_checkDigit_17 ?_
        refine lv_lrem hx hb dX5_checkDigit_20 (by decide) ?_
        refine lv_l2i hx hb dX5_checkDigit_21 rfl ?_
        refine lv_istore (lv' := [(7, .int ((r - r / 10 * 10).toInt32)), (6, .int (nI k)), (4, .long r), (3, .int sm), (0, .int kd), (1, .long v)]) hx hb dX5_checkDigit_22 hl (by decide) rfl (fun ls hl => ?_)
        refine lv_iload_n hx hb dX5_checkDigit_24 rfl (lv_at hl 3 rfl) ?_
        refine lv_iload hx hb dX5_checkDigit_25 (lv_at hl 1 rfl) ?_
        refine lv_iconst (v := 2) hx hb dX5_checkDigit_27 (by decide) ?_
        refine lv_irem hx hb dX5_checkDigit_28 (by decide) ?_
        refine na_top (show (nI k) - (nI k) / 2 * 2 = nI (k % 2) from pk_rem (a := k) (d := 2) (by omega) (by decide) (by decide)) ?_
        refine lv_if_ne (tgt := 41) hx hb dX5_checkDigit_29 (by decide) (fun c_2 => ?_) (fun c_2 => ?_)
        · have c_2 : ¬ (k % 2) = 0 := fun h9 => c_2 ((nI_eq (a := (k % 2)) (b := 0) (by omega) (by omega)).mpr h9)
          rw [if_neg c_2] at hE
          refine lv_iload hx hb dX5_checkDigit_41 (lv_at hl 0 rfl) ?_
          refine lv_iadd hx hb dX5_checkDigit_43 ?_
          refine lv_istore_n (lv' := [(3, .int (sm + ((r - r / 10 * 10).toInt32))), (7, .int ((r - r / 10 * 10).toInt32)), (6, .int (nI k)), (4, .long r), (0, .int kd), (1, .long v)]) hx hb dX5_checkDigit_44 rfl hl (by decide) rfl (fun ls hl => ?_)
          refine lv_lload hx hb dX5_checkDigit_45 (lv_at hl 3 rfl) ?_
          refine lv_ldc2 hx hb hown (hts (.constantLong RX5 17 10) (by decide +kernel)) dX5_checkDigit_47 ?_
          refine lv_ldiv hx hb dX5_checkDigit_50 (by decide) ?_
          refine lv_lstore (lv' := [(4, .long (r / 10)), (3, .int (sm + ((r - r / 10 * 10).toInt32))), (7, .int ((r - r / 10 * 10).toInt32)), (6, .int (nI k)), (0, .int kd), (1, .long v)]) hx hb dX5_checkDigit_51 hl (by decide) rfl (fun ls hl => ?_)
          refine lv_iinc (v := nI (k + 1)) (lv' := [(6, .int (nI (k + 1))), (4, .long (r / 10)), (3, .int (sm + ((r - r / 10 * 10).toInt32))), (7, .int ((r - r / 10 * 10).toInt32)), (0, .int kd), (1, .long v)]) hx hb dX5_checkDigit_53 hl (k := 3) rfl (nI_1 k) (by decide) rfl (fun ls hl => ?_)
          refine lv_goto (tgt := 8) hx hb dX5_checkDigit_56 (by decide) ?_
          exact ih (k + 1) (sm + ((r - r / 10 * 10).toInt32)) (r / 10) (by omega) (by omega) hE ls (lv_sub hl [0, 1, 2, 4, 5] rfl)
        · have c_2 : (k % 2) = 0 := (nI_eq (a := (k % 2)) (b := 0) (by omega) (by omega)).mp c_2
          rw [if_pos c_2] at hE
          refine lv_iload_n hx hb dX5_checkDigit_32 rfl (lv_at hl 4 rfl) ?_
          refine lv_iload hx hb dX5_checkDigit_33 (lv_at hl 0 rfl) ?_
          refine rd_call (va_runS (As := [.int kd, .int ((r - r / 10 * 10).toInt32)]) (rest := [.int sm]) ⟨hx, hb, hml, hown, hts⟩ (kX5_weighed l D cI cJ cZ kd ((r - r / 10 * 10).toInt32)) (va_cwS 2 hts gX5_checkDigit_X5_weighed rfl rfl rfl (by decide +kernel) ⟨Nat.le_of_ble_eq_true rfl, Nat.le_of_ble_eq_true rfl⟩) ⟨rP_blind, rP_pre (va_P_nil) hK hN⟩ rfl rfl hl.1 rfl (lv_room (Nat.le_of_ble_eq_true rfl)) dX5_checkDigit_35 ⟨Nat.zero_le _, Nat.zero_le _⟩) ?_
          refine lv_goto (tgt := 43) hx hb dX5_checkDigit_38 (by decide) ?_
          refine lv_iadd hx hb dX5_checkDigit_43 ?_
          refine lv_istore_n (lv' := [(3, .int (sm + (FX5_weighed kd ((r - r / 10 * 10).toInt32)))), (7, .int ((r - r / 10 * 10).toInt32)), (6, .int (nI k)), (4, .long r), (0, .int kd), (1, .long v)]) hx hb dX5_checkDigit_44 rfl hl (by decide) rfl (fun ls hl => ?_)
          refine lv_lload hx hb dX5_checkDigit_45 (lv_at hl 3 rfl) ?_
          refine lv_ldc2 hx hb hown (hts (.constantLong RX5 17 10) (by decide +kernel)) dX5_checkDigit_47 ?_
          refine lv_ldiv hx hb dX5_checkDigit_50 (by decide) ?_
          refine lv_lstore (lv' := [(4, .long (r / 10)), (3, .int (sm + (FX5_weighed kd ((r - r / 10 * 10).toInt32)))), (7, .int ((r - r / 10 * 10).toInt32)), (6, .int (nI k)), (0, .int kd), (1, .long v)]) hx hb dX5_checkDigit_51 hl (by decide) rfl (fun ls hl => ?_)
          refine lv_iinc (v := nI (k + 1)) (lv' := [(6, .int (nI (k + 1))), (4, .long (r / 10)), (3, .int (sm + (FX5_weighed kd ((r - r / 10 * 10).toInt32)))), (7, .int ((r - r / 10 * 10).toInt32)), (0, .int kd), (1, .long v)]) hx hb dX5_checkDigit_53 hl (k := 3) rfl (nI_1 k) (by decide) rfl (fun ls hl => ?_)
          refine lv_goto (tgt := 8) hx hb dX5_checkDigit_56 (by decide) ?_
          exact ih (k + 1) (sm + (FX5_weighed kd ((r - r / 10 * 10).toInt32))) (r / 10) (by omega) (by omega) hE ls (lv_sub hl [0, 1, 2, 4, 5] rfl)
  refine lv_iconst (v := 0) hx hb dX5_checkDigit_0 (by decide) ?_
  refine lv_istore_n (lv' := [(3, .int 0), (0, .int kd), (1, .long v)]) hx hb dX5_checkDigit_1 rfl hl (by decide) rfl (fun ls hl => ?_)
  refine lv_lload_n hx hb dX5_checkDigit_2 rfl (lv_at hl 2 rfl) ?_
  refine lv_lstore (lv' := [(4, .long v), (3, .int 0), (0, .int kd), (1, .long v)]) hx hb dX5_checkDigit_3 hl (by decide) rfl (fun ls hl => ?_)
  refine lv_iconst (v := 0) hx hb dX5_checkDigit_5 (by decide) ?_
  refine lv_istore (lv' := [(6, .int 0), (4, .long v), (3, .int 0), (0, .int kd), (1, .long v)]) hx hb dX5_checkDigit_6 hl (by decide) rfl (fun ls hl => ?_)
  exact loop_8 19 0 0 v (by omega) (by omega) hE ls (lv_sub hl [0, 1, 2, 3, 4] rfl)
def FX5_isGood (kd : Int32) (v : Int64) : Int32 := if (lg_cmp (v - v / 10 * 10) ((FX5_checkDigit kd (v / 10)).toInt64)) = 0 then 1 else 0
theorem FX5_isGood_b (kd : Int32) (v : Int64) : isB (FX5_isGood kd v) := by
  unfold FX5_isGood
  repeat' split
  all_goals first | exact isB_0 | exact isB_1
set_option maxHeartbeats 4000000 in
set_option maxRecDepth 100000 in
theorem kX5_isGood (l : Launch) (D : va_G) (cI cJ cZ : ClassId) (kd : Int32) (v : Int64) : Met l yX5_isGood wsX5_isGood ({ frames := 2, cells := 0, slots := 0, locals := 48 }) (rP D (tz cI cJ cZ) [.int kd, .long v] []) (k2_QcV (.int (FX5_isGood kd v))) 0 0 (fun _ => False) := by
  refine Met.ofW (cc := cX5_isGood) (maxL := 3) (ret := (some .boolean)) (by decide) rfl ?_
  intro p e s m args below meth c s₁ B hml hv
  obtain ⟨rfl, hP, hK, hN⟩ := hv
  have hx := B.exec
  have hb := B.bytes
  have hr := B.returns
  have hts := atoms_spec (ws := wsX5_isGood) B.pre
  have hown : s.vm.findClass RX5 = some m.cls := findClass_of_methodNamed B.named
  have hlocks := B.notSynchronized
  generalize hE : FX5_isGood kd v = R0
  rw [FX5_isGood] at hE
  have hl := lv_entry ([.int kd, .long v]) (n := 3) (Nat.le_of_ble_eq_true rfl)
  rw [lg_entry_eq]
  generalize (lg_sl ([.int kd, .long v]) ++ List.replicate (3 - (lg_sl ([.int kd, .long v])).length) Slot.unset).toArray = ls at hl ⊢
  have hl : lv_has ls 3 [(0, .int kd), (1, .long v)] := hl
  refine lv_lload_n hx hb dX5_isGood_0 rfl (lv_at hl 1 rfl) ?_
  refine lv_ldc2 hx hb hown (hts (.constantLong RX5 17 10) (by decide +kernel)) dX5_isGood_1 ?_
  refine lv_lrem hx hb dX5_isGood_4 (by decide) ?_
  refine lv_iload_n hx hb dX5_isGood_5 rfl (lv_at hl 0 rfl) ?_
  refine lv_lload_n hx hb dX5_isGood_6 rfl (lv_at hl 1 rfl) ?_
  refine lv_ldc2 hx hb hown (hts (.constantLong RX5 17 10) (by decide +kernel)) dX5_isGood_7 ?_
  refine lv_ldiv hx hb dX5_isGood_10 (by decide) ?_
  refine rd_call (va_runS (As := [.int kd, .long (v / 10)]) (rest := [.long (v - v / 10 * 10)]) ⟨hx, hb, hml, hown, hts⟩ (kX5_checkDigit l D cI cJ cZ kd (v / 10)) (va_cwS 2 hts gX5_isGood_X5_checkDigit rfl rfl rfl (by decide +kernel) ⟨Nat.le_of_ble_eq_true rfl, Nat.le_of_ble_eq_true rfl⟩) ⟨rP_blind, rP_pre (va_P_nil) hK hN⟩ rfl rfl hl.1 rfl (lv_room (Nat.le_of_ble_eq_true rfl)) dX5_isGood_11 ⟨Nat.zero_le _, Nat.zero_le _⟩) ?_
  refine lv_i2l hx hb dX5_isGood_14 rfl ?_
  refine W.lcmp hx hb dX5_isGood_15 ?_
  refine lv_if_ne (tgt := 23) hx hb dX5_isGood_16 (by decide) (fun c_1 => ?_) (fun c_1 => ?_)
  · rw [if_neg c_1] at hE
    refine lv_iconst (v := 0) hx hb dX5_isGood_23 (by decide) ?_
    exact W.zret hx hb hr narrow_b0 (fun t ht hW => ⟨by rw [← hE], ht⟩) (fun q h => absurd h List.not_mem_nil) dX5_isGood_24
  · rw [if_pos c_1] at hE
    refine lv_iconst (v := 1) hx hb dX5_isGood_19 (by decide) ?_
    refine lv_goto (tgt := 24) hx hb dX5_isGood_20 (by decide) ?_
    exact W.zret hx hb hr narrow_b1 (fun t ht hW => ⟨by rw [← hE], ht⟩) (fun q h => absurd h List.not_mem_nil) dX5_isGood_24
def FX5_decimals_l8 : Nat → Nat → Int64 → Int32
  | 0, _, _ => 0
  | n + 1, k, r => if (lg_cmp r 0) ≤ 0 then nI k else (if 18 ≤ k then nI k else FX5_decimals_l8 n (k + 1) (r / 10))
def FX5_decimals (v : Int64) : Int32 := FX5_decimals_l8 18 1 (v / 10)
set_option maxHeartbeats 4000000 in
set_option maxRecDepth 100000 in
theorem kX5_decimals (l : Launch) (D : va_G) (cI cJ cZ : ClassId) (v : Int64) : Met l yX5_decimals wsX5_decimals ({ frames := 0, cells := 0, slots := 0, locals := 0 }) (rP D (tz cI cJ cZ) [.long v] []) (k2_QcV (.int (FX5_decimals v))) 0 0 (fun _ => False) := by
  refine Met.ofW (cc := cX5_decimals) (maxL := 5) (ret := (some .int)) (by decide) rfl ?_
  intro p e s m args below meth c s₁ B hml hv
  obtain ⟨rfl, hP, hK, hN⟩ := hv
  have hx := B.exec
  have hb := B.bytes
  have hr := B.returns
  have hts := atoms_spec (ws := wsX5_decimals) B.pre
  have hown : s.vm.findClass RX5 = some m.cls := findClass_of_methodNamed B.named
  have hlocks := B.notSynchronized
  generalize hE : FX5_decimals v = R0
  rw [FX5_decimals] at hE
  have hl := lv_entry ([.long v]) (n := 5) (Nat.le_of_ble_eq_true rfl)
  rw [lg_entry_eq]
  generalize (lg_sl ([.long v]) ++ List.replicate (5 - (lg_sl ([.long v])).length) Slot.unset).toArray = ls at hl ⊢
  have hl : lv_has ls 5 [(0, .long v)] := hl
  have loop_8 : ∀ (n : Nat) (k : Nat) (r : Int64), k ≤ 18 → k + n = 19 → FX5_decimals_l8 n k r = R0 → ∀ ls : Array Slot, lv_has ls 5 [(3, .long r), (2, .int (nI k)), (0, .long v)] → W p l e (headSpec wsX5_decimals ({ frames := 0, cells := 0, slots := 0, locals := 0 })).room s m ([.long v] : List Value).toArray below meth c s.heap [] 0 0 (MQ below (k2_QcV (.int R0)) ([.long v] : List Value).toArray s 0 0 (fun _ => False)) (F0 m 8 ls []) := by
    intro n
    induction n with
    | zero =>
      intro k r i_1 i_2
      exact absurd i_1 (by omega)
    | succ n ih =>
      intro k r i_1 i_2 hE ls hl
      rw [FX5_decimals_l8] at hE
      refine lv_lload_n hx hb dX5_decimals_8 rfl (lv_at hl 0 rfl) ?_
      refine lv_lconst (v := 0) hx hb dX5_decimals_9 (by decide) ?_
      refine W.lcmp hx hb dX5_decimals_10 ?_
      refine lv_if_le (tgt := 32) hx hb dX5_decimals_11 (by decide) (fun c_1 => ?_) (fun c_1 => ?_)
      · rw [if_pos c_1] at hE
        refine lv_iload_n hx hb dX5_decimals_32 rfl (lv_at hl 1 rfl) ?_
        exact W.iret hx hb hr (fun t ht hW => ⟨by rw [← hE], ht⟩) (fun q h => absurd h List.not_mem_nil) dX5_decimals_33
      · rw [if_neg c_1] at hE
        refine lv_iload_n hx hb dX5_decimals_14 rfl (lv_at hl 1 rfl) ?_
        refine lv_bipush (v := 18) hx hb dX5_decimals_15 (by decide) ?_
        refine lv_icmp_ge (tgt := 32) hx hb dX5_decimals_17 (by decide) (fun c_2 => ?_) (fun c_2 => ?_)
        · have c_2 : 18 ≤ k := (nI_leI (a := 18) (b := k) (by omega) (by omega)).mp c_2
          rw [if_pos c_2] at hE
          refine lv_iload_n hx hb dX5_decimals_32 rfl (lv_at hl 1 rfl) ?_
          exact W.iret hx hb hr (fun t ht hW => ⟨by rw [← hE], ht⟩) (fun q h => absurd h List.not_mem_nil) dX5_decimals_33
        · have c_2 : ¬ 18 ≤ k := fun h9 => c_2 ((nI_leI (a := 18) (b := k) (by omega) (by omega)).mpr h9)
          rw [if_neg c_2] at hE
          refine lv_iinc (v := nI (k + 1)) (lv' := [(2, .int (nI (k + 1))), (3, .long r), (0, .long v)]) hx hb dX5_decimals_20 hl (k := 1) rfl (nI_1 k) (by decide) rfl (fun ls hl => ?_)
          refine lv_lload_n hx hb dX5_decimals_23 rfl (lv_at hl 1 rfl) ?_
          refine lv_ldc2 hx hb hown (hts (.constantLong RX5 17 10) (by decide +kernel)) dX5_decimals_24 ?_
          refine lv_ldiv hx hb dX5_decimals_27 (by decide) ?_
          refine lv_lstore_n (lv' := [(3, .long (r / 10)), (2, .int (nI (k + 1))), (0, .long v)]) hx hb dX5_decimals_28 rfl hl (by decide) rfl (fun ls hl => ?_)
          refine lv_goto (tgt := 8) hx hb dX5_decimals_29 (by decide) ?_
          exact ih (k + 1) (r / 10) (by omega) (by omega) hE ls (lv_sub hl [0, 1, 2] rfl)
  refine lv_iconst (v := 1) hx hb dX5_decimals_0 (by decide) ?_
  refine lv_istore_n (lv' := [(2, .int 1), (0, .long v)]) hx hb dX5_decimals_1 rfl hl (by decide) rfl (fun ls hl => ?_)
  refine lv_lload_n hx hb dX5_decimals_2 rfl (lv_at hl 1 rfl) ?_
  refine lv_ldc2 hx hb hown (hts (.constantLong RX5 17 10) (by decide +kernel)) dX5_decimals_3 ?_
  refine lv_ldiv hx hb dX5_decimals_6 (by decide) ?_
  refine lv_lstore_n (lv' := [(3, .long (v / 10)), (2, .int 1), (0, .long v)]) hx hb dX5_decimals_7 rfl hl (by decide) rfl (fun ls hl => ?_)
  exact loop_8 18 1 (v / 10) (by omega) (by omega) hE ls (lv_sub hl [0, 1, 2] rfl)
theorem FX5_decimals_l8_le (n : Nat) : ∀ (k : Nat) (r : Int64), 1 ≤ k → k ≤ 18 → k + n = 19 → ∃ j : Nat, 1 ≤ j ∧ j ≤ 18 ∧ FX5_decimals_l8 n k r = nI j := by
  induction n with
  | zero => intro k r h0 h1 h2; omega
  | succ n ih =>
    intro k r h0 h1 h2
    rw [FX5_decimals_l8]
    split
    · exact ⟨k, h0, h1, rfl⟩
    · split
      · exact ⟨k, h0, h1, rfl⟩
      · exact ih (k + 1) _ (by omega) (by omega) (by omega)
theorem FX5_decimals_le (v : Int64) : ∃ j : Nat, 1 ≤ j ∧ j ≤ 18 ∧ FX5_decimals v = nI j := FX5_decimals_l8_le 18 1 _ (by omega) (by omega) (by omega)
theorem beh_le {x y w : Int32} {k j : Nat} (hx : x = nI j) (hj : j ≤ 18) (hj1 : 1 ≤ j) (hw : ¬ w < 0) (hy : y = x - 1 - w) (h0 : 0 ≤ y) (hk : k ≤ 17) (h : ¬ y ≤ nI k) : k + 1 ≤ 17 := by
  subst hx
  have e1 : (nI j).toInt = (j : Int) := nI_toInt (by omega)
  have e2 : (nI k).toInt = (k : Int) := nI_toInt (by omega)
  obtain ⟨i, hi, rfl⟩ := nI_of hw
  have e3 : (nI i).toInt = (i : Int) := nI_toInt hi
  have e4 : nI j - 1 - nI i = nI (j - 1) - nI i := by rw [show (1 : Int32) = nI 1 from rfl, pk_sub (a := j) (b := 1) hj1]
  rw [e4] at hy
  have e5 : y.toInt = ((j - 1 : Nat) : Int) - i := by
    rw [hy, Int32.toInt_sub, nI_toInt (by omega), e3, Int.bmod_def]
    omega
  rw [Int32.le_iff_toInt_le, e2] at h
  omega
def FX5_decimalAt_l25 (v : Int64) (w : Int32) : Nat → Nat → Int64 → Int32
  | 0, _, _ => 0
  | n + 1, k, r => if (((FX5_decimals v) - 1) - w) ≤ (nI k) then (r - r / 10 * 10).toInt32 else FX5_decimalAt_l25 v w n (k + 1) (r / 10)
def FX5_decimalAt (v : Int64) (w : Int32) : Int32 := if w < 0 then (-1) else (if 0 ≤ (((FX5_decimals v) - 1) - w) then FX5_decimalAt_l25 v w 18 0 v else (-1))
set_option maxHeartbeats 4000000 in
set_option maxRecDepth 100000 in
theorem kX5_decimalAt (l : Launch) (D : va_G) (cI cJ cZ : ClassId) (v : Int64) (w : Int32) : Met l yX5_decimalAt wsX5_decimalAt ({ frames := 1, cells := 0, slots := 0, locals := 24 }) (rP D (tz cI cJ cZ) [.long v, .int w] []) (k2_QcV (.int (FX5_decimalAt v w))) 0 0 (fun _ => False) := by
  refine Met.ofW (cc := cX5_decimalAt) (maxL := 7) (ret := (some .int)) (by decide) rfl ?_
  intro p e s m args below meth c s₁ B hml hv
  obtain ⟨rfl, hP, hK, hN⟩ := hv
  have hx := B.exec
  have hb := B.bytes
  have hr := B.returns
  have hts := atoms_spec (ws := wsX5_decimalAt) B.pre
  have hown : s.vm.findClass RX5 = some m.cls := findClass_of_methodNamed B.named
  have hlocks := B.notSynchronized
  generalize hE : FX5_decimalAt v w = R0
  rw [FX5_decimalAt] at hE
  have hl := lv_entry ([.long v, .int w]) (n := 7) (Nat.le_of_ble_eq_true rfl)
  rw [lg_entry_eq]
  generalize (lg_sl ([.long v, .int w]) ++ List.replicate (7 - (lg_sl ([.long v, .int w])).length) Slot.unset).toArray = ls at hl ⊢
  have hl : lv_has ls 7 [(0, .long v), (2, .int w)] := hl
  obtain ⟨j, hj1, hj2, hj3⟩ := FX5_decimals_le v
  have loop_25 : ∀ (n : Nat) (k : Nat) (r : Int64), k ≤ 17 → k + n = 18 → ¬ w < 0 → 0 ≤ FX5_decimals v - 1 - w → FX5_decimalAt_l25 v w n k r = R0 → ∀ ls : Array Slot, lv_has ls 7 [(6, .int (nI k)), (4, .long r), (3, .int (((FX5_decimals v) - 1) - w)), (0, .long v), (2, .int w)] → W p l e (headSpec wsX5_decimalAt ({ frames := 1, cells := 0, slots := 0, locals := 24 })).room s m ([.long v, .int w] : List Value).toArray below meth c s.heap [] 0 0 (MQ below (k2_QcV (.int R0)) ([.long v, .int w] : List Value).toArray s 0 0 (fun _ => False)) (F0 m 25 ls []) := by
    intro n
    induction n with
    | zero =>
      intro k r i_1 i_2 i_3 i_4
      exact absurd i_1 (by omega)
    | succ n ih =>
      intro k r i_1 i_2 i_3 i_4 hE ls hl
      rw [FX5_decimalAt_l25] at hE
      refine lv_iload hx hb dX5_decimalAt_25 (lv_at hl 0 rfl) ?_
      refine lv_iload_n hx hb dX5_decimalAt_27 rfl (lv_at hl 2 rfl) ?_
      refine lv_icmp_ge (tgt := 45) hx hb dX5_decimalAt_28 (by decide) (fun c_3 => ?_) (fun c_3 => ?_)
      · rw [if_pos c_3] at hE
        refine lv_lload hx hb dX5_decimalAt_45 (lv_at hl 1 rfl) ?_
        refine lv_ldc2 hx hb hown (hts (.constantLong RX5 17 10) (by decide +kernel)) dX5_decimalAt_47 ?_
        refine lv_lrem hx hb dX5_decimalAt_50 (by decide) ?_
        refine lv_l2i hx hb dX5_decimalAt_51 rfl ?_
        exact W.iret hx hb hr (fun t ht hW => ⟨by rw [← hE], ht⟩) (fun q h => absurd h List.not_mem_nil) dX5_decimalAt_52
      · rw [if_neg c_3] at hE
        refine lv_lload hx hb dX5_decimalAt_31 (lv_at hl 1 rfl) ?_
        refine lv_ldc2 hx hb hown (hts (.constantLong RX5 17 10) (by decide +kernel)) dX5_decimalAt_33 ?_
        refine lv_ldiv hx hb dX5_decimalAt_36 (by decide) ?_
        refine lv_lstore (lv' := [(4, .long (r / 10)), (6, .int (nI k)), (3, .int (((FX5_decimals v) - 1) - w)), (0, .long v), (2, .int w)]) hx hb dX5_decimalAt_37 hl (by decide) rfl (fun ls hl => ?_)
        refine lv_iinc (v := nI (k + 1)) (lv' := [(6, .int (nI (k + 1))), (4, .long (r / 10)), (3, .int (((FX5_decimals v) - 1) - w)), (0, .long v), (2, .int w)]) hx hb dX5_decimalAt_39 hl (k := 1) rfl (nI_1 k) (by decide) rfl (fun ls hl => ?_)
        refine lv_goto (tgt := 25) hx hb dX5_decimalAt_42 (by decide) ?_
        exact ih (k + 1) (r / 10) (beh_le hj3 hj2 hj1 i_3 rfl i_4 i_1 (by assumption)) (by omega) i_3 i_4 hE ls (lv_sub hl [0, 1, 2, 3, 4] rfl)
  refine lv_lload_n hx hb dX5_decimalAt_0 rfl (lv_at hl 0 rfl) ?_
  refine rd_call (va_runS (As := [.long v]) (rest := []) ⟨hx, hb, hml, hown, hts⟩ (kX5_decimals l D cI cJ cZ v) (va_cwS 1 hts gX5_decimalAt_X5_decimals rfl rfl rfl (by decide +kernel) ⟨Nat.le_of_ble_eq_true rfl, Nat.le_of_ble_eq_true rfl⟩) ⟨rP_blind, rP_pre (va_P_nil) hK hN⟩ rfl rfl hl.1 rfl (lv_room (Nat.le_of_ble_eq_true rfl)) dX5_decimalAt_1 ⟨Nat.zero_le _, Nat.zero_le _⟩) ?_
  refine lv_iconst (v := 1) hx hb dX5_decimalAt_4 (by decide) ?_
  refine lv_isub hx hb dX5_decimalAt_5 ?_
  refine lv_iload_n hx hb dX5_decimalAt_6 rfl (lv_at hl 1 rfl) ?_
  refine lv_isub hx hb dX5_decimalAt_7 ?_
  refine lv_istore_n (lv' := [(3, .int (((FX5_decimals v) - 1) - w)), (0, .long v), (2, .int w)]) hx hb dX5_decimalAt_8 rfl hl (by decide) rfl (fun ls hl => ?_)
  refine lv_iload_n hx hb dX5_decimalAt_9 rfl (lv_at hl 2 rfl) ?_
  refine lv_if_lt (tgt := 17) hx hb dX5_decimalAt_10 (by decide) (fun c_1 => ?_) (fun c_1 => ?_)
  · rw [if_pos c_1] at hE
    refine lv_iconst (v := (-1)) hx hb dX5_decimalAt_17 (by decide) ?_
    exact W.iret hx hb hr (fun t ht hW => ⟨by rw [← hE], ht⟩) (fun q h => absurd h List.not_mem_nil) dX5_decimalAt_18
  · rw [if_neg c_1] at hE
    refine lv_iload_n hx hb dX5_decimalAt_13 rfl (lv_at hl 0 rfl) ?_
    refine lv_if_ge (tgt := 19) hx hb dX5_decimalAt_14 (by decide) (fun c_2 => ?_) (fun c_2 => ?_)
    · rw [if_pos c_2] at hE
      refine lv_lload_n hx hb dX5_decimalAt_19 rfl (lv_at hl 1 rfl) ?_
      refine lv_lstore (lv' := [(4, .long v), (3, .int (((FX5_decimals v) - 1) - w)), (0, .long v), (2, .int w)]) hx hb dX5_decimalAt_20 hl (by decide) rfl (fun ls hl => ?_)
      refine lv_iconst (v := 0) hx hb dX5_decimalAt_22 (by decide) ?_
      refine lv_istore (lv' := [(6, .int 0), (4, .long v), (3, .int (((FX5_decimals v) - 1) - w)), (0, .long v), (2, .int w)]) hx hb dX5_decimalAt_23 hl (by decide) rfl (fun ls hl => ?_)
      exact loop_25 18 0 v (by omega) (by omega) (by assumption) (by assumption) hE ls (lv_sub hl [0, 1, 2, 3, 4] rfl)
    · rw [if_neg c_2] at hE
      refine lv_iconst (v := (-1)) hx hb dX5_decimalAt_17 (by decide) ?_
      exact W.iret hx hb hr (fun t ht hW => ⟨by rw [← hE], ht⟩) (fun q h => absurd h List.not_mem_nil) dX5_decimalAt_18
end
section
def FX4_exists (mn : Nat) (k : Int32) : Int32 := FX8_isIndex k (nI mn)
theorem FX4_exists_b (mn : Nat) (k : Int32) : isB (FX4_exists mn k) := by
  unfold FX4_exists
  repeat' split
  all_goals first | exact isB_0 | exact isB_1 | exact FX8_isIndex_b _ _
set_option maxHeartbeats 4000000 in
set_option maxRecDepth 100000 in
theorem kX4_exists (l : Launch) (D : va_G) (cI cJ cZ : ClassId) (qm : Nat) (m1 : Nat) (m2 : Nat) (m3 : Nat) (m4 : Nat) (mf : Nat → Int32) (mp : Nat → Int32) (ms : Nat → Int32) (mu : Nat → Int32) (mn : Nat) (k : Int32) : Met l yX4_exists wsX4_exists ({ frames := 1, cells := 0, slots := 0, locals := 21 }) (rP D (tz cI cJ cZ) [.ref qm, .int k] [(qm, .inr (5, [.ref m1, .ref m2, .ref m3, .ref m4, .int (nI mn)])), (m1, .inl (cZ, 6, .inl mf)), (m2, .inl (cZ, 6, .inl mp)), (m3, .inl (cI, 6, .inl ms)), (m4, .inl (cI, 6, .inl mu))]) (k2_QcV (.int (FX4_exists mn k))) 0 0 (fun _ => False) := by
  refine Met.ofW (cc := cX4_exists) (maxL := 2) (ret := (some .boolean)) (by decide) rfl ?_
  intro p e s m args below meth c s₁ B hml hv
  obtain ⟨rfl, hP, hK, hN⟩ := hv
  have hx := B.exec
  have hb := B.bytes
  have hr := B.returns
  have hts := atoms_spec (ws := wsX4_exists) B.pre
  have hown : s.vm.findClass RX4 = some m.cls := findClass_of_methodNamed B.named
  have hlocks := B.notSynchronized
  have iw_5 : ∀ w ∈ u_ws RX4 TX4 5, w ∈ wsX4_exists := by decide +kernel
  generalize hE : FX4_exists mn k = R0
  rw [FX4_exists] at hE
  have hl := lv_entry ([.ref qm, .int k]) (n := 2) (Nat.le_of_ble_eq_true rfl)
  rw [lg_entry_eq]
  generalize (lg_sl ([.ref qm, .int k]) ++ List.replicate (2 - (lg_sl ([.ref qm, .int k])).length) Slot.unset).toArray = ls at hl ⊢
  have hl : lv_has ls 2 [(0, .ref qm), (1, .int k)] := hl
  refine lv_iload_n hx hb dX4_exists_0 rfl (lv_at hl 1 rfl) ?_
  refine lv_aload_n hx hb dX4_exists_1 rfl (lv_at hl 0 rfl) ?_
  refine va_get (D := D) (ci := 5) (v := .int (nI mn)) (C := RX4) (T := TX4) (N := 5) hx hb hts iw_5 hown hK hP 0 rfl rfl 4 (by decide) (hts (.fieldLink RX4 25 "DepositCodes$Machines" "size" "I") (by decide +kernel)) (fun _ h9 => h9) rfl dX4_exists_2 ?_
  refine rd_call (va_runSN (As := [.int k, .int (nI mn)]) (rest := []) ⟨hx, hb, hml, hown, hts⟩ (kX8_isIndex l D cI cJ cZ k (nI mn)) ⟨va_cnB 2 hts gX4_exists_X8_isIndex_n29 rfl rfl rfl hN.2.2.2.2.1 (hts (.initialized RX8) (by decide +kernel)) (by decide +kernel) ⟨Nat.le_of_ble_eq_true rfl, Nat.le_of_ble_eq_true rfl⟩, hts (.static yX8_isIndex) (by decide +kernel), trivial⟩ ⟨rP_blind, rP_pre (va_P_nil) hK hN⟩ rfl rfl hl.1 rfl (lv_room (Nat.le_of_ble_eq_true rfl)) dX4_exists_5 ⟨Nat.zero_le _, Nat.zero_le _⟩) ?_
  exact W.zret hx hb hr (isB_nar (FX8_isIndex_b _ _)) (fun t ht hW => ⟨by rw [← hE], ht⟩) (fun q h => absurd h List.not_mem_nil) dX4_exists_8
def FX4_isFull (mf : Nat → Int32) (mn : Nat) (k : Int32) : Int32 := if (FX4_exists mn k) = 0 then 0 else (if (mf k.toNatClampNeg) = 0 then 0 else 1)
theorem FX4_isFull_b (mf : Nat → Int32) (mn : Nat) (k : Int32) : isB (FX4_isFull mf mn k) := by
  unfold FX4_isFull
  repeat' split
  all_goals first | exact isB_0 | exact isB_1
set_option maxHeartbeats 4000000 in
set_option maxRecDepth 100000 in
theorem kX4_isFull (l : Launch) (D : va_G) (cI cJ cZ : ClassId) (qm : Nat) (m1 : Nat) (m2 : Nat) (m3 : Nat) (m4 : Nat) (mf : Nat → Int32) (mp : Nat → Int32) (ms : Nat → Int32) (mu : Nat → Int32) (mn : Nat) (k : Int32) (hmn : mn ≤ 6) : Met l yX4_isFull wsX4_isFull ({ frames := 2, cells := 0, slots := 0, locals := 42 }) (rP D (tz cI cJ cZ) [.ref qm, .int k] [(qm, .inr (5, [.ref m1, .ref m2, .ref m3, .ref m4, .int (nI mn)])), (m1, .inl (cZ, 6, .inl mf)), (m2, .inl (cZ, 6, .inl mp)), (m3, .inl (cI, 6, .inl ms)), (m4, .inl (cI, 6, .inl mu))]) (k2_QcV (.int (FX4_isFull mf mn k))) 0 0 (fun _ => False) := by
  refine Met.ofW (cc := cX4_isFull) (maxL := 2) (ret := (some .boolean)) (by decide) rfl ?_
  intro p e s m args below meth c s₁ B hml hv
  obtain ⟨rfl, hP, hK, hN⟩ := hv
  have hx := B.exec
  have hb := B.bytes
  have hr := B.returns
  have hts := atoms_spec (ws := wsX4_isFull) B.pre
  have hown : s.vm.findClass RX4 = some m.cls := findClass_of_methodNamed B.named
  have hlocks := B.notSynchronized
  have iw_5 : ∀ w ∈ u_ws RX4 TX4 5, w ∈ wsX4_isFull := by decide +kernel
  generalize hE : FX4_isFull mf mn k = R0
  rw [FX4_isFull] at hE
  have hl := lv_entry ([.ref qm, .int k]) (n := 2) (Nat.le_of_ble_eq_true rfl)
  rw [lg_entry_eq]
  generalize (lg_sl ([.ref qm, .int k]) ++ List.replicate (2 - (lg_sl ([.ref qm, .int k])).length) Slot.unset).toArray = ls at hl ⊢
  have hl : lv_has ls 2 [(0, .ref qm), (1, .int k)] := hl
  refine lv_aload_n hx hb dX4_isFull_0 rfl (lv_at hl 0 rfl) ?_
  refine lv_iload_n hx hb dX4_isFull_1 rfl (lv_at hl 1 rfl) ?_
  refine rd_call (va_runV (As := [.int k]) (rest := []) ⟨hx, hb, hml, hown, hts⟩ (kX4_exists l D cI cJ cZ qm m1 m2 m3 m4 mf mp ms mu mn k) (cwV 1 hts gX4_isFull_X4_exists rfl rfl rfl (by decide +kernel) ⟨Nat.le_of_ble_eq_true rfl, Nat.le_of_ble_eq_true rfl⟩) ⟨rP_blind, va_recv hK hP (ci := 5) (q0 := 0) rfl rfl, rP_pre (hP.sub [0, 1, 2, 3, 4] rfl) hK hN⟩ rfl rfl hl.1 rfl (lv_room (Nat.le_of_ble_eq_true rfl)) dX4_isFull_2 ⟨Nat.zero_le _, Nat.zero_le _⟩) ?_
  refine lv_if_eq (tgt := 21) hx hb dX4_isFull_5 (by decide) (fun c_1 => ?_) (fun c_1 => ?_)
  · rw [if_pos c_1] at hE
    refine lv_iconst (v := 0) hx hb dX4_isFull_21 (by decide) ?_
    exact W.zret hx hb hr narrow_b0 (fun t ht hW => ⟨by rw [← hE], ht⟩) (fun q h => absurd h List.not_mem_nil) dX4_isFull_22
  · rw [if_neg c_1] at hE
    have hin : vp_in k 6 := isIx_in (k := k) (n := mn) (by assumption) hmn (by decide)
    refine lv_aload_n hx hb dX4_isFull_8 rfl (lv_at hl 0 rfl) ?_
    refine va_get (D := D) (ci := 5) (v := .ref m1) (C := RX4) (T := TX4) (N := 5) hx hb hts iw_5 hown hK hP 0 rfl rfl 0 (by decide) (hts (.fieldLink RX4 11 "DepositCodes$Machines" "fullOnes" "[Z") (by decide +kernel)) (fun _ h9 => h9) rfl dX4_isFull_9 ?_
    refine lv_iload_n hx hb dX4_isFull_12 rfl (lv_at hl 1 rfl) ?_
    refine va_zald hx hb hK hP 1 2 rfl rfl (by assumption) dX4_isFull_13 ?_
    refine lv_if_eq (tgt := 21) hx hb dX4_isFull_14 (by decide) (fun c_2 => ?_) (fun c_2 => ?_)
    · rw [if_pos c_2] at hE
      refine lv_iconst (v := 0) hx hb dX4_isFull_21 (by decide) ?_
      exact W.zret hx hb hr narrow_b0 (fun t ht hW => ⟨by rw [← hE], ht⟩) (fun q h => absurd h List.not_mem_nil) dX4_isFull_22
    · rw [if_neg c_2] at hE
      refine lv_iconst (v := 1) hx hb dX4_isFull_17 (by decide) ?_
      refine lv_goto (tgt := 22) hx hb dX4_isFull_18 (by decide) ?_
      exact W.zret hx hb hr narrow_b1 (fun t ht hW => ⟨by rw [← hE], ht⟩) (fun q h => absurd h List.not_mem_nil) dX4_isFull_22
def FX4_hasPower (mp : Nat → Int32) (mn : Nat) (k : Int32) : Int32 := if (FX4_exists mn k) = 0 then 0 else (if (mp k.toNatClampNeg) = 0 then 0 else 1)
theorem FX4_hasPower_b (mp : Nat → Int32) (mn : Nat) (k : Int32) : isB (FX4_hasPower mp mn k) := by
  unfold FX4_hasPower
  repeat' split
  all_goals first | exact isB_0 | exact isB_1
set_option maxHeartbeats 4000000 in
set_option maxRecDepth 100000 in
theorem kX4_hasPower (l : Launch) (D : va_G) (cI cJ cZ : ClassId) (qm : Nat) (m1 : Nat) (m2 : Nat) (m3 : Nat) (m4 : Nat) (mf : Nat → Int32) (mp : Nat → Int32) (ms : Nat → Int32) (mu : Nat → Int32) (mn : Nat) (k : Int32) (hmn : mn ≤ 6) : Met l yX4_hasPower wsX4_hasPower ({ frames := 2, cells := 0, slots := 0, locals := 42 }) (rP D (tz cI cJ cZ) [.ref qm, .int k] [(qm, .inr (5, [.ref m1, .ref m2, .ref m3, .ref m4, .int (nI mn)])), (m1, .inl (cZ, 6, .inl mf)), (m2, .inl (cZ, 6, .inl mp)), (m3, .inl (cI, 6, .inl ms)), (m4, .inl (cI, 6, .inl mu))]) (k2_QcV (.int (FX4_hasPower mp mn k))) 0 0 (fun _ => False) := by
  refine Met.ofW (cc := cX4_hasPower) (maxL := 2) (ret := (some .boolean)) (by decide) rfl ?_
  intro p e s m args below meth c s₁ B hml hv
  obtain ⟨rfl, hP, hK, hN⟩ := hv
  have hx := B.exec
  have hb := B.bytes
  have hr := B.returns
  have hts := atoms_spec (ws := wsX4_hasPower) B.pre
  have hown : s.vm.findClass RX4 = some m.cls := findClass_of_methodNamed B.named
  have hlocks := B.notSynchronized
  have iw_5 : ∀ w ∈ u_ws RX4 TX4 5, w ∈ wsX4_hasPower := by decide +kernel
  generalize hE : FX4_hasPower mp mn k = R0
  rw [FX4_hasPower] at hE
  have hl := lv_entry ([.ref qm, .int k]) (n := 2) (Nat.le_of_ble_eq_true rfl)
  rw [lg_entry_eq]
  generalize (lg_sl ([.ref qm, .int k]) ++ List.replicate (2 - (lg_sl ([.ref qm, .int k])).length) Slot.unset).toArray = ls at hl ⊢
  have hl : lv_has ls 2 [(0, .ref qm), (1, .int k)] := hl
  refine lv_aload_n hx hb dX4_hasPower_0 rfl (lv_at hl 0 rfl) ?_
  refine lv_iload_n hx hb dX4_hasPower_1 rfl (lv_at hl 1 rfl) ?_
  refine rd_call (va_runV (As := [.int k]) (rest := []) ⟨hx, hb, hml, hown, hts⟩ (kX4_exists l D cI cJ cZ qm m1 m2 m3 m4 mf mp ms mu mn k) (cwV 1 hts gX4_hasPower_X4_exists rfl rfl rfl (by decide +kernel) ⟨Nat.le_of_ble_eq_true rfl, Nat.le_of_ble_eq_true rfl⟩) ⟨rP_blind, va_recv hK hP (ci := 5) (q0 := 0) rfl rfl, rP_pre (hP.sub [0, 1, 2, 3, 4] rfl) hK hN⟩ rfl rfl hl.1 rfl (lv_room (Nat.le_of_ble_eq_true rfl)) dX4_hasPower_2 ⟨Nat.zero_le _, Nat.zero_le _⟩) ?_
  refine lv_if_eq (tgt := 21) hx hb dX4_hasPower_5 (by decide) (fun c_1 => ?_) (fun c_1 => ?_)
  · rw [if_pos c_1] at hE
    refine lv_iconst (v := 0) hx hb dX4_hasPower_21 (by decide) ?_
    exact W.zret hx hb hr narrow_b0 (fun t ht hW => ⟨by rw [← hE], ht⟩) (fun q h => absurd h List.not_mem_nil) dX4_hasPower_22
  · rw [if_neg c_1] at hE
    have hin : vp_in k 6 := isIx_in (k := k) (n := mn) (by assumption) hmn (by decide)
    refine lv_aload_n hx hb dX4_hasPower_8 rfl (lv_at hl 0 rfl) ?_
    refine va_get (D := D) (ci := 5) (v := .ref m2) (C := RX4) (T := TX4) (N := 5) hx hb hts iw_5 hown hK hP 0 rfl rfl 1 (by decide) (hts (.fieldLink RX4 15 "DepositCodes$Machines" "poweredOnes" "[Z") (by decide +kernel)) (fun _ h9 => h9) rfl dX4_hasPower_9 ?_
    refine lv_iload_n hx hb dX4_hasPower_12 rfl (lv_at hl 1 rfl) ?_
    refine va_zald hx hb hK hP 2 2 rfl rfl (by assumption) dX4_hasPower_13 ?_
    refine lv_if_eq (tgt := 21) hx hb dX4_hasPower_14 (by decide) (fun c_2 => ?_) (fun c_2 => ?_)
    · rw [if_pos c_2] at hE
      refine lv_iconst (v := 0) hx hb dX4_hasPower_21 (by decide) ?_
      exact W.zret hx hb hr narrow_b0 (fun t ht hW => ⟨by rw [← hE], ht⟩) (fun q h => absurd h List.not_mem_nil) dX4_hasPower_22
    · rw [if_neg c_2] at hE
      refine lv_iconst (v := 1) hx hb dX4_hasPower_17 (by decide) ?_
      refine lv_goto (tgt := 22) hx hb dX4_hasPower_18 (by decide) ?_
      exact W.zret hx hb hr narrow_b1 (fun t ht hW => ⟨by rw [← hE], ht⟩) (fun q h => absurd h List.not_mem_nil) dX4_hasPower_22
def FX4_setOf (ms : Nat → Int32) (mn : Nat) (k : Int32) : Int32 := if (FX4_exists mn k) = 0 then (-1) else ms k.toNatClampNeg
set_option maxHeartbeats 4000000 in
set_option maxRecDepth 100000 in
theorem kX4_setOf (l : Launch) (D : va_G) (cI cJ cZ : ClassId) (qm : Nat) (m1 : Nat) (m2 : Nat) (m3 : Nat) (m4 : Nat) (mf : Nat → Int32) (mp : Nat → Int32) (ms : Nat → Int32) (mu : Nat → Int32) (mn : Nat) (k : Int32) (hmn : mn ≤ 6) : Met l yX4_setOf wsX4_setOf ({ frames := 2, cells := 0, slots := 0, locals := 42 }) (rP D (tz cI cJ cZ) [.ref qm, .int k] [(qm, .inr (5, [.ref m1, .ref m2, .ref m3, .ref m4, .int (nI mn)])), (m1, .inl (cZ, 6, .inl mf)), (m2, .inl (cZ, 6, .inl mp)), (m3, .inl (cI, 6, .inl ms)), (m4, .inl (cI, 6, .inl mu))]) (k2_QcV (.int (FX4_setOf ms mn k))) 0 0 (fun _ => False) := by
  refine Met.ofW (cc := cX4_setOf) (maxL := 2) (ret := (some .int)) (by decide) rfl ?_
  intro p e s m args below meth c s₁ B hml hv
  obtain ⟨rfl, hP, hK, hN⟩ := hv
  have hx := B.exec
  have hb := B.bytes
  have hr := B.returns
  have hts := atoms_spec (ws := wsX4_setOf) B.pre
  have hown : s.vm.findClass RX4 = some m.cls := findClass_of_methodNamed B.named
  have hlocks := B.notSynchronized
  have iw_5 : ∀ w ∈ u_ws RX4 TX4 5, w ∈ wsX4_setOf := by decide +kernel
  generalize hE : FX4_setOf ms mn k = R0
  rw [FX4_setOf] at hE
  have hl := lv_entry ([.ref qm, .int k]) (n := 2) (Nat.le_of_ble_eq_true rfl)
  rw [lg_entry_eq]
  generalize (lg_sl ([.ref qm, .int k]) ++ List.replicate (2 - (lg_sl ([.ref qm, .int k])).length) Slot.unset).toArray = ls at hl ⊢
  have hl : lv_has ls 2 [(0, .ref qm), (1, .int k)] := hl
  refine lv_aload_n hx hb dX4_setOf_0 rfl (lv_at hl 0 rfl) ?_
  refine lv_iload_n hx hb dX4_setOf_1 rfl (lv_at hl 1 rfl) ?_
  refine rd_call (va_runV (As := [.int k]) (rest := []) ⟨hx, hb, hml, hown, hts⟩ (kX4_exists l D cI cJ cZ qm m1 m2 m3 m4 mf mp ms mu mn k) (cwV 1 hts gX4_setOf_X4_exists rfl rfl rfl (by decide +kernel) ⟨Nat.le_of_ble_eq_true rfl, Nat.le_of_ble_eq_true rfl⟩) ⟨rP_blind, va_recv hK hP (ci := 5) (q0 := 0) rfl rfl, rP_pre (hP.sub [0, 1, 2, 3, 4] rfl) hK hN⟩ rfl rfl hl.1 rfl (lv_room (Nat.le_of_ble_eq_true rfl)) dX4_setOf_2 ⟨Nat.zero_le _, Nat.zero_le _⟩) ?_
  refine lv_if_eq (tgt := 17) hx hb dX4_setOf_5 (by decide) (fun c_1 => ?_) (fun c_1 => ?_)
  · rw [if_pos c_1] at hE
    refine lv_iconst (v := (-1)) hx hb dX4_setOf_17 (by decide) ?_
    exact W.iret hx hb hr (fun t ht hW => ⟨by rw [← hE], ht⟩) (fun q h => absurd h List.not_mem_nil) dX4_setOf_18
  · rw [if_neg c_1] at hE
    have hin : vp_in k 6 := isIx_in (k := k) (n := mn) (by assumption) hmn (by decide)
    refine lv_aload_n hx hb dX4_setOf_8 rfl (lv_at hl 0 rfl) ?_
    refine va_get (D := D) (ci := 5) (v := .ref m3) (C := RX4) (T := TX4) (N := 5) hx hb hts iw_5 hown hK hP 0 rfl rfl 2 (by decide) (hts (.fieldLink RX4 18 "DepositCodes$Machines" "sets" "[I") (by decide +kernel)) (fun _ h9 => h9) rfl dX4_setOf_9 ?_
    refine lv_iload_n hx hb dX4_setOf_12 rfl (lv_at hl 1 rfl) ?_
    refine va_iald hx hb hK hP 3 0 rfl rfl (by assumption) dX4_setOf_13 ?_
    refine lv_goto (tgt := 18) hx hb dX4_setOf_14 (by decide) ?_
    exact W.iret hx hb hr (fun t ht hW => ⟨by rw [← hE], ht⟩) (fun q h => absurd h List.not_mem_nil) dX4_setOf_18
def FX4_setFull (mf : Nat → Int32) (mn : Nat) (k : Int32) (on : Int32) : Int32 × (Nat → Int32) := if (FX4_exists mn k) = 0 then (0, mf) else (1, upd mf k.toNatClampNeg (vp_nar .boolean on))
theorem FX4_setFull_b (mf : Nat → Int32) (mn : Nat) (k : Int32) (on : Int32) : isB ((FX4_setFull mf mn k on).1) := by
  unfold FX4_setFull
  repeat' split
  all_goals first | exact isB_0 | exact isB_1
set_option maxHeartbeats 4000000 in
set_option maxRecDepth 100000 in
theorem kX4_setFull (l : Launch) (D : va_G) (cI cJ cZ : ClassId) (qm : Nat) (m1 : Nat) (m2 : Nat) (m3 : Nat) (m4 : Nat) (mf : Nat → Int32) (mp : Nat → Int32) (ms : Nat → Int32) (mu : Nat → Int32) (mn : Nat) (k : Int32) (on : Int32) (sz : Nat) (hmn : mn ≤ 6) : Met l yX4_setFull wsX4_setFull ({ frames := 2, cells := 0, slots := 0, locals := 42 }) (mP D (tz cI cJ cZ) [.ref qm, .int k, .int on] sz [(qm, .inr (5, [.ref m1, .ref m2, .ref m3, .ref m4, .int (nI mn)])), (m1, .inl (cZ, 6, .inl mf)), (m2, .inl (cZ, 6, .inl mp)), (m3, .inl (cI, 6, .inl ms)), (m4, .inl (cI, 6, .inl mu))]) (mQ D (some (.int ((FX4_setFull mf mn k on).1))) [(qm, .inr (5, [.ref m1, .ref m2, .ref m3, .ref m4, .int (nI mn)])), (m1, .inl (cZ, 6, .inl ((FX4_setFull mf mn k on).2))), (m2, .inl (cZ, 6, .inl mp)), (m3, .inl (cI, 6, .inl ms)), (m4, .inl (cI, 6, .inl mu))] (va_A [(qm, .inr (5, [.ref m1, .ref m2, .ref m3, .ref m4, .int (nI mn)])), (m1, .inl (cZ, 6, .inl mf)), (m2, .inl (cZ, 6, .inl mp)), (m3, .inl (cI, 6, .inl ms)), (m4, .inl (cI, 6, .inl mu))] sz)) 0 0 (va_A [(qm, .inr (5, [.ref m1, .ref m2, .ref m3, .ref m4, .int (nI mn)])), (m1, .inl (cZ, 6, .inl mf)), (m2, .inl (cZ, 6, .inl mp)), (m3, .inl (cI, 6, .inl ms)), (m4, .inl (cI, 6, .inl mu))] sz) := by
  refine Met.ofW (cc := cX4_setFull) (maxL := 3) (ret := (some .boolean)) (by decide) rfl ?_
  intro p e s m args below meth c s₁ B hml hv
  obtain ⟨rfl, hsz, hP, hK, hD0, hN⟩ := hv
  have hx := B.exec
  have hb := B.bytes
  have hr := B.returns
  have hts := atoms_spec (ws := wsX4_setFull) B.pre
  have hown : s.vm.findClass RX4 = some m.cls := findClass_of_methodNamed B.named
  have hlocks := B.notSynchronized
  have iw_5 : ∀ w ∈ u_ws RX4 TX4 5, w ∈ wsX4_setFull := by decide +kernel
  subst hsz
  have hD := hD0.self (sz := s.heap.size)
  generalize hE : FX4_setFull mf mn k on = R0
  generalize hAe : va_A [(qm, .inr (5, [.ref m1, .ref m2, .ref m3, .ref m4, .int (nI mn)])), (m1, .inl (cZ, 6, .inl mf)), (m2, .inl (cZ, 6, .inl mp)), (m3, .inl (cI, 6, .inl ms)), (m4, .inl (cI, 6, .inl mu))] s.heap.size = A at hD ⊢
  have hA : ∀ q : Nat, s.heap.size ≤ q → A q := fun q h => by rw [← hAe]; exact Or.inr h
  have hS : va_S A s.heap s.heap [] := va_S.rf
  rw [FX4_setFull] at hE
  have hl := lv_entry ([.ref qm, .int k, .int on]) (n := 3) (Nat.le_of_ble_eq_true rfl)
  rw [lg_entry_eq]
  generalize (lg_sl ([.ref qm, .int k, .int on]) ++ List.replicate (3 - (lg_sl ([.ref qm, .int k, .int on])).length) Slot.unset).toArray = ls at hl ⊢
  have hl : lv_has ls 3 [(0, .ref qm), (1, .int k), (2, .int on)] := hl
  refine lv_aload_n hx hb dX4_setFull_0 rfl (lv_at hl 0 rfl) ?_
  refine lv_iload_n hx hb dX4_setFull_1 rfl (lv_at hl 1 rfl) ?_
  refine rd_call (va_runV (As := [.int k]) (rest := []) ⟨hx, hb, hml, hown, hts⟩ (kX4_exists l D cI cJ cZ qm m1 m2 m3 m4 mf mp ms mu mn k) (cwV 1 hts gX4_setFull_X4_exists rfl rfl rfl (by decide +kernel) ⟨Nat.le_of_ble_eq_true rfl, Nat.le_of_ble_eq_true rfl⟩) ⟨rP_blind, va_recv hK hP (ci := 5) (q0 := 0) rfl rfl, rP_pre (hP.sub [0, 1, 2, 3, 4] rfl) hK hN⟩ rfl rfl hl.1 rfl (lv_room (Nat.le_of_ble_eq_true rfl)) dX4_setFull_2 ⟨Nat.zero_le _, Nat.zero_le _⟩) ?_
  refine lv_if_ne (tgt := 10) hx hb dX4_setFull_5 (by decide) (fun c_1 => ?_) (fun c_1 => ?_)
  · rw [if_neg c_1] at hE
    have hin : vp_in k 6 := isIx_in (k := k) (n := mn) (by assumption) hmn (by decide)
    refine lv_aload_n hx hb dX4_setFull_10 rfl (lv_at hl 0 rfl) ?_
    refine va_get (D := D) (ci := 5) (v := .ref m1) (C := RX4) (T := TX4) (N := 5) hx hb hts iw_5 hown hK hP 0 rfl rfl 0 (by decide) (hts (.fieldLink RX4 11 "DepositCodes$Machines" "fullOnes" "[Z") (by decide +kernel)) (fun _ h9 => h9) rfl dX4_setFull_11 ?_
    refine lv_iload_n hx hb dX4_setFull_14 rfl (lv_at hl 1 rfl) ?_
    refine lv_iload_n hx hb dX4_setFull_15 rfl (lv_at hl 2 rfl) ?_
    refine va_zast hx hb hK hP hD hS 1 2 rfl rfl (by assumption) dX4_setFull_16 (fun H locs hP hD hS => ?_)
    have hP : va_P D vwCl [(qm, .inr (5, [.ref m1, .ref m2, .ref m3, .ref m4, .int (nI mn)])), (m1, .inl (cZ, 6, .inl (upd mf k.toNatClampNeg (vp_nar .boolean on)))), (m2, .inl (cZ, 6, .inl mp)), (m3, .inl (cI, 6, .inl ms)), (m4, .inl (cI, 6, .inl mu))] H := hP
    have hD : va_D A [(qm, .inr (5, [.ref m1, .ref m2, .ref m3, .ref m4, .int (nI mn)])), (m1, .inl (cZ, 6, .inl (upd mf k.toNatClampNeg (vp_nar .boolean on)))), (m2, .inl (cZ, 6, .inl mp)), (m3, .inl (cI, 6, .inl ms)), (m4, .inl (cI, 6, .inl mu))] := hD
    refine lv_iconst (v := 1) hx hb dX4_setFull_17 (by decide) ?_
    subst hE
    exact W.zret hx hb hr narrow_b1 (fun t ht hW => ⟨rfl, by rw [ht]; exact hP, hD, hS.F ht⟩) hS.2.2 dX4_setFull_18
  · rw [if_pos c_1] at hE
    refine lv_iconst (v := 0) hx hb dX4_setFull_8 (by decide) ?_
    subst hE
    exact W.zret hx hb hr narrow_b0 (fun t ht hW => ⟨rfl, by rw [ht]; exact hP, hD, hS.F ht⟩) hS.2.2 dX4_setFull_9
def FX4_setPower (mp : Nat → Int32) (mn : Nat) (k : Int32) (on : Int32) : Int32 × (Nat → Int32) := if (FX4_exists mn k) = 0 then (0, mp) else (1, upd mp k.toNatClampNeg (vp_nar .boolean on))
theorem FX4_setPower_b (mp : Nat → Int32) (mn : Nat) (k : Int32) (on : Int32) : isB ((FX4_setPower mp mn k on).1) := by
  unfold FX4_setPower
  repeat' split
  all_goals first | exact isB_0 | exact isB_1
set_option maxHeartbeats 4000000 in
set_option maxRecDepth 100000 in
theorem kX4_setPower (l : Launch) (D : va_G) (cI cJ cZ : ClassId) (qm : Nat) (m1 : Nat) (m2 : Nat) (m3 : Nat) (m4 : Nat) (mf : Nat → Int32) (mp : Nat → Int32) (ms : Nat → Int32) (mu : Nat → Int32) (mn : Nat) (k : Int32) (on : Int32) (sz : Nat) (hmn : mn ≤ 6) : Met l yX4_setPower wsX4_setPower ({ frames := 2, cells := 0, slots := 0, locals := 42 }) (mP D (tz cI cJ cZ) [.ref qm, .int k, .int on] sz [(qm, .inr (5, [.ref m1, .ref m2, .ref m3, .ref m4, .int (nI mn)])), (m1, .inl (cZ, 6, .inl mf)), (m2, .inl (cZ, 6, .inl mp)), (m3, .inl (cI, 6, .inl ms)), (m4, .inl (cI, 6, .inl mu))]) (mQ D (some (.int ((FX4_setPower mp mn k on).1))) [(qm, .inr (5, [.ref m1, .ref m2, .ref m3, .ref m4, .int (nI mn)])), (m1, .inl (cZ, 6, .inl mf)), (m2, .inl (cZ, 6, .inl ((FX4_setPower mp mn k on).2))), (m3, .inl (cI, 6, .inl ms)), (m4, .inl (cI, 6, .inl mu))] (va_A [(qm, .inr (5, [.ref m1, .ref m2, .ref m3, .ref m4, .int (nI mn)])), (m1, .inl (cZ, 6, .inl mf)), (m2, .inl (cZ, 6, .inl mp)), (m3, .inl (cI, 6, .inl ms)), (m4, .inl (cI, 6, .inl mu))] sz)) 0 0 (va_A [(qm, .inr (5, [.ref m1, .ref m2, .ref m3, .ref m4, .int (nI mn)])), (m1, .inl (cZ, 6, .inl mf)), (m2, .inl (cZ, 6, .inl mp)), (m3, .inl (cI, 6, .inl ms)), (m4, .inl (cI, 6, .inl mu))] sz) := by
  refine Met.ofW (cc := cX4_setPower) (maxL := 3) (ret := (some .boolean)) (by decide) rfl ?_
  intro p e s m args below meth c s₁ B hml hv
  obtain ⟨rfl, hsz, hP, hK, hD0, hN⟩ := hv
  have hx := B.exec
  have hb := B.bytes
  have hr := B.returns
  have hts := atoms_spec (ws := wsX4_setPower) B.pre
  have hown : s.vm.findClass RX4 = some m.cls := findClass_of_methodNamed B.named
  have hlocks := B.notSynchronized
  have iw_5 : ∀ w ∈ u_ws RX4 TX4 5, w ∈ wsX4_setPower := by decide +kernel
  subst hsz
  have hD := hD0.self (sz := s.heap.size)
  generalize hE : FX4_setPower mp mn k on = R0
  generalize hAe : va_A [(qm, .inr (5, [.ref m1, .ref m2, .ref m3, .ref m4, .int (nI mn)])), (m1, .inl (cZ, 6, .inl mf)), (m2, .inl (cZ, 6, .inl mp)), (m3, .inl (cI, 6, .inl ms)), (m4, .inl (cI, 6, .inl mu))] s.heap.size = A at hD ⊢
  have hA : ∀ q : Nat, s.heap.size ≤ q → A q := fun q h => by rw [← hAe]; exact Or.inr h
  have hS : va_S A s.heap s.heap [] := va_S.rf
  rw [FX4_setPower] at hE
  have hl := lv_entry ([.ref qm, .int k, .int on]) (n := 3) (Nat.le_of_ble_eq_true rfl)
  rw [lg_entry_eq]
  generalize (lg_sl ([.ref qm, .int k, .int on]) ++ List.replicate (3 - (lg_sl ([.ref qm, .int k, .int on])).length) Slot.unset).toArray = ls at hl ⊢
  have hl : lv_has ls 3 [(0, .ref qm), (1, .int k), (2, .int on)] := hl
  refine lv_aload_n hx hb dX4_setPower_0 rfl (lv_at hl 0 rfl) ?_
  refine lv_iload_n hx hb dX4_setPower_1 rfl (lv_at hl 1 rfl) ?_
  refine rd_call (va_runV (As := [.int k]) (rest := []) ⟨hx, hb, hml, hown, hts⟩ (kX4_exists l D cI cJ cZ qm m1 m2 m3 m4 mf mp ms mu mn k) (cwV 1 hts gX4_setPower_X4_exists rfl rfl rfl (by decide +kernel) ⟨Nat.le_of_ble_eq_true rfl, Nat.le_of_ble_eq_true rfl⟩) ⟨rP_blind, va_recv hK hP (ci := 5) (q0 := 0) rfl rfl, rP_pre (hP.sub [0, 1, 2, 3, 4] rfl) hK hN⟩ rfl rfl hl.1 rfl (lv_room (Nat.le_of_ble_eq_true rfl)) dX4_setPower_2 ⟨Nat.zero_le _, Nat.zero_le _⟩) ?_
  refine lv_if_ne (tgt := 10) hx hb dX4_setPower_5 (by decide) (fun c_1 => ?_) (fun c_1 => ?_)
  · rw [if_neg c_1] at hE
    have hin : vp_in k 6 := isIx_in (k := k) (n := mn) (by assumption) hmn (by decide)
    refine lv_aload_n hx hb dX4_setPower_10 rfl (lv_at hl 0 rfl) ?_
    refine va_get (D := D) (ci := 5) (v := .ref m2) (C := RX4) (T := TX4) (N := 5) hx hb hts iw_5 hown hK hP 0 rfl rfl 1 (by decide) (hts (.fieldLink RX4 15 "DepositCodes$Machines" "poweredOnes" "[Z") (by decide +kernel)) (fun _ h9 => h9) rfl dX4_setPower_11 ?_
    refine lv_iload_n hx hb dX4_setPower_14 rfl (lv_at hl 1 rfl) ?_
    refine lv_iload_n hx hb dX4_setPower_15 rfl (lv_at hl 2 rfl) ?_
    refine va_zast hx hb hK hP hD hS 2 2 rfl rfl (by assumption) dX4_setPower_16 (fun H locs hP hD hS => ?_)
    have hP : va_P D vwCl [(qm, .inr (5, [.ref m1, .ref m2, .ref m3, .ref m4, .int (nI mn)])), (m1, .inl (cZ, 6, .inl mf)), (m2, .inl (cZ, 6, .inl (upd mp k.toNatClampNeg (vp_nar .boolean on)))), (m3, .inl (cI, 6, .inl ms)), (m4, .inl (cI, 6, .inl mu))] H := hP
    have hD : va_D A [(qm, .inr (5, [.ref m1, .ref m2, .ref m3, .ref m4, .int (nI mn)])), (m1, .inl (cZ, 6, .inl mf)), (m2, .inl (cZ, 6, .inl (upd mp k.toNatClampNeg (vp_nar .boolean on)))), (m3, .inl (cI, 6, .inl ms)), (m4, .inl (cI, 6, .inl mu))] := hD
    refine lv_iconst (v := 1) hx hb dX4_setPower_17 (by decide) ?_
    subst hE
    exact W.zret hx hb hr narrow_b1 (fun t ht hW => ⟨rfl, by rw [ht]; exact hP, hD, hS.F ht⟩) hS.2.2 dX4_setPower_18
  · rw [if_pos c_1] at hE
    refine lv_iconst (v := 0) hx hb dX4_setPower_8 (by decide) ?_
    subst hE
    exact W.zret hx hb hr narrow_b0 (fun t ht hW => ⟨rfl, by rw [ht]; exact hP, hD, hS.F ht⟩) hS.2.2 dX4_setPower_9
def FX4_addUnprinted (mu : Nat → Int32) (mn : Nat) (k : Int32) : (Nat → Int32) := if (FX4_exists mn k) = 0 then mu else upd mu k.toNatClampNeg ((mu k.toNatClampNeg) + 1)
set_option maxHeartbeats 4000000 in
set_option maxRecDepth 100000 in
theorem kX4_addUnprinted (l : Launch) (D : va_G) (cI cJ cZ : ClassId) (qm : Nat) (m1 : Nat) (m2 : Nat) (m3 : Nat) (m4 : Nat) (mf : Nat → Int32) (mp : Nat → Int32) (ms : Nat → Int32) (mu : Nat → Int32) (mn : Nat) (k : Int32) (sz : Nat) (hmn : mn ≤ 6) : Met l yX4_addUnprinted wsX4_addUnprinted ({ frames := 2, cells := 0, slots := 0, locals := 42 }) (mP D (tz cI cJ cZ) [.ref qm, .int k] sz [(qm, .inr (5, [.ref m1, .ref m2, .ref m3, .ref m4, .int (nI mn)])), (m1, .inl (cZ, 6, .inl mf)), (m2, .inl (cZ, 6, .inl mp)), (m3, .inl (cI, 6, .inl ms)), (m4, .inl (cI, 6, .inl mu))]) (mQ D none [(qm, .inr (5, [.ref m1, .ref m2, .ref m3, .ref m4, .int (nI mn)])), (m1, .inl (cZ, 6, .inl mf)), (m2, .inl (cZ, 6, .inl mp)), (m3, .inl (cI, 6, .inl ms)), (m4, .inl (cI, 6, .inl (FX4_addUnprinted mu mn k)))] (va_A [(qm, .inr (5, [.ref m1, .ref m2, .ref m3, .ref m4, .int (nI mn)])), (m1, .inl (cZ, 6, .inl mf)), (m2, .inl (cZ, 6, .inl mp)), (m3, .inl (cI, 6, .inl ms)), (m4, .inl (cI, 6, .inl mu))] sz)) 0 0 (va_A [(qm, .inr (5, [.ref m1, .ref m2, .ref m3, .ref m4, .int (nI mn)])), (m1, .inl (cZ, 6, .inl mf)), (m2, .inl (cZ, 6, .inl mp)), (m3, .inl (cI, 6, .inl ms)), (m4, .inl (cI, 6, .inl mu))] sz) := by
  refine Met.ofW (cc := cX4_addUnprinted) (maxL := 2) (ret := none) (by decide) rfl ?_
  intro p e s m args below meth c s₁ B hml hv
  obtain ⟨rfl, hsz, hP, hK, hD0, hN⟩ := hv
  have hx := B.exec
  have hb := B.bytes
  have hr := B.returns
  have hts := atoms_spec (ws := wsX4_addUnprinted) B.pre
  have hown : s.vm.findClass RX4 = some m.cls := findClass_of_methodNamed B.named
  have hlocks := B.notSynchronized
  have iw_5 : ∀ w ∈ u_ws RX4 TX4 5, w ∈ wsX4_addUnprinted := by decide +kernel
  subst hsz
  have hD := hD0.self (sz := s.heap.size)
  generalize hE : FX4_addUnprinted mu mn k = R0
  generalize hAe : va_A [(qm, .inr (5, [.ref m1, .ref m2, .ref m3, .ref m4, .int (nI mn)])), (m1, .inl (cZ, 6, .inl mf)), (m2, .inl (cZ, 6, .inl mp)), (m3, .inl (cI, 6, .inl ms)), (m4, .inl (cI, 6, .inl mu))] s.heap.size = A at hD ⊢
  have hA : ∀ q : Nat, s.heap.size ≤ q → A q := fun q h => by rw [← hAe]; exact Or.inr h
  have hS : va_S A s.heap s.heap [] := va_S.rf
  rw [FX4_addUnprinted] at hE
  have hl := lv_entry ([.ref qm, .int k]) (n := 2) (Nat.le_of_ble_eq_true rfl)
  rw [lg_entry_eq]
  generalize (lg_sl ([.ref qm, .int k]) ++ List.replicate (2 - (lg_sl ([.ref qm, .int k])).length) Slot.unset).toArray = ls at hl ⊢
  have hl : lv_has ls 2 [(0, .ref qm), (1, .int k)] := hl
  refine lv_aload_n hx hb dX4_addUnprinted_0 rfl (lv_at hl 0 rfl) ?_
  refine lv_iload_n hx hb dX4_addUnprinted_1 rfl (lv_at hl 1 rfl) ?_
  refine rd_call (va_runV (As := [.int k]) (rest := []) ⟨hx, hb, hml, hown, hts⟩ (kX4_exists l D cI cJ cZ qm m1 m2 m3 m4 mf mp ms mu mn k) (cwV 1 hts gX4_addUnprinted_X4_exists rfl rfl rfl (by decide +kernel) ⟨Nat.le_of_ble_eq_true rfl, Nat.le_of_ble_eq_true rfl⟩) ⟨rP_blind, va_recv hK hP (ci := 5) (q0 := 0) rfl rfl, rP_pre (hP.sub [0, 1, 2, 3, 4] rfl) hK hN⟩ rfl rfl hl.1 rfl (lv_room (Nat.le_of_ble_eq_true rfl)) dX4_addUnprinted_2 ⟨Nat.zero_le _, Nat.zero_le _⟩) ?_
  refine lv_if_eq (tgt := 18) hx hb dX4_addUnprinted_5 (by decide) (fun c_1 => ?_) (fun c_1 => ?_)
  · rw [if_pos c_1] at hE
    subst hE
    exact W.vret hx hb hr (fun t ht hW => ⟨rfl, by rw [ht]; exact hP, hD, hS.F ht⟩) hS.2.2 dX4_addUnprinted_18
  · rw [if_neg c_1] at hE
    have hin : vp_in k 6 := isIx_in (k := k) (n := mn) (by assumption) hmn (by decide)
    refine lv_aload_n hx hb dX4_addUnprinted_8 rfl (lv_at hl 0 rfl) ?_
    refine va_get (D := D) (ci := 5) (v := .ref m4) (C := RX4) (T := TX4) (N := 5) hx hb hts iw_5 hown hK hP 0 rfl rfl 3 (by decide) (hts (.fieldLink RX4 22 "DepositCodes$Machines" "unprinted" "[I") (by decide +kernel)) (fun _ h9 => h9) rfl dX4_addUnprinted_9 ?_
    refine lv_iload_n hx hb dX4_addUnprinted_12 rfl (lv_at hl 1 rfl) ?_
    refine lv_dup2_11 hx hb dX4_addUnprinted_13 rfl rfl ?_
    refine va_iald hx hb hK hP 4 0 rfl rfl (by assumption) dX4_addUnprinted_14 ?_
    refine lv_iconst (v := 1) hx hb dX4_addUnprinted_15 (by decide) ?_
    refine lv_iadd hx hb dX4_addUnprinted_16 ?_
    refine va_iast hx hb hK hP hD hS 4 0 rfl rfl (by assumption) dX4_addUnprinted_17 (fun H locs hP hD hS => ?_)
    have hP : va_P D vwCl [(qm, .inr (5, [.ref m1, .ref m2, .ref m3, .ref m4, .int (nI mn)])), (m1, .inl (cZ, 6, .inl mf)), (m2, .inl (cZ, 6, .inl mp)), (m3, .inl (cI, 6, .inl ms)), (m4, .inl (cI, 6, .inl (upd mu k.toNatClampNeg ((mu k.toNatClampNeg) + 1))))] H := hP
    have hD : va_D A [(qm, .inr (5, [.ref m1, .ref m2, .ref m3, .ref m4, .int (nI mn)])), (m1, .inl (cZ, 6, .inl mf)), (m2, .inl (cZ, 6, .inl mp)), (m3, .inl (cI, 6, .inl ms)), (m4, .inl (cI, 6, .inl (upd mu k.toNatClampNeg ((mu k.toNatClampNeg) + 1))))] := hD
    subst hE
    exact W.vret hx hb hr (fun t ht hW => ⟨rfl, by rw [ht]; exact hP, hD, hS.F ht⟩) hS.2.2 dX4_addUnprinted_18
def FX4_takeUnprinted (mu : Nat → Int32) (mn : Nat) (k : Int32) : Int32 × (Nat → Int32) := if (FX4_exists mn k) = 0 then (0, mu) else (mu k.toNatClampNeg, upd mu k.toNatClampNeg 0)
set_option maxHeartbeats 4000000 in
set_option maxRecDepth 100000 in
theorem kX4_takeUnprinted (l : Launch) (D : va_G) (cI cJ cZ : ClassId) (qm : Nat) (m1 : Nat) (m2 : Nat) (m3 : Nat) (m4 : Nat) (mf : Nat → Int32) (mp : Nat → Int32) (ms : Nat → Int32) (mu : Nat → Int32) (mn : Nat) (k : Int32) (sz : Nat) (hmn : mn ≤ 6) : Met l yX4_takeUnprinted wsX4_takeUnprinted ({ frames := 2, cells := 0, slots := 0, locals := 42 }) (mP D (tz cI cJ cZ) [.ref qm, .int k] sz [(qm, .inr (5, [.ref m1, .ref m2, .ref m3, .ref m4, .int (nI mn)])), (m1, .inl (cZ, 6, .inl mf)), (m2, .inl (cZ, 6, .inl mp)), (m3, .inl (cI, 6, .inl ms)), (m4, .inl (cI, 6, .inl mu))]) (mQ D (some (.int ((FX4_takeUnprinted mu mn k).1))) [(qm, .inr (5, [.ref m1, .ref m2, .ref m3, .ref m4, .int (nI mn)])), (m1, .inl (cZ, 6, .inl mf)), (m2, .inl (cZ, 6, .inl mp)), (m3, .inl (cI, 6, .inl ms)), (m4, .inl (cI, 6, .inl ((FX4_takeUnprinted mu mn k).2)))] (va_A [(qm, .inr (5, [.ref m1, .ref m2, .ref m3, .ref m4, .int (nI mn)])), (m1, .inl (cZ, 6, .inl mf)), (m2, .inl (cZ, 6, .inl mp)), (m3, .inl (cI, 6, .inl ms)), (m4, .inl (cI, 6, .inl mu))] sz)) 0 0 (va_A [(qm, .inr (5, [.ref m1, .ref m2, .ref m3, .ref m4, .int (nI mn)])), (m1, .inl (cZ, 6, .inl mf)), (m2, .inl (cZ, 6, .inl mp)), (m3, .inl (cI, 6, .inl ms)), (m4, .inl (cI, 6, .inl mu))] sz) := by
  refine Met.ofW (cc := cX4_takeUnprinted) (maxL := 3) (ret := (some .int)) (by decide) rfl ?_
  intro p e s m args below meth c s₁ B hml hv
  obtain ⟨rfl, hsz, hP, hK, hD0, hN⟩ := hv
  have hx := B.exec
  have hb := B.bytes
  have hr := B.returns
  have hts := atoms_spec (ws := wsX4_takeUnprinted) B.pre
  have hown : s.vm.findClass RX4 = some m.cls := findClass_of_methodNamed B.named
  have hlocks := B.notSynchronized
  have iw_5 : ∀ w ∈ u_ws RX4 TX4 5, w ∈ wsX4_takeUnprinted := by decide +kernel
  subst hsz
  have hD := hD0.self (sz := s.heap.size)
  generalize hE : FX4_takeUnprinted mu mn k = R0
  generalize hAe : va_A [(qm, .inr (5, [.ref m1, .ref m2, .ref m3, .ref m4, .int (nI mn)])), (m1, .inl (cZ, 6, .inl mf)), (m2, .inl (cZ, 6, .inl mp)), (m3, .inl (cI, 6, .inl ms)), (m4, .inl (cI, 6, .inl mu))] s.heap.size = A at hD ⊢
  have hA : ∀ q : Nat, s.heap.size ≤ q → A q := fun q h => by rw [← hAe]; exact Or.inr h
  have hS : va_S A s.heap s.heap [] := va_S.rf
  rw [FX4_takeUnprinted] at hE
  have hl := lv_entry ([.ref qm, .int k]) (n := 3) (Nat.le_of_ble_eq_true rfl)
  rw [lg_entry_eq]
  generalize (lg_sl ([.ref qm, .int k]) ++ List.replicate (3 - (lg_sl ([.ref qm, .int k])).length) Slot.unset).toArray = ls at hl ⊢
  have hl : lv_has ls 3 [(0, .ref qm), (1, .int k)] := hl
  refine lv_aload_n hx hb dX4_takeUnprinted_0 rfl (lv_at hl 0 rfl) ?_
  refine lv_iload_n hx hb dX4_takeUnprinted_1 rfl (lv_at hl 1 rfl) ?_
  refine rd_call (va_runV (As := [.int k]) (rest := []) ⟨hx, hb, hml, hown, hts⟩ (kX4_exists l D cI cJ cZ qm m1 m2 m3 m4 mf mp ms mu mn k) (cwV 1 hts gX4_takeUnprinted_X4_exists rfl rfl rfl (by decide +kernel) ⟨Nat.le_of_ble_eq_true rfl, Nat.le_of_ble_eq_true rfl⟩) ⟨rP_blind, va_recv hK hP (ci := 5) (q0 := 0) rfl rfl, rP_pre (hP.sub [0, 1, 2, 3, 4] rfl) hK hN⟩ rfl rfl hl.1 rfl (lv_room (Nat.le_of_ble_eq_true rfl)) dX4_takeUnprinted_2 ⟨Nat.zero_le _, Nat.zero_le _⟩) ?_
  refine lv_if_ne (tgt := 10) hx hb dX4_takeUnprinted_5 (by decide) (fun c_1 => ?_) (fun c_1 => ?_)
  · rw [if_neg c_1] at hE
    have hin : vp_in k 6 := isIx_in (k := k) (n := mn) (by assumption) hmn (by decide)
    refine lv_aload_n hx hb dX4_takeUnprinted_10 rfl (lv_at hl 0 rfl) ?_
    refine va_get (D := D) (ci := 5) (v := .ref m4) (C := RX4) (T := TX4) (N := 5) hx hb hts iw_5 hown hK hP 0 rfl rfl 3 (by decide) (hts (.fieldLink RX4 22 "DepositCodes$Machines" "unprinted" "[I") (by decide +kernel)) (fun _ h9 => h9) rfl dX4_takeUnprinted_11 ?_
    refine lv_iload_n hx hb dX4_takeUnprinted_14 rfl (lv_at hl 1 rfl) ?_
    refine va_iald hx hb hK hP 4 0 rfl rfl (by assumption) dX4_takeUnprinted_15 ?_
    refine lv_istore_n (lv' := [(2, .int (mu k.toNatClampNeg)), (0, .ref qm), (1, .int k)]) hx hb dX4_takeUnprinted_16 rfl hl (by decide) rfl (fun ls hl => ?_)
    refine lv_aload_n hx hb dX4_takeUnprinted_17 rfl (lv_at hl 1 rfl) ?_
    refine va_get (D := D) (ci := 5) (v := .ref m4) (C := RX4) (T := TX4) (N := 5) hx hb hts iw_5 hown hK hP 0 rfl rfl 3 (by decide) (hts (.fieldLink RX4 22 "DepositCodes$Machines" "unprinted" "[I") (by decide +kernel)) (fun _ h9 => h9) rfl dX4_takeUnprinted_18 ?_
    refine lv_iload_n hx hb dX4_takeUnprinted_21 rfl (lv_at hl 2 rfl) ?_
    refine lv_iconst (v := 0) hx hb dX4_takeUnprinted_22 (by decide) ?_
    refine va_iast hx hb hK hP hD hS 4 0 rfl rfl (by assumption) dX4_takeUnprinted_23 (fun H locs hP hD hS => ?_)
    have hP : va_P D vwCl [(qm, .inr (5, [.ref m1, .ref m2, .ref m3, .ref m4, .int (nI mn)])), (m1, .inl (cZ, 6, .inl mf)), (m2, .inl (cZ, 6, .inl mp)), (m3, .inl (cI, 6, .inl ms)), (m4, .inl (cI, 6, .inl (upd mu k.toNatClampNeg 0)))] H := hP
    have hD : va_D A [(qm, .inr (5, [.ref m1, .ref m2, .ref m3, .ref m4, .int (nI mn)])), (m1, .inl (cZ, 6, .inl mf)), (m2, .inl (cZ, 6, .inl mp)), (m3, .inl (cI, 6, .inl ms)), (m4, .inl (cI, 6, .inl (upd mu k.toNatClampNeg 0)))] := hD
    refine lv_iload_n hx hb dX4_takeUnprinted_24 rfl (lv_at hl 0 rfl) ?_
    subst hE
    exact W.iret hx hb hr (fun t ht hW => ⟨rfl, by rw [ht]; exact hP, hD, hS.F ht⟩) hS.2.2 dX4_takeUnprinted_25
  · rw [if_pos c_1] at hE
    refine lv_iconst (v := 0) hx hb dX4_takeUnprinted_8 (by decide) ?_
    subst hE
    exact W.iret hx hb hr (fun t ht hW => ⟨rfl, by rw [ht]; exact hP, hD, hS.F ht⟩) hS.2.2 dX4_takeUnprinted_9
def FX4_addMachine (mp : Nat → Int32) (ms : Nat → Int32) (mn : Nat) : Int32 × (Nat → Int32) × (Nat → Int32) × Nat := if mn < 6 then (nI mn, upd mp mn (vp_nar .boolean 1), upd ms mn (nI mn), mn + 1) else ((-1), mp, ms, mn)
set_option maxHeartbeats 4000000 in
set_option maxRecDepth 100000 in
theorem kX4_addMachine (l : Launch) (D : va_G) (cI cJ cZ : ClassId) (qm : Nat) (m1 : Nat) (m2 : Nat) (m3 : Nat) (m4 : Nat) (mf : Nat → Int32) (mp : Nat → Int32) (ms : Nat → Int32) (mu : Nat → Int32) (mn : Nat) (sz : Nat) (hmn : mn ≤ 6) : Met l yX4_addMachine wsX4_addMachine ({ frames := 0, cells := 0, slots := 0, locals := 0 }) (mP D (tz cI cJ cZ) [.ref qm] sz [(qm, .inr (5, [.ref m1, .ref m2, .ref m3, .ref m4, .int (nI mn)])), (m1, .inl (cZ, 6, .inl mf)), (m2, .inl (cZ, 6, .inl mp)), (m3, .inl (cI, 6, .inl ms)), (m4, .inl (cI, 6, .inl mu))]) (mQ D (some (.int ((FX4_addMachine mp ms mn).1))) [(qm, .inr (5, [.ref m1, .ref m2, .ref m3, .ref m4, .int (nI ((FX4_addMachine mp ms mn).2.2.2))])), (m1, .inl (cZ, 6, .inl mf)), (m2, .inl (cZ, 6, .inl ((FX4_addMachine mp ms mn).2.1))), (m3, .inl (cI, 6, .inl ((FX4_addMachine mp ms mn).2.2.1))), (m4, .inl (cI, 6, .inl mu))] (va_A [(qm, .inr (5, [.ref m1, .ref m2, .ref m3, .ref m4, .int (nI mn)])), (m1, .inl (cZ, 6, .inl mf)), (m2, .inl (cZ, 6, .inl mp)), (m3, .inl (cI, 6, .inl ms)), (m4, .inl (cI, 6, .inl mu))] sz)) 0 0 (va_A [(qm, .inr (5, [.ref m1, .ref m2, .ref m3, .ref m4, .int (nI mn)])), (m1, .inl (cZ, 6, .inl mf)), (m2, .inl (cZ, 6, .inl mp)), (m3, .inl (cI, 6, .inl ms)), (m4, .inl (cI, 6, .inl mu))] sz) := by
  refine Met.ofW (cc := cX4_addMachine) (maxL := 2) (ret := (some .int)) (by decide) rfl ?_
  intro p e s m args below meth c s₁ B hml hv
  obtain ⟨rfl, hsz, hP, hK, hD0, hN⟩ := hv
  have hx := B.exec
  have hb := B.bytes
  have hr := B.returns
  have hts := atoms_spec (ws := wsX4_addMachine) B.pre
  have hown : s.vm.findClass RX4 = some m.cls := findClass_of_methodNamed B.named
  have hlocks := B.notSynchronized
  have iw_5 : ∀ w ∈ u_ws RX4 TX4 5, w ∈ wsX4_addMachine := by decide +kernel
  subst hsz
  have hD := hD0.self (sz := s.heap.size)
  generalize hE : FX4_addMachine mp ms mn = R0
  generalize hAe : va_A [(qm, .inr (5, [.ref m1, .ref m2, .ref m3, .ref m4, .int (nI mn)])), (m1, .inl (cZ, 6, .inl mf)), (m2, .inl (cZ, 6, .inl mp)), (m3, .inl (cI, 6, .inl ms)), (m4, .inl (cI, 6, .inl mu))] s.heap.size = A at hD ⊢
  have hA : ∀ q : Nat, s.heap.size ≤ q → A q := fun q h => by rw [← hAe]; exact Or.inr h
  have hS : va_S A s.heap s.heap [] := va_S.rf
  rw [FX4_addMachine] at hE
  have hl := lv_entry ([.ref qm]) (n := 2) (Nat.le_of_ble_eq_true rfl)
  rw [lg_entry_eq]
  generalize (lg_sl ([.ref qm]) ++ List.replicate (2 - (lg_sl ([.ref qm])).length) Slot.unset).toArray = ls at hl ⊢
  have hl : lv_has ls 2 [(0, .ref qm)] := hl
  refine lv_aload_n hx hb dX4_addMachine_0 rfl (lv_at hl 0 rfl) ?_
  refine va_get (D := D) (ci := 5) (v := .int (nI mn)) (C := RX4) (T := TX4) (N := 5) hx hb hts iw_5 hown hK hP 0 rfl rfl 4 (by decide) (hts (.fieldLink RX4 25 "DepositCodes$Machines" "size" "I") (by decide +kernel)) (fun _ h9 => h9) rfl dX4_addMachine_1 ?_
  refine lv_bipush (v := 6) hx hb dX4_addMachine_4 (by decide) ?_
  refine lv_icmp_lt (tgt := 11) hx hb dX4_addMachine_6 (by decide) (fun c_1 => ?_) (fun c_1 => ?_)
  · have c_1 : mn < 6 := (nI_ltI (a := mn) (b := 6) (by omega) (by omega)).mp c_1
    rw [if_pos c_1] at hE
    refine lv_aload_n hx hb dX4_addMachine_11 rfl (lv_at hl 0 rfl) ?_
    refine va_get (D := D) (ci := 5) (v := .int (nI mn)) (C := RX4) (T := TX4) (N := 5) hx hb hts iw_5 hown hK hP 0 rfl rfl 4 (by decide) (hts (.fieldLink RX4 25 "DepositCodes$Machines" "size" "I") (by decide +kernel)) (fun _ h9 => h9) rfl dX4_addMachine_12 ?_
    refine lv_istore_n (lv' := [(1, .int (nI mn)), (0, .ref qm)]) hx hb dX4_addMachine_15 rfl hl (by decide) rfl (fun ls hl => ?_)
    refine lv_aload_n hx hb dX4_addMachine_16 rfl (lv_at hl 1 rfl) ?_
    refine va_get (D := D) (ci := 5) (v := .ref m2) (C := RX4) (T := TX4) (N := 5) hx hb hts iw_5 hown hK hP 0 rfl rfl 1 (by decide) (hts (.fieldLink RX4 15 "DepositCodes$Machines" "poweredOnes" "[Z") (by decide +kernel)) (fun _ h9 => h9) rfl dX4_addMachine_17 ?_
    refine lv_iload_n hx hb dX4_addMachine_20 rfl (lv_at hl 0 rfl) ?_
    refine lv_iconst (v := 1) hx hb dX4_addMachine_21 (by decide) ?_
    refine na_zast hx hb hK hP hD hS 2 2 rfl rfl (by omega) (by decide) dX4_addMachine_22 (fun H locs hP hD hS => ?_)
    have hP : va_P D vwCl [(qm, .inr (5, [.ref m1, .ref m2, .ref m3, .ref m4, .int (nI mn)])), (m1, .inl (cZ, 6, .inl mf)), (m2, .inl (cZ, 6, .inl (upd mp mn (vp_nar .boolean 1)))), (m3, .inl (cI, 6, .inl ms)), (m4, .inl (cI, 6, .inl mu))] H := hP
    have hD : va_D A [(qm, .inr (5, [.ref m1, .ref m2, .ref m3, .ref m4, .int (nI mn)])), (m1, .inl (cZ, 6, .inl mf)), (m2, .inl (cZ, 6, .inl (upd mp mn (vp_nar .boolean 1)))), (m3, .inl (cI, 6, .inl ms)), (m4, .inl (cI, 6, .inl mu))] := hD
    refine lv_aload_n hx hb dX4_addMachine_23 rfl (lv_at hl 1 rfl) ?_
    refine va_get (D := D) (ci := 5) (v := .ref m3) (C := RX4) (T := TX4) (N := 5) hx hb hts iw_5 hown hK hP 0 rfl rfl 2 (by decide) (hts (.fieldLink RX4 18 "DepositCodes$Machines" "sets" "[I") (by decide +kernel)) (fun _ h9 => h9) rfl dX4_addMachine_24 ?_
    refine lv_iload_n hx hb dX4_addMachine_27 rfl (lv_at hl 0 rfl) ?_
    refine lv_iload_n hx hb dX4_addMachine_28 rfl (lv_at hl 0 rfl) ?_
    refine na_iast hx hb hK hP hD hS 3 0 rfl rfl (by omega) (by decide) dX4_addMachine_29 (fun H locs hP hD hS => ?_)
    have hP : va_P D vwCl [(qm, .inr (5, [.ref m1, .ref m2, .ref m3, .ref m4, .int (nI mn)])), (m1, .inl (cZ, 6, .inl mf)), (m2, .inl (cZ, 6, .inl (upd mp mn (vp_nar .boolean 1)))), (m3, .inl (cI, 6, .inl (upd ms mn (nI mn)))), (m4, .inl (cI, 6, .inl mu))] H := hP
    have hD : va_D A [(qm, .inr (5, [.ref m1, .ref m2, .ref m3, .ref m4, .int (nI mn)])), (m1, .inl (cZ, 6, .inl mf)), (m2, .inl (cZ, 6, .inl (upd mp mn (vp_nar .boolean 1)))), (m3, .inl (cI, 6, .inl (upd ms mn (nI mn)))), (m4, .inl (cI, 6, .inl mu))] := hD
    refine lv_aload_n hx hb dX4_addMachine_30 rfl (lv_at hl 1 rfl) ?_
    refine lv_dup hx hb dX4_addMachine_31 rfl ?_
    refine va_get (D := D) (ci := 5) (v := .int (nI mn)) (C := RX4) (T := TX4) (N := 5) hx hb hts iw_5 hown hK hP 0 rfl rfl 4 (by decide) (hts (.fieldLink RX4 25 "DepositCodes$Machines" "size" "I") (by decide +kernel)) (fun _ h9 => h9) rfl dX4_addMachine_32 ?_
    refine lv_iconst (v := 1) hx hb dX4_addMachine_35 (by decide) ?_
    refine lv_iadd hx hb dX4_addMachine_36 ?_
    refine na_top (show (nI mn) + 1 = nI (mn + 1) from nI_add mn 1) ?_
    refine va_put (D := D) (ci := 5) (v := .int (nI (mn + 1))) (ty := .int) (C := RX4) (T := TX4) (N := 5) hx hb hts iw_5 tyX4 tyX4_ok nmX4 hown hK hP hD hS 0 rfl rfl 4 (by decide) (hts (.fieldLink RX4 25 "DepositCodes$Machines" "size" "I") (by decide +kernel)) (fun _ h9 => h9) rfl (by decide +kernel) rfl rfl (Nat.le_of_ble_eq_true rfl) dX4_addMachine_37 (fun H locs hP hD hS => ?_)
    have hP : va_P D vwCl [(qm, .inr (5, [.ref m1, .ref m2, .ref m3, .ref m4, .int (nI (mn + 1))])), (m1, .inl (cZ, 6, .inl mf)), (m2, .inl (cZ, 6, .inl (upd mp mn (vp_nar .boolean 1)))), (m3, .inl (cI, 6, .inl (upd ms mn (nI mn)))), (m4, .inl (cI, 6, .inl mu))] H := hP
    have hD : va_D A [(qm, .inr (5, [.ref m1, .ref m2, .ref m3, .ref m4, .int (nI (mn + 1))])), (m1, .inl (cZ, 6, .inl mf)), (m2, .inl (cZ, 6, .inl (upd mp mn (vp_nar .boolean 1)))), (m3, .inl (cI, 6, .inl (upd ms mn (nI mn)))), (m4, .inl (cI, 6, .inl mu))] := hD
    refine lv_iload_n hx hb dX4_addMachine_40 rfl (lv_at hl 0 rfl) ?_
    subst hE
    exact W.iret hx hb hr (fun t ht hW => ⟨rfl, by rw [ht]; exact hP, hD, hS.F ht⟩) hS.2.2 dX4_addMachine_41
  · have c_1 : ¬ mn < 6 := fun h9 => c_1 ((nI_ltI (a := mn) (b := 6) (by omega) (by omega)).mpr h9)
    rw [if_neg c_1] at hE
    refine lv_iconst (v := (-1)) hx hb dX4_addMachine_9 (by decide) ?_
    subst hE
    exact W.iret hx hb hr (fun t ht hW => ⟨rfl, by rw [ht]; exact hP, hD, hS.F ht⟩) hS.2.2 dX4_addMachine_10
def FX4_moveSet_l2 (mn : Nat) (fr : Int32) (to : Int32) : Nat → Nat → (Nat → Int32) → (Nat → Int32)
  | 0, _, _ => fun _ => 0
  | n + 1, k, msx => if mn ≤ k then msx else (if (msx k) = fr then FX4_moveSet_l2 mn fr to n (k + 1) (upd msx k to) else FX4_moveSet_l2 mn fr to n (k + 1) msx)
def FX4_moveSet (ms : Nat → Int32) (mn : Nat) (fr : Int32) (to : Int32) : (Nat → Int32) := FX4_moveSet_l2 mn fr to (mn + 1) 0 ms
set_option maxHeartbeats 4000000 in
set_option maxRecDepth 100000 in
theorem kX4_moveSet (l : Launch) (D : va_G) (cI cJ cZ : ClassId) (qm : Nat) (m1 : Nat) (m2 : Nat) (m3 : Nat) (m4 : Nat) (mf : Nat → Int32) (mp : Nat → Int32) (ms : Nat → Int32) (mu : Nat → Int32) (mn : Nat) (fr : Int32) (to : Int32) (sz : Nat) (hmn : mn ≤ 6) : Met l yX4_moveSet wsX4_moveSet ({ frames := 0, cells := 0, slots := 0, locals := 0 }) (mP D (tz cI cJ cZ) [.ref qm, .int fr, .int to] sz [(qm, .inr (5, [.ref m1, .ref m2, .ref m3, .ref m4, .int (nI mn)])), (m1, .inl (cZ, 6, .inl mf)), (m2, .inl (cZ, 6, .inl mp)), (m3, .inl (cI, 6, .inl ms)), (m4, .inl (cI, 6, .inl mu))]) (mQ D none [(qm, .inr (5, [.ref m1, .ref m2, .ref m3, .ref m4, .int (nI mn)])), (m1, .inl (cZ, 6, .inl mf)), (m2, .inl (cZ, 6, .inl mp)), (m3, .inl (cI, 6, .inl (FX4_moveSet ms mn fr to))), (m4, .inl (cI, 6, .inl mu))] (va_A [(qm, .inr (5, [.ref m1, .ref m2, .ref m3, .ref m4, .int (nI mn)])), (m1, .inl (cZ, 6, .inl mf)), (m2, .inl (cZ, 6, .inl mp)), (m3, .inl (cI, 6, .inl ms)), (m4, .inl (cI, 6, .inl mu))] sz)) 0 0 (va_A [(qm, .inr (5, [.ref m1, .ref m2, .ref m3, .ref m4, .int (nI mn)])), (m1, .inl (cZ, 6, .inl mf)), (m2, .inl (cZ, 6, .inl mp)), (m3, .inl (cI, 6, .inl ms)), (m4, .inl (cI, 6, .inl mu))] sz) := by
  refine Met.ofW (cc := cX4_moveSet) (maxL := 4) (ret := none) (by decide) rfl ?_
  intro p e s m args below meth c s₁ B hml hv
  obtain ⟨rfl, hsz, hP, hK, hD0, hN⟩ := hv
  have hx := B.exec
  have hb := B.bytes
  have hr := B.returns
  have hts := atoms_spec (ws := wsX4_moveSet) B.pre
  have hown : s.vm.findClass RX4 = some m.cls := findClass_of_methodNamed B.named
  have hlocks := B.notSynchronized
  have iw_5 : ∀ w ∈ u_ws RX4 TX4 5, w ∈ wsX4_moveSet := by decide +kernel
  subst hsz
  have hD := hD0.self (sz := s.heap.size)
  generalize hE : FX4_moveSet ms mn fr to = R0
  generalize hAe : va_A [(qm, .inr (5, [.ref m1, .ref m2, .ref m3, .ref m4, .int (nI mn)])), (m1, .inl (cZ, 6, .inl mf)), (m2, .inl (cZ, 6, .inl mp)), (m3, .inl (cI, 6, .inl ms)), (m4, .inl (cI, 6, .inl mu))] s.heap.size = A at hD ⊢
  have hA : ∀ q : Nat, s.heap.size ≤ q → A q := fun q h => by rw [← hAe]; exact Or.inr h
  have hS : va_S A s.heap s.heap [] := va_S.rf
  rw [FX4_moveSet] at hE
  have hl := lv_entry ([.ref qm, .int fr, .int to]) (n := 4) (Nat.le_of_ble_eq_true rfl)
  rw [lg_entry_eq]
  generalize (lg_sl ([.ref qm, .int fr, .int to]) ++ List.replicate (4 - (lg_sl ([.ref qm, .int fr, .int to])).length) Slot.unset).toArray = ls at hl ⊢
  have hl : lv_has ls 4 [(0, .ref qm), (1, .int fr), (2, .int to)] := hl
  have loop_2 : ∀ (n : Nat) (k : Nat) (msx : Nat → Int32), k ≤ mn → k + n = mn + 1 → FX4_moveSet_l2 mn fr to n k msx = R0 → ∀ (H : Heap) (locs : List Loc), va_P D vwCl [(qm, .inr (5, [.ref m1, .ref m2, .ref m3, .ref m4, .int (nI mn)])), (m1, .inl (cZ, 6, .inl mf)), (m2, .inl (cZ, 6, .inl mp)), (m3, .inl (cI, 6, .inl msx)), (m4, .inl (cI, 6, .inl mu))] H → va_D A [(qm, .inr (5, [.ref m1, .ref m2, .ref m3, .ref m4, .int (nI mn)])), (m1, .inl (cZ, 6, .inl mf)), (m2, .inl (cZ, 6, .inl mp)), (m3, .inl (cI, 6, .inl msx)), (m4, .inl (cI, 6, .inl mu))] → va_S A s.heap H locs → ∀ ls : Array Slot, lv_has ls 4 [(3, .int (nI k)), (0, .ref qm), (1, .int fr), (2, .int to)] → W p l e (headSpec wsX4_moveSet ({ frames := 0, cells := 0, slots := 0, locals := 0 })).room s m ([.ref qm, .int fr, .int to] : List Value).toArray below meth c H locs 0 0 (MQ below (mQ D none [(qm, .inr (5, [.ref m1, .ref m2, .ref m3, .ref m4, .int (nI mn)])), (m1, .inl (cZ, 6, .inl mf)), (m2, .inl (cZ, 6, .inl mp)), (m3, .inl (cI, 6, .inl R0)), (m4, .inl (cI, 6, .inl mu))] A) ([.ref qm, .int fr, .int to] : List Value).toArray s 0 0 A) (F0 m 2 ls []) := by
    intro n
    induction n with
    | zero =>
      intro k msx i_1 i_2
      exact absurd i_1 (by omega)
    | succ n ih =>
      intro k msx i_1 i_2 hE H locs hP hD hS ls hl
      rw [FX4_moveSet_l2] at hE
      refine lv_iload_n hx hb dX4_moveSet_2 rfl (lv_at hl 0 rfl) ?_
      refine lv_aload_n hx hb dX4_moveSet_3 rfl (lv_at hl 1 rfl) ?_
      refine va_get (D := D) (ci := 5) (v := .int (nI mn)) (C := RX4) (T := TX4) (N := 5) hx hb hts iw_5 hown hK hP 0 rfl rfl 4 (by decide) (hts (.fieldLink RX4 25 "DepositCodes$Machines" "size" "I") (by decide +kernel)) (fun _ h9 => h9) rfl dX4_moveSet_4 ?_
      refine lv_icmp_ge (tgt := 33) hx hb dX4_moveSet_7 (by decide) (fun c_1 => ?_) (fun c_1 => ?_)
      · have c_1 : mn ≤ k := (nI_leI (a := mn) (b := k) (by omega) (by omega)).mp c_1
        rw [if_pos c_1] at hE
        subst hE
        exact W.vret hx hb hr (fun t ht hW => ⟨rfl, by rw [ht]; exact hP, hD, hS.F ht⟩) hS.2.2 dX4_moveSet_33
      · have c_1 : ¬ mn ≤ k := fun h9 => c_1 ((nI_leI (a := mn) (b := k) (by omega) (by omega)).mpr h9)
        rw [if_neg c_1] at hE
        refine lv_aload_n hx hb dX4_moveSet_10 rfl (lv_at hl 1 rfl) ?_
        refine va_get (D := D) (ci := 5) (v := .ref m3) (C := RX4) (T := TX4) (N := 5) hx hb hts iw_5 hown hK hP 0 rfl rfl 2 (by decide) (hts (.fieldLink RX4 18 "DepositCodes$Machines" "sets" "[I") (by decide +kernel)) (fun _ h9 => h9) rfl dX4_moveSet_11 ?_
        refine lv_iload_n hx hb dX4_moveSet_14 rfl (lv_at hl 0 rfl) ?_
        refine na_iald hx hb hK hP 3 0 rfl rfl (by omega) (by decide) dX4_moveSet_15 ?_
        refine lv_iload_n hx hb dX4_moveSet_16 rfl (lv_at hl 2 rfl) ?_
        refine lv_icmp_ne (tgt := 27) hx hb dX4_moveSet_17 (by decide) (fun c_2 => ?_) (fun c_2 => ?_)
        · rw [if_neg c_2] at hE
          refine lv_iinc (v := nI (k + 1)) (lv' := [(3, .int (nI (k + 1))), (0, .ref qm), (1, .int fr), (2, .int to)]) hx hb dX4_moveSet_27 hl (k := 0) rfl (nI_1 k) (by decide) rfl (fun ls hl => ?_)
          refine lv_goto (tgt := 2) hx hb dX4_moveSet_30 (by decide) ?_
          exact ih (k + 1) msx (by omega) (by omega) hE _ _ hP hD hS ls (lv_sub hl [0, 1, 2, 3] rfl)
        · rw [if_pos c_2] at hE
          refine lv_aload_n hx hb dX4_moveSet_20 rfl (lv_at hl 1 rfl) ?_
          refine va_get (D := D) (ci := 5) (v := .ref m3) (C := RX4) (T := TX4) (N := 5) hx hb hts iw_5 hown hK hP 0 rfl rfl 2 (by decide) (hts (.fieldLink RX4 18 "DepositCodes$Machines" "sets" "[I") (by decide +kernel)) (fun _ h9 => h9) rfl dX4_moveSet_21 ?_
          refine lv_iload_n hx hb dX4_moveSet_24 rfl (lv_at hl 0 rfl) ?_
          refine lv_iload_n hx hb dX4_moveSet_25 rfl (lv_at hl 3 rfl) ?_
          refine na_iast hx hb hK hP hD hS 3 0 rfl rfl (by omega) (by decide) dX4_moveSet_26 (fun H locs hP hD hS => ?_)
          have hP : va_P D vwCl [(qm, .inr (5, [.ref m1, .ref m2, .ref m3, .ref m4, .int (nI mn)])), (m1, .inl (cZ, 6, .inl mf)), (m2, .inl (cZ, 6, .inl mp)), (m3, .inl (cI, 6, .inl (upd msx k to))), (m4, .inl (cI, 6, .inl mu))] H := hP
          have hD : va_D A [(qm, .inr (5, [.ref m1, .ref m2, .ref m3, .ref m4, .int (nI mn)])), (m1, .inl (cZ, 6, .inl mf)), (m2, .inl (cZ, 6, .inl mp)), (m3, .inl (cI, 6, .inl (upd msx k to))), (m4, .inl (cI, 6, .inl mu))] := hD
          refine lv_iinc (v := nI (k + 1)) (lv' := [(3, .int (nI (k + 1))), (0, .ref qm), (1, .int fr), (2, .int to)]) hx hb dX4_moveSet_27 hl (k := 0) rfl (nI_1 k) (by decide) rfl (fun ls hl => ?_)
          refine lv_goto (tgt := 2) hx hb dX4_moveSet_30 (by decide) ?_
          exact ih (k + 1) (upd msx k to) (by omega) (by omega) hE _ _ hP hD hS ls (lv_sub hl [0, 1, 2, 3] rfl)
  refine lv_iconst (v := 0) hx hb dX4_moveSet_0 (by decide) ?_
  refine lv_istore_n (lv' := [(3, .int 0), (0, .ref qm), (1, .int fr), (2, .int to)]) hx hb dX4_moveSet_1 rfl hl (by decide) rfl (fun ls hl => ?_)
  exact loop_2 (mn + 1) 0 ms (by omega) (by omega) hE _ _ hP hD hS ls (lv_sub hl [0, 1, 2, 3] rfl)
end
section
def FX7_exists (k : Int32) : Int32 := FX8_isIndex k 8
theorem FX7_exists_b (k : Int32) : isB (FX7_exists k) := by
  unfold FX7_exists
  repeat' split
  all_goals first | exact isB_0 | exact isB_1 | exact FX8_isIndex_b _ _
set_option maxHeartbeats 4000000 in
set_option maxRecDepth 100000 in
theorem kX7_exists (l : Launch) (D : va_G) (cI cJ cZ : ClassId) (qp : Nat) (p1 : Nat) (p2 : Nat) (p3 : Nat) (pt : Nat → Int32) (pl : Nat → Int32) (pm : Nat → Int32) (k : Int32) : Met l yX7_exists wsX7_exists ({ frames := 1, cells := 0, slots := 0, locals := 21 }) (rP D (tz cI cJ cZ) [.ref qp, .int k] [(qp, .inr (7, [.ref p1, .ref p2, .ref p3])), (p1, .inl (cZ, 8, .inl pt)), (p2, .inl (cI, 8, .inl pl)), (p3, .inl (cI, 8, .inl pm))]) (k2_QcV (.int (FX7_exists k))) 0 0 (fun _ => False) := by
  refine Met.ofW (cc := cX7_exists) (maxL := 2) (ret := (some .boolean)) (by decide) rfl ?_
  intro p e s m args below meth c s₁ B hml hv
  obtain ⟨rfl, hP, hK, hN⟩ := hv
  have hx := B.exec
  have hb := B.bytes
  have hr := B.returns
  have hts := atoms_spec (ws := wsX7_exists) B.pre
  have hown : s.vm.findClass RX7 = some m.cls := findClass_of_methodNamed B.named
  have hlocks := B.notSynchronized
  generalize hE : FX7_exists k = R0
  rw [FX7_exists] at hE
  have hl := lv_entry ([.ref qp, .int k]) (n := 2) (Nat.le_of_ble_eq_true rfl)
  rw [lg_entry_eq]
  generalize (lg_sl ([.ref qp, .int k]) ++ List.replicate (2 - (lg_sl ([.ref qp, .int k])).length) Slot.unset).toArray = ls at hl ⊢
  have hl : lv_has ls 2 [(0, .ref qp), (1, .int k)] := hl
  refine lv_iload_n hx hb dX7_exists_0 rfl (lv_at hl 1 rfl) ?_
  refine lv_bipush (v := 8) hx hb dX7_exists_1 (by decide) ?_
  refine rd_call (va_runSN (As := [.int k, .int 8]) (rest := []) ⟨hx, hb, hml, hown, hts⟩ (kX8_isIndex l D cI cJ cZ k 8) ⟨va_cnB 2 hts gX7_exists_X8_isIndex_n20 rfl rfl rfl hN.2.2.2.2.2.2.2 (hts (.initialized RX8) (by decide +kernel)) (by decide +kernel) ⟨Nat.le_of_ble_eq_true rfl, Nat.le_of_ble_eq_true rfl⟩, hts (.static yX8_isIndex) (by decide +kernel), trivial⟩ ⟨rP_blind, rP_pre (va_P_nil) hK hN⟩ rfl rfl hl.1 rfl (lv_room (Nat.le_of_ble_eq_true rfl)) dX7_exists_3 ⟨Nat.zero_le _, Nat.zero_le _⟩) ?_
  exact W.zret hx hb hr (isB_nar (FX8_isIndex_b _ _)) (fun t ht hW => ⟨by rw [← hE], ht⟩) (fun q h => absurd h List.not_mem_nil) dX7_exists_6
def FX7_isTold (pt : Nat → Int32) (k : Int32) : Int32 := if (FX7_exists k) = 0 then 0 else (if (pt k.toNatClampNeg) = 0 then 0 else 1)
theorem FX7_isTold_b (pt : Nat → Int32) (k : Int32) : isB (FX7_isTold pt k) := by
  unfold FX7_isTold
  repeat' split
  all_goals first | exact isB_0 | exact isB_1
set_option maxHeartbeats 4000000 in
set_option maxRecDepth 100000 in
theorem kX7_isTold (l : Launch) (D : va_G) (cI cJ cZ : ClassId) (qp : Nat) (p1 : Nat) (p2 : Nat) (p3 : Nat) (pt : Nat → Int32) (pl : Nat → Int32) (pm : Nat → Int32) (k : Int32) : Met l yX7_isTold wsX7_isTold ({ frames := 2, cells := 0, slots := 0, locals := 42 }) (rP D (tz cI cJ cZ) [.ref qp, .int k] [(qp, .inr (7, [.ref p1, .ref p2, .ref p3])), (p1, .inl (cZ, 8, .inl pt)), (p2, .inl (cI, 8, .inl pl)), (p3, .inl (cI, 8, .inl pm))]) (k2_QcV (.int (FX7_isTold pt k))) 0 0 (fun _ => False) := by
  refine Met.ofW (cc := cX7_isTold) (maxL := 2) (ret := (some .boolean)) (by decide) rfl ?_
  intro p e s m args below meth c s₁ B hml hv
  obtain ⟨rfl, hP, hK, hN⟩ := hv
  have hx := B.exec
  have hb := B.bytes
  have hr := B.returns
  have hts := atoms_spec (ws := wsX7_isTold) B.pre
  have hown : s.vm.findClass RX7 = some m.cls := findClass_of_methodNamed B.named
  have hlocks := B.notSynchronized
  have iw_7 : ∀ w ∈ u_ws RX7 TX7 3, w ∈ wsX7_isTold := by decide +kernel
  generalize hE : FX7_isTold pt k = R0
  rw [FX7_isTold] at hE
  have hl := lv_entry ([.ref qp, .int k]) (n := 2) (Nat.le_of_ble_eq_true rfl)
  rw [lg_entry_eq]
  generalize (lg_sl ([.ref qp, .int k]) ++ List.replicate (2 - (lg_sl ([.ref qp, .int k])).length) Slot.unset).toArray = ls at hl ⊢
  have hl : lv_has ls 2 [(0, .ref qp), (1, .int k)] := hl
  refine lv_aload_n hx hb dX7_isTold_0 rfl (lv_at hl 0 rfl) ?_
  refine lv_iload_n hx hb dX7_isTold_1 rfl (lv_at hl 1 rfl) ?_
  refine rd_call (va_runV (As := [.int k]) (rest := []) ⟨hx, hb, hml, hown, hts⟩ (kX7_exists l D cI cJ cZ qp p1 p2 p3 pt pl pm k) (cwV 1 hts gX7_isTold_X7_exists rfl rfl rfl (by decide +kernel) ⟨Nat.le_of_ble_eq_true rfl, Nat.le_of_ble_eq_true rfl⟩) ⟨rP_blind, va_recv hK hP (ci := 7) (q0 := 0) rfl rfl, rP_pre (hP.sub [0, 1, 2, 3] rfl) hK hN⟩ rfl rfl hl.1 rfl (lv_room (Nat.le_of_ble_eq_true rfl)) dX7_isTold_2 ⟨Nat.zero_le _, Nat.zero_le _⟩) ?_
  refine lv_if_eq (tgt := 21) hx hb dX7_isTold_5 (by decide) (fun c_1 => ?_) (fun c_1 => ?_)
  · rw [if_pos c_1] at hE
    refine lv_iconst (v := 0) hx hb dX7_isTold_21 (by decide) ?_
    exact W.zret hx hb hr narrow_b0 (fun t ht hW => ⟨by rw [← hE], ht⟩) (fun q h => absurd h List.not_mem_nil) dX7_isTold_22
  · rw [if_neg c_1] at hE
    have hin : vp_in k 8 := isIx_in (k := k) (n := 8) (by assumption) (by decide) (by decide)
    refine lv_aload_n hx hb dX7_isTold_8 rfl (lv_at hl 0 rfl) ?_
    refine va_get (D := D) (ci := 7) (v := .ref p1) (C := RX7) (T := TX7) (N := 3) hx hb hts iw_7 hown hK hP 0 rfl rfl 0 (by decide) (hts (.fieldLink RX7 9 "DepositCodes$Spans" "told" "[Z") (by decide +kernel)) (fun _ h9 => h9) rfl dX7_isTold_9 ?_
    refine lv_iload_n hx hb dX7_isTold_12 rfl (lv_at hl 1 rfl) ?_
    refine va_zald hx hb hK hP 1 2 rfl rfl (by assumption) dX7_isTold_13 ?_
    refine lv_if_eq (tgt := 21) hx hb dX7_isTold_14 (by decide) (fun c_2 => ?_) (fun c_2 => ?_)
    · rw [if_pos c_2] at hE
      refine lv_iconst (v := 0) hx hb dX7_isTold_21 (by decide) ?_
      exact W.zret hx hb hr narrow_b0 (fun t ht hW => ⟨by rw [← hE], ht⟩) (fun q h => absurd h List.not_mem_nil) dX7_isTold_22
    · rw [if_neg c_2] at hE
      refine lv_iconst (v := 1) hx hb dX7_isTold_17 (by decide) ?_
      refine lv_goto (tgt := 22) hx hb dX7_isTold_18 (by decide) ?_
      exact W.zret hx hb hr narrow_b1 (fun t ht hW => ⟨by rw [← hE], ht⟩) (fun q h => absurd h List.not_mem_nil) dX7_isTold_22
theorem told_in {pt : Nat → Int32} {k : Int32} (h : ¬ FX7_isTold pt k = 0) : vp_in k 8 := by
  unfold FX7_isTold at h
  split at h
  · exact absurd rfl h
  · next h1 => exact isIx_in (k := k) (n := 8) h1 (by decide) (by decide)
def FX7_holds (pt : Nat → Int32) (pl : Nat → Int32) (pm : Nat → Int32) (k : Int32) (w : Int32) : Int32 := if (FX7_isTold pt k) = 0 then 0 else (if w < (pl k.toNatClampNeg) then 0 else (if (pm k.toNatClampNeg) < w then 0 else 1))
theorem FX7_holds_b (pt : Nat → Int32) (pl : Nat → Int32) (pm : Nat → Int32) (k : Int32) (w : Int32) : isB (FX7_holds pt pl pm k w) := by
  unfold FX7_holds
  repeat' split
  all_goals first | exact isB_0 | exact isB_1
set_option maxHeartbeats 4000000 in
set_option maxRecDepth 100000 in
theorem kX7_holds (l : Launch) (D : va_G) (cI cJ cZ : ClassId) (qp : Nat) (p1 : Nat) (p2 : Nat) (p3 : Nat) (pt : Nat → Int32) (pl : Nat → Int32) (pm : Nat → Int32) (k : Int32) (w : Int32) : Met l yX7_holds wsX7_holds ({ frames := 3, cells := 0, slots := 0, locals := 63 }) (rP D (tz cI cJ cZ) [.ref qp, .int k, .int w] [(qp, .inr (7, [.ref p1, .ref p2, .ref p3])), (p1, .inl (cZ, 8, .inl pt)), (p2, .inl (cI, 8, .inl pl)), (p3, .inl (cI, 8, .inl pm))]) (k2_QcV (.int (FX7_holds pt pl pm k w))) 0 0 (fun _ => False) := by
  refine Met.ofW (cc := cX7_holds) (maxL := 3) (ret := (some .boolean)) (by decide) rfl ?_
  intro p e s m args below meth c s₁ B hml hv
  obtain ⟨rfl, hP, hK, hN⟩ := hv
  have hx := B.exec
  have hb := B.bytes
  have hr := B.returns
  have hts := atoms_spec (ws := wsX7_holds) B.pre
  have hown : s.vm.findClass RX7 = some m.cls := findClass_of_methodNamed B.named
  have hlocks := B.notSynchronized
  have iw_7 : ∀ w ∈ u_ws RX7 TX7 3, w ∈ wsX7_holds := by decide +kernel
  generalize hE : FX7_holds pt pl pm k w = R0
  rw [FX7_holds] at hE
  have hl := lv_entry ([.ref qp, .int k, .int w]) (n := 3) (Nat.le_of_ble_eq_true rfl)
  rw [lg_entry_eq]
  generalize (lg_sl ([.ref qp, .int k, .int w]) ++ List.replicate (3 - (lg_sl ([.ref qp, .int k, .int w])).length) Slot.unset).toArray = ls at hl ⊢
  have hl : lv_has ls 3 [(0, .ref qp), (1, .int k), (2, .int w)] := hl
  refine lv_aload_n hx hb dX7_holds_0 rfl (lv_at hl 0 rfl) ?_
  refine lv_iload_n hx hb dX7_holds_1 rfl (lv_at hl 1 rfl) ?_
  refine rd_call (va_runV (As := [.int k]) (rest := []) ⟨hx, hb, hml, hown, hts⟩ (kX7_isTold l D cI cJ cZ qp p1 p2 p3 pt pl pm k) (cwV 1 hts gX7_holds_X7_isTold rfl rfl rfl (by decide +kernel) ⟨Nat.le_of_ble_eq_true rfl, Nat.le_of_ble_eq_true rfl⟩) ⟨rP_blind, va_recv hK hP (ci := 7) (q0 := 0) rfl rfl, rP_pre (hP.sub [0, 1, 2, 3] rfl) hK hN⟩ rfl rfl hl.1 rfl (lv_room (Nat.le_of_ble_eq_true rfl)) dX7_holds_2 ⟨Nat.zero_le _, Nat.zero_le _⟩) ?_
  refine lv_if_eq (tgt := 32) hx hb dX7_holds_5 (by decide) (fun c_1 => ?_) (fun c_1 => ?_)
  · rw [if_pos c_1] at hE
    refine lv_iconst (v := 0) hx hb dX7_holds_32 (by decide) ?_
    exact W.zret hx hb hr narrow_b0 (fun t ht hW => ⟨by rw [← hE], ht⟩) (fun q h => absurd h List.not_mem_nil) dX7_holds_33
  · rw [if_neg c_1] at hE
    have hin : vp_in k 8 := told_in (by assumption)
    refine lv_iload_n hx hb dX7_holds_8 rfl (lv_at hl 2 rfl) ?_
    refine lv_aload_n hx hb dX7_holds_9 rfl (lv_at hl 0 rfl) ?_
    refine va_get (D := D) (ci := 7) (v := .ref p2) (C := RX7) (T := TX7) (N := 3) hx hb hts iw_7 hown hK hP 0 rfl rfl 1 (by decide) (hts (.fieldLink RX7 13 "DepositCodes$Spans" "leasts" "[I") (by decide +kernel)) (fun _ h9 => h9) rfl dX7_holds_10 ?_
    refine lv_iload_n hx hb dX7_holds_13 rfl (lv_at hl 1 rfl) ?_
    refine va_iald hx hb hK hP 2 0 rfl rfl (by assumption) dX7_holds_14 ?_
    refine lv_icmp_lt (tgt := 32) hx hb dX7_holds_15 (by decide) (fun c_2 => ?_) (fun c_2 => ?_)
    · rw [if_pos c_2] at hE
      refine lv_iconst (v := 0) hx hb dX7_holds_32 (by decide) ?_
      exact W.zret hx hb hr narrow_b0 (fun t ht hW => ⟨by rw [← hE], ht⟩) (fun q h => absurd h List.not_mem_nil) dX7_holds_33
    · rw [if_neg c_2] at hE
      refine lv_iload_n hx hb dX7_holds_18 rfl (lv_at hl 2 rfl) ?_
      refine lv_aload_n hx hb dX7_holds_19 rfl (lv_at hl 0 rfl) ?_
      refine va_get (D := D) (ci := 7) (v := .ref p3) (C := RX7) (T := TX7) (N := 3) hx hb hts iw_7 hown hK hP 0 rfl rfl 2 (by decide) (hts (.fieldLink RX7 17 "DepositCodes$Spans" "mosts" "[I") (by decide +kernel)) (fun _ h9 => h9) rfl dX7_holds_20 ?_
      refine lv_iload_n hx hb dX7_holds_23 rfl (lv_at hl 1 rfl) ?_
      refine va_iald hx hb hK hP 3 0 rfl rfl (by assumption) dX7_holds_24 ?_
      refine lv_icmp_gt (tgt := 32) hx hb dX7_holds_25 (by decide) (fun c_3 => ?_) (fun c_3 => ?_)
      · rw [if_pos c_3] at hE
        refine lv_iconst (v := 0) hx hb dX7_holds_32 (by decide) ?_
        exact W.zret hx hb hr narrow_b0 (fun t ht hW => ⟨by rw [← hE], ht⟩) (fun q h => absurd h List.not_mem_nil) dX7_holds_33
      · rw [if_neg c_3] at hE
        refine lv_iconst (v := 1) hx hb dX7_holds_28 (by decide) ?_
        refine lv_goto (tgt := 33) hx hb dX7_holds_29 (by decide) ?_
        exact W.zret hx hb hr narrow_b1 (fun t ht hW => ⟨by rw [← hE], ht⟩) (fun q h => absurd h List.not_mem_nil) dX7_holds_33
def FX7_tell (pt : Nat → Int32) (pl : Nat → Int32) (pm : Nat → Int32) (k : Int32) (le : Int32) (mo : Int32) : Int32 × (Nat → Int32) × (Nat → Int32) × (Nat → Int32) := if (FX7_exists k) = 0 then (0, pt, pl, pm) else (if le < 0 then (0, pt, pl, pm) else (if 100000 < mo then (0, pt, pl, pm) else (if le ≤ mo then (1, upd pt k.toNatClampNeg (vp_nar .boolean 1), upd pl k.toNatClampNeg le, upd pm k.toNatClampNeg mo) else (0, pt, pl, pm))))
theorem FX7_tell_b (pt : Nat → Int32) (pl : Nat → Int32) (pm : Nat → Int32) (k : Int32) (le : Int32) (mo : Int32) : isB ((FX7_tell pt pl pm k le mo).1) := by
  unfold FX7_tell
  repeat' split
  all_goals first | exact isB_0 | exact isB_1
set_option maxHeartbeats 4000000 in
set_option maxRecDepth 100000 in
theorem kX7_tell (l : Launch) (D : va_G) (cI cJ cZ : ClassId) (qp : Nat) (p1 : Nat) (p2 : Nat) (p3 : Nat) (pt : Nat → Int32) (pl : Nat → Int32) (pm : Nat → Int32) (k : Int32) (le : Int32) (mo : Int32) (sz : Nat) : Met l yX7_tell wsX7_tell ({ frames := 2, cells := 0, slots := 0, locals := 42 }) (mP D (tz cI cJ cZ) [.ref qp, .int k, .int le, .int mo] sz [(qp, .inr (7, [.ref p1, .ref p2, .ref p3])), (p1, .inl (cZ, 8, .inl pt)), (p2, .inl (cI, 8, .inl pl)), (p3, .inl (cI, 8, .inl pm))]) (mQ D (some (.int ((FX7_tell pt pl pm k le mo).1))) [(qp, .inr (7, [.ref p1, .ref p2, .ref p3])), (p1, .inl (cZ, 8, .inl ((FX7_tell pt pl pm k le mo).2.1))), (p2, .inl (cI, 8, .inl ((FX7_tell pt pl pm k le mo).2.2.1))), (p3, .inl (cI, 8, .inl ((FX7_tell pt pl pm k le mo).2.2.2)))] (va_A [(qp, .inr (7, [.ref p1, .ref p2, .ref p3])), (p1, .inl (cZ, 8, .inl pt)), (p2, .inl (cI, 8, .inl pl)), (p3, .inl (cI, 8, .inl pm))] sz)) 0 0 (va_A [(qp, .inr (7, [.ref p1, .ref p2, .ref p3])), (p1, .inl (cZ, 8, .inl pt)), (p2, .inl (cI, 8, .inl pl)), (p3, .inl (cI, 8, .inl pm))] sz) := by
  refine Met.ofW (cc := cX7_tell) (maxL := 4) (ret := (some .boolean)) (by decide) rfl ?_
  intro p e s m args below meth c s₁ B hml hv
  obtain ⟨rfl, hsz, hP, hK, hD0, hN⟩ := hv
  have hx := B.exec
  have hb := B.bytes
  have hr := B.returns
  have hts := atoms_spec (ws := wsX7_tell) B.pre
  have hown : s.vm.findClass RX7 = some m.cls := findClass_of_methodNamed B.named
  have hlocks := B.notSynchronized
  have iw_7 : ∀ w ∈ u_ws RX7 TX7 3, w ∈ wsX7_tell := by decide +kernel
  subst hsz
  have hD := hD0.self (sz := s.heap.size)
  generalize hE : FX7_tell pt pl pm k le mo = R0
  generalize hAe : va_A [(qp, .inr (7, [.ref p1, .ref p2, .ref p3])), (p1, .inl (cZ, 8, .inl pt)), (p2, .inl (cI, 8, .inl pl)), (p3, .inl (cI, 8, .inl pm))] s.heap.size = A at hD ⊢
  have hA : ∀ q : Nat, s.heap.size ≤ q → A q := fun q h => by rw [← hAe]; exact Or.inr h
  have hS : va_S A s.heap s.heap [] := va_S.rf
  rw [FX7_tell] at hE
  have hl := lv_entry ([.ref qp, .int k, .int le, .int mo]) (n := 4) (Nat.le_of_ble_eq_true rfl)
  rw [lg_entry_eq]
  generalize (lg_sl ([.ref qp, .int k, .int le, .int mo]) ++ List.replicate (4 - (lg_sl ([.ref qp, .int k, .int le, .int mo])).length) Slot.unset).toArray = ls at hl ⊢
  have hl : lv_has ls 4 [(0, .ref qp), (1, .int k), (2, .int le), (3, .int mo)] := hl
  refine lv_aload_n hx hb dX7_tell_0 rfl (lv_at hl 0 rfl) ?_
  refine lv_iload_n hx hb dX7_tell_1 rfl (lv_at hl 1 rfl) ?_
  refine rd_call (va_runV (As := [.int k]) (rest := []) ⟨hx, hb, hml, hown, hts⟩ (kX7_exists l D cI cJ cZ qp p1 p2 p3 pt pl pm k) (cwV 1 hts gX7_tell_X7_exists rfl rfl rfl (by decide +kernel) ⟨Nat.le_of_ble_eq_true rfl, Nat.le_of_ble_eq_true rfl⟩) ⟨rP_blind, va_recv hK hP (ci := 7) (q0 := 0) rfl rfl, rP_pre (hP.sub [0, 1, 2, 3] rfl) hK hN⟩ rfl rfl hl.1 rfl (lv_room (Nat.le_of_ble_eq_true rfl)) dX7_tell_2 ⟨Nat.zero_le _, Nat.zero_le _⟩) ?_
  refine lv_if_eq (tgt := 23) hx hb dX7_tell_5 (by decide) (fun c_1 => ?_) (fun c_1 => ?_)
  · rw [if_pos c_1] at hE
    refine lv_iconst (v := 0) hx hb dX7_tell_23 (by decide) ?_
    subst hE
    exact W.zret hx hb hr narrow_b0 (fun t ht hW => ⟨rfl, by rw [ht]; exact hP, hD, hS.F ht⟩) hS.2.2 dX7_tell_24
  · rw [if_neg c_1] at hE
    refine lv_iload_n hx hb dX7_tell_8 rfl (lv_at hl 2 rfl) ?_
    refine lv_if_lt (tgt := 23) hx hb dX7_tell_9 (by decide) (fun c_2 => ?_) (fun c_2 => ?_)
    · rw [if_pos c_2] at hE
      refine lv_iconst (v := 0) hx hb dX7_tell_23 (by decide) ?_
      subst hE
      exact W.zret hx hb hr narrow_b0 (fun t ht hW => ⟨rfl, by rw [ht]; exact hP, hD, hS.F ht⟩) hS.2.2 dX7_tell_24
    · rw [if_neg c_2] at hE
      refine lv_iload_n hx hb dX7_tell_12 rfl (lv_at hl 3 rfl) ?_
      refine lv_ldc hx hb hown (hts (.constant RX7 30 100000) (by decide +kernel)) dX7_tell_13 ?_
      refine lv_icmp_gt (tgt := 23) hx hb dX7_tell_15 (by decide) (fun c_3 => ?_) (fun c_3 => ?_)
      · rw [if_pos c_3] at hE
        refine lv_iconst (v := 0) hx hb dX7_tell_23 (by decide) ?_
        subst hE
        exact W.zret hx hb hr narrow_b0 (fun t ht hW => ⟨rfl, by rw [ht]; exact hP, hD, hS.F ht⟩) hS.2.2 dX7_tell_24
      · rw [if_neg c_3] at hE
        refine lv_iload_n hx hb dX7_tell_18 rfl (lv_at hl 2 rfl) ?_
        refine lv_iload_n hx hb dX7_tell_19 rfl (lv_at hl 3 rfl) ?_
        refine lv_icmp_le (tgt := 25) hx hb dX7_tell_20 (by decide) (fun c_4 => ?_) (fun c_4 => ?_)
        · rw [if_pos c_4] at hE
          have hin : vp_in k 8 := isIx_in (k := k) (n := 8) (by assumption) (by decide) (by decide)
          refine lv_aload_n hx hb dX7_tell_25 rfl (lv_at hl 0 rfl) ?_
          refine va_get (D := D) (ci := 7) (v := .ref p1) (C := RX7) (T := TX7) (N := 3) hx hb hts iw_7 hown hK hP 0 rfl rfl 0 (by decide) (hts (.fieldLink RX7 9 "DepositCodes$Spans" "told" "[Z") (by decide +kernel)) (fun _ h9 => h9) rfl dX7_tell_26 ?_
          refine lv_iload_n hx hb dX7_tell_29 rfl (lv_at hl 1 rfl) ?_
          refine lv_iconst (v := 1) hx hb dX7_tell_30 (by decide) ?_
          refine va_zast hx hb hK hP hD hS 1 2 rfl rfl (by assumption) dX7_tell_31 (fun H locs hP hD hS => ?_)
          have hP : va_P D vwCl [(qp, .inr (7, [.ref p1, .ref p2, .ref p3])), (p1, .inl (cZ, 8, .inl (upd pt k.toNatClampNeg (vp_nar .boolean 1)))), (p2, .inl (cI, 8, .inl pl)), (p3, .inl (cI, 8, .inl pm))] H := hP
          have hD : va_D A [(qp, .inr (7, [.ref p1, .ref p2, .ref p3])), (p1, .inl (cZ, 8, .inl (upd pt k.toNatClampNeg (vp_nar .boolean 1)))), (p2, .inl (cI, 8, .inl pl)), (p3, .inl (cI, 8, .inl pm))] := hD
          refine lv_aload_n hx hb dX7_tell_32 rfl (lv_at hl 0 rfl) ?_
          refine va_get (D := D) (ci := 7) (v := .ref p2) (C := RX7) (T := TX7) (N := 3) hx hb hts iw_7 hown hK hP 0 rfl rfl 1 (by decide) (hts (.fieldLink RX7 13 "DepositCodes$Spans" "leasts" "[I") (by decide +kernel)) (fun _ h9 => h9) rfl dX7_tell_33 ?_
          refine lv_iload_n hx hb dX7_tell_36 rfl (lv_at hl 1 rfl) ?_
          refine lv_iload_n hx hb dX7_tell_37 rfl (lv_at hl 2 rfl) ?_
          refine va_iast hx hb hK hP hD hS 2 0 rfl rfl (by assumption) dX7_tell_38 (fun H locs hP hD hS => ?_)
          have hP : va_P D vwCl [(qp, .inr (7, [.ref p1, .ref p2, .ref p3])), (p1, .inl (cZ, 8, .inl (upd pt k.toNatClampNeg (vp_nar .boolean 1)))), (p2, .inl (cI, 8, .inl (upd pl k.toNatClampNeg le))), (p3, .inl (cI, 8, .inl pm))] H := hP
          have hD : va_D A [(qp, .inr (7, [.ref p1, .ref p2, .ref p3])), (p1, .inl (cZ, 8, .inl (upd pt k.toNatClampNeg (vp_nar .boolean 1)))), (p2, .inl (cI, 8, .inl (upd pl k.toNatClampNeg le))), (p3, .inl (cI, 8, .inl pm))] := hD
          refine lv_aload_n hx hb dX7_tell_39 rfl (lv_at hl 0 rfl) ?_
          refine va_get (D := D) (ci := 7) (v := .ref p3) (C := RX7) (T := TX7) (N := 3) hx hb hts iw_7 hown hK hP 0 rfl rfl 2 (by decide) (hts (.fieldLink RX7 17 "DepositCodes$Spans" "mosts" "[I") (by decide +kernel)) (fun _ h9 => h9) rfl dX7_tell_40 ?_
          refine lv_iload_n hx hb dX7_tell_43 rfl (lv_at hl 1 rfl) ?_
          refine lv_iload_n hx hb dX7_tell_44 rfl (lv_at hl 3 rfl) ?_
          refine va_iast hx hb hK hP hD hS 3 0 rfl rfl (by assumption) dX7_tell_45 (fun H locs hP hD hS => ?_)
          have hP : va_P D vwCl [(qp, .inr (7, [.ref p1, .ref p2, .ref p3])), (p1, .inl (cZ, 8, .inl (upd pt k.toNatClampNeg (vp_nar .boolean 1)))), (p2, .inl (cI, 8, .inl (upd pl k.toNatClampNeg le))), (p3, .inl (cI, 8, .inl (upd pm k.toNatClampNeg mo)))] H := hP
          have hD : va_D A [(qp, .inr (7, [.ref p1, .ref p2, .ref p3])), (p1, .inl (cZ, 8, .inl (upd pt k.toNatClampNeg (vp_nar .boolean 1)))), (p2, .inl (cI, 8, .inl (upd pl k.toNatClampNeg le))), (p3, .inl (cI, 8, .inl (upd pm k.toNatClampNeg mo)))] := hD
          refine lv_iconst (v := 1) hx hb dX7_tell_46 (by decide) ?_
          subst hE
          exact W.zret hx hb hr narrow_b1 (fun t ht hW => ⟨rfl, by rw [ht]; exact hP, hD, hS.F ht⟩) hS.2.2 dX7_tell_47
        · rw [if_neg c_4] at hE
          refine lv_iconst (v := 0) hx hb dX7_tell_23 (by decide) ?_
          subst hE
          exact W.zret hx hb hr narrow_b0 (fun t ht hW => ⟨rfl, by rw [ht]; exact hP, hD, hS.F ht⟩) hS.2.2 dX7_tell_24
end
section
def FX6_areAtLimit (yn : Nat) : Int32 := if yn < 200 then 0 else 1
theorem FX6_areAtLimit_b (yn : Nat) : isB (FX6_areAtLimit yn) := by
  unfold FX6_areAtLimit
  repeat' split
  all_goals first | exact isB_0 | exact isB_1
set_option maxHeartbeats 4000000 in
set_option maxRecDepth 100000 in
theorem kX6_areAtLimit (l : Launch) (D : va_G) (cI cJ cZ : ClassId) (qy : Nat) (y1 : Nat) (y2 : Nat) (y3 : Nat) (y4 : Nat) (y5 : Nat) (y6 : Nat) (ys : Nat → Int64) (yp : Nat → Int32) (yt : Nat → Int32) (yh : Nat → Int32) (ym : Nat → Int32) (yr : Nat → Int32) (yn : Nat) (hyn : yn ≤ 200) : Met l yX6_areAtLimit wsX6_areAtLimit ({ frames := 0, cells := 0, slots := 0, locals := 0 }) (rP D (tz cI cJ cZ) [.ref qy] [(qy, .inr (6, [.ref y1, .ref y2, .ref y3, .ref y4, .ref y5, .ref y6, .int (nI yn)])), (y1, .inl (cJ, 200, .inr (.inl ys))), (y2, .inl (cI, 200, .inl yp)), (y3, .inl (cI, 200, .inl yt)), (y4, .inl (cI, 200, .inl yh)), (y5, .inl (cI, 200, .inl ym)), (y6, .inl (cI, 200, .inl yr))]) (k2_QcV (.int (FX6_areAtLimit yn))) 0 0 (fun _ => False) := by
  refine Met.ofW (cc := cX6_areAtLimit) (maxL := 1) (ret := (some .boolean)) (by decide) rfl ?_
  intro p e s m args below meth c s₁ B hml hv
  obtain ⟨rfl, hP, hK, hN⟩ := hv
  have hx := B.exec
  have hb := B.bytes
  have hr := B.returns
  have hts := atoms_spec (ws := wsX6_areAtLimit) B.pre
  have hown : s.vm.findClass RX6 = some m.cls := findClass_of_methodNamed B.named
  have hlocks := B.notSynchronized
  have iw_6 : ∀ w ∈ u_ws RX6 TX6 7, w ∈ wsX6_areAtLimit := by decide +kernel
  generalize hE : FX6_areAtLimit yn = R0
  rw [FX6_areAtLimit] at hE
  have hl := lv_entry ([.ref qy]) (n := 1) (Nat.le_of_ble_eq_true rfl)
  rw [lg_entry_eq]
  generalize (lg_sl ([.ref qy]) ++ List.replicate (1 - (lg_sl ([.ref qy])).length) Slot.unset).toArray = ls at hl ⊢
  have hl : lv_has ls 1 [(0, .ref qy)] := hl
  refine lv_aload_n hx hb dX6_areAtLimit_0 rfl (lv_at hl 0 rfl) ?_
  refine va_get (D := D) (ci := 6) (v := .int (nI yn)) (C := RX6) (T := TX6) (N := 7) hx hb hts iw_6 hown hK hP 0 rfl rfl 6 (by decide) (hts (.fieldLink RX6 31 "DepositCodes$Payments" "size" "I") (by decide +kernel)) (fun _ h9 => h9) rfl dX6_areAtLimit_1 ?_
  refine lv_sipush (v := 200) hx hb dX6_areAtLimit_4 (by decide) ?_
  refine lv_icmp_lt (tgt := 14) hx hb dX6_areAtLimit_7 (by decide) (fun c_1 => ?_) (fun c_1 => ?_)
  · have c_1 : yn < 200 := (nI_ltI (a := yn) (b := 200) (by omega) (by omega)).mp c_1
    rw [if_pos c_1] at hE
    refine lv_iconst (v := 0) hx hb dX6_areAtLimit_14 (by decide) ?_
    exact W.zret hx hb hr narrow_b0 (fun t ht hW => ⟨by rw [← hE], ht⟩) (fun q h => absurd h List.not_mem_nil) dX6_areAtLimit_15
  · have c_1 : ¬ yn < 200 := fun h9 => c_1 ((nI_ltI (a := yn) (b := 200) (by omega) (by omega)).mpr h9)
    rw [if_neg c_1] at hE
    refine lv_iconst (v := 1) hx hb dX6_areAtLimit_10 (by decide) ?_
    refine lv_goto (tgt := 15) hx hb dX6_areAtLimit_11 (by decide) ?_
    exact W.zret hx hb hr narrow_b1 (fun t ht hW => ⟨by rw [← hE], ht⟩) (fun q h => absurd h List.not_mem_nil) dX6_areAtLimit_15
def FX6_size (yn : Nat) : Nat := yn
set_option maxHeartbeats 4000000 in
set_option maxRecDepth 100000 in
theorem kX6_size (l : Launch) (D : va_G) (cI cJ cZ : ClassId) (qy : Nat) (y1 : Nat) (y2 : Nat) (y3 : Nat) (y4 : Nat) (y5 : Nat) (y6 : Nat) (ys : Nat → Int64) (yp : Nat → Int32) (yt : Nat → Int32) (yh : Nat → Int32) (ym : Nat → Int32) (yr : Nat → Int32) (yn : Nat) : Met l yX6_size wsX6_size ({ frames := 0, cells := 0, slots := 0, locals := 0 }) (rP D (tz cI cJ cZ) [.ref qy] [(qy, .inr (6, [.ref y1, .ref y2, .ref y3, .ref y4, .ref y5, .ref y6, .int (nI yn)])), (y1, .inl (cJ, 200, .inr (.inl ys))), (y2, .inl (cI, 200, .inl yp)), (y3, .inl (cI, 200, .inl yt)), (y4, .inl (cI, 200, .inl yh)), (y5, .inl (cI, 200, .inl ym)), (y6, .inl (cI, 200, .inl yr))]) (k2_QcV (.int (nI yn))) 0 0 (fun _ => False) := by
  refine Met.ofW (cc := cX6_size) (maxL := 1) (ret := (some .int)) (by decide) rfl ?_
  intro p e s m args below meth c s₁ B hml hv
  obtain ⟨rfl, hP, hK, hN⟩ := hv
  have hx := B.exec
  have hb := B.bytes
  have hr := B.returns
  have hts := atoms_spec (ws := wsX6_size) B.pre
  have hown : s.vm.findClass RX6 = some m.cls := findClass_of_methodNamed B.named
  have hlocks := B.notSynchronized
  have iw_6 : ∀ w ∈ u_ws RX6 TX6 7, w ∈ wsX6_size := by decide +kernel
  generalize hE : yn = R0
  skip
  have hl := lv_entry ([.ref qy]) (n := 1) (Nat.le_of_ble_eq_true rfl)
  rw [lg_entry_eq]
  generalize (lg_sl ([.ref qy]) ++ List.replicate (1 - (lg_sl ([.ref qy])).length) Slot.unset).toArray = ls at hl ⊢
  have hl : lv_has ls 1 [(0, .ref qy)] := hl
  refine lv_aload_n hx hb dX6_size_0 rfl (lv_at hl 0 rfl) ?_
  refine va_get (D := D) (ci := 6) (v := .int (nI yn)) (C := RX6) (T := TX6) (N := 7) hx hb hts iw_6 hown hK hP 0 rfl rfl 6 (by decide) (hts (.fieldLink RX6 31 "DepositCodes$Payments" "size" "I") (by decide +kernel)) (fun _ h9 => h9) rfl dX6_size_1 ?_
  exact W.iret (v := nI yn) hx hb hr (fun t ht hW => ⟨by rw [← hE], ht⟩) (fun q h => absurd h List.not_mem_nil) dX6_size_4
def FX6_serialOf (ys : Nat → Int64) (yn : Nat) (k : Int32) : Int64 := if (FX8_isIndex k (nI yn)) = 0 then (-1) else ys k.toNatClampNeg
set_option maxHeartbeats 4000000 in
set_option maxRecDepth 100000 in
theorem kX6_serialOf (l : Launch) (D : va_G) (cI cJ cZ : ClassId) (qy : Nat) (y1 : Nat) (y2 : Nat) (y3 : Nat) (y4 : Nat) (y5 : Nat) (y6 : Nat) (ys : Nat → Int64) (yp : Nat → Int32) (yt : Nat → Int32) (yh : Nat → Int32) (ym : Nat → Int32) (yr : Nat → Int32) (yn : Nat) (k : Int32) (hyn : yn ≤ 200) : Met l yX6_serialOf wsX6_serialOf ({ frames := 1, cells := 0, slots := 0, locals := 21 }) (rP D (tz cI cJ cZ) [.ref qy, .int k] [(qy, .inr (6, [.ref y1, .ref y2, .ref y3, .ref y4, .ref y5, .ref y6, .int (nI yn)])), (y1, .inl (cJ, 200, .inr (.inl ys))), (y2, .inl (cI, 200, .inl yp)), (y3, .inl (cI, 200, .inl yt)), (y4, .inl (cI, 200, .inl yh)), (y5, .inl (cI, 200, .inl ym)), (y6, .inl (cI, 200, .inl yr))]) (k2_QcV (.long (FX6_serialOf ys yn k))) 0 0 (fun _ => False) := by
  refine Met.ofW (cc := cX6_serialOf) (maxL := 2) (ret := (some .long)) (by decide) rfl ?_
  intro p e s m args below meth c s₁ B hml hv
  obtain ⟨rfl, hP, hK, hN⟩ := hv
  have hx := B.exec
  have hb := B.bytes
  have hr := B.returns
  have hts := atoms_spec (ws := wsX6_serialOf) B.pre
  have hown : s.vm.findClass RX6 = some m.cls := findClass_of_methodNamed B.named
  have hlocks := B.notSynchronized
  have iw_6 : ∀ w ∈ u_ws RX6 TX6 7, w ∈ wsX6_serialOf := by decide +kernel
  generalize hE : FX6_serialOf ys yn k = R0
  rw [FX6_serialOf] at hE
  have hl := lv_entry ([.ref qy, .int k]) (n := 2) (Nat.le_of_ble_eq_true rfl)
  rw [lg_entry_eq]
  generalize (lg_sl ([.ref qy, .int k]) ++ List.replicate (2 - (lg_sl ([.ref qy, .int k])).length) Slot.unset).toArray = ls at hl ⊢
  have hl : lv_has ls 2 [(0, .ref qy), (1, .int k)] := hl
  refine lv_iload_n hx hb dX6_serialOf_0 rfl (lv_at hl 1 rfl) ?_
  refine lv_aload_n hx hb dX6_serialOf_1 rfl (lv_at hl 0 rfl) ?_
  refine va_get (D := D) (ci := 6) (v := .int (nI yn)) (C := RX6) (T := TX6) (N := 7) hx hb hts iw_6 hown hK hP 0 rfl rfl 6 (by decide) (hts (.fieldLink RX6 31 "DepositCodes$Payments" "size" "I") (by decide +kernel)) (fun _ h9 => h9) rfl dX6_serialOf_2 ?_
  refine rd_call (va_runSN (As := [.int k, .int (nI yn)]) (rest := []) ⟨hx, hb, hml, hown, hts⟩ (kX8_isIndex l D cI cJ cZ k (nI yn)) ⟨va_cnB 2 hts gX6_serialOf_X8_isIndex_n35 rfl rfl rfl hN.2.2.2.2.2.2.1 (hts (.initialized RX8) (by decide +kernel)) (by decide +kernel) ⟨Nat.le_of_ble_eq_true rfl, Nat.le_of_ble_eq_true rfl⟩, hts (.static yX8_isIndex) (by decide +kernel), trivial⟩ ⟨rP_blind, rP_pre (va_P_nil) hK hN⟩ rfl rfl hl.1 rfl (lv_room (Nat.le_of_ble_eq_true rfl)) dX6_serialOf_5 ⟨Nat.zero_le _, Nat.zero_le _⟩) ?_
  refine lv_if_eq (tgt := 20) hx hb dX6_serialOf_8 (by decide) (fun c_1 => ?_) (fun c_1 => ?_)
  · rw [if_pos c_1] at hE
    refine lv_ldc2 hx hb hown (hts (.constantLong RX6 39 (-1)) (by decide +kernel)) dX6_serialOf_20 ?_
    exact W.lret hx hb hr (fun t ht hW => ⟨by rw [← hE], ht⟩) (fun q h => absurd h List.not_mem_nil) dX6_serialOf_23
  · rw [if_neg c_1] at hE
    have hin : vp_in k 200 := isIx_in (k := k) (n := yn) (by assumption) hyn (by decide)
    refine lv_aload_n hx hb dX6_serialOf_11 rfl (lv_at hl 0 rfl) ?_
    refine va_get (D := D) (ci := 6) (v := .ref y1) (C := RX6) (T := TX6) (N := 7) hx hb hts iw_6 hown hK hP 0 rfl rfl 0 (by decide) (hts (.fieldLink RX6 11 "DepositCodes$Payments" "serials" "[J") (by decide +kernel)) (fun _ h9 => h9) rfl dX6_serialOf_12 ?_
    refine lv_iload_n hx hb dX6_serialOf_15 rfl (lv_at hl 1 rfl) ?_
    refine va_lald hx hb hK hP 1 1 rfl rfl (by assumption) dX6_serialOf_16 ?_
    refine lv_goto (tgt := 23) hx hb dX6_serialOf_17 (by decide) ?_
    exact W.lret hx hb hr (fun t ht hW => ⟨by rw [← hE], ht⟩) (fun q h => absurd h List.not_mem_nil) dX6_serialOf_23
def FX6_payerOf (yp : Nat → Int32) (yn : Nat) (k : Int32) : Int32 := if (FX8_isIndex k (nI yn)) = 0 then (-1) else yp k.toNatClampNeg
set_option maxHeartbeats 4000000 in
set_option maxRecDepth 100000 in
theorem kX6_payerOf (l : Launch) (D : va_G) (cI cJ cZ : ClassId) (qy : Nat) (y1 : Nat) (y2 : Nat) (y3 : Nat) (y4 : Nat) (y5 : Nat) (y6 : Nat) (ys : Nat → Int64) (yp : Nat → Int32) (yt : Nat → Int32) (yh : Nat → Int32) (ym : Nat → Int32) (yr : Nat → Int32) (yn : Nat) (k : Int32) (hyn : yn ≤ 200) : Met l yX6_payerOf wsX6_payerOf ({ frames := 1, cells := 0, slots := 0, locals := 21 }) (rP D (tz cI cJ cZ) [.ref qy, .int k] [(qy, .inr (6, [.ref y1, .ref y2, .ref y3, .ref y4, .ref y5, .ref y6, .int (nI yn)])), (y1, .inl (cJ, 200, .inr (.inl ys))), (y2, .inl (cI, 200, .inl yp)), (y3, .inl (cI, 200, .inl yt)), (y4, .inl (cI, 200, .inl yh)), (y5, .inl (cI, 200, .inl ym)), (y6, .inl (cI, 200, .inl yr))]) (k2_QcV (.int (FX6_payerOf yp yn k))) 0 0 (fun _ => False) := by
  refine Met.ofW (cc := cX6_payerOf) (maxL := 2) (ret := (some .int)) (by decide) rfl ?_
  intro p e s m args below meth c s₁ B hml hv
  obtain ⟨rfl, hP, hK, hN⟩ := hv
  have hx := B.exec
  have hb := B.bytes
  have hr := B.returns
  have hts := atoms_spec (ws := wsX6_payerOf) B.pre
  have hown : s.vm.findClass RX6 = some m.cls := findClass_of_methodNamed B.named
  have hlocks := B.notSynchronized
  have iw_6 : ∀ w ∈ u_ws RX6 TX6 7, w ∈ wsX6_payerOf := by decide +kernel
  generalize hE : FX6_payerOf yp yn k = R0
  rw [FX6_payerOf] at hE
  have hl := lv_entry ([.ref qy, .int k]) (n := 2) (Nat.le_of_ble_eq_true rfl)
  rw [lg_entry_eq]
  generalize (lg_sl ([.ref qy, .int k]) ++ List.replicate (2 - (lg_sl ([.ref qy, .int k])).length) Slot.unset).toArray = ls at hl ⊢
  have hl : lv_has ls 2 [(0, .ref qy), (1, .int k)] := hl
  refine lv_iload_n hx hb dX6_payerOf_0 rfl (lv_at hl 1 rfl) ?_
  refine lv_aload_n hx hb dX6_payerOf_1 rfl (lv_at hl 0 rfl) ?_
  refine va_get (D := D) (ci := 6) (v := .int (nI yn)) (C := RX6) (T := TX6) (N := 7) hx hb hts iw_6 hown hK hP 0 rfl rfl 6 (by decide) (hts (.fieldLink RX6 31 "DepositCodes$Payments" "size" "I") (by decide +kernel)) (fun _ h9 => h9) rfl dX6_payerOf_2 ?_
  refine rd_call (va_runSN (As := [.int k, .int (nI yn)]) (rest := []) ⟨hx, hb, hml, hown, hts⟩ (kX8_isIndex l D cI cJ cZ k (nI yn)) ⟨va_cnB 2 hts gX6_payerOf_X8_isIndex_n35 rfl rfl rfl hN.2.2.2.2.2.2.1 (hts (.initialized RX8) (by decide +kernel)) (by decide +kernel) ⟨Nat.le_of_ble_eq_true rfl, Nat.le_of_ble_eq_true rfl⟩, hts (.static yX8_isIndex) (by decide +kernel), trivial⟩ ⟨rP_blind, rP_pre (va_P_nil) hK hN⟩ rfl rfl hl.1 rfl (lv_room (Nat.le_of_ble_eq_true rfl)) dX6_payerOf_5 ⟨Nat.zero_le _, Nat.zero_le _⟩) ?_
  refine lv_if_eq (tgt := 20) hx hb dX6_payerOf_8 (by decide) (fun c_1 => ?_) (fun c_1 => ?_)
  · rw [if_pos c_1] at hE
    refine lv_iconst (v := (-1)) hx hb dX6_payerOf_20 (by decide) ?_
    exact W.iret hx hb hr (fun t ht hW => ⟨by rw [← hE], ht⟩) (fun q h => absurd h List.not_mem_nil) dX6_payerOf_21
  · rw [if_neg c_1] at hE
    have hin : vp_in k 200 := isIx_in (k := k) (n := yn) (by assumption) hyn (by decide)
    refine lv_aload_n hx hb dX6_payerOf_11 rfl (lv_at hl 0 rfl) ?_
    refine va_get (D := D) (ci := 6) (v := .ref y2) (C := RX6) (T := TX6) (N := 7) hx hb hts iw_6 hown hK hP 0 rfl rfl 1 (by decide) (hts (.fieldLink RX6 15 "DepositCodes$Payments" "payers" "[I") (by decide +kernel)) (fun _ h9 => h9) rfl dX6_payerOf_12 ?_
    refine lv_iload_n hx hb dX6_payerOf_15 rfl (lv_at hl 1 rfl) ?_
    refine va_iald hx hb hK hP 2 0 rfl rfl (by assumption) dX6_payerOf_16 ?_
    refine lv_goto (tgt := 21) hx hb dX6_payerOf_17 (by decide) ?_
    exact W.iret hx hb hr (fun t ht hW => ⟨by rw [← hE], ht⟩) (fun q h => absurd h List.not_mem_nil) dX6_payerOf_21
def FX6_isOf (yt : Nat → Int32) (yn : Nat) (k : Int32) (st : Int32) : Int32 := if (FX8_isIndex k (nI yn)) = 0 then 0 else (if (yt k.toNatClampNeg) = st then 1 else 0)
theorem FX6_isOf_b (yt : Nat → Int32) (yn : Nat) (k : Int32) (st : Int32) : isB (FX6_isOf yt yn k st) := by
  unfold FX6_isOf
  repeat' split
  all_goals first | exact isB_0 | exact isB_1
set_option maxHeartbeats 4000000 in
set_option maxRecDepth 100000 in
theorem kX6_isOf (l : Launch) (D : va_G) (cI cJ cZ : ClassId) (qy : Nat) (y1 : Nat) (y2 : Nat) (y3 : Nat) (y4 : Nat) (y5 : Nat) (y6 : Nat) (ys : Nat → Int64) (yp : Nat → Int32) (yt : Nat → Int32) (yh : Nat → Int32) (ym : Nat → Int32) (yr : Nat → Int32) (yn : Nat) (k : Int32) (st : Int32) (hyn : yn ≤ 200) : Met l yX6_isOf wsX6_isOf ({ frames := 1, cells := 0, slots := 0, locals := 21 }) (rP D (tz cI cJ cZ) [.ref qy, .int k, .int st] [(qy, .inr (6, [.ref y1, .ref y2, .ref y3, .ref y4, .ref y5, .ref y6, .int (nI yn)])), (y1, .inl (cJ, 200, .inr (.inl ys))), (y2, .inl (cI, 200, .inl yp)), (y3, .inl (cI, 200, .inl yt)), (y4, .inl (cI, 200, .inl yh)), (y5, .inl (cI, 200, .inl ym)), (y6, .inl (cI, 200, .inl yr))]) (k2_QcV (.int (FX6_isOf yt yn k st))) 0 0 (fun _ => False) := by
  refine Met.ofW (cc := cX6_isOf) (maxL := 3) (ret := (some .boolean)) (by decide) rfl ?_
  intro p e s m args below meth c s₁ B hml hv
  obtain ⟨rfl, hP, hK, hN⟩ := hv
  have hx := B.exec
  have hb := B.bytes
  have hr := B.returns
  have hts := atoms_spec (ws := wsX6_isOf) B.pre
  have hown : s.vm.findClass RX6 = some m.cls := findClass_of_methodNamed B.named
  have hlocks := B.notSynchronized
  have iw_6 : ∀ w ∈ u_ws RX6 TX6 7, w ∈ wsX6_isOf := by decide +kernel
  generalize hE : FX6_isOf yt yn k st = R0
  rw [FX6_isOf] at hE
  have hl := lv_entry ([.ref qy, .int k, .int st]) (n := 3) (Nat.le_of_ble_eq_true rfl)
  rw [lg_entry_eq]
  generalize (lg_sl ([.ref qy, .int k, .int st]) ++ List.replicate (3 - (lg_sl ([.ref qy, .int k, .int st])).length) Slot.unset).toArray = ls at hl ⊢
  have hl : lv_has ls 3 [(0, .ref qy), (1, .int k), (2, .int st)] := hl
  refine lv_iload_n hx hb dX6_isOf_0 rfl (lv_at hl 1 rfl) ?_
  refine lv_aload_n hx hb dX6_isOf_1 rfl (lv_at hl 0 rfl) ?_
  refine va_get (D := D) (ci := 6) (v := .int (nI yn)) (C := RX6) (T := TX6) (N := 7) hx hb hts iw_6 hown hK hP 0 rfl rfl 6 (by decide) (hts (.fieldLink RX6 31 "DepositCodes$Payments" "size" "I") (by decide +kernel)) (fun _ h9 => h9) rfl dX6_isOf_2 ?_
  refine rd_call (va_runSN (As := [.int k, .int (nI yn)]) (rest := []) ⟨hx, hb, hml, hown, hts⟩ (kX8_isIndex l D cI cJ cZ k (nI yn)) ⟨va_cnB 2 hts gX6_isOf_X8_isIndex_n35 rfl rfl rfl hN.2.2.2.2.2.2.1 (hts (.initialized RX8) (by decide +kernel)) (by decide +kernel) ⟨Nat.le_of_ble_eq_true rfl, Nat.le_of_ble_eq_true rfl⟩, hts (.static yX8_isIndex) (by decide +kernel), trivial⟩ ⟨rP_blind, rP_pre (va_P_nil) hK hN⟩ rfl rfl hl.1 rfl (lv_room (Nat.le_of_ble_eq_true rfl)) dX6_isOf_5 ⟨Nat.zero_le _, Nat.zero_le _⟩) ?_
  refine lv_if_eq (tgt := 25) hx hb dX6_isOf_8 (by decide) (fun c_1 => ?_) (fun c_1 => ?_)
  · rw [if_pos c_1] at hE
    refine lv_iconst (v := 0) hx hb dX6_isOf_25 (by decide) ?_
    exact W.zret hx hb hr narrow_b0 (fun t ht hW => ⟨by rw [← hE], ht⟩) (fun q h => absurd h List.not_mem_nil) dX6_isOf_26
  · rw [if_neg c_1] at hE
    have hin : vp_in k 200 := isIx_in (k := k) (n := yn) (by assumption) hyn (by decide)
    refine lv_aload_n hx hb dX6_isOf_11 rfl (lv_at hl 0 rfl) ?_
    refine va_get (D := D) (ci := 6) (v := .ref y3) (C := RX6) (T := TX6) (N := 7) hx hb hts iw_6 hown hK hP 0 rfl rfl 2 (by decide) (hts (.fieldLink RX6 19 "DepositCodes$Payments" "sets" "[I") (by decide +kernel)) (fun _ h9 => h9) rfl dX6_isOf_12 ?_
    refine lv_iload_n hx hb dX6_isOf_15 rfl (lv_at hl 1 rfl) ?_
    refine va_iald hx hb hK hP 3 0 rfl rfl (by assumption) dX6_isOf_16 ?_
    refine lv_iload_n hx hb dX6_isOf_17 rfl (lv_at hl 2 rfl) ?_
    refine lv_icmp_ne (tgt := 25) hx hb dX6_isOf_18 (by decide) (fun c_2 => ?_) (fun c_2 => ?_)
    · rw [if_neg c_2] at hE
      refine lv_iconst (v := 0) hx hb dX6_isOf_25 (by decide) ?_
      exact W.zret hx hb hr narrow_b0 (fun t ht hW => ⟨by rw [← hE], ht⟩) (fun q h => absurd h List.not_mem_nil) dX6_isOf_26
    · rw [if_pos c_2] at hE
      refine lv_iconst (v := 1) hx hb dX6_isOf_21 (by decide) ?_
      refine lv_goto (tgt := 26) hx hb dX6_isOf_22 (by decide) ?_
      exact W.zret hx hb hr narrow_b1 (fun t ht hW => ⟨by rw [← hE], ht⟩) (fun q h => absurd h List.not_mem_nil) dX6_isOf_26
def FX6_find_l3 (ys : Nat → Int64) (yt : Nat → Int32) (yn : Nat) (v : Int64) (st : Int32) : Nat → Nat → Int32
  | 0, _ => 0
  | n + 1, k => if yn ≤ k then (-1) else (if (lg_cmp (ys k) v) = 0 then (if (yt k) = st then nI k else FX6_find_l3 ys yt yn v st n (k + 1)) else FX6_find_l3 ys yt yn v st n (k + 1))
def FX6_find (ys : Nat → Int64) (yt : Nat → Int32) (yn : Nat) (v : Int64) (st : Int32) : Int32 := FX6_find_l3 ys yt yn v st (yn + 1) 0
set_option maxHeartbeats 4000000 in
set_option maxRecDepth 100000 in
theorem kX6_find (l : Launch) (D : va_G) (cI cJ cZ : ClassId) (qy : Nat) (y1 : Nat) (y2 : Nat) (y3 : Nat) (y4 : Nat) (y5 : Nat) (y6 : Nat) (ys : Nat → Int64) (yp : Nat → Int32) (yt : Nat → Int32) (yh : Nat → Int32) (ym : Nat → Int32) (yr : Nat → Int32) (yn : Nat) (v : Int64) (st : Int32) (hyn : yn ≤ 200) : Met l yX6_find wsX6_find ({ frames := 0, cells := 0, slots := 0, locals := 0 }) (rP D (tz cI cJ cZ) [.ref qy, .long v, .int st] [(qy, .inr (6, [.ref y1, .ref y2, .ref y3, .ref y4, .ref y5, .ref y6, .int (nI yn)])), (y1, .inl (cJ, 200, .inr (.inl ys))), (y2, .inl (cI, 200, .inl yp)), (y3, .inl (cI, 200, .inl yt)), (y4, .inl (cI, 200, .inl yh)), (y5, .inl (cI, 200, .inl ym)), (y6, .inl (cI, 200, .inl yr))]) (k2_QcV (.int (FX6_find ys yt yn v st))) 0 0 (fun _ => False) := by
  refine Met.ofW (cc := cX6_find) (maxL := 5) (ret := (some .int)) (by decide) rfl ?_
  intro p e s m args below meth c s₁ B hml hv
  obtain ⟨rfl, hP, hK, hN⟩ := hv
  have hx := B.exec
  have hb := B.bytes
  have hr := B.returns
  have hts := atoms_spec (ws := wsX6_find) B.pre
  have hown : s.vm.findClass RX6 = some m.cls := findClass_of_methodNamed B.named
  have hlocks := B.notSynchronized
  have iw_6 : ∀ w ∈ u_ws RX6 TX6 7, w ∈ wsX6_find := by decide +kernel
  generalize hE : FX6_find ys yt yn v st = R0
  rw [FX6_find] at hE
  have hl := lv_entry ([.ref qy, .long v, .int st]) (n := 5) (Nat.le_of_ble_eq_true rfl)
  rw [lg_entry_eq]
  generalize (lg_sl ([.ref qy, .long v, .int st]) ++ List.replicate (5 - (lg_sl ([.ref qy, .long v, .int st])).length) Slot.unset).toArray = ls at hl ⊢
  have hl : lv_has ls 5 [(0, .ref qy), (1, .long v), (3, .int st)] := hl
  have loop_3 : ∀ (n : Nat) (k : Nat), k ≤ yn → k + n = yn + 1 → FX6_find_l3 ys yt yn v st n k = R0 → ∀ ls : Array Slot, lv_has ls 5 [(4, .int (nI k)), (0, .ref qy), (1, .long v), (3, .int st)] → W p l e (headSpec wsX6_find ({ frames := 0, cells := 0, slots := 0, locals := 0 })).room s m ([.ref qy, .long v, .int st] : List Value).toArray below meth c s.heap [] 0 0 (MQ below (k2_QcV (.int R0)) ([.ref qy, .long v, .int st] : List Value).toArray s 0 0 (fun _ => False)) (F0 m 3 ls []) := by
    intro n
    induction n with
    | zero =>
      intro k i_1 i_2
      exact absurd i_1 (by omega)
    | succ n ih =>
      intro k i_1 i_2 hE ls hl
      rw [FX6_find_l3] at hE
      refine lv_iload hx hb dX6_find_3 (lv_at hl 0 rfl) ?_
      refine lv_aload_n hx hb dX6_find_5 rfl (lv_at hl 1 rfl) ?_
      refine va_get (D := D) (ci := 6) (v := .int (nI yn)) (C := RX6) (T := TX6) (N := 7) hx hb hts iw_6 hown hK hP 0 rfl rfl 6 (by decide) (hts (.fieldLink RX6 31 "DepositCodes$Payments" "size" "I") (by decide +kernel)) (fun _ h9 => h9) rfl dX6_find_6 ?_
      refine lv_icmp_ge (tgt := 44) hx hb dX6_find_9 (by decide) (fun c_1 => ?_) (fun c_1 => ?_)
      · have c_1 : yn ≤ k := (nI_leI (a := yn) (b := k) (by omega) (by omega)).mp c_1
        rw [if_pos c_1] at hE
        refine lv_iconst (v := (-1)) hx hb dX6_find_44 (by decide) ?_
        exact W.iret hx hb hr (fun t ht hW => ⟨by rw [← hE], ht⟩) (fun q h => absurd h List.not_mem_nil) dX6_find_45
      · have c_1 : ¬ yn ≤ k := fun h9 => c_1 ((nI_leI (a := yn) (b := k) (by omega) (by omega)).mpr h9)
        rw [if_neg c_1] at hE
        refine lv_aload_n hx hb dX6_find_12 rfl (lv_at hl 1 rfl) ?_
        refine va_get (D := D) (ci := 6) (v := .ref y1) (C := RX6) (T := TX6) (N := 7) hx hb hts iw_6 hown hK hP 0 rfl rfl 0 (by decide) (hts (.fieldLink RX6 11 "DepositCodes$Payments" "serials" "[J") (by decide +kernel)) (fun _ h9 => h9) rfl dX6_find_13 ?_
        refine lv_iload hx hb dX6_find_16 (lv_at hl 0 rfl) ?_
        refine na_lald hx hb hK hP 1 1 rfl rfl (by omega) (by decide) dX6_find_18 ?_
        refine lv_lload_n hx hb dX6_find_19 rfl (lv_at hl 2 rfl) ?_
        refine W.lcmp hx hb dX6_find_20 ?_
        refine lv_if_ne (tgt := 38) hx hb dX6_find_21 (by decide) (fun c_2 => ?_) (fun c_2 => ?_)
        · rw [if_neg c_2] at hE
          refine lv_iinc (v := nI (k + 1)) (lv' := [(4, .int (nI (k + 1))), (0, .ref qy), (1, .long v), (3, .int st)]) hx hb dX6_find_38 hl (k := 0) rfl (nI_1 k) (by decide) rfl (fun ls hl => ?_)
          refine lv_goto (tgt := 3) hx hb dX6_find_41 (by decide) ?_
          exact ih (k + 1) (by omega) (by omega) hE ls (lv_sub hl [0, 1, 2, 3] rfl)
        · rw [if_pos c_2] at hE
          refine lv_aload_n hx hb dX6_find_24 rfl (lv_at hl 1 rfl) ?_
          refine va_get (D := D) (ci := 6) (v := .ref y3) (C := RX6) (T := TX6) (N := 7) hx hb hts iw_6 hown hK hP 0 rfl rfl 2 (by decide) (hts (.fieldLink RX6 19 "DepositCodes$Payments" "sets" "[I") (by decide +kernel)) (fun _ h9 => h9) rfl dX6_find_25 ?_
          refine lv_iload hx hb dX6_find_28 (lv_at hl 0 rfl) ?_
          refine na_iald hx hb hK hP 3 0 rfl rfl (by omega) (by decide) dX6_find_30 ?_
          refine lv_iload_n hx hb dX6_find_31 rfl (lv_at hl 3 rfl) ?_
          refine lv_icmp_ne (tgt := 38) hx hb dX6_find_32 (by decide) (fun c_3 => ?_) (fun c_3 => ?_)
          · rw [if_neg c_3] at hE
            refine lv_iinc (v := nI (k + 1)) (lv' := [(4, .int (nI (k + 1))), (0, .ref qy), (1, .long v), (3, .int st)]) hx hb dX6_find_38 hl (k := 0) rfl (nI_1 k) (by decide) rfl (fun ls hl => ?_)
            refine lv_goto (tgt := 3) hx hb dX6_find_41 (by decide) ?_
            exact ih (k + 1) (by omega) (by omega) hE ls (lv_sub hl [0, 1, 2, 3] rfl)
          · rw [if_pos c_3] at hE
            refine lv_iload hx hb dX6_find_35 (lv_at hl 0 rfl) ?_
            exact W.iret hx hb hr (fun t ht hW => ⟨by rw [← hE], ht⟩) (fun q h => absurd h List.not_mem_nil) dX6_find_37
  refine lv_iconst (v := 0) hx hb dX6_find_0 (by decide) ?_
  refine lv_istore (lv' := [(4, .int 0), (0, .ref qy), (1, .long v), (3, .int st)]) hx hb dX6_find_1 hl (by decide) rfl (fun ls hl => ?_)
  exact loop_3 (yn + 1) 0 (by omega) (by omega) hE ls (lv_sub hl [0, 1, 2, 3] rfl)
def FX6_leaveSet (yt : Nat → Int32) (yn : Nat) (k : Int32) : (Nat → Int32) := if (FX8_isIndex k (nI yn)) = 0 then yt else upd yt k.toNatClampNeg (-1)
set_option maxHeartbeats 4000000 in
set_option maxRecDepth 100000 in
theorem kX6_leaveSet (l : Launch) (D : va_G) (cI cJ cZ : ClassId) (qy : Nat) (y1 : Nat) (y2 : Nat) (y3 : Nat) (y4 : Nat) (y5 : Nat) (y6 : Nat) (ys : Nat → Int64) (yp : Nat → Int32) (yt : Nat → Int32) (yh : Nat → Int32) (ym : Nat → Int32) (yr : Nat → Int32) (yn : Nat) (k : Int32) (sz : Nat) (hyn : yn ≤ 200) : Met l yX6_leaveSet wsX6_leaveSet ({ frames := 1, cells := 0, slots := 0, locals := 21 }) (mP D (tz cI cJ cZ) [.ref qy, .int k] sz [(qy, .inr (6, [.ref y1, .ref y2, .ref y3, .ref y4, .ref y5, .ref y6, .int (nI yn)])), (y1, .inl (cJ, 200, .inr (.inl ys))), (y2, .inl (cI, 200, .inl yp)), (y3, .inl (cI, 200, .inl yt)), (y4, .inl (cI, 200, .inl yh)), (y5, .inl (cI, 200, .inl ym)), (y6, .inl (cI, 200, .inl yr))]) (mQ D none [(qy, .inr (6, [.ref y1, .ref y2, .ref y3, .ref y4, .ref y5, .ref y6, .int (nI yn)])), (y1, .inl (cJ, 200, .inr (.inl ys))), (y2, .inl (cI, 200, .inl yp)), (y3, .inl (cI, 200, .inl (FX6_leaveSet yt yn k))), (y4, .inl (cI, 200, .inl yh)), (y5, .inl (cI, 200, .inl ym)), (y6, .inl (cI, 200, .inl yr))] (va_A [(qy, .inr (6, [.ref y1, .ref y2, .ref y3, .ref y4, .ref y5, .ref y6, .int (nI yn)])), (y1, .inl (cJ, 200, .inr (.inl ys))), (y2, .inl (cI, 200, .inl yp)), (y3, .inl (cI, 200, .inl yt)), (y4, .inl (cI, 200, .inl yh)), (y5, .inl (cI, 200, .inl ym)), (y6, .inl (cI, 200, .inl yr))] sz)) 0 0 (va_A [(qy, .inr (6, [.ref y1, .ref y2, .ref y3, .ref y4, .ref y5, .ref y6, .int (nI yn)])), (y1, .inl (cJ, 200, .inr (.inl ys))), (y2, .inl (cI, 200, .inl yp)), (y3, .inl (cI, 200, .inl yt)), (y4, .inl (cI, 200, .inl yh)), (y5, .inl (cI, 200, .inl ym)), (y6, .inl (cI, 200, .inl yr))] sz) := by
  refine Met.ofW (cc := cX6_leaveSet) (maxL := 2) (ret := none) (by decide) rfl ?_
  intro p e s m args below meth c s₁ B hml hv
  obtain ⟨rfl, hsz, hP, hK, hD0, hN⟩ := hv
  have hx := B.exec
  have hb := B.bytes
  have hr := B.returns
  have hts := atoms_spec (ws := wsX6_leaveSet) B.pre
  have hown : s.vm.findClass RX6 = some m.cls := findClass_of_methodNamed B.named
  have hlocks := B.notSynchronized
  have iw_6 : ∀ w ∈ u_ws RX6 TX6 7, w ∈ wsX6_leaveSet := by decide +kernel
  subst hsz
  have hD := hD0.self (sz := s.heap.size)
  generalize hE : FX6_leaveSet yt yn k = R0
  generalize hAe : va_A [(qy, .inr (6, [.ref y1, .ref y2, .ref y3, .ref y4, .ref y5, .ref y6, .int (nI yn)])), (y1, .inl (cJ, 200, .inr (.inl ys))), (y2, .inl (cI, 200, .inl yp)), (y3, .inl (cI, 200, .inl yt)), (y4, .inl (cI, 200, .inl yh)), (y5, .inl (cI, 200, .inl ym)), (y6, .inl (cI, 200, .inl yr))] s.heap.size = A at hD ⊢
  have hA : ∀ q : Nat, s.heap.size ≤ q → A q := fun q h => by rw [← hAe]; exact Or.inr h
  have hS : va_S A s.heap s.heap [] := va_S.rf
  rw [FX6_leaveSet] at hE
  have hl := lv_entry ([.ref qy, .int k]) (n := 2) (Nat.le_of_ble_eq_true rfl)
  rw [lg_entry_eq]
  generalize (lg_sl ([.ref qy, .int k]) ++ List.replicate (2 - (lg_sl ([.ref qy, .int k])).length) Slot.unset).toArray = ls at hl ⊢
  have hl : lv_has ls 2 [(0, .ref qy), (1, .int k)] := hl
  refine lv_iload_n hx hb dX6_leaveSet_0 rfl (lv_at hl 1 rfl) ?_
  refine lv_aload_n hx hb dX6_leaveSet_1 rfl (lv_at hl 0 rfl) ?_
  refine va_get (D := D) (ci := 6) (v := .int (nI yn)) (C := RX6) (T := TX6) (N := 7) hx hb hts iw_6 hown hK hP 0 rfl rfl 6 (by decide) (hts (.fieldLink RX6 31 "DepositCodes$Payments" "size" "I") (by decide +kernel)) (fun _ h9 => h9) rfl dX6_leaveSet_2 ?_
  refine rd_call (va_runSN (As := [.int k, .int (nI yn)]) (rest := []) ⟨hx, hb, hml, hown, hts⟩ (kX8_isIndex l D cI cJ cZ k (nI yn)) ⟨va_cnB 2 hts gX6_leaveSet_X8_isIndex_n35 rfl rfl rfl hN.2.2.2.2.2.2.1 (hts (.initialized RX8) (by decide +kernel)) (by decide +kernel) ⟨Nat.le_of_ble_eq_true rfl, Nat.le_of_ble_eq_true rfl⟩, hts (.static yX8_isIndex) (by decide +kernel), trivial⟩ ⟨rP_blind, rP_pre (va_P_nil) hK hN⟩ rfl rfl hl.1 rfl (lv_room (Nat.le_of_ble_eq_true rfl)) dX6_leaveSet_5 ⟨Nat.zero_le _, Nat.zero_le _⟩) ?_
  refine lv_if_eq (tgt := 18) hx hb dX6_leaveSet_8 (by decide) (fun c_1 => ?_) (fun c_1 => ?_)
  · rw [if_pos c_1] at hE
    subst hE
    exact W.vret hx hb hr (fun t ht hW => ⟨rfl, by rw [ht]; exact hP, hD, hS.F ht⟩) hS.2.2 dX6_leaveSet_18
  · rw [if_neg c_1] at hE
    have hin : vp_in k 200 := isIx_in (k := k) (n := yn) (by assumption) hyn (by decide)
    refine lv_aload_n hx hb dX6_leaveSet_11 rfl (lv_at hl 0 rfl) ?_
    refine va_get (D := D) (ci := 6) (v := .ref y3) (C := RX6) (T := TX6) (N := 7) hx hb hts iw_6 hown hK hP 0 rfl rfl 2 (by decide) (hts (.fieldLink RX6 19 "DepositCodes$Payments" "sets" "[I") (by decide +kernel)) (fun _ h9 => h9) rfl dX6_leaveSet_12 ?_
    refine lv_iload_n hx hb dX6_leaveSet_15 rfl (lv_at hl 1 rfl) ?_
    refine lv_iconst (v := (-1)) hx hb dX6_leaveSet_16 (by decide) ?_
    refine va_iast hx hb hK hP hD hS 3 0 rfl rfl (by assumption) dX6_leaveSet_17 (fun H locs hP hD hS => ?_)
    have hP : va_P D vwCl [(qy, .inr (6, [.ref y1, .ref y2, .ref y3, .ref y4, .ref y5, .ref y6, .int (nI yn)])), (y1, .inl (cJ, 200, .inr (.inl ys))), (y2, .inl (cI, 200, .inl yp)), (y3, .inl (cI, 200, .inl (upd yt k.toNatClampNeg (-1)))), (y4, .inl (cI, 200, .inl yh)), (y5, .inl (cI, 200, .inl ym)), (y6, .inl (cI, 200, .inl yr))] H := hP
    have hD : va_D A [(qy, .inr (6, [.ref y1, .ref y2, .ref y3, .ref y4, .ref y5, .ref y6, .int (nI yn)])), (y1, .inl (cJ, 200, .inr (.inl ys))), (y2, .inl (cI, 200, .inl yp)), (y3, .inl (cI, 200, .inl (upd yt k.toNatClampNeg (-1)))), (y4, .inl (cI, 200, .inl yh)), (y5, .inl (cI, 200, .inl ym)), (y6, .inl (cI, 200, .inl yr))] := hD
    subst hE
    exact W.vret hx hb hr (fun t ht hW => ⟨rfl, by rw [ht]; exact hP, hD, hS.F ht⟩) hS.2.2 dX6_leaveSet_18
def FX6_moveSet_l2 (yn : Nat) (fr : Int32) (to : Int32) : Nat → Nat → (Nat → Int32) → (Nat → Int32)
  | 0, _, _ => fun _ => 0
  | n + 1, k, ytx => if yn ≤ k then ytx else (if (ytx k) = fr then FX6_moveSet_l2 yn fr to n (k + 1) (upd ytx k to) else FX6_moveSet_l2 yn fr to n (k + 1) ytx)
def FX6_moveSet (yt : Nat → Int32) (yn : Nat) (fr : Int32) (to : Int32) : (Nat → Int32) := FX6_moveSet_l2 yn fr to (yn + 1) 0 yt
set_option maxHeartbeats 4000000 in
set_option maxRecDepth 100000 in
theorem kX6_moveSet (l : Launch) (D : va_G) (cI cJ cZ : ClassId) (qy : Nat) (y1 : Nat) (y2 : Nat) (y3 : Nat) (y4 : Nat) (y5 : Nat) (y6 : Nat) (ys : Nat → Int64) (yp : Nat → Int32) (yt : Nat → Int32) (yh : Nat → Int32) (ym : Nat → Int32) (yr : Nat → Int32) (yn : Nat) (fr : Int32) (to : Int32) (sz : Nat) (hyn : yn ≤ 200) : Met l yX6_moveSet wsX6_moveSet ({ frames := 0, cells := 0, slots := 0, locals := 0 }) (mP D (tz cI cJ cZ) [.ref qy, .int fr, .int to] sz [(qy, .inr (6, [.ref y1, .ref y2, .ref y3, .ref y4, .ref y5, .ref y6, .int (nI yn)])), (y1, .inl (cJ, 200, .inr (.inl ys))), (y2, .inl (cI, 200, .inl yp)), (y3, .inl (cI, 200, .inl yt)), (y4, .inl (cI, 200, .inl yh)), (y5, .inl (cI, 200, .inl ym)), (y6, .inl (cI, 200, .inl yr))]) (mQ D none [(qy, .inr (6, [.ref y1, .ref y2, .ref y3, .ref y4, .ref y5, .ref y6, .int (nI yn)])), (y1, .inl (cJ, 200, .inr (.inl ys))), (y2, .inl (cI, 200, .inl yp)), (y3, .inl (cI, 200, .inl (FX6_moveSet yt yn fr to))), (y4, .inl (cI, 200, .inl yh)), (y5, .inl (cI, 200, .inl ym)), (y6, .inl (cI, 200, .inl yr))] (va_A [(qy, .inr (6, [.ref y1, .ref y2, .ref y3, .ref y4, .ref y5, .ref y6, .int (nI yn)])), (y1, .inl (cJ, 200, .inr (.inl ys))), (y2, .inl (cI, 200, .inl yp)), (y3, .inl (cI, 200, .inl yt)), (y4, .inl (cI, 200, .inl yh)), (y5, .inl (cI, 200, .inl ym)), (y6, .inl (cI, 200, .inl yr))] sz)) 0 0 (va_A [(qy, .inr (6, [.ref y1, .ref y2, .ref y3, .ref y4, .ref y5, .ref y6, .int (nI yn)])), (y1, .inl (cJ, 200, .inr (.inl ys))), (y2, .inl (cI, 200, .inl yp)), (y3, .inl (cI, 200, .inl yt)), (y4, .inl (cI, 200, .inl yh)), (y5, .inl (cI, 200, .inl ym)), (y6, .inl (cI, 200, .inl yr))] sz) := by
  refine Met.ofW (cc := cX6_moveSet) (maxL := 4) (ret := none) (by decide) rfl ?_
  intro p e s m args below meth c s₁ B hml hv
  obtain ⟨rfl, hsz, hP, hK, hD0, hN⟩ := hv
  have hx := B.exec
  have hb := B.bytes
  have hr := B.returns
  have hts := atoms_spec (ws := wsX6_moveSet) B.pre
  have hown : s.vm.findClass RX6 = some m.cls := findClass_of_methodNamed B.named
  have hlocks := B.notSynchronized
  have iw_6 : ∀ w ∈ u_ws RX6 TX6 7, w ∈ wsX6_moveSet := by decide +kernel
  subst hsz
  have hD := hD0.self (sz := s.heap.size)
  generalize hE : FX6_moveSet yt yn fr to = R0
  generalize hAe : va_A [(qy, .inr (6, [.ref y1, .ref y2, .ref y3, .ref y4, .ref y5, .ref y6, .int (nI yn)])), (y1, .inl (cJ, 200, .inr (.inl ys))), (y2, .inl (cI, 200, .inl yp)), (y3, .inl (cI, 200, .inl yt)), (y4, .inl (cI, 200, .inl yh)), (y5, .inl (cI, 200, .inl ym)), (y6, .inl (cI, 200, .inl yr))] s.heap.size = A at hD ⊢
  have hA : ∀ q : Nat, s.heap.size ≤ q → A q := fun q h => by rw [← hAe]; exact Or.inr h
  have hS : va_S A s.heap s.heap [] := va_S.rf
  rw [FX6_moveSet] at hE
  have hl := lv_entry ([.ref qy, .int fr, .int to]) (n := 4) (Nat.le_of_ble_eq_true rfl)
  rw [lg_entry_eq]
  generalize (lg_sl ([.ref qy, .int fr, .int to]) ++ List.replicate (4 - (lg_sl ([.ref qy, .int fr, .int to])).length) Slot.unset).toArray = ls at hl ⊢
  have hl : lv_has ls 4 [(0, .ref qy), (1, .int fr), (2, .int to)] := hl
  have loop_2 : ∀ (n : Nat) (k : Nat) (ytx : Nat → Int32), k ≤ yn → k + n = yn + 1 → FX6_moveSet_l2 yn fr to n k ytx = R0 → ∀ (H : Heap) (locs : List Loc), va_P D vwCl [(qy, .inr (6, [.ref y1, .ref y2, .ref y3, .ref y4, .ref y5, .ref y6, .int (nI yn)])), (y1, .inl (cJ, 200, .inr (.inl ys))), (y2, .inl (cI, 200, .inl yp)), (y3, .inl (cI, 200, .inl ytx)), (y4, .inl (cI, 200, .inl yh)), (y5, .inl (cI, 200, .inl ym)), (y6, .inl (cI, 200, .inl yr))] H → va_D A [(qy, .inr (6, [.ref y1, .ref y2, .ref y3, .ref y4, .ref y5, .ref y6, .int (nI yn)])), (y1, .inl (cJ, 200, .inr (.inl ys))), (y2, .inl (cI, 200, .inl yp)), (y3, .inl (cI, 200, .inl ytx)), (y4, .inl (cI, 200, .inl yh)), (y5, .inl (cI, 200, .inl ym)), (y6, .inl (cI, 200, .inl yr))] → va_S A s.heap H locs → ∀ ls : Array Slot, lv_has ls 4 [(3, .int (nI k)), (0, .ref qy), (1, .int fr), (2, .int to)] → W p l e (headSpec wsX6_moveSet ({ frames := 0, cells := 0, slots := 0, locals := 0 })).room s m ([.ref qy, .int fr, .int to] : List Value).toArray below meth c H locs 0 0 (MQ below (mQ D none [(qy, .inr (6, [.ref y1, .ref y2, .ref y3, .ref y4, .ref y5, .ref y6, .int (nI yn)])), (y1, .inl (cJ, 200, .inr (.inl ys))), (y2, .inl (cI, 200, .inl yp)), (y3, .inl (cI, 200, .inl R0)), (y4, .inl (cI, 200, .inl yh)), (y5, .inl (cI, 200, .inl ym)), (y6, .inl (cI, 200, .inl yr))] A) ([.ref qy, .int fr, .int to] : List Value).toArray s 0 0 A) (F0 m 2 ls []) := by
    intro n
    induction n with
    | zero =>
      intro k ytx i_1 i_2
      exact absurd i_1 (by omega)
    | succ n ih =>
      intro k ytx i_1 i_2 hE H locs hP hD hS ls hl
      rw [FX6_moveSet_l2] at hE
      refine lv_iload_n hx hb dX6_moveSet_2 rfl (lv_at hl 0 rfl) ?_
      refine lv_aload_n hx hb dX6_moveSet_3 rfl (lv_at hl 1 rfl) ?_
      refine va_get (D := D) (ci := 6) (v := .int (nI yn)) (C := RX6) (T := TX6) (N := 7) hx hb hts iw_6 hown hK hP 0 rfl rfl 6 (by decide) (hts (.fieldLink RX6 31 "DepositCodes$Payments" "size" "I") (by decide +kernel)) (fun _ h9 => h9) rfl dX6_moveSet_4 ?_
      refine lv_icmp_ge (tgt := 33) hx hb dX6_moveSet_7 (by decide) (fun c_1 => ?_) (fun c_1 => ?_)
      · have c_1 : yn ≤ k := (nI_leI (a := yn) (b := k) (by omega) (by omega)).mp c_1
        rw [if_pos c_1] at hE
        subst hE
        exact W.vret hx hb hr (fun t ht hW => ⟨rfl, by rw [ht]; exact hP, hD, hS.F ht⟩) hS.2.2 dX6_moveSet_33
      · have c_1 : ¬ yn ≤ k := fun h9 => c_1 ((nI_leI (a := yn) (b := k) (by omega) (by omega)).mpr h9)
        rw [if_neg c_1] at hE
        refine lv_aload_n hx hb dX6_moveSet_10 rfl (lv_at hl 1 rfl) ?_
        refine va_get (D := D) (ci := 6) (v := .ref y3) (C := RX6) (T := TX6) (N := 7) hx hb hts iw_6 hown hK hP 0 rfl rfl 2 (by decide) (hts (.fieldLink RX6 19 "DepositCodes$Payments" "sets" "[I") (by decide +kernel)) (fun _ h9 => h9) rfl dX6_moveSet_11 ?_
        refine lv_iload_n hx hb dX6_moveSet_14 rfl (lv_at hl 0 rfl) ?_
        refine na_iald hx hb hK hP 3 0 rfl rfl (by omega) (by decide) dX6_moveSet_15 ?_
        refine lv_iload_n hx hb dX6_moveSet_16 rfl (lv_at hl 2 rfl) ?_
        refine lv_icmp_ne (tgt := 27) hx hb dX6_moveSet_17 (by decide) (fun c_2 => ?_) (fun c_2 => ?_)
        · rw [if_neg c_2] at hE
          refine lv_iinc (v := nI (k + 1)) (lv' := [(3, .int (nI (k + 1))), (0, .ref qy), (1, .int fr), (2, .int to)]) hx hb dX6_moveSet_27 hl (k := 0) rfl (nI_1 k) (by decide) rfl (fun ls hl => ?_)
          refine lv_goto (tgt := 2) hx hb dX6_moveSet_30 (by decide) ?_
          exact ih (k + 1) ytx (by omega) (by omega) hE _ _ hP hD hS ls (lv_sub hl [0, 1, 2, 3] rfl)
        · rw [if_pos c_2] at hE
          refine lv_aload_n hx hb dX6_moveSet_20 rfl (lv_at hl 1 rfl) ?_
          refine va_get (D := D) (ci := 6) (v := .ref y3) (C := RX6) (T := TX6) (N := 7) hx hb hts iw_6 hown hK hP 0 rfl rfl 2 (by decide) (hts (.fieldLink RX6 19 "DepositCodes$Payments" "sets" "[I") (by decide +kernel)) (fun _ h9 => h9) rfl dX6_moveSet_21 ?_
          refine lv_iload_n hx hb dX6_moveSet_24 rfl (lv_at hl 0 rfl) ?_
          refine lv_iload_n hx hb dX6_moveSet_25 rfl (lv_at hl 3 rfl) ?_
          refine na_iast hx hb hK hP hD hS 3 0 rfl rfl (by omega) (by decide) dX6_moveSet_26 (fun H locs hP hD hS => ?_)
          have hP : va_P D vwCl [(qy, .inr (6, [.ref y1, .ref y2, .ref y3, .ref y4, .ref y5, .ref y6, .int (nI yn)])), (y1, .inl (cJ, 200, .inr (.inl ys))), (y2, .inl (cI, 200, .inl yp)), (y3, .inl (cI, 200, .inl (upd ytx k to))), (y4, .inl (cI, 200, .inl yh)), (y5, .inl (cI, 200, .inl ym)), (y6, .inl (cI, 200, .inl yr))] H := hP
          have hD : va_D A [(qy, .inr (6, [.ref y1, .ref y2, .ref y3, .ref y4, .ref y5, .ref y6, .int (nI yn)])), (y1, .inl (cJ, 200, .inr (.inl ys))), (y2, .inl (cI, 200, .inl yp)), (y3, .inl (cI, 200, .inl (upd ytx k to))), (y4, .inl (cI, 200, .inl yh)), (y5, .inl (cI, 200, .inl ym)), (y6, .inl (cI, 200, .inl yr))] := hD
          refine lv_iinc (v := nI (k + 1)) (lv' := [(3, .int (nI (k + 1))), (0, .ref qy), (1, .int fr), (2, .int to)]) hx hb dX6_moveSet_27 hl (k := 0) rfl (nI_1 k) (by decide) rfl (fun ls hl => ?_)
          refine lv_goto (tgt := 2) hx hb dX6_moveSet_30 (by decide) ?_
          exact ih (k + 1) (upd ytx k to) (by omega) (by omega) hE _ _ hP hD hS ls (lv_sub hl [0, 1, 2, 3] rfl)
  refine lv_iconst (v := 0) hx hb dX6_moveSet_0 (by decide) ?_
  refine lv_istore_n (lv' := [(3, .int 0), (0, .ref qy), (1, .int fr), (2, .int to)]) hx hb dX6_moveSet_1 rfl hl (by decide) rfl (fun ls hl => ?_)
  exact loop_2 (yn + 1) 0 yt (by omega) (by omega) hE _ _ hP hD hS ls (lv_sub hl [0, 1, 2, 3] rfl)
def FX6_addRefusal_l2 (ys : Nat → Int64) (yr : Nat → Int32) (yn : Nat) (v : Int64) : Nat → Nat → Int32 × (Nat → Int32)
  | 0, _ => (0, fun _ => 0)
  | n + 1, k => if yn ≤ k then ((-1), yr) else (if (lg_cmp (ys k) v) = 0 then ((upd yr k ((yr k) + 1)) k, upd yr k ((yr k) + 1)) else FX6_addRefusal_l2 ys yr yn v n (k + 1))
def FX6_addRefusal (ys : Nat → Int64) (yr : Nat → Int32) (yn : Nat) (v : Int64) : Int32 × (Nat → Int32) := FX6_addRefusal_l2 ys yr yn v (yn + 1) 0
set_option maxHeartbeats 4000000 in
set_option maxRecDepth 100000 in
theorem kX6_addRefusal (l : Launch) (D : va_G) (cI cJ cZ : ClassId) (qy : Nat) (y1 : Nat) (y2 : Nat) (y3 : Nat) (y4 : Nat) (y5 : Nat) (y6 : Nat) (ys : Nat → Int64) (yp : Nat → Int32) (yt : Nat → Int32) (yh : Nat → Int32) (ym : Nat → Int32) (yr : Nat → Int32) (yn : Nat) (v : Int64) (sz : Nat) (hyn : yn ≤ 200) : Met l yX6_addRefusal wsX6_addRefusal ({ frames := 0, cells := 0, slots := 0, locals := 0 }) (mP D (tz cI cJ cZ) [.ref qy, .long v] sz [(qy, .inr (6, [.ref y1, .ref y2, .ref y3, .ref y4, .ref y5, .ref y6, .int (nI yn)])), (y1, .inl (cJ, 200, .inr (.inl ys))), (y2, .inl (cI, 200, .inl yp)), (y3, .inl (cI, 200, .inl yt)), (y4, .inl (cI, 200, .inl yh)), (y5, .inl (cI, 200, .inl ym)), (y6, .inl (cI, 200, .inl yr))]) (mQ D (some (.int ((FX6_addRefusal ys yr yn v).1))) [(qy, .inr (6, [.ref y1, .ref y2, .ref y3, .ref y4, .ref y5, .ref y6, .int (nI yn)])), (y1, .inl (cJ, 200, .inr (.inl ys))), (y2, .inl (cI, 200, .inl yp)), (y3, .inl (cI, 200, .inl yt)), (y4, .inl (cI, 200, .inl yh)), (y5, .inl (cI, 200, .inl ym)), (y6, .inl (cI, 200, .inl ((FX6_addRefusal ys yr yn v).2)))] (va_A [(qy, .inr (6, [.ref y1, .ref y2, .ref y3, .ref y4, .ref y5, .ref y6, .int (nI yn)])), (y1, .inl (cJ, 200, .inr (.inl ys))), (y2, .inl (cI, 200, .inl yp)), (y3, .inl (cI, 200, .inl yt)), (y4, .inl (cI, 200, .inl yh)), (y5, .inl (cI, 200, .inl ym)), (y6, .inl (cI, 200, .inl yr))] sz)) 0 0 (va_A [(qy, .inr (6, [.ref y1, .ref y2, .ref y3, .ref y4, .ref y5, .ref y6, .int (nI yn)])), (y1, .inl (cJ, 200, .inr (.inl ys))), (y2, .inl (cI, 200, .inl yp)), (y3, .inl (cI, 200, .inl yt)), (y4, .inl (cI, 200, .inl yh)), (y5, .inl (cI, 200, .inl ym)), (y6, .inl (cI, 200, .inl yr))] sz) := by
  refine Met.ofW (cc := cX6_addRefusal) (maxL := 4) (ret := (some .int)) (by decide) rfl ?_
  intro p e s m args below meth c s₁ B hml hv
  obtain ⟨rfl, hsz, hP, hK, hD0, hN⟩ := hv
  have hx := B.exec
  have hb := B.bytes
  have hr := B.returns
  have hts := atoms_spec (ws := wsX6_addRefusal) B.pre
  have hown : s.vm.findClass RX6 = some m.cls := findClass_of_methodNamed B.named
  have hlocks := B.notSynchronized
  have iw_6 : ∀ w ∈ u_ws RX6 TX6 7, w ∈ wsX6_addRefusal := by decide +kernel
  subst hsz
  have hD := hD0.self (sz := s.heap.size)
  generalize hE : FX6_addRefusal ys yr yn v = R0
  generalize hAe : va_A [(qy, .inr (6, [.ref y1, .ref y2, .ref y3, .ref y4, .ref y5, .ref y6, .int (nI yn)])), (y1, .inl (cJ, 200, .inr (.inl ys))), (y2, .inl (cI, 200, .inl yp)), (y3, .inl (cI, 200, .inl yt)), (y4, .inl (cI, 200, .inl yh)), (y5, .inl (cI, 200, .inl ym)), (y6, .inl (cI, 200, .inl yr))] s.heap.size = A at hD ⊢
  have hA : ∀ q : Nat, s.heap.size ≤ q → A q := fun q h => by rw [← hAe]; exact Or.inr h
  have hS : va_S A s.heap s.heap [] := va_S.rf
  rw [FX6_addRefusal] at hE
  have hl := lv_entry ([.ref qy, .long v]) (n := 4) (Nat.le_of_ble_eq_true rfl)
  rw [lg_entry_eq]
  generalize (lg_sl ([.ref qy, .long v]) ++ List.replicate (4 - (lg_sl ([.ref qy, .long v])).length) Slot.unset).toArray = ls at hl ⊢
  have hl : lv_has ls 4 [(0, .ref qy), (1, .long v)] := hl
  have loop_2 : ∀ (n : Nat) (k : Nat), k ≤ yn → k + n = yn + 1 → FX6_addRefusal_l2 ys yr yn v n k = R0 → ∀ (H : Heap) (locs : List Loc), va_P D vwCl [(qy, .inr (6, [.ref y1, .ref y2, .ref y3, .ref y4, .ref y5, .ref y6, .int (nI yn)])), (y1, .inl (cJ, 200, .inr (.inl ys))), (y2, .inl (cI, 200, .inl yp)), (y3, .inl (cI, 200, .inl yt)), (y4, .inl (cI, 200, .inl yh)), (y5, .inl (cI, 200, .inl ym)), (y6, .inl (cI, 200, .inl yr))] H → va_D A [(qy, .inr (6, [.ref y1, .ref y2, .ref y3, .ref y4, .ref y5, .ref y6, .int (nI yn)])), (y1, .inl (cJ, 200, .inr (.inl ys))), (y2, .inl (cI, 200, .inl yp)), (y3, .inl (cI, 200, .inl yt)), (y4, .inl (cI, 200, .inl yh)), (y5, .inl (cI, 200, .inl ym)), (y6, .inl (cI, 200, .inl yr))] → va_S A s.heap H locs → ∀ ls : Array Slot, lv_has ls 4 [(3, .int (nI k)), (0, .ref qy), (1, .long v)] → W p l e (headSpec wsX6_addRefusal ({ frames := 0, cells := 0, slots := 0, locals := 0 })).room s m ([.ref qy, .long v] : List Value).toArray below meth c H locs 0 0 (MQ below (mQ D (some (.int R0.1)) [(qy, .inr (6, [.ref y1, .ref y2, .ref y3, .ref y4, .ref y5, .ref y6, .int (nI yn)])), (y1, .inl (cJ, 200, .inr (.inl ys))), (y2, .inl (cI, 200, .inl yp)), (y3, .inl (cI, 200, .inl yt)), (y4, .inl (cI, 200, .inl yh)), (y5, .inl (cI, 200, .inl ym)), (y6, .inl (cI, 200, .inl R0.2))] A) ([.ref qy, .long v] : List Value).toArray s 0 0 A) (F0 m 2 ls []) := by
    intro n
    induction n with
    | zero =>
      intro k i_1 i_2
      exact absurd i_1 (by omega)
    | succ n ih =>
      intro k i_1 i_2 hE H locs hP hD hS ls hl
      rw [FX6_addRefusal_l2] at hE
      refine lv_iload_n hx hb dX6_addRefusal_2 rfl (lv_at hl 0 rfl) ?_
      refine lv_aload_n hx hb dX6_addRefusal_3 rfl (lv_at hl 1 rfl) ?_
      refine va_get (D := D) (ci := 6) (v := .int (nI yn)) (C := RX6) (T := TX6) (N := 7) hx hb hts iw_6 hown hK hP 0 rfl rfl 6 (by decide) (hts (.fieldLink RX6 31 "DepositCodes$Payments" "size" "I") (by decide +kernel)) (fun _ h9 => h9) rfl dX6_addRefusal_4 ?_
      refine lv_icmp_ge (tgt := 44) hx hb dX6_addRefusal_7 (by decide) (fun c_1 => ?_) (fun c_1 => ?_)
      · have c_1 : yn ≤ k := (nI_leI (a := yn) (b := k) (by omega) (by omega)).mp c_1
        rw [if_pos c_1] at hE
        refine lv_iconst (v := (-1)) hx hb dX6_addRefusal_44 (by decide) ?_
        subst hE
        exact W.iret hx hb hr (fun t ht hW => ⟨rfl, by rw [ht]; exact hP, hD, hS.F ht⟩) hS.2.2 dX6_addRefusal_45
      · have c_1 : ¬ yn ≤ k := fun h9 => c_1 ((nI_leI (a := yn) (b := k) (by omega) (by omega)).mpr h9)
        rw [if_neg c_1] at hE
        refine lv_aload_n hx hb dX6_addRefusal_10 rfl (lv_at hl 1 rfl) ?_
        refine va_get (D := D) (ci := 6) (v := .ref y1) (C := RX6) (T := TX6) (N := 7) hx hb hts iw_6 hown hK hP 0 rfl rfl 0 (by decide) (hts (.fieldLink RX6 11 "DepositCodes$Payments" "serials" "[J") (by decide +kernel)) (fun _ h9 => h9) rfl dX6_addRefusal_11 ?_
        refine lv_iload_n hx hb dX6_addRefusal_14 rfl (lv_at hl 0 rfl) ?_
        refine na_lald hx hb hK hP 1 1 rfl rfl (by omega) (by decide) dX6_addRefusal_15 ?_
        refine lv_lload_n hx hb dX6_addRefusal_16 rfl (lv_at hl 2 rfl) ?_
        refine W.lcmp hx hb dX6_addRefusal_17 ?_
        refine lv_if_ne (tgt := 38) hx hb dX6_addRefusal_18 (by decide) (fun c_2 => ?_) (fun c_2 => ?_)
        · rw [if_neg c_2] at hE
          refine lv_iinc (v := nI (k + 1)) (lv' := [(3, .int (nI (k + 1))), (0, .ref qy), (1, .long v)]) hx hb dX6_addRefusal_38 hl (k := 0) rfl (nI_1 k) (by decide) rfl (fun ls hl => ?_)
          refine lv_goto (tgt := 2) hx hb dX6_addRefusal_41 (by decide) ?_
          exact ih (k + 1) (by omega) (by omega) hE _ _ hP hD hS ls (lv_sub hl [0, 1, 2] rfl)
        · rw [if_pos c_2] at hE
          refine lv_aload_n hx hb dX6_addRefusal_21 rfl (lv_at hl 1 rfl) ?_
          refine va_get (D := D) (ci := 6) (v := .ref y6) (C := RX6) (T := TX6) (N := 7) hx hb hts iw_6 hown hK hP 0 rfl rfl 5 (by decide) (hts (.fieldLink RX6 28 "DepositCodes$Payments" "refusals" "[I") (by decide +kernel)) (fun _ h9 => h9) rfl dX6_addRefusal_22 ?_
          refine lv_iload_n hx hb dX6_addRefusal_25 rfl (lv_at hl 0 rfl) ?_
          refine lv_dup2_11 hx hb dX6_addRefusal_26 rfl rfl ?_
          refine na_iald hx hb hK hP 6 0 rfl rfl (by omega) (by decide) dX6_addRefusal_27 ?_
          refine lv_iconst (v := 1) hx hb dX6_addRefusal_28 (by decide) ?_
          refine lv_iadd hx hb dX6_addRefusal_29 ?_
          refine na_iast hx hb hK hP hD hS 6 0 rfl rfl (by omega) (by decide) dX6_addRefusal_30 (fun H locs hP hD hS => ?_)
          have hP : va_P D vwCl [(qy, .inr (6, [.ref y1, .ref y2, .ref y3, .ref y4, .ref y5, .ref y6, .int (nI yn)])), (y1, .inl (cJ, 200, .inr (.inl ys))), (y2, .inl (cI, 200, .inl yp)), (y3, .inl (cI, 200, .inl yt)), (y4, .inl (cI, 200, .inl yh)), (y5, .inl (cI, 200, .inl ym)), (y6, .inl (cI, 200, .inl (upd yr k ((yr k) + 1))))] H := hP
          have hD : va_D A [(qy, .inr (6, [.ref y1, .ref y2, .ref y3, .ref y4, .ref y5, .ref y6, .int (nI yn)])), (y1, .inl (cJ, 200, .inr (.inl ys))), (y2, .inl (cI, 200, .inl yp)), (y3, .inl (cI, 200, .inl yt)), (y4, .inl (cI, 200, .inl yh)), (y5, .inl (cI, 200, .inl ym)), (y6, .inl (cI, 200, .inl (upd yr k ((yr k) + 1))))] := hD
          refine lv_aload_n hx hb dX6_addRefusal_31 rfl (lv_at hl 1 rfl) ?_
          refine va_get (D := D) (ci := 6) (v := .ref y6) (C := RX6) (T := TX6) (N := 7) hx hb hts iw_6 hown hK hP 0 rfl rfl 5 (by decide) (hts (.fieldLink RX6 28 "DepositCodes$Payments" "refusals" "[I") (by decide +kernel)) (fun _ h9 => h9) rfl dX6_addRefusal_32 ?_
          refine lv_iload_n hx hb dX6_addRefusal_35 rfl (lv_at hl 0 rfl) ?_
          refine na_iald hx hb hK hP 6 0 rfl rfl (by omega) (by decide) dX6_addRefusal_36 ?_
          subst hE
          exact W.iret hx hb hr (fun t ht hW => ⟨rfl, by rw [ht]; exact hP, hD, hS.F ht⟩) hS.2.2 dX6_addRefusal_37
  refine lv_iconst (v := 0) hx hb dX6_addRefusal_0 (by decide) ?_
  refine lv_istore_n (lv' := [(3, .int 0), (0, .ref qy), (1, .long v)]) hx hb dX6_addRefusal_1 rfl hl (by decide) rfl (fun ls hl => ?_)
  exact loop_2 (yn + 1) 0 (by omega) (by omega) hE _ _ hP hD hS ls (lv_sub hl [0, 1, 2] rfl)
def FX6_paidBy_l5 (yp : Nat → Int32) (yh : Nat → Int32) (yn : Nat) (mc : Int32) (sh : Int32) : Nat → Nat → Nat → Int32
  | 0, _, _ => 0
  | n + 1, k, q => if yn ≤ k then nI q else (if (yp k) = mc then (if (yh k) = sh then FX6_paidBy_l5 yp yh yn mc sh n (k + 1) (q + 1) else FX6_paidBy_l5 yp yh yn mc sh n (k + 1) q) else FX6_paidBy_l5 yp yh yn mc sh n (k + 1) q)
def FX6_paidBy (yp : Nat → Int32) (yh : Nat → Int32) (yn : Nat) (mc : Int32) (sh : Int32) : Int32 := FX6_paidBy_l5 yp yh yn mc sh (yn + 1) 0 0
set_option maxHeartbeats 4000000 in
set_option maxRecDepth 100000 in
theorem kX6_paidBy (l : Launch) (D : va_G) (cI cJ cZ : ClassId) (qy : Nat) (y1 : Nat) (y2 : Nat) (y3 : Nat) (y4 : Nat) (y5 : Nat) (y6 : Nat) (ys : Nat → Int64) (yp : Nat → Int32) (yt : Nat → Int32) (yh : Nat → Int32) (ym : Nat → Int32) (yr : Nat → Int32) (yn : Nat) (mc : Int32) (sh : Int32) (hyn : yn ≤ 200) : Met l yX6_paidBy wsX6_paidBy ({ frames := 0, cells := 0, slots := 0, locals := 0 }) (rP D (tz cI cJ cZ) [.ref qy, .int mc, .int sh] [(qy, .inr (6, [.ref y1, .ref y2, .ref y3, .ref y4, .ref y5, .ref y6, .int (nI yn)])), (y1, .inl (cJ, 200, .inr (.inl ys))), (y2, .inl (cI, 200, .inl yp)), (y3, .inl (cI, 200, .inl yt)), (y4, .inl (cI, 200, .inl yh)), (y5, .inl (cI, 200, .inl ym)), (y6, .inl (cI, 200, .inl yr))]) (k2_QcV (.int (FX6_paidBy yp yh yn mc sh))) 0 0 (fun _ => False) := by
  refine Met.ofW (cc := cX6_paidBy) (maxL := 5) (ret := (some .int)) (by decide) rfl ?_
  intro p e s m args below meth c s₁ B hml hv
  obtain ⟨rfl, hP, hK, hN⟩ := hv
  have hx := B.exec
  have hb := B.bytes
  have hr := B.returns
  have hts := atoms_spec (ws := wsX6_paidBy) B.pre
  have hown : s.vm.findClass RX6 = some m.cls := findClass_of_methodNamed B.named
  have hlocks := B.notSynchronized
  have iw_6 : ∀ w ∈ u_ws RX6 TX6 7, w ∈ wsX6_paidBy := by decide +kernel
  generalize hE : FX6_paidBy yp yh yn mc sh = R0
  rw [FX6_paidBy] at hE
  have hl := lv_entry ([.ref qy, .int mc, .int sh]) (n := 5) (Nat.le_of_ble_eq_true rfl)
  rw [lg_entry_eq]
  generalize (lg_sl ([.ref qy, .int mc, .int sh]) ++ List.replicate (5 - (lg_sl ([.ref qy, .int mc, .int sh])).length) Slot.unset).toArray = ls at hl ⊢
  have hl : lv_has ls 5 [(0, .ref qy), (1, .int mc), (2, .int sh)] := hl
  have loop_5 : ∀ (n : Nat) (k : Nat) (q : Nat), k ≤ yn → k + n = yn + 1 → FX6_paidBy_l5 yp yh yn mc sh n k q = R0 → ∀ ls : Array Slot, lv_has ls 5 [(4, .int (nI k)), (3, .int (nI q)), (0, .ref qy), (1, .int mc), (2, .int sh)] → W p l e (headSpec wsX6_paidBy ({ frames := 0, cells := 0, slots := 0, locals := 0 })).room s m ([.ref qy, .int mc, .int sh] : List Value).toArray below meth c s.heap [] 0 0 (MQ below (k2_QcV (.int R0)) ([.ref qy, .int mc, .int sh] : List Value).toArray s 0 0 (fun _ => False)) (F0 m 5 ls []) := by
    intro n
    induction n with
    | zero =>
      intro k q i_1 i_2
      exact absurd i_1 (by omega)
    | succ n ih =>
      intro k q i_1 i_2 hE ls hl
      rw [FX6_paidBy_l5] at hE
      refine lv_iload hx hb dX6_paidBy_5 (lv_at hl 0 rfl) ?_
      refine lv_aload_n hx hb dX6_paidBy_7 rfl (lv_at hl 2 rfl) ?_
      refine va_get (D := D) (ci := 6) (v := .int (nI yn)) (C := RX6) (T := TX6) (N := 7) hx hb hts iw_6 hown hK hP 0 rfl rfl 6 (by decide) (hts (.fieldLink RX6 31 "DepositCodes$Payments" "size" "I") (by decide +kernel)) (fun _ h9 => h9) rfl dX6_paidBy_8 ?_
      refine lv_icmp_ge (tgt := 45) hx hb dX6_paidBy_11 (by decide) (fun c_1 => ?_) (fun c_1 => ?_)
      · have c_1 : yn ≤ k := (nI_leI (a := yn) (b := k) (by omega) (by omega)).mp c_1
        rw [if_pos c_1] at hE
        refine lv_iload_n hx hb dX6_paidBy_45 rfl (lv_at hl 1 rfl) ?_
        exact W.iret hx hb hr (fun t ht hW => ⟨by rw [← hE], ht⟩) (fun q h => absurd h List.not_mem_nil) dX6_paidBy_46
      · have c_1 : ¬ yn ≤ k := fun h9 => c_1 ((nI_leI (a := yn) (b := k) (by omega) (by omega)).mpr h9)
        rw [if_neg c_1] at hE
        refine lv_aload_n hx hb dX6_paidBy_14 rfl (lv_at hl 2 rfl) ?_
        refine va_get (D := D) (ci := 6) (v := .ref y2) (C := RX6) (T := TX6) (N := 7) hx hb hts iw_6 hown hK hP 0 rfl rfl 1 (by decide) (hts (.fieldLink RX6 15 "DepositCodes$Payments" "payers" "[I") (by decide +kernel)) (fun _ h9 => h9) rfl dX6_paidBy_15 ?_
        refine lv_iload hx hb dX6_paidBy_18 (lv_at hl 0 rfl) ?_
        refine na_iald hx hb hK hP 2 0 rfl rfl (by omega) (by decide) dX6_paidBy_20 ?_
        refine lv_iload_n hx hb dX6_paidBy_21 rfl (lv_at hl 3 rfl) ?_
        refine lv_icmp_ne (tgt := 39) hx hb dX6_paidBy_22 (by decide) (fun c_2 => ?_) (fun c_2 => ?_)
        · rw [if_neg c_2] at hE
          refine lv_iinc (v := nI (k + 1)) (lv' := [(4, .int (nI (k + 1))), (3, .int (nI q)), (0, .ref qy), (1, .int mc), (2, .int sh)]) hx hb dX6_paidBy_39 hl (k := 0) rfl (nI_1 k) (by decide) rfl (fun ls hl => ?_)
          refine lv_goto (tgt := 5) hx hb dX6_paidBy_42 (by decide) ?_
          exact ih (k + 1) q (by omega) (by omega) hE ls (lv_sub hl [0, 1, 2, 3, 4] rfl)
        · rw [if_pos c_2] at hE
          refine lv_aload_n hx hb dX6_paidBy_25 rfl (lv_at hl 2 rfl) ?_
          refine va_get (D := D) (ci := 6) (v := .ref y4) (C := RX6) (T := TX6) (N := 7) hx hb hts iw_6 hown hK hP 0 rfl rfl 3 (by decide) (hts (.fieldLink RX6 22 "DepositCodes$Payments" "shapes" "[I") (by decide +kernel)) (fun _ h9 => h9) rfl dX6_paidBy_26 ?_
          refine lv_iload hx hb dX6_paidBy_29 (lv_at hl 0 rfl) ?_
          refine na_iald hx hb hK hP 4 0 rfl rfl (by omega) (by decide) dX6_paidBy_31 ?_
          refine lv_iload_n hx hb dX6_paidBy_32 rfl (lv_at hl 4 rfl) ?_
          refine lv_icmp_ne (tgt := 39) hx hb dX6_paidBy_33 (by decide) (fun c_3 => ?_) (fun c_3 => ?_)
          · rw [if_neg c_3] at hE
            refine lv_iinc (v := nI (k + 1)) (lv' := [(4, .int (nI (k + 1))), (3, .int (nI q)), (0, .ref qy), (1, .int mc), (2, .int sh)]) hx hb dX6_paidBy_39 hl (k := 0) rfl (nI_1 k) (by decide) rfl (fun ls hl => ?_)
            refine lv_goto (tgt := 5) hx hb dX6_paidBy_42 (by decide) ?_
            exact ih (k + 1) q (by omega) (by omega) hE ls (lv_sub hl [0, 1, 2, 3, 4] rfl)
          · rw [if_pos c_3] at hE
            refine lv_iinc (v := nI (q + 1)) (lv' := [(3, .int (nI (q + 1))), (4, .int (nI k)), (0, .ref qy), (1, .int mc), (2, .int sh)]) hx hb dX6_paidBy_36 hl (k := 1) rfl (nI_1 q) (by decide) rfl (fun ls hl => ?_)
            refine lv_iinc (v := nI (k + 1)) (lv' := [(4, .int (nI (k + 1))), (3, .int (nI (q + 1))), (0, .ref qy), (1, .int mc), (2, .int sh)]) hx hb dX6_paidBy_39 hl (k := 1) rfl (nI_1 k) (by decide) rfl (fun ls hl => ?_)
            refine lv_goto (tgt := 5) hx hb dX6_paidBy_42 (by decide) ?_
            exact ih (k + 1) (q + 1) (by omega) (by omega) hE ls (lv_sub hl [0, 1, 2, 3, 4] rfl)
  refine lv_iconst (v := 0) hx hb dX6_paidBy_0 (by decide) ?_
  refine lv_istore_n (lv' := [(3, .int 0), (0, .ref qy), (1, .int mc), (2, .int sh)]) hx hb dX6_paidBy_1 rfl hl (by decide) rfl (fun ls hl => ?_)
  refine lv_iconst (v := 0) hx hb dX6_paidBy_2 (by decide) ?_
  refine lv_istore (lv' := [(4, .int 0), (3, .int 0), (0, .ref qy), (1, .int mc), (2, .int sh)]) hx hb dX6_paidBy_3 hl (by decide) rfl (fun ls hl => ?_)
  exact loop_5 (yn + 1) 0 0 (by omega) (by omega) hE ls (lv_sub hl [0, 1, 2, 3, 4] rfl)
def FX6_add (ys : Nat → Int64) (yp : Nat → Int32) (yt : Nat → Int32) (yh : Nat → Int32) (ym : Nat → Int32) (yn : Nat) (v : Int64) (pa : Int32) (st : Int32) (sh : Int32) (mo : Int32) : (Nat → Int64) × (Nat → Int32) × (Nat → Int32) × (Nat → Int32) × (Nat → Int32) × Nat := if yn < 200 then (vp_updL ys yn v, upd yp yn pa, upd yt yn st, upd yh yn sh, upd ym yn mo, yn + 1) else (ys, yp, yt, yh, ym, yn)
set_option maxHeartbeats 4000000 in
set_option maxRecDepth 100000 in
theorem kX6_add (l : Launch) (D : va_G) (cI cJ cZ : ClassId) (qy : Nat) (y1 : Nat) (y2 : Nat) (y3 : Nat) (y4 : Nat) (y5 : Nat) (y6 : Nat) (ys : Nat → Int64) (yp : Nat → Int32) (yt : Nat → Int32) (yh : Nat → Int32) (ym : Nat → Int32) (yr : Nat → Int32) (yn : Nat) (v : Int64) (pa : Int32) (st : Int32) (sh : Int32) (mo : Int32) (sz : Nat) (hyn : yn ≤ 200) : Met l yX6_add wsX6_add ({ frames := 0, cells := 0, slots := 0, locals := 0 }) (mP D (tz cI cJ cZ) [.ref qy, .long v, .int pa, .int st, .int sh, .int mo] sz [(qy, .inr (6, [.ref y1, .ref y2, .ref y3, .ref y4, .ref y5, .ref y6, .int (nI yn)])), (y1, .inl (cJ, 200, .inr (.inl ys))), (y2, .inl (cI, 200, .inl yp)), (y3, .inl (cI, 200, .inl yt)), (y4, .inl (cI, 200, .inl yh)), (y5, .inl (cI, 200, .inl ym)), (y6, .inl (cI, 200, .inl yr))]) (mQ D none [(qy, .inr (6, [.ref y1, .ref y2, .ref y3, .ref y4, .ref y5, .ref y6, .int (nI ((FX6_add ys yp yt yh ym yn v pa st sh mo).2.2.2.2.2))])), (y1, .inl (cJ, 200, .inr (.inl ((FX6_add ys yp yt yh ym yn v pa st sh mo).1)))), (y2, .inl (cI, 200, .inl ((FX6_add ys yp yt yh ym yn v pa st sh mo).2.1))), (y3, .inl (cI, 200, .inl ((FX6_add ys yp yt yh ym yn v pa st sh mo).2.2.1))), (y4, .inl (cI, 200, .inl ((FX6_add ys yp yt yh ym yn v pa st sh mo).2.2.2.1))), (y5, .inl (cI, 200, .inl ((FX6_add ys yp yt yh ym yn v pa st sh mo).2.2.2.2.1))), (y6, .inl (cI, 200, .inl yr))] (va_A [(qy, .inr (6, [.ref y1, .ref y2, .ref y3, .ref y4, .ref y5, .ref y6, .int (nI yn)])), (y1, .inl (cJ, 200, .inr (.inl ys))), (y2, .inl (cI, 200, .inl yp)), (y3, .inl (cI, 200, .inl yt)), (y4, .inl (cI, 200, .inl yh)), (y5, .inl (cI, 200, .inl ym)), (y6, .inl (cI, 200, .inl yr))] sz)) 0 0 (va_A [(qy, .inr (6, [.ref y1, .ref y2, .ref y3, .ref y4, .ref y5, .ref y6, .int (nI yn)])), (y1, .inl (cJ, 200, .inr (.inl ys))), (y2, .inl (cI, 200, .inl yp)), (y3, .inl (cI, 200, .inl yt)), (y4, .inl (cI, 200, .inl yh)), (y5, .inl (cI, 200, .inl ym)), (y6, .inl (cI, 200, .inl yr))] sz) := by
  refine Met.ofW (cc := cX6_add) (maxL := 7) (ret := none) (by decide) rfl ?_
  intro p e s m args below meth c s₁ B hml hv
  obtain ⟨rfl, hsz, hP, hK, hD0, hN⟩ := hv
  have hx := B.exec
  have hb := B.bytes
  have hr := B.returns
  have hts := atoms_spec (ws := wsX6_add) B.pre
  have hown : s.vm.findClass RX6 = some m.cls := findClass_of_methodNamed B.named
  have hlocks := B.notSynchronized
  have iw_6 : ∀ w ∈ u_ws RX6 TX6 7, w ∈ wsX6_add := by decide +kernel
  subst hsz
  have hD := hD0.self (sz := s.heap.size)
  generalize hE : FX6_add ys yp yt yh ym yn v pa st sh mo = R0
  generalize hAe : va_A [(qy, .inr (6, [.ref y1, .ref y2, .ref y3, .ref y4, .ref y5, .ref y6, .int (nI yn)])), (y1, .inl (cJ, 200, .inr (.inl ys))), (y2, .inl (cI, 200, .inl yp)), (y3, .inl (cI, 200, .inl yt)), (y4, .inl (cI, 200, .inl yh)), (y5, .inl (cI, 200, .inl ym)), (y6, .inl (cI, 200, .inl yr))] s.heap.size = A at hD ⊢
  have hA : ∀ q : Nat, s.heap.size ≤ q → A q := fun q h => by rw [← hAe]; exact Or.inr h
  have hS : va_S A s.heap s.heap [] := va_S.rf
  rw [FX6_add] at hE
  have hl := lv_entry ([.ref qy, .long v, .int pa, .int st, .int sh, .int mo]) (n := 7) (Nat.le_of_ble_eq_true rfl)
  rw [lg_entry_eq]
  generalize (lg_sl ([.ref qy, .long v, .int pa, .int st, .int sh, .int mo]) ++ List.replicate (7 - (lg_sl ([.ref qy, .long v, .int pa, .int st, .int sh, .int mo])).length) Slot.unset).toArray = ls at hl ⊢
  have hl : lv_has ls 7 [(0, .ref qy), (1, .long v), (3, .int pa), (4, .int st), (5, .int sh), (6, .int mo)] := hl
  refine lv_aload_n hx hb dX6_add_0 rfl (lv_at hl 0 rfl) ?_
  refine va_get (D := D) (ci := 6) (v := .int (nI yn)) (C := RX6) (T := TX6) (N := 7) hx hb hts iw_6 hown hK hP 0 rfl rfl 6 (by decide) (hts (.fieldLink RX6 31 "DepositCodes$Payments" "size" "I") (by decide +kernel)) (fun _ h9 => h9) rfl dX6_add_1 ?_
  refine lv_sipush (v := 200) hx hb dX6_add_4 (by decide) ?_
  refine lv_icmp_lt (tgt := 11) hx hb dX6_add_7 (by decide) (fun c_1 => ?_) (fun c_1 => ?_)
  · have c_1 : yn < 200 := (nI_ltI (a := yn) (b := 200) (by omega) (by omega)).mp c_1
    rw [if_pos c_1] at hE
    refine lv_aload_n hx hb dX6_add_11 rfl (lv_at hl 0 rfl) ?_
    refine va_get (D := D) (ci := 6) (v := .ref y1) (C := RX6) (T := TX6) (N := 7) hx hb hts iw_6 hown hK hP 0 rfl rfl 0 (by decide) (hts (.fieldLink RX6 11 "DepositCodes$Payments" "serials" "[J") (by decide +kernel)) (fun _ h9 => h9) rfl dX6_add_12 ?_
    refine lv_aload_n hx hb dX6_add_15 rfl (lv_at hl 0 rfl) ?_
    refine va_get (D := D) (ci := 6) (v := .int (nI yn)) (C := RX6) (T := TX6) (N := 7) hx hb hts iw_6 hown hK hP 0 rfl rfl 6 (by decide) (hts (.fieldLink RX6 31 "DepositCodes$Payments" "size" "I") (by decide +kernel)) (fun _ h9 => h9) rfl dX6_add_16 ?_
    refine lv_lload_n hx hb dX6_add_19 rfl (lv_at hl 1 rfl) ?_
    refine na_last hx hb hK hP hD hS 1 1 rfl rfl (by omega) (by decide) dX6_add_20 (fun H locs hP hD hS => ?_)
    have hP : va_P D vwCl [(qy, .inr (6, [.ref y1, .ref y2, .ref y3, .ref y4, .ref y5, .ref y6, .int (nI yn)])), (y1, .inl (cJ, 200, .inr (.inl (vp_updL ys yn v)))), (y2, .inl (cI, 200, .inl yp)), (y3, .inl (cI, 200, .inl yt)), (y4, .inl (cI, 200, .inl yh)), (y5, .inl (cI, 200, .inl ym)), (y6, .inl (cI, 200, .inl yr))] H := hP
    have hD : va_D A [(qy, .inr (6, [.ref y1, .ref y2, .ref y3, .ref y4, .ref y5, .ref y6, .int (nI yn)])), (y1, .inl (cJ, 200, .inr (.inl (vp_updL ys yn v)))), (y2, .inl (cI, 200, .inl yp)), (y3, .inl (cI, 200, .inl yt)), (y4, .inl (cI, 200, .inl yh)), (y5, .inl (cI, 200, .inl ym)), (y6, .inl (cI, 200, .inl yr))] := hD
    refine lv_aload_n hx hb dX6_add_21 rfl (lv_at hl 0 rfl) ?_
    refine va_get (D := D) (ci := 6) (v := .ref y2) (C := RX6) (T := TX6) (N := 7) hx hb hts iw_6 hown hK hP 0 rfl rfl 1 (by decide) (hts (.fieldLink RX6 15 "DepositCodes$Payments" "payers" "[I") (by decide +kernel)) (fun _ h9 => h9) rfl dX6_add_22 ?_
    refine lv_aload_n hx hb dX6_add_25 rfl (lv_at hl 0 rfl) ?_
    refine va_get (D := D) (ci := 6) (v := .int (nI yn)) (C := RX6) (T := TX6) (N := 7) hx hb hts iw_6 hown hK hP 0 rfl rfl 6 (by decide) (hts (.fieldLink RX6 31 "DepositCodes$Payments" "size" "I") (by decide +kernel)) (fun _ h9 => h9) rfl dX6_add_26 ?_
    refine lv_iload_n hx hb dX6_add_29 rfl (lv_at hl 2 rfl) ?_
    refine na_iast hx hb hK hP hD hS 2 0 rfl rfl (by omega) (by decide) dX6_add_30 (fun H locs hP hD hS => ?_)
    have hP : va_P D vwCl [(qy, .inr (6, [.ref y1, .ref y2, .ref y3, .ref y4, .ref y5, .ref y6, .int (nI yn)])), (y1, .inl (cJ, 200, .inr (.inl (vp_updL ys yn v)))), (y2, .inl (cI, 200, .inl (upd yp yn pa))), (y3, .inl (cI, 200, .inl yt)), (y4, .inl (cI, 200, .inl yh)), (y5, .inl (cI, 200, .inl ym)), (y6, .inl (cI, 200, .inl yr))] H := hP
    have hD : va_D A [(qy, .inr (6, [.ref y1, .ref y2, .ref y3, .ref y4, .ref y5, .ref y6, .int (nI yn)])), (y1, .inl (cJ, 200, .inr (.inl (vp_updL ys yn v)))), (y2, .inl (cI, 200, .inl (upd yp yn pa))), (y3, .inl (cI, 200, .inl yt)), (y4, .inl (cI, 200, .inl yh)), (y5, .inl (cI, 200, .inl ym)), (y6, .inl (cI, 200, .inl yr))] := hD
    refine lv_aload_n hx hb dX6_add_31 rfl (lv_at hl 0 rfl) ?_
    refine va_get (D := D) (ci := 6) (v := .ref y3) (C := RX6) (T := TX6) (N := 7) hx hb hts iw_6 hown hK hP 0 rfl rfl 2 (by decide) (hts (.fieldLink RX6 19 "DepositCodes$Payments" "sets" "[I") (by decide +kernel)) (fun _ h9 => h9) rfl dX6_add_32 ?_
    refine lv_aload_n hx hb dX6_add_35 rfl (lv_at hl 0 rfl) ?_
    refine va_get (D := D) (ci := 6) (v := .int (nI yn)) (C := RX6) (T := TX6) (N := 7) hx hb hts iw_6 hown hK hP 0 rfl rfl 6 (by decide) (hts (.fieldLink RX6 31 "DepositCodes$Payments" "size" "I") (by decide +kernel)) (fun _ h9 => h9) rfl dX6_add_36 ?_
    refine lv_iload hx hb dX6_add_39 (lv_at hl 3 rfl) ?_
    refine na_iast hx hb hK hP hD hS 3 0 rfl rfl (by omega) (by decide) dX6_add_41 (fun H locs hP hD hS => ?_)
    have hP : va_P D vwCl [(qy, .inr (6, [.ref y1, .ref y2, .ref y3, .ref y4, .ref y5, .ref y6, .int (nI yn)])), (y1, .inl (cJ, 200, .inr (.inl (vp_updL ys yn v)))), (y2, .inl (cI, 200, .inl (upd yp yn pa))), (y3, .inl (cI, 200, .inl (upd yt yn st))), (y4, .inl (cI, 200, .inl yh)), (y5, .inl (cI, 200, .inl ym)), (y6, .inl (cI, 200, .inl yr))] H := hP
    have hD : va_D A [(qy, .inr (6, [.ref y1, .ref y2, .ref y3, .ref y4, .ref y5, .ref y6, .int (nI yn)])), (y1, .inl (cJ, 200, .inr (.inl (vp_updL ys yn v)))), (y2, .inl (cI, 200, .inl (upd yp yn pa))), (y3, .inl (cI, 200, .inl (upd yt yn st))), (y4, .inl (cI, 200, .inl yh)), (y5, .inl (cI, 200, .inl ym)), (y6, .inl (cI, 200, .inl yr))] := hD
    refine lv_aload_n hx hb dX6_add_42 rfl (lv_at hl 0 rfl) ?_
    refine va_get (D := D) (ci := 6) (v := .ref y4) (C := RX6) (T := TX6) (N := 7) hx hb hts iw_6 hown hK hP 0 rfl rfl 3 (by decide) (hts (.fieldLink RX6 22 "DepositCodes$Payments" "shapes" "[I") (by decide +kernel)) (fun _ h9 => h9) rfl dX6_add_43 ?_
    refine lv_aload_n hx hb dX6_add_46 rfl (lv_at hl 0 rfl) ?_
    refine va_get (D := D) (ci := 6) (v := .int (nI yn)) (C := RX6) (T := TX6) (N := 7) hx hb hts iw_6 hown hK hP 0 rfl rfl 6 (by decide) (hts (.fieldLink RX6 31 "DepositCodes$Payments" "size" "I") (by decide +kernel)) (fun _ h9 => h9) rfl dX6_add_47 ?_
    refine lv_iload hx hb dX6_add_50 (lv_at hl 4 rfl) ?_
    refine na_iast hx hb hK hP hD hS 4 0 rfl rfl (by omega) (by decide) dX6_add_52 (fun H locs hP hD hS => ?_)
    have hP : va_P D vwCl [(qy, .inr (6, [.ref y1, .ref y2, .ref y3, .ref y4, .ref y5, .ref y6, .int (nI yn)])), (y1, .inl (cJ, 200, .inr (.inl (vp_updL ys yn v)))), (y2, .inl (cI, 200, .inl (upd yp yn pa))), (y3, .inl (cI, 200, .inl (upd yt yn st))), (y4, .inl (cI, 200, .inl (upd yh yn sh))), (y5, .inl (cI, 200, .inl ym)), (y6, .inl (cI, 200, .inl yr))] H := hP
    have hD : va_D A [(qy, .inr (6, [.ref y1, .ref y2, .ref y3, .ref y4, .ref y5, .ref y6, .int (nI yn)])), (y1, .inl (cJ, 200, .inr (.inl (vp_updL ys yn v)))), (y2, .inl (cI, 200, .inl (upd yp yn pa))), (y3, .inl (cI, 200, .inl (upd yt yn st))), (y4, .inl (cI, 200, .inl (upd yh yn sh))), (y5, .inl (cI, 200, .inl ym)), (y6, .inl (cI, 200, .inl yr))] := hD
    refine lv_aload_n hx hb dX6_add_53 rfl (lv_at hl 0 rfl) ?_
    refine va_get (D := D) (ci := 6) (v := .ref y5) (C := RX6) (T := TX6) (N := 7) hx hb hts iw_6 hown hK hP 0 rfl rfl 4 (by decide) (hts (.fieldLink RX6 25 "DepositCodes$Payments" "months" "[I") (by decide +kernel)) (fun _ h9 => h9) rfl dX6_add_54 ?_
    refine lv_aload_n hx hb dX6_add_57 rfl (lv_at hl 0 rfl) ?_
    refine va_get (D := D) (ci := 6) (v := .int (nI yn)) (C := RX6) (T := TX6) (N := 7) hx hb hts iw_6 hown hK hP 0 rfl rfl 6 (by decide) (hts (.fieldLink RX6 31 "DepositCodes$Payments" "size" "I") (by decide +kernel)) (fun _ h9 => h9) rfl dX6_add_58 ?_
    refine lv_iload hx hb dX6_add_61 (lv_at hl 5 rfl) ?_
    refine na_iast hx hb hK hP hD hS 5 0 rfl rfl (by omega) (by decide) dX6_add_63 (fun H locs hP hD hS => ?_)
    have hP : va_P D vwCl [(qy, .inr (6, [.ref y1, .ref y2, .ref y3, .ref y4, .ref y5, .ref y6, .int (nI yn)])), (y1, .inl (cJ, 200, .inr (.inl (vp_updL ys yn v)))), (y2, .inl (cI, 200, .inl (upd yp yn pa))), (y3, .inl (cI, 200, .inl (upd yt yn st))), (y4, .inl (cI, 200, .inl (upd yh yn sh))), (y5, .inl (cI, 200, .inl (upd ym yn mo))), (y6, .inl (cI, 200, .inl yr))] H := hP
    have hD : va_D A [(qy, .inr (6, [.ref y1, .ref y2, .ref y3, .ref y4, .ref y5, .ref y6, .int (nI yn)])), (y1, .inl (cJ, 200, .inr (.inl (vp_updL ys yn v)))), (y2, .inl (cI, 200, .inl (upd yp yn pa))), (y3, .inl (cI, 200, .inl (upd yt yn st))), (y4, .inl (cI, 200, .inl (upd yh yn sh))), (y5, .inl (cI, 200, .inl (upd ym yn mo))), (y6, .inl (cI, 200, .inl yr))] := hD
    refine lv_aload_n hx hb dX6_add_64 rfl (lv_at hl 0 rfl) ?_
    refine lv_dup hx hb dX6_add_65 rfl ?_
    refine va_get (D := D) (ci := 6) (v := .int (nI yn)) (C := RX6) (T := TX6) (N := 7) hx hb hts iw_6 hown hK hP 0 rfl rfl 6 (by decide) (hts (.fieldLink RX6 31 "DepositCodes$Payments" "size" "I") (by decide +kernel)) (fun _ h9 => h9) rfl dX6_add_66 ?_
    refine lv_iconst (v := 1) hx hb dX6_add_69 (by decide) ?_
    refine lv_iadd hx hb dX6_add_70 ?_
    refine na_top (show (nI yn) + 1 = nI (yn + 1) from nI_add yn 1) ?_
    refine va_put (D := D) (ci := 6) (v := .int (nI (yn + 1))) (ty := .int) (C := RX6) (T := TX6) (N := 7) hx hb hts iw_6 tyX6 tyX6_ok nmX6 hown hK hP hD hS 0 rfl rfl 6 (by decide) (hts (.fieldLink RX6 31 "DepositCodes$Payments" "size" "I") (by decide +kernel)) (fun _ h9 => h9) rfl (by decide +kernel) rfl rfl (Nat.le_of_ble_eq_true rfl) dX6_add_71 (fun H locs hP hD hS => ?_)
    have hP : va_P D vwCl [(qy, .inr (6, [.ref y1, .ref y2, .ref y3, .ref y4, .ref y5, .ref y6, .int (nI (yn + 1))])), (y1, .inl (cJ, 200, .inr (.inl (vp_updL ys yn v)))), (y2, .inl (cI, 200, .inl (upd yp yn pa))), (y3, .inl (cI, 200, .inl (upd yt yn st))), (y4, .inl (cI, 200, .inl (upd yh yn sh))), (y5, .inl (cI, 200, .inl (upd ym yn mo))), (y6, .inl (cI, 200, .inl yr))] H := hP
    have hD : va_D A [(qy, .inr (6, [.ref y1, .ref y2, .ref y3, .ref y4, .ref y5, .ref y6, .int (nI (yn + 1))])), (y1, .inl (cJ, 200, .inr (.inl (vp_updL ys yn v)))), (y2, .inl (cI, 200, .inl (upd yp yn pa))), (y3, .inl (cI, 200, .inl (upd yt yn st))), (y4, .inl (cI, 200, .inl (upd yh yn sh))), (y5, .inl (cI, 200, .inl (upd ym yn mo))), (y6, .inl (cI, 200, .inl yr))] := hD
    subst hE
    exact W.vret hx hb hr (fun t ht hW => ⟨rfl, by rw [ht]; exact hP, hD, hS.F ht⟩) hS.2.2 dX6_add_74
  · have c_1 : ¬ yn < 200 := fun h9 => c_1 ((nI_ltI (a := yn) (b := 200) (by omega) (by omega)).mpr h9)
    rw [if_neg c_1] at hE
    subst hE
    exact W.vret hx hb hr (fun t ht hW => ⟨rfl, by rw [ht]; exact hP, hD, hS.F ht⟩) hS.2.2 dX6_add_10
def FX6_addTo (vb : Nat → Int64) (k : Int32) (am : Int32) : (Nat → Int64) := if (FX8_isIndex k 3) = 0 then vb else vp_updL vb k.toNatClampNeg ((vb k.toNatClampNeg) + am.toInt64)
set_option maxHeartbeats 4000000 in
set_option maxRecDepth 100000 in
theorem kX6_addTo (l : Launch) (D : va_G) (cI cJ cZ : ClassId) (qv : Nat) (vb : Nat → Int64) (k : Int32) (am : Int32) (sz : Nat) : Met l yX6_addTo wsX6_addTo ({ frames := 1, cells := 0, slots := 0, locals := 21 }) (mP D (tz cI cJ cZ) [.ref qv, .int k, .int am] sz [(qv, .inl (cJ, 3, .inr (.inl vb)))]) (mQ D none [(qv, .inl (cJ, 3, .inr (.inl (FX6_addTo vb k am))))] (va_A [(qv, .inl (cJ, 3, .inr (.inl vb)))] sz)) 0 0 (va_A [(qv, .inl (cJ, 3, .inr (.inl vb)))] sz) := by
  refine Met.ofW (cc := cX6_addTo) (maxL := 3) (ret := none) (by decide) rfl ?_
  intro p e s m args below meth c s₁ B hml hv
  obtain ⟨rfl, hsz, hP, hK, hD0, hN⟩ := hv
  have hx := B.exec
  have hb := B.bytes
  have hr := B.returns
  have hts := atoms_spec (ws := wsX6_addTo) B.pre
  have hown : s.vm.findClass RX6 = some m.cls := findClass_of_methodNamed B.named
  have hlocks := B.notSynchronized
  subst hsz
  have hD := hD0.self (sz := s.heap.size)
  generalize hE : FX6_addTo vb k am = R0
  generalize hAe : va_A [(qv, .inl (cJ, 3, .inr (.inl vb)))] s.heap.size = A at hD ⊢
  have hA : ∀ q : Nat, s.heap.size ≤ q → A q := fun q h => by rw [← hAe]; exact Or.inr h
  have hS : va_S A s.heap s.heap [] := va_S.rf
  rw [FX6_addTo] at hE
  have hl := lv_entry ([.ref qv, .int k, .int am]) (n := 3) (Nat.le_of_ble_eq_true rfl)
  rw [lg_entry_eq]
  generalize (lg_sl ([.ref qv, .int k, .int am]) ++ List.replicate (3 - (lg_sl ([.ref qv, .int k, .int am])).length) Slot.unset).toArray = ls at hl ⊢
  have hl : lv_has ls 3 [(0, .ref qv), (1, .int k), (2, .int am)] := hl
  refine lv_iload_n hx hb dX6_addTo_0 rfl (lv_at hl 1 rfl) ?_
  refine lv_aload_n hx hb dX6_addTo_1 rfl (lv_at hl 0 rfl) ?_
  refine va_alen (v := 3) hx hb hK hP 0 1 rfl rfl rfl dX6_addTo_2 ?_
  refine rd_call (va_runSN (As := [.int k, .int 3]) (rest := []) ⟨hx, hb, hml, hown, hts⟩ (kX8_isIndex l D cI cJ cZ k 3) ⟨va_cnB 2 hts gX6_addTo_X8_isIndex_n35 rfl rfl rfl hN.2.2.2.2.2.2.1 (hts (.initialized RX8) (by decide +kernel)) (by decide +kernel) ⟨Nat.le_of_ble_eq_true rfl, Nat.le_of_ble_eq_true rfl⟩, hts (.static yX8_isIndex) (by decide +kernel), trivial⟩ ⟨rP_blind, rP_pre (va_P_nil) hK hN⟩ rfl rfl hl.1 rfl (lv_room (Nat.le_of_ble_eq_true rfl)) dX6_addTo_3 ⟨Nat.zero_le _, Nat.zero_le _⟩) ?_
  refine lv_if_eq (tgt := 17) hx hb dX6_addTo_6 (by decide) (fun c_1 => ?_) (fun c_1 => ?_)
  · rw [if_pos c_1] at hE
    subst hE
    exact W.vret hx hb hr (fun t ht hW => ⟨rfl, by rw [ht]; exact hP, hD, hS.F ht⟩) hS.2.2 dX6_addTo_17
  · rw [if_neg c_1] at hE
    have hin : vp_in k 3 := isIx_in (k := k) (n := 3) (by assumption) (by decide) (by decide)
    refine lv_aload_n hx hb dX6_addTo_9 rfl (lv_at hl 0 rfl) ?_
    refine lv_iload_n hx hb dX6_addTo_10 rfl (lv_at hl 1 rfl) ?_
    refine lv_dup2_11 hx hb dX6_addTo_11 rfl rfl ?_
    refine va_lald hx hb hK hP 0 1 rfl rfl (by assumption) dX6_addTo_12 ?_
    refine lv_iload_n hx hb dX6_addTo_13 rfl (lv_at hl 2 rfl) ?_
    refine lv_i2l hx hb dX6_addTo_14 rfl ?_
    refine lv_ladd hx hb dX6_addTo_15 ?_
    refine va_last hx hb hK hP hD hS 0 1 rfl rfl (by assumption) dX6_addTo_16 (fun H locs hP hD hS => ?_)
    have hP : va_P D vwCl [(qv, .inl (cJ, 3, .inr (.inl (vp_updL vb k.toNatClampNeg ((vb k.toNatClampNeg) + am.toInt64)))))] H := hP
    have hD : va_D A [(qv, .inl (cJ, 3, .inr (.inl (vp_updL vb k.toNatClampNeg ((vb k.toNatClampNeg) + am.toInt64)))))] := hD
    subst hE
    exact W.vret hx hb hr (fun t ht hW => ⟨rfl, by rw [ht]; exact hP, hD, hS.F ht⟩) hS.2.2 dX6_addTo_17
def FX6_balance_l20 (ys : Nat → Int64) (yp : Nat → Int32) (ym : Nat → Int32) (yn : Nat) (mo : Int32) : Nat → Nat → (Nat → Int64) → (Nat → Int64)
  | 0, _, _ => fun _ => 0
  | n + 1, k, vbx => if yn ≤ k then vbx else (if (ym k) = mo then FX6_balance_l20 ys yp ym yn mo n (k + 1) (FX6_addTo (FX6_addTo vbx ((yp k) - (yp k) / 3 * 3) (-25)) (FX5_systemOfSerial (ys k)) 25) else FX6_balance_l20 ys yp ym yn mo n (k + 1) vbx)
def FX6_balance_l2 (ys : Nat → Int64) (yp : Nat → Int32) (ym : Nat → Int32) (yn : Nat) (mo : Int32) : Nat → Nat → (Nat → Int64) → (Nat → Int64)
  | 0, _, _ => fun _ => 0
  | n + 1, k, vbx => if 3 ≤ k then FX6_balance_l20 ys yp ym yn mo (yn + 1) 0 vbx else FX6_balance_l2 ys yp ym yn mo n (k + 1) (vp_updL vbx k 0)
def FX6_balance (ys : Nat → Int64) (yp : Nat → Int32) (ym : Nat → Int32) (yn : Nat) (vb : Nat → Int64) (mo : Int32) : (Nat → Int64) := FX6_balance_l2 ys yp ym yn mo 4 0 vb
set_option maxHeartbeats 4000000 in
set_option maxRecDepth 100000 in
theorem kX6_balance (l : Launch) (D : va_G) (cI cJ cZ : ClassId) (qy : Nat) (y1 : Nat) (y2 : Nat) (y3 : Nat) (y4 : Nat) (y5 : Nat) (y6 : Nat) (ys : Nat → Int64) (yp : Nat → Int32) (yt : Nat → Int32) (yh : Nat → Int32) (ym : Nat → Int32) (yr : Nat → Int32) (yn : Nat) (qv : Nat) (vb : Nat → Int64) (mo : Int32) (sz : Nat) (hyn : yn ≤ 200) : Met l yX6_balance wsX6_balance ({ frames := 2, cells := 0, slots := 0, locals := 43 }) (mP D (tz cI cJ cZ) [.ref qy, .int mo, .ref qv] sz [(qy, .inr (6, [.ref y1, .ref y2, .ref y3, .ref y4, .ref y5, .ref y6, .int (nI yn)])), (y1, .inl (cJ, 200, .inr (.inl ys))), (y2, .inl (cI, 200, .inl yp)), (y3, .inl (cI, 200, .inl yt)), (y4, .inl (cI, 200, .inl yh)), (y5, .inl (cI, 200, .inl ym)), (y6, .inl (cI, 200, .inl yr)), (qv, .inl (cJ, 3, .inr (.inl vb)))]) (mQ D none [(qy, .inr (6, [.ref y1, .ref y2, .ref y3, .ref y4, .ref y5, .ref y6, .int (nI yn)])), (y1, .inl (cJ, 200, .inr (.inl ys))), (y2, .inl (cI, 200, .inl yp)), (y3, .inl (cI, 200, .inl yt)), (y4, .inl (cI, 200, .inl yh)), (y5, .inl (cI, 200, .inl ym)), (y6, .inl (cI, 200, .inl yr)), (qv, .inl (cJ, 3, .inr (.inl (FX6_balance ys yp ym yn vb mo))))] (va_A [(qy, .inr (6, [.ref y1, .ref y2, .ref y3, .ref y4, .ref y5, .ref y6, .int (nI yn)])), (y1, .inl (cJ, 200, .inr (.inl ys))), (y2, .inl (cI, 200, .inl yp)), (y3, .inl (cI, 200, .inl yt)), (y4, .inl (cI, 200, .inl yh)), (y5, .inl (cI, 200, .inl ym)), (y6, .inl (cI, 200, .inl yr)), (qv, .inl (cJ, 3, .inr (.inl vb)))] sz)) 0 0 (va_A [(qy, .inr (6, [.ref y1, .ref y2, .ref y3, .ref y4, .ref y5, .ref y6, .int (nI yn)])), (y1, .inl (cJ, 200, .inr (.inl ys))), (y2, .inl (cI, 200, .inl yp)), (y3, .inl (cI, 200, .inl yt)), (y4, .inl (cI, 200, .inl yh)), (y5, .inl (cI, 200, .inl ym)), (y6, .inl (cI, 200, .inl yr)), (qv, .inl (cJ, 3, .inr (.inl vb)))] sz) := by
  refine Met.ofW (cc := cX6_balance) (maxL := 4) (ret := none) (by decide) rfl ?_
  intro p e s m args below meth c s₁ B hml hv
  obtain ⟨rfl, hsz, hP, hK, hD0, hN⟩ := hv
  have hx := B.exec
  have hb := B.bytes
  have hr := B.returns
  have hts := atoms_spec (ws := wsX6_balance) B.pre
  have hown : s.vm.findClass RX6 = some m.cls := findClass_of_methodNamed B.named
  have hlocks := B.notSynchronized
  have iw_6 : ∀ w ∈ u_ws RX6 TX6 7, w ∈ wsX6_balance := by decide +kernel
  subst hsz
  have hD := hD0.self (sz := s.heap.size)
  generalize hE : FX6_balance ys yp ym yn vb mo = R0
  generalize hAe : va_A [(qy, .inr (6, [.ref y1, .ref y2, .ref y3, .ref y4, .ref y5, .ref y6, .int (nI yn)])), (y1, .inl (cJ, 200, .inr (.inl ys))), (y2, .inl (cI, 200, .inl yp)), (y3, .inl (cI, 200, .inl yt)), (y4, .inl (cI, 200, .inl yh)), (y5, .inl (cI, 200, .inl ym)), (y6, .inl (cI, 200, .inl yr)), (qv, .inl (cJ, 3, .inr (.inl vb)))] s.heap.size = A at hD ⊢
  have hA : ∀ q : Nat, s.heap.size ≤ q → A q := fun q h => by rw [← hAe]; exact Or.inr h
  have hS : va_S A s.heap s.heap [] := va_S.rf
  rw [FX6_balance] at hE
  have hl := lv_entry ([.ref qy, .int mo, .ref qv]) (n := 4) (Nat.le_of_ble_eq_true rfl)
  rw [lg_entry_eq]
  generalize (lg_sl ([.ref qy, .int mo, .ref qv]) ++ List.replicate (4 - (lg_sl ([.ref qy, .int mo, .ref qv])).length) Slot.unset).toArray = ls at hl ⊢
  have hl : lv_has ls 4 [(0, .ref qy), (1, .int mo), (2, .ref qv)] := hl
  have loop_20 : ∀ (n : Nat) (k : Nat) (vbx : Nat → Int64), k ≤ yn → k + n = yn + 1 → FX6_balance_l20 ys yp ym yn mo n k vbx = R0 → ∀ (H : Heap) (locs : List Loc), va_P D vwCl [(qy, .inr (6, [.ref y1, .ref y2, .ref y3, .ref y4, .ref y5, .ref y6, .int (nI yn)])), (y1, .inl (cJ, 200, .inr (.inl ys))), (y2, .inl (cI, 200, .inl yp)), (y3, .inl (cI, 200, .inl yt)), (y4, .inl (cI, 200, .inl yh)), (y5, .inl (cI, 200, .inl ym)), (y6, .inl (cI, 200, .inl yr)), (qv, .inl (cJ, 3, .inr (.inl vbx)))] H → va_D A [(qy, .inr (6, [.ref y1, .ref y2, .ref y3, .ref y4, .ref y5, .ref y6, .int (nI yn)])), (y1, .inl (cJ, 200, .inr (.inl ys))), (y2, .inl (cI, 200, .inl yp)), (y3, .inl (cI, 200, .inl yt)), (y4, .inl (cI, 200, .inl yh)), (y5, .inl (cI, 200, .inl ym)), (y6, .inl (cI, 200, .inl yr)), (qv, .inl (cJ, 3, .inr (.inl vbx)))] → va_S A s.heap H locs → ∀ ls : Array Slot, lv_has ls 4 [(3, .int (nI k)), (0, .ref qy), (1, .int mo), (2, .ref qv)] → W p l e (headSpec wsX6_balance ({ frames := 2, cells := 0, slots := 0, locals := 43 })).room s m ([.ref qy, .int mo, .ref qv] : List Value).toArray below meth c H locs 0 0 (MQ below (mQ D none [(qy, .inr (6, [.ref y1, .ref y2, .ref y3, .ref y4, .ref y5, .ref y6, .int (nI yn)])), (y1, .inl (cJ, 200, .inr (.inl ys))), (y2, .inl (cI, 200, .inl yp)), (y3, .inl (cI, 200, .inl yt)), (y4, .inl (cI, 200, .inl yh)), (y5, .inl (cI, 200, .inl ym)), (y6, .inl (cI, 200, .inl yr)), (qv, .inl (cJ, 3, .inr (.inl R0)))] A) ([.ref qy, .int mo, .ref qv] : List Value).toArray s 0 0 A) (F0 m 20 ls []) := by
    intro n
    induction n with
    | zero =>
      intro k vbx i_1 i_2
      exact absurd i_1 (by omega)
    | succ n ih =>
      intro k vbx i_1 i_2 hE H locs hP hD hS ls hl
      rw [FX6_balance_l20] at hE
      refine lv_iload_n hx hb dX6_balance_20 rfl (lv_at hl 0 rfl) ?_
      refine lv_aload_n hx hb dX6_balance_21 rfl (lv_at hl 1 rfl) ?_
      refine va_get (D := D) (ci := 6) (v := .int (nI yn)) (C := RX6) (T := TX6) (N := 7) hx hb hts iw_6 hown hK hP 0 rfl rfl 6 (by decide) (hts (.fieldLink RX6 31 "DepositCodes$Payments" "size" "I") (by decide +kernel)) (fun _ h9 => h9) rfl dX6_balance_22 ?_
      refine lv_icmp_ge (tgt := 73) hx hb dX6_balance_25 (by decide) (fun c_2 => ?_) (fun c_2 => ?_)
      · have c_2 : yn ≤ k := (nI_leI (a := yn) (b := k) (by omega) (by omega)).mp c_2
        rw [if_pos c_2] at hE
        subst hE
        exact W.vret hx hb hr (fun t ht hW => ⟨rfl, by rw [ht]; exact hP, hD, hS.F ht⟩) hS.2.2 dX6_balance_73
      · have c_2 : ¬ yn ≤ k := fun h9 => c_2 ((nI_leI (a := yn) (b := k) (by omega) (by omega)).mpr h9)
        rw [if_neg c_2] at hE
        refine lv_aload_n hx hb dX6_balance_28 rfl (lv_at hl 1 rfl) ?_
        refine va_get (D := D) (ci := 6) (v := .ref y5) (C := RX6) (T := TX6) (N := 7) hx hb hts iw_6 hown hK hP 0 rfl rfl 4 (by decide) (hts (.fieldLink RX6 25 "DepositCodes$Payments" "months" "[I") (by decide +kernel)) (fun _ h9 => h9) rfl dX6_balance_29 ?_
        refine lv_iload_n hx hb dX6_balance_32 rfl (lv_at hl 0 rfl) ?_
        refine na_iald hx hb hK hP 5 0 rfl rfl (by omega) (by decide) dX6_balance_33 ?_
        refine lv_iload_n hx hb dX6_balance_34 rfl (lv_at hl 2 rfl) ?_
        refine lv_icmp_ne (tgt := 67) hx hb dX6_balance_35 (by decide) (fun c_3 => ?_) (fun c_3 => ?_)
        · rw [if_neg c_3] at hE
          refine lv_iinc (v := nI (k + 1)) (lv' := [(3, .int (nI (k + 1))), (0, .ref qy), (1, .int mo), (2, .ref qv)]) hx hb dX6_balance_67 hl (k := 0) rfl (nI_1 k) (by decide) rfl (fun ls hl => ?_)
          refine lv_goto (tgt := 20) hx hb dX6_balance_70 (by decide) ?_
          exact ih (k + 1) vbx (by omega) (by omega) hE _ _ hP hD hS ls (lv_sub hl [0, 1, 2, 3] rfl)
        · rw [if_pos c_3] at hE
          refine lv_aload_n hx hb dX6_balance_38 rfl (lv_at hl 3 rfl) ?_
          refine lv_aload_n hx hb dX6_balance_39 rfl (lv_at hl 1 rfl) ?_
          refine va_get (D := D) (ci := 6) (v := .ref y2) (C := RX6) (T := TX6) (N := 7) hx hb hts iw_6 hown hK hP 0 rfl rfl 1 (by decide) (hts (.fieldLink RX6 15 "DepositCodes$Payments" "payers" "[I") (by decide +kernel)) (fun _ h9 => h9) rfl dX6_balance_40 ?_
          refine lv_iload_n hx hb dX6_balance_43 rfl (lv_at hl 0 rfl) ?_
          refine na_iald hx hb hK hP 2 0 rfl rfl (by omega) (by decide) dX6_balance_44 ?_
          refine lv_iconst (v := 3) hx hb dX6_balance_45 (by decide) ?_
          refine lv_irem hx hb dX6_balance_46 (by decide) ?_
          refine lv_bipush (v := (-25)) hx hb dX6_balance_47 (by decide) ?_
          refine mt_call0 (wr := [(qy, .inr (6, [.ref y1, .ref y2, .ref y3, .ref y4, .ref y5, .ref y6, .int (nI yn)])), (y1, .inl (cJ, 200, .inr (.inl ys))), (y2, .inl (cI, 200, .inl yp)), (y3, .inl (cI, 200, .inl yt)), (y4, .inl (cI, 200, .inl yh)), (y5, .inl (cI, 200, .inl ym)), (y6, .inl (cI, 200, .inl yr))]) (ws' := [(qy, .inr (6, [.ref y1, .ref y2, .ref y3, .ref y4, .ref y5, .ref y6, .int (nI yn)])), (y1, .inl (cJ, 200, .inr (.inl ys))), (y2, .inl (cI, 200, .inl yp)), (y3, .inl (cI, 200, .inl yt)), (y4, .inl (cI, 200, .inl yh)), (y5, .inl (cI, 200, .inl ym)), (y6, .inl (cI, 200, .inl yr)), (qv, .inl (cJ, 3, .inr (.inl (FX6_addTo vbx ((yp k) - (yp k) / 3 * 3) (-25)))))]) (st1 := []) (va_runS (As := [.ref qv, .int ((yp k) - (yp k) / 3 * 3), .int (-25)]) (rest := []) ⟨hx, hb, hml, hown, hts⟩ (kX6_addTo l D cI cJ cZ qv vbx ((yp k) - (yp k) / 3 * 3) (-25) _) (va_cwS 3 hts gX6_balance_X6_addTo rfl rfl rfl (by decide +kernel) ⟨Nat.le_of_ble_eq_true rfl, Nat.le_of_ble_eq_true rfl⟩) ⟨mP_blind, mP_pre (hP.sub [7] rfl) (hD.sub [7] (by decide) rfl) hK hN⟩ rfl rfl hl.1 rfl (lv_room (Nat.le_of_ble_eq_true rfl)) dX6_balance_49 ⟨Nat.zero_le _, Nat.zero_le _⟩) hP hD hS hA [7] [0, 1, 2, 3, 4, 5, 6] [0, 1, 2, 3, 4, 5, 6, 7] rfl rfl (by decide) (by decide) (by decide) rfl rfl (fun H locs hP hD hS => ?_)
          refine lv_aload_n hx hb dX6_balance_52 rfl (lv_at hl 3 rfl) ?_
          refine lv_aload_n hx hb dX6_balance_53 rfl (lv_at hl 1 rfl) ?_
          refine va_get (D := D) (ci := 6) (v := .ref y1) (C := RX6) (T := TX6) (N := 7) hx hb hts iw_6 hown hK hP 0 rfl rfl 0 (by decide) (hts (.fieldLink RX6 11 "DepositCodes$Payments" "serials" "[J") (by decide +kernel)) (fun _ h9 => h9) rfl dX6_balance_54 ?_
          refine lv_iload_n hx hb dX6_balance_57 rfl (lv_at hl 0 rfl) ?_
          refine na_lald hx hb hK hP 1 1 rfl rfl (by omega) (by decide) dX6_balance_58 ?_
          refine rd_call (va_runS (As := [.long (ys k)]) (rest := [.ref qv]) ⟨hx, hb, hml, hown, hts⟩ (kX5_systemOfSerial l D cI cJ cZ (ys k)) (va_cwS 1 hts gX6_balance_X5_systemOfSerial rfl rfl rfl (by decide +kernel) ⟨Nat.le_of_ble_eq_true rfl, Nat.le_of_ble_eq_true rfl⟩) ⟨rP_blind, rP_pre (va_P_nil) hK hN⟩ rfl rfl hl.1 rfl (lv_room (Nat.le_of_ble_eq_true rfl)) dX6_balance_59 ⟨Nat.zero_le _, Nat.zero_le _⟩) ?_
          refine lv_bipush (v := 25) hx hb dX6_balance_62 (by decide) ?_
          refine mt_call0 (wr := [(qy, .inr (6, [.ref y1, .ref y2, .ref y3, .ref y4, .ref y5, .ref y6, .int (nI yn)])), (y1, .inl (cJ, 200, .inr (.inl ys))), (y2, .inl (cI, 200, .inl yp)), (y3, .inl (cI, 200, .inl yt)), (y4, .inl (cI, 200, .inl yh)), (y5, .inl (cI, 200, .inl ym)), (y6, .inl (cI, 200, .inl yr))]) (ws' := [(qy, .inr (6, [.ref y1, .ref y2, .ref y3, .ref y4, .ref y5, .ref y6, .int (nI yn)])), (y1, .inl (cJ, 200, .inr (.inl ys))), (y2, .inl (cI, 200, .inl yp)), (y3, .inl (cI, 200, .inl yt)), (y4, .inl (cI, 200, .inl yh)), (y5, .inl (cI, 200, .inl ym)), (y6, .inl (cI, 200, .inl yr)), (qv, .inl (cJ, 3, .inr (.inl (FX6_addTo (FX6_addTo vbx ((yp k) - (yp k) / 3 * 3) (-25)) (FX5_systemOfSerial (ys k)) 25))))]) (st1 := []) (va_runS (As := [.ref qv, .int (FX5_systemOfSerial (ys k)), .int 25]) (rest := []) ⟨hx, hb, hml, hown, hts⟩ (kX6_addTo l D cI cJ cZ qv (FX6_addTo vbx ((yp k) - (yp k) / 3 * 3) (-25)) (FX5_systemOfSerial (ys k)) 25 _) (va_cwS 3 hts gX6_balance_X6_addTo rfl rfl rfl (by decide +kernel) ⟨Nat.le_of_ble_eq_true rfl, Nat.le_of_ble_eq_true rfl⟩) ⟨mP_blind, mP_pre (hP.sub [7] rfl) (hD.sub [7] (by decide) rfl) hK hN⟩ rfl rfl hl.1 rfl (lv_room (Nat.le_of_ble_eq_true rfl)) dX6_balance_64 ⟨Nat.zero_le _, Nat.zero_le _⟩) hP hD hS hA [7] [0, 1, 2, 3, 4, 5, 6] [0, 1, 2, 3, 4, 5, 6, 7] rfl rfl (by decide) (by decide) (by decide) rfl rfl (fun H locs hP hD hS => ?_)
          refine lv_iinc (v := nI (k + 1)) (lv' := [(3, .int (nI (k + 1))), (0, .ref qy), (1, .int mo), (2, .ref qv)]) hx hb dX6_balance_67 hl (k := 0) rfl (nI_1 k) (by decide) rfl (fun ls hl => ?_)
          refine lv_goto (tgt := 20) hx hb dX6_balance_70 (by decide) ?_
          exact ih (k + 1) (FX6_addTo (FX6_addTo vbx ((yp k) - (yp k) / 3 * 3) (-25)) (FX5_systemOfSerial (ys k)) 25) (by omega) (by omega) hE _ _ hP hD hS ls (lv_sub hl [0, 1, 2, 3] rfl)
  have loop_2 : ∀ (n : Nat) (k : Nat) (vbx : Nat → Int64), k ≤ 3 → k + n = 4 → FX6_balance_l2 ys yp ym yn mo n k vbx = R0 → ∀ (H : Heap) (locs : List Loc), va_P D vwCl [(qy, .inr (6, [.ref y1, .ref y2, .ref y3, .ref y4, .ref y5, .ref y6, .int (nI yn)])), (y1, .inl (cJ, 200, .inr (.inl ys))), (y2, .inl (cI, 200, .inl yp)), (y3, .inl (cI, 200, .inl yt)), (y4, .inl (cI, 200, .inl yh)), (y5, .inl (cI, 200, .inl ym)), (y6, .inl (cI, 200, .inl yr)), (qv, .inl (cJ, 3, .inr (.inl vbx)))] H → va_D A [(qy, .inr (6, [.ref y1, .ref y2, .ref y3, .ref y4, .ref y5, .ref y6, .int (nI yn)])), (y1, .inl (cJ, 200, .inr (.inl ys))), (y2, .inl (cI, 200, .inl yp)), (y3, .inl (cI, 200, .inl yt)), (y4, .inl (cI, 200, .inl yh)), (y5, .inl (cI, 200, .inl ym)), (y6, .inl (cI, 200, .inl yr)), (qv, .inl (cJ, 3, .inr (.inl vbx)))] → va_S A s.heap H locs → ∀ ls : Array Slot, lv_has ls 4 [(3, .int (nI k)), (0, .ref qy), (1, .int mo), (2, .ref qv)] → W p l e (headSpec wsX6_balance ({ frames := 2, cells := 0, slots := 0, locals := 43 })).room s m ([.ref qy, .int mo, .ref qv] : List Value).toArray below meth c H locs 0 0 (MQ below (mQ D none [(qy, .inr (6, [.ref y1, .ref y2, .ref y3, .ref y4, .ref y5, .ref y6, .int (nI yn)])), (y1, .inl (cJ, 200, .inr (.inl ys))), (y2, .inl (cI, 200, .inl yp)), (y3, .inl (cI, 200, .inl yt)), (y4, .inl (cI, 200, .inl yh)), (y5, .inl (cI, 200, .inl ym)), (y6, .inl (cI, 200, .inl yr)), (qv, .inl (cJ, 3, .inr (.inl R0)))] A) ([.ref qy, .int mo, .ref qv] : List Value).toArray s 0 0 A) (F0 m 2 ls []) := by
    intro n
    induction n with
    | zero =>
      intro k vbx i_1 i_2
      exact absurd i_1 (by omega)
    | succ n ih =>
      intro k vbx i_1 i_2 hE H locs hP hD hS ls hl
      rw [FX6_balance_l2] at hE
      refine lv_iload_n hx hb dX6_balance_2 rfl (lv_at hl 0 rfl) ?_
      refine lv_aload_n hx hb dX6_balance_3 rfl (lv_at hl 3 rfl) ?_
      refine va_alen (v := 3) hx hb hK hP 7 1 rfl rfl rfl dX6_balance_4 ?_
      refine lv_icmp_ge (tgt := 18) hx hb dX6_balance_5 (by decide) (fun c_1 => ?_) (fun c_1 => ?_)
      · have c_1 : 3 ≤ k := (nI_leI (a := 3) (b := k) (by omega) (by omega)).mp c_1
        rw [if_pos c_1] at hE
        refine lv_iconst (v := 0) hx hb dX6_balance_18 (by decide) ?_
        refine lv_istore_n (lv' := [(3, .int 0), (0, .ref qy), (1, .int mo), (2, .ref qv)]) hx hb dX6_balance_19 rfl hl (by decide) rfl (fun ls hl => ?_)
        exact loop_20 (yn + 1) 0 vbx (by omega) (by omega) hE _ _ hP hD hS ls (lv_sub hl [0, 1, 2, 3] rfl)
      · have c_1 : ¬ 3 ≤ k := fun h9 => c_1 ((nI_leI (a := 3) (b := k) (by omega) (by omega)).mpr h9)
        rw [if_neg c_1] at hE
        refine lv_aload_n hx hb dX6_balance_8 rfl (lv_at hl 3 rfl) ?_
        refine lv_iload_n hx hb dX6_balance_9 rfl (lv_at hl 0 rfl) ?_
        refine lv_lconst (v := 0) hx hb dX6_balance_10 (by decide) ?_
        refine na_last hx hb hK hP hD hS 7 1 rfl rfl (by omega) (by decide) dX6_balance_11 (fun H locs hP hD hS => ?_)
        have hP : va_P D vwCl [(qy, .inr (6, [.ref y1, .ref y2, .ref y3, .ref y4, .ref y5, .ref y6, .int (nI yn)])), (y1, .inl (cJ, 200, .inr (.inl ys))), (y2, .inl (cI, 200, .inl yp)), (y3, .inl (cI, 200, .inl yt)), (y4, .inl (cI, 200, .inl yh)), (y5, .inl (cI, 200, .inl ym)), (y6, .inl (cI, 200, .inl yr)), (qv, .inl (cJ, 3, .inr (.inl (vp_updL vbx k 0))))] H := hP
        have hD : va_D A [(qy, .inr (6, [.ref y1, .ref y2, .ref y3, .ref y4, .ref y5, .ref y6, .int (nI yn)])), (y1, .inl (cJ, 200, .inr (.inl ys))), (y2, .inl (cI, 200, .inl yp)), (y3, .inl (cI, 200, .inl yt)), (y4, .inl (cI, 200, .inl yh)), (y5, .inl (cI, 200, .inl ym)), (y6, .inl (cI, 200, .inl yr)), (qv, .inl (cJ, 3, .inr (.inl (vp_updL vbx k 0))))] := hD
        refine lv_iinc (v := nI (k + 1)) (lv' := [(3, .int (nI (k + 1))), (0, .ref qy), (1, .int mo), (2, .ref qv)]) hx hb dX6_balance_12 hl (k := 0) rfl (nI_1 k) (by decide) rfl (fun ls hl => ?_)
        refine lv_goto (tgt := 2) hx hb dX6_balance_15 (by decide) ?_
        exact ih (k + 1) (vp_updL vbx k 0) (by omega) (by omega) hE _ _ hP hD hS ls (lv_sub hl [0, 1, 2, 3] rfl)
  refine lv_iconst (v := 0) hx hb dX6_balance_0 (by decide) ?_
  refine lv_istore_n (lv' := [(3, .int 0), (0, .ref qy), (1, .int mo), (2, .ref qv)]) hx hb dX6_balance_1 rfl hl (by decide) rfl (fun ls hl => ?_)
  exact loop_2 4 0 vb (by omega) (by omega) hE _ _ hP hD hS ls (lv_sub hl [0, 1, 2, 3] rfl)
end
section
def FX2_size (dn : Nat) : Nat := dn
set_option maxHeartbeats 4000000 in
set_option maxRecDepth 100000 in
theorem kX2_size (l : Launch) (D : va_G) (cI cJ cZ : ClassId) (qd : Nat) (d1 : Nat) (d2 : Nat) (d3 : Nat) (dz : Nat → Int64) (da : Nat → Int32) (db : Nat → Int32) (dn : Nat) : Met l yX2_size wsX2_size ({ frames := 0, cells := 0, slots := 0, locals := 0 }) (rP D (tz cI cJ cZ) [.ref qd] [(qd, .inr (3, [.ref d1, .ref d2, .ref d3, .int (nI dn)])), (d1, .inl (cJ, 200, .inr (.inl dz))), (d2, .inl (cI, 200, .inl da)), (d3, .inl (cI, 200, .inl db))]) (k2_QcV (.int (nI dn))) 0 0 (fun _ => False) := by
  refine Met.ofW (cc := cX2_size) (maxL := 1) (ret := (some .int)) (by decide) rfl ?_
  intro p e s m args below meth c s₁ B hml hv
  obtain ⟨rfl, hP, hK, hN⟩ := hv
  have hx := B.exec
  have hb := B.bytes
  have hr := B.returns
  have hts := atoms_spec (ws := wsX2_size) B.pre
  have hown : s.vm.findClass RX2 = some m.cls := findClass_of_methodNamed B.named
  have hlocks := B.notSynchronized
  have iw_3 : ∀ w ∈ u_ws RX2 TX2 4, w ∈ wsX2_size := by decide +kernel
  generalize hE : dn = R0
  skip
  have hl := lv_entry ([.ref qd]) (n := 1) (Nat.le_of_ble_eq_true rfl)
  rw [lg_entry_eq]
  generalize (lg_sl ([.ref qd]) ++ List.replicate (1 - (lg_sl ([.ref qd])).length) Slot.unset).toArray = ls at hl ⊢
  have hl : lv_has ls 1 [(0, .ref qd)] := hl
  refine lv_aload_n hx hb dX2_size_0 rfl (lv_at hl 0 rfl) ?_
  refine va_get (D := D) (ci := 3) (v := .int (nI dn)) (C := RX2) (T := TX2) (N := 4) hx hb hts iw_3 hown hK hP 0 rfl rfl 3 (by decide) (hts (.fieldLink RX2 24 "DepositCodes$Doubles" "size" "I") (by decide +kernel)) (fun _ h9 => h9) rfl dX2_size_1 ?_
  exact W.iret (v := nI dn) hx hb hr (fun t ht hW => ⟨by rw [← hE], ht⟩) (fun q h => absurd h List.not_mem_nil) dX2_size_4
def FX2_part (dz : Nat → Int64) (da : Nat → Int32) (db : Nat → Int32) (dn : Nat) (k : Int32) (w : Int32) : Int32 := if (FX8_isIndex k (nI dn)) = 0 then (-1) else (if 0 ≤ w then (if w = 0 then da k.toNatClampNeg else (if w = 1 then db k.toNatClampNeg else (if w = 2 then FX5_decimals (dz k.toNatClampNeg) else FX5_decimalAt (dz k.toNatClampNeg) (w - 3)))) else (-1))
set_option maxHeartbeats 4000000 in
set_option maxRecDepth 100000 in
theorem kX2_part (l : Launch) (D : va_G) (cI cJ cZ : ClassId) (qd : Nat) (d1 : Nat) (d2 : Nat) (d3 : Nat) (dz : Nat → Int64) (da : Nat → Int32) (db : Nat → Int32) (dn : Nat) (k : Int32) (w : Int32) (hdn : dn ≤ 200) : Met l yX2_part wsX2_part ({ frames := 2, cells := 0, slots := 0, locals := 50 }) (rP D (tz cI cJ cZ) [.ref qd, .int k, .int w] [(qd, .inr (3, [.ref d1, .ref d2, .ref d3, .int (nI dn)])), (d1, .inl (cJ, 200, .inr (.inl dz))), (d2, .inl (cI, 200, .inl da)), (d3, .inl (cI, 200, .inl db))]) (k2_QcV (.int (FX2_part dz da db dn k w))) 0 0 (fun _ => False) := by
  refine Met.ofW (cc := cX2_part) (maxL := 3) (ret := (some .int)) (by decide) rfl ?_
  intro p e s m args below meth c s₁ B hml hv
  obtain ⟨rfl, hP, hK, hN⟩ := hv
  have hx := B.exec
  have hb := B.bytes
  have hr := B.returns
  have hts := atoms_spec (ws := wsX2_part) B.pre
  have hown : s.vm.findClass RX2 = some m.cls := findClass_of_methodNamed B.named
  have hlocks := B.notSynchronized
  have iw_3 : ∀ w ∈ u_ws RX2 TX2 4, w ∈ wsX2_part := by decide +kernel
  generalize hE : FX2_part dz da db dn k w = R0
  rw [FX2_part] at hE
  have hl := lv_entry ([.ref qd, .int k, .int w]) (n := 3) (Nat.le_of_ble_eq_true rfl)
  rw [lg_entry_eq]
  generalize (lg_sl ([.ref qd, .int k, .int w]) ++ List.replicate (3 - (lg_sl ([.ref qd, .int k, .int w])).length) Slot.unset).toArray = ls at hl ⊢
  have hl : lv_has ls 3 [(0, .ref qd), (1, .int k), (2, .int w)] := hl
  refine lv_iload_n hx hb dX2_part_0 rfl (lv_at hl 1 rfl) ?_
  refine lv_aload_n hx hb dX2_part_1 rfl (lv_at hl 0 rfl) ?_
  refine va_get (D := D) (ci := 3) (v := .int (nI dn)) (C := RX2) (T := TX2) (N := 4) hx hb hts iw_3 hown hK hP 0 rfl rfl 3 (by decide) (hts (.fieldLink RX2 24 "DepositCodes$Doubles" "size" "I") (by decide +kernel)) (fun _ h9 => h9) rfl dX2_part_2 ?_
  refine rd_call (va_runSN (As := [.int k, .int (nI dn)]) (rest := []) ⟨hx, hb, hml, hown, hts⟩ (kX8_isIndex l D cI cJ cZ k (nI dn)) ⟨va_cnB 2 hts gX2_part_X8_isIndex_n28 rfl rfl rfl hN.2.2.1 (hts (.initialized RX8) (by decide +kernel)) (by decide +kernel) ⟨Nat.le_of_ble_eq_true rfl, Nat.le_of_ble_eq_true rfl⟩, hts (.static yX8_isIndex) (by decide +kernel), trivial⟩ ⟨rP_blind, rP_pre (va_P_nil) hK hN⟩ rfl rfl hl.1 rfl (lv_room (Nat.le_of_ble_eq_true rfl)) dX2_part_5 ⟨Nat.zero_le _, Nat.zero_le _⟩) ?_
  refine lv_if_eq (tgt := 15) hx hb dX2_part_8 (by decide) (fun c_1 => ?_) (fun c_1 => ?_)
  · rw [if_pos c_1] at hE
    refine lv_iconst (v := (-1)) hx hb dX2_part_15 (by decide) ?_
    exact W.iret hx hb hr (fun t ht hW => ⟨by rw [← hE], ht⟩) (fun q h => absurd h List.not_mem_nil) dX2_part_16
  · rw [if_neg c_1] at hE
    refine lv_iload_n hx hb dX2_part_11 rfl (lv_at hl 2 rfl) ?_
    refine lv_if_ge (tgt := 17) hx hb dX2_part_12 (by decide) (fun c_2 => ?_) (fun c_2 => ?_)
    · rw [if_pos c_2] at hE
      refine lv_iload_n hx hb dX2_part_17 rfl (lv_at hl 2 rfl) ?_
      by_cases n_0 : w = 0
      · rw [if_pos n_0] at hE
        refine lv_tableIn (tgt := 44) (off := 26) hx hb dX2_part_18 (by rw [n_0]; decide) (by rw [n_0]; decide) (by rw [n_0]; decide) (by decide) ?_
        have hin : vp_in k 200 := isIx_in (k := k) (n := dn) (by assumption) hdn (by decide)
        refine lv_aload_n hx hb dX2_part_44 rfl (lv_at hl 0 rfl) ?_
        refine va_get (D := D) (ci := 3) (v := .ref d2) (C := RX2) (T := TX2) (N := 4) hx hb hts iw_3 hown hK hP 0 rfl rfl 1 (by decide) (hts (.fieldLink RX2 17 "DepositCodes$Doubles" "payersA" "[I") (by decide +kernel)) (fun _ h9 => h9) rfl dX2_part_45 ?_
        refine lv_iload_n hx hb dX2_part_48 rfl (lv_at hl 1 rfl) ?_
        refine va_iald hx hb hK hP 2 0 rfl rfl (by assumption) dX2_part_49 ?_
        exact W.iret hx hb hr (fun t ht hW => ⟨by rw [← hE], ht⟩) (fun q h => absurd h List.not_mem_nil) dX2_part_50
      · rw [if_neg n_0] at hE
        by_cases n_1 : w = 1
        · rw [if_pos n_1] at hE
          refine lv_tableIn (tgt := 51) (off := 33) hx hb dX2_part_18 (by rw [n_1]; decide) (by rw [n_1]; decide) (by rw [n_1]; decide) (by decide) ?_
          have hin : vp_in k 200 := isIx_in (k := k) (n := dn) (by assumption) hdn (by decide)
          refine lv_aload_n hx hb dX2_part_51 rfl (lv_at hl 0 rfl) ?_
          refine va_get (D := D) (ci := 3) (v := .ref d3) (C := RX2) (T := TX2) (N := 4) hx hb hts iw_3 hown hK hP 0 rfl rfl 2 (by decide) (hts (.fieldLink RX2 21 "DepositCodes$Doubles" "payersB" "[I") (by decide +kernel)) (fun _ h9 => h9) rfl dX2_part_52 ?_
          refine lv_iload_n hx hb dX2_part_55 rfl (lv_at hl 1 rfl) ?_
          refine va_iald hx hb hK hP 3 0 rfl rfl (by assumption) dX2_part_56 ?_
          exact W.iret hx hb hr (fun t ht hW => ⟨by rw [← hE], ht⟩) (fun q h => absurd h List.not_mem_nil) dX2_part_57
        · rw [if_neg n_1] at hE
          by_cases n_2 : w = 2
          · rw [if_pos n_2] at hE
            refine lv_tableIn (tgt := 58) (off := 40) hx hb dX2_part_18 (by rw [n_2]; decide) (by rw [n_2]; decide) (by rw [n_2]; decide) (by decide) ?_
            have hin : vp_in k 200 := isIx_in (k := k) (n := dn) (by assumption) hdn (by decide)
            refine lv_aload_n hx hb dX2_part_58 rfl (lv_at hl 0 rfl) ?_
            refine va_get (D := D) (ci := 3) (v := .ref d1) (C := RX2) (T := TX2) (N := 4) hx hb hts iw_3 hown hK hP 0 rfl rfl 0 (by decide) (hts (.fieldLink RX2 11 "DepositCodes$Doubles" "serials" "[J") (by decide +kernel)) (fun _ h9 => h9) rfl dX2_part_59 ?_
            refine lv_iload_n hx hb dX2_part_62 rfl (lv_at hl 1 rfl) ?_
            refine va_lald hx hb hK hP 1 1 rfl rfl (by assumption) dX2_part_63 ?_
            refine rd_call (va_runS (As := [.long (dz k.toNatClampNeg)]) (rest := []) ⟨hx, hb, hml, hown, hts⟩ (kX5_decimals l D cI cJ cZ (dz k.toNatClampNeg)) (va_cwS 1 hts gX2_part_X5_decimals rfl rfl rfl (by decide +kernel) ⟨Nat.le_of_ble_eq_true rfl, Nat.le_of_ble_eq_true rfl⟩) ⟨rP_blind, rP_pre (va_P_nil) hK hN⟩ rfl rfl hl.1 rfl (lv_room (Nat.le_of_ble_eq_true rfl)) dX2_part_64 ⟨Nat.zero_le _, Nat.zero_le _⟩) ?_
            exact W.iret hx hb hr (fun t ht hW => ⟨by rw [← hE], ht⟩) (fun q h => absurd h List.not_mem_nil) dX2_part_67
          · rw [if_neg n_2] at hE
            refine lv_tableOut (tgt := 68) hx hb dX2_part_18 (sw_out3 n_0 n_1 n_2) (by decide) ?_
            have hin : vp_in k 200 := isIx_in (k := k) (n := dn) (by assumption) hdn (by decide)
            refine lv_aload_n hx hb dX2_part_68 rfl (lv_at hl 0 rfl) ?_
            refine va_get (D := D) (ci := 3) (v := .ref d1) (C := RX2) (T := TX2) (N := 4) hx hb hts iw_3 hown hK hP 0 rfl rfl 0 (by decide) (hts (.fieldLink RX2 11 "DepositCodes$Doubles" "serials" "[J") (by decide +kernel)) (fun _ h9 => h9) rfl dX2_part_69 ?_
            refine lv_iload_n hx hb dX2_part_72 rfl (lv_at hl 1 rfl) ?_
            refine va_lald hx hb hK hP 1 1 rfl rfl (by assumption) dX2_part_73 ?_
            refine lv_iload_n hx hb dX2_part_74 rfl (lv_at hl 2 rfl) ?_
            refine lv_iconst (v := 3) hx hb dX2_part_75 (by decide) ?_
            refine lv_isub hx hb dX2_part_76 ?_
            refine rd_call (va_runS (As := [.long (dz k.toNatClampNeg), .int (w - 3)]) (rest := []) ⟨hx, hb, hml, hown, hts⟩ (kX5_decimalAt l D cI cJ cZ (dz k.toNatClampNeg) (w - 3)) (va_cwS 2 hts gX2_part_X5_decimalAt rfl rfl rfl (by decide +kernel) ⟨Nat.le_of_ble_eq_true rfl, Nat.le_of_ble_eq_true rfl⟩) ⟨rP_blind, rP_pre (va_P_nil) hK hN⟩ rfl rfl hl.1 rfl (lv_room (Nat.le_of_ble_eq_true rfl)) dX2_part_77 ⟨Nat.zero_le _, Nat.zero_le _⟩) ?_
            exact W.iret hx hb hr (fun t ht hW => ⟨by rw [← hE], ht⟩) (fun q h => absurd h List.not_mem_nil) dX2_part_80
    · rw [if_neg c_2] at hE
      refine lv_iconst (v := (-1)) hx hb dX2_part_15 (by decide) ?_
      exact W.iret hx hb hr (fun t ht hW => ⟨by rw [← hE], ht⟩) (fun q h => absurd h List.not_mem_nil) dX2_part_16
def FX2_insert_l21 (dn : Nat) (fi : Nat) (v : Int64) (pa : Int32) (pb : Int32) : Nat → Nat → (Nat → Int64) → (Nat → Int32) → (Nat → Int32) → (Nat → Int64) × (Nat → Int32) × (Nat → Int32) × Nat
  | 0, _, _, _, _ => (fun _ => 0, fun _ => 0, fun _ => 0, 0)
  | n + 1, pq, dzx, dax, dbx => if pq ≤ fi then (vp_updL dzx pq v, upd dax pq pa, upd dbx pq pb, dn + 1) else (if (lg_cmp (dzx (pq - 1)) v) ≤ 0 then (vp_updL dzx pq v, upd dax pq pa, upd dbx pq pb, dn + 1) else FX2_insert_l21 dn fi v pa pb n (pq - 1) (vp_updL dzx pq (dzx (pq - 1))) (upd dax pq (dax (pq - 1))) (upd dbx pq (dbx (pq - 1))))
def FX2_insert (dz : Nat → Int64) (da : Nat → Int32) (db : Nat → Int32) (dn : Nat) (fi : Nat) (v : Int64) (pa : Int32) (pb : Int32) : (Nat → Int64) × (Nat → Int32) × (Nat → Int32) × Nat := if 200 ≤ dn then (dz, da, db, dn) else (if 0 ≤ fi then FX2_insert_l21 dn fi v pa pb (dn + 1) dn dz da db else (dz, da, db, dn))
set_option maxHeartbeats 4000000 in
set_option maxRecDepth 100000 in
theorem kX2_insert (l : Launch) (D : va_G) (cI cJ cZ : ClassId) (qd : Nat) (d1 : Nat) (d2 : Nat) (d3 : Nat) (dz : Nat → Int64) (da : Nat → Int32) (db : Nat → Int32) (dn : Nat) (fi : Nat) (v : Int64) (pa : Int32) (pb : Int32) (sz : Nat) (hdn : dn ≤ 200) (hfi : fi ≤ 200) : Met l yX2_insert wsX2_insert ({ frames := 0, cells := 0, slots := 0, locals := 0 }) (mP D (tz cI cJ cZ) [.ref qd, .int (nI fi), .long v, .int pa, .int pb] sz [(qd, .inr (3, [.ref d1, .ref d2, .ref d3, .int (nI dn)])), (d1, .inl (cJ, 200, .inr (.inl dz))), (d2, .inl (cI, 200, .inl da)), (d3, .inl (cI, 200, .inl db))]) (mQ D none [(qd, .inr (3, [.ref d1, .ref d2, .ref d3, .int (nI ((FX2_insert dz da db dn fi v pa pb).2.2.2))])), (d1, .inl (cJ, 200, .inr (.inl ((FX2_insert dz da db dn fi v pa pb).1)))), (d2, .inl (cI, 200, .inl ((FX2_insert dz da db dn fi v pa pb).2.1))), (d3, .inl (cI, 200, .inl ((FX2_insert dz da db dn fi v pa pb).2.2.1)))] (va_A [(qd, .inr (3, [.ref d1, .ref d2, .ref d3, .int (nI dn)])), (d1, .inl (cJ, 200, .inr (.inl dz))), (d2, .inl (cI, 200, .inl da)), (d3, .inl (cI, 200, .inl db))] sz)) 0 0 (va_A [(qd, .inr (3, [.ref d1, .ref d2, .ref d3, .int (nI dn)])), (d1, .inl (cJ, 200, .inr (.inl dz))), (d2, .inl (cI, 200, .inl da)), (d3, .inl (cI, 200, .inl db))] sz) := by
  refine Met.ofW (cc := cX2_insert) (maxL := 7) (ret := none) (by decide) rfl ?_
  intro p e s m args below meth c s₁ B hml hv
  obtain ⟨rfl, hsz, hP, hK, hD0, hN⟩ := hv
  have hx := B.exec
  have hb := B.bytes
  have hr := B.returns
  have hts := atoms_spec (ws := wsX2_insert) B.pre
  have hown : s.vm.findClass RX2 = some m.cls := findClass_of_methodNamed B.named
  have hlocks := B.notSynchronized
  have iw_3 : ∀ w ∈ u_ws RX2 TX2 4, w ∈ wsX2_insert := by decide +kernel
  subst hsz
  have hD := hD0.self (sz := s.heap.size)
  generalize hE : FX2_insert dz da db dn fi v pa pb = R0
  generalize hAe : va_A [(qd, .inr (3, [.ref d1, .ref d2, .ref d3, .int (nI dn)])), (d1, .inl (cJ, 200, .inr (.inl dz))), (d2, .inl (cI, 200, .inl da)), (d3, .inl (cI, 200, .inl db))] s.heap.size = A at hD ⊢
  have hA : ∀ q : Nat, s.heap.size ≤ q → A q := fun q h => by rw [← hAe]; exact Or.inr h
  have hS : va_S A s.heap s.heap [] := va_S.rf
  rw [FX2_insert] at hE
  have hl := lv_entry ([.ref qd, .int (nI fi), .long v, .int pa, .int pb]) (n := 7) (Nat.le_of_ble_eq_true rfl)
  rw [lg_entry_eq]
  generalize (lg_sl ([.ref qd, .int (nI fi), .long v, .int pa, .int pb]) ++ List.replicate (7 - (lg_sl ([.ref qd, .int (nI fi), .long v, .int pa, .int pb])).length) Slot.unset).toArray = ls at hl ⊢
  have hl : lv_has ls 7 [(0, .ref qd), (1, .int (nI fi)), (2, .long v), (4, .int pa), (5, .int pb)] := hl
  have loop_21 : ∀ (n : Nat) (pq : Nat) (dzx : Nat → Int64) (dax : Nat → Int32) (dbx : Nat → Int32), pq ≤ dn → pq < n → dn < 200 → FX2_insert_l21 dn fi v pa pb n pq dzx dax dbx = R0 → ∀ (H : Heap) (locs : List Loc), va_P D vwCl [(qd, .inr (3, [.ref d1, .ref d2, .ref d3, .int (nI dn)])), (d1, .inl (cJ, 200, .inr (.inl dzx))), (d2, .inl (cI, 200, .inl dax)), (d3, .inl (cI, 200, .inl dbx))] H → va_D A [(qd, .inr (3, [.ref d1, .ref d2, .ref d3, .int (nI dn)])), (d1, .inl (cJ, 200, .inr (.inl dzx))), (d2, .inl (cI, 200, .inl dax)), (d3, .inl (cI, 200, .inl dbx))] → va_S A s.heap H locs → ∀ ls : Array Slot, lv_has ls 7 [(6, .int (nI pq)), (0, .ref qd), (1, .int (nI fi)), (2, .long v), (4, .int pa), (5, .int pb)] → W p l e (headSpec wsX2_insert ({ frames := 0, cells := 0, slots := 0, locals := 0 })).room s m ([.ref qd, .int (nI fi), .long v, .int pa, .int pb] : List Value).toArray below meth c H locs 0 0 (MQ below (mQ D none [(qd, .inr (3, [.ref d1, .ref d2, .ref d3, .int (nI R0.2.2.2)])), (d1, .inl (cJ, 200, .inr (.inl R0.1))), (d2, .inl (cI, 200, .inl R0.2.1)), (d3, .inl (cI, 200, .inl R0.2.2.1))] A) ([.ref qd, .int (nI fi), .long v, .int pa, .int pb] : List Value).toArray s 0 0 A) (F0 m 21 ls []) := by
    intro n
    induction n with
    | zero =>
      intro pq dzx dax dbx i_1 i_2 i_3
      exact absurd i_1 (by omega)
    | succ n ih =>
      intro pq dzx dax dbx i_1 i_2 i_3 hE H locs hP hD hS ls hl
      rw [FX2_insert_l21] at hE
      refine lv_iload hx hb dX2_insert_21 (lv_at hl 0 rfl) ?_
      refine lv_iload_n hx hb dX2_insert_23 rfl (lv_at hl 2 rfl) ?_
      refine lv_icmp_le (tgt := 95) hx hb dX2_insert_24 (by decide) (fun c_3 => ?_) (fun c_3 => ?_)
      · have c_3 : pq ≤ fi := (nI_leI (a := pq) (b := fi) (by omega) (by omega)).mp c_3
        rw [if_pos c_3] at hE
        refine lv_aload_n hx hb dX2_insert_95 rfl (lv_at hl 1 rfl) ?_
        refine va_get (D := D) (ci := 3) (v := .ref d1) (C := RX2) (T := TX2) (N := 4) hx hb hts iw_3 hown hK hP 0 rfl rfl 0 (by decide) (hts (.fieldLink RX2 11 "DepositCodes$Doubles" "serials" "[J") (by decide +kernel)) (fun _ h9 => h9) rfl dX2_insert_96 ?_
        refine lv_iload hx hb dX2_insert_99 (lv_at hl 0 rfl) ?_
        refine lv_lload_n hx hb dX2_insert_101 rfl (lv_at hl 3 rfl) ?_
        refine na_last hx hb hK hP hD hS 1 1 rfl rfl (by omega) (by decide) dX2_insert_102 (fun H locs hP hD hS => ?_)
        have hP : va_P D vwCl [(qd, .inr (3, [.ref d1, .ref d2, .ref d3, .int (nI dn)])), (d1, .inl (cJ, 200, .inr (.inl (vp_updL dzx pq v)))), (d2, .inl (cI, 200, .inl dax)), (d3, .inl (cI, 200, .inl dbx))] H := hP
        have hD : va_D A [(qd, .inr (3, [.ref d1, .ref d2, .ref d3, .int (nI dn)])), (d1, .inl (cJ, 200, .inr (.inl (vp_updL dzx pq v)))), (d2, .inl (cI, 200, .inl dax)), (d3, .inl (cI, 200, .inl dbx))] := hD
        refine lv_aload_n hx hb dX2_insert_103 rfl (lv_at hl 1 rfl) ?_
        refine va_get (D := D) (ci := 3) (v := .ref d2) (C := RX2) (T := TX2) (N := 4) hx hb hts iw_3 hown hK hP 0 rfl rfl 1 (by decide) (hts (.fieldLink RX2 17 "DepositCodes$Doubles" "payersA" "[I") (by decide +kernel)) (fun _ h9 => h9) rfl dX2_insert_104 ?_
        refine lv_iload hx hb dX2_insert_107 (lv_at hl 0 rfl) ?_
        refine lv_iload hx hb dX2_insert_109 (lv_at hl 4 rfl) ?_
        refine na_iast hx hb hK hP hD hS 2 0 rfl rfl (by omega) (by decide) dX2_insert_111 (fun H locs hP hD hS => ?_)
        have hP : va_P D vwCl [(qd, .inr (3, [.ref d1, .ref d2, .ref d3, .int (nI dn)])), (d1, .inl (cJ, 200, .inr (.inl (vp_updL dzx pq v)))), (d2, .inl (cI, 200, .inl (upd dax pq pa))), (d3, .inl (cI, 200, .inl dbx))] H := hP
        have hD : va_D A [(qd, .inr (3, [.ref d1, .ref d2, .ref d3, .int (nI dn)])), (d1, .inl (cJ, 200, .inr (.inl (vp_updL dzx pq v)))), (d2, .inl (cI, 200, .inl (upd dax pq pa))), (d3, .inl (cI, 200, .inl dbx))] := hD
        refine lv_aload_n hx hb dX2_insert_112 rfl (lv_at hl 1 rfl) ?_
        refine va_get (D := D) (ci := 3) (v := .ref d3) (C := RX2) (T := TX2) (N := 4) hx hb hts iw_3 hown hK hP 0 rfl rfl 2 (by decide) (hts (.fieldLink RX2 21 "DepositCodes$Doubles" "payersB" "[I") (by decide +kernel)) (fun _ h9 => h9) rfl dX2_insert_113 ?_
        refine lv_iload hx hb dX2_insert_116 (lv_at hl 0 rfl) ?_
        refine lv_iload hx hb dX2_insert_118 (lv_at hl 5 rfl) ?_
        refine na_iast hx hb hK hP hD hS 3 0 rfl rfl (by omega) (by decide) dX2_insert_120 (fun H locs hP hD hS => ?_)
        have hP : va_P D vwCl [(qd, .inr (3, [.ref d1, .ref d2, .ref d3, .int (nI dn)])), (d1, .inl (cJ, 200, .inr (.inl (vp_updL dzx pq v)))), (d2, .inl (cI, 200, .inl (upd dax pq pa))), (d3, .inl (cI, 200, .inl (upd dbx pq pb)))] H := hP
        have hD : va_D A [(qd, .inr (3, [.ref d1, .ref d2, .ref d3, .int (nI dn)])), (d1, .inl (cJ, 200, .inr (.inl (vp_updL dzx pq v)))), (d2, .inl (cI, 200, .inl (upd dax pq pa))), (d3, .inl (cI, 200, .inl (upd dbx pq pb)))] := hD
        refine lv_aload_n hx hb dX2_insert_121 rfl (lv_at hl 1 rfl) ?_
        refine lv_dup hx hb dX2_insert_122 rfl ?_
        refine va_get (D := D) (ci := 3) (v := .int (nI dn)) (C := RX2) (T := TX2) (N := 4) hx hb hts iw_3 hown hK hP 0 rfl rfl 3 (by decide) (hts (.fieldLink RX2 24 "DepositCodes$Doubles" "size" "I") (by decide +kernel)) (fun _ h9 => h9) rfl dX2_insert_123 ?_
        refine lv_iconst (v := 1) hx hb dX2_insert_126 (by decide) ?_
        refine lv_iadd hx hb dX2_insert_127 ?_
        refine na_top (show (nI dn) + 1 = nI (dn + 1) from nI_add dn 1) ?_
        refine va_put (D := D) (ci := 3) (v := .int (nI (dn + 1))) (ty := .int) (C := RX2) (T := TX2) (N := 4) hx hb hts iw_3 tyX2 tyX2_ok nmX2 hown hK hP hD hS 0 rfl rfl 3 (by decide) (hts (.fieldLink RX2 24 "DepositCodes$Doubles" "size" "I") (by decide +kernel)) (fun _ h9 => h9) rfl (by decide +kernel) rfl rfl (Nat.le_of_ble_eq_true rfl) dX2_insert_128 (fun H locs hP hD hS => ?_)
        have hP : va_P D vwCl [(qd, .inr (3, [.ref d1, .ref d2, .ref d3, .int (nI (dn + 1))])), (d1, .inl (cJ, 200, .inr (.inl (vp_updL dzx pq v)))), (d2, .inl (cI, 200, .inl (upd dax pq pa))), (d3, .inl (cI, 200, .inl (upd dbx pq pb)))] H := hP
        have hD : va_D A [(qd, .inr (3, [.ref d1, .ref d2, .ref d3, .int (nI (dn + 1))])), (d1, .inl (cJ, 200, .inr (.inl (vp_updL dzx pq v)))), (d2, .inl (cI, 200, .inl (upd dax pq pa))), (d3, .inl (cI, 200, .inl (upd dbx pq pb)))] := hD
        subst hE
        exact W.vret hx hb hr (fun t ht hW => ⟨rfl, by rw [ht]; exact hP, hD, hS.F ht⟩) hS.2.2 dX2_insert_131
      · have c_3 : ¬ pq ≤ fi := fun h9 => c_3 ((nI_leI (a := pq) (b := fi) (by omega) (by omega)).mpr h9)
        rw [if_neg c_3] at hE
        refine lv_aload_n hx hb dX2_insert_27 rfl (lv_at hl 1 rfl) ?_
        refine va_get (D := D) (ci := 3) (v := .ref d1) (C := RX2) (T := TX2) (N := 4) hx hb hts iw_3 hown hK hP 0 rfl rfl 0 (by decide) (hts (.fieldLink RX2 11 "DepositCodes$Doubles" "serials" "[J") (by decide +kernel)) (fun _ h9 => h9) rfl dX2_insert_28 ?_
        refine lv_iload hx hb dX2_insert_31 (lv_at hl 0 rfl) ?_
        refine lv_iconst (v := 1) hx hb dX2_insert_33 (by decide) ?_
        refine lv_isub hx hb dX2_insert_34 ?_
        refine na_top (show (nI pq) - 1 = nI (pq - 1) from pk_sub (a := pq) (b := 1) (by omega)) ?_
        refine na_lald hx hb hK hP 1 1 rfl rfl (by omega) (by decide) dX2_insert_35 ?_
        refine lv_lload_n hx hb dX2_insert_36 rfl (lv_at hl 3 rfl) ?_
        refine W.lcmp hx hb dX2_insert_37 ?_
        refine lv_if_le (tgt := 95) hx hb dX2_insert_38 (by decide) (fun c_4 => ?_) (fun c_4 => ?_)
        · rw [if_pos c_4] at hE
          refine lv_aload_n hx hb dX2_insert_95 rfl (lv_at hl 1 rfl) ?_
          refine va_get (D := D) (ci := 3) (v := .ref d1) (C := RX2) (T := TX2) (N := 4) hx hb hts iw_3 hown hK hP 0 rfl rfl 0 (by decide) (hts (.fieldLink RX2 11 "DepositCodes$Doubles" "serials" "[J") (by decide +kernel)) (fun _ h9 => h9) rfl dX2_insert_96 ?_
          refine lv_iload hx hb dX2_insert_99 (lv_at hl 0 rfl) ?_
          refine lv_lload_n hx hb dX2_insert_101 rfl (lv_at hl 3 rfl) ?_
          refine na_last hx hb hK hP hD hS 1 1 rfl rfl (by omega) (by decide) dX2_insert_102 (fun H locs hP hD hS => ?_)
          have hP : va_P D vwCl [(qd, .inr (3, [.ref d1, .ref d2, .ref d3, .int (nI dn)])), (d1, .inl (cJ, 200, .inr (.inl (vp_updL dzx pq v)))), (d2, .inl (cI, 200, .inl dax)), (d3, .inl (cI, 200, .inl dbx))] H := hP
          have hD : va_D A [(qd, .inr (3, [.ref d1, .ref d2, .ref d3, .int (nI dn)])), (d1, .inl (cJ, 200, .inr (.inl (vp_updL dzx pq v)))), (d2, .inl (cI, 200, .inl dax)), (d3, .inl (cI, 200, .inl dbx))] := hD
          refine lv_aload_n hx hb dX2_insert_103 rfl (lv_at hl 1 rfl) ?_
          refine va_get (D := D) (ci := 3) (v := .ref d2) (C := RX2) (T := TX2) (N := 4) hx hb hts iw_3 hown hK hP 0 rfl rfl 1 (by decide) (hts (.fieldLink RX2 17 "DepositCodes$Doubles" "payersA" "[I") (by decide +kernel)) (fun _ h9 => h9) rfl dX2_insert_104 ?_
          refine lv_iload hx hb dX2_insert_107 (lv_at hl 0 rfl) ?_
          refine lv_iload hx hb dX2_insert_109 (lv_at hl 4 rfl) ?_
          refine na_iast hx hb hK hP hD hS 2 0 rfl rfl (by omega) (by decide) dX2_insert_111 (fun H locs hP hD hS => ?_)
          have hP : va_P D vwCl [(qd, .inr (3, [.ref d1, .ref d2, .ref d3, .int (nI dn)])), (d1, .inl (cJ, 200, .inr (.inl (vp_updL dzx pq v)))), (d2, .inl (cI, 200, .inl (upd dax pq pa))), (d3, .inl (cI, 200, .inl dbx))] H := hP
          have hD : va_D A [(qd, .inr (3, [.ref d1, .ref d2, .ref d3, .int (nI dn)])), (d1, .inl (cJ, 200, .inr (.inl (vp_updL dzx pq v)))), (d2, .inl (cI, 200, .inl (upd dax pq pa))), (d3, .inl (cI, 200, .inl dbx))] := hD
          refine lv_aload_n hx hb dX2_insert_112 rfl (lv_at hl 1 rfl) ?_
          refine va_get (D := D) (ci := 3) (v := .ref d3) (C := RX2) (T := TX2) (N := 4) hx hb hts iw_3 hown hK hP 0 rfl rfl 2 (by decide) (hts (.fieldLink RX2 21 "DepositCodes$Doubles" "payersB" "[I") (by decide +kernel)) (fun _ h9 => h9) rfl dX2_insert_113 ?_
          refine lv_iload hx hb dX2_insert_116 (lv_at hl 0 rfl) ?_
          refine lv_iload hx hb dX2_insert_118 (lv_at hl 5 rfl) ?_
          refine na_iast hx hb hK hP hD hS 3 0 rfl rfl (by omega) (by decide) dX2_insert_120 (fun H locs hP hD hS => ?_)
          have hP : va_P D vwCl [(qd, .inr (3, [.ref d1, .ref d2, .ref d3, .int (nI dn)])), (d1, .inl (cJ, 200, .inr (.inl (vp_updL dzx pq v)))), (d2, .inl (cI, 200, .inl (upd dax pq pa))), (d3, .inl (cI, 200, .inl (upd dbx pq pb)))] H := hP
          have hD : va_D A [(qd, .inr (3, [.ref d1, .ref d2, .ref d3, .int (nI dn)])), (d1, .inl (cJ, 200, .inr (.inl (vp_updL dzx pq v)))), (d2, .inl (cI, 200, .inl (upd dax pq pa))), (d3, .inl (cI, 200, .inl (upd dbx pq pb)))] := hD
          refine lv_aload_n hx hb dX2_insert_121 rfl (lv_at hl 1 rfl) ?_
          refine lv_dup hx hb dX2_insert_122 rfl ?_
          refine va_get (D := D) (ci := 3) (v := .int (nI dn)) (C := RX2) (T := TX2) (N := 4) hx hb hts iw_3 hown hK hP 0 rfl rfl 3 (by decide) (hts (.fieldLink RX2 24 "DepositCodes$Doubles" "size" "I") (by decide +kernel)) (fun _ h9 => h9) rfl dX2_insert_123 ?_
          refine lv_iconst (v := 1) hx hb dX2_insert_126 (by decide) ?_
          refine lv_iadd hx hb dX2_insert_127 ?_
          refine na_top (show (nI dn) + 1 = nI (dn + 1) from nI_add dn 1) ?_
          refine va_put (D := D) (ci := 3) (v := .int (nI (dn + 1))) (ty := .int) (C := RX2) (T := TX2) (N := 4) hx hb hts iw_3 tyX2 tyX2_ok nmX2 hown hK hP hD hS 0 rfl rfl 3 (by decide) (hts (.fieldLink RX2 24 "DepositCodes$Doubles" "size" "I") (by decide +kernel)) (fun _ h9 => h9) rfl (by decide +kernel) rfl rfl (Nat.le_of_ble_eq_true rfl) dX2_insert_128 (fun H locs hP hD hS => ?_)
          have hP : va_P D vwCl [(qd, .inr (3, [.ref d1, .ref d2, .ref d3, .int (nI (dn + 1))])), (d1, .inl (cJ, 200, .inr (.inl (vp_updL dzx pq v)))), (d2, .inl (cI, 200, .inl (upd dax pq pa))), (d3, .inl (cI, 200, .inl (upd dbx pq pb)))] H := hP
          have hD : va_D A [(qd, .inr (3, [.ref d1, .ref d2, .ref d3, .int (nI (dn + 1))])), (d1, .inl (cJ, 200, .inr (.inl (vp_updL dzx pq v)))), (d2, .inl (cI, 200, .inl (upd dax pq pa))), (d3, .inl (cI, 200, .inl (upd dbx pq pb)))] := hD
          subst hE
          exact W.vret hx hb hr (fun t ht hW => ⟨rfl, by rw [ht]; exact hP, hD, hS.F ht⟩) hS.2.2 dX2_insert_131
        · rw [if_neg c_4] at hE
          refine lv_aload_n hx hb dX2_insert_41 rfl (lv_at hl 1 rfl) ?_
          refine va_get (D := D) (ci := 3) (v := .ref d1) (C := RX2) (T := TX2) (N := 4) hx hb hts iw_3 hown hK hP 0 rfl rfl 0 (by decide) (hts (.fieldLink RX2 11 "DepositCodes$Doubles" "serials" "[J") (by decide +kernel)) (fun _ h9 => h9) rfl dX2_insert_42 ?_
          refine lv_iload hx hb dX2_insert_45 (lv_at hl 0 rfl) ?_
          refine lv_aload_n hx hb dX2_insert_47 rfl (lv_at hl 1 rfl) ?_
          refine va_get (D := D) (ci := 3) (v := .ref d1) (C := RX2) (T := TX2) (N := 4) hx hb hts iw_3 hown hK hP 0 rfl rfl 0 (by decide) (hts (.fieldLink RX2 11 "DepositCodes$Doubles" "serials" "[J") (by decide +kernel)) (fun _ h9 => h9) rfl dX2_insert_48 ?_
          refine lv_iload hx hb dX2_insert_51 (lv_at hl 0 rfl) ?_
          refine lv_iconst (v := 1) hx hb dX2_insert_53 (by decide) ?_
          refine lv_isub hx hb dX2_insert_54 ?_
          refine na_top (show (nI pq) - 1 = nI (pq - 1) from pk_sub (a := pq) (b := 1) (by omega)) ?_
          refine na_lald hx hb hK hP 1 1 rfl rfl (by omega) (by decide) dX2_insert_55 ?_
          refine na_last hx hb hK hP hD hS 1 1 rfl rfl (by omega) (by decide) dX2_insert_56 (fun H locs hP hD hS => ?_)
          have hP : va_P D vwCl [(qd, .inr (3, [.ref d1, .ref d2, .ref d3, .int (nI dn)])), (d1, .inl (cJ, 200, .inr (.inl (vp_updL dzx pq (dzx (pq - 1)))))), (d2, .inl (cI, 200, .inl dax)), (d3, .inl (cI, 200, .inl dbx))] H := hP
          have hD : va_D A [(qd, .inr (3, [.ref d1, .ref d2, .ref d3, .int (nI dn)])), (d1, .inl (cJ, 200, .inr (.inl (vp_updL dzx pq (dzx (pq - 1)))))), (d2, .inl (cI, 200, .inl dax)), (d3, .inl (cI, 200, .inl dbx))] := hD
          refine lv_aload_n hx hb dX2_insert_57 rfl (lv_at hl 1 rfl) ?_
          refine va_get (D := D) (ci := 3) (v := .ref d2) (C := RX2) (T := TX2) (N := 4) hx hb hts iw_3 hown hK hP 0 rfl rfl 1 (by decide) (hts (.fieldLink RX2 17 "DepositCodes$Doubles" "payersA" "[I") (by decide +kernel)) (fun _ h9 => h9) rfl dX2_insert_58 ?_
          refine lv_iload hx hb dX2_insert_61 (lv_at hl 0 rfl) ?_
          refine lv_aload_n hx hb dX2_insert_63 rfl (lv_at hl 1 rfl) ?_
          refine va_get (D := D) (ci := 3) (v := .ref d2) (C := RX2) (T := TX2) (N := 4) hx hb hts iw_3 hown hK hP 0 rfl rfl 1 (by decide) (hts (.fieldLink RX2 17 "DepositCodes$Doubles" "payersA" "[I") (by decide +kernel)) (fun _ h9 => h9) rfl dX2_insert_64 ?_
          refine lv_iload hx hb dX2_insert_67 (lv_at hl 0 rfl) ?_
          refine lv_iconst (v := 1) hx hb dX2_insert_69 (by decide) ?_
          refine lv_isub hx hb dX2_insert_70 ?_
          refine na_top (show (nI pq) - 1 = nI (pq - 1) from pk_sub (a := pq) (b := 1) (by omega)) ?_
          refine na_iald hx hb hK hP 2 0 rfl rfl (by omega) (by decide) dX2_insert_71 ?_
          refine na_iast hx hb hK hP hD hS 2 0 rfl rfl (by omega) (by decide) dX2_insert_72 (fun H locs hP hD hS => ?_)
          have hP : va_P D vwCl [(qd, .inr (3, [.ref d1, .ref d2, .ref d3, .int (nI dn)])), (d1, .inl (cJ, 200, .inr (.inl (vp_updL dzx pq (dzx (pq - 1)))))), (d2, .inl (cI, 200, .inl (upd dax pq (dax (pq - 1))))), (d3, .inl (cI, 200, .inl dbx))] H := hP
          have hD : va_D A [(qd, .inr (3, [.ref d1, .ref d2, .ref d3, .int (nI dn)])), (d1, .inl (cJ, 200, .inr (.inl (vp_updL dzx pq (dzx (pq - 1)))))), (d2, .inl (cI, 200, .inl (upd dax pq (dax (pq - 1))))), (d3, .inl (cI, 200, .inl dbx))] := hD
          refine lv_aload_n hx hb dX2_insert_73 rfl (lv_at hl 1 rfl) ?_
          refine va_get (D := D) (ci := 3) (v := .ref d3) (C := RX2) (T := TX2) (N := 4) hx hb hts iw_3 hown hK hP 0 rfl rfl 2 (by decide) (hts (.fieldLink RX2 21 "DepositCodes$Doubles" "payersB" "[I") (by decide +kernel)) (fun _ h9 => h9) rfl dX2_insert_74 ?_
          refine lv_iload hx hb dX2_insert_77 (lv_at hl 0 rfl) ?_
          refine lv_aload_n hx hb dX2_insert_79 rfl (lv_at hl 1 rfl) ?_
          refine va_get (D := D) (ci := 3) (v := .ref d3) (C := RX2) (T := TX2) (N := 4) hx hb hts iw_3 hown hK hP 0 rfl rfl 2 (by decide) (hts (.fieldLink RX2 21 "DepositCodes$Doubles" "payersB" "[I") (by decide +kernel)) (fun _ h9 => h9) rfl dX2_insert_80 ?_
          refine lv_iload hx hb dX2_insert_83 (lv_at hl 0 rfl) ?_
          refine lv_iconst (v := 1) hx hb dX2_insert_85 (by decide) ?_
          refine lv_isub hx hb dX2_insert_86 ?_
          refine na_top (show (nI pq) - 1 = nI (pq - 1) from pk_sub (a := pq) (b := 1) (by omega)) ?_
          refine na_iald hx hb hK hP 3 0 rfl rfl (by omega) (by decide) dX2_insert_87 ?_
          refine na_iast hx hb hK hP hD hS 3 0 rfl rfl (by omega) (by decide) dX2_insert_88 (fun H locs hP hD hS => ?_)
          have hP : va_P D vwCl [(qd, .inr (3, [.ref d1, .ref d2, .ref d3, .int (nI dn)])), (d1, .inl (cJ, 200, .inr (.inl (vp_updL dzx pq (dzx (pq - 1)))))), (d2, .inl (cI, 200, .inl (upd dax pq (dax (pq - 1))))), (d3, .inl (cI, 200, .inl (upd dbx pq (dbx (pq - 1)))))] H := hP
          have hD : va_D A [(qd, .inr (3, [.ref d1, .ref d2, .ref d3, .int (nI dn)])), (d1, .inl (cJ, 200, .inr (.inl (vp_updL dzx pq (dzx (pq - 1)))))), (d2, .inl (cI, 200, .inl (upd dax pq (dax (pq - 1))))), (d3, .inl (cI, 200, .inl (upd dbx pq (dbx (pq - 1)))))] := hD
          refine lv_iinc (v := nI (pq - 1)) (lv' := [(6, .int (nI (pq - 1))), (0, .ref qd), (1, .int (nI fi)), (2, .long v), (4, .int pa), (5, .int pb)]) hx hb dX2_insert_89 hl (k := 0) rfl (sb_m1 (p := pq) (by omega)) (by decide) rfl (fun ls hl => ?_)
          refine lv_goto (tgt := 21) hx hb dX2_insert_92 (by decide) ?_
          exact ih (pq - 1) (vp_updL dzx pq (dzx (pq - 1))) (upd dax pq (dax (pq - 1))) (upd dbx pq (dbx (pq - 1))) (by omega) (by omega) (by omega) hE _ _ hP hD hS ls (lv_sub hl [0, 1, 2, 3, 4, 5] rfl)
  refine lv_aload_n hx hb dX2_insert_0 rfl (lv_at hl 0 rfl) ?_
  refine va_get (D := D) (ci := 3) (v := .int (nI dn)) (C := RX2) (T := TX2) (N := 4) hx hb hts iw_3 hown hK hP 0 rfl rfl 3 (by decide) (hts (.fieldLink RX2 24 "DepositCodes$Doubles" "size" "I") (by decide +kernel)) (fun _ h9 => h9) rfl dX2_insert_1 ?_
  refine lv_sipush (v := 200) hx hb dX2_insert_4 (by decide) ?_
  refine lv_icmp_ge (tgt := 14) hx hb dX2_insert_7 (by decide) (fun c_1 => ?_) (fun c_1 => ?_)
  · have c_1 : 200 ≤ dn := (nI_leI (a := 200) (b := dn) (by omega) (by omega)).mp c_1
    rw [if_pos c_1] at hE
    subst hE
    exact W.vret hx hb hr (fun t ht hW => ⟨rfl, by rw [ht]; exact hP, hD, hS.F ht⟩) hS.2.2 dX2_insert_14
  · have c_1 : ¬ 200 ≤ dn := fun h9 => c_1 ((nI_leI (a := 200) (b := dn) (by omega) (by omega)).mpr h9)
    rw [if_neg c_1] at hE
    refine lv_iload_n hx hb dX2_insert_10 rfl (lv_at hl 1 rfl) ?_
    refine lv_if_ge (tgt := 15) hx hb dX2_insert_11 (by decide) (fun c_2 => ?_) (fun c_2 => ?_)
    · have c_2 : 0 ≤ fi := (nI_leI (a := 0) (b := fi) (by omega) (by omega)).mp c_2
      rw [if_pos c_2] at hE
      refine lv_aload_n hx hb dX2_insert_15 rfl (lv_at hl 0 rfl) ?_
      refine va_get (D := D) (ci := 3) (v := .int (nI dn)) (C := RX2) (T := TX2) (N := 4) hx hb hts iw_3 hown hK hP 0 rfl rfl 3 (by decide) (hts (.fieldLink RX2 24 "DepositCodes$Doubles" "size" "I") (by decide +kernel)) (fun _ h9 => h9) rfl dX2_insert_16 ?_
      refine lv_istore (lv' := [(6, .int (nI dn)), (0, .ref qd), (1, .int (nI fi)), (2, .long v), (4, .int pa), (5, .int pb)]) hx hb dX2_insert_19 hl (by decide) rfl (fun ls hl => ?_)
      exact loop_21 (dn + 1) dn dz da db (by omega) (by omega) (by omega) hE _ _ hP hD hS ls (lv_sub hl [0, 1, 2, 3, 4, 5] rfl)
    · have c_2 : ¬ 0 ≤ fi := fun h9 => c_2 ((nI_leI (a := 0) (b := fi) (by omega) (by omega)).mpr h9)
      rw [if_neg c_2] at hE
      subst hE
      exact W.vret hx hb hr (fun t ht hW => ⟨rfl, by rw [ht]; exact hP, hD, hS.F ht⟩) hS.2.2 dX2_insert_14
theorem FX2_insert_l21_n (dn fi : Nat) (v : Int64) (pa pb : Int32) (n : Nat) : ∀ (pq : Nat) (dz : Nat → Int64) (da db : Nat → Int32), pq < n → (FX2_insert_l21 dn fi v pa pb n pq dz da db).2.2.2 = dn + 1 := by
  induction n with
  | zero => intro pq dz da db h; omega
  | succ n ih =>
    intro pq dz da db h
    rw [FX2_insert_l21]
    split
    · rfl
    · split
      · rfl
      · exact ih _ _ _ _ (by omega)
theorem FX2_insert_le {dz : Nat → Int64} {da db : Nat → Int32} {dn fi : Nat} {v : Int64} {pa pb : Int32} (h : dn ≤ 200) : (FX2_insert dz da db dn fi v pa pb).2.2.2 ≤ 200 := by
  unfold FX2_insert
  split
  · exact h
  · split
    · rw [FX2_insert_l21_n _ _ _ _ _ _ _ _ _ _ (by omega)]; omega
    · exact h
end
section
def FX1_print (ca : Nat → Int32) (cn : Nat) (am : Int32) : Int32 × (Nat → Int32) × Nat := if cn < 200 then (nI cn, upd ca cn am, cn + 1) else ((-1), ca, cn)
set_option maxHeartbeats 4000000 in
set_option maxRecDepth 100000 in
theorem kX1_print (l : Launch) (D : va_G) (cI cJ cZ : ClassId) (qc : Nat) (c1 : Nat) (c2 : Nat) (c3 : Nat) (ca : Nat → Int32) (cr : Nat → Int32) (cs : Nat → Int64) (cn : Nat) (am : Int32) (sz : Nat) (hcn : cn ≤ 200) : Met l yX1_print wsX1_print ({ frames := 0, cells := 0, slots := 0, locals := 0 }) (mP D (tz cI cJ cZ) [.ref qc, .int am] sz [(qc, .inr (2, [.ref c1, .ref c2, .ref c3, .int (nI cn)])), (c1, .inl (cI, 200, .inl ca)), (c2, .inl (cZ, 200, .inl cr)), (c3, .inl (cJ, 100, .inr (.inl cs)))]) (mQ D (some (.int ((FX1_print ca cn am).1))) [(qc, .inr (2, [.ref c1, .ref c2, .ref c3, .int (nI ((FX1_print ca cn am).2.2))])), (c1, .inl (cI, 200, .inl ((FX1_print ca cn am).2.1))), (c2, .inl (cZ, 200, .inl cr)), (c3, .inl (cJ, 100, .inr (.inl cs)))] (va_A [(qc, .inr (2, [.ref c1, .ref c2, .ref c3, .int (nI cn)])), (c1, .inl (cI, 200, .inl ca)), (c2, .inl (cZ, 200, .inl cr)), (c3, .inl (cJ, 100, .inr (.inl cs)))] sz)) 0 0 (va_A [(qc, .inr (2, [.ref c1, .ref c2, .ref c3, .int (nI cn)])), (c1, .inl (cI, 200, .inl ca)), (c2, .inl (cZ, 200, .inl cr)), (c3, .inl (cJ, 100, .inr (.inl cs)))] sz) := by
  refine Met.ofW (cc := cX1_print) (maxL := 3) (ret := (some .int)) (by decide) rfl ?_
  intro p e s m args below meth c s₁ B hml hv
  obtain ⟨rfl, hsz, hP, hK, hD0, hN⟩ := hv
  have hx := B.exec
  have hb := B.bytes
  have hr := B.returns
  have hts := atoms_spec (ws := wsX1_print) B.pre
  have hown : s.vm.findClass RX1 = some m.cls := findClass_of_methodNamed B.named
  have hlocks := B.notSynchronized
  have iw_2 : ∀ w ∈ u_ws RX1 TX1 4, w ∈ wsX1_print := by decide +kernel
  subst hsz
  have hD := hD0.self (sz := s.heap.size)
  generalize hE : FX1_print ca cn am = R0
  generalize hAe : va_A [(qc, .inr (2, [.ref c1, .ref c2, .ref c3, .int (nI cn)])), (c1, .inl (cI, 200, .inl ca)), (c2, .inl (cZ, 200, .inl cr)), (c3, .inl (cJ, 100, .inr (.inl cs)))] s.heap.size = A at hD ⊢
  have hA : ∀ q : Nat, s.heap.size ≤ q → A q := fun q h => by rw [← hAe]; exact Or.inr h
  have hS : va_S A s.heap s.heap [] := va_S.rf
  rw [FX1_print] at hE
  have hl := lv_entry ([.ref qc, .int am]) (n := 3) (Nat.le_of_ble_eq_true rfl)
  rw [lg_entry_eq]
  generalize (lg_sl ([.ref qc, .int am]) ++ List.replicate (3 - (lg_sl ([.ref qc, .int am])).length) Slot.unset).toArray = ls at hl ⊢
  have hl : lv_has ls 3 [(0, .ref qc), (1, .int am)] := hl
  refine lv_aload_n hx hb dX1_print_0 rfl (lv_at hl 0 rfl) ?_
  refine va_get (D := D) (ci := 2) (v := .int (nI cn)) (C := RX1) (T := TX1) (N := 4) hx hb hts iw_2 hown hK hP 0 rfl rfl 3 (by decide) (hts (.fieldLink RX1 25 "DepositCodes$Coupons" "size" "I") (by decide +kernel)) (fun _ h9 => h9) rfl dX1_print_1 ?_
  refine lv_sipush (v := 200) hx hb dX1_print_4 (by decide) ?_
  refine lv_icmp_lt (tgt := 12) hx hb dX1_print_7 (by decide) (fun c_1 => ?_) (fun c_1 => ?_)
  · have c_1 : cn < 200 := (nI_ltI (a := cn) (b := 200) (by omega) (by omega)).mp c_1
    rw [if_pos c_1] at hE
    refine lv_aload_n hx hb dX1_print_12 rfl (lv_at hl 0 rfl) ?_
    refine va_get (D := D) (ci := 2) (v := .int (nI cn)) (C := RX1) (T := TX1) (N := 4) hx hb hts iw_2 hown hK hP 0 rfl rfl 3 (by decide) (hts (.fieldLink RX1 25 "DepositCodes$Coupons" "size" "I") (by decide +kernel)) (fun _ h9 => h9) rfl dX1_print_13 ?_
    refine lv_istore_n (lv' := [(2, .int (nI cn)), (0, .ref qc), (1, .int am)]) hx hb dX1_print_16 rfl hl (by decide) rfl (fun ls hl => ?_)
    refine lv_aload_n hx hb dX1_print_17 rfl (lv_at hl 1 rfl) ?_
    refine va_get (D := D) (ci := 2) (v := .ref c1) (C := RX1) (T := TX1) (N := 4) hx hb hts iw_2 hown hK hP 0 rfl rfl 0 (by decide) (hts (.fieldLink RX1 11 "DepositCodes$Coupons" "amounts" "[I") (by decide +kernel)) (fun _ h9 => h9) rfl dX1_print_18 ?_
    refine lv_iload_n hx hb dX1_print_21 rfl (lv_at hl 0 rfl) ?_
    refine lv_iload_n hx hb dX1_print_22 rfl (lv_at hl 2 rfl) ?_
    refine na_iast hx hb hK hP hD hS 1 0 rfl rfl (by omega) (by decide) dX1_print_23 (fun H locs hP hD hS => ?_)
    have hP : va_P D vwCl [(qc, .inr (2, [.ref c1, .ref c2, .ref c3, .int (nI cn)])), (c1, .inl (cI, 200, .inl (upd ca cn am))), (c2, .inl (cZ, 200, .inl cr)), (c3, .inl (cJ, 100, .inr (.inl cs)))] H := hP
    have hD : va_D A [(qc, .inr (2, [.ref c1, .ref c2, .ref c3, .int (nI cn)])), (c1, .inl (cI, 200, .inl (upd ca cn am))), (c2, .inl (cZ, 200, .inl cr)), (c3, .inl (cJ, 100, .inr (.inl cs)))] := hD
    refine lv_aload_n hx hb dX1_print_24 rfl (lv_at hl 1 rfl) ?_
    refine lv_dup hx hb dX1_print_25 rfl ?_
    refine va_get (D := D) (ci := 2) (v := .int (nI cn)) (C := RX1) (T := TX1) (N := 4) hx hb hts iw_2 hown hK hP 0 rfl rfl 3 (by decide) (hts (.fieldLink RX1 25 "DepositCodes$Coupons" "size" "I") (by decide +kernel)) (fun _ h9 => h9) rfl dX1_print_26 ?_
    refine lv_iconst (v := 1) hx hb dX1_print_29 (by decide) ?_
    refine lv_iadd hx hb dX1_print_30 ?_
    refine na_top (show (nI cn) + 1 = nI (cn + 1) from nI_add cn 1) ?_
    refine va_put (D := D) (ci := 2) (v := .int (nI (cn + 1))) (ty := .int) (C := RX1) (T := TX1) (N := 4) hx hb hts iw_2 tyX1 tyX1_ok nmX1 hown hK hP hD hS 0 rfl rfl 3 (by decide) (hts (.fieldLink RX1 25 "DepositCodes$Coupons" "size" "I") (by decide +kernel)) (fun _ h9 => h9) rfl (by decide +kernel) rfl rfl (Nat.le_of_ble_eq_true rfl) dX1_print_31 (fun H locs hP hD hS => ?_)
    have hP : va_P D vwCl [(qc, .inr (2, [.ref c1, .ref c2, .ref c3, .int (nI (cn + 1))])), (c1, .inl (cI, 200, .inl (upd ca cn am))), (c2, .inl (cZ, 200, .inl cr)), (c3, .inl (cJ, 100, .inr (.inl cs)))] H := hP
    have hD : va_D A [(qc, .inr (2, [.ref c1, .ref c2, .ref c3, .int (nI (cn + 1))])), (c1, .inl (cI, 200, .inl (upd ca cn am))), (c2, .inl (cZ, 200, .inl cr)), (c3, .inl (cJ, 100, .inr (.inl cs)))] := hD
    refine lv_iload_n hx hb dX1_print_34 rfl (lv_at hl 0 rfl) ?_
    subst hE
    exact W.iret hx hb hr (fun t ht hW => ⟨rfl, by rw [ht]; exact hP, hD, hS.F ht⟩) hS.2.2 dX1_print_35
  · have c_1 : ¬ cn < 200 := fun h9 => c_1 ((nI_ltI (a := cn) (b := 200) (by omega) (by omega)).mpr h9)
    rw [if_neg c_1] at hE
    refine lv_iconst (v := (-1)) hx hb dX1_print_10 (by decide) ?_
    subst hE
    exact W.iret hx hb hr (fun t ht hW => ⟨rfl, by rw [ht]; exact hP, hD, hS.F ht⟩) hS.2.2 dX1_print_11
def FX1_redeemedBy (cs : Nat → Int64) (k : Int32) : Int64 := if (FX8_isIndex k 100) = 0 then (-1) else cs k.toNatClampNeg
set_option maxHeartbeats 4000000 in
set_option maxRecDepth 100000 in
theorem kX1_redeemedBy (l : Launch) (D : va_G) (cI cJ cZ : ClassId) (qc : Nat) (c1 : Nat) (c2 : Nat) (c3 : Nat) (ca : Nat → Int32) (cr : Nat → Int32) (cs : Nat → Int64) (cn : Nat) (k : Int32) : Met l yX1_redeemedBy wsX1_redeemedBy ({ frames := 1, cells := 0, slots := 0, locals := 21 }) (rP D (tz cI cJ cZ) [.ref qc, .int k] [(qc, .inr (2, [.ref c1, .ref c2, .ref c3, .int (nI cn)])), (c1, .inl (cI, 200, .inl ca)), (c2, .inl (cZ, 200, .inl cr)), (c3, .inl (cJ, 100, .inr (.inl cs)))]) (k2_QcV (.long (FX1_redeemedBy cs k))) 0 0 (fun _ => False) := by
  refine Met.ofW (cc := cX1_redeemedBy) (maxL := 2) (ret := (some .long)) (by decide) rfl ?_
  intro p e s m args below meth c s₁ B hml hv
  obtain ⟨rfl, hP, hK, hN⟩ := hv
  have hx := B.exec
  have hb := B.bytes
  have hr := B.returns
  have hts := atoms_spec (ws := wsX1_redeemedBy) B.pre
  have hown : s.vm.findClass RX1 = some m.cls := findClass_of_methodNamed B.named
  have hlocks := B.notSynchronized
  have iw_2 : ∀ w ∈ u_ws RX1 TX1 4, w ∈ wsX1_redeemedBy := by decide +kernel
  generalize hE : FX1_redeemedBy cs k = R0
  rw [FX1_redeemedBy] at hE
  have hl := lv_entry ([.ref qc, .int k]) (n := 2) (Nat.le_of_ble_eq_true rfl)
  rw [lg_entry_eq]
  generalize (lg_sl ([.ref qc, .int k]) ++ List.replicate (2 - (lg_sl ([.ref qc, .int k])).length) Slot.unset).toArray = ls at hl ⊢
  have hl : lv_has ls 2 [(0, .ref qc), (1, .int k)] := hl
  refine lv_iload_n hx hb dX1_redeemedBy_0 rfl (lv_at hl 1 rfl) ?_
  refine lv_bipush (v := 100) hx hb dX1_redeemedBy_1 (by decide) ?_
  refine rd_call (va_runSN (As := [.int k, .int 100]) (rest := []) ⟨hx, hb, hml, hown, hts⟩ (kX8_isIndex l D cI cJ cZ k 100) ⟨va_cnB 2 hts gX1_redeemedBy_X8_isIndex_n29 rfl rfl rfl hN.2.1 (hts (.initialized RX8) (by decide +kernel)) (by decide +kernel) ⟨Nat.le_of_ble_eq_true rfl, Nat.le_of_ble_eq_true rfl⟩, hts (.static yX8_isIndex) (by decide +kernel), trivial⟩ ⟨rP_blind, rP_pre (va_P_nil) hK hN⟩ rfl rfl hl.1 rfl (lv_room (Nat.le_of_ble_eq_true rfl)) dX1_redeemedBy_3 ⟨Nat.zero_le _, Nat.zero_le _⟩) ?_
  refine lv_if_eq (tgt := 18) hx hb dX1_redeemedBy_6 (by decide) (fun c_1 => ?_) (fun c_1 => ?_)
  · rw [if_pos c_1] at hE
    refine lv_ldc2 hx hb hown (hts (.constantLong RX1 33 (-1)) (by decide +kernel)) dX1_redeemedBy_18 ?_
    exact W.lret hx hb hr (fun t ht hW => ⟨by rw [← hE], ht⟩) (fun q h => absurd h List.not_mem_nil) dX1_redeemedBy_21
  · rw [if_neg c_1] at hE
    have hin : vp_in k 100 := isIx_in (k := k) (n := 100) (by assumption) (by decide) (by decide)
    refine lv_aload_n hx hb dX1_redeemedBy_9 rfl (lv_at hl 0 rfl) ?_
    refine va_get (D := D) (ci := 2) (v := .ref c3) (C := RX1) (T := TX1) (N := 4) hx hb hts iw_2 hown hK hP 0 rfl rfl 2 (by decide) (hts (.fieldLink RX1 21 "DepositCodes$Coupons" "sums" "[J") (by decide +kernel)) (fun _ h9 => h9) rfl dX1_redeemedBy_10 ?_
    refine lv_iload_n hx hb dX1_redeemedBy_13 rfl (lv_at hl 1 rfl) ?_
    refine va_lald hx hb hK hP 3 1 rfl rfl (by assumption) dX1_redeemedBy_14 ?_
    refine lv_goto (tgt := 21) hx hb dX1_redeemedBy_15 (by decide) ?_
    exact W.lret hx hb hr (fun t ht hW => ⟨by rw [← hE], ht⟩) (fun q h => absurd h List.not_mem_nil) dX1_redeemedBy_21
def FX1_redeemAt (ca : Nat → Int32) (cr : Nat → Int32) (cs : Nat → Int64) (cn : Nat) (k : Int32) (w : Int32) : Int32 × (Nat → Int32) × (Nat → Int64) := if (FX8_isIndex k (nI cn)) = 0 then (0, cr, cs) else (if (FX8_isIndex w 100) = 0 then (0, cr, cs) else (if (cr k.toNatClampNeg) = 0 then (1, upd cr k.toNatClampNeg (vp_nar .boolean 1), vp_updL cs w.toNatClampNeg ((cs w.toNatClampNeg) + ((ca k.toNatClampNeg).toInt64))) else (0, cr, cs)))
theorem FX1_redeemAt_b (ca : Nat → Int32) (cr : Nat → Int32) (cs : Nat → Int64) (cn : Nat) (k : Int32) (w : Int32) : isB ((FX1_redeemAt ca cr cs cn k w).1) := by
  unfold FX1_redeemAt
  repeat' split
  all_goals first | exact isB_0 | exact isB_1
set_option maxHeartbeats 4000000 in
set_option maxRecDepth 100000 in
theorem kX1_redeemAt (l : Launch) (D : va_G) (cI cJ cZ : ClassId) (qc : Nat) (c1 : Nat) (c2 : Nat) (c3 : Nat) (ca : Nat → Int32) (cr : Nat → Int32) (cs : Nat → Int64) (cn : Nat) (k : Int32) (w : Int32) (sz : Nat) (hcn : cn ≤ 200) : Met l yX1_redeemAt wsX1_redeemAt ({ frames := 1, cells := 0, slots := 0, locals := 21 }) (mP D (tz cI cJ cZ) [.ref qc, .int k, .int w] sz [(qc, .inr (2, [.ref c1, .ref c2, .ref c3, .int (nI cn)])), (c1, .inl (cI, 200, .inl ca)), (c2, .inl (cZ, 200, .inl cr)), (c3, .inl (cJ, 100, .inr (.inl cs)))]) (mQ D (some (.int ((FX1_redeemAt ca cr cs cn k w).1))) [(qc, .inr (2, [.ref c1, .ref c2, .ref c3, .int (nI cn)])), (c1, .inl (cI, 200, .inl ca)), (c2, .inl (cZ, 200, .inl ((FX1_redeemAt ca cr cs cn k w).2.1))), (c3, .inl (cJ, 100, .inr (.inl ((FX1_redeemAt ca cr cs cn k w).2.2))))] (va_A [(qc, .inr (2, [.ref c1, .ref c2, .ref c3, .int (nI cn)])), (c1, .inl (cI, 200, .inl ca)), (c2, .inl (cZ, 200, .inl cr)), (c3, .inl (cJ, 100, .inr (.inl cs)))] sz)) 0 0 (va_A [(qc, .inr (2, [.ref c1, .ref c2, .ref c3, .int (nI cn)])), (c1, .inl (cI, 200, .inl ca)), (c2, .inl (cZ, 200, .inl cr)), (c3, .inl (cJ, 100, .inr (.inl cs)))] sz) := by
  refine Met.ofW (cc := cX1_redeemAt) (maxL := 3) (ret := (some .boolean)) (by decide) rfl ?_
  intro p e s m args below meth c s₁ B hml hv
  obtain ⟨rfl, hsz, hP, hK, hD0, hN⟩ := hv
  have hx := B.exec
  have hb := B.bytes
  have hr := B.returns
  have hts := atoms_spec (ws := wsX1_redeemAt) B.pre
  have hown : s.vm.findClass RX1 = some m.cls := findClass_of_methodNamed B.named
  have hlocks := B.notSynchronized
  have iw_2 : ∀ w ∈ u_ws RX1 TX1 4, w ∈ wsX1_redeemAt := by decide +kernel
  subst hsz
  have hD := hD0.self (sz := s.heap.size)
  generalize hE : FX1_redeemAt ca cr cs cn k w = R0
  generalize hAe : va_A [(qc, .inr (2, [.ref c1, .ref c2, .ref c3, .int (nI cn)])), (c1, .inl (cI, 200, .inl ca)), (c2, .inl (cZ, 200, .inl cr)), (c3, .inl (cJ, 100, .inr (.inl cs)))] s.heap.size = A at hD ⊢
  have hA : ∀ q : Nat, s.heap.size ≤ q → A q := fun q h => by rw [← hAe]; exact Or.inr h
  have hS : va_S A s.heap s.heap [] := va_S.rf
  rw [FX1_redeemAt] at hE
  have hl := lv_entry ([.ref qc, .int k, .int w]) (n := 3) (Nat.le_of_ble_eq_true rfl)
  rw [lg_entry_eq]
  generalize (lg_sl ([.ref qc, .int k, .int w]) ++ List.replicate (3 - (lg_sl ([.ref qc, .int k, .int w])).length) Slot.unset).toArray = ls at hl ⊢
  have hl : lv_has ls 3 [(0, .ref qc), (1, .int k), (2, .int w)] := hl
  refine lv_iload_n hx hb dX1_redeemAt_0 rfl (lv_at hl 1 rfl) ?_
  refine lv_aload_n hx hb dX1_redeemAt_1 rfl (lv_at hl 0 rfl) ?_
  refine va_get (D := D) (ci := 2) (v := .int (nI cn)) (C := RX1) (T := TX1) (N := 4) hx hb hts iw_2 hown hK hP 0 rfl rfl 3 (by decide) (hts (.fieldLink RX1 25 "DepositCodes$Coupons" "size" "I") (by decide +kernel)) (fun _ h9 => h9) rfl dX1_redeemAt_2 ?_
  refine rd_call (va_runSN (As := [.int k, .int (nI cn)]) (rest := []) ⟨hx, hb, hml, hown, hts⟩ (kX8_isIndex l D cI cJ cZ k (nI cn)) ⟨va_cnB 2 hts gX1_redeemAt_X8_isIndex_n29 rfl rfl rfl hN.2.1 (hts (.initialized RX8) (by decide +kernel)) (by decide +kernel) ⟨Nat.le_of_ble_eq_true rfl, Nat.le_of_ble_eq_true rfl⟩, hts (.static yX8_isIndex) (by decide +kernel), trivial⟩ ⟨rP_blind, rP_pre (va_P_nil) hK hN⟩ rfl rfl hl.1 rfl (lv_room (Nat.le_of_ble_eq_true rfl)) dX1_redeemAt_5 ⟨Nat.zero_le _, Nat.zero_le _⟩) ?_
  refine lv_if_eq (tgt := 29) hx hb dX1_redeemAt_8 (by decide) (fun c_1 => ?_) (fun c_1 => ?_)
  · rw [if_pos c_1] at hE
    refine lv_iconst (v := 0) hx hb dX1_redeemAt_29 (by decide) ?_
    subst hE
    exact W.zret hx hb hr narrow_b0 (fun t ht hW => ⟨rfl, by rw [ht]; exact hP, hD, hS.F ht⟩) hS.2.2 dX1_redeemAt_30
  · rw [if_neg c_1] at hE
    refine lv_iload_n hx hb dX1_redeemAt_11 rfl (lv_at hl 2 rfl) ?_
    refine lv_bipush (v := 100) hx hb dX1_redeemAt_12 (by decide) ?_
    refine rd_call (va_runSN (As := [.int w, .int 100]) (rest := []) ⟨hx, hb, hml, hown, hts⟩ (kX8_isIndex l D cI cJ cZ w 100) ⟨va_cnB 2 hts gX1_redeemAt_X8_isIndex_n29 rfl rfl rfl hN.2.1 (hts (.initialized RX8) (by decide +kernel)) (by decide +kernel) ⟨Nat.le_of_ble_eq_true rfl, Nat.le_of_ble_eq_true rfl⟩, hts (.static yX8_isIndex) (by decide +kernel), trivial⟩ ⟨rP_blind, rP_pre (va_P_nil) hK hN⟩ rfl rfl hl.1 rfl (lv_room (Nat.le_of_ble_eq_true rfl)) dX1_redeemAt_14 ⟨Nat.zero_le _, Nat.zero_le _⟩) ?_
    refine lv_if_eq (tgt := 29) hx hb dX1_redeemAt_17 (by decide) (fun c_2 => ?_) (fun c_2 => ?_)
    · rw [if_pos c_2] at hE
      refine lv_iconst (v := 0) hx hb dX1_redeemAt_29 (by decide) ?_
      subst hE
      exact W.zret hx hb hr narrow_b0 (fun t ht hW => ⟨rfl, by rw [ht]; exact hP, hD, hS.F ht⟩) hS.2.2 dX1_redeemAt_30
    · rw [if_neg c_2] at hE
      have hin : vp_in k 200 := isIx_in (k := k) (n := cn) (by assumption) hcn (by decide)
      have hin2 : vp_in w 100 := isIx_in (k := w) (n := 100) (by assumption) (by decide) (by decide)
      refine lv_aload_n hx hb dX1_redeemAt_20 rfl (lv_at hl 0 rfl) ?_
      refine va_get (D := D) (ci := 2) (v := .ref c2) (C := RX1) (T := TX1) (N := 4) hx hb hts iw_2 hown hK hP 0 rfl rfl 1 (by decide) (hts (.fieldLink RX1 17 "DepositCodes$Coupons" "redeemed" "[Z") (by decide +kernel)) (fun _ h9 => h9) rfl dX1_redeemAt_21 ?_
      refine lv_iload_n hx hb dX1_redeemAt_24 rfl (lv_at hl 1 rfl) ?_
      refine va_zald hx hb hK hP 2 2 rfl rfl (by assumption) dX1_redeemAt_25 ?_
      refine lv_if_eq (tgt := 31) hx hb dX1_redeemAt_26 (by decide) (fun c_3 => ?_) (fun c_3 => ?_)
      · rw [if_pos c_3] at hE
        refine lv_aload_n hx hb dX1_redeemAt_31 rfl (lv_at hl 0 rfl) ?_
        refine va_get (D := D) (ci := 2) (v := .ref c2) (C := RX1) (T := TX1) (N := 4) hx hb hts iw_2 hown hK hP 0 rfl rfl 1 (by decide) (hts (.fieldLink RX1 17 "DepositCodes$Coupons" "redeemed" "[Z") (by decide +kernel)) (fun _ h9 => h9) rfl dX1_redeemAt_32 ?_
        refine lv_iload_n hx hb dX1_redeemAt_35 rfl (lv_at hl 1 rfl) ?_
        refine lv_iconst (v := 1) hx hb dX1_redeemAt_36 (by decide) ?_
        refine va_zast hx hb hK hP hD hS 2 2 rfl rfl (by assumption) dX1_redeemAt_37 (fun H locs hP hD hS => ?_)
        have hP : va_P D vwCl [(qc, .inr (2, [.ref c1, .ref c2, .ref c3, .int (nI cn)])), (c1, .inl (cI, 200, .inl ca)), (c2, .inl (cZ, 200, .inl (upd cr k.toNatClampNeg (vp_nar .boolean 1)))), (c3, .inl (cJ, 100, .inr (.inl cs)))] H := hP
        have hD : va_D A [(qc, .inr (2, [.ref c1, .ref c2, .ref c3, .int (nI cn)])), (c1, .inl (cI, 200, .inl ca)), (c2, .inl (cZ, 200, .inl (upd cr k.toNatClampNeg (vp_nar .boolean 1)))), (c3, .inl (cJ, 100, .inr (.inl cs)))] := hD
        refine lv_aload_n hx hb dX1_redeemAt_38 rfl (lv_at hl 0 rfl) ?_
        refine va_get (D := D) (ci := 2) (v := .ref c3) (C := RX1) (T := TX1) (N := 4) hx hb hts iw_2 hown hK hP 0 rfl rfl 2 (by decide) (hts (.fieldLink RX1 21 "DepositCodes$Coupons" "sums" "[J") (by decide +kernel)) (fun _ h9 => h9) rfl dX1_redeemAt_39 ?_
        refine lv_iload_n hx hb dX1_redeemAt_42 rfl (lv_at hl 2 rfl) ?_
        refine lv_dup2_11 hx hb dX1_redeemAt_43 rfl rfl ?_
        refine va_lald hx hb hK hP 3 1 rfl rfl (by assumption) dX1_redeemAt_44 ?_
        refine lv_aload_n hx hb dX1_redeemAt_45 rfl (lv_at hl 0 rfl) ?_
        refine va_get (D := D) (ci := 2) (v := .ref c1) (C := RX1) (T := TX1) (N := 4) hx hb hts iw_2 hown hK hP 0 rfl rfl 0 (by decide) (hts (.fieldLink RX1 11 "DepositCodes$Coupons" "amounts" "[I") (by decide +kernel)) (fun _ h9 => h9) rfl dX1_redeemAt_46 ?_
        refine lv_iload_n hx hb dX1_redeemAt_49 rfl (lv_at hl 1 rfl) ?_
        refine va_iald hx hb hK hP 1 0 rfl rfl (by assumption) dX1_redeemAt_50 ?_
        refine lv_i2l hx hb dX1_redeemAt_51 rfl ?_
        refine lv_ladd hx hb dX1_redeemAt_52 ?_
        refine va_last hx hb hK hP hD hS 3 1 rfl rfl (by assumption) dX1_redeemAt_53 (fun H locs hP hD hS => ?_)
        have hP : va_P D vwCl [(qc, .inr (2, [.ref c1, .ref c2, .ref c3, .int (nI cn)])), (c1, .inl (cI, 200, .inl ca)), (c2, .inl (cZ, 200, .inl (upd cr k.toNatClampNeg (vp_nar .boolean 1)))), (c3, .inl (cJ, 100, .inr (.inl (vp_updL cs w.toNatClampNeg ((cs w.toNatClampNeg) + ((ca k.toNatClampNeg).toInt64))))))] H := hP
        have hD : va_D A [(qc, .inr (2, [.ref c1, .ref c2, .ref c3, .int (nI cn)])), (c1, .inl (cI, 200, .inl ca)), (c2, .inl (cZ, 200, .inl (upd cr k.toNatClampNeg (vp_nar .boolean 1)))), (c3, .inl (cJ, 100, .inr (.inl (vp_updL cs w.toNatClampNeg ((cs w.toNatClampNeg) + ((ca k.toNatClampNeg).toInt64))))))] := hD
        refine lv_iconst (v := 1) hx hb dX1_redeemAt_54 (by decide) ?_
        subst hE
        exact W.zret hx hb hr narrow_b1 (fun t ht hW => ⟨rfl, by rw [ht]; exact hP, hD, hS.F ht⟩) hS.2.2 dX1_redeemAt_55
      · rw [if_neg c_3] at hE
        refine lv_iconst (v := 0) hx hb dX1_redeemAt_29 (by decide) ?_
        subst hE
        exact W.zret hx hb hr narrow_b0 (fun t ht hW => ⟨rfl, by rw [ht]; exact hP, hD, hS.F ht⟩) hS.2.2 dX1_redeemAt_30
def FX3_add (fp : Nat → Int32) (fn : Nat) (mc : Int32) : (Nat → Int32) × Nat := if 170 ≤ fn then (fp, fn) else (upd fp fn mc, fn + 1)
set_option maxHeartbeats 4000000 in
set_option maxRecDepth 100000 in
theorem kX3_add (l : Launch) (D : va_G) (cI cJ cZ : ClassId) (qf : Nat) (f1 : Nat) (fp : Nat → Int32) (fn : Nat) (mc : Int32) (sz : Nat) (hfn : fn ≤ 170) : Met l yX3_add wsX3_add ({ frames := 0, cells := 0, slots := 0, locals := 0 }) (mP D (tz cI cJ cZ) [.ref qf, .int mc] sz [(qf, .inr (4, [.ref f1, .int (nI fn)])), (f1, .inl (cI, 170, .inl fp))]) (mQ D none [(qf, .inr (4, [.ref f1, .int (nI ((FX3_add fp fn mc).2))])), (f1, .inl (cI, 170, .inl ((FX3_add fp fn mc).1)))] (va_A [(qf, .inr (4, [.ref f1, .int (nI fn)])), (f1, .inl (cI, 170, .inl fp))] sz)) 0 0 (va_A [(qf, .inr (4, [.ref f1, .int (nI fn)])), (f1, .inl (cI, 170, .inl fp))] sz) := by
  refine Met.ofW (cc := cX3_add) (maxL := 2) (ret := none) (by decide) rfl ?_
  intro p e s m args below meth c s₁ B hml hv
  obtain ⟨rfl, hsz, hP, hK, hD0, hN⟩ := hv
  have hx := B.exec
  have hb := B.bytes
  have hr := B.returns
  have hts := atoms_spec (ws := wsX3_add) B.pre
  have hown : s.vm.findClass RX3 = some m.cls := findClass_of_methodNamed B.named
  have hlocks := B.notSynchronized
  have iw_4 : ∀ w ∈ u_ws RX3 TX3 2, w ∈ wsX3_add := by decide +kernel
  subst hsz
  have hD := hD0.self (sz := s.heap.size)
  generalize hE : FX3_add fp fn mc = R0
  generalize hAe : va_A [(qf, .inr (4, [.ref f1, .int (nI fn)])), (f1, .inl (cI, 170, .inl fp))] s.heap.size = A at hD ⊢
  have hA : ∀ q : Nat, s.heap.size ≤ q → A q := fun q h => by rw [← hAe]; exact Or.inr h
  have hS : va_S A s.heap s.heap [] := va_S.rf
  rw [FX3_add] at hE
  have hl := lv_entry ([.ref qf, .int mc]) (n := 2) (Nat.le_of_ble_eq_true rfl)
  rw [lg_entry_eq]
  generalize (lg_sl ([.ref qf, .int mc]) ++ List.replicate (2 - (lg_sl ([.ref qf, .int mc])).length) Slot.unset).toArray = ls at hl ⊢
  have hl : lv_has ls 2 [(0, .ref qf), (1, .int mc)] := hl
  refine lv_aload_n hx hb dX3_add_0 rfl (lv_at hl 0 rfl) ?_
  refine va_get (D := D) (ci := 4) (v := .int (nI fn)) (C := RX3) (T := TX3) (N := 2) hx hb hts iw_4 hown hK hP 0 rfl rfl 1 (by decide) (hts (.fieldLink RX3 15 "DepositCodes$Frauds" "size" "I") (by decide +kernel)) (fun _ h9 => h9) rfl dX3_add_1 ?_
  refine lv_sipush (v := 170) hx hb dX3_add_4 (by decide) ?_
  refine lv_icmp_ge (tgt := 30) hx hb dX3_add_7 (by decide) (fun c_1 => ?_) (fun c_1 => ?_)
  · have c_1 : 170 ≤ fn := (nI_leI (a := 170) (b := fn) (by omega) (by omega)).mp c_1
    rw [if_pos c_1] at hE
    subst hE
    exact W.vret hx hb hr (fun t ht hW => ⟨rfl, by rw [ht]; exact hP, hD, hS.F ht⟩) hS.2.2 dX3_add_30
  · have c_1 : ¬ 170 ≤ fn := fun h9 => c_1 ((nI_leI (a := 170) (b := fn) (by omega) (by omega)).mpr h9)
    rw [if_neg c_1] at hE
    refine lv_aload_n hx hb dX3_add_10 rfl (lv_at hl 0 rfl) ?_
    refine va_get (D := D) (ci := 4) (v := .ref f1) (C := RX3) (T := TX3) (N := 2) hx hb hts iw_4 hown hK hP 0 rfl rfl 0 (by decide) (hts (.fieldLink RX3 11 "DepositCodes$Frauds" "places" "[I") (by decide +kernel)) (fun _ h9 => h9) rfl dX3_add_11 ?_
    refine lv_aload_n hx hb dX3_add_14 rfl (lv_at hl 0 rfl) ?_
    refine va_get (D := D) (ci := 4) (v := .int (nI fn)) (C := RX3) (T := TX3) (N := 2) hx hb hts iw_4 hown hK hP 0 rfl rfl 1 (by decide) (hts (.fieldLink RX3 15 "DepositCodes$Frauds" "size" "I") (by decide +kernel)) (fun _ h9 => h9) rfl dX3_add_15 ?_
    refine lv_iload_n hx hb dX3_add_18 rfl (lv_at hl 1 rfl) ?_
    refine na_iast hx hb hK hP hD hS 1 0 rfl rfl (by omega) (by decide) dX3_add_19 (fun H locs hP hD hS => ?_)
    have hP : va_P D vwCl [(qf, .inr (4, [.ref f1, .int (nI fn)])), (f1, .inl (cI, 170, .inl (upd fp fn mc)))] H := hP
    have hD : va_D A [(qf, .inr (4, [.ref f1, .int (nI fn)])), (f1, .inl (cI, 170, .inl (upd fp fn mc)))] := hD
    refine lv_aload_n hx hb dX3_add_20 rfl (lv_at hl 0 rfl) ?_
    refine lv_dup hx hb dX3_add_21 rfl ?_
    refine va_get (D := D) (ci := 4) (v := .int (nI fn)) (C := RX3) (T := TX3) (N := 2) hx hb hts iw_4 hown hK hP 0 rfl rfl 1 (by decide) (hts (.fieldLink RX3 15 "DepositCodes$Frauds" "size" "I") (by decide +kernel)) (fun _ h9 => h9) rfl dX3_add_22 ?_
    refine lv_iconst (v := 1) hx hb dX3_add_25 (by decide) ?_
    refine lv_iadd hx hb dX3_add_26 ?_
    refine na_top (show (nI fn) + 1 = nI (fn + 1) from nI_add fn 1) ?_
    refine va_put (D := D) (ci := 4) (v := .int (nI (fn + 1))) (ty := .int) (C := RX3) (T := TX3) (N := 2) hx hb hts iw_4 tyX3 tyX3_ok nmX3 hown hK hP hD hS 0 rfl rfl 1 (by decide) (hts (.fieldLink RX3 15 "DepositCodes$Frauds" "size" "I") (by decide +kernel)) (fun _ h9 => h9) rfl (by decide +kernel) rfl rfl (Nat.le_of_ble_eq_true rfl) dX3_add_27 (fun H locs hP hD hS => ?_)
    have hP : va_P D vwCl [(qf, .inr (4, [.ref f1, .int (nI (fn + 1))])), (f1, .inl (cI, 170, .inl (upd fp fn mc)))] H := hP
    have hD : va_D A [(qf, .inr (4, [.ref f1, .int (nI (fn + 1))])), (f1, .inl (cI, 170, .inl (upd fp fn mc)))] := hD
    subst hE
    exact W.vret hx hb hr (fun t ht hW => ⟨rfl, by rw [ht]; exact hP, hD, hS.F ht⟩) hS.2.2 dX3_add_30
def FX3_machineOf (fp : Nat → Int32) (fn : Nat) (k : Int32) : Int32 := if (FX8_isIndex k (nI fn)) = 0 then (-1) else fp k.toNatClampNeg
set_option maxHeartbeats 4000000 in
set_option maxRecDepth 100000 in
theorem kX3_machineOf (l : Launch) (D : va_G) (cI cJ cZ : ClassId) (qf : Nat) (f1 : Nat) (fp : Nat → Int32) (fn : Nat) (k : Int32) (hfn : fn ≤ 170) : Met l yX3_machineOf wsX3_machineOf ({ frames := 1, cells := 0, slots := 0, locals := 21 }) (rP D (tz cI cJ cZ) [.ref qf, .int k] [(qf, .inr (4, [.ref f1, .int (nI fn)])), (f1, .inl (cI, 170, .inl fp))]) (k2_QcV (.int (FX3_machineOf fp fn k))) 0 0 (fun _ => False) := by
  refine Met.ofW (cc := cX3_machineOf) (maxL := 2) (ret := (some .int)) (by decide) rfl ?_
  intro p e s m args below meth c s₁ B hml hv
  obtain ⟨rfl, hP, hK, hN⟩ := hv
  have hx := B.exec
  have hb := B.bytes
  have hr := B.returns
  have hts := atoms_spec (ws := wsX3_machineOf) B.pre
  have hown : s.vm.findClass RX3 = some m.cls := findClass_of_methodNamed B.named
  have hlocks := B.notSynchronized
  have iw_4 : ∀ w ∈ u_ws RX3 TX3 2, w ∈ wsX3_machineOf := by decide +kernel
  generalize hE : FX3_machineOf fp fn k = R0
  rw [FX3_machineOf] at hE
  have hl := lv_entry ([.ref qf, .int k]) (n := 2) (Nat.le_of_ble_eq_true rfl)
  rw [lg_entry_eq]
  generalize (lg_sl ([.ref qf, .int k]) ++ List.replicate (2 - (lg_sl ([.ref qf, .int k])).length) Slot.unset).toArray = ls at hl ⊢
  have hl : lv_has ls 2 [(0, .ref qf), (1, .int k)] := hl
  refine lv_iload_n hx hb dX3_machineOf_0 rfl (lv_at hl 1 rfl) ?_
  refine lv_aload_n hx hb dX3_machineOf_1 rfl (lv_at hl 0 rfl) ?_
  refine va_get (D := D) (ci := 4) (v := .int (nI fn)) (C := RX3) (T := TX3) (N := 2) hx hb hts iw_4 hown hK hP 0 rfl rfl 1 (by decide) (hts (.fieldLink RX3 15 "DepositCodes$Frauds" "size" "I") (by decide +kernel)) (fun _ h9 => h9) rfl dX3_machineOf_2 ?_
  refine rd_call (va_runSN (As := [.int k, .int (nI fn)]) (rest := []) ⟨hx, hb, hml, hown, hts⟩ (kX8_isIndex l D cI cJ cZ k (nI fn)) ⟨va_cnB 2 hts gX3_machineOf_X8_isIndex_n19 rfl rfl rfl hN.2.2.2.1 (hts (.initialized RX8) (by decide +kernel)) (by decide +kernel) ⟨Nat.le_of_ble_eq_true rfl, Nat.le_of_ble_eq_true rfl⟩, hts (.static yX8_isIndex) (by decide +kernel), trivial⟩ ⟨rP_blind, rP_pre (va_P_nil) hK hN⟩ rfl rfl hl.1 rfl (lv_room (Nat.le_of_ble_eq_true rfl)) dX3_machineOf_5 ⟨Nat.zero_le _, Nat.zero_le _⟩) ?_
  refine lv_if_eq (tgt := 20) hx hb dX3_machineOf_8 (by decide) (fun c_1 => ?_) (fun c_1 => ?_)
  · rw [if_pos c_1] at hE
    refine lv_iconst (v := (-1)) hx hb dX3_machineOf_20 (by decide) ?_
    exact W.iret hx hb hr (fun t ht hW => ⟨by rw [← hE], ht⟩) (fun q h => absurd h List.not_mem_nil) dX3_machineOf_21
  · rw [if_neg c_1] at hE
    have hin : vp_in k 170 := isIx_in (k := k) (n := fn) (by assumption) hfn (by decide)
    refine lv_aload_n hx hb dX3_machineOf_11 rfl (lv_at hl 0 rfl) ?_
    refine va_get (D := D) (ci := 4) (v := .ref f1) (C := RX3) (T := TX3) (N := 2) hx hb hts iw_4 hown hK hP 0 rfl rfl 0 (by decide) (hts (.fieldLink RX3 11 "DepositCodes$Frauds" "places" "[I") (by decide +kernel)) (fun _ h9 => h9) rfl dX3_machineOf_12 ?_
    refine lv_iload_n hx hb dX3_machineOf_15 rfl (lv_at hl 1 rfl) ?_
    refine va_iald hx hb hK hP 1 0 rfl rfl (by assumption) dX3_machineOf_16 ?_
    refine lv_goto (tgt := 21) hx hb dX3_machineOf_17 (by decide) ?_
    exact W.iret hx hb hr (fun t ht hW => ⟨by rw [← hE], ht⟩) (fun q h => absurd h List.not_mem_nil) dX3_machineOf_21
end
section
def FX0_widthAt (bw : Nat → Int32) (k : Int32) : Int32 := if (FX8_isIndex k 64) = 0 then 0 else bw k.toNatClampNeg
set_option maxHeartbeats 4000000 in
set_option maxRecDepth 100000 in
theorem kX0_widthAt (l : Launch) (D : va_G) (cI cJ cZ : ClassId) (qb : Nat) (b1 : Nat) (b2 : Nat) (bw : Nat → Int32) (bd : Nat → Int32) (bn : Nat) (k : Int32) : Met l yX0_widthAt wsX0_widthAt ({ frames := 1, cells := 0, slots := 0, locals := 21 }) (rP D (tz cI cJ cZ) [.ref qb, .int k] [(qb, .inr (1, [.ref b1, .ref b2, .int (nI bn)])), (b1, .inl (cI, 64, .inl bw)), (b2, .inl (cI, 14, .inl bd))]) (k2_QcV (.int (FX0_widthAt bw k))) 0 0 (fun _ => False) := by
  refine Met.ofW (cc := cX0_widthAt) (maxL := 2) (ret := (some .int)) (by decide) rfl ?_
  intro p e s m args below meth c s₁ B hml hv
  obtain ⟨rfl, hP, hK, hN⟩ := hv
  have hx := B.exec
  have hb := B.bytes
  have hr := B.returns
  have hts := atoms_spec (ws := wsX0_widthAt) B.pre
  have hown : s.vm.findClass RX0 = some m.cls := findClass_of_methodNamed B.named
  have hlocks := B.notSynchronized
  have iw_1 : ∀ w ∈ u_ws RX0 TX0 3, w ∈ wsX0_widthAt := by decide +kernel
  generalize hE : FX0_widthAt bw k = R0
  rw [FX0_widthAt] at hE
  have hl := lv_entry ([.ref qb, .int k]) (n := 2) (Nat.le_of_ble_eq_true rfl)
  rw [lg_entry_eq]
  generalize (lg_sl ([.ref qb, .int k]) ++ List.replicate (2 - (lg_sl ([.ref qb, .int k])).length) Slot.unset).toArray = ls at hl ⊢
  have hl : lv_has ls 2 [(0, .ref qb), (1, .int k)] := hl
  refine lv_iload_n hx hb dX0_widthAt_0 rfl (lv_at hl 1 rfl) ?_
  refine lv_bipush (v := 64) hx hb dX0_widthAt_1 (by decide) ?_
  refine rd_call (va_runSN (As := [.int k, .int 64]) (rest := []) ⟨hx, hb, hml, hown, hts⟩ (kX8_isIndex l D cI cJ cZ k 64) ⟨va_cnB 2 hts gX0_widthAt_X8_isIndex_n22 rfl rfl rfl hN.1 (hts (.initialized RX8) (by decide +kernel)) (by decide +kernel) ⟨Nat.le_of_ble_eq_true rfl, Nat.le_of_ble_eq_true rfl⟩, hts (.static yX8_isIndex) (by decide +kernel), trivial⟩ ⟨rP_blind, rP_pre (va_P_nil) hK hN⟩ rfl rfl hl.1 rfl (lv_room (Nat.le_of_ble_eq_true rfl)) dX0_widthAt_3 ⟨Nat.zero_le _, Nat.zero_le _⟩) ?_
  refine lv_if_eq (tgt := 18) hx hb dX0_widthAt_6 (by decide) (fun c_1 => ?_) (fun c_1 => ?_)
  · rw [if_pos c_1] at hE
    refine lv_iconst (v := 0) hx hb dX0_widthAt_18 (by decide) ?_
    exact W.iret hx hb hr (fun t ht hW => ⟨by rw [← hE], ht⟩) (fun q h => absurd h List.not_mem_nil) dX0_widthAt_19
  · rw [if_neg c_1] at hE
    have hin : vp_in k 64 := isIx_in (k := k) (n := 64) (by assumption) (by decide) (by decide)
    refine lv_aload_n hx hb dX0_widthAt_9 rfl (lv_at hl 0 rfl) ?_
    refine va_get (D := D) (ci := 1) (v := .ref b1) (C := RX0) (T := TX0) (N := 3) hx hb hts iw_1 hown hK hP 0 rfl rfl 0 (by decide) (hts (.fieldLink RX0 11 "DepositCodes$Bars" "widths" "[I") (by decide +kernel)) (fun _ h9 => h9) rfl dX0_widthAt_10 ?_
    refine lv_iload_n hx hb dX0_widthAt_13 rfl (lv_at hl 1 rfl) ?_
    refine va_iald hx hb hK hP 1 0 rfl rfl (by assumption) dX0_widthAt_14 ?_
    refine lv_goto (tgt := 19) hx hb dX0_widthAt_15 (by decide) ?_
    exact W.iret hx hb hr (fun t ht hW => ⟨by rw [← hE], ht⟩) (fun q h => absurd h List.not_mem_nil) dX0_widthAt_19
def FX0_setWidth (bw : Nat → Int32) (k : Int32) (w : Int32) : Int32 × (Nat → Int32) := if (FX8_isIndex k 64) = 0 then (0, bw) else (if w < 0 then (0, bw) else (if w ≤ 1000 then (1, upd bw k.toNatClampNeg w) else (0, bw)))
theorem FX0_setWidth_b (bw : Nat → Int32) (k : Int32) (w : Int32) : isB ((FX0_setWidth bw k w).1) := by
  unfold FX0_setWidth
  repeat' split
  all_goals first | exact isB_0 | exact isB_1
set_option maxHeartbeats 4000000 in
set_option maxRecDepth 100000 in
theorem kX0_setWidth (l : Launch) (D : va_G) (cI cJ cZ : ClassId) (qb : Nat) (b1 : Nat) (b2 : Nat) (bw : Nat → Int32) (bd : Nat → Int32) (bn : Nat) (k : Int32) (w : Int32) (sz : Nat) : Met l yX0_setWidth wsX0_setWidth ({ frames := 1, cells := 0, slots := 0, locals := 21 }) (mP D (tz cI cJ cZ) [.ref qb, .int k, .int w] sz [(qb, .inr (1, [.ref b1, .ref b2, .int (nI bn)])), (b1, .inl (cI, 64, .inl bw)), (b2, .inl (cI, 14, .inl bd))]) (mQ D (some (.int ((FX0_setWidth bw k w).1))) [(qb, .inr (1, [.ref b1, .ref b2, .int (nI bn)])), (b1, .inl (cI, 64, .inl ((FX0_setWidth bw k w).2))), (b2, .inl (cI, 14, .inl bd))] (va_A [(qb, .inr (1, [.ref b1, .ref b2, .int (nI bn)])), (b1, .inl (cI, 64, .inl bw)), (b2, .inl (cI, 14, .inl bd))] sz)) 0 0 (va_A [(qb, .inr (1, [.ref b1, .ref b2, .int (nI bn)])), (b1, .inl (cI, 64, .inl bw)), (b2, .inl (cI, 14, .inl bd))] sz) := by
  refine Met.ofW (cc := cX0_setWidth) (maxL := 3) (ret := (some .boolean)) (by decide) rfl ?_
  intro p e s m args below meth c s₁ B hml hv
  obtain ⟨rfl, hsz, hP, hK, hD0, hN⟩ := hv
  have hx := B.exec
  have hb := B.bytes
  have hr := B.returns
  have hts := atoms_spec (ws := wsX0_setWidth) B.pre
  have hown : s.vm.findClass RX0 = some m.cls := findClass_of_methodNamed B.named
  have hlocks := B.notSynchronized
  have iw_1 : ∀ w ∈ u_ws RX0 TX0 3, w ∈ wsX0_setWidth := by decide +kernel
  subst hsz
  have hD := hD0.self (sz := s.heap.size)
  generalize hE : FX0_setWidth bw k w = R0
  generalize hAe : va_A [(qb, .inr (1, [.ref b1, .ref b2, .int (nI bn)])), (b1, .inl (cI, 64, .inl bw)), (b2, .inl (cI, 14, .inl bd))] s.heap.size = A at hD ⊢
  have hA : ∀ q : Nat, s.heap.size ≤ q → A q := fun q h => by rw [← hAe]; exact Or.inr h
  have hS : va_S A s.heap s.heap [] := va_S.rf
  rw [FX0_setWidth] at hE
  have hl := lv_entry ([.ref qb, .int k, .int w]) (n := 3) (Nat.le_of_ble_eq_true rfl)
  rw [lg_entry_eq]
  generalize (lg_sl ([.ref qb, .int k, .int w]) ++ List.replicate (3 - (lg_sl ([.ref qb, .int k, .int w])).length) Slot.unset).toArray = ls at hl ⊢
  have hl : lv_has ls 3 [(0, .ref qb), (1, .int k), (2, .int w)] := hl
  refine lv_iload_n hx hb dX0_setWidth_0 rfl (lv_at hl 1 rfl) ?_
  refine lv_bipush (v := 64) hx hb dX0_setWidth_1 (by decide) ?_
  refine rd_call (va_runSN (As := [.int k, .int 64]) (rest := []) ⟨hx, hb, hml, hown, hts⟩ (kX8_isIndex l D cI cJ cZ k 64) ⟨va_cnB 2 hts gX0_setWidth_X8_isIndex_n22 rfl rfl rfl hN.1 (hts (.initialized RX8) (by decide +kernel)) (by decide +kernel) ⟨Nat.le_of_ble_eq_true rfl, Nat.le_of_ble_eq_true rfl⟩, hts (.static yX8_isIndex) (by decide +kernel), trivial⟩ ⟨rP_blind, rP_pre (va_P_nil) hK hN⟩ rfl rfl hl.1 rfl (lv_room (Nat.le_of_ble_eq_true rfl)) dX0_setWidth_3 ⟨Nat.zero_le _, Nat.zero_le _⟩) ?_
  refine lv_if_eq (tgt := 20) hx hb dX0_setWidth_6 (by decide) (fun c_1 => ?_) (fun c_1 => ?_)
  · rw [if_pos c_1] at hE
    refine lv_iconst (v := 0) hx hb dX0_setWidth_20 (by decide) ?_
    subst hE
    exact W.zret hx hb hr narrow_b0 (fun t ht hW => ⟨rfl, by rw [ht]; exact hP, hD, hS.F ht⟩) hS.2.2 dX0_setWidth_21
  · rw [if_neg c_1] at hE
    refine lv_iload_n hx hb dX0_setWidth_9 rfl (lv_at hl 2 rfl) ?_
    refine lv_if_lt (tgt := 20) hx hb dX0_setWidth_10 (by decide) (fun c_2 => ?_) (fun c_2 => ?_)
    · rw [if_pos c_2] at hE
      refine lv_iconst (v := 0) hx hb dX0_setWidth_20 (by decide) ?_
      subst hE
      exact W.zret hx hb hr narrow_b0 (fun t ht hW => ⟨rfl, by rw [ht]; exact hP, hD, hS.F ht⟩) hS.2.2 dX0_setWidth_21
    · rw [if_neg c_2] at hE
      refine lv_iload_n hx hb dX0_setWidth_13 rfl (lv_at hl 2 rfl) ?_
      refine lv_sipush (v := 1000) hx hb dX0_setWidth_14 (by decide) ?_
      refine lv_icmp_le (tgt := 22) hx hb dX0_setWidth_17 (by decide) (fun c_3 => ?_) (fun c_3 => ?_)
      · rw [if_pos c_3] at hE
        have hin : vp_in k 64 := isIx_in (k := k) (n := 64) (by assumption) (by decide) (by decide)
        refine lv_aload_n hx hb dX0_setWidth_22 rfl (lv_at hl 0 rfl) ?_
        refine va_get (D := D) (ci := 1) (v := .ref b1) (C := RX0) (T := TX0) (N := 3) hx hb hts iw_1 hown hK hP 0 rfl rfl 0 (by decide) (hts (.fieldLink RX0 11 "DepositCodes$Bars" "widths" "[I") (by decide +kernel)) (fun _ h9 => h9) rfl dX0_setWidth_23 ?_
        refine lv_iload_n hx hb dX0_setWidth_26 rfl (lv_at hl 1 rfl) ?_
        refine lv_iload_n hx hb dX0_setWidth_27 rfl (lv_at hl 2 rfl) ?_
        refine va_iast hx hb hK hP hD hS 1 0 rfl rfl (by assumption) dX0_setWidth_28 (fun H locs hP hD hS => ?_)
        have hP : va_P D vwCl [(qb, .inr (1, [.ref b1, .ref b2, .int (nI bn)])), (b1, .inl (cI, 64, .inl (upd bw k.toNatClampNeg w))), (b2, .inl (cI, 14, .inl bd))] H := hP
        have hD : va_D A [(qb, .inr (1, [.ref b1, .ref b2, .int (nI bn)])), (b1, .inl (cI, 64, .inl (upd bw k.toNatClampNeg w))), (b2, .inl (cI, 14, .inl bd))] := hD
        refine lv_iconst (v := 1) hx hb dX0_setWidth_29 (by decide) ?_
        subst hE
        exact W.zret hx hb hr narrow_b1 (fun t ht hW => ⟨rfl, by rw [ht]; exact hP, hD, hS.F ht⟩) hS.2.2 dX0_setWidth_30
      · rw [if_neg c_3] at hE
        refine lv_iconst (v := 0) hx hb dX0_setWidth_20 (by decide) ?_
        subst hE
        exact W.zret hx hb hr narrow_b0 (fun t ht hW => ⟨rfl, by rw [ht]; exact hP, hD, hS.F ht⟩) hS.2.2 dX0_setWidth_21
def FX0_digitAt (bd : Nat → Int32) (bn : Nat) (k : Int32) : Int32 := if (FX8_isIndex k (nI bn)) = 0 then (-1) else bd k.toNatClampNeg
set_option maxHeartbeats 4000000 in
set_option maxRecDepth 100000 in
theorem kX0_digitAt (l : Launch) (D : va_G) (cI cJ cZ : ClassId) (qb : Nat) (b1 : Nat) (b2 : Nat) (bw : Nat → Int32) (bd : Nat → Int32) (bn : Nat) (k : Int32) (hbn : bn ≤ 14) : Met l yX0_digitAt wsX0_digitAt ({ frames := 1, cells := 0, slots := 0, locals := 21 }) (rP D (tz cI cJ cZ) [.ref qb, .int k] [(qb, .inr (1, [.ref b1, .ref b2, .int (nI bn)])), (b1, .inl (cI, 64, .inl bw)), (b2, .inl (cI, 14, .inl bd))]) (k2_QcV (.int (FX0_digitAt bd bn k))) 0 0 (fun _ => False) := by
  refine Met.ofW (cc := cX0_digitAt) (maxL := 2) (ret := (some .int)) (by decide) rfl ?_
  intro p e s m args below meth c s₁ B hml hv
  obtain ⟨rfl, hP, hK, hN⟩ := hv
  have hx := B.exec
  have hb := B.bytes
  have hr := B.returns
  have hts := atoms_spec (ws := wsX0_digitAt) B.pre
  have hown : s.vm.findClass RX0 = some m.cls := findClass_of_methodNamed B.named
  have hlocks := B.notSynchronized
  have iw_1 : ∀ w ∈ u_ws RX0 TX0 3, w ∈ wsX0_digitAt := by decide +kernel
  generalize hE : FX0_digitAt bd bn k = R0
  rw [FX0_digitAt] at hE
  have hl := lv_entry ([.ref qb, .int k]) (n := 2) (Nat.le_of_ble_eq_true rfl)
  rw [lg_entry_eq]
  generalize (lg_sl ([.ref qb, .int k]) ++ List.replicate (2 - (lg_sl ([.ref qb, .int k])).length) Slot.unset).toArray = ls at hl ⊢
  have hl : lv_has ls 2 [(0, .ref qb), (1, .int k)] := hl
  refine lv_iload_n hx hb dX0_digitAt_0 rfl (lv_at hl 1 rfl) ?_
  refine lv_aload_n hx hb dX0_digitAt_1 rfl (lv_at hl 0 rfl) ?_
  refine va_get (D := D) (ci := 1) (v := .int (nI bn)) (C := RX0) (T := TX0) (N := 3) hx hb hts iw_1 hown hK hP 0 rfl rfl 2 (by decide) (hts (.fieldLink RX0 18 "DepositCodes$Bars" "digitCount" "I") (by decide +kernel)) (fun _ h9 => h9) rfl dX0_digitAt_2 ?_
  refine rd_call (va_runSN (As := [.int k, .int (nI bn)]) (rest := []) ⟨hx, hb, hml, hown, hts⟩ (kX8_isIndex l D cI cJ cZ k (nI bn)) ⟨va_cnB 2 hts gX0_digitAt_X8_isIndex_n22 rfl rfl rfl hN.1 (hts (.initialized RX8) (by decide +kernel)) (by decide +kernel) ⟨Nat.le_of_ble_eq_true rfl, Nat.le_of_ble_eq_true rfl⟩, hts (.static yX8_isIndex) (by decide +kernel), trivial⟩ ⟨rP_blind, rP_pre (va_P_nil) hK hN⟩ rfl rfl hl.1 rfl (lv_room (Nat.le_of_ble_eq_true rfl)) dX0_digitAt_5 ⟨Nat.zero_le _, Nat.zero_le _⟩) ?_
  refine lv_if_eq (tgt := 20) hx hb dX0_digitAt_8 (by decide) (fun c_1 => ?_) (fun c_1 => ?_)
  · rw [if_pos c_1] at hE
    refine lv_iconst (v := (-1)) hx hb dX0_digitAt_20 (by decide) ?_
    exact W.iret hx hb hr (fun t ht hW => ⟨by rw [← hE], ht⟩) (fun q h => absurd h List.not_mem_nil) dX0_digitAt_21
  · rw [if_neg c_1] at hE
    have hin : vp_in k 14 := isIx_in (k := k) (n := bn) (by assumption) hbn (by decide)
    refine lv_aload_n hx hb dX0_digitAt_11 rfl (lv_at hl 0 rfl) ?_
    refine va_get (D := D) (ci := 1) (v := .ref b2) (C := RX0) (T := TX0) (N := 3) hx hb hts iw_1 hown hK hP 0 rfl rfl 1 (by decide) (hts (.fieldLink RX0 15 "DepositCodes$Bars" "digits" "[I") (by decide +kernel)) (fun _ h9 => h9) rfl dX0_digitAt_12 ?_
    refine lv_iload_n hx hb dX0_digitAt_15 rfl (lv_at hl 1 rfl) ?_
    refine va_iald hx hb hK hP 2 0 rfl rfl (by assumption) dX0_digitAt_16 ?_
    refine lv_goto (tgt := 21) hx hb dX0_digitAt_17 (by decide) ?_
    exact W.iret hx hb hr (fun t ht hW => ⟨by rw [← hE], ht⟩) (fun q h => absurd h List.not_mem_nil) dX0_digitAt_21
def FX0_rowLength_l2 (bw : Nat → Int32) : Nat → Nat → Nat
  | 0, _ => 0
  | n + 1, k => if 64 ≤ k then k else (if (bw k) = 0 then k else FX0_rowLength_l2 bw n (k + 1))
def FX0_rowLength (bw : Nat → Int32) : Nat := FX0_rowLength_l2 bw 65 0
set_option maxHeartbeats 4000000 in
set_option maxRecDepth 100000 in
theorem kX0_rowLength (l : Launch) (D : va_G) (cI cJ cZ : ClassId) (qb : Nat) (b1 : Nat) (b2 : Nat) (bw : Nat → Int32) (bd : Nat → Int32) (bn : Nat) : Met l yX0_rowLength wsX0_rowLength ({ frames := 0, cells := 0, slots := 0, locals := 0 }) (rP D (tz cI cJ cZ) [.ref qb] [(qb, .inr (1, [.ref b1, .ref b2, .int (nI bn)])), (b1, .inl (cI, 64, .inl bw)), (b2, .inl (cI, 14, .inl bd))]) (k2_QcV (.int (nI (FX0_rowLength bw)))) 0 0 (fun _ => False) := by
  refine Met.ofW (cc := cX0_rowLength) (maxL := 2) (ret := (some .int)) (by decide) rfl ?_
  intro p e s m args below meth c s₁ B hml hv
  obtain ⟨rfl, hP, hK, hN⟩ := hv
  have hx := B.exec
  have hb := B.bytes
  have hr := B.returns
  have hts := atoms_spec (ws := wsX0_rowLength) B.pre
  have hown : s.vm.findClass RX0 = some m.cls := findClass_of_methodNamed B.named
  have hlocks := B.notSynchronized
  have iw_1 : ∀ w ∈ u_ws RX0 TX0 3, w ∈ wsX0_rowLength := by decide +kernel
  generalize hE : FX0_rowLength bw = R0
  rw [FX0_rowLength] at hE
  have hl := lv_entry ([.ref qb]) (n := 2) (Nat.le_of_ble_eq_true rfl)
  rw [lg_entry_eq]
  generalize (lg_sl ([.ref qb]) ++ List.replicate (2 - (lg_sl ([.ref qb])).length) Slot.unset).toArray = ls at hl ⊢
  have hl : lv_has ls 2 [(0, .ref qb)] := hl
  have loop_2 : ∀ (n : Nat) (k : Nat), k ≤ 64 → k + n = 65 → FX0_rowLength_l2 bw n k = R0 → ∀ ls : Array Slot, lv_has ls 2 [(1, .int (nI k)), (0, .ref qb)] → W p l e (headSpec wsX0_rowLength ({ frames := 0, cells := 0, slots := 0, locals := 0 })).room s m ([.ref qb] : List Value).toArray below meth c s.heap [] 0 0 (MQ below (k2_QcV (.int (nI R0))) ([.ref qb] : List Value).toArray s 0 0 (fun _ => False)) (F0 m 2 ls []) := by
    intro n
    induction n with
    | zero =>
      intro k i_1 i_2
      exact absurd i_1 (by omega)
    | succ n ih =>
      intro k i_1 i_2 hE ls hl
      rw [FX0_rowLength_l2] at hE
      refine lv_iload_n hx hb dX0_rowLength_2 rfl (lv_at hl 0 rfl) ?_
      refine lv_bipush (v := 64) hx hb dX0_rowLength_3 (by decide) ?_
      refine lv_icmp_ge (tgt := 23) hx hb dX0_rowLength_5 (by decide) (fun c_1 => ?_) (fun c_1 => ?_)
      · have c_1 : 64 ≤ k := (nI_leI (a := 64) (b := k) (by omega) (by omega)).mp c_1
        rw [if_pos c_1] at hE
        refine lv_iload_n hx hb dX0_rowLength_23 rfl (lv_at hl 0 rfl) ?_
        exact W.iret (v := nI k) hx hb hr (fun t ht hW => ⟨by rw [← hE], ht⟩) (fun q h => absurd h List.not_mem_nil) dX0_rowLength_24
      · have c_1 : ¬ 64 ≤ k := fun h9 => c_1 ((nI_leI (a := 64) (b := k) (by omega) (by omega)).mpr h9)
        rw [if_neg c_1] at hE
        refine lv_aload_n hx hb dX0_rowLength_8 rfl (lv_at hl 1 rfl) ?_
        refine va_get (D := D) (ci := 1) (v := .ref b1) (C := RX0) (T := TX0) (N := 3) hx hb hts iw_1 hown hK hP 0 rfl rfl 0 (by decide) (hts (.fieldLink RX0 11 "DepositCodes$Bars" "widths" "[I") (by decide +kernel)) (fun _ h9 => h9) rfl dX0_rowLength_9 ?_
        refine lv_iload_n hx hb dX0_rowLength_12 rfl (lv_at hl 0 rfl) ?_
        refine na_iald hx hb hK hP 1 0 rfl rfl (by omega) (by decide) dX0_rowLength_13 ?_
        refine lv_if_eq (tgt := 23) hx hb dX0_rowLength_14 (by decide) (fun c_2 => ?_) (fun c_2 => ?_)
        · rw [if_pos c_2] at hE
          refine lv_iload_n hx hb dX0_rowLength_23 rfl (lv_at hl 0 rfl) ?_
          exact W.iret (v := nI k) hx hb hr (fun t ht hW => ⟨by rw [← hE], ht⟩) (fun q h => absurd h List.not_mem_nil) dX0_rowLength_24
        · rw [if_neg c_2] at hE
          refine lv_iinc (v := nI (k + 1)) (lv' := [(1, .int (nI (k + 1))), (0, .ref qb)]) hx hb dX0_rowLength_17 hl (k := 0) rfl (nI_1 k) (by decide) rfl (fun ls hl => ?_)
          refine lv_goto (tgt := 2) hx hb dX0_rowLength_20 (by decide) ?_
          exact ih (k + 1) (by omega) (by omega) hE ls (lv_sub hl [0, 1] rfl)
  refine lv_iconst (v := 0) hx hb dX0_rowLength_0 (by decide) ?_
  refine lv_istore_n (lv' := [(1, .int 0), (0, .ref qb)]) hx hb dX0_rowLength_1 rfl hl (by decide) rfl (fun ls hl => ?_)
  exact loop_2 65 0 (by omega) (by omega) hE ls (lv_sub hl [0, 1] rfl)
theorem FX0_rowLength_l2_le (bw : Nat → Int32) (n : Nat) : ∀ k : Nat, k ≤ 64 → k + n = 65 → FX0_rowLength_l2 bw n k ≤ 64 := by
  induction n with
  | zero => intro k h1 h2; omega
  | succ n ih =>
    intro k h1 h2
    rw [FX0_rowLength_l2]
    split
    · exact h1
    · split
      · exact h1
      · exact ih _ (by omega) (by omega)
theorem FX0_rowLength_le (bw : Nat → Int32) : FX0_rowLength bw ≤ 64 := FX0_rowLength_l2_le bw 65 0 (by omega) (by omega)
theorem sub_toInt {a b : Nat} (ha : a < 2 ^ 30) (hb : b < 2 ^ 30) : (nI a - nI b).toInt = (a : Int) - b := pk_sub_toInt ha hb
theorem ln_10 {ln : Nat} (h : ln ≤ 64) (hc : ¬ nI ln - 6 < 4) : 10 ≤ ln := by
  rw [Int32.lt_iff_toInt_lt, show (6 : Int32) = nI 6 from rfl, pk_sub_toInt (by omega) (by omega)] at hc
  have : (4 : Int32).toInt = 4 := rfl
  omega
def FX0_isEdge (bw : Nat → Int32) (k : Int32) : Int32 := if (FX0_widthAt bw k) = (FX0_widthAt bw (k + 1)) then (if (FX0_widthAt bw k) = (FX0_widthAt bw (k + 2)) then 1 else 0) else 0
theorem FX0_isEdge_b (bw : Nat → Int32) (k : Int32) : isB (FX0_isEdge bw k) := by
  unfold FX0_isEdge
  repeat' split
  all_goals first | exact isB_0 | exact isB_1
set_option maxHeartbeats 4000000 in
set_option maxRecDepth 100000 in
theorem kX0_isEdge (l : Launch) (D : va_G) (cI cJ cZ : ClassId) (qb : Nat) (b1 : Nat) (b2 : Nat) (bw : Nat → Int32) (bd : Nat → Int32) (bn : Nat) (k : Int32) : Met l yX0_isEdge wsX0_isEdge ({ frames := 2, cells := 0, slots := 0, locals := 42 }) (rP D (tz cI cJ cZ) [.ref qb, .int k] [(qb, .inr (1, [.ref b1, .ref b2, .int (nI bn)])), (b1, .inl (cI, 64, .inl bw)), (b2, .inl (cI, 14, .inl bd))]) (k2_QcV (.int (FX0_isEdge bw k))) 0 0 (fun _ => False) := by
  refine Met.ofW (cc := cX0_isEdge) (maxL := 3) (ret := (some .boolean)) (by decide) rfl ?_
  intro p e s m args below meth c s₁ B hml hv
  obtain ⟨rfl, hP, hK, hN⟩ := hv
  have hx := B.exec
  have hb := B.bytes
  have hr := B.returns
  have hts := atoms_spec (ws := wsX0_isEdge) B.pre
  have hown : s.vm.findClass RX0 = some m.cls := findClass_of_methodNamed B.named
  have hlocks := B.notSynchronized
  generalize hE : FX0_isEdge bw k = R0
  rw [FX0_isEdge] at hE
  have hl := lv_entry ([.ref qb, .int k]) (n := 3) (Nat.le_of_ble_eq_true rfl)
  rw [lg_entry_eq]
  generalize (lg_sl ([.ref qb, .int k]) ++ List.replicate (3 - (lg_sl ([.ref qb, .int k])).length) Slot.unset).toArray = ls at hl ⊢
  have hl : lv_has ls 3 [(0, .ref qb), (1, .int k)] := hl
  refine lv_aload_n hx hb dX0_isEdge_0 rfl (lv_at hl 0 rfl) ?_
  refine lv_iload_n hx hb dX0_isEdge_1 rfl (lv_at hl 1 rfl) ?_
  refine rd_call (va_runV (As := [.int k]) (rest := []) ⟨hx, hb, hml, hown, hts⟩ (kX0_widthAt l D cI cJ cZ qb b1 b2 bw bd bn k) (cwV 1 hts gX0_isEdge_X0_widthAt rfl rfl rfl (by decide +kernel) ⟨Nat.le_of_ble_eq_true rfl, Nat.le_of_ble_eq_true rfl⟩) ⟨rP_blind, va_recv hK hP (ci := 1) (q0 := 0) rfl rfl, rP_pre (hP.sub [0, 1, 2] rfl) hK hN⟩ rfl rfl hl.1 rfl (lv_room (Nat.le_of_ble_eq_true rfl)) dX0_isEdge_2 ⟨Nat.zero_le _, Nat.zero_le _⟩) ?_
  refine lv_istore_n (lv' := [(2, .int (FX0_widthAt bw k)), (0, .ref qb), (1, .int k)]) hx hb dX0_isEdge_5 rfl hl (by decide) rfl (fun ls hl => ?_)
  refine lv_iload_n hx hb dX0_isEdge_6 rfl (lv_at hl 0 rfl) ?_
  refine lv_aload_n hx hb dX0_isEdge_7 rfl (lv_at hl 1 rfl) ?_
  refine lv_iload_n hx hb dX0_isEdge_8 rfl (lv_at hl 2 rfl) ?_
  refine lv_iconst (v := 1) hx hb dX0_isEdge_9 (by decide) ?_
  refine lv_iadd hx hb dX0_isEdge_10 ?_
  refine rd_call (va_runV (As := [.int (k + 1)]) (rest := [.int (FX0_widthAt bw k)]) ⟨hx, hb, hml, hown, hts⟩ (kX0_widthAt l D cI cJ cZ qb b1 b2 bw bd bn (k + 1)) (cwV 1 hts gX0_isEdge_X0_widthAt rfl rfl rfl (by decide +kernel) ⟨Nat.le_of_ble_eq_true rfl, Nat.le_of_ble_eq_true rfl⟩) ⟨rP_blind, va_recv hK hP (ci := 1) (q0 := 0) rfl rfl, rP_pre (hP.sub [0, 1, 2] rfl) hK hN⟩ rfl rfl hl.1 rfl (lv_room (Nat.le_of_ble_eq_true rfl)) dX0_isEdge_11 ⟨Nat.zero_le _, Nat.zero_le _⟩) ?_
  refine lv_icmp_ne (tgt := 32) hx hb dX0_isEdge_14 (by decide) (fun c_1 => ?_) (fun c_1 => ?_)
  · rw [if_neg c_1] at hE
    refine lv_iconst (v := 0) hx hb dX0_isEdge_32 (by decide) ?_
    exact W.zret hx hb hr narrow_b0 (fun t ht hW => ⟨by rw [← hE], ht⟩) (fun q h => absurd h List.not_mem_nil) dX0_isEdge_33
  · rw [if_pos c_1] at hE
    refine lv_iload_n hx hb dX0_isEdge_17 rfl (lv_at hl 0 rfl) ?_
    refine lv_aload_n hx hb dX0_isEdge_18 rfl (lv_at hl 1 rfl) ?_
    refine lv_iload_n hx hb dX0_isEdge_19 rfl (lv_at hl 2 rfl) ?_
    refine lv_iconst (v := 2) hx hb dX0_isEdge_20 (by decide) ?_
    refine lv_iadd hx hb dX0_isEdge_21 ?_
    refine rd_call (va_runV (As := [.int (k + 2)]) (rest := [.int (FX0_widthAt bw k)]) ⟨hx, hb, hml, hown, hts⟩ (kX0_widthAt l D cI cJ cZ qb b1 b2 bw bd bn (k + 2)) (cwV 1 hts gX0_isEdge_X0_widthAt rfl rfl rfl (by decide +kernel) ⟨Nat.le_of_ble_eq_true rfl, Nat.le_of_ble_eq_true rfl⟩) ⟨rP_blind, va_recv hK hP (ci := 1) (q0 := 0) rfl rfl, rP_pre (hP.sub [0, 1, 2] rfl) hK hN⟩ rfl rfl hl.1 rfl (lv_room (Nat.le_of_ble_eq_true rfl)) dX0_isEdge_22 ⟨Nat.zero_le _, Nat.zero_le _⟩) ?_
    refine lv_icmp_ne (tgt := 32) hx hb dX0_isEdge_25 (by decide) (fun c_2 => ?_) (fun c_2 => ?_)
    · rw [if_neg c_2] at hE
      refine lv_iconst (v := 0) hx hb dX0_isEdge_32 (by decide) ?_
      exact W.zret hx hb hr narrow_b0 (fun t ht hW => ⟨by rw [← hE], ht⟩) (fun q h => absurd h List.not_mem_nil) dX0_isEdge_33
    · rw [if_pos c_2] at hE
      refine lv_iconst (v := 1) hx hb dX0_isEdge_28 (by decide) ?_
      refine lv_goto (tgt := 33) hx hb dX0_isEdge_29 (by decide) ?_
      exact W.zret hx hb hr narrow_b1 (fun t ht hW => ⟨by rw [← hE], ht⟩) (fun q h => absurd h List.not_mem_nil) dX0_isEdge_33
def FX0_matches_l66 (bw : Nat → Int32) (d : Nat) : Nat → Nat → Int32 → Int32 → Int32 → Int32
  | 0, _, _, _, _ => 0
  | n + 1, k, sm, sp, fr => if 4 ≤ k then 1 else (if (7 * (FX0_widthAt bw (fr + ((nI k) * sp)))) = (sm * (patF ((d * 4) + k))) then FX0_matches_l66 bw d n (k + 1) sm sp fr else 0)
def FX0_matches_l34 (bw : Nat → Int32) (d : Nat) : Nat → Nat → Int32 → Int32 → Int32 → Int32
  | 0, _, _, _, _ => 0
  | n + 1, k, sm, sp, fr => if 4 ≤ k then FX0_matches_l66 bw d 5 0 sm sp fr else FX0_matches_l34 bw d n (k + 1) (sm + (FX0_widthAt bw (fr + ((nI k) * sp)))) sp fr
def FX0_matches (bw : Nat → Int32) (d : Nat) (sa : Int32) (ln : Int32) (rv : Int32) : Int32 := if rv = 0 then (if rv = 0 then FX0_matches_l34 bw d 5 0 0 1 sa else FX0_matches_l34 bw d 5 0 0 1 ((ln - 1) - sa)) else (if rv = 0 then FX0_matches_l34 bw d 5 0 0 (-1) sa else FX0_matches_l34 bw d 5 0 0 (-1) ((ln - 1) - sa))
set_option maxHeartbeats 4000000 in
set_option maxRecDepth 100000 in
theorem kX0_matches (l : Launch) (D : va_G) (cI cJ cZ : ClassId) (qb : Nat) (b1 : Nat) (b2 : Nat) (bw : Nat → Int32) (bd : Nat → Int32) (bn : Nat) (d : Nat) (sa : Int32) (ln : Int32) (rv : Int32) (hd : d < 10) : Met l yX0_matches wsX0_matches ({ frames := 2, cells := 0, slots := 0, locals := 42 }) (rPz D (tz cI cJ cZ) [.ref qb, .int (nI d), .int sa, .int ln, .int rv] [(qb, .inr (1, [.ref b1, .ref b2, .int (nI bn)])), (b1, .inl (cI, 64, .inl bw)), (b2, .inl (cI, 14, .inl bd))]) (k2_QcV (.int (FX0_matches bw d sa ln rv))) 0 0 (fun _ => False) := by
  refine Met.ofW (cc := cX0_matches) (maxL := 9) (ret := (some .boolean)) (by decide) rfl ?_
  intro p e s m args below meth c s₁ B hml hv
  obtain ⟨⟨rfl, hP, hK, hN⟩, hZP⟩ := hv
  have hx := B.exec
  have hb := B.bytes
  have hr := B.returns
  have hts := atoms_spec (ws := wsX0_matches) B.pre
  have hown : s.vm.findClass RX0 = some m.cls := findClass_of_methodNamed B.named
  have hlocks := B.notSynchronized
  generalize hE : FX0_matches bw d sa ln rv = R0
  have hS0 : va_S (fun _ => False) s.heap s.heap [] := va_S.rf
  obtain ⟨tPAT, hZ, hT⟩ := id hZP
  rw [FX0_matches] at hE
  have hl := lv_entry ([.ref qb, .int (nI d), .int sa, .int ln, .int rv]) (n := 9) (Nat.le_of_ble_eq_true rfl)
  rw [lg_entry_eq]
  generalize (lg_sl ([.ref qb, .int (nI d), .int sa, .int ln, .int rv]) ++ List.replicate (9 - (lg_sl ([.ref qb, .int (nI d), .int sa, .int ln, .int rv])).length) Slot.unset).toArray = ls at hl ⊢
  have hl : lv_has ls 9 [(0, .ref qb), (1, .int (nI d)), (2, .int sa), (3, .int ln), (4, .int rv)] := hl
  have loop_66 : ∀ (n : Nat) (k : Nat) (sm : Int32) (sp : Int32) (fr : Int32), k ≤ 4 → k + n = 5 → FX0_matches_l66 bw d n k sm sp fr = R0 → ∀ ls : Array Slot, lv_has ls 9 [(8, .int (nI k)), (7, .int sm), (6, .int fr), (5, .int sp), (0, .ref qb), (1, .int (nI d)), (2, .int sa), (3, .int ln), (4, .int rv)] → W p l e (headSpec wsX0_matches ({ frames := 2, cells := 0, slots := 0, locals := 42 })).room s m ([.ref qb, .int (nI d), .int sa, .int ln, .int rv] : List Value).toArray below meth c s.heap [] 0 0 (MQ below (k2_QcV (.int R0)) ([.ref qb, .int (nI d), .int sa, .int ln, .int rv] : List Value).toArray s 0 0 (fun _ => False)) (F0 m 66 ls []) := by
    intro n
    induction n with
    | zero =>
      intro k sm sp fr i_1 i_2
      exact absurd i_1 (by omega)
    | succ n ih =>
      intro k sm sp fr i_1 i_2 hE ls hl
      rw [FX0_matches_l66] at hE
      refine lv_iload hx hb dX0_matches_66 (lv_at hl 0 rfl) ?_
      refine lv_iconst (v := 4) hx hb dX0_matches_68 (by decide) ?_
      refine lv_icmp_ge (tgt := 111) hx hb dX0_matches_69 (by decide) (fun c_5 => ?_) (fun c_5 => ?_)
      · have c_5 : 4 ≤ k := (nI_leI (a := 4) (b := k) (by omega) (by omega)).mp c_5
        rw [if_pos c_5] at hE
        refine lv_iconst (v := 1) hx hb dX0_matches_111 (by decide) ?_
        exact W.zret hx hb hr narrow_b1 (fun t ht hW => ⟨by rw [← hE], ht⟩) (fun q h => absurd h List.not_mem_nil) dX0_matches_112
      · have c_5 : ¬ 4 ≤ k := fun h9 => c_5 ((nI_leI (a := 4) (b := k) (by omega) (by omega)).mpr h9)
        rw [if_neg c_5] at hE
        refine lv_bipush (v := 7) hx hb dX0_matches_72 (by decide) ?_
        refine lv_aload_n hx hb dX0_matches_74 rfl (lv_at hl 4 rfl) ?_
        refine lv_iload hx hb dX0_matches_75 (lv_at hl 2 rfl) ?_
        refine lv_iload hx hb dX0_matches_77 (lv_at hl 0 rfl) ?_
        refine lv_iload hx hb dX0_matches_79 (lv_at hl 3 rfl) ?_
        refine lv_imul hx hb dX0_matches_81 ?_
        refine lv_iadd hx hb dX0_matches_82 ?_
        refine rd_call (va_runV (As := [.int (fr + ((nI k) * sp))]) (rest := [.int 7]) ⟨hx, hb, hml, hown, hts⟩ (kX0_widthAt l D cI cJ cZ qb b1 b2 bw bd bn (fr + ((nI k) * sp))) (cwV 1 hts gX0_matches_X0_widthAt rfl rfl rfl (by decide +kernel) ⟨Nat.le_of_ble_eq_true rfl, Nat.le_of_ble_eq_true rfl⟩) ⟨rP_blind, va_recv hK hP (ci := 1) (q0 := 0) rfl rfl, rP_pre (hP.sub [0, 1, 2] rfl) hK hN⟩ rfl rfl hl.1 rfl (lv_room (Nat.le_of_ble_eq_true rfl)) dX0_matches_83 ⟨Nat.zero_le _, Nat.zero_le _⟩) ?_
        refine lv_imul hx hb dX0_matches_86 ?_
        refine lv_iload hx hb dX0_matches_87 (lv_at hl 1 rfl) ?_
        refine va_gets hx hb hZ hS0 hown (hts (.fieldLink RX0 50 "DepositCodes$Bars" "PATTERNS" "[I") (by decide +kernel)) (fun _ h9 => h9) dX0_matches_89 ?_
        refine lv_iload_n hx hb dX0_matches_92 rfl (lv_at hl 5 rfl) ?_
        refine lv_iconst (v := 4) hx hb dX0_matches_93 (by decide) ?_
        refine lv_imul hx hb dX0_matches_94 ?_
        refine na_top (show (nI d) * 4 = nI (d * 4) from pk_mul d 4) ?_
        refine lv_iload hx hb dX0_matches_95 (lv_at hl 0 rfl) ?_
        refine lv_iadd hx hb dX0_matches_97 ?_
        refine na_top (show (nI (d * 4)) + (nI k) = nI ((d * 4) + k) from nI_add (d * 4) k) ?_
        refine na_ti hx hb hT hS0 (by omega) (by decide) rfl dX0_matches_98 ?_
        refine lv_imul hx hb dX0_matches_99 ?_
        refine lv_icmp_eq (tgt := 105) hx hb dX0_matches_100 (by decide) (fun c_6 => ?_) (fun c_6 => ?_)
        · rw [if_pos c_6] at hE
          refine lv_iinc (v := nI (k + 1)) (lv' := [(8, .int (nI (k + 1))), (7, .int sm), (6, .int fr), (5, .int sp), (0, .ref qb), (1, .int (nI d)), (2, .int sa), (3, .int ln), (4, .int rv)]) hx hb dX0_matches_105 hl (k := 0) rfl (nI_1 k) (by decide) rfl (fun ls hl => ?_)
          refine lv_goto (tgt := 66) hx hb dX0_matches_108 (by decide) ?_
          exact ih (k + 1) sm sp fr (by omega) (by omega) hE ls (lv_sub hl [0, 1, 2, 3, 4, 5, 6, 7, 8] rfl)
        · rw [if_neg c_6] at hE
          refine lv_iconst (v := 0) hx hb dX0_matches_103 (by decide) ?_
          exact W.zret hx hb hr narrow_b0 (fun t ht hW => ⟨by rw [← hE], ht⟩) (fun q h => absurd h List.not_mem_nil) dX0_matches_104
  have loop_34 : ∀ (n : Nat) (k : Nat) (sm : Int32) (sp : Int32) (fr : Int32), k ≤ 4 → k + n = 5 → FX0_matches_l34 bw d n k sm sp fr = R0 → ∀ ls : Array Slot, lv_has ls 9 [(8, .int (nI k)), (7, .int sm), (6, .int fr), (5, .int sp), (0, .ref qb), (1, .int (nI d)), (2, .int sa), (3, .int ln), (4, .int rv)] → W p l e (headSpec wsX0_matches ({ frames := 2, cells := 0, slots := 0, locals := 42 })).room s m ([.ref qb, .int (nI d), .int sa, .int ln, .int rv] : List Value).toArray below meth c s.heap [] 0 0 (MQ below (k2_QcV (.int R0)) ([.ref qb, .int (nI d), .int sa, .int ln, .int rv] : List Value).toArray s 0 0 (fun _ => False)) (F0 m 34 ls []) := by
    intro n
    induction n with
    | zero =>
      intro k sm sp fr i_1 i_2
      exact absurd i_1 (by omega)
    | succ n ih =>
      intro k sm sp fr i_1 i_2 hE ls hl
      rw [FX0_matches_l34] at hE
      refine lv_iload hx hb dX0_matches_34 (lv_at hl 0 rfl) ?_
      refine lv_iconst (v := 4) hx hb dX0_matches_36 (by decide) ?_
      refine lv_icmp_ge (tgt := 63) hx hb dX0_matches_37 (by decide) (fun c_4 => ?_) (fun c_4 => ?_)
      · have c_4 : 4 ≤ k := (nI_leI (a := 4) (b := k) (by omega) (by omega)).mp c_4
        rw [if_pos c_4] at hE
        refine lv_iconst (v := 0) hx hb dX0_matches_63 (by decide) ?_
        refine lv_istore (lv' := [(8, .int 0), (7, .int sm), (6, .int fr), (5, .int sp), (0, .ref qb), (1, .int (nI d)), (2, .int sa), (3, .int ln), (4, .int rv)]) hx hb dX0_matches_64 hl (by decide) rfl (fun ls hl => ?_)
        exact loop_66 5 0 sm sp fr (by omega) (by omega) hE ls (lv_sub hl [0, 1, 2, 3, 4, 5, 6, 7, 8] rfl)
      · have c_4 : ¬ 4 ≤ k := fun h9 => c_4 ((nI_leI (a := 4) (b := k) (by omega) (by omega)).mpr h9)
        rw [if_neg c_4] at hE
        refine lv_iload hx hb dX0_matches_40 (lv_at hl 1 rfl) ?_
        refine lv_aload_n hx hb dX0_matches_42 rfl (lv_at hl 4 rfl) ?_
        refine lv_iload hx hb dX0_matches_43 (lv_at hl 2 rfl) ?_
        refine lv_iload hx hb dX0_matches_45 (lv_at hl 0 rfl) ?_
        refine lv_iload hx hb dX0_matches_47 (lv_at hl 3 rfl) ?_
        refine lv_imul hx hb dX0_matches_49 ?_
        refine lv_iadd hx hb dX0_matches_50 ?_
        refine rd_call (va_runV (As := [.int (fr + ((nI k) * sp))]) (rest := [.int sm]) ⟨hx, hb, hml, hown, hts⟩ (kX0_widthAt l D cI cJ cZ qb b1 b2 bw bd bn (fr + ((nI k) * sp))) (cwV 1 hts gX0_matches_X0_widthAt rfl rfl rfl (by decide +kernel) ⟨Nat.le_of_ble_eq_true rfl, Nat.le_of_ble_eq_true rfl⟩) ⟨rP_blind, va_recv hK hP (ci := 1) (q0 := 0) rfl rfl, rP_pre (hP.sub [0, 1, 2] rfl) hK hN⟩ rfl rfl hl.1 rfl (lv_room (Nat.le_of_ble_eq_true rfl)) dX0_matches_51 ⟨Nat.zero_le _, Nat.zero_le _⟩) ?_
        refine lv_iadd hx hb dX0_matches_54 ?_
        refine lv_istore (lv' := [(7, .int (sm + (FX0_widthAt bw (fr + ((nI k) * sp))))), (8, .int (nI k)), (6, .int fr), (5, .int sp), (0, .ref qb), (1, .int (nI d)), (2, .int sa), (3, .int ln), (4, .int rv)]) hx hb dX0_matches_55 hl (by decide) rfl (fun ls hl => ?_)
        refine lv_iinc (v := nI (k + 1)) (lv' := [(8, .int (nI (k + 1))), (7, .int (sm + (FX0_widthAt bw (fr + ((nI k) * sp))))), (6, .int fr), (5, .int sp), (0, .ref qb), (1, .int (nI d)), (2, .int sa), (3, .int ln), (4, .int rv)]) hx hb dX0_matches_57 hl (k := 1) rfl (nI_1 k) (by decide) rfl (fun ls hl => ?_)
        refine lv_goto (tgt := 34) hx hb dX0_matches_60 (by decide) ?_
        exact ih (k + 1) (sm + (FX0_widthAt bw (fr + ((nI k) * sp)))) sp fr (by omega) (by omega) hE ls (lv_sub hl [0, 1, 2, 3, 4, 5, 6, 7, 8] rfl)
  refine lv_iload hx hb dX0_matches_0 (lv_at hl 4 rfl) ?_
  refine lv_if_eq (tgt := 9) hx hb dX0_matches_2 (by decide) (fun c_1 => ?_) (fun c_1 => ?_)
  · rw [if_pos c_1] at hE
    refine lv_iconst (v := 1) hx hb dX0_matches_9 (by decide) ?_
    refine lv_istore (lv' := [(5, .int 1), (0, .ref qb), (1, .int (nI d)), (2, .int sa), (3, .int ln), (4, .int rv)]) hx hb dX0_matches_10 hl (by decide) rfl (fun ls hl => ?_)
    refine lv_iload hx hb dX0_matches_12 (lv_at hl 5 rfl) ?_
    refine lv_if_eq (tgt := 25) hx hb dX0_matches_14 (by decide) (fun c_2 => ?_) (fun c_2 => ?_)
    · rw [if_pos c_2] at hE
      refine lv_iload_n hx hb dX0_matches_25 rfl (lv_at hl 3 rfl) ?_
      refine lv_istore (lv' := [(6, .int sa), (5, .int 1), (0, .ref qb), (1, .int (nI d)), (2, .int sa), (3, .int ln), (4, .int rv)]) hx hb dX0_matches_26 hl (by decide) rfl (fun ls hl => ?_)
      refine lv_iconst (v := 0) hx hb dX0_matches_28 (by decide) ?_
      refine lv_istore (lv' := [(7, .int 0), (6, .int sa), (5, .int 1), (0, .ref qb), (1, .int (nI d)), (2, .int sa), (3, .int ln), (4, .int rv)]) hx hb dX0_matches_29 hl (by decide) rfl (fun ls hl => ?_)
      refine lv_iconst (v := 0) hx hb dX0_matches_31 (by decide) ?_
      refine lv_istore (lv' := [(8, .int 0), (7, .int 0), (6, .int sa), (5, .int 1), (0, .ref qb), (1, .int (nI d)), (2, .int sa), (3, .int ln), (4, .int rv)]) hx hb dX0_matches_32 hl (by decide) rfl (fun ls hl => ?_)
      exact loop_34 5 0 0 1 sa (by omega) (by omega) hE ls (lv_sub hl [0, 1, 2, 3, 4, 5, 6, 7, 8] rfl)
    · rw [if_neg c_2] at hE
      refine lv_iload_n hx hb dX0_matches_17 rfl (lv_at hl 4 rfl) ?_
      refine lv_iconst (v := 1) hx hb dX0_matches_18 (by decide) ?_
      refine lv_isub hx hb dX0_matches_19 ?_
      refine lv_iload_n hx hb dX0_matches_20 rfl (lv_at hl 3 rfl) ?_
      refine lv_isub hx hb dX0_matches_21 ?_
      refine lv_goto (tgt := 26) hx hb dX0_matches_22 (by decide) ?_
      refine lv_istore (lv' := [(6, .int ((ln - 1) - sa)), (5, .int 1), (0, .ref qb), (1, .int (nI d)), (2, .int sa), (3, .int ln), (4, .int rv)]) hx hb dX0_matches_26 hl (by decide) rfl (fun ls hl => ?_)
      refine lv_iconst (v := 0) hx hb dX0_matches_28 (by decide) ?_
      refine lv_istore (lv' := [(7, .int 0), (6, .int ((ln - 1) - sa)), (5, .int 1), (0, .ref qb), (1, .int (nI d)), (2, .int sa), (3, .int ln), (4, .int rv)]) hx hb dX0_matches_29 hl (by decide) rfl (fun ls hl => ?_)
      refine lv_iconst (v := 0) hx hb dX0_matches_31 (by decide) ?_
      refine lv_istore (lv' := [(8, .int 0), (7, .int 0), (6, .int ((ln - 1) - sa)), (5, .int 1), (0, .ref qb), (1, .int (nI d)), (2, .int sa), (3, .int ln), (4, .int rv)]) hx hb dX0_matches_32 hl (by decide) rfl (fun ls hl => ?_)
      exact loop_34 5 0 0 1 ((ln - 1) - sa) (by omega) (by omega) hE ls (lv_sub hl [0, 1, 2, 3, 4, 5, 6, 7, 8] rfl)
  · rw [if_neg c_1] at hE
    refine lv_iconst (v := (-1)) hx hb dX0_matches_5 (by decide) ?_
    refine lv_goto (tgt := 10) hx hb dX0_matches_6 (by decide) ?_
    refine lv_istore (lv' := [(5, .int (-1)), (0, .ref qb), (1, .int (nI d)), (2, .int sa), (3, .int ln), (4, .int rv)]) hx hb dX0_matches_10 hl (by decide) rfl (fun ls hl => ?_)
    refine lv_iload hx hb dX0_matches_12 (lv_at hl 5 rfl) ?_
    refine lv_if_eq (tgt := 25) hx hb dX0_matches_14 (by decide) (fun c_3 => ?_) (fun c_3 => ?_)
    · rw [if_pos c_3] at hE
      refine lv_iload_n hx hb dX0_matches_25 rfl (lv_at hl 3 rfl) ?_
      refine lv_istore (lv' := [(6, .int sa), (5, .int (-1)), (0, .ref qb), (1, .int (nI d)), (2, .int sa), (3, .int ln), (4, .int rv)]) hx hb dX0_matches_26 hl (by decide) rfl (fun ls hl => ?_)
      refine lv_iconst (v := 0) hx hb dX0_matches_28 (by decide) ?_
      refine lv_istore (lv' := [(7, .int 0), (6, .int sa), (5, .int (-1)), (0, .ref qb), (1, .int (nI d)), (2, .int sa), (3, .int ln), (4, .int rv)]) hx hb dX0_matches_29 hl (by decide) rfl (fun ls hl => ?_)
      refine lv_iconst (v := 0) hx hb dX0_matches_31 (by decide) ?_
      refine lv_istore (lv' := [(8, .int 0), (7, .int 0), (6, .int sa), (5, .int (-1)), (0, .ref qb), (1, .int (nI d)), (2, .int sa), (3, .int ln), (4, .int rv)]) hx hb dX0_matches_32 hl (by decide) rfl (fun ls hl => ?_)
      exact loop_34 5 0 0 (-1) sa (by omega) (by omega) hE ls (lv_sub hl [0, 1, 2, 3, 4, 5, 6, 7, 8] rfl)
    · rw [if_neg c_3] at hE
      refine lv_iload_n hx hb dX0_matches_17 rfl (lv_at hl 4 rfl) ?_
      refine lv_iconst (v := 1) hx hb dX0_matches_18 (by decide) ?_
      refine lv_isub hx hb dX0_matches_19 ?_
      refine lv_iload_n hx hb dX0_matches_20 rfl (lv_at hl 3 rfl) ?_
      refine lv_isub hx hb dX0_matches_21 ?_
      refine lv_goto (tgt := 26) hx hb dX0_matches_22 (by decide) ?_
      refine lv_istore (lv' := [(6, .int ((ln - 1) - sa)), (5, .int (-1)), (0, .ref qb), (1, .int (nI d)), (2, .int sa), (3, .int ln), (4, .int rv)]) hx hb dX0_matches_26 hl (by decide) rfl (fun ls hl => ?_)
      refine lv_iconst (v := 0) hx hb dX0_matches_28 (by decide) ?_
      refine lv_istore (lv' := [(7, .int 0), (6, .int ((ln - 1) - sa)), (5, .int (-1)), (0, .ref qb), (1, .int (nI d)), (2, .int sa), (3, .int ln), (4, .int rv)]) hx hb dX0_matches_29 hl (by decide) rfl (fun ls hl => ?_)
      refine lv_iconst (v := 0) hx hb dX0_matches_31 (by decide) ?_
      refine lv_istore (lv' := [(8, .int 0), (7, .int 0), (6, .int ((ln - 1) - sa)), (5, .int (-1)), (0, .ref qb), (1, .int (nI d)), (2, .int sa), (3, .int ln), (4, .int rv)]) hx hb dX0_matches_32 hl (by decide) rfl (fun ls hl => ?_)
      exact loop_34 5 0 0 (-1) ((ln - 1) - sa) (by omega) (by omega) hE ls (lv_sub hl [0, 1, 2, 3, 4, 5, 6, 7, 8] rfl)
def FX0_digitOfGroup_l3 (bw : Nat → Int32) (sa : Int32) (ln : Int32) (rv : Int32) : Nat → Nat → Int32
  | 0, _ => 0
  | n + 1, d => if 10 ≤ d then (-1) else (if (FX0_matches bw d sa ln rv) = 0 then FX0_digitOfGroup_l3 bw sa ln rv n (d + 1) else nI d)
def FX0_digitOfGroup (bw : Nat → Int32) (sa : Int32) (ln : Int32) (rv : Int32) : Int32 := FX0_digitOfGroup_l3 bw sa ln rv 11 0
set_option maxHeartbeats 4000000 in
set_option maxRecDepth 100000 in
theorem kX0_digitOfGroup (l : Launch) (D : va_G) (cI cJ cZ : ClassId) (qb : Nat) (b1 : Nat) (b2 : Nat) (bw : Nat → Int32) (bd : Nat → Int32) (bn : Nat) (sa : Int32) (ln : Int32) (rv : Int32) : Met l yX0_digitOfGroup wsX0_digitOfGroup ({ frames := 3, cells := 0, slots := 0, locals := 70 }) (rPz D (tz cI cJ cZ) [.ref qb, .int sa, .int ln, .int rv] [(qb, .inr (1, [.ref b1, .ref b2, .int (nI bn)])), (b1, .inl (cI, 64, .inl bw)), (b2, .inl (cI, 14, .inl bd))]) (k2_QcV (.int (FX0_digitOfGroup bw sa ln rv))) 0 0 (fun _ => False) := by
  refine Met.ofW (cc := cX0_digitOfGroup) (maxL := 5) (ret := (some .int)) (by decide) rfl ?_
  intro p e s m args below meth c s₁ B hml hv
  obtain ⟨⟨rfl, hP, hK, hN⟩, hZP⟩ := hv
  have hx := B.exec
  have hb := B.bytes
  have hr := B.returns
  have hts := atoms_spec (ws := wsX0_digitOfGroup) B.pre
  have hown : s.vm.findClass RX0 = some m.cls := findClass_of_methodNamed B.named
  have hlocks := B.notSynchronized
  generalize hE : FX0_digitOfGroup bw sa ln rv = R0
  have hS0 : va_S (fun _ => False) s.heap s.heap [] := va_S.rf
  obtain ⟨tPAT, hZ, hT⟩ := id hZP
  rw [FX0_digitOfGroup] at hE
  have hl := lv_entry ([.ref qb, .int sa, .int ln, .int rv]) (n := 5) (Nat.le_of_ble_eq_true rfl)
  rw [lg_entry_eq]
  generalize (lg_sl ([.ref qb, .int sa, .int ln, .int rv]) ++ List.replicate (5 - (lg_sl ([.ref qb, .int sa, .int ln, .int rv])).length) Slot.unset).toArray = ls at hl ⊢
  have hl : lv_has ls 5 [(0, .ref qb), (1, .int sa), (2, .int ln), (3, .int rv)] := hl
  have loop_3 : ∀ (n : Nat) (d : Nat), d ≤ 10 → d + n = 11 → FX0_digitOfGroup_l3 bw sa ln rv n d = R0 → ∀ ls : Array Slot, lv_has ls 5 [(4, .int (nI d)), (0, .ref qb), (1, .int sa), (2, .int ln), (3, .int rv)] → W p l e (headSpec wsX0_digitOfGroup ({ frames := 3, cells := 0, slots := 0, locals := 70 })).room s m ([.ref qb, .int sa, .int ln, .int rv] : List Value).toArray below meth c s.heap [] 0 0 (MQ below (k2_QcV (.int R0)) ([.ref qb, .int sa, .int ln, .int rv] : List Value).toArray s 0 0 (fun _ => False)) (F0 m 3 ls []) := by
    intro n
    induction n with
    | zero =>
      intro d i_1 i_2
      exact absurd i_1 (by omega)
    | succ n ih =>
      intro d i_1 i_2 hE ls hl
      rw [FX0_digitOfGroup_l3] at hE
      refine lv_iload hx hb dX0_digitOfGroup_3 (lv_at hl 0 rfl) ?_
      refine lv_bipush (v := 10) hx hb dX0_digitOfGroup_5 (by decide) ?_
      refine lv_icmp_ge (tgt := 31) hx hb dX0_digitOfGroup_7 (by decide) (fun c_1 => ?_) (fun c_1 => ?_)
      · have c_1 : 10 ≤ d := (nI_leI (a := 10) (b := d) (by omega) (by omega)).mp c_1
        rw [if_pos c_1] at hE
        refine lv_iconst (v := (-1)) hx hb dX0_digitOfGroup_31 (by decide) ?_
        exact W.iret hx hb hr (fun t ht hW => ⟨by rw [← hE], ht⟩) (fun q h => absurd h List.not_mem_nil) dX0_digitOfGroup_32
      · have c_1 : ¬ 10 ≤ d := fun h9 => c_1 ((nI_leI (a := 10) (b := d) (by omega) (by omega)).mpr h9)
        rw [if_neg c_1] at hE
        refine lv_aload_n hx hb dX0_digitOfGroup_10 rfl (lv_at hl 1 rfl) ?_
        refine lv_iload hx hb dX0_digitOfGroup_11 (lv_at hl 0 rfl) ?_
        refine lv_iload_n hx hb dX0_digitOfGroup_13 rfl (lv_at hl 2 rfl) ?_
        refine lv_iload_n hx hb dX0_digitOfGroup_14 rfl (lv_at hl 3 rfl) ?_
        refine lv_iload_n hx hb dX0_digitOfGroup_15 rfl (lv_at hl 4 rfl) ?_
        refine rd_call (va_runV (As := [.int (nI d), .int sa, .int ln, .int rv]) (rest := []) ⟨hx, hb, hml, hown, hts⟩ (kX0_matches l D cI cJ cZ qb b1 b2 bw bd bn d sa ln rv (by first | assumption | omega)) (cwV 4 hts gX0_digitOfGroup_X0_matches rfl rfl rfl (by decide +kernel) ⟨Nat.le_of_ble_eq_true rfl, Nat.le_of_ble_eq_true rfl⟩) ⟨rPz_blind, va_recv hK hP (ci := 1) (q0 := 0) rfl rfl, rPz_pre (hP.sub [0, 1, 2] rfl) hK hN hZP⟩ rfl rfl hl.1 rfl (lv_room (Nat.le_of_ble_eq_true rfl)) dX0_digitOfGroup_16 ⟨Nat.zero_le _, Nat.zero_le _⟩) ?_
        refine lv_if_eq (tgt := 25) hx hb dX0_digitOfGroup_19 (by decide) (fun c_2 => ?_) (fun c_2 => ?_)
        · rw [if_pos c_2] at hE
          refine lv_iinc (v := nI (d + 1)) (lv' := [(4, .int (nI (d + 1))), (0, .ref qb), (1, .int sa), (2, .int ln), (3, .int rv)]) hx hb dX0_digitOfGroup_25 hl (k := 0) rfl (nI_1 d) (by decide) rfl (fun ls hl => ?_)
          refine lv_goto (tgt := 3) hx hb dX0_digitOfGroup_28 (by decide) ?_
          exact ih (d + 1) (by omega) (by omega) hE ls (lv_sub hl [0, 1, 2, 3, 4] rfl)
        · rw [if_neg c_2] at hE
          refine lv_iload hx hb dX0_digitOfGroup_22 (lv_at hl 0 rfl) ?_
          exact W.iret hx hb hr (fun t ht hW => ⟨by rw [← hE], ht⟩) (fun q h => absurd h List.not_mem_nil) dX0_digitOfGroup_24
  refine lv_iconst (v := 0) hx hb dX0_digitOfGroup_0 (by decide) ?_
  refine lv_istore (lv' := [(4, .int 0), (0, .ref qb), (1, .int sa), (2, .int ln), (3, .int rv)]) hx hb dX0_digitOfGroup_1 hl (by decide) rfl (fun ls hl => ?_)
  exact loop_3 11 0 (by omega) (by omega) hE ls (lv_sub hl [0, 1, 2, 3, 4] rfl)
def FX0_decode_l44 (bw : Nat → Int32) (bn : Nat) (ln : Nat) (rv : Int32) : Nat → Nat → (Nat → Int32) → Int32 × (Nat → Int32) × Nat
  | 0, _, _ => (0, fun _ => 0, 0)
  | n + 1, g, bdx => if ((ln - 6) / 4) ≤ g then (1, bdx, (ln - 6) / 4) else (if 14 ≤ g then (1, bdx, (ln - 6) / 4) else (if (FX0_digitOfGroup bw (nI (3 + (g * 4))) (nI ln) rv) = (-1) then (0, bdx, bn) else FX0_decode_l44 bw bn ln rv n (g + 1) (upd bdx g (FX0_digitOfGroup bw (nI (3 + (g * 4))) (nI ln) rv))))
def FX0_decode (bw : Nat → Int32) (bd : Nat → Int32) (bn : Nat) (ln : Nat) (rv : Int32) : Int32 × (Nat → Int32) × Nat := if ((nI ln) - 6) < 4 then (0, bd, bn) else (if ((ln - 6) % 4) = 0 then (if (FX0_isEdge bw 0) = 0 then (0, bd, bn) else (if (FX0_isEdge bw ((nI ln) - 3)) = 0 then (0, bd, bn) else FX0_decode_l44 bw bn ln rv 15 0 bd)) else (0, bd, bn))
set_option maxHeartbeats 4000000 in
set_option maxRecDepth 100000 in
theorem kX0_decode (l : Launch) (D : va_G) (cI cJ cZ : ClassId) (qb : Nat) (b1 : Nat) (b2 : Nat) (bw : Nat → Int32) (bd : Nat → Int32) (bn : Nat) (ln : Nat) (rv : Int32) (sz : Nat) (hln : ln ≤ 64) : Met l yX0_decode wsX0_decode ({ frames := 4, cells := 0, slots := 0, locals := 94 }) (mPz D (tz cI cJ cZ) [.ref qb, .int (nI ln), .int rv] sz [(qb, .inr (1, [.ref b1, .ref b2, .int (nI bn)])), (b1, .inl (cI, 64, .inl bw)), (b2, .inl (cI, 14, .inl bd))]) (mQ D (some (.int ((FX0_decode bw bd bn ln rv).1))) [(qb, .inr (1, [.ref b1, .ref b2, .int (nI ((FX0_decode bw bd bn ln rv).2.2))])), (b1, .inl (cI, 64, .inl bw)), (b2, .inl (cI, 14, .inl ((FX0_decode bw bd bn ln rv).2.1)))] (va_A [(qb, .inr (1, [.ref b1, .ref b2, .int (nI bn)])), (b1, .inl (cI, 64, .inl bw)), (b2, .inl (cI, 14, .inl bd))] sz)) 0 0 (va_A [(qb, .inr (1, [.ref b1, .ref b2, .int (nI bn)])), (b1, .inl (cI, 64, .inl bw)), (b2, .inl (cI, 14, .inl bd))] sz) := by
  refine Met.ofW (cc := cX0_decode) (maxL := 7) (ret := (some .boolean)) (by decide) rfl ?_
  intro p e s m args below meth c s₁ B hml hv
  obtain ⟨⟨rfl, hsz, hP, hK, hD0, hN⟩, hZA⟩ := hv
  have hx := B.exec
  have hb := B.bytes
  have hr := B.returns
  have hts := atoms_spec (ws := wsX0_decode) B.pre
  have hown : s.vm.findClass RX0 = some m.cls := findClass_of_methodNamed B.named
  have hlocks := B.notSynchronized
  have iw_1 : ∀ w ∈ u_ws RX0 TX0 3, w ∈ wsX0_decode := by decide +kernel
  rw [← hsz] at hZA
  subst hsz
  have hD := hD0.self (sz := s.heap.size)
  generalize hE : FX0_decode bw bd bn ln rv = R0
  generalize hAe : va_A [(qb, .inr (1, [.ref b1, .ref b2, .int (nI bn)])), (b1, .inl (cI, 64, .inl bw)), (b2, .inl (cI, 14, .inl bd))] s.heap.size = A at hD hZA ⊢
  have hA : ∀ q : Nat, s.heap.size ≤ q → A q := fun q h => by rw [← hAe]; exact Or.inr h
  have hS : va_S A s.heap s.heap [] := va_S.rf
  rw [FX0_decode] at hE
  have hl := lv_entry ([.ref qb, .int (nI ln), .int rv]) (n := 7) (Nat.le_of_ble_eq_true rfl)
  rw [lg_entry_eq]
  generalize (lg_sl ([.ref qb, .int (nI ln), .int rv]) ++ List.replicate (7 - (lg_sl ([.ref qb, .int (nI ln), .int rv])).length) Slot.unset).toArray = ls at hl ⊢
  have hl : lv_has ls 7 [(0, .ref qb), (1, .int (nI ln)), (2, .int rv)] := hl
  have loop_44 : ∀ (n : Nat) (g : Nat) (bdx : Nat → Int32), g ≤ 14 → g + n = 15 → FX0_decode_l44 bw bn ln rv n g bdx = R0 → ∀ (H : Heap) (locs : List Loc), va_P D vwCl [(qb, .inr (1, [.ref b1, .ref b2, .int (nI bn)])), (b1, .inl (cI, 64, .inl bw)), (b2, .inl (cI, 14, .inl bdx))] H → va_D A [(qb, .inr (1, [.ref b1, .ref b2, .int (nI bn)])), (b1, .inl (cI, 64, .inl bw)), (b2, .inl (cI, 14, .inl bdx))] → va_S A s.heap H locs → ∀ ls : Array Slot, lv_has ls 7 [(5, .int (nI g)), (4, .int (nI ((ln - 6) / 4))), (3, .int (nI (ln - 6))), (0, .ref qb), (1, .int (nI ln)), (2, .int rv)] → W p l e (headSpec wsX0_decode ({ frames := 4, cells := 0, slots := 0, locals := 94 })).room s m ([.ref qb, .int (nI ln), .int rv] : List Value).toArray below meth c H locs 0 0 (MQ below (mQ D (some (.int R0.1)) [(qb, .inr (1, [.ref b1, .ref b2, .int (nI R0.2.2)])), (b1, .inl (cI, 64, .inl bw)), (b2, .inl (cI, 14, .inl R0.2.1))] A) ([.ref qb, .int (nI ln), .int rv] : List Value).toArray s 0 0 A) (F0 m 44 ls []) := by
    intro n
    induction n with
    | zero =>
      intro g bdx i_1 i_2
      exact absurd i_1 (by omega)
    | succ n ih =>
      intro g bdx i_1 i_2 hE H locs hP hD hS ls hl
      rw [FX0_decode_l44] at hE
      refine lv_iload hx hb dX0_decode_44 (lv_at hl 0 rfl) ?_
      refine lv_iload hx hb dX0_decode_46 (lv_at hl 1 rfl) ?_
      refine lv_icmp_ge (tgt := 95) hx hb dX0_decode_48 (by decide) (fun c_5 => ?_) (fun c_5 => ?_)
      · have c_5 : ((ln - 6) / 4) ≤ g := (nI_leI (a := ((ln - 6) / 4)) (b := g) (by omega) (by omega)).mp c_5
        rw [if_pos c_5] at hE
        refine lv_aload_n hx hb dX0_decode_95 rfl (lv_at hl 3 rfl) ?_
        refine lv_iload hx hb dX0_decode_96 (lv_at hl 1 rfl) ?_
        refine va_put (D := D) (ci := 1) (v := .int (nI ((ln - 6) / 4))) (ty := .int) (C := RX0) (T := TX0) (N := 3) hx hb hts iw_1 tyX0 tyX0_ok nmX0 hown hK hP hD hS 0 rfl rfl 2 (by decide) (hts (.fieldLink RX0 18 "DepositCodes$Bars" "digitCount" "I") (by decide +kernel)) (fun _ h9 => h9) rfl (by decide +kernel) rfl rfl (Nat.le_of_ble_eq_true rfl) dX0_decode_98 (fun H locs hP hD hS => ?_)
        have hP : va_P D vwCl [(qb, .inr (1, [.ref b1, .ref b2, .int (nI ((ln - 6) / 4))])), (b1, .inl (cI, 64, .inl bw)), (b2, .inl (cI, 14, .inl bdx))] H := hP
        have hD : va_D A [(qb, .inr (1, [.ref b1, .ref b2, .int (nI ((ln - 6) / 4))])), (b1, .inl (cI, 64, .inl bw)), (b2, .inl (cI, 14, .inl bdx))] := hD
        refine lv_iconst (v := 1) hx hb dX0_decode_101 (by decide) ?_
        subst hE
        exact W.zret hx hb hr narrow_b1 (fun t ht hW => ⟨rfl, by rw [ht]; exact hP, hD, hS.F ht⟩) hS.2.2 dX0_decode_102
      · have c_5 : ¬ ((ln - 6) / 4) ≤ g := fun h9 => c_5 ((nI_leI (a := ((ln - 6) / 4)) (b := g) (by omega) (by omega)).mpr h9)
        rw [if_neg c_5] at hE
        refine lv_iload hx hb dX0_decode_51 (lv_at hl 0 rfl) ?_
        refine lv_bipush (v := 14) hx hb dX0_decode_53 (by decide) ?_
        refine lv_icmp_ge (tgt := 95) hx hb dX0_decode_55 (by decide) (fun c_6 => ?_) (fun c_6 => ?_)
        · have c_6 : 14 ≤ g := (nI_leI (a := 14) (b := g) (by omega) (by omega)).mp c_6
          rw [if_pos c_6] at hE
          refine lv_aload_n hx hb dX0_decode_95 rfl (lv_at hl 3 rfl) ?_
          refine lv_iload hx hb dX0_decode_96 (lv_at hl 1 rfl) ?_
          refine va_put (D := D) (ci := 1) (v := .int (nI ((ln - 6) / 4))) (ty := .int) (C := RX0) (T := TX0) (N := 3) hx hb hts iw_1 tyX0 tyX0_ok nmX0 hown hK hP hD hS 0 rfl rfl 2 (by decide) (hts (.fieldLink RX0 18 "DepositCodes$Bars" "digitCount" "I") (by decide +kernel)) (fun _ h9 => h9) rfl (by decide +kernel) rfl rfl (Nat.le_of_ble_eq_true rfl) dX0_decode_98 (fun H locs hP hD hS => ?_)
          have hP : va_P D vwCl [(qb, .inr (1, [.ref b1, .ref b2, .int (nI ((ln - 6) / 4))])), (b1, .inl (cI, 64, .inl bw)), (b2, .inl (cI, 14, .inl bdx))] H := hP
          have hD : va_D A [(qb, .inr (1, [.ref b1, .ref b2, .int (nI ((ln - 6) / 4))])), (b1, .inl (cI, 64, .inl bw)), (b2, .inl (cI, 14, .inl bdx))] := hD
          refine lv_iconst (v := 1) hx hb dX0_decode_101 (by decide) ?_
          subst hE
          exact W.zret hx hb hr narrow_b1 (fun t ht hW => ⟨rfl, by rw [ht]; exact hP, hD, hS.F ht⟩) hS.2.2 dX0_decode_102
        · have c_6 : ¬ 14 ≤ g := fun h9 => c_6 ((nI_leI (a := 14) (b := g) (by omega) (by omega)).mpr h9)
          rw [if_neg c_6] at hE
          refine lv_aload_n hx hb dX0_decode_58 rfl (lv_at hl 3 rfl) ?_
          refine lv_iconst (v := 3) hx hb dX0_decode_59 (by decide) ?_
          refine lv_iload hx hb dX0_decode_60 (lv_at hl 0 rfl) ?_
          refine lv_iconst (v := 4) hx hb dX0_decode_62 (by decide) ?_
          refine lv_imul hx hb dX0_decode_63 ?_
          refine na_top (show (nI g) * 4 = nI (g * 4) from pk_mul g 4) ?_
          refine lv_iadd hx hb dX0_decode_64 ?_
          refine na_top (show 3 + (nI (g * 4)) = nI (3 + (g * 4)) from nI_add 3 (g * 4)) ?_
          refine lv_iload_n hx hb dX0_decode_65 rfl (lv_at hl 4 rfl) ?_
          refine lv_iload_n hx hb dX0_decode_66 rfl (lv_at hl 5 rfl) ?_
          refine rd_call (va_runV (As := [.int (nI (3 + (g * 4))), .int (nI ln), .int rv]) (rest := []) ⟨hx, hb, hml, hown, hts⟩ (kX0_digitOfGroup l D cI cJ cZ qb b1 b2 bw bdx bn (nI (3 + (g * 4))) (nI ln) rv) (cwV 3 hts gX0_decode_X0_digitOfGroup rfl rfl rfl (by decide +kernel) ⟨Nat.le_of_ble_eq_true rfl, Nat.le_of_ble_eq_true rfl⟩) ⟨rPz_blind, va_recv hK hP (ci := 1) (q0 := 0) rfl rfl, rPz_pre (hP.sub [0, 1, 2] rfl) hK hN (hZA.ro hS)⟩ rfl rfl hl.1 rfl (lv_room (Nat.le_of_ble_eq_true rfl)) dX0_decode_67 ⟨Nat.zero_le _, Nat.zero_le _⟩) ?_
          refine lv_istore (lv' := [(6, .int (FX0_digitOfGroup bw (nI (3 + (g * 4))) (nI ln) rv)), (5, .int (nI g)), (4, .int (nI ((ln - 6) / 4))), (3, .int (nI (ln - 6))), (0, .ref qb), (1, .int (nI ln)), (2, .int rv)]) hx hb dX0_decode_70 hl (by decide) rfl (fun ls hl => ?_)
          refine lv_iload hx hb dX0_decode_72 (lv_at hl 0 rfl) ?_
          refine lv_iconst (v := (-1)) hx hb dX0_decode_74 (by decide) ?_
          refine lv_icmp_ne (tgt := 80) hx hb dX0_decode_75 (by decide) (fun c_7 => ?_) (fun c_7 => ?_)
          · rw [if_neg c_7] at hE
            refine lv_aload_n hx hb dX0_decode_80 rfl (lv_at hl 4 rfl) ?_
            refine va_get (D := D) (ci := 1) (v := .ref b2) (C := RX0) (T := TX0) (N := 3) hx hb hts iw_1 hown hK hP 0 rfl rfl 1 (by decide) (hts (.fieldLink RX0 15 "DepositCodes$Bars" "digits" "[I") (by decide +kernel)) (fun _ h9 => h9) rfl dX0_decode_81 ?_
            refine lv_iload hx hb dX0_decode_84 (lv_at hl 1 rfl) ?_
            refine lv_iload hx hb dX0_decode_86 (lv_at hl 0 rfl) ?_
            refine na_iast hx hb hK hP hD hS 2 0 rfl rfl (by omega) (by decide) dX0_decode_88 (fun H locs hP hD hS => ?_)
            have hP : va_P D vwCl [(qb, .inr (1, [.ref b1, .ref b2, .int (nI bn)])), (b1, .inl (cI, 64, .inl bw)), (b2, .inl (cI, 14, .inl (upd bdx g (FX0_digitOfGroup bw (nI (3 + (g * 4))) (nI ln) rv))))] H := hP
            have hD : va_D A [(qb, .inr (1, [.ref b1, .ref b2, .int (nI bn)])), (b1, .inl (cI, 64, .inl bw)), (b2, .inl (cI, 14, .inl (upd bdx g (FX0_digitOfGroup bw (nI (3 + (g * 4))) (nI ln) rv))))] := hD
            refine lv_iinc (v := nI (g + 1)) (lv' := [(5, .int (nI (g + 1))), (6, .int (FX0_digitOfGroup bw (nI (3 + (g * 4))) (nI ln) rv)), (4, .int (nI ((ln - 6) / 4))), (3, .int (nI (ln - 6))), (0, .ref qb), (1, .int (nI ln)), (2, .int rv)]) hx hb dX0_decode_89 hl (k := 1) rfl (nI_1 g) (by decide) rfl (fun ls hl => ?_)
            refine lv_goto (tgt := 44) hx hb dX0_decode_92 (by decide) ?_
            exact ih (g + 1) (upd bdx g (FX0_digitOfGroup bw (nI (3 + (g * 4))) (nI ln) rv)) (by omega) (by omega) hE _ _ hP hD hS ls (lv_sub hl [0, 2, 3, 4, 5, 6] rfl)
          · rw [if_pos c_7] at hE
            refine lv_iconst (v := 0) hx hb dX0_decode_78 (by decide) ?_
            subst hE
            exact W.zret hx hb hr narrow_b0 (fun t ht hW => ⟨rfl, by rw [ht]; exact hP, hD, hS.F ht⟩) hS.2.2 dX0_decode_79
  refine lv_iload_n hx hb dX0_decode_0 rfl (lv_at hl 1 rfl) ?_
  refine lv_bipush (v := 6) hx hb dX0_decode_1 (by decide) ?_
  refine lv_isub hx hb dX0_decode_3 ?_
  refine lv_istore_n (lv' := [(3, .int ((nI ln) - 6)), (0, .ref qb), (1, .int (nI ln)), (2, .int rv)]) hx hb dX0_decode_4 rfl hl (by decide) rfl (fun ls hl => ?_)
  refine lv_iload_n hx hb dX0_decode_5 rfl (lv_at hl 0 rfl) ?_
  refine lv_iconst (v := 4) hx hb dX0_decode_6 (by decide) ?_
  refine lv_icmp_lt (tgt := 34) hx hb dX0_decode_7 (by decide) (fun c_1 => ?_) (fun c_1 => ?_)
  · rw [if_pos c_1] at hE
    refine lv_iconst (v := 0) hx hb dX0_decode_34 (by decide) ?_
    subst hE
    exact W.zret hx hb hr narrow_b0 (fun t ht hW => ⟨rfl, by rw [ht]; exact hP, hD, hS.F ht⟩) hS.2.2 dX0_decode_35
  · rw [if_neg c_1] at hE
    have h10 : 10 ≤ ln := ln_10 hln (by assumption)
    have hl : lv_has ls 7 [(3, .int (nI (ln - 6))), (0, .ref qb), (1, .int (nI ln)), (2, .int rv)] := by have e9 : (nI ln) - 6 = nI (ln - 6) := pk_sub (a := ln) (b := 6) (by omega); rw [← e9]; exact hl
    refine lv_iload_n hx hb dX0_decode_10 rfl (lv_at hl 0 rfl) ?_
    refine lv_iconst (v := 4) hx hb dX0_decode_11 (by decide) ?_
    refine lv_irem hx hb dX0_decode_12 (by decide) ?_
    refine na_top (show (nI (ln - 6)) - (nI (ln - 6)) / 4 * 4 = nI ((ln - 6) % 4) from pk_rem (a := (ln - 6)) (d := 4) (by omega) (by decide) (by decide)) ?_
    refine lv_if_ne (tgt := 34) hx hb dX0_decode_13 (by decide) (fun c_2 => ?_) (fun c_2 => ?_)
    · have c_2 : ¬ ((ln - 6) % 4) = 0 := fun h9 => c_2 ((nI_eq (a := ((ln - 6) % 4)) (b := 0) (by omega) (by omega)).mpr h9)
      rw [if_neg c_2] at hE
      refine lv_iconst (v := 0) hx hb dX0_decode_34 (by decide) ?_
      subst hE
      exact W.zret hx hb hr narrow_b0 (fun t ht hW => ⟨rfl, by rw [ht]; exact hP, hD, hS.F ht⟩) hS.2.2 dX0_decode_35
    · have c_2 : ((ln - 6) % 4) = 0 := (nI_eq (a := ((ln - 6) % 4)) (b := 0) (by omega) (by omega)).mp c_2
      rw [if_pos c_2] at hE
      refine lv_aload_n hx hb dX0_decode_16 rfl (lv_at hl 1 rfl) ?_
      refine lv_iconst (v := 0) hx hb dX0_decode_17 (by decide) ?_
      refine rd_call (va_runV (As := [.int 0]) (rest := []) ⟨hx, hb, hml, hown, hts⟩ (kX0_isEdge l D cI cJ cZ qb b1 b2 bw bd bn 0) (cwV 1 hts gX0_decode_X0_isEdge rfl rfl rfl (by decide +kernel) ⟨Nat.le_of_ble_eq_true rfl, Nat.le_of_ble_eq_true rfl⟩) ⟨rP_blind, va_recv hK hP (ci := 1) (q0 := 0) rfl rfl, rP_pre (hP.sub [0, 1, 2] rfl) hK hN⟩ rfl rfl hl.1 rfl (lv_room (Nat.le_of_ble_eq_true rfl)) dX0_decode_18 ⟨Nat.zero_le _, Nat.zero_le _⟩) ?_
      refine lv_if_eq (tgt := 34) hx hb dX0_decode_21 (by decide) (fun c_3 => ?_) (fun c_3 => ?_)
      · rw [if_pos c_3] at hE
        refine lv_iconst (v := 0) hx hb dX0_decode_34 (by decide) ?_
        subst hE
        exact W.zret hx hb hr narrow_b0 (fun t ht hW => ⟨rfl, by rw [ht]; exact hP, hD, hS.F ht⟩) hS.2.2 dX0_decode_35
      · rw [if_neg c_3] at hE
        refine lv_aload_n hx hb dX0_decode_24 rfl (lv_at hl 1 rfl) ?_
        refine lv_iload_n hx hb dX0_decode_25 rfl (lv_at hl 2 rfl) ?_
        refine lv_iconst (v := 3) hx hb dX0_decode_26 (by decide) ?_
        refine lv_isub hx hb dX0_decode_27 ?_
        refine rd_call (va_runV (As := [.int ((nI ln) - 3)]) (rest := []) ⟨hx, hb, hml, hown, hts⟩ (kX0_isEdge l D cI cJ cZ qb b1 b2 bw bd bn ((nI ln) - 3)) (cwV 1 hts gX0_decode_X0_isEdge rfl rfl rfl (by decide +kernel) ⟨Nat.le_of_ble_eq_true rfl, Nat.le_of_ble_eq_true rfl⟩) ⟨rP_blind, va_recv hK hP (ci := 1) (q0 := 0) rfl rfl, rP_pre (hP.sub [0, 1, 2] rfl) hK hN⟩ rfl rfl hl.1 rfl (lv_room (Nat.le_of_ble_eq_true rfl)) dX0_decode_28 ⟨Nat.zero_le _, Nat.zero_le _⟩) ?_
        refine lv_if_ne (tgt := 36) hx hb dX0_decode_31 (by decide) (fun c_4 => ?_) (fun c_4 => ?_)
        · rw [if_neg c_4] at hE
          refine lv_iload_n hx hb dX0_decode_36 rfl (lv_at hl 0 rfl) ?_
          refine lv_iconst (v := 4) hx hb dX0_decode_37 (by decide) ?_
          refine lv_idiv hx hb dX0_decode_38 (by decide) ?_
          refine na_top (show (nI (ln - 6)) / 4 = nI ((ln - 6) / 4) from pk_div (a := (ln - 6)) (d := 4) (by omega) (by decide) (by decide)) ?_
          refine lv_istore (lv' := [(4, .int (nI ((ln - 6) / 4))), (3, .int (nI (ln - 6))), (0, .ref qb), (1, .int (nI ln)), (2, .int rv)]) hx hb dX0_decode_39 hl (by decide) rfl (fun ls hl => ?_)
          refine lv_iconst (v := 0) hx hb dX0_decode_41 (by decide) ?_
          refine lv_istore (lv' := [(5, .int 0), (4, .int (nI ((ln - 6) / 4))), (3, .int (nI (ln - 6))), (0, .ref qb), (1, .int (nI ln)), (2, .int rv)]) hx hb dX0_decode_42 hl (by decide) rfl (fun ls hl => ?_)
          exact loop_44 15 0 bd (by omega) (by omega) hE _ _ hP hD hS ls (lv_sub hl [0, 1, 2, 3, 4, 5] rfl)
        · rw [if_pos c_4] at hE
          refine lv_iconst (v := 0) hx hb dX0_decode_34 (by decide) ?_
          subst hE
          exact W.zret hx hb hr narrow_b0 (fun t ht hW => ⟨rfl, by rw [ht]; exact hP, hD, hS.F ht⟩) hS.2.2 dX0_decode_35
def FX0_scan (bw : Nat → Int32) (bd : Nat → Int32) (bn : Nat) (bf : Int32) : Int32 × (Nat → Int32) × Nat := if ((FX0_decode bw bd bn (FX0_rowLength bw) bf).1) = 0 then (if bf = 0 then (if ((FX0_decode bw ((FX0_decode bw bd bn (FX0_rowLength bw) bf).2.1) ((FX0_decode bw bd bn (FX0_rowLength bw) bf).2.2) (FX0_rowLength bw) 1).1) = 0 then ((-1), (FX0_decode bw ((FX0_decode bw bd bn (FX0_rowLength bw) bf).2.1) ((FX0_decode bw bd bn (FX0_rowLength bw) bf).2.2) (FX0_rowLength bw) 1).2.1, 0) else (nI ((FX0_decode bw ((FX0_decode bw bd bn (FX0_rowLength bw) bf).2.1) ((FX0_decode bw bd bn (FX0_rowLength bw) bf).2.2) (FX0_rowLength bw) 1).2.2), (FX0_decode bw ((FX0_decode bw bd bn (FX0_rowLength bw) bf).2.1) ((FX0_decode bw bd bn (FX0_rowLength bw) bf).2.2) (FX0_rowLength bw) 1).2.1, (FX0_decode bw ((FX0_decode bw bd bn (FX0_rowLength bw) bf).2.1) ((FX0_decode bw bd bn (FX0_rowLength bw) bf).2.2) (FX0_rowLength bw) 1).2.2)) else (if ((FX0_decode bw ((FX0_decode bw bd bn (FX0_rowLength bw) bf).2.1) ((FX0_decode bw bd bn (FX0_rowLength bw) bf).2.2) (FX0_rowLength bw) 0).1) = 0 then ((-1), (FX0_decode bw ((FX0_decode bw bd bn (FX0_rowLength bw) bf).2.1) ((FX0_decode bw bd bn (FX0_rowLength bw) bf).2.2) (FX0_rowLength bw) 0).2.1, 0) else (nI ((FX0_decode bw ((FX0_decode bw bd bn (FX0_rowLength bw) bf).2.1) ((FX0_decode bw bd bn (FX0_rowLength bw) bf).2.2) (FX0_rowLength bw) 0).2.2), (FX0_decode bw ((FX0_decode bw bd bn (FX0_rowLength bw) bf).2.1) ((FX0_decode bw bd bn (FX0_rowLength bw) bf).2.2) (FX0_rowLength bw) 0).2.1, (FX0_decode bw ((FX0_decode bw bd bn (FX0_rowLength bw) bf).2.1) ((FX0_decode bw bd bn (FX0_rowLength bw) bf).2.2) (FX0_rowLength bw) 0).2.2))) else (nI ((FX0_decode bw bd bn (FX0_rowLength bw) bf).2.2), (FX0_decode bw bd bn (FX0_rowLength bw) bf).2.1, (FX0_decode bw bd bn (FX0_rowLength bw) bf).2.2)
set_option maxHeartbeats 4000000 in
set_option maxRecDepth 100000 in
theorem kX0_scan (l : Launch) (D : va_G) (cI cJ cZ : ClassId) (qb : Nat) (b1 : Nat) (b2 : Nat) (bw : Nat → Int32) (bd : Nat → Int32) (bn : Nat) (bf : Int32) (sz : Nat) : Met l yX0_scan wsX0_scan ({ frames := 5, cells := 0, slots := 0, locals := 120 }) (mPz D (tz cI cJ cZ) [.ref qb, .int bf] sz [(qb, .inr (1, [.ref b1, .ref b2, .int (nI bn)])), (b1, .inl (cI, 64, .inl bw)), (b2, .inl (cI, 14, .inl bd))]) (mQ D (some (.int ((FX0_scan bw bd bn bf).1))) [(qb, .inr (1, [.ref b1, .ref b2, .int (nI ((FX0_scan bw bd bn bf).2.2))])), (b1, .inl (cI, 64, .inl bw)), (b2, .inl (cI, 14, .inl ((FX0_scan bw bd bn bf).2.1)))] (va_A [(qb, .inr (1, [.ref b1, .ref b2, .int (nI bn)])), (b1, .inl (cI, 64, .inl bw)), (b2, .inl (cI, 14, .inl bd))] sz)) 0 0 (va_A [(qb, .inr (1, [.ref b1, .ref b2, .int (nI bn)])), (b1, .inl (cI, 64, .inl bw)), (b2, .inl (cI, 14, .inl bd))] sz) := by
  refine Met.ofW (cc := cX0_scan) (maxL := 3) (ret := (some .int)) (by decide) rfl ?_
  intro p e s m args below meth c s₁ B hml hv
  obtain ⟨⟨rfl, hsz, hP, hK, hD0, hN⟩, hZA⟩ := hv
  have hx := B.exec
  have hb := B.bytes
  have hr := B.returns
  have hts := atoms_spec (ws := wsX0_scan) B.pre
  have hown : s.vm.findClass RX0 = some m.cls := findClass_of_methodNamed B.named
  have hlocks := B.notSynchronized
  have iw_1 : ∀ w ∈ u_ws RX0 TX0 3, w ∈ wsX0_scan := by decide +kernel
  rw [← hsz] at hZA
  subst hsz
  have hD := hD0.self (sz := s.heap.size)
  generalize hE : FX0_scan bw bd bn bf = R0
  generalize hAe : va_A [(qb, .inr (1, [.ref b1, .ref b2, .int (nI bn)])), (b1, .inl (cI, 64, .inl bw)), (b2, .inl (cI, 14, .inl bd))] s.heap.size = A at hD hZA ⊢
  have hA : ∀ q : Nat, s.heap.size ≤ q → A q := fun q h => by rw [← hAe]; exact Or.inr h
  have hS : va_S A s.heap s.heap [] := va_S.rf
  rw [FX0_scan] at hE
  have hl := lv_entry ([.ref qb, .int bf]) (n := 3) (Nat.le_of_ble_eq_true rfl)
  rw [lg_entry_eq]
  generalize (lg_sl ([.ref qb, .int bf]) ++ List.replicate (3 - (lg_sl ([.ref qb, .int bf])).length) Slot.unset).toArray = ls at hl ⊢
  have hl : lv_has ls 3 [(0, .ref qb), (1, .int bf)] := hl
  refine lv_aload_n hx hb dX0_scan_0 rfl (lv_at hl 0 rfl) ?_
  refine rd_call (va_runV (As := []) (rest := []) ⟨hx, hb, hml, hown, hts⟩ (kX0_rowLength l D cI cJ cZ qb b1 b2 bw bd bn) (cwV 0 hts gX0_scan_X0_rowLength rfl rfl rfl (by decide +kernel) ⟨Nat.le_of_ble_eq_true rfl, Nat.le_of_ble_eq_true rfl⟩) ⟨rP_blind, va_recv hK hP (ci := 1) (q0 := 0) rfl rfl, rP_pre (hP.sub [0, 1, 2] rfl) hK hN⟩ rfl rfl hl.1 rfl (lv_room (Nat.le_of_ble_eq_true rfl)) dX0_scan_1 ⟨Nat.zero_le _, Nat.zero_le _⟩) ?_
  refine lv_istore_n (lv' := [(2, .int (nI (FX0_rowLength bw))), (0, .ref qb), (1, .int bf)]) hx hb dX0_scan_4 rfl hl (by decide) rfl (fun ls hl => ?_)
  refine lv_aload_n hx hb dX0_scan_5 rfl (lv_at hl 1 rfl) ?_
  refine lv_iload_n hx hb dX0_scan_6 rfl (lv_at hl 0 rfl) ?_
  refine lv_iload_n hx hb dX0_scan_7 rfl (lv_at hl 2 rfl) ?_
  refine mt_call0 (wr := []) (ws' := [(qb, .inr (1, [.ref b1, .ref b2, .int (nI ((FX0_decode bw bd bn (FX0_rowLength bw) bf).2.2))])), (b1, .inl (cI, 64, .inl bw)), (b2, .inl (cI, 14, .inl ((FX0_decode bw bd bn (FX0_rowLength bw) bf).2.1)))]) (st1 := [.int ((FX0_decode bw bd bn (FX0_rowLength bw) bf).1)]) (va_runV (As := [.int (nI (FX0_rowLength bw)), .int bf]) (rest := []) ⟨hx, hb, hml, hown, hts⟩ (kX0_decode l D cI cJ cZ qb b1 b2 bw bd bn (FX0_rowLength bw) bf _ (FX0_rowLength_le bw)) (cwV 2 hts gX0_scan_X0_decode rfl rfl rfl (by decide +kernel) ⟨Nat.le_of_ble_eq_true rfl, Nat.le_of_ble_eq_true rfl⟩) ⟨mPz_blind, va_recv hK hP (ci := 1) (q0 := 0) rfl rfl, mPz_pre (hP.sub [0, 1, 2] rfl) (hD.sub [0, 1, 2] (by decide) rfl) hK hN (hZA.sub hS (va_free hD hS hA [0, 1, 2] rfl))⟩ rfl rfl hl.1 rfl (lv_room (Nat.le_of_ble_eq_true rfl)) dX0_scan_8 ⟨Nat.zero_le _, Nat.zero_le _⟩) hP hD hS hA [0, 1, 2] [] [0, 1, 2] rfl rfl (by decide) (by decide) (by decide) rfl rfl (fun H locs hP hD hS => ?_)
  refine lv_if_ne (tgt := 31) hx hb dX0_scan_11 (by decide) (fun c_1 => ?_) (fun c_1 => ?_)
  · rw [if_neg c_1] at hE
    refine lv_aload_n hx hb dX0_scan_31 rfl (lv_at hl 1 rfl) ?_
    refine va_get (D := D) (ci := 1) (v := .int (nI ((FX0_decode bw bd bn (FX0_rowLength bw) bf).2.2))) (C := RX0) (T := TX0) (N := 3) hx hb hts iw_1 hown hK hP 0 rfl rfl 2 (by decide) (hts (.fieldLink RX0 18 "DepositCodes$Bars" "digitCount" "I") (by decide +kernel)) (fun _ h9 => h9) rfl dX0_scan_32 ?_
    subst hE
    exact W.iret hx hb hr (fun t ht hW => ⟨rfl, by rw [ht]; exact hP, hD, hS.F ht⟩) hS.2.2 dX0_scan_35
  · rw [if_pos c_1] at hE
    refine lv_aload_n hx hb dX0_scan_14 rfl (lv_at hl 1 rfl) ?_
    refine lv_iload_n hx hb dX0_scan_15 rfl (lv_at hl 0 rfl) ?_
    refine lv_iload_n hx hb dX0_scan_16 rfl (lv_at hl 2 rfl) ?_
    refine lv_if_ne (tgt := 24) hx hb dX0_scan_17 (by decide) (fun c_2 => ?_) (fun c_2 => ?_)
    · rw [if_neg c_2] at hE
      refine lv_iconst (v := 0) hx hb dX0_scan_24 (by decide) ?_
      refine mt_call0 (wr := []) (ws' := [(qb, .inr (1, [.ref b1, .ref b2, .int (nI ((FX0_decode bw ((FX0_decode bw bd bn (FX0_rowLength bw) bf).2.1) ((FX0_decode bw bd bn (FX0_rowLength bw) bf).2.2) (FX0_rowLength bw) 0).2.2))])), (b1, .inl (cI, 64, .inl bw)), (b2, .inl (cI, 14, .inl ((FX0_decode bw ((FX0_decode bw bd bn (FX0_rowLength bw) bf).2.1) ((FX0_decode bw bd bn (FX0_rowLength bw) bf).2.2) (FX0_rowLength bw) 0).2.1)))]) (st1 := [.int ((FX0_decode bw ((FX0_decode bw bd bn (FX0_rowLength bw) bf).2.1) ((FX0_decode bw bd bn (FX0_rowLength bw) bf).2.2) (FX0_rowLength bw) 0).1)]) (va_runV (As := [.int (nI (FX0_rowLength bw)), .int 0]) (rest := []) ⟨hx, hb, hml, hown, hts⟩ (kX0_decode l D cI cJ cZ qb b1 b2 bw ((FX0_decode bw bd bn (FX0_rowLength bw) bf).2.1) ((FX0_decode bw bd bn (FX0_rowLength bw) bf).2.2) (FX0_rowLength bw) 0 _ (FX0_rowLength_le bw)) (cwV 2 hts gX0_scan_X0_decode rfl rfl rfl (by decide +kernel) ⟨Nat.le_of_ble_eq_true rfl, Nat.le_of_ble_eq_true rfl⟩) ⟨mPz_blind, va_recv hK hP (ci := 1) (q0 := 0) rfl rfl, mPz_pre (hP.sub [0, 1, 2] rfl) (hD.sub [0, 1, 2] (by decide) rfl) hK hN (hZA.sub hS (va_free hD hS hA [0, 1, 2] rfl))⟩ rfl rfl hl.1 rfl (lv_room (Nat.le_of_ble_eq_true rfl)) dX0_scan_25 ⟨Nat.zero_le _, Nat.zero_le _⟩) hP hD hS hA [0, 1, 2] [] [0, 1, 2] rfl rfl (by decide) (by decide) (by decide) rfl rfl (fun H locs hP hD hS => ?_)
      refine lv_if_eq (tgt := 36) hx hb dX0_scan_28 (by decide) (fun c_3 => ?_) (fun c_3 => ?_)
      · rw [if_pos c_3] at hE
        refine lv_aload_n hx hb dX0_scan_36 rfl (lv_at hl 1 rfl) ?_
        refine lv_iconst (v := 0) hx hb dX0_scan_37 (by decide) ?_
        refine va_put (D := D) (ci := 1) (v := .int 0) (ty := .int) (C := RX0) (T := TX0) (N := 3) hx hb hts iw_1 tyX0 tyX0_ok nmX0 hown hK hP hD hS 0 rfl rfl 2 (by decide) (hts (.fieldLink RX0 18 "DepositCodes$Bars" "digitCount" "I") (by decide +kernel)) (fun _ h9 => h9) rfl (by decide +kernel) rfl rfl (Nat.le_of_ble_eq_true rfl) dX0_scan_38 (fun H locs hP hD hS => ?_)
        have hP : va_P D vwCl [(qb, .inr (1, [.ref b1, .ref b2, .int 0])), (b1, .inl (cI, 64, .inl bw)), (b2, .inl (cI, 14, .inl ((FX0_decode bw ((FX0_decode bw bd bn (FX0_rowLength bw) bf).2.1) ((FX0_decode bw bd bn (FX0_rowLength bw) bf).2.2) (FX0_rowLength bw) 0).2.1)))] H := hP
        have hD : va_D A [(qb, .inr (1, [.ref b1, .ref b2, .int 0])), (b1, .inl (cI, 64, .inl bw)), (b2, .inl (cI, 14, .inl ((FX0_decode bw ((FX0_decode bw bd bn (FX0_rowLength bw) bf).2.1) ((FX0_decode bw bd bn (FX0_rowLength bw) bf).2.2) (FX0_rowLength bw) 0).2.1)))] := hD
        refine lv_iconst (v := (-1)) hx hb dX0_scan_41 (by decide) ?_
        subst hE
        exact W.iret hx hb hr (fun t ht hW => ⟨rfl, by rw [ht]; exact hP, hD, hS.F ht⟩) hS.2.2 dX0_scan_42
      · rw [if_neg c_3] at hE
        refine lv_aload_n hx hb dX0_scan_31 rfl (lv_at hl 1 rfl) ?_
        refine va_get (D := D) (ci := 1) (v := .int (nI ((FX0_decode bw ((FX0_decode bw bd bn (FX0_rowLength bw) bf).2.1) ((FX0_decode bw bd bn (FX0_rowLength bw) bf).2.2) (FX0_rowLength bw) 0).2.2))) (C := RX0) (T := TX0) (N := 3) hx hb hts iw_1 hown hK hP 0 rfl rfl 2 (by decide) (hts (.fieldLink RX0 18 "DepositCodes$Bars" "digitCount" "I") (by decide +kernel)) (fun _ h9 => h9) rfl dX0_scan_32 ?_
        subst hE
        exact W.iret hx hb hr (fun t ht hW => ⟨rfl, by rw [ht]; exact hP, hD, hS.F ht⟩) hS.2.2 dX0_scan_35
    · rw [if_pos c_2] at hE
      refine lv_iconst (v := 1) hx hb dX0_scan_20 (by decide) ?_
      refine lv_goto (tgt := 25) hx hb dX0_scan_21 (by decide) ?_
      refine mt_call0 (wr := []) (ws' := [(qb, .inr (1, [.ref b1, .ref b2, .int (nI ((FX0_decode bw ((FX0_decode bw bd bn (FX0_rowLength bw) bf).2.1) ((FX0_decode bw bd bn (FX0_rowLength bw) bf).2.2) (FX0_rowLength bw) 1).2.2))])), (b1, .inl (cI, 64, .inl bw)), (b2, .inl (cI, 14, .inl ((FX0_decode bw ((FX0_decode bw bd bn (FX0_rowLength bw) bf).2.1) ((FX0_decode bw bd bn (FX0_rowLength bw) bf).2.2) (FX0_rowLength bw) 1).2.1)))]) (st1 := [.int ((FX0_decode bw ((FX0_decode bw bd bn (FX0_rowLength bw) bf).2.1) ((FX0_decode bw bd bn (FX0_rowLength bw) bf).2.2) (FX0_rowLength bw) 1).1)]) (va_runV (As := [.int (nI (FX0_rowLength bw)), .int 1]) (rest := []) ⟨hx, hb, hml, hown, hts⟩ (kX0_decode l D cI cJ cZ qb b1 b2 bw ((FX0_decode bw bd bn (FX0_rowLength bw) bf).2.1) ((FX0_decode bw bd bn (FX0_rowLength bw) bf).2.2) (FX0_rowLength bw) 1 _ (FX0_rowLength_le bw)) (cwV 2 hts gX0_scan_X0_decode rfl rfl rfl (by decide +kernel) ⟨Nat.le_of_ble_eq_true rfl, Nat.le_of_ble_eq_true rfl⟩) ⟨mPz_blind, va_recv hK hP (ci := 1) (q0 := 0) rfl rfl, mPz_pre (hP.sub [0, 1, 2] rfl) (hD.sub [0, 1, 2] (by decide) rfl) hK hN (hZA.sub hS (va_free hD hS hA [0, 1, 2] rfl))⟩ rfl rfl hl.1 rfl (lv_room (Nat.le_of_ble_eq_true rfl)) dX0_scan_25 ⟨Nat.zero_le _, Nat.zero_le _⟩) hP hD hS hA [0, 1, 2] [] [0, 1, 2] rfl rfl (by decide) (by decide) (by decide) rfl rfl (fun H locs hP hD hS => ?_)
      refine lv_if_eq (tgt := 36) hx hb dX0_scan_28 (by decide) (fun c_4 => ?_) (fun c_4 => ?_)
      · rw [if_pos c_4] at hE
        refine lv_aload_n hx hb dX0_scan_36 rfl (lv_at hl 1 rfl) ?_
        refine lv_iconst (v := 0) hx hb dX0_scan_37 (by decide) ?_
        refine va_put (D := D) (ci := 1) (v := .int 0) (ty := .int) (C := RX0) (T := TX0) (N := 3) hx hb hts iw_1 tyX0 tyX0_ok nmX0 hown hK hP hD hS 0 rfl rfl 2 (by decide) (hts (.fieldLink RX0 18 "DepositCodes$Bars" "digitCount" "I") (by decide +kernel)) (fun _ h9 => h9) rfl (by decide +kernel) rfl rfl (Nat.le_of_ble_eq_true rfl) dX0_scan_38 (fun H locs hP hD hS => ?_)
        have hP : va_P D vwCl [(qb, .inr (1, [.ref b1, .ref b2, .int 0])), (b1, .inl (cI, 64, .inl bw)), (b2, .inl (cI, 14, .inl ((FX0_decode bw ((FX0_decode bw bd bn (FX0_rowLength bw) bf).2.1) ((FX0_decode bw bd bn (FX0_rowLength bw) bf).2.2) (FX0_rowLength bw) 1).2.1)))] H := hP
        have hD : va_D A [(qb, .inr (1, [.ref b1, .ref b2, .int 0])), (b1, .inl (cI, 64, .inl bw)), (b2, .inl (cI, 14, .inl ((FX0_decode bw ((FX0_decode bw bd bn (FX0_rowLength bw) bf).2.1) ((FX0_decode bw bd bn (FX0_rowLength bw) bf).2.2) (FX0_rowLength bw) 1).2.1)))] := hD
        refine lv_iconst (v := (-1)) hx hb dX0_scan_41 (by decide) ?_
        subst hE
        exact W.iret hx hb hr (fun t ht hW => ⟨rfl, by rw [ht]; exact hP, hD, hS.F ht⟩) hS.2.2 dX0_scan_42
      · rw [if_neg c_4] at hE
        refine lv_aload_n hx hb dX0_scan_31 rfl (lv_at hl 1 rfl) ?_
        refine va_get (D := D) (ci := 1) (v := .int (nI ((FX0_decode bw ((FX0_decode bw bd bn (FX0_rowLength bw) bf).2.1) ((FX0_decode bw bd bn (FX0_rowLength bw) bf).2.2) (FX0_rowLength bw) 1).2.2))) (C := RX0) (T := TX0) (N := 3) hx hb hts iw_1 hown hK hP 0 rfl rfl 2 (by decide) (hts (.fieldLink RX0 18 "DepositCodes$Bars" "digitCount" "I") (by decide +kernel)) (fun _ h9 => h9) rfl dX0_scan_32 ?_
        subst hE
        exact W.iret hx hb hr (fun t ht hW => ⟨rfl, by rw [ht]; exact hP, hD, hS.F ht⟩) hS.2.2 dX0_scan_35
end
