section
-- ===== PART A: goes FIRST, ahead of the names: the tables' words, and 'selects' of the private methods out of them =====
/-- a private method of a class that the tables say can be made, by its rows of tables_1 -/
def lw_okq (q : MethodName × Nat) : Prop := (q.1.cls ≠ "java/lang/invoke/MethodHandle" ∧ q.1.cls ≠ "java/lang/invoke/VarHandle") ∧ Cond.instantiable q.1.cls q.2 ∈ tables_1 ∧ Cond.privateMethod q.1 ∈ tables_1 ∧ Cond.instanceMethod q.1 ∈ tables_1
theorem lw_p0 : lw_okq (⟨"DairyShares", "keepState", "()V"⟩, 7) := ⟨⟨by decide +kernel, by decide +kernel⟩, List.mem_of_getElem? (i := 13) (by decide +kernel), List.mem_of_getElem? (i := 268) (by decide +kernel), List.mem_of_getElem? (i := 269) (by decide +kernel)⟩
theorem lw_p1 : lw_okq (⟨"DairySharesModel", "notes", "()V"⟩, 6) := ⟨⟨by decide +kernel, by decide +kernel⟩, List.mem_of_getElem? (i := 678) (by decide +kernel), List.mem_of_getElem? (i := 714) (by decide +kernel), List.mem_of_getElem? (i := 715) (by decide +kernel)⟩
theorem lw_p2 : lw_okq (⟨"DairySharesModel", "isMember", "(I)Z"⟩, 6) := ⟨⟨by decide +kernel, by decide +kernel⟩, List.mem_of_getElem? (i := 678) (by decide +kernel), List.mem_of_getElem? (i := 722) (by decide +kernel), List.mem_of_getElem? (i := 723) (by decide +kernel)⟩
theorem lw_p3 : lw_okq (⟨"DairySharesModel", "all", "()J"⟩, 6) := ⟨⟨by decide +kernel, by decide +kernel⟩, List.mem_of_getElem? (i := 678) (by decide +kernel), List.mem_of_getElem? (i := 730) (by decide +kernel), List.mem_of_getElem? (i := 731) (by decide +kernel)⟩
theorem lw_p4 : lw_okq (⟨"DairySharesModel", "puts", "(II)I"⟩, 6) := ⟨⟨by decide +kernel, by decide +kernel⟩, List.mem_of_getElem? (i := 678) (by decide +kernel), List.mem_of_getElem? (i := 743) (by decide +kernel), List.mem_of_getElem? (i := 744) (by decide +kernel)⟩
theorem lw_p5 : lw_okq (⟨"DairySharesModel", "requirementOf", "(I)J"⟩, 6) := ⟨⟨by decide +kernel, by decide +kernel⟩, List.mem_of_getElem? (i := 678) (by decide +kernel), List.mem_of_getElem? (i := 772) (by decide +kernel), List.mem_of_getElem? (i := 773) (by decide +kernel)⟩
theorem lw_p6 : lw_okq (⟨"DairySharesModel", "freeOf", "(I)J"⟩, 6) := ⟨⟨by decide +kernel, by decide +kernel⟩, List.mem_of_getElem? (i := 678) (by decide +kernel), List.mem_of_getElem? (i := 780) (by decide +kernel), List.mem_of_getElem? (i := 781) (by decide +kernel)⟩
theorem lw_p7 : lw_okq (⟨"DairySharesModel", "roomOf", "(I)J"⟩, 6) := ⟨⟨by decide +kernel, by decide +kernel⟩, List.mem_of_getElem? (i := 678) (by decide +kernel), List.mem_of_getElem? (i := 791) (by decide +kernel), List.mem_of_getElem? (i := 792) (by decide +kernel)⟩
theorem lw_p8 : lw_okq (⟨"DairySharesModel", "mean", "()J"⟩, 6) := ⟨⟨by decide +kernel, by decide +kernel⟩, List.mem_of_getElem? (i := 678) (by decide +kernel), List.mem_of_getElem? (i := 823) (by decide +kernel), List.mem_of_getElem? (i := 824) (by decide +kernel)⟩
theorem lw_p9 : lw_okq (⟨"DairySharesModel", "isOffer", "(I)Z"⟩, 6) := ⟨⟨by decide +kernel, by decide +kernel⟩, List.mem_of_getElem? (i := 678) (by decide +kernel), List.mem_of_getElem? (i := 846) (by decide +kernel), List.mem_of_getElem? (i := 847) (by decide +kernel)⟩
theorem lw_p10 : lw_okq (⟨"DairySharesModel", "canClaim", "(II)Z"⟩, 6) := ⟨⟨by decide +kernel, by decide +kernel⟩, List.mem_of_getElem? (i := 678) (by decide +kernel), List.mem_of_getElem? (i := 850) (by decide +kernel), List.mem_of_getElem? (i := 851) (by decide +kernel)⟩
theorem lw_p11 : lw_okq (⟨"DairySharesModel", "claims", "(I)I"⟩, 6) := ⟨⟨by decide +kernel, by decide +kernel⟩, List.mem_of_getElem? (i := 678) (by decide +kernel), List.mem_of_getElem? (i := 854) (by decide +kernel), List.mem_of_getElem? (i := 855) (by decide +kernel)⟩
theorem lw_p12 : lw_okq (⟨"DairySharesModel", "begins", "(IJ)V"⟩, 6) := ⟨⟨by decide +kernel, by decide +kernel⟩, List.mem_of_getElem? (i := 678) (by decide +kernel), List.mem_of_getElem? (i := 862) (by decide +kernel), List.mem_of_getElem? (i := 863) (by decide +kernel)⟩
theorem lw_p13 : lw_okq (⟨"DairySharesModel", "ends", "(I)Z"⟩, 6) := ⟨⟨by decide +kernel, by decide +kernel⟩, List.mem_of_getElem? (i := 678) (by decide +kernel), List.mem_of_getElem? (i := 871) (by decide +kernel), List.mem_of_getElem? (i := 872) (by decide +kernel)⟩
theorem lw_p14 : lw_okq (⟨"DairySharesModel", "claimed", "(I)V"⟩, 6) := ⟨⟨by decide +kernel, by decide +kernel⟩, List.mem_of_getElem? (i := 678) (by decide +kernel), List.mem_of_getElem? (i := 875) (by decide +kernel), List.mem_of_getElem? (i := 876) (by decide +kernel)⟩
theorem lw_p15 : lw_okq (⟨"DairySharesModel", "parts", "(J)V"⟩, 6) := ⟨⟨by decide +kernel, by decide +kernel⟩, List.mem_of_getElem? (i := 678) (by decide +kernel), List.mem_of_getElem? (i := 882) (by decide +kernel), List.mem_of_getElem? (i := 883) (by decide +kernel)⟩
def lw_privs_1 : List (MethodName × Nat) := [(⟨"DairyShares", "keepState", "()V"⟩, 7), (⟨"DairySharesModel", "notes", "()V"⟩, 6), (⟨"DairySharesModel", "isMember", "(I)Z"⟩, 6), (⟨"DairySharesModel", "all", "()J"⟩, 6), (⟨"DairySharesModel", "puts", "(II)I"⟩, 6), (⟨"DairySharesModel", "requirementOf", "(I)J"⟩, 6), (⟨"DairySharesModel", "freeOf", "(I)J"⟩, 6), (⟨"DairySharesModel", "roomOf", "(I)J"⟩, 6), (⟨"DairySharesModel", "mean", "()J"⟩, 6), (⟨"DairySharesModel", "isOffer", "(I)Z"⟩, 6), (⟨"DairySharesModel", "canClaim", "(II)Z"⟩, 6), (⟨"DairySharesModel", "claims", "(I)I"⟩, 6), (⟨"DairySharesModel", "begins", "(IJ)V"⟩, 6), (⟨"DairySharesModel", "ends", "(I)Z"⟩, 6), (⟨"DairySharesModel", "claimed", "(I)V"⟩, 6), (⟨"DairySharesModel", "parts", "(J)V"⟩, 6)]
theorem lw_r1 : ∀ q ∈ lw_privs_1, lw_okq q := List.forall_mem_cons.mpr ⟨lw_p0, List.forall_mem_cons.mpr ⟨lw_p1, List.forall_mem_cons.mpr ⟨lw_p2, List.forall_mem_cons.mpr ⟨lw_p3, List.forall_mem_cons.mpr ⟨lw_p4, List.forall_mem_cons.mpr ⟨lw_p5, List.forall_mem_cons.mpr ⟨lw_p6, List.forall_mem_cons.mpr ⟨lw_p7, List.forall_mem_cons.mpr ⟨lw_p8, List.forall_mem_cons.mpr ⟨lw_p9, List.forall_mem_cons.mpr ⟨lw_p10, List.forall_mem_cons.mpr ⟨lw_p11, List.forall_mem_cons.mpr ⟨lw_p12, List.forall_mem_cons.mpr ⟨lw_p13, List.forall_mem_cons.mpr ⟨lw_p14, List.forall_mem_cons.mpr ⟨lw_p15, fun _ h => absurd h List.not_mem_nil⟩⟩⟩⟩⟩⟩⟩⟩⟩⟩⟩⟩⟩⟩⟩⟩
theorem lw_p16 : lw_okq (⟨"DairySharesModel", "greatest", "()I"⟩, 6) := ⟨⟨by decide +kernel, by decide +kernel⟩, List.mem_of_getElem? (i := 678) (by decide +kernel), List.mem_of_getElem? (i := 886) (by decide +kernel), List.mem_of_getElem? (i := 887) (by decide +kernel)⟩
theorem lw_p17 : lw_okq (⟨"DairySharesModel", "sells", "(IIJJI)V"⟩, 6) := ⟨⟨by decide +kernel, by decide +kernel⟩, List.mem_of_getElem? (i := 678) (by decide +kernel), List.mem_of_getElem? (i := 890) (by decide +kernel), List.mem_of_getElem? (i := 891) (by decide +kernel)⟩
theorem lw_p18 : lw_okq (⟨"DairySharesModel", "bought", "(I)V"⟩, 6) := ⟨⟨by decide +kernel, by decide +kernel⟩, List.mem_of_getElem? (i := 678) (by decide +kernel), List.mem_of_getElem? (i := 894) (by decide +kernel), List.mem_of_getElem? (i := 895) (by decide +kernel)⟩
theorem lw_p19 : lw_okq (⟨"DairySharesModel", "isMotion", "(I)Z"⟩, 6) := ⟨⟨by decide +kernel, by decide +kernel⟩, List.mem_of_getElem? (i := 678) (by decide +kernel), List.mem_of_getElem? (i := 941) (by decide +kernel), List.mem_of_getElem? (i := 942) (by decide +kernel)⟩
theorem lw_p20 : lw_okq (⟨"DairySharesModel", "voters", "(I)I"⟩, 6) := ⟨⟨by decide +kernel, by decide +kernel⟩, List.mem_of_getElem? (i := 678) (by decide +kernel), List.mem_of_getElem? (i := 945) (by decide +kernel), List.mem_of_getElem? (i := 946) (by decide +kernel)⟩
theorem lw_p21 : lw_okq (⟨"DairySharesModel", "sum", "(IJ)J"⟩, 6) := ⟨⟨by decide +kernel, by decide +kernel⟩, List.mem_of_getElem? (i := 678) (by decide +kernel), List.mem_of_getElem? (i := 953) (by decide +kernel), List.mem_of_getElem? (i := 954) (by decide +kernel)⟩
theorem lw_p22 : lw_okq (⟨"DairySharesModel", "votesOf", "(I)J"⟩, 6) := ⟨⟨by decide +kernel, by decide +kernel⟩, List.mem_of_getElem? (i := 678) (by decide +kernel), List.mem_of_getElem? (i := 957) (by decide +kernel), List.mem_of_getElem? (i := 958) (by decide +kernel)⟩
theorem lw_p23 : lw_okq (⟨"DairySharesModel", "does", "(I)V"⟩, 6) := ⟨⟨by decide +kernel, by decide +kernel⟩, List.mem_of_getElem? (i := 678) (by decide +kernel), List.mem_of_getElem? (i := 961) (by decide +kernel), List.mem_of_getElem? (i := 962) (by decide +kernel)⟩
def lw_privs_2 : List (MethodName × Nat) := [(⟨"DairySharesModel", "greatest", "()I"⟩, 6), (⟨"DairySharesModel", "sells", "(IIJJI)V"⟩, 6), (⟨"DairySharesModel", "bought", "(I)V"⟩, 6), (⟨"DairySharesModel", "isMotion", "(I)Z"⟩, 6), (⟨"DairySharesModel", "voters", "(I)I"⟩, 6), (⟨"DairySharesModel", "sum", "(IJ)J"⟩, 6), (⟨"DairySharesModel", "votesOf", "(I)J"⟩, 6), (⟨"DairySharesModel", "does", "(I)V"⟩, 6)]
theorem lw_r2 : ∀ q ∈ lw_privs_2, lw_okq q := List.forall_mem_cons.mpr ⟨lw_p16, List.forall_mem_cons.mpr ⟨lw_p17, List.forall_mem_cons.mpr ⟨lw_p18, List.forall_mem_cons.mpr ⟨lw_p19, List.forall_mem_cons.mpr ⟨lw_p20, List.forall_mem_cons.mpr ⟨lw_p21, List.forall_mem_cons.mpr ⟨lw_p22, List.forall_mem_cons.mpr ⟨lw_p23, fun _ h => absurd h List.not_mem_nil⟩⟩⟩⟩⟩⟩⟩⟩
def lw_privs : List (MethodName × Nat) := lw_privs_1 ++ (lw_privs_2)
def lw_tbl : List Cond := k2_sels lw_privs ++ tables_1
theorem lw_privs_ok : ∀ q ∈ lw_privs, lw_okq q := by
  show ∀ q ∈ lw_privs_1 ++ (lw_privs_2), lw_okq q
  exact List.forall_mem_append.mpr ⟨lw_r1, lw_r2⟩
end
section
/-! ===== BEGIN words of one list among another's, by their places ===== -/
theorem goodIn_r {big : List Cond} (ws : List Cond) (ps : List Nat) (hp : ws = ps.filterMap (fun i => big[i]?)) (h : ws.all goodWord = true) : GoodIn big ws := by
  intro w hw
  have h1 := List.all_eq_true.mp h w hw
  rw [hp] at hw
  obtain ⟨i, -, hi⟩ := List.mem_filterMap.mp hw
  have hm : w ∈ big := by first | exact List.mem_of_getElem? hi | exact List.getElem?_mem hi
  exact ⟨hm, good_of_word h1⟩
theorem goodIn_app {big a b : List Cond} (ha : GoodIn big a) (hb : GoodIn big b) : GoodIn big (a ++ b) := fun w h => (List.mem_append.mp h).elim (ha w) (hb w)
theorem goodIn_ca {big a b : List Cond} {c : Cond} (ha : GoodIn big (c :: a)) (hb : GoodIn big b) : GoodIn big (c :: (a ++ b)) := fun w h => (List.mem_cons.mp h).elim (fun e => ha w (List.mem_cons.mpr (Or.inl e))) (fun h => (List.mem_append.mp h).elim (fun h => ha w (List.mem_cons.mpr (Or.inr h))) (hb w))
theorem goodIn_sub {big ws : List Cond} (hm : ∀ w ∈ ws, w ∈ big) (h : ws.all goodWord = true) : GoodIn big ws := fun w hw => ⟨hm w hw, good_of_word (List.all_eq_true.mp h w hw)⟩
/-! ===== END ===== -/

/-! ===== BEGIN printed: names, fields, word lists, decode rows ===== -/
def RX0 : String := "DairyShares$Books"
def TX0 : u_T := fun k => match k with
  | 0 => ("DairyShares$Books", "assets", "I", false)
  | 1 => ("DairyShares$Books", "debts", "I", false)
  | 2 => ("DairyShares$Books", "price", "I", false)
  | 3 => ("DairyShares$Books", "surplusCount", "I", false)
  | _ => ("DairyShares$Books", "surpluses", "[I", true)
def tyX0 : Nat → FieldType := fun k => match k with
  | 0 => .int
  | 1 => .int
  | 2 => .int
  | 3 => .int
  | _ => .array .int
abbrev wsX00 : List Cond := u_ws RX0 TX0 5
theorem nmX0 : ∀ a, a < 5 → ∀ b, b < 5 → a ≠ b → (TX0 a).2.1 ≠ (TX0 b).2.1 := by decide +kernel
theorem tyX0_ok : ∀ k, k < 5 → parseFieldDescriptor (TX0 k).2.2.1 = some (tyX0 k) := by decide +kernel
abbrev cX0_init : ByteArray := prog_2_method_1_code
def yX0_init : MethodName := ⟨RX0, "<init>", "()V"⟩
abbrev cX0_copyFrom : ByteArray := prog_2_method_2_code
def yX0_copyFrom : MethodName := ⟨RX0, "copyFrom", "(LDairyShares$Books;)V"⟩
abbrev cX0_recordSurplus : ByteArray := prog_2_method_3_code
def yX0_recordSurplus : MethodName := ⟨RX0, "recordSurplus", "(I)V"⟩
abbrev cX0_meanSurplus : ByteArray := prog_2_method_4_code
def yX0_meanSurplus : MethodName := ⟨RX0, "meanSurplus", "()I"⟩
abbrev cX0_valueOfOne : ByteArray := prog_2_method_5_code
def yX0_valueOfOne : MethodName := ⟨RX0, "valueOfOne", "(I)I"⟩
def RX1 : String := "DairyShares$Members"
def TX1 : u_T := fun k => match k with
  | 0 => ("DairyShares$Members", "count", "I", false)
  | 1 => ("DairyShares$Members", "shares", "[I", true)
  | 2 => ("DairyShares$Members", "milk", "[I", true)
  | _ => ("DairyShares$Members", "account", "[J", true)
def tyX1 : Nat → FieldType := fun k => match k with
  | 0 => .int
  | 1 => .array .int
  | 2 => .array .int
  | _ => .array .long
abbrev wsX10 : List Cond := u_ws RX1 TX1 4
theorem nmX1 : ∀ a, a < 4 → ∀ b, b < 4 → a ≠ b → (TX1 a).2.1 ≠ (TX1 b).2.1 := by decide +kernel
theorem tyX1_ok : ∀ k, k < 4 → parseFieldDescriptor (TX1 k).2.2.1 = some (tyX1 k) := by decide +kernel
abbrev cX1_init : ByteArray := prog_3_method_1_code
def yX1_init : MethodName := ⟨RX1, "<init>", "()V"⟩
abbrev cX1_copyFrom : ByteArray := prog_3_method_2_code
def yX1_copyFrom : MethodName := ⟨RX1, "copyFrom", "(LDairyShares$Members;)V"⟩
abbrev cX1_has : ByteArray := prog_3_method_3_code
def yX1_has : MethodName := ⟨RX1, "has", "(I)Z"⟩
def RX2 : String := "DairyShares$Motions"
def TX2 : u_T := fun k => match k with
  | 0 => ("DairyShares$Motions", "count", "I", false)
  | 1 => ("DairyShares$Motions", "kind", "[I", true)
  | 2 => ("DairyShares$Motions", "value", "[I", true)
  | 3 => ("DairyShares$Motions", "state", "[I", true)
  | _ => ("DairyShares$Motions", "ballots", "[I", true)
def tyX2 : Nat → FieldType := fun k => match k with
  | 0 => .int
  | 1 => .array .int
  | 2 => .array .int
  | 3 => .array .int
  | _ => .array .int
abbrev wsX20 : List Cond := u_ws RX2 TX2 5
theorem nmX2 : ∀ a, a < 5 → ∀ b, b < 5 → a ≠ b → (TX2 a).2.1 ≠ (TX2 b).2.1 := by decide +kernel
theorem tyX2_ok : ∀ k, k < 5 → parseFieldDescriptor (TX2 k).2.2.1 = some (tyX2 k) := by decide +kernel
abbrev cX2_init : ByteArray := prog_4_method_1_code
def yX2_init : MethodName := ⟨RX2, "<init>", "()V"⟩
abbrev cX2_copyFrom : ByteArray := prog_4_method_2_code
def yX2_copyFrom : MethodName := ⟨RX2, "copyFrom", "(LDairyShares$Motions;)V"⟩
abbrev cX2_has : ByteArray := prog_4_method_3_code
def yX2_has : MethodName := ⟨RX2, "has", "(I)Z"⟩
abbrev cX2_isOpen : ByteArray := prog_4_method_4_code
def yX2_isOpen : MethodName := ⟨RX2, "isOpen", "(I)Z"⟩
abbrev cX2_add : ByteArray := prog_4_method_5_code
def yX2_add : MethodName := ⟨RX2, "add", "(II)I"⟩
abbrev cX2_ballotOf : ByteArray := prog_4_method_6_code
def yX2_ballotOf : MethodName := ⟨RX2, "ballotOf", "(II)I"⟩
abbrev cX2_setBallot : ByteArray := prog_4_method_7_code
def yX2_setBallot : MethodName := ⟨RX2, "setBallot", "(III)V"⟩
abbrev cX2_countBallots : ByteArray := prog_4_method_8_code
def yX2_countBallots : MethodName := ⟨RX2, "countBallots", "(I)I"⟩
def RX3 : String := "DairyShares$Offers"
def TX3 : u_T := fun k => match k with
  | 0 => ("DairyShares$Offers", "count", "I", false)
  | 1 => ("DairyShares$Offers", "seller", "[I", true)
  | 2 => ("DairyShares$Offers", "buyer", "[I", true)
  | 3 => ("DairyShares$Offers", "offered", "[I", true)
  | 4 => ("DairyShares$Offers", "remaining", "[I", true)
  | 5 => ("DairyShares$Offers", "stage", "[I", true)
  | 6 => ("DairyShares$Offers", "daysLeft", "[I", true)
  | 7 => ("DairyShares$Offers", "sales", "[I", true)
  | _ => ("DairyShares$Offers", "claims", "[I", true)
def tyX3 : Nat → FieldType := fun k => match k with
  | 0 => .int
  | 1 => .array .int
  | 2 => .array .int
  | 3 => .array .int
  | 4 => .array .int
  | 5 => .array .int
  | 6 => .array .int
  | 7 => .array .int
  | _ => .array .int
abbrev wsX30 : List Cond := u_ws RX3 TX3 9
theorem nmX3 : ∀ a, a < 9 → ∀ b, b < 9 → a ≠ b → (TX3 a).2.1 ≠ (TX3 b).2.1 := by decide +kernel
theorem tyX3_ok : ∀ k, k < 9 → parseFieldDescriptor (TX3 k).2.2.1 = some (tyX3 k) := by decide +kernel
abbrev cX3_init : ByteArray := prog_5_method_1_code
def yX3_init : MethodName := ⟨RX3, "<init>", "()V"⟩
abbrev cX3_copyFrom : ByteArray := prog_5_method_2_code
def yX3_copyFrom : MethodName := ⟨RX3, "copyFrom", "(LDairyShares$Offers;)V"⟩
abbrev cX3_has : ByteArray := prog_5_method_3_code
def yX3_has : MethodName := ⟨RX3, "has", "(I)Z"⟩
abbrev cX3_isOpen : ByteArray := prog_5_method_4_code
def yX3_isOpen : MethodName := ⟨RX3, "isOpen", "(I)Z"⟩
abbrev cX3_add : ByteArray := prog_5_method_5_code
def yX3_add : MethodName := ⟨RX3, "add", "(IIII)I"⟩
abbrev cX3_beginStage : ByteArray := prog_5_method_6_code
def yX3_beginStage : MethodName := ⟨RX3, "beginStage", "(III)V"⟩
abbrev cX3_losesLastDay : ByteArray := prog_5_method_7_code
def yX3_losesLastDay : MethodName := ⟨RX3, "losesLastDay", "(I)Z"⟩
abbrev cX3_close : ByteArray := prog_5_method_8_code
def yX3_close : MethodName := ⟨RX3, "close", "(I)V"⟩
abbrev cX3_claimBy : ByteArray := prog_5_method_9_code
def yX3_claimBy : MethodName := ⟨RX3, "claimBy", "(II)I"⟩
abbrev cX3_setClaim : ByteArray := prog_5_method_10_code
def yX3_setClaim : MethodName := ⟨RX3, "setClaim", "(III)V"⟩
abbrev cX3_clearClaims : ByteArray := prog_5_method_11_code
def yX3_clearClaims : MethodName := ⟨RX3, "clearClaims", "(I)V"⟩
abbrev cX3_sumOfClaims : ByteArray := prog_5_method_12_code
def yX3_sumOfClaims : MethodName := ⟨RX3, "sumOfClaims", "(I)I"⟩
abbrev cX3_soldTo : ByteArray := prog_5_method_13_code
def yX3_soldTo : MethodName := ⟨RX3, "soldTo", "(II)I"⟩
abbrev cX3_recordSale : ByteArray := prog_5_method_14_code
def yX3_recordSale : MethodName := ⟨RX3, "recordSale", "(III)V"⟩
abbrev cX3_remainingOf : ByteArray := prog_5_method_15_code
def yX3_remainingOf : MethodName := ⟨RX3, "remainingOf", "(I)I"⟩
def RX4 : String := "DairyShares$Register"
def TX4 : u_T := fun k => match k with
  | 0 => ("DairyShares$Register", "members", "LDairyShares$Members;", true)
  | 1 => ("DairyShares$Register", "settings", "LDairyShares$Settings;", true)
  | 2 => ("DairyShares$Register", "books", "LDairyShares$Books;", true)
  | 3 => ("DairyShares$Register", "offers", "LDairyShares$Offers;", true)
  | 4 => ("DairyShares$Register", "motions", "LDairyShares$Motions;", true)
  | 5 => ("DairyShares$Register", "treasuryShares", "I", false)
  | _ => ("DairyShares$Register", "daysPassed", "I", false)
def tyX4 : Nat → FieldType := fun k => match k with
  | 0 => .object "DairyShares$Members"
  | 1 => .object "DairyShares$Settings"
  | 2 => .object "DairyShares$Books"
  | 3 => .object "DairyShares$Offers"
  | 4 => .object "DairyShares$Motions"
  | 5 => .int
  | _ => .int
abbrev wsX40 : List Cond := u_ws RX4 TX4 7
theorem nmX4 : ∀ a, a < 7 → ∀ b, b < 7 → a ≠ b → (TX4 a).2.1 ≠ (TX4 b).2.1 := by decide +kernel
theorem tyX4_ok : ∀ k, k < 7 → parseFieldDescriptor (TX4 k).2.2.1 = some (tyX4 k) := by decide +kernel
abbrev cX4_init : ByteArray := prog_6_method_1_code
def yX4_init : MethodName := ⟨RX4, "<init>", "()V"⟩
abbrev cX4_copyFrom : ByteArray := prog_6_method_2_code
def yX4_copyFrom : MethodName := ⟨RX4, "copyFrom", "(LDairyShares$Register;)V"⟩
abbrev cX4_countAllShares : ByteArray := prog_6_method_3_code
def yX4_countAllShares : MethodName := ⟨RX4, "countAllShares", "()I"⟩
abbrev cX4_requirementOf : ByteArray := prog_6_method_4_code
def yX4_requirementOf : MethodName := ⟨RX4, "requirementOf", "(I)I"⟩
abbrev cX4_freeSharesOf : ByteArray := prog_6_method_5_code
def yX4_freeSharesOf : MethodName := ⟨RX4, "freeSharesOf", "(I)I"⟩
abbrev cX4_roomOf : ByteArray := prog_6_method_6_code
def yX4_roomOf : MethodName := ⟨RX4, "roomOf", "(I)I"⟩
abbrev cX4_isNeedy : ByteArray := prog_6_method_7_code
def yX4_isNeedy : MethodName := ⟨RX4, "isNeedy", "(I)Z"⟩
abbrev cX4_canClaim : ByteArray := prog_6_method_8_code
def yX4_canClaim : MethodName := ⟨RX4, "canClaim", "(II)Z"⟩
abbrev cX4_runDay : ByteArray := prog_6_method_9_code
def yX4_runDay : MethodName := ⟨RX4, "runDay", "(LDairyShares$Split;)I"⟩
abbrev cX4_endStage : ByteArray := prog_6_method_10_code
def yX4_endStage : MethodName := ⟨RX4, "endStage", "(ILDairyShares$Split;)V"⟩
abbrev cX4_sellToClaimants : ByteArray := prog_6_method_11_code
def yX4_sellToClaimants : MethodName := ⟨RX4, "sellToClaimants", "(IILDairyShares$Split;)V"⟩
abbrev cX4_sellToTreasury : ByteArray := prog_6_method_12_code
def yX4_sellToTreasury : MethodName := ⟨RX4, "sellToTreasury", "(I)V"⟩
abbrev cX4_sellToBuyer : ByteArray := prog_6_method_13_code
def yX4_sellToBuyer : MethodName := ⟨RX4, "sellToBuyer", "(I)V"⟩
abbrev cX4_sellToMember : ByteArray := prog_6_method_14_code
def yX4_sellToMember : MethodName := ⟨RX4, "sellToMember", "(IIIII)V"⟩
abbrev cX4_takeFromSeller : ByteArray := prog_6_method_15_code
def yX4_takeFromSeller : MethodName := ⟨RX4, "takeFromSeller", "(IIII)V"⟩
abbrev cX4_votesOf : ByteArray := prog_6_method_16_code
def yX4_votesOf : MethodName := ⟨RX4, "votesOf", "(I)I"⟩
abbrev cX4_sumOfVotes : ByteArray := prog_6_method_17_code
def yX4_sumOfVotes : MethodName := ⟨RX4, "sumOfVotes", "(II)I"⟩
abbrev cX4_passes : ByteArray := prog_6_method_18_code
def yX4_passes : MethodName := ⟨RX4, "passes", "(I)Z"⟩
abbrev cX4_carryOut : ByteArray := prog_6_method_19_code
def yX4_carryOut : MethodName := ⟨RX4, "carryOut", "(II)V"⟩
abbrev cX4_payDividend : ByteArray := prog_6_method_20_code
def yX4_payDividend : MethodName := ⟨RX4, "payDividend", "(I)V"⟩
def RX5 : String := "DairyShares$Settings"
def TX5 : u_T := fun k => match k with
  | 0 => ("DairyShares$Settings", "litersPerShare", "I", false)
  | 1 => ("DairyShares$Settings", "treasuryLimit", "I", false)
  | 2 => ("DairyShares$Settings", "parValue", "I", false)
  | 3 => ("DairyShares$Settings", "cap", "I", false)
  | 4 => ("DairyShares$Settings", "stageLength", "I", false)
  | 5 => ("DairyShares$Settings", "votingRule", "I", false)
  | _ => ("DairyShares$Settings", "quorum", "I", false)
def tyX5 : Nat → FieldType := fun k => match k with
  | 0 => .int
  | 1 => .int
  | 2 => .int
  | 3 => .int
  | 4 => .int
  | 5 => .int
  | _ => .int
abbrev wsX50 : List Cond := u_ws RX5 TX5 7
theorem nmX5 : ∀ a, a < 7 → ∀ b, b < 7 → a ≠ b → (TX5 a).2.1 ≠ (TX5 b).2.1 := by decide +kernel
theorem tyX5_ok : ∀ k, k < 7 → parseFieldDescriptor (TX5 k).2.2.1 = some (tyX5 k) := by decide +kernel
abbrev cX5_init : ByteArray := prog_7_method_1_code
def yX5_init : MethodName := ⟨RX5, "<init>", "()V"⟩
abbrev cX5_copyFrom : ByteArray := prog_7_method_2_code
def yX5_copyFrom : MethodName := ⟨RX5, "copyFrom", "(LDairyShares$Settings;)V"⟩
def RX6 : String := "DairyShares$Split"
def TX6 : u_T := fun k => match k with
  | 0 => ("DairyShares$Split", "demand", "[I", true)
  | 1 => ("DairyShares$Split", "part", "[I", true)
  | _ => ("DairyShares$Split", "remainder", "[I", true)
def tyX6 : Nat → FieldType := fun k => match k with
  | 0 => .array .int
  | 1 => .array .int
  | _ => .array .int
abbrev wsX60 : List Cond := u_ws RX6 TX6 3
theorem nmX6 : ∀ a, a < 3 → ∀ b, b < 3 → a ≠ b → (TX6 a).2.1 ≠ (TX6 b).2.1 := by decide +kernel
theorem tyX6_ok : ∀ k, k < 3 → parseFieldDescriptor (TX6 k).2.2.1 = some (tyX6 k) := by decide +kernel
abbrev cX6_init : ByteArray := prog_8_method_1_code
def yX6_init : MethodName := ⟨RX6, "<init>", "()V"⟩
abbrev cX6_divide : ByteArray := prog_8_method_2_code
def yX6_divide : MethodName := ⟨RX6, "divide", "(I)V"⟩
abbrev cX6_sumOfDemands : ByteArray := prog_8_method_3_code
def yX6_sumOfDemands : MethodName := ⟨RX6, "sumOfDemands", "()I"⟩
abbrev cX6_handOut : ByteArray := prog_8_method_4_code
def yX6_handOut : MethodName := ⟨RX6, "handOut", "(I)V"⟩
abbrev cX6_greatestRemainder : ByteArray := prog_8_method_5_code
def yX6_greatestRemainder : MethodName := ⟨RX6, "greatestRemainder", "()I"⟩
def RX7 : String := "DairyShares"
def TX7 : u_T := fun k => match k with
  | 0 => ("DairyShares", "now", "LDairyShares$Register;", false)
  | 1 => ("DairyShares", "newest", "LDairyShares$Register;", false)
  | 2 => ("DairyShares", "second", "LDairyShares$Register;", false)
  | 3 => ("DairyShares", "third", "LDairyShares$Register;", false)
  | 4 => ("DairyShares", "oldest", "LDairyShares$Register;", false)
  | 5 => ("DairyShares", "statesKept", "I", false)
  | _ => ("DairyShares", "split", "LDairyShares$Split;", true)
def tyX7 : Nat → FieldType := fun k => match k with
  | 0 => .object "DairyShares$Register"
  | 1 => .object "DairyShares$Register"
  | 2 => .object "DairyShares$Register"
  | 3 => .object "DairyShares$Register"
  | 4 => .object "DairyShares$Register"
  | 5 => .int
  | _ => .object "DairyShares$Split"
abbrev wsX70 : List Cond := u_ws RX7 TX7 7
theorem nmX7 : ∀ a, a < 7 → ∀ b, b < 7 → a ≠ b → (TX7 a).2.1 ≠ (TX7 b).2.1 := by decide +kernel
theorem tyX7_ok : ∀ k, k < 7 → parseFieldDescriptor (TX7 k).2.2.1 = some (tyX7 k) := by decide +kernel
abbrev cX7_init : ByteArray := prog_1_method_1_code
def yX7_init : MethodName := ⟨RX7, "<init>", "()V"⟩
abbrev cX7_join : ByteArray := prog_1_method_2_code
def yX7_join : MethodName := ⟨RX7, "join", "()I"⟩
abbrev cX7_issue : ByteArray := prog_1_method_3_code
def yX7_issue : MethodName := ⟨RX7, "issue", "(II)I"⟩
abbrev cX7_setMilk : ByteArray := prog_1_method_4_code
def yX7_setMilk : MethodName := ⟨RX7, "setMilk", "(II)I"⟩
abbrev cX7_setLitersPerShare : ByteArray := prog_1_method_5_code
def yX7_setLitersPerShare : MethodName := ⟨RX7, "setLitersPerShare", "(I)I"⟩
abbrev cX7_setTreasuryLimit : ByteArray := prog_1_method_6_code
def yX7_setTreasuryLimit : MethodName := ⟨RX7, "setTreasuryLimit", "(I)I"⟩
abbrev cX7_memberCount : ByteArray := prog_1_method_7_code
def yX7_memberCount : MethodName := ⟨RX7, "memberCount", "()I"⟩
abbrev cX7_shares : ByteArray := prog_1_method_8_code
def yX7_shares : MethodName := ⟨RX7, "shares", "(I)I"⟩
abbrev cX7_account : ByteArray := prog_1_method_9_code
def yX7_account : MethodName := ⟨RX7, "account", "(I)J"⟩
abbrev cX7_requirement : ByteArray := prog_1_method_10_code
def yX7_requirement : MethodName := ⟨RX7, "requirement", "(I)I"⟩
abbrev cX7_freeShares : ByteArray := prog_1_method_11_code
def yX7_freeShares : MethodName := ⟨RX7, "freeShares", "(I)I"⟩
abbrev cX7_room : ByteArray := prog_1_method_12_code
def yX7_room : MethodName := ⟨RX7, "room", "(I)I"⟩
abbrev cX7_allShares : ByteArray := prog_1_method_13_code
def yX7_allShares : MethodName := ⟨RX7, "allShares", "()I"⟩
abbrev cX7_treasury : ByteArray := prog_1_method_14_code
def yX7_treasury : MethodName := ⟨RX7, "treasury", "()I"⟩
abbrev cX7_setBooks : ByteArray := prog_1_method_15_code
def yX7_setBooks : MethodName := ⟨RX7, "setBooks", "(II)I"⟩
abbrev cX7_addSurplus : ByteArray := prog_1_method_16_code
def yX7_addSurplus : MethodName := ⟨RX7, "addSurplus", "(I)I"⟩
abbrev cX7_valuate : ByteArray := prog_1_method_17_code
def yX7_valuate : MethodName := ⟨RX7, "valuate", "()I"⟩
abbrev cX7_price : ByteArray := prog_1_method_18_code
def yX7_price : MethodName := ⟨RX7, "price", "()I"⟩
abbrev cX7_parValue : ByteArray := prog_1_method_19_code
def yX7_parValue : MethodName := ⟨RX7, "parValue", "()I"⟩
abbrev cX7_offer : ByteArray := prog_1_method_20_code
def yX7_offer : MethodName := ⟨RX7, "offer", "(IIII)I"⟩
abbrev cX7_claim : ByteArray := prog_1_method_21_code
def yX7_claim : MethodName := ⟨RX7, "claim", "(III)I"⟩
abbrev cX7_withdraw : ByteArray := prog_1_method_22_code
def yX7_withdraw : MethodName := ⟨RX7, "withdraw", "(I)I"⟩
abbrev cX7_passDays : ByteArray := prog_1_method_23_code
def yX7_passDays : MethodName := ⟨RX7, "passDays", "(I)I"⟩
abbrev cX7_offerCount : ByteArray := prog_1_method_24_code
def yX7_offerCount : MethodName := ⟨RX7, "offerCount", "()I"⟩
abbrev cX7_stage : ByteArray := prog_1_method_25_code
def yX7_stage : MethodName := ⟨RX7, "stage", "(I)I"⟩
abbrev cX7_remaining : ByteArray := prog_1_method_26_code
def yX7_remaining : MethodName := ⟨RX7, "remaining", "(I)I"⟩
abbrev cX7_daysLeft : ByteArray := prog_1_method_27_code
def yX7_daysLeft : MethodName := ⟨RX7, "daysLeft", "(I)I"⟩
abbrev cX7_sold : ByteArray := prog_1_method_28_code
def yX7_sold : MethodName := ⟨RX7, "sold", "(II)I"⟩
abbrev cX7_claimOf : ByteArray := prog_1_method_29_code
def yX7_claimOf : MethodName := ⟨RX7, "claimOf", "(II)I"⟩
abbrev cX7_setVoting : ByteArray := prog_1_method_30_code
def yX7_setVoting : MethodName := ⟨RX7, "setVoting", "(II)I"⟩
abbrev cX7_propose : ByteArray := prog_1_method_31_code
def yX7_propose : MethodName := ⟨RX7, "propose", "(II)I"⟩
abbrev cX7_vote : ByteArray := prog_1_method_32_code
def yX7_vote : MethodName := ⟨RX7, "vote", "(III)I"⟩
abbrev cX7_closeMotion : ByteArray := prog_1_method_33_code
def yX7_closeMotion : MethodName := ⟨RX7, "closeMotion", "(I)I"⟩
abbrev cX7_votes : ByteArray := prog_1_method_34_code
def yX7_votes : MethodName := ⟨RX7, "votes", "(I)I"⟩
abbrev cX7_motionState : ByteArray := prog_1_method_35_code
def yX7_motionState : MethodName := ⟨RX7, "motionState", "(I)I"⟩
abbrev cX7_votesFor : ByteArray := prog_1_method_36_code
def yX7_votesFor : MethodName := ⟨RX7, "votesFor", "(I)I"⟩
abbrev cX7_day : ByteArray := prog_1_method_37_code
def yX7_day : MethodName := ⟨RX7, "day", "()I"⟩
abbrev cX7_historySize : ByteArray := prog_1_method_38_code
def yX7_historySize : MethodName := ⟨RX7, "historySize", "()I"⟩
abbrev cX7_undo : ByteArray := prog_1_method_39_code
def yX7_undo : MethodName := ⟨RX7, "undo", "()I"⟩
abbrev cX7_keepState : ByteArray := prog_1_method_40_code
def yX7_keepState : MethodName := ⟨RX7, "keepState", "()V"⟩
abbrev cX7_isWithin : ByteArray := prog_1_method_41_code
def yX7_isWithin : MethodName := ⟨RX7, "isWithin", "(III)Z"⟩
abbrev cX7_isValueOfKind : ByteArray := prog_1_method_42_code
def yX7_isValueOfKind : MethodName := ⟨RX7, "isValueOfKind", "(II)Z"⟩
abbrev cX7_quotient : ByteArray := prog_1_method_43_code
def yX7_quotient : MethodName := ⟨RX7, "quotient", "(II)I"⟩
abbrev cX7_rootOf : ByteArray := prog_1_method_44_code
def yX7_rootOf : MethodName := ⟨RX7, "rootOf", "(I)I"⟩
def RX8 : String := "DairySharesModel"
def TX8 : u_T := fun k => match k with
  | 0 => ("DairySharesModel", "now", "[J", true)
  | 1 => ("DairySharesModel", "past", "[J", true)
  | 2 => ("DairySharesModel", "states", "I", false)
  | 3 => ("DairySharesModel", "demands", "[J", true)
  | 4 => ("DairySharesModel", "gets", "[J", true)
  | _ => ("DairySharesModel", "rests", "[J", true)
def tyX8 : Nat → FieldType := fun k => match k with
  | 0 => .array .long
  | 1 => .array .long
  | 2 => .int
  | 3 => .array .long
  | 4 => .array .long
  | _ => .array .long
abbrev wsX80 : List Cond := u_ws RX8 TX8 6
theorem nmX8 : ∀ a, a < 6 → ∀ b, b < 6 → a ≠ b → (TX8 a).2.1 ≠ (TX8 b).2.1 := by decide +kernel
theorem tyX8_ok : ∀ k, k < 6 → parseFieldDescriptor (TX8 k).2.2.1 = some (tyX8 k) := by decide +kernel
abbrev cX8_init : ByteArray := prog_10_method_1_code
def yX8_init : MethodName := ⟨RX8, "<init>", "()V"⟩
abbrev cX8_in : ByteArray := prog_10_method_2_code
def yX8_in : MethodName := ⟨RX8, "in", "(JJJ)Z"⟩
abbrev cX8_least : ByteArray := prog_10_method_3_code
def yX8_least : MethodName := ⟨RX8, "least", "(JJ)J"⟩
abbrev cX8_by : ByteArray := prog_10_method_4_code
def yX8_by : MethodName := ⟨RX8, "by", "(JJ)J"⟩
abbrev cX8_m : ByteArray := prog_10_method_5_code
def yX8_m : MethodName := ⟨RX8, "m", "(II)I"⟩
abbrev cX8_o : ByteArray := prog_10_method_6_code
def yX8_o : MethodName := ⟨RX8, "o", "(II)I"⟩
abbrev cX8_q : ByteArray := prog_10_method_7_code
def yX8_q : MethodName := ⟨RX8, "q", "(II)I"⟩
abbrev cX8_isMember : ByteArray := prog_10_method_8_code
def yX8_isMember : MethodName := ⟨RX8, "isMember", "(I)Z"⟩
abbrev cX8_isOffer : ByteArray := prog_10_method_9_code
def yX8_isOffer : MethodName := ⟨RX8, "isOffer", "(I)Z"⟩
abbrev cX8_isMotion : ByteArray := prog_10_method_10_code
def yX8_isMotion : MethodName := ⟨RX8, "isMotion", "(I)Z"⟩
abbrev cX8_notes : ByteArray := prog_10_method_11_code
def yX8_notes : MethodName := ⟨RX8, "notes", "()V"⟩
abbrev cX8_puts : ByteArray := prog_10_method_12_code
def yX8_puts : MethodName := ⟨RX8, "puts", "(II)I"⟩
abbrev cX8_all : ByteArray := prog_10_method_13_code
def yX8_all : MethodName := ⟨RX8, "all", "()J"⟩
abbrev cX8_requirementOf : ByteArray := prog_10_method_14_code
def yX8_requirementOf : MethodName := ⟨RX8, "requirementOf", "(I)J"⟩
abbrev cX8_freeOf : ByteArray := prog_10_method_15_code
def yX8_freeOf : MethodName := ⟨RX8, "freeOf", "(I)J"⟩
abbrev cX8_roomOf : ByteArray := prog_10_method_16_code
def yX8_roomOf : MethodName := ⟨RX8, "roomOf", "(I)J"⟩
abbrev cX8_join : ByteArray := prog_10_method_17_code
def yX8_join : MethodName := ⟨RX8, "join", "()I"⟩
abbrev cX8_issue : ByteArray := prog_10_method_18_code
def yX8_issue : MethodName := ⟨RX8, "issue", "(II)I"⟩
abbrev cX8_setMilk : ByteArray := prog_10_method_19_code
def yX8_setMilk : MethodName := ⟨RX8, "setMilk", "(II)I"⟩
abbrev cX8_setLitersPerShare : ByteArray := prog_10_method_20_code
def yX8_setLitersPerShare : MethodName := ⟨RX8, "setLitersPerShare", "(I)I"⟩
abbrev cX8_setTreasuryLimit : ByteArray := prog_10_method_21_code
def yX8_setTreasuryLimit : MethodName := ⟨RX8, "setTreasuryLimit", "(I)I"⟩
abbrev cX8_memberCount : ByteArray := prog_10_method_22_code
def yX8_memberCount : MethodName := ⟨RX8, "memberCount", "()I"⟩
abbrev cX8_shares : ByteArray := prog_10_method_23_code
def yX8_shares : MethodName := ⟨RX8, "shares", "(I)I"⟩
abbrev cX8_account : ByteArray := prog_10_method_24_code
def yX8_account : MethodName := ⟨RX8, "account", "(I)J"⟩
abbrev cX8_requirement : ByteArray := prog_10_method_25_code
def yX8_requirement : MethodName := ⟨RX8, "requirement", "(I)I"⟩
abbrev cX8_freeShares : ByteArray := prog_10_method_26_code
def yX8_freeShares : MethodName := ⟨RX8, "freeShares", "(I)I"⟩
abbrev cX8_room : ByteArray := prog_10_method_27_code
def yX8_room : MethodName := ⟨RX8, "room", "(I)I"⟩
abbrev cX8_allShares : ByteArray := prog_10_method_28_code
def yX8_allShares : MethodName := ⟨RX8, "allShares", "()I"⟩
abbrev cX8_treasury : ByteArray := prog_10_method_29_code
def yX8_treasury : MethodName := ⟨RX8, "treasury", "()I"⟩
abbrev cX8_setBooks : ByteArray := prog_10_method_30_code
def yX8_setBooks : MethodName := ⟨RX8, "setBooks", "(II)I"⟩
abbrev cX8_addSurplus : ByteArray := prog_10_method_31_code
def yX8_addSurplus : MethodName := ⟨RX8, "addSurplus", "(I)I"⟩
abbrev cX8_mean : ByteArray := prog_10_method_32_code
def yX8_mean : MethodName := ⟨RX8, "mean", "()J"⟩
abbrev cX8_valuate : ByteArray := prog_10_method_33_code
def yX8_valuate : MethodName := ⟨RX8, "valuate", "()I"⟩
abbrev cX8_price : ByteArray := prog_10_method_34_code
def yX8_price : MethodName := ⟨RX8, "price", "()I"⟩
abbrev cX8_parValue : ByteArray := prog_10_method_35_code
def yX8_parValue : MethodName := ⟨RX8, "parValue", "()I"⟩
abbrev cX8_offer : ByteArray := prog_10_method_36_code
def yX8_offer : MethodName := ⟨RX8, "offer", "(IIII)I"⟩
abbrev cX8_canClaim : ByteArray := prog_10_method_37_code
def yX8_canClaim : MethodName := ⟨RX8, "canClaim", "(II)Z"⟩
abbrev cX8_claims : ByteArray := prog_10_method_38_code
def yX8_claims : MethodName := ⟨RX8, "claims", "(I)I"⟩
abbrev cX8_claim : ByteArray := prog_10_method_39_code
def yX8_claim : MethodName := ⟨RX8, "claim", "(III)I"⟩
abbrev cX8_begins : ByteArray := prog_10_method_40_code
def yX8_begins : MethodName := ⟨RX8, "begins", "(IJ)V"⟩
abbrev cX8_withdraw : ByteArray := prog_10_method_41_code
def yX8_withdraw : MethodName := ⟨RX8, "withdraw", "(I)I"⟩
abbrev cX8_sells : ByteArray := prog_10_method_42_code
def yX8_sells : MethodName := ⟨RX8, "sells", "(IIJJI)V"⟩
abbrev cX8_parts : ByteArray := prog_10_method_43_code
def yX8_parts : MethodName := ⟨RX8, "parts", "(J)V"⟩
abbrev cX8_greatest : ByteArray := prog_10_method_44_code
def yX8_greatest : MethodName := ⟨RX8, "greatest", "()I"⟩
abbrev cX8_claimed : ByteArray := prog_10_method_45_code
def yX8_claimed : MethodName := ⟨RX8, "claimed", "(I)V"⟩
abbrev cX8_bought : ByteArray := prog_10_method_46_code
def yX8_bought : MethodName := ⟨RX8, "bought", "(I)V"⟩
abbrev cX8_ends : ByteArray := prog_10_method_47_code
def yX8_ends : MethodName := ⟨RX8, "ends", "(I)Z"⟩
abbrev cX8_passDays : ByteArray := prog_10_method_48_code
def yX8_passDays : MethodName := ⟨RX8, "passDays", "(I)I"⟩
abbrev cX8_offerCount : ByteArray := prog_10_method_49_code
def yX8_offerCount : MethodName := ⟨RX8, "offerCount", "()I"⟩
abbrev cX8_stage : ByteArray := prog_10_method_50_code
def yX8_stage : MethodName := ⟨RX8, "stage", "(I)I"⟩
abbrev cX8_remaining : ByteArray := prog_10_method_51_code
def yX8_remaining : MethodName := ⟨RX8, "remaining", "(I)I"⟩
abbrev cX8_daysLeft : ByteArray := prog_10_method_52_code
def yX8_daysLeft : MethodName := ⟨RX8, "daysLeft", "(I)I"⟩
abbrev cX8_sold : ByteArray := prog_10_method_53_code
def yX8_sold : MethodName := ⟨RX8, "sold", "(II)I"⟩
abbrev cX8_claimOf : ByteArray := prog_10_method_54_code
def yX8_claimOf : MethodName := ⟨RX8, "claimOf", "(II)I"⟩
abbrev cX8_setVoting : ByteArray := prog_10_method_55_code
def yX8_setVoting : MethodName := ⟨RX8, "setVoting", "(II)I"⟩
abbrev cX8_isMotionOf : ByteArray := prog_10_method_56_code
def yX8_isMotionOf : MethodName := ⟨RX8, "isMotionOf", "(II)Z"⟩
abbrev cX8_propose : ByteArray := prog_10_method_57_code
def yX8_propose : MethodName := ⟨RX8, "propose", "(II)I"⟩
abbrev cX8_voters : ByteArray := prog_10_method_58_code
def yX8_voters : MethodName := ⟨RX8, "voters", "(I)I"⟩
abbrev cX8_vote : ByteArray := prog_10_method_59_code
def yX8_vote : MethodName := ⟨RX8, "vote", "(III)I"⟩
abbrev cX8_votesOf : ByteArray := prog_10_method_60_code
def yX8_votesOf : MethodName := ⟨RX8, "votesOf", "(I)J"⟩
abbrev cX8_sum : ByteArray := prog_10_method_61_code
def yX8_sum : MethodName := ⟨RX8, "sum", "(IJ)J"⟩
abbrev cX8_does : ByteArray := prog_10_method_62_code
def yX8_does : MethodName := ⟨RX8, "does", "(I)V"⟩
abbrev cX8_closeMotion : ByteArray := prog_10_method_63_code
def yX8_closeMotion : MethodName := ⟨RX8, "closeMotion", "(I)I"⟩
abbrev cX8_votes : ByteArray := prog_10_method_64_code
def yX8_votes : MethodName := ⟨RX8, "votes", "(I)I"⟩
abbrev cX8_motionState : ByteArray := prog_10_method_65_code
def yX8_motionState : MethodName := ⟨RX8, "motionState", "(I)I"⟩
abbrev cX8_votesFor : ByteArray := prog_10_method_66_code
def yX8_votesFor : MethodName := ⟨RX8, "votesFor", "(I)I"⟩
abbrev cX8_day : ByteArray := prog_10_method_67_code
def yX8_day : MethodName := ⟨RX8, "day", "()I"⟩
abbrev cX8_historySize : ByteArray := prog_10_method_68_code
def yX8_historySize : MethodName := ⟨RX8, "historySize", "()I"⟩
abbrev cX8_undo : ByteArray := prog_10_method_69_code
def yX8_undo : MethodName := ⟨RX8, "undo", "()I"⟩
def RJ9 : String := "java/lang/Math"
def TJ9 : u_T := fun k => match k with
  | _ => ("", "", "", false)
def tyJ9 : Nat → FieldType := fun k => match k with
  | _ => .int
abbrev wsJ90 : List Cond := u_ws RJ9 TJ9 0
theorem nmJ9 : ∀ a, a < 0 → ∀ b, b < 0 → a ≠ b → (TJ9 a).2.1 ≠ (TJ9 b).2.1 := by decide +kernel
theorem tyJ9_ok : ∀ k, k < 0 → parseFieldDescriptor (TJ9 k).2.2.1 = some (tyJ9 k) := by decide +kernel
abbrev cJ9_floorDiv_7cf53 : ByteArray := prog_11_method_47_code
def yJ9_floorDiv_7cf53 : MethodName := ⟨RJ9, "floorDiv", "(II)I"⟩
abbrev cJ9_max_7cf53 : ByteArray := prog_11_method_65_code
def yJ9_max_7cf53 : MethodName := ⟨RJ9, "max", "(II)I"⟩
abbrev cJ9_min_7cf53 : ByteArray := prog_11_method_69_code
def yJ9_min_7cf53 : MethodName := ⟨RJ9, "min", "(II)I"⟩
def RJ10 : String := "java/lang/System"
def TJ10 : u_T := fun k => match k with
  | _ => ("", "", "", false)
def tyJ10 : Nat → FieldType := fun k => match k with
  | _ => .int
abbrev wsJ100 : List Cond := u_ws RJ10 TJ10 0
theorem nmJ10 : ∀ a, a < 0 → ∀ b, b < 0 → a ≠ b → (TJ10 a).2.1 ≠ (TJ10 b).2.1 := by decide +kernel
theorem tyJ10_ok : ∀ k, k < 0 → parseFieldDescriptor (TJ10 k).2.2.1 = some (tyJ10 k) := by decide +kernel
def RL : String := "DairySharesLaw"
abbrev cL_law : ByteArray := code
def yL_law : MethodName := ⟨RL, "law", "([I)Z"⟩
def wsL_law_r1 : List Cond := [Cond.classLink RL 7 RX7, Cond.instantiable RX7 7, Cond.initialized RX7, Cond.classLink RL 10 RX8, Cond.instantiable RX8 6, Cond.initialized RX8, Cond.methodLink RL 9 yX7_init, Cond.instanceMethod yX7_init, Cond.code yX7_init cX7_init 1 none, Cond.methodLink RX7 1 objectInit, Cond.instanceMethod objectInit, Cond.code objectInit ⟨#[0xb1]⟩ 1 none, Cond.classLink RX7 7 RX4, Cond.instantiable RX4 7, Cond.initialized RX4, Cond.fieldLink RX7 10 "DairyShares" "now" "LDairyShares$Register;", Cond.fieldLink RX7 16 "DairyShares" "newest" "LDairyShares$Register;", Cond.fieldLink RX7 19 "DairyShares" "second" "LDairyShares$Register;", Cond.fieldLink RX7 22 "DairyShares" "third" "LDairyShares$Register;", Cond.fieldLink RX7 25 "DairyShares" "oldest" "LDairyShares$Register;", Cond.fieldLink RX7 28 "DairyShares" "statesKept" "I", Cond.classLink RX7 32 RX6, Cond.instantiable RX6 3, Cond.initialized RX6]
def wsL_law_r2 : List Cond := [Cond.fieldLink RX7 35 "DairyShares" "split" "LDairyShares$Split;", Cond.instanceMethod yX4_init, Cond.code yX4_init cX4_init 1 none, Cond.methodLink RX4 3 objectInit, Cond.classLink RX4 9 RX1, Cond.instantiable RX1 4, Cond.initialized RX1, Cond.fieldLink RX4 12 "DairyShares$Register" "members" "LDairyShares$Members;", Cond.classLink RX4 18 RX5, Cond.instantiable RX5 7, Cond.initialized RX5, Cond.fieldLink RX4 21 "DairyShares$Register" "settings" "LDairyShares$Settings;", Cond.classLink RX4 25 RX0, Cond.instantiable RX0 5, Cond.initialized RX0, Cond.fieldLink RX4 28 "DairyShares$Register" "books" "LDairyShares$Books;", Cond.classLink RX4 32 RX3, Cond.instantiable RX3 9, Cond.initialized RX3, Cond.fieldLink RX4 35 "DairyShares$Register" "offers" "LDairyShares$Offers;", Cond.classLink RX4 39 RX2, Cond.instantiable RX2 5, Cond.initialized RX2, Cond.fieldLink RX4 42 "DairyShares$Register" "motions" "LDairyShares$Motions;"]
def wsL_law_r3 : List Cond := [Cond.fieldLink RX4 46 "DairyShares$Register" "treasuryShares" "I", Cond.fieldLink RX4 50 "DairyShares$Register" "daysPassed" "I", Cond.instanceMethod yX1_init, Cond.code yX1_init cX1_init 1 none, Cond.methodLink RX1 3 objectInit, Cond.fieldLink RX1 9 "DairyShares$Members" "count" "I", Cond.arrayClass .int, Cond.fieldLink RX1 15 "DairyShares$Members" "shares" "[I", Cond.fieldLink RX1 19 "DairyShares$Members" "milk" "[I", Cond.arrayClass .long, Cond.fieldLink RX1 22 "DairyShares$Members" "account" "[J", Cond.instanceMethod yX5_init, Cond.code yX5_init cX5_init 1 none, Cond.methodLink RX5 3 objectInit, Cond.fieldLink RX5 9 "DairyShares$Settings" "litersPerShare" "I", Cond.fieldLink RX5 15 "DairyShares$Settings" "treasuryLimit" "I", Cond.fieldLink RX5 18 "DairyShares$Settings" "parValue" "I", Cond.fieldLink RX5 21 "DairyShares$Settings" "cap" "I", Cond.fieldLink RX5 24 "DairyShares$Settings" "stageLength" "I", Cond.fieldLink RX5 27 "DairyShares$Settings" "votingRule" "I", Cond.fieldLink RX5 30 "DairyShares$Settings" "quorum" "I", Cond.instanceMethod yX0_init, Cond.code yX0_init cX0_init 1 none, Cond.methodLink RX0 3 objectInit]
def wsL_law_r4 : List Cond := [Cond.fieldLink RX0 9 "DairyShares$Books" "assets" "I", Cond.fieldLink RX0 15 "DairyShares$Books" "debts" "I", Cond.fieldLink RX0 18 "DairyShares$Books" "price" "I", Cond.fieldLink RX0 21 "DairyShares$Books" "surplusCount" "I", Cond.fieldLink RX0 24 "DairyShares$Books" "surpluses" "[I", Cond.instanceMethod yX3_init, Cond.code yX3_init cX3_init 1 none, Cond.methodLink RX3 3 objectInit, Cond.fieldLink RX3 9 "DairyShares$Offers" "count" "I", Cond.fieldLink RX3 15 "DairyShares$Offers" "seller" "[I", Cond.fieldLink RX3 19 "DairyShares$Offers" "buyer" "[I", Cond.fieldLink RX3 22 "DairyShares$Offers" "offered" "[I", Cond.fieldLink RX3 25 "DairyShares$Offers" "remaining" "[I", Cond.fieldLink RX3 28 "DairyShares$Offers" "stage" "[I", Cond.fieldLink RX3 31 "DairyShares$Offers" "daysLeft" "[I", Cond.fieldLink RX3 34 "DairyShares$Offers" "sales" "[I", Cond.fieldLink RX3 37 "DairyShares$Offers" "claims" "[I", Cond.instanceMethod yX2_init, Cond.code yX2_init cX2_init 1 none, Cond.methodLink RX2 3 objectInit, Cond.fieldLink RX2 9 "DairyShares$Motions" "count" "I", Cond.fieldLink RX2 15 "DairyShares$Motions" "kind" "[I", Cond.fieldLink RX2 19 "DairyShares$Motions" "value" "[I", Cond.fieldLink RX2 22 "DairyShares$Motions" "state" "[I"]
def wsL_law_r5 : List Cond := [Cond.fieldLink RX2 25 "DairyShares$Motions" "ballots" "[I", Cond.instanceMethod yX6_init, Cond.code yX6_init cX6_init 1 none, Cond.methodLink RX6 3 objectInit, Cond.fieldLink RX6 9 "DairyShares$Split" "demand" "[I", Cond.fieldLink RX6 15 "DairyShares$Split" "part" "[I", Cond.fieldLink RX6 18 "DairyShares$Split" "remainder" "[I", Cond.methodLink RL 12 yX8_init, Cond.instanceMethod yX8_init, Cond.code yX8_init cX8_init 1 none, Cond.methodLink RX8 1 objectInit, Cond.fieldLink RX8 7 "DairySharesModel" "now" "[J", Cond.fieldLink RX8 13 "DairySharesModel" "past" "[J", Cond.fieldLink RX8 16 "DairySharesModel" "demands" "[J", Cond.fieldLink RX8 19 "DairySharesModel" "gets" "[J", Cond.fieldLink RX8 22 "DairySharesModel" "rests" "[J", Cond.constantLong RX8 25 (1000), Cond.constantLong RX8 27 (50), Cond.constantLong RX8 29 (25), Cond.constantLong RX8 31 (100), Cond.constantLong RX8 33 (3), Cond.methodLink RL 13 yX7_join, Cond.instanceMethod yX7_join, Cond.selects RX7 yX7_join yX7_join]
def wsL_law_r6 : List Cond := [Cond.code yX7_join cX7_join 1 (some .int), Cond.fieldLink RX7 39 "DairyShares$Register" "members" "LDairyShares$Members;", Cond.fieldLink RX7 43 "DairyShares$Members" "count" "I", Cond.constant RX7 48 (-2000000003), Cond.methodLink RX7 49 yX7_keepState, Cond.instanceMethod yX7_keepState, Cond.selects RX7 yX7_keepState yX7_keepState, Cond.code yX7_keepState cX7_keepState 2 none, Cond.methodLink RX7 252 Lib.Math.min.name, Cond.static Lib.Math.min.name, Cond.initialized "java/lang/Math", Cond.code Lib.Math.min.name Lib.Math.min.code 2 (some .int), Cond.methodLink RX7 248 yX4_copyFrom, Cond.instanceMethod yX4_copyFrom, Cond.selects RX4 yX4_copyFrom yX4_copyFrom, Cond.code yX4_copyFrom cX4_copyFrom 2 none, Cond.methodLink RX4 53 yX1_copyFrom, Cond.instanceMethod yX1_copyFrom, Cond.selects RX1 yX1_copyFrom yX1_copyFrom, Cond.code yX1_copyFrom cX1_copyFrom 2 none, Cond.methodLink RX1 26 arraycopyName, Cond.native arraycopyName, Cond.static arraycopyName, Cond.initialized "java/lang/System"]
def wsL_law_r7 : List Cond := [Cond.methodLink RX4 57 yX5_copyFrom, Cond.instanceMethod yX5_copyFrom, Cond.selects RX5 yX5_copyFrom yX5_copyFrom, Cond.code yX5_copyFrom cX5_copyFrom 2 none, Cond.methodLink RX4 60 yX0_copyFrom, Cond.instanceMethod yX0_copyFrom, Cond.selects RX0 yX0_copyFrom yX0_copyFrom, Cond.code yX0_copyFrom cX0_copyFrom 2 none, Cond.methodLink RX0 28 arraycopyName, Cond.methodLink RX4 63 yX3_copyFrom, Cond.instanceMethod yX3_copyFrom, Cond.selects RX3 yX3_copyFrom yX3_copyFrom, Cond.code yX3_copyFrom cX3_copyFrom 2 none, Cond.methodLink RX3 40 arraycopyName, Cond.methodLink RX4 66 yX2_copyFrom, Cond.instanceMethod yX2_copyFrom, Cond.selects RX2 yX2_copyFrom yX2_copyFrom, Cond.code yX2_copyFrom cX2_copyFrom 2 none, Cond.methodLink RX2 28 arraycopyName, Cond.methodLink RL 17 yX8_join, Cond.instanceMethod yX8_join, Cond.selects RX8 yX8_join yX8_join, Cond.code yX8_join cX8_join 1 (some .int), Cond.constantLong RX8 61 (12)]
def wsL_law_r8 : List Cond := [Cond.constant RX8 63 (-2000000003), Cond.methodLink RX8 43 yX8_notes, Cond.instanceMethod yX8_notes, Cond.selects RX8 yX8_notes yX8_notes, Cond.code yX8_notes cX8_notes 2 none, Cond.fieldLink RX8 39 "DairySharesModel" "states" "I", Cond.methodLink RL 18 yX7_issue, Cond.instanceMethod yX7_issue, Cond.selects RX7 yX7_issue yX7_issue, Cond.code yX7_issue cX7_issue 3 (some .int), Cond.constant RX7 60 (-2000000001), Cond.fieldLink RX7 65 "DairyShares$Members" "shares" "[I", Cond.fieldLink RX7 69 "DairyShares$Members" "account" "[J", Cond.fieldLink RX7 73 "DairyShares$Register" "books" "LDairyShares$Books;", Cond.fieldLink RX7 77 "DairyShares$Books" "price" "I", Cond.methodLink RX7 52 yX1_has, Cond.instanceMethod yX1_has, Cond.selects RX1 yX1_has yX1_has, Cond.code yX1_has cX1_has 2 (some .boolean), Cond.methodLink RX7 56 yX7_isWithin, Cond.static yX7_isWithin, Cond.code yX7_isWithin cX7_isWithin 3 (some .boolean), Cond.methodLink RX7 61 yX4_countAllShares, Cond.instanceMethod yX4_countAllShares]
def wsL_law_r9 : List Cond := [Cond.selects RX4 yX4_countAllShares yX4_countAllShares, Cond.code yX4_countAllShares cX4_countAllShares 3 (some .int), Cond.fieldLink RX4 69 "DairyShares$Members" "count" "I", Cond.fieldLink RX4 72 "DairyShares$Members" "shares" "[I", Cond.methodLink RL 22 yX8_issue, Cond.instanceMethod yX8_issue, Cond.selects RX8 yX8_issue yX8_issue, Cond.code yX8_issue cX8_issue 3 (some .int), Cond.constant RX8 68 (-2000000001), Cond.constantLong RX8 69 (10000), Cond.methodLink RX8 64 yX8_isMember, Cond.instanceMethod yX8_isMember, Cond.selects RX8 yX8_isMember yX8_isMember, Cond.code yX8_isMember cX8_isMember 2 (some .boolean), Cond.methodLink RX8 35 yX8_in, Cond.static yX8_in, Cond.code yX8_in cX8_in 6 (some .boolean), Cond.methodLink RX8 57 yX8_all, Cond.instanceMethod yX8_all, Cond.selects RX8 yX8_all yX8_all, Cond.code yX8_all cX8_all 4 (some .long), Cond.methodLink RX8 46 yX8_m, Cond.static yX8_m, Cond.code yX8_m cX8_m 2 (some .int)]
def wsL_law_r10 : List Cond := [Cond.methodLink RL 23 yX7_setMilk, Cond.instanceMethod yX7_setMilk, Cond.selects RX7 yX7_setMilk yX7_setMilk, Cond.code yX7_setMilk cX7_setMilk 4 (some .int), Cond.constant RX7 82 (1000000), Cond.fieldLink RX7 83 "DairyShares$Members" "milk" "[I", Cond.methodLink RL 26 yX8_setMilk, Cond.instanceMethod yX8_setMilk, Cond.selects RX8 yX8_setMilk yX8_setMilk, Cond.code yX8_setMilk cX8_setMilk 3 (some .int), Cond.constantLong RX8 71 (1000000), Cond.methodLink RX8 73 yX8_puts, Cond.instanceMethod yX8_puts, Cond.selects RX8 yX8_puts yX8_puts, Cond.code yX8_puts cX8_puts 4 (some .int), Cond.methodLink RL 27 yX7_setLitersPerShare, Cond.instanceMethod yX7_setLitersPerShare, Cond.selects RX7 yX7_setLitersPerShare yX7_setLitersPerShare, Cond.code yX7_setLitersPerShare cX7_setLitersPerShare 3 (some .int), Cond.fieldLink RX7 86 "DairyShares$Register" "settings" "LDairyShares$Settings;", Cond.fieldLink RX7 90 "DairyShares$Settings" "litersPerShare" "I", Cond.methodLink RL 31 yX8_setLitersPerShare, Cond.instanceMethod yX8_setLitersPerShare, Cond.selects RX8 yX8_setLitersPerShare yX8_setLitersPerShare]
def wsL_law_r11 : List Cond := [Cond.code yX8_setLitersPerShare cX8_setLitersPerShare 2 (some .int), Cond.methodLink RL 32 yX7_setTreasuryLimit, Cond.instanceMethod yX7_setTreasuryLimit, Cond.selects RX7 yX7_setTreasuryLimit yX7_setTreasuryLimit, Cond.code yX7_setTreasuryLimit cX7_setTreasuryLimit 3 (some .int), Cond.fieldLink RX7 95 "DairyShares$Settings" "treasuryLimit" "I", Cond.methodLink RL 35 yX8_setTreasuryLimit, Cond.instanceMethod yX8_setTreasuryLimit, Cond.selects RX8 yX8_setTreasuryLimit yX8_setTreasuryLimit, Cond.code yX8_setTreasuryLimit cX8_setTreasuryLimit 2 (some .int), Cond.methodLink RL 36 yX7_memberCount, Cond.instanceMethod yX7_memberCount, Cond.selects RX7 yX7_memberCount yX7_memberCount, Cond.code yX7_memberCount cX7_memberCount 1 (some .int), Cond.methodLink RL 39 yX8_memberCount, Cond.instanceMethod yX8_memberCount, Cond.selects RX8 yX8_memberCount yX8_memberCount, Cond.code yX8_memberCount cX8_memberCount 1 (some .int), Cond.methodLink RL 40 yX7_shares, Cond.instanceMethod yX7_shares, Cond.selects RX7 yX7_shares yX7_shares, Cond.code yX7_shares cX7_shares 2 (some .int), Cond.methodLink RL 43 yX8_shares, Cond.instanceMethod yX8_shares]
def wsL_law_r12 : List Cond := [Cond.selects RX8 yX8_shares yX8_shares, Cond.code yX8_shares cX8_shares 2 (some .int), Cond.methodLink RL 44 yX7_account, Cond.instanceMethod yX7_account, Cond.selects RX7 yX7_account yX7_account, Cond.code yX7_account cX7_account 2 (some .long), Cond.constantLong RX7 98 (-2000000001), Cond.methodLink RL 48 yX8_account, Cond.instanceMethod yX8_account, Cond.selects RX8 yX8_account yX8_account, Cond.code yX8_account cX8_account 2 (some .long), Cond.constantLong RX8 76 (-2000000001), Cond.methodLink RL 49 yX7_requirement, Cond.instanceMethod yX7_requirement, Cond.selects RX7 yX7_requirement yX7_requirement, Cond.code yX7_requirement cX7_requirement 2 (some .int), Cond.methodLink RX7 100 yX4_requirementOf, Cond.instanceMethod yX4_requirementOf, Cond.selects RX4 yX4_requirementOf yX4_requirementOf, Cond.code yX4_requirementOf cX4_requirementOf 3 (some .int), Cond.fieldLink RX4 76 "DairyShares$Settings" "litersPerShare" "I", Cond.fieldLink RX4 79 "DairyShares$Members" "milk" "[I", Cond.static yX7_quotient, Cond.code yX7_quotient cX7_quotient 2 (some .int)]
def wsL_law_r13 : List Cond := [Cond.methodLink RX7 255 yJ9_floorDiv_7cf53, Cond.static yJ9_floorDiv_7cf53, Cond.initialized RJ9, Cond.code yJ9_floorDiv_7cf53 cJ9_floorDiv_7cf53 3 (some .int), Cond.methodLink RL 52 yX8_requirement, Cond.instanceMethod yX8_requirement, Cond.selects RX8 yX8_requirement yX8_requirement, Cond.code yX8_requirement cX8_requirement 2 (some .int), Cond.methodLink RX8 50 yX8_requirementOf, Cond.instanceMethod yX8_requirementOf, Cond.selects RX8 yX8_requirementOf yX8_requirementOf, Cond.code yX8_requirementOf cX8_requirementOf 2 (some .long), Cond.methodLink RL 53 yX7_freeShares, Cond.instanceMethod yX7_freeShares, Cond.selects RX7 yX7_freeShares yX7_freeShares, Cond.code yX7_freeShares cX7_freeShares 2 (some .int), Cond.methodLink RX7 104 yX4_freeSharesOf, Cond.instanceMethod yX4_freeSharesOf, Cond.selects RX4 yX4_freeSharesOf yX4_freeSharesOf, Cond.code yX4_freeSharesOf cX4_freeSharesOf 3 (some .int), Cond.methodLink RX4 93 Lib.Math.max.name, Cond.static Lib.Math.max.name, Cond.code Lib.Math.max.name Lib.Math.max.code 2 (some .int), Cond.methodLink RX4 86 yX4_requirementOf]
def wsL_law_r14 : List Cond := [Cond.methodLink RX4 90 yX3_remainingOf, Cond.instanceMethod yX3_remainingOf, Cond.selects RX3 yX3_remainingOf yX3_remainingOf, Cond.code yX3_remainingOf cX3_remainingOf 4 (some .int), Cond.methodLink RX3 61 yX3_isOpen, Cond.instanceMethod yX3_isOpen, Cond.selects RX3 yX3_isOpen yX3_isOpen, Cond.code yX3_isOpen cX3_isOpen 2 (some .boolean), Cond.methodLink RL 56 yX8_freeShares, Cond.instanceMethod yX8_freeShares, Cond.selects RX8 yX8_freeShares yX8_freeShares, Cond.code yX8_freeShares cX8_freeShares 2 (some .int), Cond.methodLink RX8 78 yX8_freeOf, Cond.instanceMethod yX8_freeOf, Cond.selects RX8 yX8_freeOf yX8_freeOf, Cond.code yX8_freeOf cX8_freeOf 5 (some .long), Cond.methodLink RX8 54 yX8_o, Cond.static yX8_o, Cond.code yX8_o cX8_o 2 (some .int), Cond.methodLink RL 57 yX7_room, Cond.instanceMethod yX7_room, Cond.selects RX7 yX7_room yX7_room, Cond.code yX7_room cX7_room 2 (some .int), Cond.methodLink RX7 107 yX4_roomOf]
def wsL_law_r15 : List Cond := [Cond.instanceMethod yX4_roomOf, Cond.selects RX4 yX4_roomOf yX4_roomOf, Cond.code yX4_roomOf cX4_roomOf 3 (some .int), Cond.fieldLink RX4 102 "DairyShares$Settings" "cap" "I", Cond.methodLink RX4 98 yX4_countAllShares, Cond.methodLink RL 60 yX8_room, Cond.instanceMethod yX8_room, Cond.selects RX8 yX8_room yX8_room, Cond.code yX8_room cX8_room 2 (some .int), Cond.methodLink RX8 81 yX8_roomOf, Cond.instanceMethod yX8_roomOf, Cond.selects RX8 yX8_roomOf yX8_roomOf, Cond.code yX8_roomOf cX8_roomOf 4 (some .long), Cond.methodLink RL 61 yX7_allShares, Cond.instanceMethod yX7_allShares, Cond.selects RX7 yX7_allShares yX7_allShares, Cond.code yX7_allShares cX7_allShares 1 (some .int), Cond.methodLink RL 64 yX8_allShares, Cond.instanceMethod yX8_allShares, Cond.selects RX8 yX8_allShares yX8_allShares, Cond.code yX8_allShares cX8_allShares 1 (some .int), Cond.methodLink RL 65 yX7_treasury, Cond.instanceMethod yX7_treasury, Cond.selects RX7 yX7_treasury yX7_treasury]
def wsL_law_r16 : List Cond := [Cond.code yX7_treasury cX7_treasury 1 (some .int), Cond.fieldLink RX7 110 "DairyShares$Register" "treasuryShares" "I", Cond.methodLink RL 68 yX8_treasury, Cond.instanceMethod yX8_treasury, Cond.selects RX8 yX8_treasury yX8_treasury, Cond.code yX8_treasury cX8_treasury 1 (some .int), Cond.methodLink RL 69 yX7_setBooks, Cond.instanceMethod yX7_setBooks, Cond.selects RX7 yX7_setBooks yX7_setBooks, Cond.code yX7_setBooks cX7_setBooks 4 (some .int), Cond.constant RX7 113 (100000000), Cond.fieldLink RX7 114 "DairyShares$Books" "assets" "I", Cond.fieldLink RX7 117 "DairyShares$Books" "debts" "I", Cond.methodLink RL 72 yX8_setBooks, Cond.instanceMethod yX8_setBooks, Cond.selects RX8 yX8_setBooks yX8_setBooks, Cond.code yX8_setBooks cX8_setBooks 4 (some .int), Cond.constantLong RX8 84 (100000000), Cond.methodLink RL 73 yX7_addSurplus, Cond.instanceMethod yX7_addSurplus, Cond.selects RX7 yX7_addSurplus yX7_addSurplus, Cond.code yX7_addSurplus cX7_addSurplus 2 (some .int), Cond.constant RX7 120 (-1000000), Cond.fieldLink RX7 125 "DairyShares$Books" "surplusCount" "I"]
def wsL_law_r17 : List Cond := [Cond.methodLink RX7 121 yX0_recordSurplus, Cond.instanceMethod yX0_recordSurplus, Cond.selects RX0 yX0_recordSurplus yX0_recordSurplus, Cond.code yX0_recordSurplus cX0_recordSurplus 2 none, Cond.methodLink RL 76 yX8_addSurplus, Cond.instanceMethod yX8_addSurplus, Cond.selects RX8 yX8_addSurplus yX8_addSurplus, Cond.code yX8_addSurplus cX8_addSurplus 2 (some .int), Cond.constantLong RX8 86 (-1000000), Cond.methodLink RL 77 yX7_valuate, Cond.instanceMethod yX7_valuate, Cond.selects RX7 yX7_valuate yX7_valuate, Cond.code yX7_valuate cX7_valuate 2 (some .int), Cond.constant RX7 128 (-2000000002), Cond.fieldLink RX7 132 "DairyShares$Settings" "parValue" "I", Cond.methodLink RX7 135 Lib.Math.max.name, Cond.methodLink RX7 129 yX0_valueOfOne, Cond.instanceMethod yX0_valueOfOne, Cond.selects RX0 yX0_valueOfOne yX0_valueOfOne, Cond.code yX0_valueOfOne cX0_valueOfOne 4 (some .int), Cond.methodLink RX0 38 yX0_meanSurplus, Cond.instanceMethod yX0_meanSurplus, Cond.selects RX0 yX0_meanSurplus yX0_meanSurplus, Cond.code yX0_meanSurplus cX0_meanSurplus 3 (some .int)]
def wsL_law_r18 : List Cond := [Cond.methodLink RL 80 yX8_valuate, Cond.instanceMethod yX8_valuate, Cond.selects RX8 yX8_valuate yX8_valuate, Cond.code yX8_valuate cX8_valuate 5 (some .int), Cond.constant RX8 92 (-2000000002), Cond.constantLong RX8 93 (2), Cond.constantLong RX8 95 (10), Cond.constantLong RX8 100 (5), Cond.methodLink RX8 88 yX8_by, Cond.static yX8_by, Cond.code yX8_by cX8_by 6 (some .long), Cond.methodLink RX8 97 yX8_mean, Cond.instanceMethod yX8_mean, Cond.selects RX8 yX8_mean yX8_mean, Cond.code yX8_mean cX8_mean 4 (some .long), Cond.methodLink RL 81 yX7_price, Cond.instanceMethod yX7_price, Cond.selects RX7 yX7_price yX7_price, Cond.code yX7_price cX7_price 1 (some .int), Cond.methodLink RL 84 yX8_price, Cond.instanceMethod yX8_price, Cond.selects RX8 yX8_price yX8_price, Cond.code yX8_price cX8_price 1 (some .int), Cond.methodLink RL 85 yX7_parValue]
def wsL_law_r19 : List Cond := [Cond.instanceMethod yX7_parValue, Cond.selects RX7 yX7_parValue yX7_parValue, Cond.code yX7_parValue cX7_parValue 1 (some .int), Cond.methodLink RL 88 yX8_parValue, Cond.instanceMethod yX8_parValue, Cond.selects RX8 yX8_parValue yX8_parValue, Cond.code yX8_parValue cX8_parValue 1 (some .int), Cond.methodLink RL 89 yX7_offer, Cond.instanceMethod yX7_offer, Cond.selects RX7 yX7_offer yX7_offer, Cond.code yX7_offer cX7_offer 6 (some .int), Cond.constant RX7 141 (100000), Cond.fieldLink RX7 142 "DairyShares$Register" "offers" "LDairyShares$Offers;", Cond.fieldLink RX7 146 "DairyShares$Offers" "count" "I", Cond.fieldLink RX7 153 "DairyShares$Settings" "stageLength" "I", Cond.methodLink RX7 149 yX3_add, Cond.instanceMethod yX3_add, Cond.selects RX3 yX3_add yX3_add, Cond.code yX3_add cX3_add 6 (some .int), Cond.methodLink RX7 156 yX3_beginStage, Cond.instanceMethod yX3_beginStage, Cond.selects RX3 yX3_beginStage yX3_beginStage, Cond.code yX3_beginStage cX3_beginStage 4 none, Cond.methodLink RX3 46 yX3_clearClaims]
def wsL_law_r20 : List Cond := [Cond.instanceMethod yX3_clearClaims, Cond.selects RX3 yX3_clearClaims yX3_clearClaims, Cond.code yX3_clearClaims cX3_clearClaims 3 none, Cond.methodLink RX3 54 yX3_setClaim, Cond.instanceMethod yX3_setClaim, Cond.selects RX3 yX3_setClaim yX3_setClaim, Cond.code yX3_setClaim cX3_setClaim 4 none, Cond.methodLink RL 93 yX8_offer, Cond.instanceMethod yX8_offer, Cond.selects RX8 yX8_offer yX8_offer, Cond.code yX8_offer cX8_offer 7 (some .int), Cond.constantLong RX8 102 (100000), Cond.constantLong RX8 104 (20), Cond.methodLink RL 94 yX7_claim, Cond.instanceMethod yX7_claim, Cond.selects RX7 yX7_claim yX7_claim, Cond.code yX7_claim cX7_claim 4 (some .int), Cond.methodLink RX7 160 yX3_has, Cond.instanceMethod yX3_has, Cond.selects RX3 yX3_has yX3_has, Cond.code yX3_has cX3_has 2 (some .boolean), Cond.methodLink RX7 161 yX4_canClaim, Cond.instanceMethod yX4_canClaim, Cond.selects RX4 yX4_canClaim yX4_canClaim]
def wsL_law_r21 : List Cond := [Cond.code yX4_canClaim cX4_canClaim 3 (some .boolean), Cond.fieldLink RX4 105 "DairyShares$Offers" "seller" "[I", Cond.fieldLink RX4 108 "DairyShares$Offers" "stage" "[I", Cond.methodLink RX4 111 yX4_isNeedy, Cond.instanceMethod yX4_isNeedy, Cond.selects RX4 yX4_isNeedy yX4_isNeedy, Cond.code yX4_isNeedy cX4_isNeedy 2 (some .boolean), Cond.methodLink RX7 165 yX3_setClaim, Cond.methodLink RX7 168 yX3_sumOfClaims, Cond.instanceMethod yX3_sumOfClaims, Cond.selects RX3 yX3_sumOfClaims yX3_sumOfClaims, Cond.code yX3_sumOfClaims cX3_sumOfClaims 4 (some .int), Cond.methodLink RX3 57 yX3_claimBy, Cond.instanceMethod yX3_claimBy, Cond.selects RX3 yX3_claimBy yX3_claimBy, Cond.code yX3_claimBy cX3_claimBy 3 (some .int), Cond.methodLink RL 98 yX8_claim, Cond.instanceMethod yX8_claim, Cond.selects RX8 yX8_claim yX8_claim, Cond.code yX8_claim cX8_claim 4 (some .int), Cond.methodLink RX8 106 yX8_isOffer, Cond.instanceMethod yX8_isOffer, Cond.selects RX8 yX8_isOffer yX8_isOffer, Cond.code yX8_isOffer cX8_isOffer 2 (some .boolean)]
def wsL_law_r22 : List Cond := [Cond.methodLink RX8 109 yX8_canClaim, Cond.instanceMethod yX8_canClaim, Cond.selects RX8 yX8_canClaim yX8_canClaim, Cond.code yX8_canClaim cX8_canClaim 6 (some .boolean), Cond.methodLink RX8 113 yX8_claims, Cond.instanceMethod yX8_claims, Cond.selects RX8 yX8_claims yX8_claims, Cond.code yX8_claims cX8_claims 4 (some .int), Cond.methodLink RL 99 yX7_withdraw, Cond.instanceMethod yX7_withdraw, Cond.selects RX7 yX7_withdraw yX7_withdraw, Cond.code yX7_withdraw cX7_withdraw 2 (some .int), Cond.fieldLink RX7 177 "DairyShares$Offers" "remaining" "[I", Cond.methodLink RX7 171 yX3_isOpen, Cond.methodLink RX7 174 yX3_close, Cond.instanceMethod yX3_close, Cond.selects RX3 yX3_close yX3_close, Cond.code yX3_close cX3_close 2 none, Cond.methodLink RX3 50 yX3_beginStage, Cond.methodLink RL 102 yX8_withdraw, Cond.instanceMethod yX8_withdraw, Cond.selects RX8 yX8_withdraw yX8_withdraw, Cond.code yX8_withdraw cX8_withdraw 2 (some .int), Cond.methodLink RX8 117 yX8_begins]
def wsL_law_r23 : List Cond := [Cond.instanceMethod yX8_begins, Cond.selects RX8 yX8_begins yX8_begins, Cond.code yX8_begins cX8_begins 5 none, Cond.methodLink RL 103 yX7_passDays, Cond.instanceMethod yX7_passDays, Cond.selects RX7 yX7_passDays yX7_passDays, Cond.code yX7_passDays cX7_passDays 4 (some .int), Cond.methodLink RX7 180 yX4_runDay, Cond.instanceMethod yX4_runDay, Cond.selects RX4 yX4_runDay yX4_runDay, Cond.code yX4_runDay cX4_runDay 4 (some .int), Cond.fieldLink RX4 115 "DairyShares$Offers" "count" "I", Cond.methodLink RX4 116 yX3_isOpen, Cond.methodLink RX4 119 yX3_losesLastDay, Cond.instanceMethod yX3_losesLastDay, Cond.selects RX3 yX3_losesLastDay yX3_losesLastDay, Cond.code yX3_losesLastDay cX3_losesLastDay 2 (some .boolean), Cond.methodLink RX4 122 yX4_endStage, Cond.instanceMethod yX4_endStage, Cond.selects RX4 yX4_endStage yX4_endStage, Cond.code yX4_endStage cX4_endStage 4 none, Cond.fieldLink RX4 137 "DairyShares$Offers" "remaining" "[I", Cond.fieldLink RX4 143 "DairyShares$Settings" "stageLength" "I", Cond.methodLink RX4 126 yX4_sellToTreasury]
def wsL_law_r24 : List Cond := [Cond.instanceMethod yX4_sellToTreasury, Cond.selects RX4 yX4_sellToTreasury yX4_sellToTreasury, Cond.code yX4_sellToTreasury cX4_sellToTreasury 4 none, Cond.fieldLink RX4 177 "DairyShares$Settings" "treasuryLimit" "I", Cond.methodLink RX4 161 Lib.Math.min.name, Cond.fieldLink RX4 170 "DairyShares$Books" "price" "I", Cond.methodLink RX4 180 yX4_takeFromSeller, Cond.instanceMethod yX4_takeFromSeller, Cond.selects RX4 yX4_takeFromSeller yX4_takeFromSeller, Cond.code yX4_takeFromSeller cX4_takeFromSeller 6 none, Cond.fieldLink RX4 190 "DairyShares$Members" "account" "[J", Cond.methodLink RX4 194 yX3_recordSale, Cond.instanceMethod yX3_recordSale, Cond.selects RX3 yX3_recordSale yX3_recordSale, Cond.code yX3_recordSale cX3_recordSale 4 none, Cond.methodLink RX4 130 yX4_sellToBuyer, Cond.instanceMethod yX4_sellToBuyer, Cond.selects RX4 yX4_sellToBuyer yX4_sellToBuyer, Cond.code yX4_sellToBuyer cX4_sellToBuyer 4 none, Cond.fieldLink RX4 184 "DairyShares$Offers" "buyer" "[I", Cond.fieldLink RX4 187 "DairyShares$Offers" "offered" "[I", Cond.methodLink RX4 158 yX4_roomOf, Cond.methodLink RX4 173 yX4_sellToMember, Cond.instanceMethod yX4_sellToMember]
def wsL_law_r25 : List Cond := [Cond.selects RX4 yX4_sellToMember yX4_sellToMember, Cond.code yX4_sellToMember cX4_sellToMember 6 none, Cond.methodLink RX4 133 yX4_sellToClaimants, Cond.instanceMethod yX4_sellToClaimants, Cond.selects RX4 yX4_sellToClaimants yX4_sellToClaimants, Cond.code yX4_sellToClaimants cX4_sellToClaimants 5 none, Cond.fieldLink RX4 150 "DairyShares$Split" "demand" "[I", Cond.fieldLink RX4 167 "DairyShares$Split" "part" "[I", Cond.methodLink RX4 155 yX3_claimBy, Cond.methodLink RX4 164 yX6_divide, Cond.instanceMethod yX6_divide, Cond.selects RX6 yX6_divide yX6_divide, Cond.code yX6_divide cX6_divide 6 none, Cond.methodLink RX6 25 arraycopyName, Cond.methodLink RX6 21 yX6_sumOfDemands, Cond.instanceMethod yX6_sumOfDemands, Cond.selects RX6 yX6_sumOfDemands yX6_sumOfDemands, Cond.code yX6_sumOfDemands cX6_sumOfDemands 3 (some .int), Cond.methodLink RX6 35 yX6_handOut, Cond.instanceMethod yX6_handOut, Cond.selects RX6 yX6_handOut yX6_handOut, Cond.code yX6_handOut cX6_handOut 4 none, Cond.methodLink RX6 39 yX6_greatestRemainder, Cond.instanceMethod yX6_greatestRemainder]
def wsL_law_r26 : List Cond := [Cond.selects RX6 yX6_greatestRemainder yX6_greatestRemainder, Cond.code yX6_greatestRemainder cX6_greatestRemainder 3 (some .int), Cond.methodLink RX4 140 yX3_close, Cond.methodLink RX4 146 yX3_beginStage, Cond.methodLink RL 106 yX8_passDays, Cond.instanceMethod yX8_passDays, Cond.selects RX8 yX8_passDays yX8_passDays, Cond.code yX8_passDays cX8_passDays 5 (some .int), Cond.constantLong RX8 143 (60), Cond.methodLink RX8 145 yX8_ends, Cond.instanceMethod yX8_ends, Cond.selects RX8 yX8_ends yX8_ends, Cond.code yX8_ends cX8_ends 5 (some .boolean), Cond.methodLink RX8 136 yX8_claimed, Cond.instanceMethod yX8_claimed, Cond.selects RX8 yX8_claimed yX8_claimed, Cond.code yX8_claimed cX8_claimed 4 none, Cond.methodLink RX8 125 yX8_least, Cond.static yX8_least, Cond.code yX8_least cX8_least 4 (some .long), Cond.methodLink RX8 128 yX8_parts, Cond.instanceMethod yX8_parts, Cond.selects RX8 yX8_parts yX8_parts, Cond.code yX8_parts cX8_parts 9 none]
def wsL_law_r27 : List Cond := [Cond.methodLink RX8 121 yX8_greatest, Cond.instanceMethod yX8_greatest, Cond.selects RX8 yX8_greatest yX8_greatest, Cond.code yX8_greatest cX8_greatest 3 (some .int), Cond.methodLink RX8 132 yX8_sells, Cond.instanceMethod yX8_sells, Cond.selects RX8 yX8_sells yX8_sells, Cond.code yX8_sells cX8_sells 9 none, Cond.methodLink RX8 140 yX8_bought, Cond.instanceMethod yX8_bought, Cond.selects RX8 yX8_bought yX8_bought, Cond.code yX8_bought cX8_bought 5 none, Cond.methodLink RL 107 yX7_offerCount, Cond.instanceMethod yX7_offerCount, Cond.selects RX7 yX7_offerCount yX7_offerCount, Cond.code yX7_offerCount cX7_offerCount 1 (some .int), Cond.methodLink RL 110 yX8_offerCount, Cond.instanceMethod yX8_offerCount, Cond.selects RX8 yX8_offerCount yX8_offerCount, Cond.code yX8_offerCount cX8_offerCount 1 (some .int), Cond.methodLink RL 111 yX7_stage, Cond.instanceMethod yX7_stage, Cond.selects RX7 yX7_stage yX7_stage, Cond.code yX7_stage cX7_stage 2 (some .int)]
def wsL_law_r28 : List Cond := [Cond.fieldLink RX7 184 "DairyShares$Offers" "stage" "[I", Cond.methodLink RL 114 yX8_stage, Cond.instanceMethod yX8_stage, Cond.selects RX8 yX8_stage yX8_stage, Cond.code yX8_stage cX8_stage 2 (some .int), Cond.methodLink RL 115 yX7_remaining, Cond.instanceMethod yX7_remaining, Cond.selects RX7 yX7_remaining yX7_remaining, Cond.code yX7_remaining cX7_remaining 2 (some .int), Cond.methodLink RL 118 yX8_remaining, Cond.instanceMethod yX8_remaining, Cond.selects RX8 yX8_remaining yX8_remaining, Cond.code yX8_remaining cX8_remaining 2 (some .int), Cond.methodLink RL 119 yX7_daysLeft, Cond.instanceMethod yX7_daysLeft, Cond.selects RX7 yX7_daysLeft yX7_daysLeft, Cond.code yX7_daysLeft cX7_daysLeft 2 (some .int), Cond.fieldLink RX7 187 "DairyShares$Offers" "daysLeft" "[I", Cond.constant RX7 190 (-2000000004), Cond.methodLink RL 122 yX8_daysLeft, Cond.instanceMethod yX8_daysLeft, Cond.selects RX8 yX8_daysLeft yX8_daysLeft, Cond.code yX8_daysLeft cX8_daysLeft 2 (some .int), Cond.constant RX8 148 (-2000000004)]
def wsL_law_r29 : List Cond := [Cond.methodLink RL 123 yX7_sold, Cond.instanceMethod yX7_sold, Cond.selects RX7 yX7_sold yX7_sold, Cond.code yX7_sold cX7_sold 3 (some .int), Cond.methodLink RX7 191 yX3_soldTo, Cond.instanceMethod yX3_soldTo, Cond.selects RX3 yX3_soldTo yX3_soldTo, Cond.code yX3_soldTo cX3_soldTo 3 (some .int), Cond.methodLink RL 126 yX8_sold, Cond.instanceMethod yX8_sold, Cond.selects RX8 yX8_sold yX8_sold, Cond.code yX8_sold cX8_sold 3 (some .int), Cond.methodLink RL 127 yX7_claimOf, Cond.instanceMethod yX7_claimOf, Cond.selects RX7 yX7_claimOf yX7_claimOf, Cond.code yX7_claimOf cX7_claimOf 3 (some .int), Cond.methodLink RX7 194 yX3_claimBy, Cond.methodLink RL 130 yX8_claimOf, Cond.instanceMethod yX8_claimOf, Cond.selects RX8 yX8_claimOf yX8_claimOf, Cond.code yX8_claimOf cX8_claimOf 3 (some .int), Cond.methodLink RL 131 yX7_setVoting, Cond.instanceMethod yX7_setVoting, Cond.selects RX7 yX7_setVoting yX7_setVoting]
def wsL_law_r30 : List Cond := [Cond.code yX7_setVoting cX7_setVoting 4 (some .int), Cond.fieldLink RX7 197 "DairyShares$Settings" "votingRule" "I", Cond.fieldLink RX7 200 "DairyShares$Settings" "quorum" "I", Cond.methodLink RL 134 yX8_setVoting, Cond.instanceMethod yX8_setVoting, Cond.selects RX8 yX8_setVoting yX8_setVoting, Cond.code yX8_setVoting cX8_setVoting 4 (some .int), Cond.methodLink RL 135 yX7_propose, Cond.instanceMethod yX7_propose, Cond.selects RX7 yX7_propose yX7_propose, Cond.code yX7_propose cX7_propose 3 (some .int), Cond.fieldLink RX7 206 "DairyShares$Register" "motions" "LDairyShares$Motions;", Cond.fieldLink RX7 210 "DairyShares$Motions" "count" "I", Cond.methodLink RX7 203 yX7_isValueOfKind, Cond.static yX7_isValueOfKind, Cond.code yX7_isValueOfKind cX7_isValueOfKind 2 (some .boolean), Cond.methodLink RX7 213 yX2_add, Cond.instanceMethod yX2_add, Cond.selects RX2 yX2_add yX2_add, Cond.code yX2_add cX2_add 4 (some .int), Cond.methodLink RL 138 yX8_propose, Cond.instanceMethod yX8_propose, Cond.selects RX8 yX8_propose yX8_propose, Cond.code yX8_propose cX8_propose 5 (some .int)]
def wsL_law_r31 : List Cond := [Cond.methodLink RX8 149 yX8_isMotionOf, Cond.static yX8_isMotionOf, Cond.code yX8_isMotionOf cX8_isMotionOf 2 (some .boolean), Cond.methodLink RX8 152 yX8_q, Cond.static yX8_q, Cond.code yX8_q cX8_q 2 (some .int), Cond.methodLink RL 139 yX7_vote, Cond.instanceMethod yX7_vote, Cond.selects RX7 yX7_vote yX7_vote, Cond.code yX7_vote cX7_vote 4 (some .int), Cond.methodLink RX7 215 yX2_has, Cond.instanceMethod yX2_has, Cond.selects RX2 yX2_has yX2_has, Cond.code yX2_has cX2_has 2 (some .boolean), Cond.methodLink RX7 216 yX2_isOpen, Cond.instanceMethod yX2_isOpen, Cond.selects RX2 yX2_isOpen yX2_isOpen, Cond.code yX2_isOpen cX2_isOpen 2 (some .boolean), Cond.methodLink RX7 217 yX2_setBallot, Cond.instanceMethod yX2_setBallot, Cond.selects RX2 yX2_setBallot yX2_setBallot, Cond.code yX2_setBallot cX2_setBallot 4 none, Cond.methodLink RX7 220 yX2_countBallots, Cond.instanceMethod yX2_countBallots]
def wsL_law_r32 : List Cond := [Cond.selects RX2 yX2_countBallots yX2_countBallots, Cond.code yX2_countBallots cX2_countBallots 4 (some .int), Cond.methodLink RX2 34 yX2_ballotOf, Cond.instanceMethod yX2_ballotOf, Cond.selects RX2 yX2_ballotOf yX2_ballotOf, Cond.code yX2_ballotOf cX2_ballotOf 3 (some .int), Cond.methodLink RL 142 yX8_vote, Cond.instanceMethod yX8_vote, Cond.selects RX8 yX8_vote yX8_vote, Cond.code yX8_vote cX8_vote 4 (some .int), Cond.methodLink RX8 155 yX8_isMotion, Cond.instanceMethod yX8_isMotion, Cond.selects RX8 yX8_isMotion yX8_isMotion, Cond.code yX8_isMotion cX8_isMotion 2 (some .boolean), Cond.methodLink RX8 158 yX8_voters, Cond.instanceMethod yX8_voters, Cond.selects RX8 yX8_voters yX8_voters, Cond.code yX8_voters cX8_voters 4 (some .int), Cond.methodLink RL 143 yX7_closeMotion, Cond.instanceMethod yX7_closeMotion, Cond.selects RX7 yX7_closeMotion yX7_closeMotion, Cond.code yX7_closeMotion cX7_closeMotion 3 (some .int), Cond.fieldLink RX7 226 "DairyShares$Motions" "state" "[I", Cond.fieldLink RX7 229 "DairyShares$Motions" "kind" "[I"]
def wsL_law_r33 : List Cond := [Cond.fieldLink RX7 232 "DairyShares$Motions" "value" "[I", Cond.methodLink RX7 223 yX4_passes, Cond.instanceMethod yX4_passes, Cond.selects RX4 yX4_passes yX4_passes, Cond.code yX4_passes cX4_passes 6 (some .boolean), Cond.fieldLink RX4 212 "DairyShares$Settings" "quorum" "I", Cond.methodLink RX4 209 yX4_sumOfVotes, Cond.instanceMethod yX4_sumOfVotes, Cond.selects RX4 yX4_sumOfVotes yX4_sumOfVotes, Cond.code yX4_sumOfVotes cX4_sumOfVotes 5 (some .int), Cond.methodLink RX4 203 yX2_ballotOf, Cond.methodLink RX4 206 yX4_votesOf, Cond.instanceMethod yX4_votesOf, Cond.selects RX4 yX4_votesOf yX4_votesOf, Cond.code yX4_votesOf cX4_votesOf 3 (some .int), Cond.fieldLink RX4 197 "DairyShares$Settings" "votingRule" "I", Cond.static yX7_rootOf, Cond.code yX7_rootOf cX7_rootOf 2 (some .int), Cond.methodLink RX7 235 yX4_carryOut, Cond.instanceMethod yX4_carryOut, Cond.selects RX4 yX4_carryOut yX4_carryOut, Cond.code yX4_carryOut cX4_carryOut 3 none, Cond.fieldLink RX4 215 "DairyShares$Settings" "parValue" "I", Cond.methodLink RX4 218 yX4_payDividend]
def wsL_law_r34 : List Cond := [Cond.instanceMethod yX4_payDividend, Cond.selects RX4 yX4_payDividend yX4_payDividend, Cond.code yX4_payDividend cX4_payDividend 4 none, Cond.methodLink RL 146 yX8_closeMotion, Cond.instanceMethod yX8_closeMotion, Cond.selects RX8 yX8_closeMotion yX8_closeMotion, Cond.code yX8_closeMotion cX8_closeMotion 9 (some .int), Cond.methodLink RX8 164 yX8_sum, Cond.instanceMethod yX8_sum, Cond.selects RX8 yX8_sum yX8_sum, Cond.code yX8_sum cX8_sum 7 (some .long), Cond.methodLink RX8 161 yX8_votesOf, Cond.instanceMethod yX8_votesOf, Cond.selects RX8 yX8_votesOf yX8_votesOf, Cond.code yX8_votesOf cX8_votesOf 6 (some .long), Cond.methodLink RX8 168 yX8_does, Cond.instanceMethod yX8_does, Cond.selects RX8 yX8_does yX8_does, Cond.code yX8_does cX8_does 5 none, Cond.methodLink RL 147 yX7_votes, Cond.instanceMethod yX7_votes, Cond.selects RX7 yX7_votes yX7_votes, Cond.code yX7_votes cX7_votes 2 (some .int), Cond.methodLink RX7 239 yX4_votesOf]
def wsL_law_r35 : List Cond := [Cond.methodLink RL 150 yX8_votes, Cond.instanceMethod yX8_votes, Cond.selects RX8 yX8_votes yX8_votes, Cond.code yX8_votes cX8_votes 2 (some .int), Cond.methodLink RL 151 yX7_motionState, Cond.instanceMethod yX7_motionState, Cond.selects RX7 yX7_motionState yX7_motionState, Cond.code yX7_motionState cX7_motionState 2 (some .int), Cond.methodLink RL 154 yX8_motionState, Cond.instanceMethod yX8_motionState, Cond.selects RX8 yX8_motionState yX8_motionState, Cond.code yX8_motionState cX8_motionState 2 (some .int), Cond.methodLink RL 155 yX7_votesFor, Cond.instanceMethod yX7_votesFor, Cond.selects RX7 yX7_votesFor yX7_votesFor, Cond.code yX7_votesFor cX7_votesFor 2 (some .int), Cond.methodLink RX7 242 yX4_sumOfVotes, Cond.methodLink RL 158 yX8_votesFor, Cond.instanceMethod yX8_votesFor, Cond.selects RX8 yX8_votesFor yX8_votesFor, Cond.code yX8_votesFor cX8_votesFor 2 (some .int), Cond.methodLink RL 159 yX7_day, Cond.instanceMethod yX7_day, Cond.selects RX7 yX7_day yX7_day]
def wsL_law_r36 : List Cond := [Cond.code yX7_day cX7_day 1 (some .int), Cond.fieldLink RX7 245 "DairyShares$Register" "daysPassed" "I", Cond.methodLink RL 162 yX8_day, Cond.instanceMethod yX8_day, Cond.selects RX8 yX8_day yX8_day, Cond.code yX8_day cX8_day 1 (some .int), Cond.methodLink RL 163 yX7_historySize, Cond.instanceMethod yX7_historySize, Cond.selects RX7 yX7_historySize yX7_historySize, Cond.code yX7_historySize cX7_historySize 1 (some .int), Cond.methodLink RL 166 yX8_historySize, Cond.instanceMethod yX8_historySize, Cond.selects RX8 yX8_historySize yX8_historySize, Cond.code yX8_historySize cX8_historySize 1 (some .int), Cond.methodLink RL 167 yX7_undo, Cond.instanceMethod yX7_undo, Cond.selects RX7 yX7_undo yX7_undo, Cond.code yX7_undo cX7_undo 2 (some .int), Cond.methodLink RL 170 yX8_undo, Cond.instanceMethod yX8_undo, Cond.selects RX8 yX8_undo yX8_undo, Cond.code yX8_undo cX8_undo 2 (some .int)]
def wsL_law : List Cond := (wsL_law_r1 ++ (wsL_law_r2 ++ (wsL_law_r3 ++ (wsL_law_r4 ++ (wsL_law_r5 ++ (wsL_law_r6 ++ (wsL_law_r7 ++ (wsL_law_r8 ++ (wsL_law_r9 ++ (wsL_law_r10 ++ (wsL_law_r11 ++ (wsL_law_r12 ++ (wsL_law_r13 ++ (wsL_law_r14 ++ (wsL_law_r15 ++ (wsL_law_r16 ++ (wsL_law_r17 ++ (wsL_law_r18 ++ (wsL_law_r19 ++ (wsL_law_r20 ++ (wsL_law_r21 ++ (wsL_law_r22 ++ (wsL_law_r23 ++ (wsL_law_r24 ++ (wsL_law_r25 ++ (wsL_law_r26 ++ (wsL_law_r27 ++ (wsL_law_r28 ++ (wsL_law_r29 ++ (wsL_law_r30 ++ (wsL_law_r31 ++ (wsL_law_r32 ++ (wsL_law_r33 ++ (wsL_law_r34 ++ (wsL_law_r35 ++ wsL_law_r36))))))))))))))))))))))))))))))))))) ++ wsX70 ++ wsX80 ++ wsX40 ++ wsX60 ++ wsX10 ++ wsX50 ++ wsX00 ++ wsX30 ++ wsX20 ++ ([] : List Cond)
set_option maxRecDepth 20000 in
theorem inlX0 : ∀ w ∈ wsX00, w ∈ wsL_law := fun _ h => List.mem_append_left _ (List.mem_append_left _ (List.mem_append_left _ (List.mem_append_right _ h)))
theorem inlX1 : ∀ w ∈ wsX10, w ∈ wsL_law := fun _ h => List.mem_append_left _ (List.mem_append_left _ (List.mem_append_left _ (List.mem_append_left _ (List.mem_append_left _ (List.mem_append_right _ h)))))
theorem inlX2 : ∀ w ∈ wsX20, w ∈ wsL_law := fun _ h => List.mem_append_left _ (List.mem_append_right _ h)
theorem inlX3 : ∀ w ∈ wsX30, w ∈ wsL_law := fun _ h => List.mem_append_left _ (List.mem_append_left _ (List.mem_append_right _ h))
theorem inlX4 : ∀ w ∈ wsX40, w ∈ wsL_law := fun _ h => List.mem_append_left _ (List.mem_append_left _ (List.mem_append_left _ (List.mem_append_left _ (List.mem_append_left _ (List.mem_append_left _ (List.mem_append_left _ (List.mem_append_right _ h)))))))
theorem inlX5 : ∀ w ∈ wsX50, w ∈ wsL_law := fun _ h => List.mem_append_left _ (List.mem_append_left _ (List.mem_append_left _ (List.mem_append_left _ (List.mem_append_right _ h))))
theorem inlX6 : ∀ w ∈ wsX60, w ∈ wsL_law := fun _ h => List.mem_append_left _ (List.mem_append_left _ (List.mem_append_left _ (List.mem_append_left _ (List.mem_append_left _ (List.mem_append_left _ (List.mem_append_right _ h))))))
theorem inlX7 : ∀ w ∈ wsX70, w ∈ wsL_law := fun _ h => List.mem_append_left _ (List.mem_append_left _ (List.mem_append_left _ (List.mem_append_left _ (List.mem_append_left _ (List.mem_append_left _ (List.mem_append_left _ (List.mem_append_left _ (List.mem_append_left _ (List.mem_append_right _ h)))))))))
theorem inlX8 : ∀ w ∈ wsX80, w ∈ wsL_law := fun _ h => List.mem_append_left _ (List.mem_append_left _ (List.mem_append_left _ (List.mem_append_left _ (List.mem_append_left _ (List.mem_append_left _ (List.mem_append_left _ (List.mem_append_left _ (List.mem_append_right _ h))))))))
abbrev vwCl : List vw_C := [(RX0, TX0, 5), (RX1, TX1, 4), (RX2, TX2, 5), (RX3, TX3, 9), (RX4, TX4, 7), (RX5, TX5, 7), (RX6, TX6, 3), (RX7, TX7, 7), (RX8, TX8, 6)]
/-! the words of the tables, a theorem each -/
theorem zr_1 : ∀ w ∈ wsL_law_r1, w ∈ wsL_law := fun _ h => (List.mem_append_left _ (List.mem_append_left _ (List.mem_append_left _ (List.mem_append_left _ (List.mem_append_left _ (List.mem_append_left _ (List.mem_append_left _ (List.mem_append_left _ (List.mem_append_left _ (List.mem_append_left _ (List.mem_append_left _ h)))))))))))
theorem zr_2 : ∀ w ∈ wsL_law_r2, w ∈ wsL_law := fun _ h => (List.mem_append_left _ (List.mem_append_left _ (List.mem_append_left _ (List.mem_append_left _ (List.mem_append_left _ (List.mem_append_left _ (List.mem_append_left _ (List.mem_append_left _ (List.mem_append_left _ (List.mem_append_left _ (List.mem_append_right _ (List.mem_append_left _ h))))))))))))
theorem zr_3 : ∀ w ∈ wsL_law_r3, w ∈ wsL_law := fun _ h => (List.mem_append_left _ (List.mem_append_left _ (List.mem_append_left _ (List.mem_append_left _ (List.mem_append_left _ (List.mem_append_left _ (List.mem_append_left _ (List.mem_append_left _ (List.mem_append_left _ (List.mem_append_left _ (List.mem_append_right _ (List.mem_append_right _ (List.mem_append_left _ h)))))))))))))
theorem zr_4 : ∀ w ∈ wsL_law_r4, w ∈ wsL_law := fun _ h => (List.mem_append_left _ (List.mem_append_left _ (List.mem_append_left _ (List.mem_append_left _ (List.mem_append_left _ (List.mem_append_left _ (List.mem_append_left _ (List.mem_append_left _ (List.mem_append_left _ (List.mem_append_left _ (List.mem_append_right _ (List.mem_append_right _ (List.mem_append_right _ (List.mem_append_left _ h))))))))))))))
theorem zr_5 : ∀ w ∈ wsL_law_r5, w ∈ wsL_law := fun _ h => (List.mem_append_left _ (List.mem_append_left _ (List.mem_append_left _ (List.mem_append_left _ (List.mem_append_left _ (List.mem_append_left _ (List.mem_append_left _ (List.mem_append_left _ (List.mem_append_left _ (List.mem_append_left _ (List.mem_append_right _ (List.mem_append_right _ (List.mem_append_right _ (List.mem_append_right _ (List.mem_append_left _ h)))))))))))))))
theorem zr_6 : ∀ w ∈ wsL_law_r6, w ∈ wsL_law := fun _ h => (List.mem_append_left _ (List.mem_append_left _ (List.mem_append_left _ (List.mem_append_left _ (List.mem_append_left _ (List.mem_append_left _ (List.mem_append_left _ (List.mem_append_left _ (List.mem_append_left _ (List.mem_append_left _ (List.mem_append_right _ (List.mem_append_right _ (List.mem_append_right _ (List.mem_append_right _ (List.mem_append_right _ (List.mem_append_left _ h))))))))))))))))
theorem zr_7 : ∀ w ∈ wsL_law_r7, w ∈ wsL_law := fun _ h => (List.mem_append_left _ (List.mem_append_left _ (List.mem_append_left _ (List.mem_append_left _ (List.mem_append_left _ (List.mem_append_left _ (List.mem_append_left _ (List.mem_append_left _ (List.mem_append_left _ (List.mem_append_left _ (List.mem_append_right _ (List.mem_append_right _ (List.mem_append_right _ (List.mem_append_right _ (List.mem_append_right _ (List.mem_append_right _ (List.mem_append_left _ h)))))))))))))))))
theorem zr_8 : ∀ w ∈ wsL_law_r8, w ∈ wsL_law := fun _ h => (List.mem_append_left _ (List.mem_append_left _ (List.mem_append_left _ (List.mem_append_left _ (List.mem_append_left _ (List.mem_append_left _ (List.mem_append_left _ (List.mem_append_left _ (List.mem_append_left _ (List.mem_append_left _ (List.mem_append_right _ (List.mem_append_right _ (List.mem_append_right _ (List.mem_append_right _ (List.mem_append_right _ (List.mem_append_right _ (List.mem_append_right _ (List.mem_append_left _ h))))))))))))))))))
theorem zr_9 : ∀ w ∈ wsL_law_r9, w ∈ wsL_law := fun _ h => (List.mem_append_left _ (List.mem_append_left _ (List.mem_append_left _ (List.mem_append_left _ (List.mem_append_left _ (List.mem_append_left _ (List.mem_append_left _ (List.mem_append_left _ (List.mem_append_left _ (List.mem_append_left _ (List.mem_append_right _ (List.mem_append_right _ (List.mem_append_right _ (List.mem_append_right _ (List.mem_append_right _ (List.mem_append_right _ (List.mem_append_right _ (List.mem_append_right _ (List.mem_append_left _ h)))))))))))))))))))
theorem zr_10 : ∀ w ∈ wsL_law_r10, w ∈ wsL_law := fun _ h => (List.mem_append_left _ (List.mem_append_left _ (List.mem_append_left _ (List.mem_append_left _ (List.mem_append_left _ (List.mem_append_left _ (List.mem_append_left _ (List.mem_append_left _ (List.mem_append_left _ (List.mem_append_left _ (List.mem_append_right _ (List.mem_append_right _ (List.mem_append_right _ (List.mem_append_right _ (List.mem_append_right _ (List.mem_append_right _ (List.mem_append_right _ (List.mem_append_right _ (List.mem_append_right _ (List.mem_append_left _ h))))))))))))))))))))
theorem zr_11 : ∀ w ∈ wsL_law_r11, w ∈ wsL_law := fun _ h => (List.mem_append_left _ (List.mem_append_left _ (List.mem_append_left _ (List.mem_append_left _ (List.mem_append_left _ (List.mem_append_left _ (List.mem_append_left _ (List.mem_append_left _ (List.mem_append_left _ (List.mem_append_left _ (List.mem_append_right _ (List.mem_append_right _ (List.mem_append_right _ (List.mem_append_right _ (List.mem_append_right _ (List.mem_append_right _ (List.mem_append_right _ (List.mem_append_right _ (List.mem_append_right _ (List.mem_append_right _ (List.mem_append_left _ h)))))))))))))))))))))
theorem zr_12 : ∀ w ∈ wsL_law_r12, w ∈ wsL_law := fun _ h => (List.mem_append_left _ (List.mem_append_left _ (List.mem_append_left _ (List.mem_append_left _ (List.mem_append_left _ (List.mem_append_left _ (List.mem_append_left _ (List.mem_append_left _ (List.mem_append_left _ (List.mem_append_left _ (List.mem_append_right _ (List.mem_append_right _ (List.mem_append_right _ (List.mem_append_right _ (List.mem_append_right _ (List.mem_append_right _ (List.mem_append_right _ (List.mem_append_right _ (List.mem_append_right _ (List.mem_append_right _ (List.mem_append_right _ (List.mem_append_left _ h))))))))))))))))))))))
theorem zr_13 : ∀ w ∈ wsL_law_r13, w ∈ wsL_law := fun _ h => (List.mem_append_left _ (List.mem_append_left _ (List.mem_append_left _ (List.mem_append_left _ (List.mem_append_left _ (List.mem_append_left _ (List.mem_append_left _ (List.mem_append_left _ (List.mem_append_left _ (List.mem_append_left _ (List.mem_append_right _ (List.mem_append_right _ (List.mem_append_right _ (List.mem_append_right _ (List.mem_append_right _ (List.mem_append_right _ (List.mem_append_right _ (List.mem_append_right _ (List.mem_append_right _ (List.mem_append_right _ (List.mem_append_right _ (List.mem_append_right _ (List.mem_append_left _ h)))))))))))))))))))))))
theorem zr_14 : ∀ w ∈ wsL_law_r14, w ∈ wsL_law := fun _ h => (List.mem_append_left _ (List.mem_append_left _ (List.mem_append_left _ (List.mem_append_left _ (List.mem_append_left _ (List.mem_append_left _ (List.mem_append_left _ (List.mem_append_left _ (List.mem_append_left _ (List.mem_append_left _ (List.mem_append_right _ (List.mem_append_right _ (List.mem_append_right _ (List.mem_append_right _ (List.mem_append_right _ (List.mem_append_right _ (List.mem_append_right _ (List.mem_append_right _ (List.mem_append_right _ (List.mem_append_right _ (List.mem_append_right _ (List.mem_append_right _ (List.mem_append_right _ (List.mem_append_left _ h))))))))))))))))))))))))
theorem zr_15 : ∀ w ∈ wsL_law_r15, w ∈ wsL_law := fun _ h => (List.mem_append_left _ (List.mem_append_left _ (List.mem_append_left _ (List.mem_append_left _ (List.mem_append_left _ (List.mem_append_left _ (List.mem_append_left _ (List.mem_append_left _ (List.mem_append_left _ (List.mem_append_left _ (List.mem_append_right _ (List.mem_append_right _ (List.mem_append_right _ (List.mem_append_right _ (List.mem_append_right _ (List.mem_append_right _ (List.mem_append_right _ (List.mem_append_right _ (List.mem_append_right _ (List.mem_append_right _ (List.mem_append_right _ (List.mem_append_right _ (List.mem_append_right _ (List.mem_append_right _ (List.mem_append_left _ h)))))))))))))))))))))))))
theorem zr_16 : ∀ w ∈ wsL_law_r16, w ∈ wsL_law := fun _ h => (List.mem_append_left _ (List.mem_append_left _ (List.mem_append_left _ (List.mem_append_left _ (List.mem_append_left _ (List.mem_append_left _ (List.mem_append_left _ (List.mem_append_left _ (List.mem_append_left _ (List.mem_append_left _ (List.mem_append_right _ (List.mem_append_right _ (List.mem_append_right _ (List.mem_append_right _ (List.mem_append_right _ (List.mem_append_right _ (List.mem_append_right _ (List.mem_append_right _ (List.mem_append_right _ (List.mem_append_right _ (List.mem_append_right _ (List.mem_append_right _ (List.mem_append_right _ (List.mem_append_right _ (List.mem_append_right _ (List.mem_append_left _ h))))))))))))))))))))))))))
theorem zr_17 : ∀ w ∈ wsL_law_r17, w ∈ wsL_law := fun _ h => (List.mem_append_left _ (List.mem_append_left _ (List.mem_append_left _ (List.mem_append_left _ (List.mem_append_left _ (List.mem_append_left _ (List.mem_append_left _ (List.mem_append_left _ (List.mem_append_left _ (List.mem_append_left _ (List.mem_append_right _ (List.mem_append_right _ (List.mem_append_right _ (List.mem_append_right _ (List.mem_append_right _ (List.mem_append_right _ (List.mem_append_right _ (List.mem_append_right _ (List.mem_append_right _ (List.mem_append_right _ (List.mem_append_right _ (List.mem_append_right _ (List.mem_append_right _ (List.mem_append_right _ (List.mem_append_right _ (List.mem_append_right _ (List.mem_append_left _ h)))))))))))))))))))))))))))
theorem zr_18 : ∀ w ∈ wsL_law_r18, w ∈ wsL_law := fun _ h => (List.mem_append_left _ (List.mem_append_left _ (List.mem_append_left _ (List.mem_append_left _ (List.mem_append_left _ (List.mem_append_left _ (List.mem_append_left _ (List.mem_append_left _ (List.mem_append_left _ (List.mem_append_left _ (List.mem_append_right _ (List.mem_append_right _ (List.mem_append_right _ (List.mem_append_right _ (List.mem_append_right _ (List.mem_append_right _ (List.mem_append_right _ (List.mem_append_right _ (List.mem_append_right _ (List.mem_append_right _ (List.mem_append_right _ (List.mem_append_right _ (List.mem_append_right _ (List.mem_append_right _ (List.mem_append_right _ (List.mem_append_right _ (List.mem_append_right _ (List.mem_append_left _ h))))))))))))))))))))))))))))
theorem zr_19 : ∀ w ∈ wsL_law_r19, w ∈ wsL_law := fun _ h => (List.mem_append_left _ (List.mem_append_left _ (List.mem_append_left _ (List.mem_append_left _ (List.mem_append_left _ (List.mem_append_left _ (List.mem_append_left _ (List.mem_append_left _ (List.mem_append_left _ (List.mem_append_left _ (List.mem_append_right _ (List.mem_append_right _ (List.mem_append_right _ (List.mem_append_right _ (List.mem_append_right _ (List.mem_append_right _ (List.mem_append_right _ (List.mem_append_right _ (List.mem_append_right _ (List.mem_append_right _ (List.mem_append_right _ (List.mem_append_right _ (List.mem_append_right _ (List.mem_append_right _ (List.mem_append_right _ (List.mem_append_right _ (List.mem_append_right _ (List.mem_append_right _ (List.mem_append_left _ h)))))))))))))))))))))))))))))
theorem zr_20 : ∀ w ∈ wsL_law_r20, w ∈ wsL_law := fun _ h => (List.mem_append_left _ (List.mem_append_left _ (List.mem_append_left _ (List.mem_append_left _ (List.mem_append_left _ (List.mem_append_left _ (List.mem_append_left _ (List.mem_append_left _ (List.mem_append_left _ (List.mem_append_left _ (List.mem_append_right _ (List.mem_append_right _ (List.mem_append_right _ (List.mem_append_right _ (List.mem_append_right _ (List.mem_append_right _ (List.mem_append_right _ (List.mem_append_right _ (List.mem_append_right _ (List.mem_append_right _ (List.mem_append_right _ (List.mem_append_right _ (List.mem_append_right _ (List.mem_append_right _ (List.mem_append_right _ (List.mem_append_right _ (List.mem_append_right _ (List.mem_append_right _ (List.mem_append_right _ (List.mem_append_left _ h))))))))))))))))))))))))))))))
theorem zr_21 : ∀ w ∈ wsL_law_r21, w ∈ wsL_law := fun _ h => (List.mem_append_left _ (List.mem_append_left _ (List.mem_append_left _ (List.mem_append_left _ (List.mem_append_left _ (List.mem_append_left _ (List.mem_append_left _ (List.mem_append_left _ (List.mem_append_left _ (List.mem_append_left _ (List.mem_append_right _ (List.mem_append_right _ (List.mem_append_right _ (List.mem_append_right _ (List.mem_append_right _ (List.mem_append_right _ (List.mem_append_right _ (List.mem_append_right _ (List.mem_append_right _ (List.mem_append_right _ (List.mem_append_right _ (List.mem_append_right _ (List.mem_append_right _ (List.mem_append_right _ (List.mem_append_right _ (List.mem_append_right _ (List.mem_append_right _ (List.mem_append_right _ (List.mem_append_right _ (List.mem_append_right _ (List.mem_append_left _ h)))))))))))))))))))))))))))))))
theorem zr_22 : ∀ w ∈ wsL_law_r22, w ∈ wsL_law := fun _ h => (List.mem_append_left _ (List.mem_append_left _ (List.mem_append_left _ (List.mem_append_left _ (List.mem_append_left _ (List.mem_append_left _ (List.mem_append_left _ (List.mem_append_left _ (List.mem_append_left _ (List.mem_append_left _ (List.mem_append_right _ (List.mem_append_right _ (List.mem_append_right _ (List.mem_append_right _ (List.mem_append_right _ (List.mem_append_right _ (List.mem_append_right _ (List.mem_append_right _ (List.mem_append_right _ (List.mem_append_right _ (List.mem_append_right _ (List.mem_append_right _ (List.mem_append_right _ (List.mem_append_right _ (List.mem_append_right _ (List.mem_append_right _ (List.mem_append_right _ (List.mem_append_right _ (List.mem_append_right _ (List.mem_append_right _ (List.mem_append_right _ (List.mem_append_left _ h))))))))))))))))))))))))))))))))
theorem zr_23 : ∀ w ∈ wsL_law_r23, w ∈ wsL_law := fun _ h => (List.mem_append_left _ (List.mem_append_left _ (List.mem_append_left _ (List.mem_append_left _ (List.mem_append_left _ (List.mem_append_left _ (List.mem_append_left _ (List.mem_append_left _ (List.mem_append_left _ (List.mem_append_left _ (List.mem_append_right _ (List.mem_append_right _ (List.mem_append_right _ (List.mem_append_right _ (List.mem_append_right _ (List.mem_append_right _ (List.mem_append_right _ (List.mem_append_right _ (List.mem_append_right _ (List.mem_append_right _ (List.mem_append_right _ (List.mem_append_right _ (List.mem_append_right _ (List.mem_append_right _ (List.mem_append_right _ (List.mem_append_right _ (List.mem_append_right _ (List.mem_append_right _ (List.mem_append_right _ (List.mem_append_right _ (List.mem_append_right _ (List.mem_append_right _ (List.mem_append_left _ h)))))))))))))))))))))))))))))))))
theorem zr_24 : ∀ w ∈ wsL_law_r24, w ∈ wsL_law := fun _ h => (List.mem_append_left _ (List.mem_append_left _ (List.mem_append_left _ (List.mem_append_left _ (List.mem_append_left _ (List.mem_append_left _ (List.mem_append_left _ (List.mem_append_left _ (List.mem_append_left _ (List.mem_append_left _ (List.mem_append_right _ (List.mem_append_right _ (List.mem_append_right _ (List.mem_append_right _ (List.mem_append_right _ (List.mem_append_right _ (List.mem_append_right _ (List.mem_append_right _ (List.mem_append_right _ (List.mem_append_right _ (List.mem_append_right _ (List.mem_append_right _ (List.mem_append_right _ (List.mem_append_right _ (List.mem_append_right _ (List.mem_append_right _ (List.mem_append_right _ (List.mem_append_right _ (List.mem_append_right _ (List.mem_append_right _ (List.mem_append_right _ (List.mem_append_right _ (List.mem_append_right _ (List.mem_append_left _ h))))))))))))))))))))))))))))))))))
theorem zr_25 : ∀ w ∈ wsL_law_r25, w ∈ wsL_law := fun _ h => (List.mem_append_left _ (List.mem_append_left _ (List.mem_append_left _ (List.mem_append_left _ (List.mem_append_left _ (List.mem_append_left _ (List.mem_append_left _ (List.mem_append_left _ (List.mem_append_left _ (List.mem_append_left _ (List.mem_append_right _ (List.mem_append_right _ (List.mem_append_right _ (List.mem_append_right _ (List.mem_append_right _ (List.mem_append_right _ (List.mem_append_right _ (List.mem_append_right _ (List.mem_append_right _ (List.mem_append_right _ (List.mem_append_right _ (List.mem_append_right _ (List.mem_append_right _ (List.mem_append_right _ (List.mem_append_right _ (List.mem_append_right _ (List.mem_append_right _ (List.mem_append_right _ (List.mem_append_right _ (List.mem_append_right _ (List.mem_append_right _ (List.mem_append_right _ (List.mem_append_right _ (List.mem_append_right _ (List.mem_append_left _ h)))))))))))))))))))))))))))))))))))
theorem zr_26 : ∀ w ∈ wsL_law_r26, w ∈ wsL_law := fun _ h => (List.mem_append_left _ (List.mem_append_left _ (List.mem_append_left _ (List.mem_append_left _ (List.mem_append_left _ (List.mem_append_left _ (List.mem_append_left _ (List.mem_append_left _ (List.mem_append_left _ (List.mem_append_left _ (List.mem_append_right _ (List.mem_append_right _ (List.mem_append_right _ (List.mem_append_right _ (List.mem_append_right _ (List.mem_append_right _ (List.mem_append_right _ (List.mem_append_right _ (List.mem_append_right _ (List.mem_append_right _ (List.mem_append_right _ (List.mem_append_right _ (List.mem_append_right _ (List.mem_append_right _ (List.mem_append_right _ (List.mem_append_right _ (List.mem_append_right _ (List.mem_append_right _ (List.mem_append_right _ (List.mem_append_right _ (List.mem_append_right _ (List.mem_append_right _ (List.mem_append_right _ (List.mem_append_right _ (List.mem_append_right _ (List.mem_append_left _ h))))))))))))))))))))))))))))))))))))
theorem zr_27 : ∀ w ∈ wsL_law_r27, w ∈ wsL_law := fun _ h => (List.mem_append_left _ (List.mem_append_left _ (List.mem_append_left _ (List.mem_append_left _ (List.mem_append_left _ (List.mem_append_left _ (List.mem_append_left _ (List.mem_append_left _ (List.mem_append_left _ (List.mem_append_left _ (List.mem_append_right _ (List.mem_append_right _ (List.mem_append_right _ (List.mem_append_right _ (List.mem_append_right _ (List.mem_append_right _ (List.mem_append_right _ (List.mem_append_right _ (List.mem_append_right _ (List.mem_append_right _ (List.mem_append_right _ (List.mem_append_right _ (List.mem_append_right _ (List.mem_append_right _ (List.mem_append_right _ (List.mem_append_right _ (List.mem_append_right _ (List.mem_append_right _ (List.mem_append_right _ (List.mem_append_right _ (List.mem_append_right _ (List.mem_append_right _ (List.mem_append_right _ (List.mem_append_right _ (List.mem_append_right _ (List.mem_append_right _ (List.mem_append_left _ h)))))))))))))))))))))))))))))))))))))
theorem zr_28 : ∀ w ∈ wsL_law_r28, w ∈ wsL_law := fun _ h => (List.mem_append_left _ (List.mem_append_left _ (List.mem_append_left _ (List.mem_append_left _ (List.mem_append_left _ (List.mem_append_left _ (List.mem_append_left _ (List.mem_append_left _ (List.mem_append_left _ (List.mem_append_left _ (List.mem_append_right _ (List.mem_append_right _ (List.mem_append_right _ (List.mem_append_right _ (List.mem_append_right _ (List.mem_append_right _ (List.mem_append_right _ (List.mem_append_right _ (List.mem_append_right _ (List.mem_append_right _ (List.mem_append_right _ (List.mem_append_right _ (List.mem_append_right _ (List.mem_append_right _ (List.mem_append_right _ (List.mem_append_right _ (List.mem_append_right _ (List.mem_append_right _ (List.mem_append_right _ (List.mem_append_right _ (List.mem_append_right _ (List.mem_append_right _ (List.mem_append_right _ (List.mem_append_right _ (List.mem_append_right _ (List.mem_append_right _ (List.mem_append_right _ (List.mem_append_left _ h))))))))))))))))))))))))))))))))))))))
theorem zr_29 : ∀ w ∈ wsL_law_r29, w ∈ wsL_law := fun _ h => (List.mem_append_left _ (List.mem_append_left _ (List.mem_append_left _ (List.mem_append_left _ (List.mem_append_left _ (List.mem_append_left _ (List.mem_append_left _ (List.mem_append_left _ (List.mem_append_left _ (List.mem_append_left _ (List.mem_append_right _ (List.mem_append_right _ (List.mem_append_right _ (List.mem_append_right _ (List.mem_append_right _ (List.mem_append_right _ (List.mem_append_right _ (List.mem_append_right _ (List.mem_append_right _ (List.mem_append_right _ (List.mem_append_right _ (List.mem_append_right _ (List.mem_append_right _ (List.mem_append_right _ (List.mem_append_right _ (List.mem_append_right _ (List.mem_append_right _ (List.mem_append_right _ (List.mem_append_right _ (List.mem_append_right _ (List.mem_append_right _ (List.mem_append_right _ (List.mem_append_right _ (List.mem_append_right _ (List.mem_append_right _ (List.mem_append_right _ (List.mem_append_right _ (List.mem_append_right _ (List.mem_append_left _ h)))))))))))))))))))))))))))))))))))))))
theorem zr_30 : ∀ w ∈ wsL_law_r30, w ∈ wsL_law := fun _ h => (List.mem_append_left _ (List.mem_append_left _ (List.mem_append_left _ (List.mem_append_left _ (List.mem_append_left _ (List.mem_append_left _ (List.mem_append_left _ (List.mem_append_left _ (List.mem_append_left _ (List.mem_append_left _ (List.mem_append_right _ (List.mem_append_right _ (List.mem_append_right _ (List.mem_append_right _ (List.mem_append_right _ (List.mem_append_right _ (List.mem_append_right _ (List.mem_append_right _ (List.mem_append_right _ (List.mem_append_right _ (List.mem_append_right _ (List.mem_append_right _ (List.mem_append_right _ (List.mem_append_right _ (List.mem_append_right _ (List.mem_append_right _ (List.mem_append_right _ (List.mem_append_right _ (List.mem_append_right _ (List.mem_append_right _ (List.mem_append_right _ (List.mem_append_right _ (List.mem_append_right _ (List.mem_append_right _ (List.mem_append_right _ (List.mem_append_right _ (List.mem_append_right _ (List.mem_append_right _ (List.mem_append_right _ (List.mem_append_left _ h))))))))))))))))))))))))))))))))))))))))
theorem zr_31 : ∀ w ∈ wsL_law_r31, w ∈ wsL_law := fun _ h => (List.mem_append_left _ (List.mem_append_left _ (List.mem_append_left _ (List.mem_append_left _ (List.mem_append_left _ (List.mem_append_left _ (List.mem_append_left _ (List.mem_append_left _ (List.mem_append_left _ (List.mem_append_left _ (List.mem_append_right _ (List.mem_append_right _ (List.mem_append_right _ (List.mem_append_right _ (List.mem_append_right _ (List.mem_append_right _ (List.mem_append_right _ (List.mem_append_right _ (List.mem_append_right _ (List.mem_append_right _ (List.mem_append_right _ (List.mem_append_right _ (List.mem_append_right _ (List.mem_append_right _ (List.mem_append_right _ (List.mem_append_right _ (List.mem_append_right _ (List.mem_append_right _ (List.mem_append_right _ (List.mem_append_right _ (List.mem_append_right _ (List.mem_append_right _ (List.mem_append_right _ (List.mem_append_right _ (List.mem_append_right _ (List.mem_append_right _ (List.mem_append_right _ (List.mem_append_right _ (List.mem_append_right _ (List.mem_append_right _ (List.mem_append_left _ h)))))))))))))))))))))))))))))))))))))))))
theorem zr_32 : ∀ w ∈ wsL_law_r32, w ∈ wsL_law := fun _ h => (List.mem_append_left _ (List.mem_append_left _ (List.mem_append_left _ (List.mem_append_left _ (List.mem_append_left _ (List.mem_append_left _ (List.mem_append_left _ (List.mem_append_left _ (List.mem_append_left _ (List.mem_append_left _ (List.mem_append_right _ (List.mem_append_right _ (List.mem_append_right _ (List.mem_append_right _ (List.mem_append_right _ (List.mem_append_right _ (List.mem_append_right _ (List.mem_append_right _ (List.mem_append_right _ (List.mem_append_right _ (List.mem_append_right _ (List.mem_append_right _ (List.mem_append_right _ (List.mem_append_right _ (List.mem_append_right _ (List.mem_append_right _ (List.mem_append_right _ (List.mem_append_right _ (List.mem_append_right _ (List.mem_append_right _ (List.mem_append_right _ (List.mem_append_right _ (List.mem_append_right _ (List.mem_append_right _ (List.mem_append_right _ (List.mem_append_right _ (List.mem_append_right _ (List.mem_append_right _ (List.mem_append_right _ (List.mem_append_right _ (List.mem_append_right _ (List.mem_append_left _ h))))))))))))))))))))))))))))))))))))))))))
theorem zr_33 : ∀ w ∈ wsL_law_r33, w ∈ wsL_law := fun _ h => (List.mem_append_left _ (List.mem_append_left _ (List.mem_append_left _ (List.mem_append_left _ (List.mem_append_left _ (List.mem_append_left _ (List.mem_append_left _ (List.mem_append_left _ (List.mem_append_left _ (List.mem_append_left _ (List.mem_append_right _ (List.mem_append_right _ (List.mem_append_right _ (List.mem_append_right _ (List.mem_append_right _ (List.mem_append_right _ (List.mem_append_right _ (List.mem_append_right _ (List.mem_append_right _ (List.mem_append_right _ (List.mem_append_right _ (List.mem_append_right _ (List.mem_append_right _ (List.mem_append_right _ (List.mem_append_right _ (List.mem_append_right _ (List.mem_append_right _ (List.mem_append_right _ (List.mem_append_right _ (List.mem_append_right _ (List.mem_append_right _ (List.mem_append_right _ (List.mem_append_right _ (List.mem_append_right _ (List.mem_append_right _ (List.mem_append_right _ (List.mem_append_right _ (List.mem_append_right _ (List.mem_append_right _ (List.mem_append_right _ (List.mem_append_right _ (List.mem_append_right _ (List.mem_append_left _ h)))))))))))))))))))))))))))))))))))))))))))
theorem zr_34 : ∀ w ∈ wsL_law_r34, w ∈ wsL_law := fun _ h => (List.mem_append_left _ (List.mem_append_left _ (List.mem_append_left _ (List.mem_append_left _ (List.mem_append_left _ (List.mem_append_left _ (List.mem_append_left _ (List.mem_append_left _ (List.mem_append_left _ (List.mem_append_left _ (List.mem_append_right _ (List.mem_append_right _ (List.mem_append_right _ (List.mem_append_right _ (List.mem_append_right _ (List.mem_append_right _ (List.mem_append_right _ (List.mem_append_right _ (List.mem_append_right _ (List.mem_append_right _ (List.mem_append_right _ (List.mem_append_right _ (List.mem_append_right _ (List.mem_append_right _ (List.mem_append_right _ (List.mem_append_right _ (List.mem_append_right _ (List.mem_append_right _ (List.mem_append_right _ (List.mem_append_right _ (List.mem_append_right _ (List.mem_append_right _ (List.mem_append_right _ (List.mem_append_right _ (List.mem_append_right _ (List.mem_append_right _ (List.mem_append_right _ (List.mem_append_right _ (List.mem_append_right _ (List.mem_append_right _ (List.mem_append_right _ (List.mem_append_right _ (List.mem_append_right _ (List.mem_append_left _ h))))))))))))))))))))))))))))))))))))))))))))
theorem zr_35 : ∀ w ∈ wsL_law_r35, w ∈ wsL_law := fun _ h => (List.mem_append_left _ (List.mem_append_left _ (List.mem_append_left _ (List.mem_append_left _ (List.mem_append_left _ (List.mem_append_left _ (List.mem_append_left _ (List.mem_append_left _ (List.mem_append_left _ (List.mem_append_left _ (List.mem_append_right _ (List.mem_append_right _ (List.mem_append_right _ (List.mem_append_right _ (List.mem_append_right _ (List.mem_append_right _ (List.mem_append_right _ (List.mem_append_right _ (List.mem_append_right _ (List.mem_append_right _ (List.mem_append_right _ (List.mem_append_right _ (List.mem_append_right _ (List.mem_append_right _ (List.mem_append_right _ (List.mem_append_right _ (List.mem_append_right _ (List.mem_append_right _ (List.mem_append_right _ (List.mem_append_right _ (List.mem_append_right _ (List.mem_append_right _ (List.mem_append_right _ (List.mem_append_right _ (List.mem_append_right _ (List.mem_append_right _ (List.mem_append_right _ (List.mem_append_right _ (List.mem_append_right _ (List.mem_append_right _ (List.mem_append_right _ (List.mem_append_right _ (List.mem_append_right _ (List.mem_append_right _ (List.mem_append_left _ h)))))))))))))))))))))))))))))))))))))))))))))
theorem zr_36 : ∀ w ∈ wsL_law_r36, w ∈ wsL_law := fun _ h => (List.mem_append_left _ (List.mem_append_left _ (List.mem_append_left _ (List.mem_append_left _ (List.mem_append_left _ (List.mem_append_left _ (List.mem_append_left _ (List.mem_append_left _ (List.mem_append_left _ (List.mem_append_left _ (List.mem_append_right _ (List.mem_append_right _ (List.mem_append_right _ (List.mem_append_right _ (List.mem_append_right _ (List.mem_append_right _ (List.mem_append_right _ (List.mem_append_right _ (List.mem_append_right _ (List.mem_append_right _ (List.mem_append_right _ (List.mem_append_right _ (List.mem_append_right _ (List.mem_append_right _ (List.mem_append_right _ (List.mem_append_right _ (List.mem_append_right _ (List.mem_append_right _ (List.mem_append_right _ (List.mem_append_right _ (List.mem_append_right _ (List.mem_append_right _ (List.mem_append_right _ (List.mem_append_right _ (List.mem_append_right _ (List.mem_append_right _ (List.mem_append_right _ (List.mem_append_right _ (List.mem_append_right _ (List.mem_append_right _ (List.mem_append_right _ (List.mem_append_right _ (List.mem_append_right _ (List.mem_append_right _ (List.mem_append_right _ h)))))))))))))))))))))))))))))))))))))))))))))
theorem zy_L_7 : Cond.classLink RL 7 RX7 ∈ wsL_law := zr_1 _ (List.mem_of_getElem? (i := 0) rfl)
theorem zb_RX7 : Cond.instantiable RX7 7 ∈ wsL_law := zr_1 _ (List.mem_of_getElem? (i := 1) rfl)
theorem zn_RX7 : Cond.initialized RX7 ∈ wsL_law := zr_1 _ (List.mem_of_getElem? (i := 2) rfl)
theorem zy_L_10 : Cond.classLink RL 10 RX8 ∈ wsL_law := zr_1 _ (List.mem_of_getElem? (i := 3) rfl)
theorem zb_RX8 : Cond.instantiable RX8 6 ∈ wsL_law := zr_1 _ (List.mem_of_getElem? (i := 4) rfl)
theorem zn_RX8 : Cond.initialized RX8 ∈ wsL_law := zr_1 _ (List.mem_of_getElem? (i := 5) rfl)
theorem zm_L_9 : Cond.methodLink RL 9 yX7_init ∈ wsL_law := zr_1 _ (List.mem_of_getElem? (i := 6) rfl)
theorem zi_yX7_init : Cond.instanceMethod yX7_init ∈ wsL_law := zr_1 _ (List.mem_of_getElem? (i := 7) rfl)
theorem zc_yX7_init : Cond.code yX7_init cX7_init 1 none ∈ wsL_law := zr_1 _ (List.mem_of_getElem? (i := 8) rfl)
theorem zm_X7_1 : Cond.methodLink RX7 1 objectInit ∈ wsL_law := zr_1 _ (List.mem_of_getElem? (i := 9) rfl)
theorem zi_objectInit : Cond.instanceMethod objectInit ∈ wsL_law := zr_1 _ (List.mem_of_getElem? (i := 10) rfl)
theorem zc_objectInit : Cond.code objectInit ⟨#[0xb1]⟩ 1 none ∈ wsL_law := zr_1 _ (List.mem_of_getElem? (i := 11) rfl)
theorem zy_X7_7 : Cond.classLink RX7 7 RX4 ∈ wsL_law := zr_1 _ (List.mem_of_getElem? (i := 12) rfl)
theorem zb_RX4 : Cond.instantiable RX4 7 ∈ wsL_law := zr_1 _ (List.mem_of_getElem? (i := 13) rfl)
theorem zn_RX4 : Cond.initialized RX4 ∈ wsL_law := zr_1 _ (List.mem_of_getElem? (i := 14) rfl)
theorem zf_X7_10 : Cond.fieldLink RX7 10 "DairyShares" "now" "LDairyShares$Register;" ∈ wsL_law := zr_1 _ (List.mem_of_getElem? (i := 15) rfl)
theorem zf_X7_16 : Cond.fieldLink RX7 16 "DairyShares" "newest" "LDairyShares$Register;" ∈ wsL_law := zr_1 _ (List.mem_of_getElem? (i := 16) rfl)
theorem zf_X7_19 : Cond.fieldLink RX7 19 "DairyShares" "second" "LDairyShares$Register;" ∈ wsL_law := zr_1 _ (List.mem_of_getElem? (i := 17) rfl)
theorem zf_X7_22 : Cond.fieldLink RX7 22 "DairyShares" "third" "LDairyShares$Register;" ∈ wsL_law := zr_1 _ (List.mem_of_getElem? (i := 18) rfl)
theorem zf_X7_25 : Cond.fieldLink RX7 25 "DairyShares" "oldest" "LDairyShares$Register;" ∈ wsL_law := zr_1 _ (List.mem_of_getElem? (i := 19) rfl)
theorem zf_X7_28 : Cond.fieldLink RX7 28 "DairyShares" "statesKept" "I" ∈ wsL_law := zr_1 _ (List.mem_of_getElem? (i := 20) rfl)
theorem zy_X7_32 : Cond.classLink RX7 32 RX6 ∈ wsL_law := zr_1 _ (List.mem_of_getElem? (i := 21) rfl)
theorem zb_RX6 : Cond.instantiable RX6 3 ∈ wsL_law := zr_1 _ (List.mem_of_getElem? (i := 22) rfl)
theorem zn_RX6 : Cond.initialized RX6 ∈ wsL_law := zr_1 _ (List.mem_of_getElem? (i := 23) rfl)
theorem zf_X7_35 : Cond.fieldLink RX7 35 "DairyShares" "split" "LDairyShares$Split;" ∈ wsL_law := zr_2 _ (List.mem_of_getElem? (i := 0) rfl)
theorem zi_yX4_init : Cond.instanceMethod yX4_init ∈ wsL_law := zr_2 _ (List.mem_of_getElem? (i := 1) rfl)
theorem zc_yX4_init : Cond.code yX4_init cX4_init 1 none ∈ wsL_law := zr_2 _ (List.mem_of_getElem? (i := 2) rfl)
theorem zm_X4_3 : Cond.methodLink RX4 3 objectInit ∈ wsL_law := zr_2 _ (List.mem_of_getElem? (i := 3) rfl)
theorem zy_X4_9 : Cond.classLink RX4 9 RX1 ∈ wsL_law := zr_2 _ (List.mem_of_getElem? (i := 4) rfl)
theorem zb_RX1 : Cond.instantiable RX1 4 ∈ wsL_law := zr_2 _ (List.mem_of_getElem? (i := 5) rfl)
theorem zn_RX1 : Cond.initialized RX1 ∈ wsL_law := zr_2 _ (List.mem_of_getElem? (i := 6) rfl)
theorem zf_X4_12 : Cond.fieldLink RX4 12 "DairyShares$Register" "members" "LDairyShares$Members;" ∈ wsL_law := zr_2 _ (List.mem_of_getElem? (i := 7) rfl)
theorem zy_X4_18 : Cond.classLink RX4 18 RX5 ∈ wsL_law := zr_2 _ (List.mem_of_getElem? (i := 8) rfl)
theorem zb_RX5 : Cond.instantiable RX5 7 ∈ wsL_law := zr_2 _ (List.mem_of_getElem? (i := 9) rfl)
theorem zn_RX5 : Cond.initialized RX5 ∈ wsL_law := zr_2 _ (List.mem_of_getElem? (i := 10) rfl)
theorem zf_X4_21 : Cond.fieldLink RX4 21 "DairyShares$Register" "settings" "LDairyShares$Settings;" ∈ wsL_law := zr_2 _ (List.mem_of_getElem? (i := 11) rfl)
theorem zy_X4_25 : Cond.classLink RX4 25 RX0 ∈ wsL_law := zr_2 _ (List.mem_of_getElem? (i := 12) rfl)
theorem zb_RX0 : Cond.instantiable RX0 5 ∈ wsL_law := zr_2 _ (List.mem_of_getElem? (i := 13) rfl)
theorem zn_RX0 : Cond.initialized RX0 ∈ wsL_law := zr_2 _ (List.mem_of_getElem? (i := 14) rfl)
theorem zf_X4_28 : Cond.fieldLink RX4 28 "DairyShares$Register" "books" "LDairyShares$Books;" ∈ wsL_law := zr_2 _ (List.mem_of_getElem? (i := 15) rfl)
theorem zy_X4_32 : Cond.classLink RX4 32 RX3 ∈ wsL_law := zr_2 _ (List.mem_of_getElem? (i := 16) rfl)
theorem zb_RX3 : Cond.instantiable RX3 9 ∈ wsL_law := zr_2 _ (List.mem_of_getElem? (i := 17) rfl)
theorem zn_RX3 : Cond.initialized RX3 ∈ wsL_law := zr_2 _ (List.mem_of_getElem? (i := 18) rfl)
theorem zf_X4_35 : Cond.fieldLink RX4 35 "DairyShares$Register" "offers" "LDairyShares$Offers;" ∈ wsL_law := zr_2 _ (List.mem_of_getElem? (i := 19) rfl)
theorem zy_X4_39 : Cond.classLink RX4 39 RX2 ∈ wsL_law := zr_2 _ (List.mem_of_getElem? (i := 20) rfl)
theorem zb_RX2 : Cond.instantiable RX2 5 ∈ wsL_law := zr_2 _ (List.mem_of_getElem? (i := 21) rfl)
theorem zn_RX2 : Cond.initialized RX2 ∈ wsL_law := zr_2 _ (List.mem_of_getElem? (i := 22) rfl)
theorem zf_X4_42 : Cond.fieldLink RX4 42 "DairyShares$Register" "motions" "LDairyShares$Motions;" ∈ wsL_law := zr_2 _ (List.mem_of_getElem? (i := 23) rfl)
theorem zf_X4_46 : Cond.fieldLink RX4 46 "DairyShares$Register" "treasuryShares" "I" ∈ wsL_law := zr_3 _ (List.mem_of_getElem? (i := 0) rfl)
theorem zf_X4_50 : Cond.fieldLink RX4 50 "DairyShares$Register" "daysPassed" "I" ∈ wsL_law := zr_3 _ (List.mem_of_getElem? (i := 1) rfl)
theorem zi_yX1_init : Cond.instanceMethod yX1_init ∈ wsL_law := zr_3 _ (List.mem_of_getElem? (i := 2) rfl)
theorem zc_yX1_init : Cond.code yX1_init cX1_init 1 none ∈ wsL_law := zr_3 _ (List.mem_of_getElem? (i := 3) rfl)
theorem zm_X1_3 : Cond.methodLink RX1 3 objectInit ∈ wsL_law := zr_3 _ (List.mem_of_getElem? (i := 4) rfl)
theorem zf_X1_9 : Cond.fieldLink RX1 9 "DairyShares$Members" "count" "I" ∈ wsL_law := zr_3 _ (List.mem_of_getElem? (i := 5) rfl)
theorem za_int : Cond.arrayClass .int ∈ wsL_law := zr_3 _ (List.mem_of_getElem? (i := 6) rfl)
theorem zf_X1_15 : Cond.fieldLink RX1 15 "DairyShares$Members" "shares" "[I" ∈ wsL_law := zr_3 _ (List.mem_of_getElem? (i := 7) rfl)
theorem zf_X1_19 : Cond.fieldLink RX1 19 "DairyShares$Members" "milk" "[I" ∈ wsL_law := zr_3 _ (List.mem_of_getElem? (i := 8) rfl)
theorem za_long : Cond.arrayClass .long ∈ wsL_law := zr_3 _ (List.mem_of_getElem? (i := 9) rfl)
theorem zf_X1_22 : Cond.fieldLink RX1 22 "DairyShares$Members" "account" "[J" ∈ wsL_law := zr_3 _ (List.mem_of_getElem? (i := 10) rfl)
theorem zi_yX5_init : Cond.instanceMethod yX5_init ∈ wsL_law := zr_3 _ (List.mem_of_getElem? (i := 11) rfl)
theorem zc_yX5_init : Cond.code yX5_init cX5_init 1 none ∈ wsL_law := zr_3 _ (List.mem_of_getElem? (i := 12) rfl)
theorem zm_X5_3 : Cond.methodLink RX5 3 objectInit ∈ wsL_law := zr_3 _ (List.mem_of_getElem? (i := 13) rfl)
theorem zf_X5_9 : Cond.fieldLink RX5 9 "DairyShares$Settings" "litersPerShare" "I" ∈ wsL_law := zr_3 _ (List.mem_of_getElem? (i := 14) rfl)
theorem zf_X5_15 : Cond.fieldLink RX5 15 "DairyShares$Settings" "treasuryLimit" "I" ∈ wsL_law := zr_3 _ (List.mem_of_getElem? (i := 15) rfl)
theorem zf_X5_18 : Cond.fieldLink RX5 18 "DairyShares$Settings" "parValue" "I" ∈ wsL_law := zr_3 _ (List.mem_of_getElem? (i := 16) rfl)
theorem zf_X5_21 : Cond.fieldLink RX5 21 "DairyShares$Settings" "cap" "I" ∈ wsL_law := zr_3 _ (List.mem_of_getElem? (i := 17) rfl)
theorem zf_X5_24 : Cond.fieldLink RX5 24 "DairyShares$Settings" "stageLength" "I" ∈ wsL_law := zr_3 _ (List.mem_of_getElem? (i := 18) rfl)
theorem zf_X5_27 : Cond.fieldLink RX5 27 "DairyShares$Settings" "votingRule" "I" ∈ wsL_law := zr_3 _ (List.mem_of_getElem? (i := 19) rfl)
theorem zf_X5_30 : Cond.fieldLink RX5 30 "DairyShares$Settings" "quorum" "I" ∈ wsL_law := zr_3 _ (List.mem_of_getElem? (i := 20) rfl)
theorem zi_yX0_init : Cond.instanceMethod yX0_init ∈ wsL_law := zr_3 _ (List.mem_of_getElem? (i := 21) rfl)
theorem zc_yX0_init : Cond.code yX0_init cX0_init 1 none ∈ wsL_law := zr_3 _ (List.mem_of_getElem? (i := 22) rfl)
theorem zm_X0_3 : Cond.methodLink RX0 3 objectInit ∈ wsL_law := zr_3 _ (List.mem_of_getElem? (i := 23) rfl)
theorem zf_X0_9 : Cond.fieldLink RX0 9 "DairyShares$Books" "assets" "I" ∈ wsL_law := zr_4 _ (List.mem_of_getElem? (i := 0) rfl)
theorem zf_X0_15 : Cond.fieldLink RX0 15 "DairyShares$Books" "debts" "I" ∈ wsL_law := zr_4 _ (List.mem_of_getElem? (i := 1) rfl)
theorem zf_X0_18 : Cond.fieldLink RX0 18 "DairyShares$Books" "price" "I" ∈ wsL_law := zr_4 _ (List.mem_of_getElem? (i := 2) rfl)
theorem zf_X0_21 : Cond.fieldLink RX0 21 "DairyShares$Books" "surplusCount" "I" ∈ wsL_law := zr_4 _ (List.mem_of_getElem? (i := 3) rfl)
theorem zf_X0_24 : Cond.fieldLink RX0 24 "DairyShares$Books" "surpluses" "[I" ∈ wsL_law := zr_4 _ (List.mem_of_getElem? (i := 4) rfl)
theorem zi_yX3_init : Cond.instanceMethod yX3_init ∈ wsL_law := zr_4 _ (List.mem_of_getElem? (i := 5) rfl)
theorem zc_yX3_init : Cond.code yX3_init cX3_init 1 none ∈ wsL_law := zr_4 _ (List.mem_of_getElem? (i := 6) rfl)
theorem zm_X3_3 : Cond.methodLink RX3 3 objectInit ∈ wsL_law := zr_4 _ (List.mem_of_getElem? (i := 7) rfl)
theorem zf_X3_9 : Cond.fieldLink RX3 9 "DairyShares$Offers" "count" "I" ∈ wsL_law := zr_4 _ (List.mem_of_getElem? (i := 8) rfl)
theorem zf_X3_15 : Cond.fieldLink RX3 15 "DairyShares$Offers" "seller" "[I" ∈ wsL_law := zr_4 _ (List.mem_of_getElem? (i := 9) rfl)
theorem zf_X3_19 : Cond.fieldLink RX3 19 "DairyShares$Offers" "buyer" "[I" ∈ wsL_law := zr_4 _ (List.mem_of_getElem? (i := 10) rfl)
theorem zf_X3_22 : Cond.fieldLink RX3 22 "DairyShares$Offers" "offered" "[I" ∈ wsL_law := zr_4 _ (List.mem_of_getElem? (i := 11) rfl)
theorem zf_X3_25 : Cond.fieldLink RX3 25 "DairyShares$Offers" "remaining" "[I" ∈ wsL_law := zr_4 _ (List.mem_of_getElem? (i := 12) rfl)
theorem zf_X3_28 : Cond.fieldLink RX3 28 "DairyShares$Offers" "stage" "[I" ∈ wsL_law := zr_4 _ (List.mem_of_getElem? (i := 13) rfl)
theorem zf_X3_31 : Cond.fieldLink RX3 31 "DairyShares$Offers" "daysLeft" "[I" ∈ wsL_law := zr_4 _ (List.mem_of_getElem? (i := 14) rfl)
theorem zf_X3_34 : Cond.fieldLink RX3 34 "DairyShares$Offers" "sales" "[I" ∈ wsL_law := zr_4 _ (List.mem_of_getElem? (i := 15) rfl)
theorem zf_X3_37 : Cond.fieldLink RX3 37 "DairyShares$Offers" "claims" "[I" ∈ wsL_law := zr_4 _ (List.mem_of_getElem? (i := 16) rfl)
theorem zi_yX2_init : Cond.instanceMethod yX2_init ∈ wsL_law := zr_4 _ (List.mem_of_getElem? (i := 17) rfl)
theorem zc_yX2_init : Cond.code yX2_init cX2_init 1 none ∈ wsL_law := zr_4 _ (List.mem_of_getElem? (i := 18) rfl)
theorem zm_X2_3 : Cond.methodLink RX2 3 objectInit ∈ wsL_law := zr_4 _ (List.mem_of_getElem? (i := 19) rfl)
theorem zf_X2_9 : Cond.fieldLink RX2 9 "DairyShares$Motions" "count" "I" ∈ wsL_law := zr_4 _ (List.mem_of_getElem? (i := 20) rfl)
theorem zf_X2_15 : Cond.fieldLink RX2 15 "DairyShares$Motions" "kind" "[I" ∈ wsL_law := zr_4 _ (List.mem_of_getElem? (i := 21) rfl)
theorem zf_X2_19 : Cond.fieldLink RX2 19 "DairyShares$Motions" "value" "[I" ∈ wsL_law := zr_4 _ (List.mem_of_getElem? (i := 22) rfl)
theorem zf_X2_22 : Cond.fieldLink RX2 22 "DairyShares$Motions" "state" "[I" ∈ wsL_law := zr_4 _ (List.mem_of_getElem? (i := 23) rfl)
theorem zf_X2_25 : Cond.fieldLink RX2 25 "DairyShares$Motions" "ballots" "[I" ∈ wsL_law := zr_5 _ (List.mem_of_getElem? (i := 0) rfl)
theorem zi_yX6_init : Cond.instanceMethod yX6_init ∈ wsL_law := zr_5 _ (List.mem_of_getElem? (i := 1) rfl)
theorem zc_yX6_init : Cond.code yX6_init cX6_init 1 none ∈ wsL_law := zr_5 _ (List.mem_of_getElem? (i := 2) rfl)
theorem zm_X6_3 : Cond.methodLink RX6 3 objectInit ∈ wsL_law := zr_5 _ (List.mem_of_getElem? (i := 3) rfl)
theorem zf_X6_9 : Cond.fieldLink RX6 9 "DairyShares$Split" "demand" "[I" ∈ wsL_law := zr_5 _ (List.mem_of_getElem? (i := 4) rfl)
theorem zf_X6_15 : Cond.fieldLink RX6 15 "DairyShares$Split" "part" "[I" ∈ wsL_law := zr_5 _ (List.mem_of_getElem? (i := 5) rfl)
theorem zf_X6_18 : Cond.fieldLink RX6 18 "DairyShares$Split" "remainder" "[I" ∈ wsL_law := zr_5 _ (List.mem_of_getElem? (i := 6) rfl)
theorem zm_L_12 : Cond.methodLink RL 12 yX8_init ∈ wsL_law := zr_5 _ (List.mem_of_getElem? (i := 7) rfl)
theorem zi_yX8_init : Cond.instanceMethod yX8_init ∈ wsL_law := zr_5 _ (List.mem_of_getElem? (i := 8) rfl)
theorem zc_yX8_init : Cond.code yX8_init cX8_init 1 none ∈ wsL_law := zr_5 _ (List.mem_of_getElem? (i := 9) rfl)
theorem zm_X8_1 : Cond.methodLink RX8 1 objectInit ∈ wsL_law := zr_5 _ (List.mem_of_getElem? (i := 10) rfl)
theorem zf_X8_7 : Cond.fieldLink RX8 7 "DairySharesModel" "now" "[J" ∈ wsL_law := zr_5 _ (List.mem_of_getElem? (i := 11) rfl)
theorem zf_X8_13 : Cond.fieldLink RX8 13 "DairySharesModel" "past" "[J" ∈ wsL_law := zr_5 _ (List.mem_of_getElem? (i := 12) rfl)
theorem zf_X8_16 : Cond.fieldLink RX8 16 "DairySharesModel" "demands" "[J" ∈ wsL_law := zr_5 _ (List.mem_of_getElem? (i := 13) rfl)
theorem zf_X8_19 : Cond.fieldLink RX8 19 "DairySharesModel" "gets" "[J" ∈ wsL_law := zr_5 _ (List.mem_of_getElem? (i := 14) rfl)
theorem zf_X8_22 : Cond.fieldLink RX8 22 "DairySharesModel" "rests" "[J" ∈ wsL_law := zr_5 _ (List.mem_of_getElem? (i := 15) rfl)
theorem zl_X8_25 : Cond.constantLong RX8 25 (1000) ∈ wsL_law := zr_5 _ (List.mem_of_getElem? (i := 16) rfl)
theorem zl_X8_27 : Cond.constantLong RX8 27 (50) ∈ wsL_law := zr_5 _ (List.mem_of_getElem? (i := 17) rfl)
theorem zl_X8_29 : Cond.constantLong RX8 29 (25) ∈ wsL_law := zr_5 _ (List.mem_of_getElem? (i := 18) rfl)
theorem zl_X8_31 : Cond.constantLong RX8 31 (100) ∈ wsL_law := zr_5 _ (List.mem_of_getElem? (i := 19) rfl)
theorem zl_X8_33 : Cond.constantLong RX8 33 (3) ∈ wsL_law := zr_5 _ (List.mem_of_getElem? (i := 20) rfl)
theorem zm_L_13 : Cond.methodLink RL 13 yX7_join ∈ wsL_law := zr_5 _ (List.mem_of_getElem? (i := 21) rfl)
theorem zi_yX7_join : Cond.instanceMethod yX7_join ∈ wsL_law := zr_5 _ (List.mem_of_getElem? (i := 22) rfl)
theorem zs_yX7_join : Cond.selects RX7 yX7_join yX7_join ∈ wsL_law := zr_5 _ (List.mem_of_getElem? (i := 23) rfl)
theorem zc_yX7_join : Cond.code yX7_join cX7_join 1 (some .int) ∈ wsL_law := zr_6 _ (List.mem_of_getElem? (i := 0) rfl)
theorem zf_X7_39 : Cond.fieldLink RX7 39 "DairyShares$Register" "members" "LDairyShares$Members;" ∈ wsL_law := zr_6 _ (List.mem_of_getElem? (i := 1) rfl)
theorem zf_X7_43 : Cond.fieldLink RX7 43 "DairyShares$Members" "count" "I" ∈ wsL_law := zr_6 _ (List.mem_of_getElem? (i := 2) rfl)
theorem zk_X7_48 : Cond.constant RX7 48 (-2000000003) ∈ wsL_law := zr_6 _ (List.mem_of_getElem? (i := 3) rfl)
theorem zm_X7_49 : Cond.methodLink RX7 49 yX7_keepState ∈ wsL_law := zr_6 _ (List.mem_of_getElem? (i := 4) rfl)
theorem zi_yX7_keepState : Cond.instanceMethod yX7_keepState ∈ wsL_law := zr_6 _ (List.mem_of_getElem? (i := 5) rfl)
theorem zs_yX7_keepState : Cond.selects RX7 yX7_keepState yX7_keepState ∈ wsL_law := zr_6 _ (List.mem_of_getElem? (i := 6) rfl)
theorem zc_yX7_keepState : Cond.code yX7_keepState cX7_keepState 2 none ∈ wsL_law := zr_6 _ (List.mem_of_getElem? (i := 7) rfl)
theorem zm_X7_252 : Cond.methodLink RX7 252 Lib.Math.min.name ∈ wsL_law := zr_6 _ (List.mem_of_getElem? (i := 8) rfl)
theorem zt_J9_min_name : Cond.static Lib.Math.min.name ∈ wsL_law := zr_6 _ (List.mem_of_getElem? (i := 9) rfl)
theorem zn_java_lang_Math : Cond.initialized "java/lang/Math" ∈ wsL_law := zr_6 _ (List.mem_of_getElem? (i := 10) rfl)
theorem zc_J9_min_name : Cond.code Lib.Math.min.name Lib.Math.min.code 2 (some .int) ∈ wsL_law := zr_6 _ (List.mem_of_getElem? (i := 11) rfl)
theorem zm_X7_248 : Cond.methodLink RX7 248 yX4_copyFrom ∈ wsL_law := zr_6 _ (List.mem_of_getElem? (i := 12) rfl)
theorem zi_yX4_copyFrom : Cond.instanceMethod yX4_copyFrom ∈ wsL_law := zr_6 _ (List.mem_of_getElem? (i := 13) rfl)
theorem zs_yX4_copyFrom : Cond.selects RX4 yX4_copyFrom yX4_copyFrom ∈ wsL_law := zr_6 _ (List.mem_of_getElem? (i := 14) rfl)
theorem zc_yX4_copyFrom : Cond.code yX4_copyFrom cX4_copyFrom 2 none ∈ wsL_law := zr_6 _ (List.mem_of_getElem? (i := 15) rfl)
theorem zm_X4_53 : Cond.methodLink RX4 53 yX1_copyFrom ∈ wsL_law := zr_6 _ (List.mem_of_getElem? (i := 16) rfl)
theorem zi_yX1_copyFrom : Cond.instanceMethod yX1_copyFrom ∈ wsL_law := zr_6 _ (List.mem_of_getElem? (i := 17) rfl)
theorem zs_yX1_copyFrom : Cond.selects RX1 yX1_copyFrom yX1_copyFrom ∈ wsL_law := zr_6 _ (List.mem_of_getElem? (i := 18) rfl)
theorem zc_yX1_copyFrom : Cond.code yX1_copyFrom cX1_copyFrom 2 none ∈ wsL_law := zr_6 _ (List.mem_of_getElem? (i := 19) rfl)
theorem zm_X1_26 : Cond.methodLink RX1 26 arraycopyName ∈ wsL_law := zr_6 _ (List.mem_of_getElem? (i := 20) rfl)
theorem zv_arraycopyName : Cond.native arraycopyName ∈ wsL_law := zr_6 _ (List.mem_of_getElem? (i := 21) rfl)
theorem zt_arraycopyName : Cond.static arraycopyName ∈ wsL_law := zr_6 _ (List.mem_of_getElem? (i := 22) rfl)
theorem zn_java_lang_System : Cond.initialized "java/lang/System" ∈ wsL_law := zr_6 _ (List.mem_of_getElem? (i := 23) rfl)
theorem zm_X4_57 : Cond.methodLink RX4 57 yX5_copyFrom ∈ wsL_law := zr_7 _ (List.mem_of_getElem? (i := 0) rfl)
theorem zi_yX5_copyFrom : Cond.instanceMethod yX5_copyFrom ∈ wsL_law := zr_7 _ (List.mem_of_getElem? (i := 1) rfl)
theorem zs_yX5_copyFrom : Cond.selects RX5 yX5_copyFrom yX5_copyFrom ∈ wsL_law := zr_7 _ (List.mem_of_getElem? (i := 2) rfl)
theorem zc_yX5_copyFrom : Cond.code yX5_copyFrom cX5_copyFrom 2 none ∈ wsL_law := zr_7 _ (List.mem_of_getElem? (i := 3) rfl)
theorem zm_X4_60 : Cond.methodLink RX4 60 yX0_copyFrom ∈ wsL_law := zr_7 _ (List.mem_of_getElem? (i := 4) rfl)
theorem zi_yX0_copyFrom : Cond.instanceMethod yX0_copyFrom ∈ wsL_law := zr_7 _ (List.mem_of_getElem? (i := 5) rfl)
theorem zs_yX0_copyFrom : Cond.selects RX0 yX0_copyFrom yX0_copyFrom ∈ wsL_law := zr_7 _ (List.mem_of_getElem? (i := 6) rfl)
theorem zc_yX0_copyFrom : Cond.code yX0_copyFrom cX0_copyFrom 2 none ∈ wsL_law := zr_7 _ (List.mem_of_getElem? (i := 7) rfl)
theorem zm_X0_28 : Cond.methodLink RX0 28 arraycopyName ∈ wsL_law := zr_7 _ (List.mem_of_getElem? (i := 8) rfl)
theorem zm_X4_63 : Cond.methodLink RX4 63 yX3_copyFrom ∈ wsL_law := zr_7 _ (List.mem_of_getElem? (i := 9) rfl)
theorem zi_yX3_copyFrom : Cond.instanceMethod yX3_copyFrom ∈ wsL_law := zr_7 _ (List.mem_of_getElem? (i := 10) rfl)
theorem zs_yX3_copyFrom : Cond.selects RX3 yX3_copyFrom yX3_copyFrom ∈ wsL_law := zr_7 _ (List.mem_of_getElem? (i := 11) rfl)
theorem zc_yX3_copyFrom : Cond.code yX3_copyFrom cX3_copyFrom 2 none ∈ wsL_law := zr_7 _ (List.mem_of_getElem? (i := 12) rfl)
theorem zm_X3_40 : Cond.methodLink RX3 40 arraycopyName ∈ wsL_law := zr_7 _ (List.mem_of_getElem? (i := 13) rfl)
theorem zm_X4_66 : Cond.methodLink RX4 66 yX2_copyFrom ∈ wsL_law := zr_7 _ (List.mem_of_getElem? (i := 14) rfl)
theorem zi_yX2_copyFrom : Cond.instanceMethod yX2_copyFrom ∈ wsL_law := zr_7 _ (List.mem_of_getElem? (i := 15) rfl)
theorem zs_yX2_copyFrom : Cond.selects RX2 yX2_copyFrom yX2_copyFrom ∈ wsL_law := zr_7 _ (List.mem_of_getElem? (i := 16) rfl)
theorem zc_yX2_copyFrom : Cond.code yX2_copyFrom cX2_copyFrom 2 none ∈ wsL_law := zr_7 _ (List.mem_of_getElem? (i := 17) rfl)
theorem zm_X2_28 : Cond.methodLink RX2 28 arraycopyName ∈ wsL_law := zr_7 _ (List.mem_of_getElem? (i := 18) rfl)
theorem zm_L_17 : Cond.methodLink RL 17 yX8_join ∈ wsL_law := zr_7 _ (List.mem_of_getElem? (i := 19) rfl)
theorem zi_yX8_join : Cond.instanceMethod yX8_join ∈ wsL_law := zr_7 _ (List.mem_of_getElem? (i := 20) rfl)
theorem zs_yX8_join : Cond.selects RX8 yX8_join yX8_join ∈ wsL_law := zr_7 _ (List.mem_of_getElem? (i := 21) rfl)
theorem zc_yX8_join : Cond.code yX8_join cX8_join 1 (some .int) ∈ wsL_law := zr_7 _ (List.mem_of_getElem? (i := 22) rfl)
theorem zl_X8_61 : Cond.constantLong RX8 61 (12) ∈ wsL_law := zr_7 _ (List.mem_of_getElem? (i := 23) rfl)
theorem zk_X8_63 : Cond.constant RX8 63 (-2000000003) ∈ wsL_law := zr_8 _ (List.mem_of_getElem? (i := 0) rfl)
theorem zm_X8_43 : Cond.methodLink RX8 43 yX8_notes ∈ wsL_law := zr_8 _ (List.mem_of_getElem? (i := 1) rfl)
theorem zi_yX8_notes : Cond.instanceMethod yX8_notes ∈ wsL_law := zr_8 _ (List.mem_of_getElem? (i := 2) rfl)
theorem zs_yX8_notes : Cond.selects RX8 yX8_notes yX8_notes ∈ wsL_law := zr_8 _ (List.mem_of_getElem? (i := 3) rfl)
theorem zc_yX8_notes : Cond.code yX8_notes cX8_notes 2 none ∈ wsL_law := zr_8 _ (List.mem_of_getElem? (i := 4) rfl)
theorem zf_X8_39 : Cond.fieldLink RX8 39 "DairySharesModel" "states" "I" ∈ wsL_law := zr_8 _ (List.mem_of_getElem? (i := 5) rfl)
theorem zm_L_18 : Cond.methodLink RL 18 yX7_issue ∈ wsL_law := zr_8 _ (List.mem_of_getElem? (i := 6) rfl)
theorem zi_yX7_issue : Cond.instanceMethod yX7_issue ∈ wsL_law := zr_8 _ (List.mem_of_getElem? (i := 7) rfl)
theorem zs_yX7_issue : Cond.selects RX7 yX7_issue yX7_issue ∈ wsL_law := zr_8 _ (List.mem_of_getElem? (i := 8) rfl)
theorem zc_yX7_issue : Cond.code yX7_issue cX7_issue 3 (some .int) ∈ wsL_law := zr_8 _ (List.mem_of_getElem? (i := 9) rfl)
theorem zk_X7_60 : Cond.constant RX7 60 (-2000000001) ∈ wsL_law := zr_8 _ (List.mem_of_getElem? (i := 10) rfl)
theorem zf_X7_65 : Cond.fieldLink RX7 65 "DairyShares$Members" "shares" "[I" ∈ wsL_law := zr_8 _ (List.mem_of_getElem? (i := 11) rfl)
theorem zf_X7_69 : Cond.fieldLink RX7 69 "DairyShares$Members" "account" "[J" ∈ wsL_law := zr_8 _ (List.mem_of_getElem? (i := 12) rfl)
theorem zf_X7_73 : Cond.fieldLink RX7 73 "DairyShares$Register" "books" "LDairyShares$Books;" ∈ wsL_law := zr_8 _ (List.mem_of_getElem? (i := 13) rfl)
theorem zf_X7_77 : Cond.fieldLink RX7 77 "DairyShares$Books" "price" "I" ∈ wsL_law := zr_8 _ (List.mem_of_getElem? (i := 14) rfl)
theorem zm_X7_52 : Cond.methodLink RX7 52 yX1_has ∈ wsL_law := zr_8 _ (List.mem_of_getElem? (i := 15) rfl)
theorem zi_yX1_has : Cond.instanceMethod yX1_has ∈ wsL_law := zr_8 _ (List.mem_of_getElem? (i := 16) rfl)
theorem zs_yX1_has : Cond.selects RX1 yX1_has yX1_has ∈ wsL_law := zr_8 _ (List.mem_of_getElem? (i := 17) rfl)
theorem zc_yX1_has : Cond.code yX1_has cX1_has 2 (some .boolean) ∈ wsL_law := zr_8 _ (List.mem_of_getElem? (i := 18) rfl)
theorem zm_X7_56 : Cond.methodLink RX7 56 yX7_isWithin ∈ wsL_law := zr_8 _ (List.mem_of_getElem? (i := 19) rfl)
theorem zt_yX7_isWithin : Cond.static yX7_isWithin ∈ wsL_law := zr_8 _ (List.mem_of_getElem? (i := 20) rfl)
theorem zc_yX7_isWithin : Cond.code yX7_isWithin cX7_isWithin 3 (some .boolean) ∈ wsL_law := zr_8 _ (List.mem_of_getElem? (i := 21) rfl)
theorem zm_X7_61 : Cond.methodLink RX7 61 yX4_countAllShares ∈ wsL_law := zr_8 _ (List.mem_of_getElem? (i := 22) rfl)
theorem zi_yX4_countAllShares : Cond.instanceMethod yX4_countAllShares ∈ wsL_law := zr_8 _ (List.mem_of_getElem? (i := 23) rfl)
theorem zs_yX4_countAllShares : Cond.selects RX4 yX4_countAllShares yX4_countAllShares ∈ wsL_law := zr_9 _ (List.mem_of_getElem? (i := 0) rfl)
theorem zc_yX4_countAllShares : Cond.code yX4_countAllShares cX4_countAllShares 3 (some .int) ∈ wsL_law := zr_9 _ (List.mem_of_getElem? (i := 1) rfl)
theorem zf_X4_69 : Cond.fieldLink RX4 69 "DairyShares$Members" "count" "I" ∈ wsL_law := zr_9 _ (List.mem_of_getElem? (i := 2) rfl)
theorem zf_X4_72 : Cond.fieldLink RX4 72 "DairyShares$Members" "shares" "[I" ∈ wsL_law := zr_9 _ (List.mem_of_getElem? (i := 3) rfl)
theorem zm_L_22 : Cond.methodLink RL 22 yX8_issue ∈ wsL_law := zr_9 _ (List.mem_of_getElem? (i := 4) rfl)
theorem zi_yX8_issue : Cond.instanceMethod yX8_issue ∈ wsL_law := zr_9 _ (List.mem_of_getElem? (i := 5) rfl)
theorem zs_yX8_issue : Cond.selects RX8 yX8_issue yX8_issue ∈ wsL_law := zr_9 _ (List.mem_of_getElem? (i := 6) rfl)
theorem zc_yX8_issue : Cond.code yX8_issue cX8_issue 3 (some .int) ∈ wsL_law := zr_9 _ (List.mem_of_getElem? (i := 7) rfl)
theorem zk_X8_68 : Cond.constant RX8 68 (-2000000001) ∈ wsL_law := zr_9 _ (List.mem_of_getElem? (i := 8) rfl)
theorem zl_X8_69 : Cond.constantLong RX8 69 (10000) ∈ wsL_law := zr_9 _ (List.mem_of_getElem? (i := 9) rfl)
theorem zm_X8_64 : Cond.methodLink RX8 64 yX8_isMember ∈ wsL_law := zr_9 _ (List.mem_of_getElem? (i := 10) rfl)
theorem zi_yX8_isMember : Cond.instanceMethod yX8_isMember ∈ wsL_law := zr_9 _ (List.mem_of_getElem? (i := 11) rfl)
theorem zs_yX8_isMember : Cond.selects RX8 yX8_isMember yX8_isMember ∈ wsL_law := zr_9 _ (List.mem_of_getElem? (i := 12) rfl)
theorem zc_yX8_isMember : Cond.code yX8_isMember cX8_isMember 2 (some .boolean) ∈ wsL_law := zr_9 _ (List.mem_of_getElem? (i := 13) rfl)
theorem zm_X8_35 : Cond.methodLink RX8 35 yX8_in ∈ wsL_law := zr_9 _ (List.mem_of_getElem? (i := 14) rfl)
theorem zt_yX8_in : Cond.static yX8_in ∈ wsL_law := zr_9 _ (List.mem_of_getElem? (i := 15) rfl)
theorem zc_yX8_in : Cond.code yX8_in cX8_in 6 (some .boolean) ∈ wsL_law := zr_9 _ (List.mem_of_getElem? (i := 16) rfl)
theorem zm_X8_57 : Cond.methodLink RX8 57 yX8_all ∈ wsL_law := zr_9 _ (List.mem_of_getElem? (i := 17) rfl)
theorem zi_yX8_all : Cond.instanceMethod yX8_all ∈ wsL_law := zr_9 _ (List.mem_of_getElem? (i := 18) rfl)
theorem zs_yX8_all : Cond.selects RX8 yX8_all yX8_all ∈ wsL_law := zr_9 _ (List.mem_of_getElem? (i := 19) rfl)
theorem zc_yX8_all : Cond.code yX8_all cX8_all 4 (some .long) ∈ wsL_law := zr_9 _ (List.mem_of_getElem? (i := 20) rfl)
theorem zm_X8_46 : Cond.methodLink RX8 46 yX8_m ∈ wsL_law := zr_9 _ (List.mem_of_getElem? (i := 21) rfl)
theorem zt_yX8_m : Cond.static yX8_m ∈ wsL_law := zr_9 _ (List.mem_of_getElem? (i := 22) rfl)
theorem zc_yX8_m : Cond.code yX8_m cX8_m 2 (some .int) ∈ wsL_law := zr_9 _ (List.mem_of_getElem? (i := 23) rfl)
theorem zm_L_23 : Cond.methodLink RL 23 yX7_setMilk ∈ wsL_law := zr_10 _ (List.mem_of_getElem? (i := 0) rfl)
theorem zi_yX7_setMilk : Cond.instanceMethod yX7_setMilk ∈ wsL_law := zr_10 _ (List.mem_of_getElem? (i := 1) rfl)
theorem zs_yX7_setMilk : Cond.selects RX7 yX7_setMilk yX7_setMilk ∈ wsL_law := zr_10 _ (List.mem_of_getElem? (i := 2) rfl)
theorem zc_yX7_setMilk : Cond.code yX7_setMilk cX7_setMilk 4 (some .int) ∈ wsL_law := zr_10 _ (List.mem_of_getElem? (i := 3) rfl)
theorem zk_X7_82 : Cond.constant RX7 82 (1000000) ∈ wsL_law := zr_10 _ (List.mem_of_getElem? (i := 4) rfl)
theorem zf_X7_83 : Cond.fieldLink RX7 83 "DairyShares$Members" "milk" "[I" ∈ wsL_law := zr_10 _ (List.mem_of_getElem? (i := 5) rfl)
theorem zm_L_26 : Cond.methodLink RL 26 yX8_setMilk ∈ wsL_law := zr_10 _ (List.mem_of_getElem? (i := 6) rfl)
theorem zi_yX8_setMilk : Cond.instanceMethod yX8_setMilk ∈ wsL_law := zr_10 _ (List.mem_of_getElem? (i := 7) rfl)
theorem zs_yX8_setMilk : Cond.selects RX8 yX8_setMilk yX8_setMilk ∈ wsL_law := zr_10 _ (List.mem_of_getElem? (i := 8) rfl)
theorem zc_yX8_setMilk : Cond.code yX8_setMilk cX8_setMilk 3 (some .int) ∈ wsL_law := zr_10 _ (List.mem_of_getElem? (i := 9) rfl)
theorem zl_X8_71 : Cond.constantLong RX8 71 (1000000) ∈ wsL_law := zr_10 _ (List.mem_of_getElem? (i := 10) rfl)
theorem zm_X8_73 : Cond.methodLink RX8 73 yX8_puts ∈ wsL_law := zr_10 _ (List.mem_of_getElem? (i := 11) rfl)
theorem zi_yX8_puts : Cond.instanceMethod yX8_puts ∈ wsL_law := zr_10 _ (List.mem_of_getElem? (i := 12) rfl)
theorem zs_yX8_puts : Cond.selects RX8 yX8_puts yX8_puts ∈ wsL_law := zr_10 _ (List.mem_of_getElem? (i := 13) rfl)
theorem zc_yX8_puts : Cond.code yX8_puts cX8_puts 4 (some .int) ∈ wsL_law := zr_10 _ (List.mem_of_getElem? (i := 14) rfl)
theorem zm_L_27 : Cond.methodLink RL 27 yX7_setLitersPerShare ∈ wsL_law := zr_10 _ (List.mem_of_getElem? (i := 15) rfl)
theorem zi_yX7_setLitersPerShare : Cond.instanceMethod yX7_setLitersPerShare ∈ wsL_law := zr_10 _ (List.mem_of_getElem? (i := 16) rfl)
theorem zs_yX7_setLitersPerShare : Cond.selects RX7 yX7_setLitersPerShare yX7_setLitersPerShare ∈ wsL_law := zr_10 _ (List.mem_of_getElem? (i := 17) rfl)
theorem zc_yX7_setLitersPerShare : Cond.code yX7_setLitersPerShare cX7_setLitersPerShare 3 (some .int) ∈ wsL_law := zr_10 _ (List.mem_of_getElem? (i := 18) rfl)
theorem zf_X7_86 : Cond.fieldLink RX7 86 "DairyShares$Register" "settings" "LDairyShares$Settings;" ∈ wsL_law := zr_10 _ (List.mem_of_getElem? (i := 19) rfl)
theorem zf_X7_90 : Cond.fieldLink RX7 90 "DairyShares$Settings" "litersPerShare" "I" ∈ wsL_law := zr_10 _ (List.mem_of_getElem? (i := 20) rfl)
theorem zm_L_31 : Cond.methodLink RL 31 yX8_setLitersPerShare ∈ wsL_law := zr_10 _ (List.mem_of_getElem? (i := 21) rfl)
theorem zi_yX8_setLitersPerShare : Cond.instanceMethod yX8_setLitersPerShare ∈ wsL_law := zr_10 _ (List.mem_of_getElem? (i := 22) rfl)
theorem zs_yX8_setLitersPerShare : Cond.selects RX8 yX8_setLitersPerShare yX8_setLitersPerShare ∈ wsL_law := zr_10 _ (List.mem_of_getElem? (i := 23) rfl)
theorem zc_yX8_setLitersPerShare : Cond.code yX8_setLitersPerShare cX8_setLitersPerShare 2 (some .int) ∈ wsL_law := zr_11 _ (List.mem_of_getElem? (i := 0) rfl)
theorem zm_L_32 : Cond.methodLink RL 32 yX7_setTreasuryLimit ∈ wsL_law := zr_11 _ (List.mem_of_getElem? (i := 1) rfl)
theorem zi_yX7_setTreasuryLimit : Cond.instanceMethod yX7_setTreasuryLimit ∈ wsL_law := zr_11 _ (List.mem_of_getElem? (i := 2) rfl)
theorem zs_yX7_setTreasuryLimit : Cond.selects RX7 yX7_setTreasuryLimit yX7_setTreasuryLimit ∈ wsL_law := zr_11 _ (List.mem_of_getElem? (i := 3) rfl)
theorem zc_yX7_setTreasuryLimit : Cond.code yX7_setTreasuryLimit cX7_setTreasuryLimit 3 (some .int) ∈ wsL_law := zr_11 _ (List.mem_of_getElem? (i := 4) rfl)
theorem zf_X7_95 : Cond.fieldLink RX7 95 "DairyShares$Settings" "treasuryLimit" "I" ∈ wsL_law := zr_11 _ (List.mem_of_getElem? (i := 5) rfl)
theorem zm_L_35 : Cond.methodLink RL 35 yX8_setTreasuryLimit ∈ wsL_law := zr_11 _ (List.mem_of_getElem? (i := 6) rfl)
theorem zi_yX8_setTreasuryLimit : Cond.instanceMethod yX8_setTreasuryLimit ∈ wsL_law := zr_11 _ (List.mem_of_getElem? (i := 7) rfl)
theorem zs_yX8_setTreasuryLimit : Cond.selects RX8 yX8_setTreasuryLimit yX8_setTreasuryLimit ∈ wsL_law := zr_11 _ (List.mem_of_getElem? (i := 8) rfl)
theorem zc_yX8_setTreasuryLimit : Cond.code yX8_setTreasuryLimit cX8_setTreasuryLimit 2 (some .int) ∈ wsL_law := zr_11 _ (List.mem_of_getElem? (i := 9) rfl)
theorem zm_L_36 : Cond.methodLink RL 36 yX7_memberCount ∈ wsL_law := zr_11 _ (List.mem_of_getElem? (i := 10) rfl)
theorem zi_yX7_memberCount : Cond.instanceMethod yX7_memberCount ∈ wsL_law := zr_11 _ (List.mem_of_getElem? (i := 11) rfl)
theorem zs_yX7_memberCount : Cond.selects RX7 yX7_memberCount yX7_memberCount ∈ wsL_law := zr_11 _ (List.mem_of_getElem? (i := 12) rfl)
theorem zc_yX7_memberCount : Cond.code yX7_memberCount cX7_memberCount 1 (some .int) ∈ wsL_law := zr_11 _ (List.mem_of_getElem? (i := 13) rfl)
theorem zm_L_39 : Cond.methodLink RL 39 yX8_memberCount ∈ wsL_law := zr_11 _ (List.mem_of_getElem? (i := 14) rfl)
theorem zi_yX8_memberCount : Cond.instanceMethod yX8_memberCount ∈ wsL_law := zr_11 _ (List.mem_of_getElem? (i := 15) rfl)
theorem zs_yX8_memberCount : Cond.selects RX8 yX8_memberCount yX8_memberCount ∈ wsL_law := zr_11 _ (List.mem_of_getElem? (i := 16) rfl)
theorem zc_yX8_memberCount : Cond.code yX8_memberCount cX8_memberCount 1 (some .int) ∈ wsL_law := zr_11 _ (List.mem_of_getElem? (i := 17) rfl)
theorem zm_L_40 : Cond.methodLink RL 40 yX7_shares ∈ wsL_law := zr_11 _ (List.mem_of_getElem? (i := 18) rfl)
theorem zi_yX7_shares : Cond.instanceMethod yX7_shares ∈ wsL_law := zr_11 _ (List.mem_of_getElem? (i := 19) rfl)
theorem zs_yX7_shares : Cond.selects RX7 yX7_shares yX7_shares ∈ wsL_law := zr_11 _ (List.mem_of_getElem? (i := 20) rfl)
theorem zc_yX7_shares : Cond.code yX7_shares cX7_shares 2 (some .int) ∈ wsL_law := zr_11 _ (List.mem_of_getElem? (i := 21) rfl)
theorem zm_L_43 : Cond.methodLink RL 43 yX8_shares ∈ wsL_law := zr_11 _ (List.mem_of_getElem? (i := 22) rfl)
theorem zi_yX8_shares : Cond.instanceMethod yX8_shares ∈ wsL_law := zr_11 _ (List.mem_of_getElem? (i := 23) rfl)
theorem zs_yX8_shares : Cond.selects RX8 yX8_shares yX8_shares ∈ wsL_law := zr_12 _ (List.mem_of_getElem? (i := 0) rfl)
theorem zc_yX8_shares : Cond.code yX8_shares cX8_shares 2 (some .int) ∈ wsL_law := zr_12 _ (List.mem_of_getElem? (i := 1) rfl)
theorem zm_L_44 : Cond.methodLink RL 44 yX7_account ∈ wsL_law := zr_12 _ (List.mem_of_getElem? (i := 2) rfl)
theorem zi_yX7_account : Cond.instanceMethod yX7_account ∈ wsL_law := zr_12 _ (List.mem_of_getElem? (i := 3) rfl)
theorem zs_yX7_account : Cond.selects RX7 yX7_account yX7_account ∈ wsL_law := zr_12 _ (List.mem_of_getElem? (i := 4) rfl)
theorem zc_yX7_account : Cond.code yX7_account cX7_account 2 (some .long) ∈ wsL_law := zr_12 _ (List.mem_of_getElem? (i := 5) rfl)
theorem zl_X7_98 : Cond.constantLong RX7 98 (-2000000001) ∈ wsL_law := zr_12 _ (List.mem_of_getElem? (i := 6) rfl)
theorem zm_L_48 : Cond.methodLink RL 48 yX8_account ∈ wsL_law := zr_12 _ (List.mem_of_getElem? (i := 7) rfl)
theorem zi_yX8_account : Cond.instanceMethod yX8_account ∈ wsL_law := zr_12 _ (List.mem_of_getElem? (i := 8) rfl)
theorem zs_yX8_account : Cond.selects RX8 yX8_account yX8_account ∈ wsL_law := zr_12 _ (List.mem_of_getElem? (i := 9) rfl)
theorem zc_yX8_account : Cond.code yX8_account cX8_account 2 (some .long) ∈ wsL_law := zr_12 _ (List.mem_of_getElem? (i := 10) rfl)
theorem zl_X8_76 : Cond.constantLong RX8 76 (-2000000001) ∈ wsL_law := zr_12 _ (List.mem_of_getElem? (i := 11) rfl)
theorem zm_L_49 : Cond.methodLink RL 49 yX7_requirement ∈ wsL_law := zr_12 _ (List.mem_of_getElem? (i := 12) rfl)
theorem zi_yX7_requirement : Cond.instanceMethod yX7_requirement ∈ wsL_law := zr_12 _ (List.mem_of_getElem? (i := 13) rfl)
theorem zs_yX7_requirement : Cond.selects RX7 yX7_requirement yX7_requirement ∈ wsL_law := zr_12 _ (List.mem_of_getElem? (i := 14) rfl)
theorem zc_yX7_requirement : Cond.code yX7_requirement cX7_requirement 2 (some .int) ∈ wsL_law := zr_12 _ (List.mem_of_getElem? (i := 15) rfl)
theorem zm_X7_100 : Cond.methodLink RX7 100 yX4_requirementOf ∈ wsL_law := zr_12 _ (List.mem_of_getElem? (i := 16) rfl)
theorem zi_yX4_requirementOf : Cond.instanceMethod yX4_requirementOf ∈ wsL_law := zr_12 _ (List.mem_of_getElem? (i := 17) rfl)
theorem zs_yX4_requirementOf : Cond.selects RX4 yX4_requirementOf yX4_requirementOf ∈ wsL_law := zr_12 _ (List.mem_of_getElem? (i := 18) rfl)
theorem zc_yX4_requirementOf : Cond.code yX4_requirementOf cX4_requirementOf 3 (some .int) ∈ wsL_law := zr_12 _ (List.mem_of_getElem? (i := 19) rfl)
theorem zf_X4_76 : Cond.fieldLink RX4 76 "DairyShares$Settings" "litersPerShare" "I" ∈ wsL_law := zr_12 _ (List.mem_of_getElem? (i := 20) rfl)
theorem zf_X4_79 : Cond.fieldLink RX4 79 "DairyShares$Members" "milk" "[I" ∈ wsL_law := zr_12 _ (List.mem_of_getElem? (i := 21) rfl)
theorem zt_yX7_quotient : Cond.static yX7_quotient ∈ wsL_law := zr_12 _ (List.mem_of_getElem? (i := 22) rfl)
theorem zc_yX7_quotient : Cond.code yX7_quotient cX7_quotient 2 (some .int) ∈ wsL_law := zr_12 _ (List.mem_of_getElem? (i := 23) rfl)
theorem zm_X7_255 : Cond.methodLink RX7 255 yJ9_floorDiv_7cf53 ∈ wsL_law := zr_13 _ (List.mem_of_getElem? (i := 0) rfl)
theorem zt_yJ9_floorDiv_7cf53 : Cond.static yJ9_floorDiv_7cf53 ∈ wsL_law := zr_13 _ (List.mem_of_getElem? (i := 1) rfl)
theorem zn_RJ9 : Cond.initialized RJ9 ∈ wsL_law := zr_13 _ (List.mem_of_getElem? (i := 2) rfl)
theorem zc_yJ9_floorDiv_7cf53 : Cond.code yJ9_floorDiv_7cf53 cJ9_floorDiv_7cf53 3 (some .int) ∈ wsL_law := zr_13 _ (List.mem_of_getElem? (i := 3) rfl)
theorem zm_L_52 : Cond.methodLink RL 52 yX8_requirement ∈ wsL_law := zr_13 _ (List.mem_of_getElem? (i := 4) rfl)
theorem zi_yX8_requirement : Cond.instanceMethod yX8_requirement ∈ wsL_law := zr_13 _ (List.mem_of_getElem? (i := 5) rfl)
theorem zs_yX8_requirement : Cond.selects RX8 yX8_requirement yX8_requirement ∈ wsL_law := zr_13 _ (List.mem_of_getElem? (i := 6) rfl)
theorem zc_yX8_requirement : Cond.code yX8_requirement cX8_requirement 2 (some .int) ∈ wsL_law := zr_13 _ (List.mem_of_getElem? (i := 7) rfl)
theorem zm_X8_50 : Cond.methodLink RX8 50 yX8_requirementOf ∈ wsL_law := zr_13 _ (List.mem_of_getElem? (i := 8) rfl)
theorem zi_yX8_requirementOf : Cond.instanceMethod yX8_requirementOf ∈ wsL_law := zr_13 _ (List.mem_of_getElem? (i := 9) rfl)
theorem zs_yX8_requirementOf : Cond.selects RX8 yX8_requirementOf yX8_requirementOf ∈ wsL_law := zr_13 _ (List.mem_of_getElem? (i := 10) rfl)
theorem zc_yX8_requirementOf : Cond.code yX8_requirementOf cX8_requirementOf 2 (some .long) ∈ wsL_law := zr_13 _ (List.mem_of_getElem? (i := 11) rfl)
theorem zm_L_53 : Cond.methodLink RL 53 yX7_freeShares ∈ wsL_law := zr_13 _ (List.mem_of_getElem? (i := 12) rfl)
theorem zi_yX7_freeShares : Cond.instanceMethod yX7_freeShares ∈ wsL_law := zr_13 _ (List.mem_of_getElem? (i := 13) rfl)
theorem zs_yX7_freeShares : Cond.selects RX7 yX7_freeShares yX7_freeShares ∈ wsL_law := zr_13 _ (List.mem_of_getElem? (i := 14) rfl)
theorem zc_yX7_freeShares : Cond.code yX7_freeShares cX7_freeShares 2 (some .int) ∈ wsL_law := zr_13 _ (List.mem_of_getElem? (i := 15) rfl)
theorem zm_X7_104 : Cond.methodLink RX7 104 yX4_freeSharesOf ∈ wsL_law := zr_13 _ (List.mem_of_getElem? (i := 16) rfl)
theorem zi_yX4_freeSharesOf : Cond.instanceMethod yX4_freeSharesOf ∈ wsL_law := zr_13 _ (List.mem_of_getElem? (i := 17) rfl)
theorem zs_yX4_freeSharesOf : Cond.selects RX4 yX4_freeSharesOf yX4_freeSharesOf ∈ wsL_law := zr_13 _ (List.mem_of_getElem? (i := 18) rfl)
theorem zc_yX4_freeSharesOf : Cond.code yX4_freeSharesOf cX4_freeSharesOf 3 (some .int) ∈ wsL_law := zr_13 _ (List.mem_of_getElem? (i := 19) rfl)
theorem zm_X4_93 : Cond.methodLink RX4 93 Lib.Math.max.name ∈ wsL_law := zr_13 _ (List.mem_of_getElem? (i := 20) rfl)
theorem zt_J9_max_name : Cond.static Lib.Math.max.name ∈ wsL_law := zr_13 _ (List.mem_of_getElem? (i := 21) rfl)
theorem zc_J9_max_name : Cond.code Lib.Math.max.name Lib.Math.max.code 2 (some .int) ∈ wsL_law := zr_13 _ (List.mem_of_getElem? (i := 22) rfl)
theorem zm_X4_86 : Cond.methodLink RX4 86 yX4_requirementOf ∈ wsL_law := zr_13 _ (List.mem_of_getElem? (i := 23) rfl)
theorem zm_X4_90 : Cond.methodLink RX4 90 yX3_remainingOf ∈ wsL_law := zr_14 _ (List.mem_of_getElem? (i := 0) rfl)
theorem zi_yX3_remainingOf : Cond.instanceMethod yX3_remainingOf ∈ wsL_law := zr_14 _ (List.mem_of_getElem? (i := 1) rfl)
theorem zs_yX3_remainingOf : Cond.selects RX3 yX3_remainingOf yX3_remainingOf ∈ wsL_law := zr_14 _ (List.mem_of_getElem? (i := 2) rfl)
theorem zc_yX3_remainingOf : Cond.code yX3_remainingOf cX3_remainingOf 4 (some .int) ∈ wsL_law := zr_14 _ (List.mem_of_getElem? (i := 3) rfl)
theorem zm_X3_61 : Cond.methodLink RX3 61 yX3_isOpen ∈ wsL_law := zr_14 _ (List.mem_of_getElem? (i := 4) rfl)
theorem zi_yX3_isOpen : Cond.instanceMethod yX3_isOpen ∈ wsL_law := zr_14 _ (List.mem_of_getElem? (i := 5) rfl)
theorem zs_yX3_isOpen : Cond.selects RX3 yX3_isOpen yX3_isOpen ∈ wsL_law := zr_14 _ (List.mem_of_getElem? (i := 6) rfl)
theorem zc_yX3_isOpen : Cond.code yX3_isOpen cX3_isOpen 2 (some .boolean) ∈ wsL_law := zr_14 _ (List.mem_of_getElem? (i := 7) rfl)
theorem zm_L_56 : Cond.methodLink RL 56 yX8_freeShares ∈ wsL_law := zr_14 _ (List.mem_of_getElem? (i := 8) rfl)
theorem zi_yX8_freeShares : Cond.instanceMethod yX8_freeShares ∈ wsL_law := zr_14 _ (List.mem_of_getElem? (i := 9) rfl)
theorem zs_yX8_freeShares : Cond.selects RX8 yX8_freeShares yX8_freeShares ∈ wsL_law := zr_14 _ (List.mem_of_getElem? (i := 10) rfl)
theorem zc_yX8_freeShares : Cond.code yX8_freeShares cX8_freeShares 2 (some .int) ∈ wsL_law := zr_14 _ (List.mem_of_getElem? (i := 11) rfl)
theorem zm_X8_78 : Cond.methodLink RX8 78 yX8_freeOf ∈ wsL_law := zr_14 _ (List.mem_of_getElem? (i := 12) rfl)
theorem zi_yX8_freeOf : Cond.instanceMethod yX8_freeOf ∈ wsL_law := zr_14 _ (List.mem_of_getElem? (i := 13) rfl)
theorem zs_yX8_freeOf : Cond.selects RX8 yX8_freeOf yX8_freeOf ∈ wsL_law := zr_14 _ (List.mem_of_getElem? (i := 14) rfl)
theorem zc_yX8_freeOf : Cond.code yX8_freeOf cX8_freeOf 5 (some .long) ∈ wsL_law := zr_14 _ (List.mem_of_getElem? (i := 15) rfl)
theorem zm_X8_54 : Cond.methodLink RX8 54 yX8_o ∈ wsL_law := zr_14 _ (List.mem_of_getElem? (i := 16) rfl)
theorem zt_yX8_o : Cond.static yX8_o ∈ wsL_law := zr_14 _ (List.mem_of_getElem? (i := 17) rfl)
theorem zc_yX8_o : Cond.code yX8_o cX8_o 2 (some .int) ∈ wsL_law := zr_14 _ (List.mem_of_getElem? (i := 18) rfl)
theorem zm_L_57 : Cond.methodLink RL 57 yX7_room ∈ wsL_law := zr_14 _ (List.mem_of_getElem? (i := 19) rfl)
theorem zi_yX7_room : Cond.instanceMethod yX7_room ∈ wsL_law := zr_14 _ (List.mem_of_getElem? (i := 20) rfl)
theorem zs_yX7_room : Cond.selects RX7 yX7_room yX7_room ∈ wsL_law := zr_14 _ (List.mem_of_getElem? (i := 21) rfl)
theorem zc_yX7_room : Cond.code yX7_room cX7_room 2 (some .int) ∈ wsL_law := zr_14 _ (List.mem_of_getElem? (i := 22) rfl)
theorem zm_X7_107 : Cond.methodLink RX7 107 yX4_roomOf ∈ wsL_law := zr_14 _ (List.mem_of_getElem? (i := 23) rfl)
theorem zi_yX4_roomOf : Cond.instanceMethod yX4_roomOf ∈ wsL_law := zr_15 _ (List.mem_of_getElem? (i := 0) rfl)
theorem zs_yX4_roomOf : Cond.selects RX4 yX4_roomOf yX4_roomOf ∈ wsL_law := zr_15 _ (List.mem_of_getElem? (i := 1) rfl)
theorem zc_yX4_roomOf : Cond.code yX4_roomOf cX4_roomOf 3 (some .int) ∈ wsL_law := zr_15 _ (List.mem_of_getElem? (i := 2) rfl)
theorem zf_X4_102 : Cond.fieldLink RX4 102 "DairyShares$Settings" "cap" "I" ∈ wsL_law := zr_15 _ (List.mem_of_getElem? (i := 3) rfl)
theorem zm_X4_98 : Cond.methodLink RX4 98 yX4_countAllShares ∈ wsL_law := zr_15 _ (List.mem_of_getElem? (i := 4) rfl)
theorem zm_L_60 : Cond.methodLink RL 60 yX8_room ∈ wsL_law := zr_15 _ (List.mem_of_getElem? (i := 5) rfl)
theorem zi_yX8_room : Cond.instanceMethod yX8_room ∈ wsL_law := zr_15 _ (List.mem_of_getElem? (i := 6) rfl)
theorem zs_yX8_room : Cond.selects RX8 yX8_room yX8_room ∈ wsL_law := zr_15 _ (List.mem_of_getElem? (i := 7) rfl)
theorem zc_yX8_room : Cond.code yX8_room cX8_room 2 (some .int) ∈ wsL_law := zr_15 _ (List.mem_of_getElem? (i := 8) rfl)
theorem zm_X8_81 : Cond.methodLink RX8 81 yX8_roomOf ∈ wsL_law := zr_15 _ (List.mem_of_getElem? (i := 9) rfl)
theorem zi_yX8_roomOf : Cond.instanceMethod yX8_roomOf ∈ wsL_law := zr_15 _ (List.mem_of_getElem? (i := 10) rfl)
theorem zs_yX8_roomOf : Cond.selects RX8 yX8_roomOf yX8_roomOf ∈ wsL_law := zr_15 _ (List.mem_of_getElem? (i := 11) rfl)
theorem zc_yX8_roomOf : Cond.code yX8_roomOf cX8_roomOf 4 (some .long) ∈ wsL_law := zr_15 _ (List.mem_of_getElem? (i := 12) rfl)
theorem zm_L_61 : Cond.methodLink RL 61 yX7_allShares ∈ wsL_law := zr_15 _ (List.mem_of_getElem? (i := 13) rfl)
theorem zi_yX7_allShares : Cond.instanceMethod yX7_allShares ∈ wsL_law := zr_15 _ (List.mem_of_getElem? (i := 14) rfl)
theorem zs_yX7_allShares : Cond.selects RX7 yX7_allShares yX7_allShares ∈ wsL_law := zr_15 _ (List.mem_of_getElem? (i := 15) rfl)
theorem zc_yX7_allShares : Cond.code yX7_allShares cX7_allShares 1 (some .int) ∈ wsL_law := zr_15 _ (List.mem_of_getElem? (i := 16) rfl)
theorem zm_L_64 : Cond.methodLink RL 64 yX8_allShares ∈ wsL_law := zr_15 _ (List.mem_of_getElem? (i := 17) rfl)
theorem zi_yX8_allShares : Cond.instanceMethod yX8_allShares ∈ wsL_law := zr_15 _ (List.mem_of_getElem? (i := 18) rfl)
theorem zs_yX8_allShares : Cond.selects RX8 yX8_allShares yX8_allShares ∈ wsL_law := zr_15 _ (List.mem_of_getElem? (i := 19) rfl)
theorem zc_yX8_allShares : Cond.code yX8_allShares cX8_allShares 1 (some .int) ∈ wsL_law := zr_15 _ (List.mem_of_getElem? (i := 20) rfl)
theorem zm_L_65 : Cond.methodLink RL 65 yX7_treasury ∈ wsL_law := zr_15 _ (List.mem_of_getElem? (i := 21) rfl)
theorem zi_yX7_treasury : Cond.instanceMethod yX7_treasury ∈ wsL_law := zr_15 _ (List.mem_of_getElem? (i := 22) rfl)
theorem zs_yX7_treasury : Cond.selects RX7 yX7_treasury yX7_treasury ∈ wsL_law := zr_15 _ (List.mem_of_getElem? (i := 23) rfl)
theorem zc_yX7_treasury : Cond.code yX7_treasury cX7_treasury 1 (some .int) ∈ wsL_law := zr_16 _ (List.mem_of_getElem? (i := 0) rfl)
theorem zf_X7_110 : Cond.fieldLink RX7 110 "DairyShares$Register" "treasuryShares" "I" ∈ wsL_law := zr_16 _ (List.mem_of_getElem? (i := 1) rfl)
theorem zm_L_68 : Cond.methodLink RL 68 yX8_treasury ∈ wsL_law := zr_16 _ (List.mem_of_getElem? (i := 2) rfl)
theorem zi_yX8_treasury : Cond.instanceMethod yX8_treasury ∈ wsL_law := zr_16 _ (List.mem_of_getElem? (i := 3) rfl)
theorem zs_yX8_treasury : Cond.selects RX8 yX8_treasury yX8_treasury ∈ wsL_law := zr_16 _ (List.mem_of_getElem? (i := 4) rfl)
theorem zc_yX8_treasury : Cond.code yX8_treasury cX8_treasury 1 (some .int) ∈ wsL_law := zr_16 _ (List.mem_of_getElem? (i := 5) rfl)
theorem zm_L_69 : Cond.methodLink RL 69 yX7_setBooks ∈ wsL_law := zr_16 _ (List.mem_of_getElem? (i := 6) rfl)
theorem zi_yX7_setBooks : Cond.instanceMethod yX7_setBooks ∈ wsL_law := zr_16 _ (List.mem_of_getElem? (i := 7) rfl)
theorem zs_yX7_setBooks : Cond.selects RX7 yX7_setBooks yX7_setBooks ∈ wsL_law := zr_16 _ (List.mem_of_getElem? (i := 8) rfl)
theorem zc_yX7_setBooks : Cond.code yX7_setBooks cX7_setBooks 4 (some .int) ∈ wsL_law := zr_16 _ (List.mem_of_getElem? (i := 9) rfl)
theorem zk_X7_113 : Cond.constant RX7 113 (100000000) ∈ wsL_law := zr_16 _ (List.mem_of_getElem? (i := 10) rfl)
theorem zf_X7_114 : Cond.fieldLink RX7 114 "DairyShares$Books" "assets" "I" ∈ wsL_law := zr_16 _ (List.mem_of_getElem? (i := 11) rfl)
theorem zf_X7_117 : Cond.fieldLink RX7 117 "DairyShares$Books" "debts" "I" ∈ wsL_law := zr_16 _ (List.mem_of_getElem? (i := 12) rfl)
theorem zm_L_72 : Cond.methodLink RL 72 yX8_setBooks ∈ wsL_law := zr_16 _ (List.mem_of_getElem? (i := 13) rfl)
theorem zi_yX8_setBooks : Cond.instanceMethod yX8_setBooks ∈ wsL_law := zr_16 _ (List.mem_of_getElem? (i := 14) rfl)
theorem zs_yX8_setBooks : Cond.selects RX8 yX8_setBooks yX8_setBooks ∈ wsL_law := zr_16 _ (List.mem_of_getElem? (i := 15) rfl)
theorem zc_yX8_setBooks : Cond.code yX8_setBooks cX8_setBooks 4 (some .int) ∈ wsL_law := zr_16 _ (List.mem_of_getElem? (i := 16) rfl)
theorem zl_X8_84 : Cond.constantLong RX8 84 (100000000) ∈ wsL_law := zr_16 _ (List.mem_of_getElem? (i := 17) rfl)
theorem zm_L_73 : Cond.methodLink RL 73 yX7_addSurplus ∈ wsL_law := zr_16 _ (List.mem_of_getElem? (i := 18) rfl)
theorem zi_yX7_addSurplus : Cond.instanceMethod yX7_addSurplus ∈ wsL_law := zr_16 _ (List.mem_of_getElem? (i := 19) rfl)
theorem zs_yX7_addSurplus : Cond.selects RX7 yX7_addSurplus yX7_addSurplus ∈ wsL_law := zr_16 _ (List.mem_of_getElem? (i := 20) rfl)
theorem zc_yX7_addSurplus : Cond.code yX7_addSurplus cX7_addSurplus 2 (some .int) ∈ wsL_law := zr_16 _ (List.mem_of_getElem? (i := 21) rfl)
theorem zk_X7_120 : Cond.constant RX7 120 (-1000000) ∈ wsL_law := zr_16 _ (List.mem_of_getElem? (i := 22) rfl)
theorem zf_X7_125 : Cond.fieldLink RX7 125 "DairyShares$Books" "surplusCount" "I" ∈ wsL_law := zr_16 _ (List.mem_of_getElem? (i := 23) rfl)
theorem zm_X7_121 : Cond.methodLink RX7 121 yX0_recordSurplus ∈ wsL_law := zr_17 _ (List.mem_of_getElem? (i := 0) rfl)
theorem zi_yX0_recordSurplus : Cond.instanceMethod yX0_recordSurplus ∈ wsL_law := zr_17 _ (List.mem_of_getElem? (i := 1) rfl)
theorem zs_yX0_recordSurplus : Cond.selects RX0 yX0_recordSurplus yX0_recordSurplus ∈ wsL_law := zr_17 _ (List.mem_of_getElem? (i := 2) rfl)
theorem zc_yX0_recordSurplus : Cond.code yX0_recordSurplus cX0_recordSurplus 2 none ∈ wsL_law := zr_17 _ (List.mem_of_getElem? (i := 3) rfl)
theorem zm_L_76 : Cond.methodLink RL 76 yX8_addSurplus ∈ wsL_law := zr_17 _ (List.mem_of_getElem? (i := 4) rfl)
theorem zi_yX8_addSurplus : Cond.instanceMethod yX8_addSurplus ∈ wsL_law := zr_17 _ (List.mem_of_getElem? (i := 5) rfl)
theorem zs_yX8_addSurplus : Cond.selects RX8 yX8_addSurplus yX8_addSurplus ∈ wsL_law := zr_17 _ (List.mem_of_getElem? (i := 6) rfl)
theorem zc_yX8_addSurplus : Cond.code yX8_addSurplus cX8_addSurplus 2 (some .int) ∈ wsL_law := zr_17 _ (List.mem_of_getElem? (i := 7) rfl)
theorem zl_X8_86 : Cond.constantLong RX8 86 (-1000000) ∈ wsL_law := zr_17 _ (List.mem_of_getElem? (i := 8) rfl)
theorem zm_L_77 : Cond.methodLink RL 77 yX7_valuate ∈ wsL_law := zr_17 _ (List.mem_of_getElem? (i := 9) rfl)
theorem zi_yX7_valuate : Cond.instanceMethod yX7_valuate ∈ wsL_law := zr_17 _ (List.mem_of_getElem? (i := 10) rfl)
theorem zs_yX7_valuate : Cond.selects RX7 yX7_valuate yX7_valuate ∈ wsL_law := zr_17 _ (List.mem_of_getElem? (i := 11) rfl)
theorem zc_yX7_valuate : Cond.code yX7_valuate cX7_valuate 2 (some .int) ∈ wsL_law := zr_17 _ (List.mem_of_getElem? (i := 12) rfl)
theorem zk_X7_128 : Cond.constant RX7 128 (-2000000002) ∈ wsL_law := zr_17 _ (List.mem_of_getElem? (i := 13) rfl)
theorem zf_X7_132 : Cond.fieldLink RX7 132 "DairyShares$Settings" "parValue" "I" ∈ wsL_law := zr_17 _ (List.mem_of_getElem? (i := 14) rfl)
theorem zm_X7_135 : Cond.methodLink RX7 135 Lib.Math.max.name ∈ wsL_law := zr_17 _ (List.mem_of_getElem? (i := 15) rfl)
theorem zm_X7_129 : Cond.methodLink RX7 129 yX0_valueOfOne ∈ wsL_law := zr_17 _ (List.mem_of_getElem? (i := 16) rfl)
theorem zi_yX0_valueOfOne : Cond.instanceMethod yX0_valueOfOne ∈ wsL_law := zr_17 _ (List.mem_of_getElem? (i := 17) rfl)
theorem zs_yX0_valueOfOne : Cond.selects RX0 yX0_valueOfOne yX0_valueOfOne ∈ wsL_law := zr_17 _ (List.mem_of_getElem? (i := 18) rfl)
theorem zc_yX0_valueOfOne : Cond.code yX0_valueOfOne cX0_valueOfOne 4 (some .int) ∈ wsL_law := zr_17 _ (List.mem_of_getElem? (i := 19) rfl)
theorem zm_X0_38 : Cond.methodLink RX0 38 yX0_meanSurplus ∈ wsL_law := zr_17 _ (List.mem_of_getElem? (i := 20) rfl)
theorem zi_yX0_meanSurplus : Cond.instanceMethod yX0_meanSurplus ∈ wsL_law := zr_17 _ (List.mem_of_getElem? (i := 21) rfl)
theorem zs_yX0_meanSurplus : Cond.selects RX0 yX0_meanSurplus yX0_meanSurplus ∈ wsL_law := zr_17 _ (List.mem_of_getElem? (i := 22) rfl)
theorem zc_yX0_meanSurplus : Cond.code yX0_meanSurplus cX0_meanSurplus 3 (some .int) ∈ wsL_law := zr_17 _ (List.mem_of_getElem? (i := 23) rfl)
theorem zm_L_80 : Cond.methodLink RL 80 yX8_valuate ∈ wsL_law := zr_18 _ (List.mem_of_getElem? (i := 0) rfl)
theorem zi_yX8_valuate : Cond.instanceMethod yX8_valuate ∈ wsL_law := zr_18 _ (List.mem_of_getElem? (i := 1) rfl)
theorem zs_yX8_valuate : Cond.selects RX8 yX8_valuate yX8_valuate ∈ wsL_law := zr_18 _ (List.mem_of_getElem? (i := 2) rfl)
theorem zc_yX8_valuate : Cond.code yX8_valuate cX8_valuate 5 (some .int) ∈ wsL_law := zr_18 _ (List.mem_of_getElem? (i := 3) rfl)
theorem zk_X8_92 : Cond.constant RX8 92 (-2000000002) ∈ wsL_law := zr_18 _ (List.mem_of_getElem? (i := 4) rfl)
theorem zl_X8_93 : Cond.constantLong RX8 93 (2) ∈ wsL_law := zr_18 _ (List.mem_of_getElem? (i := 5) rfl)
theorem zl_X8_95 : Cond.constantLong RX8 95 (10) ∈ wsL_law := zr_18 _ (List.mem_of_getElem? (i := 6) rfl)
theorem zl_X8_100 : Cond.constantLong RX8 100 (5) ∈ wsL_law := zr_18 _ (List.mem_of_getElem? (i := 7) rfl)
theorem zm_X8_88 : Cond.methodLink RX8 88 yX8_by ∈ wsL_law := zr_18 _ (List.mem_of_getElem? (i := 8) rfl)
theorem zt_yX8_by : Cond.static yX8_by ∈ wsL_law := zr_18 _ (List.mem_of_getElem? (i := 9) rfl)
theorem zc_yX8_by : Cond.code yX8_by cX8_by 6 (some .long) ∈ wsL_law := zr_18 _ (List.mem_of_getElem? (i := 10) rfl)
theorem zm_X8_97 : Cond.methodLink RX8 97 yX8_mean ∈ wsL_law := zr_18 _ (List.mem_of_getElem? (i := 11) rfl)
theorem zi_yX8_mean : Cond.instanceMethod yX8_mean ∈ wsL_law := zr_18 _ (List.mem_of_getElem? (i := 12) rfl)
theorem zs_yX8_mean : Cond.selects RX8 yX8_mean yX8_mean ∈ wsL_law := zr_18 _ (List.mem_of_getElem? (i := 13) rfl)
theorem zc_yX8_mean : Cond.code yX8_mean cX8_mean 4 (some .long) ∈ wsL_law := zr_18 _ (List.mem_of_getElem? (i := 14) rfl)
theorem zm_L_81 : Cond.methodLink RL 81 yX7_price ∈ wsL_law := zr_18 _ (List.mem_of_getElem? (i := 15) rfl)
theorem zi_yX7_price : Cond.instanceMethod yX7_price ∈ wsL_law := zr_18 _ (List.mem_of_getElem? (i := 16) rfl)
theorem zs_yX7_price : Cond.selects RX7 yX7_price yX7_price ∈ wsL_law := zr_18 _ (List.mem_of_getElem? (i := 17) rfl)
theorem zc_yX7_price : Cond.code yX7_price cX7_price 1 (some .int) ∈ wsL_law := zr_18 _ (List.mem_of_getElem? (i := 18) rfl)
theorem zm_L_84 : Cond.methodLink RL 84 yX8_price ∈ wsL_law := zr_18 _ (List.mem_of_getElem? (i := 19) rfl)
theorem zi_yX8_price : Cond.instanceMethod yX8_price ∈ wsL_law := zr_18 _ (List.mem_of_getElem? (i := 20) rfl)
theorem zs_yX8_price : Cond.selects RX8 yX8_price yX8_price ∈ wsL_law := zr_18 _ (List.mem_of_getElem? (i := 21) rfl)
theorem zc_yX8_price : Cond.code yX8_price cX8_price 1 (some .int) ∈ wsL_law := zr_18 _ (List.mem_of_getElem? (i := 22) rfl)
theorem zm_L_85 : Cond.methodLink RL 85 yX7_parValue ∈ wsL_law := zr_18 _ (List.mem_of_getElem? (i := 23) rfl)
theorem zi_yX7_parValue : Cond.instanceMethod yX7_parValue ∈ wsL_law := zr_19 _ (List.mem_of_getElem? (i := 0) rfl)
theorem zs_yX7_parValue : Cond.selects RX7 yX7_parValue yX7_parValue ∈ wsL_law := zr_19 _ (List.mem_of_getElem? (i := 1) rfl)
theorem zc_yX7_parValue : Cond.code yX7_parValue cX7_parValue 1 (some .int) ∈ wsL_law := zr_19 _ (List.mem_of_getElem? (i := 2) rfl)
theorem zm_L_88 : Cond.methodLink RL 88 yX8_parValue ∈ wsL_law := zr_19 _ (List.mem_of_getElem? (i := 3) rfl)
theorem zi_yX8_parValue : Cond.instanceMethod yX8_parValue ∈ wsL_law := zr_19 _ (List.mem_of_getElem? (i := 4) rfl)
theorem zs_yX8_parValue : Cond.selects RX8 yX8_parValue yX8_parValue ∈ wsL_law := zr_19 _ (List.mem_of_getElem? (i := 5) rfl)
theorem zc_yX8_parValue : Cond.code yX8_parValue cX8_parValue 1 (some .int) ∈ wsL_law := zr_19 _ (List.mem_of_getElem? (i := 6) rfl)
theorem zm_L_89 : Cond.methodLink RL 89 yX7_offer ∈ wsL_law := zr_19 _ (List.mem_of_getElem? (i := 7) rfl)
theorem zi_yX7_offer : Cond.instanceMethod yX7_offer ∈ wsL_law := zr_19 _ (List.mem_of_getElem? (i := 8) rfl)
theorem zs_yX7_offer : Cond.selects RX7 yX7_offer yX7_offer ∈ wsL_law := zr_19 _ (List.mem_of_getElem? (i := 9) rfl)
theorem zc_yX7_offer : Cond.code yX7_offer cX7_offer 6 (some .int) ∈ wsL_law := zr_19 _ (List.mem_of_getElem? (i := 10) rfl)
theorem zk_X7_141 : Cond.constant RX7 141 (100000) ∈ wsL_law := zr_19 _ (List.mem_of_getElem? (i := 11) rfl)
theorem zf_X7_142 : Cond.fieldLink RX7 142 "DairyShares$Register" "offers" "LDairyShares$Offers;" ∈ wsL_law := zr_19 _ (List.mem_of_getElem? (i := 12) rfl)
theorem zf_X7_146 : Cond.fieldLink RX7 146 "DairyShares$Offers" "count" "I" ∈ wsL_law := zr_19 _ (List.mem_of_getElem? (i := 13) rfl)
theorem zf_X7_153 : Cond.fieldLink RX7 153 "DairyShares$Settings" "stageLength" "I" ∈ wsL_law := zr_19 _ (List.mem_of_getElem? (i := 14) rfl)
theorem zm_X7_149 : Cond.methodLink RX7 149 yX3_add ∈ wsL_law := zr_19 _ (List.mem_of_getElem? (i := 15) rfl)
theorem zi_yX3_add : Cond.instanceMethod yX3_add ∈ wsL_law := zr_19 _ (List.mem_of_getElem? (i := 16) rfl)
theorem zs_yX3_add : Cond.selects RX3 yX3_add yX3_add ∈ wsL_law := zr_19 _ (List.mem_of_getElem? (i := 17) rfl)
theorem zc_yX3_add : Cond.code yX3_add cX3_add 6 (some .int) ∈ wsL_law := zr_19 _ (List.mem_of_getElem? (i := 18) rfl)
theorem zm_X7_156 : Cond.methodLink RX7 156 yX3_beginStage ∈ wsL_law := zr_19 _ (List.mem_of_getElem? (i := 19) rfl)
theorem zi_yX3_beginStage : Cond.instanceMethod yX3_beginStage ∈ wsL_law := zr_19 _ (List.mem_of_getElem? (i := 20) rfl)
theorem zs_yX3_beginStage : Cond.selects RX3 yX3_beginStage yX3_beginStage ∈ wsL_law := zr_19 _ (List.mem_of_getElem? (i := 21) rfl)
theorem zc_yX3_beginStage : Cond.code yX3_beginStage cX3_beginStage 4 none ∈ wsL_law := zr_19 _ (List.mem_of_getElem? (i := 22) rfl)
theorem zm_X3_46 : Cond.methodLink RX3 46 yX3_clearClaims ∈ wsL_law := zr_19 _ (List.mem_of_getElem? (i := 23) rfl)
theorem zi_yX3_clearClaims : Cond.instanceMethod yX3_clearClaims ∈ wsL_law := zr_20 _ (List.mem_of_getElem? (i := 0) rfl)
theorem zs_yX3_clearClaims : Cond.selects RX3 yX3_clearClaims yX3_clearClaims ∈ wsL_law := zr_20 _ (List.mem_of_getElem? (i := 1) rfl)
theorem zc_yX3_clearClaims : Cond.code yX3_clearClaims cX3_clearClaims 3 none ∈ wsL_law := zr_20 _ (List.mem_of_getElem? (i := 2) rfl)
theorem zm_X3_54 : Cond.methodLink RX3 54 yX3_setClaim ∈ wsL_law := zr_20 _ (List.mem_of_getElem? (i := 3) rfl)
theorem zi_yX3_setClaim : Cond.instanceMethod yX3_setClaim ∈ wsL_law := zr_20 _ (List.mem_of_getElem? (i := 4) rfl)
theorem zs_yX3_setClaim : Cond.selects RX3 yX3_setClaim yX3_setClaim ∈ wsL_law := zr_20 _ (List.mem_of_getElem? (i := 5) rfl)
theorem zc_yX3_setClaim : Cond.code yX3_setClaim cX3_setClaim 4 none ∈ wsL_law := zr_20 _ (List.mem_of_getElem? (i := 6) rfl)
theorem zm_L_93 : Cond.methodLink RL 93 yX8_offer ∈ wsL_law := zr_20 _ (List.mem_of_getElem? (i := 7) rfl)
theorem zi_yX8_offer : Cond.instanceMethod yX8_offer ∈ wsL_law := zr_20 _ (List.mem_of_getElem? (i := 8) rfl)
theorem zs_yX8_offer : Cond.selects RX8 yX8_offer yX8_offer ∈ wsL_law := zr_20 _ (List.mem_of_getElem? (i := 9) rfl)
theorem zc_yX8_offer : Cond.code yX8_offer cX8_offer 7 (some .int) ∈ wsL_law := zr_20 _ (List.mem_of_getElem? (i := 10) rfl)
theorem zl_X8_102 : Cond.constantLong RX8 102 (100000) ∈ wsL_law := zr_20 _ (List.mem_of_getElem? (i := 11) rfl)
theorem zl_X8_104 : Cond.constantLong RX8 104 (20) ∈ wsL_law := zr_20 _ (List.mem_of_getElem? (i := 12) rfl)
theorem zm_L_94 : Cond.methodLink RL 94 yX7_claim ∈ wsL_law := zr_20 _ (List.mem_of_getElem? (i := 13) rfl)
theorem zi_yX7_claim : Cond.instanceMethod yX7_claim ∈ wsL_law := zr_20 _ (List.mem_of_getElem? (i := 14) rfl)
theorem zs_yX7_claim : Cond.selects RX7 yX7_claim yX7_claim ∈ wsL_law := zr_20 _ (List.mem_of_getElem? (i := 15) rfl)
theorem zc_yX7_claim : Cond.code yX7_claim cX7_claim 4 (some .int) ∈ wsL_law := zr_20 _ (List.mem_of_getElem? (i := 16) rfl)
theorem zm_X7_160 : Cond.methodLink RX7 160 yX3_has ∈ wsL_law := zr_20 _ (List.mem_of_getElem? (i := 17) rfl)
theorem zi_yX3_has : Cond.instanceMethod yX3_has ∈ wsL_law := zr_20 _ (List.mem_of_getElem? (i := 18) rfl)
theorem zs_yX3_has : Cond.selects RX3 yX3_has yX3_has ∈ wsL_law := zr_20 _ (List.mem_of_getElem? (i := 19) rfl)
theorem zc_yX3_has : Cond.code yX3_has cX3_has 2 (some .boolean) ∈ wsL_law := zr_20 _ (List.mem_of_getElem? (i := 20) rfl)
theorem zm_X7_161 : Cond.methodLink RX7 161 yX4_canClaim ∈ wsL_law := zr_20 _ (List.mem_of_getElem? (i := 21) rfl)
theorem zi_yX4_canClaim : Cond.instanceMethod yX4_canClaim ∈ wsL_law := zr_20 _ (List.mem_of_getElem? (i := 22) rfl)
theorem zs_yX4_canClaim : Cond.selects RX4 yX4_canClaim yX4_canClaim ∈ wsL_law := zr_20 _ (List.mem_of_getElem? (i := 23) rfl)
theorem zc_yX4_canClaim : Cond.code yX4_canClaim cX4_canClaim 3 (some .boolean) ∈ wsL_law := zr_21 _ (List.mem_of_getElem? (i := 0) rfl)
theorem zf_X4_105 : Cond.fieldLink RX4 105 "DairyShares$Offers" "seller" "[I" ∈ wsL_law := zr_21 _ (List.mem_of_getElem? (i := 1) rfl)
theorem zf_X4_108 : Cond.fieldLink RX4 108 "DairyShares$Offers" "stage" "[I" ∈ wsL_law := zr_21 _ (List.mem_of_getElem? (i := 2) rfl)
theorem zm_X4_111 : Cond.methodLink RX4 111 yX4_isNeedy ∈ wsL_law := zr_21 _ (List.mem_of_getElem? (i := 3) rfl)
theorem zi_yX4_isNeedy : Cond.instanceMethod yX4_isNeedy ∈ wsL_law := zr_21 _ (List.mem_of_getElem? (i := 4) rfl)
theorem zs_yX4_isNeedy : Cond.selects RX4 yX4_isNeedy yX4_isNeedy ∈ wsL_law := zr_21 _ (List.mem_of_getElem? (i := 5) rfl)
theorem zc_yX4_isNeedy : Cond.code yX4_isNeedy cX4_isNeedy 2 (some .boolean) ∈ wsL_law := zr_21 _ (List.mem_of_getElem? (i := 6) rfl)
theorem zm_X7_165 : Cond.methodLink RX7 165 yX3_setClaim ∈ wsL_law := zr_21 _ (List.mem_of_getElem? (i := 7) rfl)
theorem zm_X7_168 : Cond.methodLink RX7 168 yX3_sumOfClaims ∈ wsL_law := zr_21 _ (List.mem_of_getElem? (i := 8) rfl)
theorem zi_yX3_sumOfClaims : Cond.instanceMethod yX3_sumOfClaims ∈ wsL_law := zr_21 _ (List.mem_of_getElem? (i := 9) rfl)
theorem zs_yX3_sumOfClaims : Cond.selects RX3 yX3_sumOfClaims yX3_sumOfClaims ∈ wsL_law := zr_21 _ (List.mem_of_getElem? (i := 10) rfl)
theorem zc_yX3_sumOfClaims : Cond.code yX3_sumOfClaims cX3_sumOfClaims 4 (some .int) ∈ wsL_law := zr_21 _ (List.mem_of_getElem? (i := 11) rfl)
theorem zm_X3_57 : Cond.methodLink RX3 57 yX3_claimBy ∈ wsL_law := zr_21 _ (List.mem_of_getElem? (i := 12) rfl)
theorem zi_yX3_claimBy : Cond.instanceMethod yX3_claimBy ∈ wsL_law := zr_21 _ (List.mem_of_getElem? (i := 13) rfl)
theorem zs_yX3_claimBy : Cond.selects RX3 yX3_claimBy yX3_claimBy ∈ wsL_law := zr_21 _ (List.mem_of_getElem? (i := 14) rfl)
theorem zc_yX3_claimBy : Cond.code yX3_claimBy cX3_claimBy 3 (some .int) ∈ wsL_law := zr_21 _ (List.mem_of_getElem? (i := 15) rfl)
theorem zm_L_98 : Cond.methodLink RL 98 yX8_claim ∈ wsL_law := zr_21 _ (List.mem_of_getElem? (i := 16) rfl)
theorem zi_yX8_claim : Cond.instanceMethod yX8_claim ∈ wsL_law := zr_21 _ (List.mem_of_getElem? (i := 17) rfl)
theorem zs_yX8_claim : Cond.selects RX8 yX8_claim yX8_claim ∈ wsL_law := zr_21 _ (List.mem_of_getElem? (i := 18) rfl)
theorem zc_yX8_claim : Cond.code yX8_claim cX8_claim 4 (some .int) ∈ wsL_law := zr_21 _ (List.mem_of_getElem? (i := 19) rfl)
theorem zm_X8_106 : Cond.methodLink RX8 106 yX8_isOffer ∈ wsL_law := zr_21 _ (List.mem_of_getElem? (i := 20) rfl)
theorem zi_yX8_isOffer : Cond.instanceMethod yX8_isOffer ∈ wsL_law := zr_21 _ (List.mem_of_getElem? (i := 21) rfl)
theorem zs_yX8_isOffer : Cond.selects RX8 yX8_isOffer yX8_isOffer ∈ wsL_law := zr_21 _ (List.mem_of_getElem? (i := 22) rfl)
theorem zc_yX8_isOffer : Cond.code yX8_isOffer cX8_isOffer 2 (some .boolean) ∈ wsL_law := zr_21 _ (List.mem_of_getElem? (i := 23) rfl)
theorem zm_X8_109 : Cond.methodLink RX8 109 yX8_canClaim ∈ wsL_law := zr_22 _ (List.mem_of_getElem? (i := 0) rfl)
theorem zi_yX8_canClaim : Cond.instanceMethod yX8_canClaim ∈ wsL_law := zr_22 _ (List.mem_of_getElem? (i := 1) rfl)
theorem zs_yX8_canClaim : Cond.selects RX8 yX8_canClaim yX8_canClaim ∈ wsL_law := zr_22 _ (List.mem_of_getElem? (i := 2) rfl)
theorem zc_yX8_canClaim : Cond.code yX8_canClaim cX8_canClaim 6 (some .boolean) ∈ wsL_law := zr_22 _ (List.mem_of_getElem? (i := 3) rfl)
theorem zm_X8_113 : Cond.methodLink RX8 113 yX8_claims ∈ wsL_law := zr_22 _ (List.mem_of_getElem? (i := 4) rfl)
theorem zi_yX8_claims : Cond.instanceMethod yX8_claims ∈ wsL_law := zr_22 _ (List.mem_of_getElem? (i := 5) rfl)
theorem zs_yX8_claims : Cond.selects RX8 yX8_claims yX8_claims ∈ wsL_law := zr_22 _ (List.mem_of_getElem? (i := 6) rfl)
theorem zc_yX8_claims : Cond.code yX8_claims cX8_claims 4 (some .int) ∈ wsL_law := zr_22 _ (List.mem_of_getElem? (i := 7) rfl)
theorem zm_L_99 : Cond.methodLink RL 99 yX7_withdraw ∈ wsL_law := zr_22 _ (List.mem_of_getElem? (i := 8) rfl)
theorem zi_yX7_withdraw : Cond.instanceMethod yX7_withdraw ∈ wsL_law := zr_22 _ (List.mem_of_getElem? (i := 9) rfl)
theorem zs_yX7_withdraw : Cond.selects RX7 yX7_withdraw yX7_withdraw ∈ wsL_law := zr_22 _ (List.mem_of_getElem? (i := 10) rfl)
theorem zc_yX7_withdraw : Cond.code yX7_withdraw cX7_withdraw 2 (some .int) ∈ wsL_law := zr_22 _ (List.mem_of_getElem? (i := 11) rfl)
theorem zf_X7_177 : Cond.fieldLink RX7 177 "DairyShares$Offers" "remaining" "[I" ∈ wsL_law := zr_22 _ (List.mem_of_getElem? (i := 12) rfl)
theorem zm_X7_171 : Cond.methodLink RX7 171 yX3_isOpen ∈ wsL_law := zr_22 _ (List.mem_of_getElem? (i := 13) rfl)
theorem zm_X7_174 : Cond.methodLink RX7 174 yX3_close ∈ wsL_law := zr_22 _ (List.mem_of_getElem? (i := 14) rfl)
theorem zi_yX3_close : Cond.instanceMethod yX3_close ∈ wsL_law := zr_22 _ (List.mem_of_getElem? (i := 15) rfl)
theorem zs_yX3_close : Cond.selects RX3 yX3_close yX3_close ∈ wsL_law := zr_22 _ (List.mem_of_getElem? (i := 16) rfl)
theorem zc_yX3_close : Cond.code yX3_close cX3_close 2 none ∈ wsL_law := zr_22 _ (List.mem_of_getElem? (i := 17) rfl)
theorem zm_X3_50 : Cond.methodLink RX3 50 yX3_beginStage ∈ wsL_law := zr_22 _ (List.mem_of_getElem? (i := 18) rfl)
theorem zm_L_102 : Cond.methodLink RL 102 yX8_withdraw ∈ wsL_law := zr_22 _ (List.mem_of_getElem? (i := 19) rfl)
theorem zi_yX8_withdraw : Cond.instanceMethod yX8_withdraw ∈ wsL_law := zr_22 _ (List.mem_of_getElem? (i := 20) rfl)
theorem zs_yX8_withdraw : Cond.selects RX8 yX8_withdraw yX8_withdraw ∈ wsL_law := zr_22 _ (List.mem_of_getElem? (i := 21) rfl)
theorem zc_yX8_withdraw : Cond.code yX8_withdraw cX8_withdraw 2 (some .int) ∈ wsL_law := zr_22 _ (List.mem_of_getElem? (i := 22) rfl)
theorem zm_X8_117 : Cond.methodLink RX8 117 yX8_begins ∈ wsL_law := zr_22 _ (List.mem_of_getElem? (i := 23) rfl)
theorem zi_yX8_begins : Cond.instanceMethod yX8_begins ∈ wsL_law := zr_23 _ (List.mem_of_getElem? (i := 0) rfl)
theorem zs_yX8_begins : Cond.selects RX8 yX8_begins yX8_begins ∈ wsL_law := zr_23 _ (List.mem_of_getElem? (i := 1) rfl)
theorem zc_yX8_begins : Cond.code yX8_begins cX8_begins 5 none ∈ wsL_law := zr_23 _ (List.mem_of_getElem? (i := 2) rfl)
theorem zm_L_103 : Cond.methodLink RL 103 yX7_passDays ∈ wsL_law := zr_23 _ (List.mem_of_getElem? (i := 3) rfl)
theorem zi_yX7_passDays : Cond.instanceMethod yX7_passDays ∈ wsL_law := zr_23 _ (List.mem_of_getElem? (i := 4) rfl)
theorem zs_yX7_passDays : Cond.selects RX7 yX7_passDays yX7_passDays ∈ wsL_law := zr_23 _ (List.mem_of_getElem? (i := 5) rfl)
theorem zc_yX7_passDays : Cond.code yX7_passDays cX7_passDays 4 (some .int) ∈ wsL_law := zr_23 _ (List.mem_of_getElem? (i := 6) rfl)
theorem zm_X7_180 : Cond.methodLink RX7 180 yX4_runDay ∈ wsL_law := zr_23 _ (List.mem_of_getElem? (i := 7) rfl)
theorem zi_yX4_runDay : Cond.instanceMethod yX4_runDay ∈ wsL_law := zr_23 _ (List.mem_of_getElem? (i := 8) rfl)
theorem zs_yX4_runDay : Cond.selects RX4 yX4_runDay yX4_runDay ∈ wsL_law := zr_23 _ (List.mem_of_getElem? (i := 9) rfl)
theorem zc_yX4_runDay : Cond.code yX4_runDay cX4_runDay 4 (some .int) ∈ wsL_law := zr_23 _ (List.mem_of_getElem? (i := 10) rfl)
theorem zf_X4_115 : Cond.fieldLink RX4 115 "DairyShares$Offers" "count" "I" ∈ wsL_law := zr_23 _ (List.mem_of_getElem? (i := 11) rfl)
theorem zm_X4_116 : Cond.methodLink RX4 116 yX3_isOpen ∈ wsL_law := zr_23 _ (List.mem_of_getElem? (i := 12) rfl)
theorem zm_X4_119 : Cond.methodLink RX4 119 yX3_losesLastDay ∈ wsL_law := zr_23 _ (List.mem_of_getElem? (i := 13) rfl)
theorem zi_yX3_losesLastDay : Cond.instanceMethod yX3_losesLastDay ∈ wsL_law := zr_23 _ (List.mem_of_getElem? (i := 14) rfl)
theorem zs_yX3_losesLastDay : Cond.selects RX3 yX3_losesLastDay yX3_losesLastDay ∈ wsL_law := zr_23 _ (List.mem_of_getElem? (i := 15) rfl)
theorem zc_yX3_losesLastDay : Cond.code yX3_losesLastDay cX3_losesLastDay 2 (some .boolean) ∈ wsL_law := zr_23 _ (List.mem_of_getElem? (i := 16) rfl)
theorem zm_X4_122 : Cond.methodLink RX4 122 yX4_endStage ∈ wsL_law := zr_23 _ (List.mem_of_getElem? (i := 17) rfl)
theorem zi_yX4_endStage : Cond.instanceMethod yX4_endStage ∈ wsL_law := zr_23 _ (List.mem_of_getElem? (i := 18) rfl)
theorem zs_yX4_endStage : Cond.selects RX4 yX4_endStage yX4_endStage ∈ wsL_law := zr_23 _ (List.mem_of_getElem? (i := 19) rfl)
theorem zc_yX4_endStage : Cond.code yX4_endStage cX4_endStage 4 none ∈ wsL_law := zr_23 _ (List.mem_of_getElem? (i := 20) rfl)
theorem zf_X4_137 : Cond.fieldLink RX4 137 "DairyShares$Offers" "remaining" "[I" ∈ wsL_law := zr_23 _ (List.mem_of_getElem? (i := 21) rfl)
theorem zf_X4_143 : Cond.fieldLink RX4 143 "DairyShares$Settings" "stageLength" "I" ∈ wsL_law := zr_23 _ (List.mem_of_getElem? (i := 22) rfl)
theorem zm_X4_126 : Cond.methodLink RX4 126 yX4_sellToTreasury ∈ wsL_law := zr_23 _ (List.mem_of_getElem? (i := 23) rfl)
theorem zi_yX4_sellToTreasury : Cond.instanceMethod yX4_sellToTreasury ∈ wsL_law := zr_24 _ (List.mem_of_getElem? (i := 0) rfl)
theorem zs_yX4_sellToTreasury : Cond.selects RX4 yX4_sellToTreasury yX4_sellToTreasury ∈ wsL_law := zr_24 _ (List.mem_of_getElem? (i := 1) rfl)
theorem zc_yX4_sellToTreasury : Cond.code yX4_sellToTreasury cX4_sellToTreasury 4 none ∈ wsL_law := zr_24 _ (List.mem_of_getElem? (i := 2) rfl)
theorem zf_X4_177 : Cond.fieldLink RX4 177 "DairyShares$Settings" "treasuryLimit" "I" ∈ wsL_law := zr_24 _ (List.mem_of_getElem? (i := 3) rfl)
theorem zm_X4_161 : Cond.methodLink RX4 161 Lib.Math.min.name ∈ wsL_law := zr_24 _ (List.mem_of_getElem? (i := 4) rfl)
theorem zf_X4_170 : Cond.fieldLink RX4 170 "DairyShares$Books" "price" "I" ∈ wsL_law := zr_24 _ (List.mem_of_getElem? (i := 5) rfl)
theorem zm_X4_180 : Cond.methodLink RX4 180 yX4_takeFromSeller ∈ wsL_law := zr_24 _ (List.mem_of_getElem? (i := 6) rfl)
theorem zi_yX4_takeFromSeller : Cond.instanceMethod yX4_takeFromSeller ∈ wsL_law := zr_24 _ (List.mem_of_getElem? (i := 7) rfl)
theorem zs_yX4_takeFromSeller : Cond.selects RX4 yX4_takeFromSeller yX4_takeFromSeller ∈ wsL_law := zr_24 _ (List.mem_of_getElem? (i := 8) rfl)
theorem zc_yX4_takeFromSeller : Cond.code yX4_takeFromSeller cX4_takeFromSeller 6 none ∈ wsL_law := zr_24 _ (List.mem_of_getElem? (i := 9) rfl)
theorem zf_X4_190 : Cond.fieldLink RX4 190 "DairyShares$Members" "account" "[J" ∈ wsL_law := zr_24 _ (List.mem_of_getElem? (i := 10) rfl)
theorem zm_X4_194 : Cond.methodLink RX4 194 yX3_recordSale ∈ wsL_law := zr_24 _ (List.mem_of_getElem? (i := 11) rfl)
theorem zi_yX3_recordSale : Cond.instanceMethod yX3_recordSale ∈ wsL_law := zr_24 _ (List.mem_of_getElem? (i := 12) rfl)
theorem zs_yX3_recordSale : Cond.selects RX3 yX3_recordSale yX3_recordSale ∈ wsL_law := zr_24 _ (List.mem_of_getElem? (i := 13) rfl)
theorem zc_yX3_recordSale : Cond.code yX3_recordSale cX3_recordSale 4 none ∈ wsL_law := zr_24 _ (List.mem_of_getElem? (i := 14) rfl)
theorem zm_X4_130 : Cond.methodLink RX4 130 yX4_sellToBuyer ∈ wsL_law := zr_24 _ (List.mem_of_getElem? (i := 15) rfl)
theorem zi_yX4_sellToBuyer : Cond.instanceMethod yX4_sellToBuyer ∈ wsL_law := zr_24 _ (List.mem_of_getElem? (i := 16) rfl)
theorem zs_yX4_sellToBuyer : Cond.selects RX4 yX4_sellToBuyer yX4_sellToBuyer ∈ wsL_law := zr_24 _ (List.mem_of_getElem? (i := 17) rfl)
theorem zc_yX4_sellToBuyer : Cond.code yX4_sellToBuyer cX4_sellToBuyer 4 none ∈ wsL_law := zr_24 _ (List.mem_of_getElem? (i := 18) rfl)
theorem zf_X4_184 : Cond.fieldLink RX4 184 "DairyShares$Offers" "buyer" "[I" ∈ wsL_law := zr_24 _ (List.mem_of_getElem? (i := 19) rfl)
theorem zf_X4_187 : Cond.fieldLink RX4 187 "DairyShares$Offers" "offered" "[I" ∈ wsL_law := zr_24 _ (List.mem_of_getElem? (i := 20) rfl)
theorem zm_X4_158 : Cond.methodLink RX4 158 yX4_roomOf ∈ wsL_law := zr_24 _ (List.mem_of_getElem? (i := 21) rfl)
theorem zm_X4_173 : Cond.methodLink RX4 173 yX4_sellToMember ∈ wsL_law := zr_24 _ (List.mem_of_getElem? (i := 22) rfl)
theorem zi_yX4_sellToMember : Cond.instanceMethod yX4_sellToMember ∈ wsL_law := zr_24 _ (List.mem_of_getElem? (i := 23) rfl)
theorem zs_yX4_sellToMember : Cond.selects RX4 yX4_sellToMember yX4_sellToMember ∈ wsL_law := zr_25 _ (List.mem_of_getElem? (i := 0) rfl)
theorem zc_yX4_sellToMember : Cond.code yX4_sellToMember cX4_sellToMember 6 none ∈ wsL_law := zr_25 _ (List.mem_of_getElem? (i := 1) rfl)
theorem zm_X4_133 : Cond.methodLink RX4 133 yX4_sellToClaimants ∈ wsL_law := zr_25 _ (List.mem_of_getElem? (i := 2) rfl)
theorem zi_yX4_sellToClaimants : Cond.instanceMethod yX4_sellToClaimants ∈ wsL_law := zr_25 _ (List.mem_of_getElem? (i := 3) rfl)
theorem zs_yX4_sellToClaimants : Cond.selects RX4 yX4_sellToClaimants yX4_sellToClaimants ∈ wsL_law := zr_25 _ (List.mem_of_getElem? (i := 4) rfl)
theorem zc_yX4_sellToClaimants : Cond.code yX4_sellToClaimants cX4_sellToClaimants 5 none ∈ wsL_law := zr_25 _ (List.mem_of_getElem? (i := 5) rfl)
theorem zf_X4_150 : Cond.fieldLink RX4 150 "DairyShares$Split" "demand" "[I" ∈ wsL_law := zr_25 _ (List.mem_of_getElem? (i := 6) rfl)
theorem zf_X4_167 : Cond.fieldLink RX4 167 "DairyShares$Split" "part" "[I" ∈ wsL_law := zr_25 _ (List.mem_of_getElem? (i := 7) rfl)
theorem zm_X4_155 : Cond.methodLink RX4 155 yX3_claimBy ∈ wsL_law := zr_25 _ (List.mem_of_getElem? (i := 8) rfl)
theorem zm_X4_164 : Cond.methodLink RX4 164 yX6_divide ∈ wsL_law := zr_25 _ (List.mem_of_getElem? (i := 9) rfl)
theorem zi_yX6_divide : Cond.instanceMethod yX6_divide ∈ wsL_law := zr_25 _ (List.mem_of_getElem? (i := 10) rfl)
theorem zs_yX6_divide : Cond.selects RX6 yX6_divide yX6_divide ∈ wsL_law := zr_25 _ (List.mem_of_getElem? (i := 11) rfl)
theorem zc_yX6_divide : Cond.code yX6_divide cX6_divide 6 none ∈ wsL_law := zr_25 _ (List.mem_of_getElem? (i := 12) rfl)
theorem zm_X6_25 : Cond.methodLink RX6 25 arraycopyName ∈ wsL_law := zr_25 _ (List.mem_of_getElem? (i := 13) rfl)
theorem zm_X6_21 : Cond.methodLink RX6 21 yX6_sumOfDemands ∈ wsL_law := zr_25 _ (List.mem_of_getElem? (i := 14) rfl)
theorem zi_yX6_sumOfDemands : Cond.instanceMethod yX6_sumOfDemands ∈ wsL_law := zr_25 _ (List.mem_of_getElem? (i := 15) rfl)
theorem zs_yX6_sumOfDemands : Cond.selects RX6 yX6_sumOfDemands yX6_sumOfDemands ∈ wsL_law := zr_25 _ (List.mem_of_getElem? (i := 16) rfl)
theorem zc_yX6_sumOfDemands : Cond.code yX6_sumOfDemands cX6_sumOfDemands 3 (some .int) ∈ wsL_law := zr_25 _ (List.mem_of_getElem? (i := 17) rfl)
theorem zm_X6_35 : Cond.methodLink RX6 35 yX6_handOut ∈ wsL_law := zr_25 _ (List.mem_of_getElem? (i := 18) rfl)
theorem zi_yX6_handOut : Cond.instanceMethod yX6_handOut ∈ wsL_law := zr_25 _ (List.mem_of_getElem? (i := 19) rfl)
theorem zs_yX6_handOut : Cond.selects RX6 yX6_handOut yX6_handOut ∈ wsL_law := zr_25 _ (List.mem_of_getElem? (i := 20) rfl)
theorem zc_yX6_handOut : Cond.code yX6_handOut cX6_handOut 4 none ∈ wsL_law := zr_25 _ (List.mem_of_getElem? (i := 21) rfl)
theorem zm_X6_39 : Cond.methodLink RX6 39 yX6_greatestRemainder ∈ wsL_law := zr_25 _ (List.mem_of_getElem? (i := 22) rfl)
theorem zi_yX6_greatestRemainder : Cond.instanceMethod yX6_greatestRemainder ∈ wsL_law := zr_25 _ (List.mem_of_getElem? (i := 23) rfl)
theorem zs_yX6_greatestRemainder : Cond.selects RX6 yX6_greatestRemainder yX6_greatestRemainder ∈ wsL_law := zr_26 _ (List.mem_of_getElem? (i := 0) rfl)
theorem zc_yX6_greatestRemainder : Cond.code yX6_greatestRemainder cX6_greatestRemainder 3 (some .int) ∈ wsL_law := zr_26 _ (List.mem_of_getElem? (i := 1) rfl)
theorem zm_X4_140 : Cond.methodLink RX4 140 yX3_close ∈ wsL_law := zr_26 _ (List.mem_of_getElem? (i := 2) rfl)
theorem zm_X4_146 : Cond.methodLink RX4 146 yX3_beginStage ∈ wsL_law := zr_26 _ (List.mem_of_getElem? (i := 3) rfl)
theorem zm_L_106 : Cond.methodLink RL 106 yX8_passDays ∈ wsL_law := zr_26 _ (List.mem_of_getElem? (i := 4) rfl)
theorem zi_yX8_passDays : Cond.instanceMethod yX8_passDays ∈ wsL_law := zr_26 _ (List.mem_of_getElem? (i := 5) rfl)
theorem zs_yX8_passDays : Cond.selects RX8 yX8_passDays yX8_passDays ∈ wsL_law := zr_26 _ (List.mem_of_getElem? (i := 6) rfl)
theorem zc_yX8_passDays : Cond.code yX8_passDays cX8_passDays 5 (some .int) ∈ wsL_law := zr_26 _ (List.mem_of_getElem? (i := 7) rfl)
theorem zl_X8_143 : Cond.constantLong RX8 143 (60) ∈ wsL_law := zr_26 _ (List.mem_of_getElem? (i := 8) rfl)
theorem zm_X8_145 : Cond.methodLink RX8 145 yX8_ends ∈ wsL_law := zr_26 _ (List.mem_of_getElem? (i := 9) rfl)
theorem zi_yX8_ends : Cond.instanceMethod yX8_ends ∈ wsL_law := zr_26 _ (List.mem_of_getElem? (i := 10) rfl)
theorem zs_yX8_ends : Cond.selects RX8 yX8_ends yX8_ends ∈ wsL_law := zr_26 _ (List.mem_of_getElem? (i := 11) rfl)
theorem zc_yX8_ends : Cond.code yX8_ends cX8_ends 5 (some .boolean) ∈ wsL_law := zr_26 _ (List.mem_of_getElem? (i := 12) rfl)
theorem zm_X8_136 : Cond.methodLink RX8 136 yX8_claimed ∈ wsL_law := zr_26 _ (List.mem_of_getElem? (i := 13) rfl)
theorem zi_yX8_claimed : Cond.instanceMethod yX8_claimed ∈ wsL_law := zr_26 _ (List.mem_of_getElem? (i := 14) rfl)
theorem zs_yX8_claimed : Cond.selects RX8 yX8_claimed yX8_claimed ∈ wsL_law := zr_26 _ (List.mem_of_getElem? (i := 15) rfl)
theorem zc_yX8_claimed : Cond.code yX8_claimed cX8_claimed 4 none ∈ wsL_law := zr_26 _ (List.mem_of_getElem? (i := 16) rfl)
theorem zm_X8_125 : Cond.methodLink RX8 125 yX8_least ∈ wsL_law := zr_26 _ (List.mem_of_getElem? (i := 17) rfl)
theorem zt_yX8_least : Cond.static yX8_least ∈ wsL_law := zr_26 _ (List.mem_of_getElem? (i := 18) rfl)
theorem zc_yX8_least : Cond.code yX8_least cX8_least 4 (some .long) ∈ wsL_law := zr_26 _ (List.mem_of_getElem? (i := 19) rfl)
theorem zm_X8_128 : Cond.methodLink RX8 128 yX8_parts ∈ wsL_law := zr_26 _ (List.mem_of_getElem? (i := 20) rfl)
theorem zi_yX8_parts : Cond.instanceMethod yX8_parts ∈ wsL_law := zr_26 _ (List.mem_of_getElem? (i := 21) rfl)
theorem zs_yX8_parts : Cond.selects RX8 yX8_parts yX8_parts ∈ wsL_law := zr_26 _ (List.mem_of_getElem? (i := 22) rfl)
theorem zc_yX8_parts : Cond.code yX8_parts cX8_parts 9 none ∈ wsL_law := zr_26 _ (List.mem_of_getElem? (i := 23) rfl)
theorem zm_X8_121 : Cond.methodLink RX8 121 yX8_greatest ∈ wsL_law := zr_27 _ (List.mem_of_getElem? (i := 0) rfl)
theorem zi_yX8_greatest : Cond.instanceMethod yX8_greatest ∈ wsL_law := zr_27 _ (List.mem_of_getElem? (i := 1) rfl)
theorem zs_yX8_greatest : Cond.selects RX8 yX8_greatest yX8_greatest ∈ wsL_law := zr_27 _ (List.mem_of_getElem? (i := 2) rfl)
theorem zc_yX8_greatest : Cond.code yX8_greatest cX8_greatest 3 (some .int) ∈ wsL_law := zr_27 _ (List.mem_of_getElem? (i := 3) rfl)
theorem zm_X8_132 : Cond.methodLink RX8 132 yX8_sells ∈ wsL_law := zr_27 _ (List.mem_of_getElem? (i := 4) rfl)
theorem zi_yX8_sells : Cond.instanceMethod yX8_sells ∈ wsL_law := zr_27 _ (List.mem_of_getElem? (i := 5) rfl)
theorem zs_yX8_sells : Cond.selects RX8 yX8_sells yX8_sells ∈ wsL_law := zr_27 _ (List.mem_of_getElem? (i := 6) rfl)
theorem zc_yX8_sells : Cond.code yX8_sells cX8_sells 9 none ∈ wsL_law := zr_27 _ (List.mem_of_getElem? (i := 7) rfl)
theorem zm_X8_140 : Cond.methodLink RX8 140 yX8_bought ∈ wsL_law := zr_27 _ (List.mem_of_getElem? (i := 8) rfl)
theorem zi_yX8_bought : Cond.instanceMethod yX8_bought ∈ wsL_law := zr_27 _ (List.mem_of_getElem? (i := 9) rfl)
theorem zs_yX8_bought : Cond.selects RX8 yX8_bought yX8_bought ∈ wsL_law := zr_27 _ (List.mem_of_getElem? (i := 10) rfl)
theorem zc_yX8_bought : Cond.code yX8_bought cX8_bought 5 none ∈ wsL_law := zr_27 _ (List.mem_of_getElem? (i := 11) rfl)
theorem zm_L_107 : Cond.methodLink RL 107 yX7_offerCount ∈ wsL_law := zr_27 _ (List.mem_of_getElem? (i := 12) rfl)
theorem zi_yX7_offerCount : Cond.instanceMethod yX7_offerCount ∈ wsL_law := zr_27 _ (List.mem_of_getElem? (i := 13) rfl)
theorem zs_yX7_offerCount : Cond.selects RX7 yX7_offerCount yX7_offerCount ∈ wsL_law := zr_27 _ (List.mem_of_getElem? (i := 14) rfl)
theorem zc_yX7_offerCount : Cond.code yX7_offerCount cX7_offerCount 1 (some .int) ∈ wsL_law := zr_27 _ (List.mem_of_getElem? (i := 15) rfl)
theorem zm_L_110 : Cond.methodLink RL 110 yX8_offerCount ∈ wsL_law := zr_27 _ (List.mem_of_getElem? (i := 16) rfl)
theorem zi_yX8_offerCount : Cond.instanceMethod yX8_offerCount ∈ wsL_law := zr_27 _ (List.mem_of_getElem? (i := 17) rfl)
theorem zs_yX8_offerCount : Cond.selects RX8 yX8_offerCount yX8_offerCount ∈ wsL_law := zr_27 _ (List.mem_of_getElem? (i := 18) rfl)
theorem zc_yX8_offerCount : Cond.code yX8_offerCount cX8_offerCount 1 (some .int) ∈ wsL_law := zr_27 _ (List.mem_of_getElem? (i := 19) rfl)
theorem zm_L_111 : Cond.methodLink RL 111 yX7_stage ∈ wsL_law := zr_27 _ (List.mem_of_getElem? (i := 20) rfl)
theorem zi_yX7_stage : Cond.instanceMethod yX7_stage ∈ wsL_law := zr_27 _ (List.mem_of_getElem? (i := 21) rfl)
theorem zs_yX7_stage : Cond.selects RX7 yX7_stage yX7_stage ∈ wsL_law := zr_27 _ (List.mem_of_getElem? (i := 22) rfl)
theorem zc_yX7_stage : Cond.code yX7_stage cX7_stage 2 (some .int) ∈ wsL_law := zr_27 _ (List.mem_of_getElem? (i := 23) rfl)
theorem zf_X7_184 : Cond.fieldLink RX7 184 "DairyShares$Offers" "stage" "[I" ∈ wsL_law := zr_28 _ (List.mem_of_getElem? (i := 0) rfl)
theorem zm_L_114 : Cond.methodLink RL 114 yX8_stage ∈ wsL_law := zr_28 _ (List.mem_of_getElem? (i := 1) rfl)
theorem zi_yX8_stage : Cond.instanceMethod yX8_stage ∈ wsL_law := zr_28 _ (List.mem_of_getElem? (i := 2) rfl)
theorem zs_yX8_stage : Cond.selects RX8 yX8_stage yX8_stage ∈ wsL_law := zr_28 _ (List.mem_of_getElem? (i := 3) rfl)
theorem zc_yX8_stage : Cond.code yX8_stage cX8_stage 2 (some .int) ∈ wsL_law := zr_28 _ (List.mem_of_getElem? (i := 4) rfl)
theorem zm_L_115 : Cond.methodLink RL 115 yX7_remaining ∈ wsL_law := zr_28 _ (List.mem_of_getElem? (i := 5) rfl)
theorem zi_yX7_remaining : Cond.instanceMethod yX7_remaining ∈ wsL_law := zr_28 _ (List.mem_of_getElem? (i := 6) rfl)
theorem zs_yX7_remaining : Cond.selects RX7 yX7_remaining yX7_remaining ∈ wsL_law := zr_28 _ (List.mem_of_getElem? (i := 7) rfl)
theorem zc_yX7_remaining : Cond.code yX7_remaining cX7_remaining 2 (some .int) ∈ wsL_law := zr_28 _ (List.mem_of_getElem? (i := 8) rfl)
theorem zm_L_118 : Cond.methodLink RL 118 yX8_remaining ∈ wsL_law := zr_28 _ (List.mem_of_getElem? (i := 9) rfl)
theorem zi_yX8_remaining : Cond.instanceMethod yX8_remaining ∈ wsL_law := zr_28 _ (List.mem_of_getElem? (i := 10) rfl)
theorem zs_yX8_remaining : Cond.selects RX8 yX8_remaining yX8_remaining ∈ wsL_law := zr_28 _ (List.mem_of_getElem? (i := 11) rfl)
theorem zc_yX8_remaining : Cond.code yX8_remaining cX8_remaining 2 (some .int) ∈ wsL_law := zr_28 _ (List.mem_of_getElem? (i := 12) rfl)
theorem zm_L_119 : Cond.methodLink RL 119 yX7_daysLeft ∈ wsL_law := zr_28 _ (List.mem_of_getElem? (i := 13) rfl)
theorem zi_yX7_daysLeft : Cond.instanceMethod yX7_daysLeft ∈ wsL_law := zr_28 _ (List.mem_of_getElem? (i := 14) rfl)
theorem zs_yX7_daysLeft : Cond.selects RX7 yX7_daysLeft yX7_daysLeft ∈ wsL_law := zr_28 _ (List.mem_of_getElem? (i := 15) rfl)
theorem zc_yX7_daysLeft : Cond.code yX7_daysLeft cX7_daysLeft 2 (some .int) ∈ wsL_law := zr_28 _ (List.mem_of_getElem? (i := 16) rfl)
theorem zf_X7_187 : Cond.fieldLink RX7 187 "DairyShares$Offers" "daysLeft" "[I" ∈ wsL_law := zr_28 _ (List.mem_of_getElem? (i := 17) rfl)
theorem zk_X7_190 : Cond.constant RX7 190 (-2000000004) ∈ wsL_law := zr_28 _ (List.mem_of_getElem? (i := 18) rfl)
theorem zm_L_122 : Cond.methodLink RL 122 yX8_daysLeft ∈ wsL_law := zr_28 _ (List.mem_of_getElem? (i := 19) rfl)
theorem zi_yX8_daysLeft : Cond.instanceMethod yX8_daysLeft ∈ wsL_law := zr_28 _ (List.mem_of_getElem? (i := 20) rfl)
theorem zs_yX8_daysLeft : Cond.selects RX8 yX8_daysLeft yX8_daysLeft ∈ wsL_law := zr_28 _ (List.mem_of_getElem? (i := 21) rfl)
theorem zc_yX8_daysLeft : Cond.code yX8_daysLeft cX8_daysLeft 2 (some .int) ∈ wsL_law := zr_28 _ (List.mem_of_getElem? (i := 22) rfl)
theorem zk_X8_148 : Cond.constant RX8 148 (-2000000004) ∈ wsL_law := zr_28 _ (List.mem_of_getElem? (i := 23) rfl)
theorem zm_L_123 : Cond.methodLink RL 123 yX7_sold ∈ wsL_law := zr_29 _ (List.mem_of_getElem? (i := 0) rfl)
theorem zi_yX7_sold : Cond.instanceMethod yX7_sold ∈ wsL_law := zr_29 _ (List.mem_of_getElem? (i := 1) rfl)
theorem zs_yX7_sold : Cond.selects RX7 yX7_sold yX7_sold ∈ wsL_law := zr_29 _ (List.mem_of_getElem? (i := 2) rfl)
theorem zc_yX7_sold : Cond.code yX7_sold cX7_sold 3 (some .int) ∈ wsL_law := zr_29 _ (List.mem_of_getElem? (i := 3) rfl)
theorem zm_X7_191 : Cond.methodLink RX7 191 yX3_soldTo ∈ wsL_law := zr_29 _ (List.mem_of_getElem? (i := 4) rfl)
theorem zi_yX3_soldTo : Cond.instanceMethod yX3_soldTo ∈ wsL_law := zr_29 _ (List.mem_of_getElem? (i := 5) rfl)
theorem zs_yX3_soldTo : Cond.selects RX3 yX3_soldTo yX3_soldTo ∈ wsL_law := zr_29 _ (List.mem_of_getElem? (i := 6) rfl)
theorem zc_yX3_soldTo : Cond.code yX3_soldTo cX3_soldTo 3 (some .int) ∈ wsL_law := zr_29 _ (List.mem_of_getElem? (i := 7) rfl)
theorem zm_L_126 : Cond.methodLink RL 126 yX8_sold ∈ wsL_law := zr_29 _ (List.mem_of_getElem? (i := 8) rfl)
theorem zi_yX8_sold : Cond.instanceMethod yX8_sold ∈ wsL_law := zr_29 _ (List.mem_of_getElem? (i := 9) rfl)
theorem zs_yX8_sold : Cond.selects RX8 yX8_sold yX8_sold ∈ wsL_law := zr_29 _ (List.mem_of_getElem? (i := 10) rfl)
theorem zc_yX8_sold : Cond.code yX8_sold cX8_sold 3 (some .int) ∈ wsL_law := zr_29 _ (List.mem_of_getElem? (i := 11) rfl)
theorem zm_L_127 : Cond.methodLink RL 127 yX7_claimOf ∈ wsL_law := zr_29 _ (List.mem_of_getElem? (i := 12) rfl)
theorem zi_yX7_claimOf : Cond.instanceMethod yX7_claimOf ∈ wsL_law := zr_29 _ (List.mem_of_getElem? (i := 13) rfl)
theorem zs_yX7_claimOf : Cond.selects RX7 yX7_claimOf yX7_claimOf ∈ wsL_law := zr_29 _ (List.mem_of_getElem? (i := 14) rfl)
theorem zc_yX7_claimOf : Cond.code yX7_claimOf cX7_claimOf 3 (some .int) ∈ wsL_law := zr_29 _ (List.mem_of_getElem? (i := 15) rfl)
theorem zm_X7_194 : Cond.methodLink RX7 194 yX3_claimBy ∈ wsL_law := zr_29 _ (List.mem_of_getElem? (i := 16) rfl)
theorem zm_L_130 : Cond.methodLink RL 130 yX8_claimOf ∈ wsL_law := zr_29 _ (List.mem_of_getElem? (i := 17) rfl)
theorem zi_yX8_claimOf : Cond.instanceMethod yX8_claimOf ∈ wsL_law := zr_29 _ (List.mem_of_getElem? (i := 18) rfl)
theorem zs_yX8_claimOf : Cond.selects RX8 yX8_claimOf yX8_claimOf ∈ wsL_law := zr_29 _ (List.mem_of_getElem? (i := 19) rfl)
theorem zc_yX8_claimOf : Cond.code yX8_claimOf cX8_claimOf 3 (some .int) ∈ wsL_law := zr_29 _ (List.mem_of_getElem? (i := 20) rfl)
theorem zm_L_131 : Cond.methodLink RL 131 yX7_setVoting ∈ wsL_law := zr_29 _ (List.mem_of_getElem? (i := 21) rfl)
theorem zi_yX7_setVoting : Cond.instanceMethod yX7_setVoting ∈ wsL_law := zr_29 _ (List.mem_of_getElem? (i := 22) rfl)
theorem zs_yX7_setVoting : Cond.selects RX7 yX7_setVoting yX7_setVoting ∈ wsL_law := zr_29 _ (List.mem_of_getElem? (i := 23) rfl)
theorem zc_yX7_setVoting : Cond.code yX7_setVoting cX7_setVoting 4 (some .int) ∈ wsL_law := zr_30 _ (List.mem_of_getElem? (i := 0) rfl)
theorem zf_X7_197 : Cond.fieldLink RX7 197 "DairyShares$Settings" "votingRule" "I" ∈ wsL_law := zr_30 _ (List.mem_of_getElem? (i := 1) rfl)
theorem zf_X7_200 : Cond.fieldLink RX7 200 "DairyShares$Settings" "quorum" "I" ∈ wsL_law := zr_30 _ (List.mem_of_getElem? (i := 2) rfl)
theorem zm_L_134 : Cond.methodLink RL 134 yX8_setVoting ∈ wsL_law := zr_30 _ (List.mem_of_getElem? (i := 3) rfl)
theorem zi_yX8_setVoting : Cond.instanceMethod yX8_setVoting ∈ wsL_law := zr_30 _ (List.mem_of_getElem? (i := 4) rfl)
theorem zs_yX8_setVoting : Cond.selects RX8 yX8_setVoting yX8_setVoting ∈ wsL_law := zr_30 _ (List.mem_of_getElem? (i := 5) rfl)
theorem zc_yX8_setVoting : Cond.code yX8_setVoting cX8_setVoting 4 (some .int) ∈ wsL_law := zr_30 _ (List.mem_of_getElem? (i := 6) rfl)
theorem zm_L_135 : Cond.methodLink RL 135 yX7_propose ∈ wsL_law := zr_30 _ (List.mem_of_getElem? (i := 7) rfl)
theorem zi_yX7_propose : Cond.instanceMethod yX7_propose ∈ wsL_law := zr_30 _ (List.mem_of_getElem? (i := 8) rfl)
theorem zs_yX7_propose : Cond.selects RX7 yX7_propose yX7_propose ∈ wsL_law := zr_30 _ (List.mem_of_getElem? (i := 9) rfl)
theorem zc_yX7_propose : Cond.code yX7_propose cX7_propose 3 (some .int) ∈ wsL_law := zr_30 _ (List.mem_of_getElem? (i := 10) rfl)
theorem zf_X7_206 : Cond.fieldLink RX7 206 "DairyShares$Register" "motions" "LDairyShares$Motions;" ∈ wsL_law := zr_30 _ (List.mem_of_getElem? (i := 11) rfl)
theorem zf_X7_210 : Cond.fieldLink RX7 210 "DairyShares$Motions" "count" "I" ∈ wsL_law := zr_30 _ (List.mem_of_getElem? (i := 12) rfl)
theorem zm_X7_203 : Cond.methodLink RX7 203 yX7_isValueOfKind ∈ wsL_law := zr_30 _ (List.mem_of_getElem? (i := 13) rfl)
theorem zt_yX7_isValueOfKind : Cond.static yX7_isValueOfKind ∈ wsL_law := zr_30 _ (List.mem_of_getElem? (i := 14) rfl)
theorem zc_yX7_isValueOfKind : Cond.code yX7_isValueOfKind cX7_isValueOfKind 2 (some .boolean) ∈ wsL_law := zr_30 _ (List.mem_of_getElem? (i := 15) rfl)
theorem zm_X7_213 : Cond.methodLink RX7 213 yX2_add ∈ wsL_law := zr_30 _ (List.mem_of_getElem? (i := 16) rfl)
theorem zi_yX2_add : Cond.instanceMethod yX2_add ∈ wsL_law := zr_30 _ (List.mem_of_getElem? (i := 17) rfl)
theorem zs_yX2_add : Cond.selects RX2 yX2_add yX2_add ∈ wsL_law := zr_30 _ (List.mem_of_getElem? (i := 18) rfl)
theorem zc_yX2_add : Cond.code yX2_add cX2_add 4 (some .int) ∈ wsL_law := zr_30 _ (List.mem_of_getElem? (i := 19) rfl)
theorem zm_L_138 : Cond.methodLink RL 138 yX8_propose ∈ wsL_law := zr_30 _ (List.mem_of_getElem? (i := 20) rfl)
theorem zi_yX8_propose : Cond.instanceMethod yX8_propose ∈ wsL_law := zr_30 _ (List.mem_of_getElem? (i := 21) rfl)
theorem zs_yX8_propose : Cond.selects RX8 yX8_propose yX8_propose ∈ wsL_law := zr_30 _ (List.mem_of_getElem? (i := 22) rfl)
theorem zc_yX8_propose : Cond.code yX8_propose cX8_propose 5 (some .int) ∈ wsL_law := zr_30 _ (List.mem_of_getElem? (i := 23) rfl)
theorem zm_X8_149 : Cond.methodLink RX8 149 yX8_isMotionOf ∈ wsL_law := zr_31 _ (List.mem_of_getElem? (i := 0) rfl)
theorem zt_yX8_isMotionOf : Cond.static yX8_isMotionOf ∈ wsL_law := zr_31 _ (List.mem_of_getElem? (i := 1) rfl)
theorem zc_yX8_isMotionOf : Cond.code yX8_isMotionOf cX8_isMotionOf 2 (some .boolean) ∈ wsL_law := zr_31 _ (List.mem_of_getElem? (i := 2) rfl)
theorem zm_X8_152 : Cond.methodLink RX8 152 yX8_q ∈ wsL_law := zr_31 _ (List.mem_of_getElem? (i := 3) rfl)
theorem zt_yX8_q : Cond.static yX8_q ∈ wsL_law := zr_31 _ (List.mem_of_getElem? (i := 4) rfl)
theorem zc_yX8_q : Cond.code yX8_q cX8_q 2 (some .int) ∈ wsL_law := zr_31 _ (List.mem_of_getElem? (i := 5) rfl)
theorem zm_L_139 : Cond.methodLink RL 139 yX7_vote ∈ wsL_law := zr_31 _ (List.mem_of_getElem? (i := 6) rfl)
theorem zi_yX7_vote : Cond.instanceMethod yX7_vote ∈ wsL_law := zr_31 _ (List.mem_of_getElem? (i := 7) rfl)
theorem zs_yX7_vote : Cond.selects RX7 yX7_vote yX7_vote ∈ wsL_law := zr_31 _ (List.mem_of_getElem? (i := 8) rfl)
theorem zc_yX7_vote : Cond.code yX7_vote cX7_vote 4 (some .int) ∈ wsL_law := zr_31 _ (List.mem_of_getElem? (i := 9) rfl)
theorem zm_X7_215 : Cond.methodLink RX7 215 yX2_has ∈ wsL_law := zr_31 _ (List.mem_of_getElem? (i := 10) rfl)
theorem zi_yX2_has : Cond.instanceMethod yX2_has ∈ wsL_law := zr_31 _ (List.mem_of_getElem? (i := 11) rfl)
theorem zs_yX2_has : Cond.selects RX2 yX2_has yX2_has ∈ wsL_law := zr_31 _ (List.mem_of_getElem? (i := 12) rfl)
theorem zc_yX2_has : Cond.code yX2_has cX2_has 2 (some .boolean) ∈ wsL_law := zr_31 _ (List.mem_of_getElem? (i := 13) rfl)
theorem zm_X7_216 : Cond.methodLink RX7 216 yX2_isOpen ∈ wsL_law := zr_31 _ (List.mem_of_getElem? (i := 14) rfl)
theorem zi_yX2_isOpen : Cond.instanceMethod yX2_isOpen ∈ wsL_law := zr_31 _ (List.mem_of_getElem? (i := 15) rfl)
theorem zs_yX2_isOpen : Cond.selects RX2 yX2_isOpen yX2_isOpen ∈ wsL_law := zr_31 _ (List.mem_of_getElem? (i := 16) rfl)
theorem zc_yX2_isOpen : Cond.code yX2_isOpen cX2_isOpen 2 (some .boolean) ∈ wsL_law := zr_31 _ (List.mem_of_getElem? (i := 17) rfl)
theorem zm_X7_217 : Cond.methodLink RX7 217 yX2_setBallot ∈ wsL_law := zr_31 _ (List.mem_of_getElem? (i := 18) rfl)
theorem zi_yX2_setBallot : Cond.instanceMethod yX2_setBallot ∈ wsL_law := zr_31 _ (List.mem_of_getElem? (i := 19) rfl)
theorem zs_yX2_setBallot : Cond.selects RX2 yX2_setBallot yX2_setBallot ∈ wsL_law := zr_31 _ (List.mem_of_getElem? (i := 20) rfl)
theorem zc_yX2_setBallot : Cond.code yX2_setBallot cX2_setBallot 4 none ∈ wsL_law := zr_31 _ (List.mem_of_getElem? (i := 21) rfl)
theorem zm_X7_220 : Cond.methodLink RX7 220 yX2_countBallots ∈ wsL_law := zr_31 _ (List.mem_of_getElem? (i := 22) rfl)
theorem zi_yX2_countBallots : Cond.instanceMethod yX2_countBallots ∈ wsL_law := zr_31 _ (List.mem_of_getElem? (i := 23) rfl)
theorem zs_yX2_countBallots : Cond.selects RX2 yX2_countBallots yX2_countBallots ∈ wsL_law := zr_32 _ (List.mem_of_getElem? (i := 0) rfl)
theorem zc_yX2_countBallots : Cond.code yX2_countBallots cX2_countBallots 4 (some .int) ∈ wsL_law := zr_32 _ (List.mem_of_getElem? (i := 1) rfl)
theorem zm_X2_34 : Cond.methodLink RX2 34 yX2_ballotOf ∈ wsL_law := zr_32 _ (List.mem_of_getElem? (i := 2) rfl)
theorem zi_yX2_ballotOf : Cond.instanceMethod yX2_ballotOf ∈ wsL_law := zr_32 _ (List.mem_of_getElem? (i := 3) rfl)
theorem zs_yX2_ballotOf : Cond.selects RX2 yX2_ballotOf yX2_ballotOf ∈ wsL_law := zr_32 _ (List.mem_of_getElem? (i := 4) rfl)
theorem zc_yX2_ballotOf : Cond.code yX2_ballotOf cX2_ballotOf 3 (some .int) ∈ wsL_law := zr_32 _ (List.mem_of_getElem? (i := 5) rfl)
theorem zm_L_142 : Cond.methodLink RL 142 yX8_vote ∈ wsL_law := zr_32 _ (List.mem_of_getElem? (i := 6) rfl)
theorem zi_yX8_vote : Cond.instanceMethod yX8_vote ∈ wsL_law := zr_32 _ (List.mem_of_getElem? (i := 7) rfl)
theorem zs_yX8_vote : Cond.selects RX8 yX8_vote yX8_vote ∈ wsL_law := zr_32 _ (List.mem_of_getElem? (i := 8) rfl)
theorem zc_yX8_vote : Cond.code yX8_vote cX8_vote 4 (some .int) ∈ wsL_law := zr_32 _ (List.mem_of_getElem? (i := 9) rfl)
theorem zm_X8_155 : Cond.methodLink RX8 155 yX8_isMotion ∈ wsL_law := zr_32 _ (List.mem_of_getElem? (i := 10) rfl)
theorem zi_yX8_isMotion : Cond.instanceMethod yX8_isMotion ∈ wsL_law := zr_32 _ (List.mem_of_getElem? (i := 11) rfl)
theorem zs_yX8_isMotion : Cond.selects RX8 yX8_isMotion yX8_isMotion ∈ wsL_law := zr_32 _ (List.mem_of_getElem? (i := 12) rfl)
theorem zc_yX8_isMotion : Cond.code yX8_isMotion cX8_isMotion 2 (some .boolean) ∈ wsL_law := zr_32 _ (List.mem_of_getElem? (i := 13) rfl)
theorem zm_X8_158 : Cond.methodLink RX8 158 yX8_voters ∈ wsL_law := zr_32 _ (List.mem_of_getElem? (i := 14) rfl)
theorem zi_yX8_voters : Cond.instanceMethod yX8_voters ∈ wsL_law := zr_32 _ (List.mem_of_getElem? (i := 15) rfl)
theorem zs_yX8_voters : Cond.selects RX8 yX8_voters yX8_voters ∈ wsL_law := zr_32 _ (List.mem_of_getElem? (i := 16) rfl)
theorem zc_yX8_voters : Cond.code yX8_voters cX8_voters 4 (some .int) ∈ wsL_law := zr_32 _ (List.mem_of_getElem? (i := 17) rfl)
theorem zm_L_143 : Cond.methodLink RL 143 yX7_closeMotion ∈ wsL_law := zr_32 _ (List.mem_of_getElem? (i := 18) rfl)
theorem zi_yX7_closeMotion : Cond.instanceMethod yX7_closeMotion ∈ wsL_law := zr_32 _ (List.mem_of_getElem? (i := 19) rfl)
theorem zs_yX7_closeMotion : Cond.selects RX7 yX7_closeMotion yX7_closeMotion ∈ wsL_law := zr_32 _ (List.mem_of_getElem? (i := 20) rfl)
theorem zc_yX7_closeMotion : Cond.code yX7_closeMotion cX7_closeMotion 3 (some .int) ∈ wsL_law := zr_32 _ (List.mem_of_getElem? (i := 21) rfl)
theorem zf_X7_226 : Cond.fieldLink RX7 226 "DairyShares$Motions" "state" "[I" ∈ wsL_law := zr_32 _ (List.mem_of_getElem? (i := 22) rfl)
theorem zf_X7_229 : Cond.fieldLink RX7 229 "DairyShares$Motions" "kind" "[I" ∈ wsL_law := zr_32 _ (List.mem_of_getElem? (i := 23) rfl)
theorem zf_X7_232 : Cond.fieldLink RX7 232 "DairyShares$Motions" "value" "[I" ∈ wsL_law := zr_33 _ (List.mem_of_getElem? (i := 0) rfl)
theorem zm_X7_223 : Cond.methodLink RX7 223 yX4_passes ∈ wsL_law := zr_33 _ (List.mem_of_getElem? (i := 1) rfl)
theorem zi_yX4_passes : Cond.instanceMethod yX4_passes ∈ wsL_law := zr_33 _ (List.mem_of_getElem? (i := 2) rfl)
theorem zs_yX4_passes : Cond.selects RX4 yX4_passes yX4_passes ∈ wsL_law := zr_33 _ (List.mem_of_getElem? (i := 3) rfl)
theorem zc_yX4_passes : Cond.code yX4_passes cX4_passes 6 (some .boolean) ∈ wsL_law := zr_33 _ (List.mem_of_getElem? (i := 4) rfl)
theorem zf_X4_212 : Cond.fieldLink RX4 212 "DairyShares$Settings" "quorum" "I" ∈ wsL_law := zr_33 _ (List.mem_of_getElem? (i := 5) rfl)
theorem zm_X4_209 : Cond.methodLink RX4 209 yX4_sumOfVotes ∈ wsL_law := zr_33 _ (List.mem_of_getElem? (i := 6) rfl)
theorem zi_yX4_sumOfVotes : Cond.instanceMethod yX4_sumOfVotes ∈ wsL_law := zr_33 _ (List.mem_of_getElem? (i := 7) rfl)
theorem zs_yX4_sumOfVotes : Cond.selects RX4 yX4_sumOfVotes yX4_sumOfVotes ∈ wsL_law := zr_33 _ (List.mem_of_getElem? (i := 8) rfl)
theorem zc_yX4_sumOfVotes : Cond.code yX4_sumOfVotes cX4_sumOfVotes 5 (some .int) ∈ wsL_law := zr_33 _ (List.mem_of_getElem? (i := 9) rfl)
theorem zm_X4_203 : Cond.methodLink RX4 203 yX2_ballotOf ∈ wsL_law := zr_33 _ (List.mem_of_getElem? (i := 10) rfl)
theorem zm_X4_206 : Cond.methodLink RX4 206 yX4_votesOf ∈ wsL_law := zr_33 _ (List.mem_of_getElem? (i := 11) rfl)
theorem zi_yX4_votesOf : Cond.instanceMethod yX4_votesOf ∈ wsL_law := zr_33 _ (List.mem_of_getElem? (i := 12) rfl)
theorem zs_yX4_votesOf : Cond.selects RX4 yX4_votesOf yX4_votesOf ∈ wsL_law := zr_33 _ (List.mem_of_getElem? (i := 13) rfl)
theorem zc_yX4_votesOf : Cond.code yX4_votesOf cX4_votesOf 3 (some .int) ∈ wsL_law := zr_33 _ (List.mem_of_getElem? (i := 14) rfl)
theorem zf_X4_197 : Cond.fieldLink RX4 197 "DairyShares$Settings" "votingRule" "I" ∈ wsL_law := zr_33 _ (List.mem_of_getElem? (i := 15) rfl)
theorem zt_yX7_rootOf : Cond.static yX7_rootOf ∈ wsL_law := zr_33 _ (List.mem_of_getElem? (i := 16) rfl)
theorem zc_yX7_rootOf : Cond.code yX7_rootOf cX7_rootOf 2 (some .int) ∈ wsL_law := zr_33 _ (List.mem_of_getElem? (i := 17) rfl)
theorem zm_X7_235 : Cond.methodLink RX7 235 yX4_carryOut ∈ wsL_law := zr_33 _ (List.mem_of_getElem? (i := 18) rfl)
theorem zi_yX4_carryOut : Cond.instanceMethod yX4_carryOut ∈ wsL_law := zr_33 _ (List.mem_of_getElem? (i := 19) rfl)
theorem zs_yX4_carryOut : Cond.selects RX4 yX4_carryOut yX4_carryOut ∈ wsL_law := zr_33 _ (List.mem_of_getElem? (i := 20) rfl)
theorem zc_yX4_carryOut : Cond.code yX4_carryOut cX4_carryOut 3 none ∈ wsL_law := zr_33 _ (List.mem_of_getElem? (i := 21) rfl)
theorem zf_X4_215 : Cond.fieldLink RX4 215 "DairyShares$Settings" "parValue" "I" ∈ wsL_law := zr_33 _ (List.mem_of_getElem? (i := 22) rfl)
theorem zm_X4_218 : Cond.methodLink RX4 218 yX4_payDividend ∈ wsL_law := zr_33 _ (List.mem_of_getElem? (i := 23) rfl)
theorem zi_yX4_payDividend : Cond.instanceMethod yX4_payDividend ∈ wsL_law := zr_34 _ (List.mem_of_getElem? (i := 0) rfl)
theorem zs_yX4_payDividend : Cond.selects RX4 yX4_payDividend yX4_payDividend ∈ wsL_law := zr_34 _ (List.mem_of_getElem? (i := 1) rfl)
theorem zc_yX4_payDividend : Cond.code yX4_payDividend cX4_payDividend 4 none ∈ wsL_law := zr_34 _ (List.mem_of_getElem? (i := 2) rfl)
theorem zm_L_146 : Cond.methodLink RL 146 yX8_closeMotion ∈ wsL_law := zr_34 _ (List.mem_of_getElem? (i := 3) rfl)
theorem zi_yX8_closeMotion : Cond.instanceMethod yX8_closeMotion ∈ wsL_law := zr_34 _ (List.mem_of_getElem? (i := 4) rfl)
theorem zs_yX8_closeMotion : Cond.selects RX8 yX8_closeMotion yX8_closeMotion ∈ wsL_law := zr_34 _ (List.mem_of_getElem? (i := 5) rfl)
theorem zc_yX8_closeMotion : Cond.code yX8_closeMotion cX8_closeMotion 9 (some .int) ∈ wsL_law := zr_34 _ (List.mem_of_getElem? (i := 6) rfl)
theorem zm_X8_164 : Cond.methodLink RX8 164 yX8_sum ∈ wsL_law := zr_34 _ (List.mem_of_getElem? (i := 7) rfl)
theorem zi_yX8_sum : Cond.instanceMethod yX8_sum ∈ wsL_law := zr_34 _ (List.mem_of_getElem? (i := 8) rfl)
theorem zs_yX8_sum : Cond.selects RX8 yX8_sum yX8_sum ∈ wsL_law := zr_34 _ (List.mem_of_getElem? (i := 9) rfl)
theorem zc_yX8_sum : Cond.code yX8_sum cX8_sum 7 (some .long) ∈ wsL_law := zr_34 _ (List.mem_of_getElem? (i := 10) rfl)
theorem zm_X8_161 : Cond.methodLink RX8 161 yX8_votesOf ∈ wsL_law := zr_34 _ (List.mem_of_getElem? (i := 11) rfl)
theorem zi_yX8_votesOf : Cond.instanceMethod yX8_votesOf ∈ wsL_law := zr_34 _ (List.mem_of_getElem? (i := 12) rfl)
theorem zs_yX8_votesOf : Cond.selects RX8 yX8_votesOf yX8_votesOf ∈ wsL_law := zr_34 _ (List.mem_of_getElem? (i := 13) rfl)
theorem zc_yX8_votesOf : Cond.code yX8_votesOf cX8_votesOf 6 (some .long) ∈ wsL_law := zr_34 _ (List.mem_of_getElem? (i := 14) rfl)
theorem zm_X8_168 : Cond.methodLink RX8 168 yX8_does ∈ wsL_law := zr_34 _ (List.mem_of_getElem? (i := 15) rfl)
theorem zi_yX8_does : Cond.instanceMethod yX8_does ∈ wsL_law := zr_34 _ (List.mem_of_getElem? (i := 16) rfl)
theorem zs_yX8_does : Cond.selects RX8 yX8_does yX8_does ∈ wsL_law := zr_34 _ (List.mem_of_getElem? (i := 17) rfl)
theorem zc_yX8_does : Cond.code yX8_does cX8_does 5 none ∈ wsL_law := zr_34 _ (List.mem_of_getElem? (i := 18) rfl)
theorem zm_L_147 : Cond.methodLink RL 147 yX7_votes ∈ wsL_law := zr_34 _ (List.mem_of_getElem? (i := 19) rfl)
theorem zi_yX7_votes : Cond.instanceMethod yX7_votes ∈ wsL_law := zr_34 _ (List.mem_of_getElem? (i := 20) rfl)
theorem zs_yX7_votes : Cond.selects RX7 yX7_votes yX7_votes ∈ wsL_law := zr_34 _ (List.mem_of_getElem? (i := 21) rfl)
theorem zc_yX7_votes : Cond.code yX7_votes cX7_votes 2 (some .int) ∈ wsL_law := zr_34 _ (List.mem_of_getElem? (i := 22) rfl)
theorem zm_X7_239 : Cond.methodLink RX7 239 yX4_votesOf ∈ wsL_law := zr_34 _ (List.mem_of_getElem? (i := 23) rfl)
theorem zm_L_150 : Cond.methodLink RL 150 yX8_votes ∈ wsL_law := zr_35 _ (List.mem_of_getElem? (i := 0) rfl)
theorem zi_yX8_votes : Cond.instanceMethod yX8_votes ∈ wsL_law := zr_35 _ (List.mem_of_getElem? (i := 1) rfl)
theorem zs_yX8_votes : Cond.selects RX8 yX8_votes yX8_votes ∈ wsL_law := zr_35 _ (List.mem_of_getElem? (i := 2) rfl)
theorem zc_yX8_votes : Cond.code yX8_votes cX8_votes 2 (some .int) ∈ wsL_law := zr_35 _ (List.mem_of_getElem? (i := 3) rfl)
theorem zm_L_151 : Cond.methodLink RL 151 yX7_motionState ∈ wsL_law := zr_35 _ (List.mem_of_getElem? (i := 4) rfl)
theorem zi_yX7_motionState : Cond.instanceMethod yX7_motionState ∈ wsL_law := zr_35 _ (List.mem_of_getElem? (i := 5) rfl)
theorem zs_yX7_motionState : Cond.selects RX7 yX7_motionState yX7_motionState ∈ wsL_law := zr_35 _ (List.mem_of_getElem? (i := 6) rfl)
theorem zc_yX7_motionState : Cond.code yX7_motionState cX7_motionState 2 (some .int) ∈ wsL_law := zr_35 _ (List.mem_of_getElem? (i := 7) rfl)
theorem zm_L_154 : Cond.methodLink RL 154 yX8_motionState ∈ wsL_law := zr_35 _ (List.mem_of_getElem? (i := 8) rfl)
theorem zi_yX8_motionState : Cond.instanceMethod yX8_motionState ∈ wsL_law := zr_35 _ (List.mem_of_getElem? (i := 9) rfl)
theorem zs_yX8_motionState : Cond.selects RX8 yX8_motionState yX8_motionState ∈ wsL_law := zr_35 _ (List.mem_of_getElem? (i := 10) rfl)
theorem zc_yX8_motionState : Cond.code yX8_motionState cX8_motionState 2 (some .int) ∈ wsL_law := zr_35 _ (List.mem_of_getElem? (i := 11) rfl)
theorem zm_L_155 : Cond.methodLink RL 155 yX7_votesFor ∈ wsL_law := zr_35 _ (List.mem_of_getElem? (i := 12) rfl)
theorem zi_yX7_votesFor : Cond.instanceMethod yX7_votesFor ∈ wsL_law := zr_35 _ (List.mem_of_getElem? (i := 13) rfl)
theorem zs_yX7_votesFor : Cond.selects RX7 yX7_votesFor yX7_votesFor ∈ wsL_law := zr_35 _ (List.mem_of_getElem? (i := 14) rfl)
theorem zc_yX7_votesFor : Cond.code yX7_votesFor cX7_votesFor 2 (some .int) ∈ wsL_law := zr_35 _ (List.mem_of_getElem? (i := 15) rfl)
theorem zm_X7_242 : Cond.methodLink RX7 242 yX4_sumOfVotes ∈ wsL_law := zr_35 _ (List.mem_of_getElem? (i := 16) rfl)
theorem zm_L_158 : Cond.methodLink RL 158 yX8_votesFor ∈ wsL_law := zr_35 _ (List.mem_of_getElem? (i := 17) rfl)
theorem zi_yX8_votesFor : Cond.instanceMethod yX8_votesFor ∈ wsL_law := zr_35 _ (List.mem_of_getElem? (i := 18) rfl)
theorem zs_yX8_votesFor : Cond.selects RX8 yX8_votesFor yX8_votesFor ∈ wsL_law := zr_35 _ (List.mem_of_getElem? (i := 19) rfl)
theorem zc_yX8_votesFor : Cond.code yX8_votesFor cX8_votesFor 2 (some .int) ∈ wsL_law := zr_35 _ (List.mem_of_getElem? (i := 20) rfl)
theorem zm_L_159 : Cond.methodLink RL 159 yX7_day ∈ wsL_law := zr_35 _ (List.mem_of_getElem? (i := 21) rfl)
theorem zi_yX7_day : Cond.instanceMethod yX7_day ∈ wsL_law := zr_35 _ (List.mem_of_getElem? (i := 22) rfl)
theorem zs_yX7_day : Cond.selects RX7 yX7_day yX7_day ∈ wsL_law := zr_35 _ (List.mem_of_getElem? (i := 23) rfl)
theorem zc_yX7_day : Cond.code yX7_day cX7_day 1 (some .int) ∈ wsL_law := zr_36 _ (List.mem_of_getElem? (i := 0) rfl)
theorem zf_X7_245 : Cond.fieldLink RX7 245 "DairyShares$Register" "daysPassed" "I" ∈ wsL_law := zr_36 _ (List.mem_of_getElem? (i := 1) rfl)
theorem zm_L_162 : Cond.methodLink RL 162 yX8_day ∈ wsL_law := zr_36 _ (List.mem_of_getElem? (i := 2) rfl)
theorem zi_yX8_day : Cond.instanceMethod yX8_day ∈ wsL_law := zr_36 _ (List.mem_of_getElem? (i := 3) rfl)
theorem zs_yX8_day : Cond.selects RX8 yX8_day yX8_day ∈ wsL_law := zr_36 _ (List.mem_of_getElem? (i := 4) rfl)
theorem zc_yX8_day : Cond.code yX8_day cX8_day 1 (some .int) ∈ wsL_law := zr_36 _ (List.mem_of_getElem? (i := 5) rfl)
theorem zm_L_163 : Cond.methodLink RL 163 yX7_historySize ∈ wsL_law := zr_36 _ (List.mem_of_getElem? (i := 6) rfl)
theorem zi_yX7_historySize : Cond.instanceMethod yX7_historySize ∈ wsL_law := zr_36 _ (List.mem_of_getElem? (i := 7) rfl)
theorem zs_yX7_historySize : Cond.selects RX7 yX7_historySize yX7_historySize ∈ wsL_law := zr_36 _ (List.mem_of_getElem? (i := 8) rfl)
theorem zc_yX7_historySize : Cond.code yX7_historySize cX7_historySize 1 (some .int) ∈ wsL_law := zr_36 _ (List.mem_of_getElem? (i := 9) rfl)
theorem zm_L_166 : Cond.methodLink RL 166 yX8_historySize ∈ wsL_law := zr_36 _ (List.mem_of_getElem? (i := 10) rfl)
theorem zi_yX8_historySize : Cond.instanceMethod yX8_historySize ∈ wsL_law := zr_36 _ (List.mem_of_getElem? (i := 11) rfl)
theorem zs_yX8_historySize : Cond.selects RX8 yX8_historySize yX8_historySize ∈ wsL_law := zr_36 _ (List.mem_of_getElem? (i := 12) rfl)
theorem zc_yX8_historySize : Cond.code yX8_historySize cX8_historySize 1 (some .int) ∈ wsL_law := zr_36 _ (List.mem_of_getElem? (i := 13) rfl)
theorem zm_L_167 : Cond.methodLink RL 167 yX7_undo ∈ wsL_law := zr_36 _ (List.mem_of_getElem? (i := 14) rfl)
theorem zi_yX7_undo : Cond.instanceMethod yX7_undo ∈ wsL_law := zr_36 _ (List.mem_of_getElem? (i := 15) rfl)
theorem zs_yX7_undo : Cond.selects RX7 yX7_undo yX7_undo ∈ wsL_law := zr_36 _ (List.mem_of_getElem? (i := 16) rfl)
theorem zc_yX7_undo : Cond.code yX7_undo cX7_undo 2 (some .int) ∈ wsL_law := zr_36 _ (List.mem_of_getElem? (i := 17) rfl)
theorem zm_L_170 : Cond.methodLink RL 170 yX8_undo ∈ wsL_law := zr_36 _ (List.mem_of_getElem? (i := 18) rfl)
theorem zi_yX8_undo : Cond.instanceMethod yX8_undo ∈ wsL_law := zr_36 _ (List.mem_of_getElem? (i := 19) rfl)
theorem zs_yX8_undo : Cond.selects RX8 yX8_undo yX8_undo ∈ wsL_law := zr_36 _ (List.mem_of_getElem? (i := 20) rfl)
theorem zc_yX8_undo : Cond.code yX8_undo cX8_undo 2 (some .int) ∈ wsL_law := zr_36 _ (List.mem_of_getElem? (i := 21) rfl)
set_option maxRecDepth 100000 in
theorem zw_good : wsL_law.all goodWord = true := by decide +kernel
end
section
theorem zz_probe : True := trivial
end
section
/-! NUMBERS: every int and long of a walk is written as the image of an Int expression -/
def i32 (x : Int) : Int32 := Int32.ofInt x
def i64 (x : Int) : Int64 := Int64.ofInt x
def b32 (x : Int) : Prop := -2147483648 ≤ x ∧ x < 2147483648
def b64 (x : Int) : Prop := -9223372036854775808 ≤ x ∧ x < 9223372036854775808
theorem i32_add (a b : Int) : i32 a + i32 b = i32 (a + b) := (Int32.ofInt_add a b).symm
theorem i32_sub (a b : Int) : i32 a - i32 b = i32 (a - b) := (Int32.ofInt_sub a b).symm
theorem i32_mul (a b : Int) : i32 a * i32 b = i32 (a * b) := (Int32.ofInt_mul a b).symm
theorem i64_add (a b : Int) : i64 a + i64 b = i64 (a + b) := (Int64.ofInt_add a b).symm
theorem i64_sub (a b : Int) : i64 a - i64 b = i64 (a - b) := (Int64.ofInt_sub a b).symm
theorem i64_mul (a b : Int) : i64 a * i64 b = i64 (a * b) := (Int64.ofInt_mul a b).symm
theorem i32_I {a : Int} (h : b32 a) : (i32 a).toInt = a := Int32.toInt_ofInt_of_le (by have := h.1; omega) (by have := h.2; omega)
theorem i64_I {a : Int} (h : b64 a) : (i64 a).toInt = a := Int64.toInt_ofInt_of_le (by have := h.1; omega) (by have := h.2; omega)
theorem i32_of (x : Int32) : ∃ a : Int, x = i32 a ∧ b32 a := ⟨x.toInt, (Int32.ofInt_toInt x).symm, by have := Int32.le_toInt x; have := Int32.toInt_lt x; unfold b32; omega⟩
theorem i64_of (x : Int64) : ∃ a : Int, x = i64 a ∧ b64 a := ⟨x.toInt, (Int64.ofInt_toInt x).symm, by have := Int64.le_toInt x; have := Int64.toInt_lt x; unfold b64; omega⟩
theorem i32_lt {a b : Int} (ha : b32 a) (hb : b32 b) : i32 a < i32 b ↔ a < b := by rw [Int32.lt_iff_toInt_lt, i32_I ha, i32_I hb]
theorem i32_le {a b : Int} (ha : b32 a) (hb : b32 b) : i32 a ≤ i32 b ↔ a ≤ b := by rw [Int32.le_iff_toInt_le, i32_I ha, i32_I hb]
theorem i32_eq {a b : Int} (ha : b32 a) (hb : b32 b) : i32 a = i32 b ↔ a = b := by rw [← Int32.toInt_inj, i32_I ha, i32_I hb]
theorem i64_lt {a b : Int} (ha : b64 a) (hb : b64 b) : i64 a < i64 b ↔ a < b := by rw [Int64.lt_iff_toInt_lt, i64_I ha, i64_I hb]
theorem i64_le {a b : Int} (ha : b64 a) (hb : b64 b) : i64 a ≤ i64 b ↔ a ≤ b := by rw [Int64.le_iff_toInt_le, i64_I ha, i64_I hb]
theorem i64_eq {a b : Int} (ha : b64 a) (hb : b64 b) : i64 a = i64 b ↔ a = b := by rw [← Int64.toInt_inj, i64_I ha, i64_I hb]
theorem i32_0 : (0 : Int32) = i32 0 := rfl
theorem i64_0 : (0 : Int64) = i64 0 := rfl
theorem b32_0 : b32 0 := ⟨by omega, by omega⟩
theorem b64_0 : b64 0 := ⟨by omega, by omega⟩
theorem i32_l {a : Int} (h : b32 a) : (i32 a).toInt64 = i64 a := by
  rw [← Int64.toInt_inj, Int32.toInt_toInt64, i32_I h, i64_I ⟨by have := h.1; omega, by have := h.2; omega⟩]
theorem i64_i (a : Int) : (i64 a).toInt32 = i32 a := Int64.toInt32_ofInt
theorem i32_nat {a : Int} (h : 0 ≤ a) (h2 : b32 a) : (i32 a).toNatClampNeg = a.toNat := Int32.toNatClampNeg_ofInt_of_le (by have := h2.1; omega) (by have := h2.2; omega)
theorem i32_in {a : Int} {n : Nat} (h : 0 ≤ a) (h1 : a < n) (hb : b32 a) : vp_in (i32 a) n := by
  unfold vp_in
  rintro (q | q)
  · rw [i32_0, i32_lt hb b32_0] at q; omega
  · rw [i32_nat h hb] at q; omega
theorem i32_n {n : Nat} (h : n < 2147483648) : nI n = i32 n := by
  unfold nI i32; exact Int32.ofInt_eq_ofNat.symm
/-- quotients -/
theorem i32_div {a b : Int} (ha : b32 a) (hb : b32 b) (h0 : 0 < b) : i32 a / i32 b = i32 (a.tdiv b) := by
  have hq : b32 (a.tdiv b) := by
    have h1 : a.tdiv b ≤ a.natAbs := Int.le_trans (Int.le_natAbs) (by rw [Int.natAbs_tdiv]; exact Int.ofNat_le.mpr (Nat.div_le_self _ _))
    have h2 : -(a.natAbs : Int) ≤ a.tdiv b := by
      have h3 : (a.tdiv b).natAbs ≤ a.natAbs := by rw [Int.natAbs_tdiv]; exact Nat.div_le_self _ _
      omega
    have h5 : a = -2147483648 → a.tdiv b < 2147483648 := by
      intro e
      have h3 := Int.tdiv_nonneg (a := -a) (b := b) (by omega) (by omega)
      rw [Int.neg_tdiv] at h3
      omega
    have := ha.1; have := ha.2
    unfold b32
    constructor
    · omega
    · by_cases e : a = -2147483648
      · exact h5 e
      · omega
  rw [← Int32.toInt_inj, i32_I hq, Int32.toInt_div_of_ne_right _ _ (fun q => by
    have h1 : (i32 b).toInt = (-1 : Int32).toInt := by rw [q]
    rw [i32_I hb] at h1
    have h2 : (-1 : Int32).toInt = -1 := by decide
    omega), i32_I ha, i32_I hb]
theorem i64_div {a b : Int} (ha : b64 a) (hb : b64 b) (h0 : 0 < b) : i64 a / i64 b = i64 (a.tdiv b) := by
  have hq : b64 (a.tdiv b) := by
    have h1 : a.tdiv b ≤ a.natAbs := Int.le_trans (Int.le_natAbs) (by rw [Int.natAbs_tdiv]; exact Int.ofNat_le.mpr (Nat.div_le_self _ _))
    have h2 : -(a.natAbs : Int) ≤ a.tdiv b := by
      have h3 : (a.tdiv b).natAbs ≤ a.natAbs := by rw [Int.natAbs_tdiv]; exact Nat.div_le_self _ _
      omega
    have h5 : a = -9223372036854775808 → a.tdiv b < 9223372036854775808 := by
      intro e
      have h3 := Int.tdiv_nonneg (a := -a) (b := b) (by omega) (by omega)
      rw [Int.neg_tdiv] at h3
      omega
    have := ha.1; have := ha.2
    unfold b64
    constructor
    · omega
    · by_cases e : a = -9223372036854775808
      · exact h5 e
      · omega
  rw [← Int64.toInt_inj, i64_I hq, Int64.toInt_div_of_ne_right _ _ (fun q => by
    have h1 : (i64 b).toInt = (-1 : Int64).toInt := by rw [q]
    rw [i64_I hb] at h1
    have h2 : (-1 : Int64).toInt = -1 := by decide
    omega), i64_I ha, i64_I hb]
theorem zx_tdiv {a b : Int} (h : 0 ≤ a) : a.tdiv b = a / b := Int.tdiv_eq_ediv_of_nonneg h
theorem zx_mul {a b A B : Int} (h1 : 0 ≤ a) (h2 : a ≤ A) (h3 : 0 ≤ b) (h4 : b ≤ B) : 0 ≤ a * b ∧ a * b ≤ A * B := ⟨Int.mul_nonneg h1 h3, Int.mul_le_mul h2 h4 h3 (by omega)⟩
theorem zx_b32 {a : Int} (h1 : -2147483648 ≤ a) (h2 : a ≤ 2147483647) : b32 a := ⟨h1, by omega⟩
theorem zx_b64 {a : Int} (h1 : -9223372036854775808 ≤ a) (h2 : a ≤ 9223372036854775807) : b64 a := ⟨h1, by omega⟩
theorem zx_b64' {a : Int} (h : b32 a) : b64 a := ⟨by have := h.1; omega, by have := h.2; omega⟩
/-- truth values on the stack -/
abbrev zbo (P : Prop) [Decidable P] : Int := if P then 1 else 0
theorem zbo_b {P : Prop} [Decidable P] : b32 (zbo P) := by unfold zbo; split <;> exact ⟨by omega, by omega⟩
theorem zbo_t {P : Prop} [Decidable P] (h : P) : zbo P = 1 := if_pos h
theorem zbo_f {P : Prop} [Decidable P] (h : ¬ P) : zbo P = 0 := if_neg h
/-- functions changed at one place -/
def up {α : Type} (f : Int → α) (k : Int) (v : α) : Int → α := fun q => if q = k then v else f q
theorem up_eq {α : Type} {f : Int → α} {k : Int} {v : α} : up f k v k = v := if_pos rfl
theorem up_ne {α : Type} {f : Int → α} {k q : Int} {v : α} (h : q ≠ k) : up f k v q = f q := if_neg h
theorem up_up {α : Type} (f : Int → α) (k : Int) (v w : α) : up (up f k v) k w = up f k w := by
  funext q; unfold up; split <;> rfl
theorem up_sw {α : Type} (f : Int → α) {k j : Int} (h : k ≠ j) (v w : α) : up (up f k v) j w = up (up f j w) k v := by
  funext q; unfold up; by_cases a : q = j <;> by_cases b : q = k <;> simp [a, b] <;> omega
theorem up_id {α : Type} {f : Int → α} {k : Int} {v : α} (h : f k = v) : up f k v = f := by
  funext q; unfold up; split
  · rename_i e; rw [e, h]
  · rfl
/-- memories: S r q is the number at the place q of the block r -/
abbrev zM : Type := Nat → Int → Int
def us (S : zM) (r : Nat) (f : Int → Int) : zM := fun x => if x = r then f else S x
theorem us_eq {S : zM} {r : Nat} {f : Int → Int} : us S r f r = f := if_pos rfl
theorem us_ne {S : zM} {r x : Nat} {f : Int → Int} (h : x ≠ r) : us S r f x = S x := if_neg h
theorem us_us (S : zM) (r : Nat) (f g : Int → Int) : us (us S r f) r g = us S r g := by
  funext x; unfold us; split <;> rfl
theorem us_id (S : zM) (r : Nat) : us S r (S r) = S := by
  funext x; unfold us; split
  · rename_i e; rw [e]
  · rfl
theorem us_in {S : zM} {r x : Nat} (h : x ≠ r) (f g k : Int → Int) : us (us (us S r f) x g) r k = us (us S x g) r k := by
  funext y; unfold us
  by_cases a : y = r
  · simp [a]
  · simp [a]
end
section
/-! THE WORLD: 121 cells, by keys (r, j): r 0..4 a register's 22 cells, 5 the system's own object and its Split, 6 the model's object and rows, 7 its row 'now', 8 its row 'past'. What a cell (r, j) holds is read off S r alone. -/
def ks : List (Nat × Nat) := ((List.range 5).flatMap fun r => (List.range 22).map fun j => (r, j)) ++ [(5, 22), (5, 23), (5, 24), (5, 25), (5, 26), (6, 27), (7, 28), (8, 29), (6, 30), (6, 31), (6, 32)]
theorem ks_nd : va_nd (ks.map fun q => 100 * q.1 + q.2) = true := by decide +kernel
theorem ks_one {i j : Nat} {q : Nat × Nat} (hi : ks[i]? = some q) (hj : ks[j]? = some q) : i = j :=
  va_nd_inj _ ks_nd i j (100 * q.1 + q.2) (by rw [List.getElem?_map, hi]; rfl) (by rw [List.getElem?_map, hj]; rfl)
theorem ks_m {r j : Nat} (hr : r < 5) (hj : j < 22) : (r, j) ∈ ks :=
  List.mem_append_left _ (List.mem_flatMap.mpr ⟨r, List.mem_range.mpr hr, List.mem_map.mpr ⟨j, List.mem_range.mpr hj, rfl⟩⟩)
def wl (ad : Nat → Nat → Nat) (E : Nat → Nat → va_E) : va_W := ks.map fun q => (ad q.1 q.2, E q.1 q.2)
def zup (E : Nat → Nat → va_E) (r j : Nat) (e : va_E) : Nat → Nat → va_E := fun r' j' => if r' = r ∧ j' = j then e else E r' j'
theorem wl_get {ad : Nat → Nat → Nat} {r j : Nat} (h : (r, j) ∈ ks) : ∃ p : Nat, ks[p]? = some (r, j) ∧ ∀ E : Nat → Nat → va_E, (wl ad E)[p]? = some (ad r j, E r j) := by
  obtain ⟨p, hp⟩ := List.getElem?_of_mem h
  exact ⟨p, hp, fun E => by unfold wl; rw [List.getElem?_map, hp]; rfl⟩
theorem wl_set {ad : Nat → Nat → Nat} {r j p : Nat} (hp : ks[p]? = some (r, j)) (E : Nat → Nat → va_E) (e : va_E) : (wl ad E).set p (ad r j, e) = wl ad (zup E r j e) := by
  apply List.ext_getElem?
  intro k
  unfold wl
  have hlt : p < (ks.map fun q => (ad q.1 q.2, E q.1 q.2)).length := by rw [List.length_map]; exact (List.getElem?_eq_some_iff.mp hp).1
  by_cases hk : k = p
  · subst hk
    rw [List.getElem?_set_self hlt, List.getElem?_map, hp]
    simp [zup]
  · rw [List.getElem?_set_ne (Ne.symm hk), List.getElem?_map, List.getElem?_map]
    cases hq : ks[k]? with
    | none => rfl
    | some q =>
      have hne : ¬ (q.1 = r ∧ q.2 = j) := by
        rintro ⟨h1, h2⟩
        exact hk (ks_one (q := (r, j)) (by rw [hq, ← h1, ← h2]) hp)
      simp [zup, hne]
theorem wl_congr {ad : Nat → Nat → Nat} {E E' : Nat → Nat → va_E} (h : ∀ q ∈ ks, E q.1 q.2 = E' q.1 q.2) : wl ad E = wl ad E' := by
  unfold wl
  exact List.map_congr_left fun q hq => by rw [h q hq]
theorem wl_D {A : Nat → Prop} {ad : Nat → Nat → Nat} {E E' : Nat → Nat → va_E} (h : va_D A (wl ad E)) : va_D A (wl ad E') := by
  have key : ∀ (k : Nat) (q : Nat × va_E), (wl ad E')[k]? = some q → ∃ q0, (wl ad E)[k]? = some q0 ∧ q0.1 = q.1 := by
    intro k q hk
    unfold wl at hk ⊢
    rw [List.getElem?_map] at hk ⊢
    cases hq : ks[k]? with
    | none => rw [hq] at hk; cases hk
    | some x => rw [hq] at hk; cases hk; exact ⟨_, rfl, rfl⟩
  refine ⟨fun i j x y hi hj hxy => ?_, fun k q hk => ?_⟩
  · obtain ⟨x0, h1, h2⟩ := key i x hi
    obtain ⟨y0, h3, h4⟩ := key j y hj
    exact h.1 i j x0 y0 h1 h3 (h2.trans (hxy.trans h4.symm))
  · obtain ⟨q0, h1, h2⟩ := key k q hk
    rw [← h2]
    exact h.2 k q0 h1
def zA (ad : Nat → Nat → Nat) : Nat → Prop := fun a => ∃ q ∈ ks, a = ad q.1 q.2
/-- rows of numbers: the first n places, out of the memory -/
def cz (n : Nat) (s : Int → Int) (off : Int → Int) : Nat → Int32 := fun k => if k < n then i32 (s (off k)) else 0
def cy (n : Nat) (s : Int → Int) (off : Int → Int) : Nat → Int64 := fun k => if k < n then i64 (s (off k)) else 0
theorem cz_at {n : Nat} {s off : Int → Int} {k : Nat} (h : k < n) : cz n s off k = i32 (s (off k)) := if_pos h
theorem cy_at {n : Nat} {s off : Int → Int} {k : Nat} (h : k < n) : cy n s off k = i64 (s (off k)) := if_pos h
theorem cz_cg {n : Nat} {s t off : Int → Int} (h : ∀ k : Nat, k < n → s (off k) = t (off k)) : cz n s off = cz n t off := by
  funext k; unfold cz; split
  · rename_i hk; rw [h k hk]
  · rfl
theorem cy_cg {n : Nat} {s t off : Int → Int} (h : ∀ k : Nat, k < n → s (off k) = t (off k)) : cy n s off = cy n t off := by
  funext k; unfold cy; split
  · rename_i hk; rw [h k hk]
  · rfl
theorem cz_up {n : Nat} {s off : Int → Int} {k : Nat} {v : Int} (hk : k < n) (h : ∀ i : Nat, i < n → off i = off k → i = k) : upd (cz n s off) k (i32 v) = cz n (up s (off k) v) off := by
  funext i
  by_cases hi : i = k
  · subst hi; rw [cz_at hk, up_eq]; exact pk_us
  · rw [pk_un hi]
    by_cases hn : i < n
    · rw [cz_at hn, cz_at hn, up_ne (fun e => hi (h i hn e))]
    · unfold cz; rw [if_neg hn, if_neg hn]
theorem cy_up {n : Nat} {s off : Int → Int} {k : Nat} {v : Int} (hk : k < n) (h : ∀ i : Nat, i < n → off i = off k → i = k) : vp_updL (cy n s off) k (i64 v) = cy n (up s (off k) v) off := by
  funext i
  by_cases hi : i = k
  · subst hi; rw [cy_at hk, up_eq]; exact pk_uLs
  · rw [pk_uLn hi]
    by_cases hn : i < n
    · rw [cy_at hn, cy_at hn, up_ne (fun e => hi (h i hn e))]
    · unfold cy; rw [if_neg hn, if_neg hn]
def of1 (a : Int) : Int → Int := fun k => a + k
def of3 (a : Int) : Int → Int := fun k => a + 3 * k
def of22 (a : Int) : Int → Int := fun k => a + 22 * k
def of15 (a : Int) : Int → Int := fun k => a + 15 * k
def ofS : Int → Int := fun k => 61 + 22 * (k / 4) + k % 4
def ofC : Int → Int := fun k => 65 + 22 * (k / 12) + k % 12
def ofB : Int → Int := fun k => 498 + 15 * (k / 12) + k % 12
/-- what a cell holds -/
def cf (cI cJ : ClassId) (ad : Nat → Nat → Nat) (S : zM) (r : Nat) : Nat → va_E
  | 0 => .inr (4, [.ref (ad r 1), .ref (ad r 5), .ref (ad r 6), .ref (ad r 8), .ref (ad r 17), .int (i32 (S r 2)), .int (i32 (S r 670))])
  | 1 => .inr (1, [.int (i32 (S r 0)), .ref (ad r 2), .ref (ad r 3), .ref (ad r 4)])
  | 2 => .inl (cI, 12, .inl (cz 12 (S r) (of3 19)))
  | 3 => .inl (cI, 12, .inl (cz 12 (S r) (of3 20)))
  | 4 => .inl (cJ, 12, .inr (.inl (cy 12 (S r) (of3 21))))
  | 5 => .inr (5, [.int (i32 (S r 1)), .int (i32 (S r 3)), .int (i32 (S r 5)), .int (i32 (S r 4)), .int (i32 (S r 13)), .int (i32 (S r 16)), .int (i32 (S r 17))])
  | 6 => .inr (0, [.int (i32 (S r 7)), .int (i32 (S r 8)), .int (i32 (S r 6)), .int (i32 (S r 9)), .ref (ad r 7)])
  | 7 => .inl (cI, 3, .inl (cz 3 (S r) (of1 10)))
  | 8 => .inr (3, [.int (i32 (S r 14)), .ref (ad r 9), .ref (ad r 10), .ref (ad r 11), .ref (ad r 12), .ref (ad r 13), .ref (ad r 14), .ref (ad r 15), .ref (ad r 16)])
  | 9 => .inl (cI, 20, .inl (cz 20 (S r) (of22 55)))
  | 10 => .inl (cI, 20, .inl (cz 20 (S r) (of22 56)))
  | 11 => .inl (cI, 20, .inl (cz 20 (S r) (of22 58)))
  | 12 => .inl (cI, 20, .inl (cz 20 (S r) (of22 57)))
  | 13 => .inl (cI, 20, .inl (cz 20 (S r) (of22 59)))
  | 14 => .inl (cI, 20, .inl (cz 20 (S r) (of1 645)))
  | 15 => .inl (cI, 80, .inl (cz 80 (S r) ofS))
  | 16 => .inl (cI, 240, .inl (cz 240 (S r) ofC))
  | 17 => .inr (2, [.int (i32 (S r 15)), .ref (ad r 18), .ref (ad r 19), .ref (ad r 20), .ref (ad r 21)])
  | 18 => .inl (cI, 10, .inl (cz 10 (S r) (of15 495)))
  | 19 => .inl (cI, 10, .inl (cz 10 (S r) (of15 496)))
  | 20 => .inl (cI, 10, .inl (cz 10 (S r) (of15 497)))
  | 21 => .inl (cI, 120, .inl (cz 120 (S r) ofB))
  | 22 => .inr (7, [.ref (ad (S r 1).toNat 0), .ref (ad (S r 2).toNat 0), .ref (ad (S r 3).toNat 0), .ref (ad (S r 4).toNat 0), .ref (ad (S r 5).toNat 0), .int (i32 (S r 0)), .ref (ad r 23)])
  | 23 => .inr (6, [.ref (ad r 24), .ref (ad r 25), .ref (ad r 26)])
  | 24 => .inl (cI, 12, .inl (cz 12 (S r) (of1 100)))
  | 25 => .inl (cI, 12, .inl (cz 12 (S r) (of1 200)))
  | 26 => .inl (cI, 12, .inl (cz 12 (S r) (of1 300)))
  | 27 => .inr (8, [.ref (ad 7 28), .ref (ad 8 29), .int (i32 (S r 0)), .ref (ad r 30), .ref (ad r 31), .ref (ad r 32)])
  | 28 => .inl (cJ, 645, .inr (.inl (cy 645 (S r) (of1 0))))
  | 29 => .inl (cJ, 2580, .inr (.inl (cy 2580 (S r) (of1 0))))
  | 30 => .inl (cJ, 12, .inr (.inl (cy 12 (S r) (of1 100))))
  | 31 => .inl (cJ, 12, .inr (.inl (cy 12 (S r) (of1 200))))
  | 32 => .inl (cJ, 12, .inr (.inl (cy 12 (S r) (of1 300))))
  | _ => .inr (0, [])
/-- which cell of a register a place of its memory is held by (99: by none) -/
def kyA (q : Int) : Nat :=
  if q < 19 then
    (if q < 0 then 99 else if q = 0 then 1 else if q = 1 then 5 else if q = 2 then 0 else if q < 6 then 5 else if q < 10 then 6 else if q < 13 then 7 else if q = 13 then 5 else if q = 14 then 8 else if q = 15 then 17 else if q < 18 then 5 else 99)
  else if q < 55 then (if (q - 19) % 3 = 0 then 2 else if (q - 19) % 3 = 1 then 3 else 4)
  else if q < 495 then
    (if (q - 55) % 22 < 4 then (if (q - 55) % 22 = 0 then 9 else if (q - 55) % 22 = 1 then 10 else if (q - 55) % 22 = 2 then 12 else 11)
     else if (q - 55) % 22 = 4 then 13 else if (q - 55) % 22 = 5 then 99 else if (q - 55) % 22 < 10 then 15 else 16)
  else if q < 645 then (if (q - 495) % 15 = 0 then 18 else if (q - 495) % 15 = 1 then 19 else if (q - 495) % 15 = 2 then 20 else 21)
  else if q < 665 then 14 else if q = 670 then 0 else 99
/-- the same of the blocks 5 and 6 -/
def kyB (q : Int) : Nat := if q < 0 then 99 else if q < 6 then 22 else if q < 100 then 99 else if q < 112 then 24 else if q < 200 then 99 else if q < 212 then 25 else if q < 300 then 99 else if q < 312 then 26 else 99
def kyC (q : Int) : Nat := if q = 0 then 27 else if q < 100 then 99 else if q < 112 then 30 else if q < 200 then 99 else if q < 212 then 31 else if q < 300 then 99 else if q < 312 then 32 else 99
def kz (j : Nat) (q : Int) : Prop := if j < 22 then kyA q = j else if j < 27 then kyB q = j else if j = 28 then (0 ≤ q ∧ q < 645) else if j = 29 then (0 ≤ q ∧ q < 2580) else kyC q = j
theorem kz_A {j : Nat} {q : Int} (h : j < 22) : kz j q ↔ kyA q = j := by unfold kz; rw [if_pos h]
theorem kz_B {j : Nat} {q : Int} (h : 22 ≤ j) (h2 : j < 27) : kz j q ↔ kyB q = j := by unfold kz; rw [if_neg (by omega), if_pos h2]
theorem kz_C {j : Nat} {q : Int} (h : 27 ≤ j) (h2 : j ≠ 28) (h3 : j ≠ 29) : kz j q ↔ kyC q = j := by unfold kz; rw [if_neg (by omega), if_neg (by omega), if_neg h2, if_neg h3]
/-- two cells of one block share no place -/
theorem kz_one {r i j : Nat} {q : Int} (hi : (r, i) ∈ ks) (hj : (r, j) ∈ ks) (h1 : kz i q) (h2 : kz j q) : i = j := by
  have key : ∀ x ∈ ks, (x.1 < 5 ∧ x.2 < 22) ∨ (x.1 = 5 ∧ 22 ≤ x.2 ∧ x.2 < 27) ∨ (x.1 = 6 ∧ 27 ≤ x.2 ∧ x.2 ≠ 28 ∧ x.2 ≠ 29) ∨ (x.1 = 7 ∧ x.2 = 28) ∨ (x.1 = 8 ∧ x.2 = 29) := by decide +kernel
  rcases key _ hi with ⟨a1, a2⟩ | ⟨a1, a2, a3⟩ | ⟨a1, a2, a3, a4⟩ | ⟨a1, a2⟩ | ⟨a1, a2⟩ <;> rcases key _ hj with ⟨b1, b2⟩ | ⟨b1, b2, b3⟩ | ⟨b1, b2, b3, b4⟩ | ⟨b1, b2⟩ | ⟨b1, b2⟩ <;> simp only at a1 a2 b1 b2 <;> first | omega | skip
  · exact ((kz_A a2).mp h1).symm.trans ((kz_A b2).mp h2)
  · exact ((kz_B a2 a3).mp h1).symm.trans ((kz_B b2 b3).mp h2)
  · exact ((kz_C a2 a3 a4).mp h1).symm.trans ((kz_C b2 b3 b4).mp h2)
theorem kyA_0 {q : Int} (h : 10 ≤ q) (h2 : q < 13) : kyA q = 7 := by
  unfold kyA; rw [if_pos (by omega), if_neg (by omega), if_neg (by omega), if_neg (by omega), if_neg (by omega), if_neg (by omega), if_neg (by omega), if_pos h2]
theorem kyA_1 {q : Int} (h : 19 ≤ q) (h2 : q < 55) : kyA q = if (q - 19) % 3 = 0 then 2 else if (q - 19) % 3 = 1 then 3 else 4 := by
  unfold kyA; rw [if_neg (by omega), if_pos h2]
theorem kyA_2 {q : Int} (h : 55 ≤ q) (h2 : q < 495) : kyA q = if (q - 55) % 22 < 4 then (if (q - 55) % 22 = 0 then 9 else if (q - 55) % 22 = 1 then 10 else if (q - 55) % 22 = 2 then 12 else 11) else if (q - 55) % 22 = 4 then 13 else if (q - 55) % 22 = 5 then 99 else if (q - 55) % 22 < 10 then 15 else 16 := by
  unfold kyA; rw [if_neg (by omega), if_neg (by omega), if_pos h2]
theorem kyA_3 {q : Int} (h : 495 ≤ q) (h2 : q < 645) : kyA q = if (q - 495) % 15 = 0 then 18 else if (q - 495) % 15 = 1 then 19 else if (q - 495) % 15 = 2 then 20 else 21 := by
  unfold kyA; rw [if_neg (by omega), if_neg (by omega), if_neg (by omega), if_pos h2]
theorem kyA_4 {q : Int} (h : 645 ≤ q) (h2 : q < 665) : kyA q = 14 := by
  unfold kyA; rw [if_neg (by omega), if_neg (by omega), if_neg (by omega), if_neg (by omega), if_pos h2]
theorem kyA_5 {q : Int} (h : 665 ≤ q) (h2 : q ≠ 670) : kyA q = 99 := by
  unfold kyA; rw [if_neg (by omega), if_neg (by omega), if_neg (by omega), if_neg (by omega), if_neg (by omega), if_neg h2]
theorem ko_2 {k : Int} (h0 : 0 ≤ k) (h1 : k < 12) : kz 2 ((of3 19) k) := (kz_A (by decide)).mpr (by unfold of3; rw [kyA_1 (by omega) (by omega), if_pos (by omega)])
theorem ko_3 {k : Int} (h0 : 0 ≤ k) (h1 : k < 12) : kz 3 ((of3 20) k) := (kz_A (by decide)).mpr (by unfold of3; rw [kyA_1 (by omega) (by omega), if_neg (by omega), if_pos (by omega)])
theorem ko_4 {k : Int} (h0 : 0 ≤ k) (h1 : k < 12) : kz 4 ((of3 21) k) := (kz_A (by decide)).mpr (by unfold of3; rw [kyA_1 (by omega) (by omega), if_neg (by omega), if_neg (by omega)])
theorem ko_7 {k : Int} (h0 : 0 ≤ k) (h1 : k < 3) : kz 7 ((of1 10) k) := (kz_A (by decide)).mpr (kyA_0 (by unfold of1; omega) (by unfold of1; omega))
theorem ko_9 {k : Int} (h0 : 0 ≤ k) (h1 : k < 20) : kz 9 ((of22 55) k) := (kz_A (by decide)).mpr (by unfold of22; rw [kyA_2 (by omega) (by omega), if_pos (by omega), if_pos (by omega)])
theorem ko_10 {k : Int} (h0 : 0 ≤ k) (h1 : k < 20) : kz 10 ((of22 56) k) := (kz_A (by decide)).mpr (by unfold of22; rw [kyA_2 (by omega) (by omega), if_pos (by omega), if_neg (by omega), if_pos (by omega)])
theorem ko_11 {k : Int} (h0 : 0 ≤ k) (h1 : k < 20) : kz 11 ((of22 58) k) := (kz_A (by decide)).mpr (by unfold of22; rw [kyA_2 (by omega) (by omega), if_pos (by omega), if_neg (by omega), if_neg (by omega), if_neg (by omega)])
theorem ko_12 {k : Int} (h0 : 0 ≤ k) (h1 : k < 20) : kz 12 ((of22 57) k) := (kz_A (by decide)).mpr (by unfold of22; rw [kyA_2 (by omega) (by omega), if_pos (by omega), if_neg (by omega), if_neg (by omega), if_pos (by omega)])
theorem ko_13 {k : Int} (h0 : 0 ≤ k) (h1 : k < 20) : kz 13 ((of22 59) k) := (kz_A (by decide)).mpr (by unfold of22; rw [kyA_2 (by omega) (by omega), if_neg (by omega), if_pos (by omega)])
theorem ko_14 {k : Int} (h0 : 0 ≤ k) (h1 : k < 20) : kz 14 ((of1 645) k) := (kz_A (by decide)).mpr (kyA_4 (by unfold of1; omega) (by unfold of1; omega))
theorem ko_15 {k : Int} (h0 : 0 ≤ k) (h1 : k < 80) : kz 15 (ofS k) := (kz_A (by decide)).mpr (by unfold ofS; rw [kyA_2 (by omega) (by omega), if_neg (by omega), if_neg (by omega), if_neg (by omega), if_pos (by omega)])
theorem ko_16 {k : Int} (h0 : 0 ≤ k) (h1 : k < 240) : kz 16 (ofC k) := (kz_A (by decide)).mpr (by unfold ofC; rw [kyA_2 (by omega) (by omega), if_neg (by omega), if_neg (by omega), if_neg (by omega), if_neg (by omega)])
theorem ko_18 {k : Int} (h0 : 0 ≤ k) (h1 : k < 10) : kz 18 ((of15 495) k) := (kz_A (by decide)).mpr (by unfold of15; rw [kyA_3 (by omega) (by omega), if_pos (by omega)])
theorem ko_19 {k : Int} (h0 : 0 ≤ k) (h1 : k < 10) : kz 19 ((of15 496) k) := (kz_A (by decide)).mpr (by unfold of15; rw [kyA_3 (by omega) (by omega), if_neg (by omega), if_pos (by omega)])
theorem ko_20 {k : Int} (h0 : 0 ≤ k) (h1 : k < 10) : kz 20 ((of15 497) k) := (kz_A (by decide)).mpr (by unfold of15; rw [kyA_3 (by omega) (by omega), if_neg (by omega), if_neg (by omega), if_pos (by omega)])
theorem ko_21 {k : Int} (h0 : 0 ≤ k) (h1 : k < 120) : kz 21 (ofB k) := (kz_A (by decide)).mpr (by unfold ofB; rw [kyA_3 (by omega) (by omega), if_neg (by omega), if_neg (by omega), if_neg (by omega)])
theorem ko_24 {k : Int} (h0 : 0 ≤ k) (h1 : k < 12) : kz 24 ((of1 100) k) := (kz_B (by decide) (by decide)).mpr (by unfold of1 kyB; (repeat' split) <;> omega)
theorem ko_25 {k : Int} (h0 : 0 ≤ k) (h1 : k < 12) : kz 25 ((of1 200) k) := (kz_B (by decide) (by decide)).mpr (by unfold of1 kyB; (repeat' split) <;> omega)
theorem ko_26 {k : Int} (h0 : 0 ≤ k) (h1 : k < 12) : kz 26 ((of1 300) k) := (kz_B (by decide) (by decide)).mpr (by unfold of1 kyB; (repeat' split) <;> omega)
theorem ko_28 {k : Int} (h0 : 0 ≤ k) (h1 : k < 645) : kz 28 ((of1 0) k) := by unfold kz of1; rw [if_neg (by decide), if_neg (by decide), if_pos rfl]; omega
theorem ko_29 {k : Int} (h0 : 0 ≤ k) (h1 : k < 2580) : kz 29 ((of1 0) k) := by unfold kz of1; rw [if_neg (by decide), if_neg (by decide), if_neg (by decide), if_pos rfl]; omega
theorem ko_30 {k : Int} (h0 : 0 ≤ k) (h1 : k < 12) : kz 30 ((of1 100) k) := (kz_C (by decide) (by decide) (by decide)).mpr (by unfold of1 kyC; (repeat' split) <;> omega)
theorem ko_31 {k : Int} (h0 : 0 ≤ k) (h1 : k < 12) : kz 31 ((of1 200) k) := (kz_C (by decide) (by decide) (by decide)).mpr (by unfold of1 kyC; (repeat' split) <;> omega)
theorem ko_32 {k : Int} (h0 : 0 ≤ k) (h1 : k < 12) : kz 32 ((of1 300) k) := (kz_C (by decide) (by decide) (by decide)).mpr (by unfold of1 kyC; (repeat' split) <;> omega)
set_option maxHeartbeats 4000000 in
/-- a cell is read off its own places alone -/
theorem cf_cg {cI cJ : ClassId} {ad : Nat → Nat → Nat} {S T : zM} {r j : Nat} (h : ∀ q, kz j q → S r q = T r q) : cf cI cJ ad S r j = cf cI cJ ad T r j := by
  have hA : ∀ q, j < 22 → kyA q = j → S r q = T r q := fun q h1 h2 => h q ((kz_A h1).mpr h2)
  have hB : ∀ q, 22 ≤ j → j < 27 → kyB q = j → S r q = T r q := fun q h1 h2 h3 => h q ((kz_B h1 h2).mpr h3)
  have hC : ∀ q, 27 ≤ j → j ≠ 28 → j ≠ 29 → kyC q = j → S r q = T r q := fun q h1 h2 h3 h4 => h q ((kz_C h1 h2 h3).mpr h4)
  match j with
  | 0 => simp only [cf]; rw [hA 2 (by decide) (by decide), hA 670 (by decide) (by decide)]
  | 1 => simp only [cf]; rw [hA 0 (by decide) (by decide)]
  | 2 => simp only [cf]; rw [cz_cg fun k hk => h _ (ko_2 (by omega) (by omega))]
  | 3 => simp only [cf]; rw [cz_cg fun k hk => h _ (ko_3 (by omega) (by omega))]
  | 4 => simp only [cf]; rw [cy_cg fun k hk => h _ (ko_4 (by omega) (by omega))]
  | 5 => simp only [cf]; rw [hA 1 (by decide) (by decide), hA 3 (by decide) (by decide), hA 5 (by decide) (by decide), hA 4 (by decide) (by decide), hA 13 (by decide) (by decide), hA 16 (by decide) (by decide), hA 17 (by decide) (by decide)]
  | 6 => simp only [cf]; rw [hA 7 (by decide) (by decide), hA 8 (by decide) (by decide), hA 6 (by decide) (by decide), hA 9 (by decide) (by decide)]
  | 7 => simp only [cf]; rw [cz_cg fun k hk => h _ (ko_7 (by omega) (by omega))]
  | 8 => simp only [cf]; rw [hA 14 (by decide) (by decide)]
  | 9 => simp only [cf]; rw [cz_cg fun k hk => h _ (ko_9 (by omega) (by omega))]
  | 10 => simp only [cf]; rw [cz_cg fun k hk => h _ (ko_10 (by omega) (by omega))]
  | 11 => simp only [cf]; rw [cz_cg fun k hk => h _ (ko_11 (by omega) (by omega))]
  | 12 => simp only [cf]; rw [cz_cg fun k hk => h _ (ko_12 (by omega) (by omega))]
  | 13 => simp only [cf]; rw [cz_cg fun k hk => h _ (ko_13 (by omega) (by omega))]
  | 14 => simp only [cf]; rw [cz_cg fun k hk => h _ (ko_14 (by omega) (by omega))]
  | 15 => simp only [cf]; rw [cz_cg fun k hk => h _ (ko_15 (by omega) (by omega))]
  | 16 => simp only [cf]; rw [cz_cg fun k hk => h _ (ko_16 (by omega) (by omega))]
  | 17 => simp only [cf]; rw [hA 15 (by decide) (by decide)]
  | 18 => simp only [cf]; rw [cz_cg fun k hk => h _ (ko_18 (by omega) (by omega))]
  | 19 => simp only [cf]; rw [cz_cg fun k hk => h _ (ko_19 (by omega) (by omega))]
  | 20 => simp only [cf]; rw [cz_cg fun k hk => h _ (ko_20 (by omega) (by omega))]
  | 21 => simp only [cf]; rw [cz_cg fun k hk => h _ (ko_21 (by omega) (by omega))]
  | 22 => simp only [cf]; rw [hB 0 (by decide) (by decide) (by decide), hB 1 (by decide) (by decide) (by decide), hB 2 (by decide) (by decide) (by decide), hB 3 (by decide) (by decide) (by decide), hB 4 (by decide) (by decide) (by decide), hB 5 (by decide) (by decide) (by decide)]
  | 23 => rfl
  | 24 => simp only [cf]; rw [cz_cg fun k hk => h _ (ko_24 (by omega) (by omega))]
  | 25 => simp only [cf]; rw [cz_cg fun k hk => h _ (ko_25 (by omega) (by omega))]
  | 26 => simp only [cf]; rw [cz_cg fun k hk => h _ (ko_26 (by omega) (by omega))]
  | 27 => simp only [cf]; rw [hC 0 (by decide) (by decide) (by decide) (by decide)]
  | 28 => simp only [cf]; rw [cy_cg fun k hk => h _ (ko_28 (by omega) (by omega))]
  | 29 => simp only [cf]; rw [cy_cg fun k hk => h _ (ko_29 (by omega) (by omega))]
  | 30 => simp only [cf]; rw [cy_cg fun k hk => h _ (ko_30 (by omega) (by omega))]
  | 31 => simp only [cf]; rw [cy_cg fun k hk => h _ (ko_31 (by omega) (by omega))]
  | 32 => simp only [cf]; rw [cy_cg fun k hk => h _ (ko_32 (by omega) (by omega))]
  | _ + 33 => rfl
/-- a cell is written: the memory at one place -/
theorem cf_put {cI cJ : ClassId} {ad : Nat → Nat → Nat} {S : zM} {r j : Nat} {e : va_E} (q : Int) (v : Int) (hk : (r, j) ∈ ks) (hq : kz j q) (he : e = cf cI cJ ad (us S r (up (S r) q v)) r j) : wl ad (zup (cf cI cJ ad S) r j e) = wl ad (cf cI cJ ad (us S r (up (S r) q v))) := by
  refine wl_congr fun x hx => ?_
  unfold zup
  split
  · rename_i h; rw [h.1, h.2]; exact he
  · rename_i h
    refine cf_cg fun z hz => ?_
    unfold us
    split
    · rename_i hr
      rw [hr, up_ne]
      intro e2
      exact h ⟨hr, kz_one (r := r) (by rw [← hr]; exact hx) hk (e2 ▸ hz) hq⟩
    · rfl
theorem kyA_i0 {q : Int} (h : kyA q = 0) : q = 2 ∨ q = 670 := by unfold kyA at h; (repeat' split at h) <;> omega
theorem kyA_i1 {q : Int} (h : kyA q = 1) : q = 0 := by unfold kyA at h; (repeat' split at h) <;> omega
theorem kyA_i5 {q : Int} (h : kyA q = 5) : q = 1 ∨ q = 3 ∨ q = 4 ∨ q = 5 ∨ q = 13 ∨ q = 16 ∨ q = 17 := by unfold kyA at h; (repeat' split at h) <;> omega
theorem kyA_i6 {q : Int} (h : kyA q = 6) : q = 6 ∨ q = 7 ∨ q = 8 ∨ q = 9 := by unfold kyA at h; (repeat' split at h) <;> omega
theorem kyA_i8 {q : Int} (h : kyA q = 8) : q = 14 := by unfold kyA at h; (repeat' split at h) <;> omega
theorem kyA_i17 {q : Int} (h : kyA q = 17) : q = 15 := by unfold kyA at h; (repeat' split at h) <;> omega
theorem kyA_le (q : Int) : kyA q ≤ 21 ∨ kyA q = 99 := by unfold kyA; (repeat' split) <;> omega
end
section
/-! THE JUDGEMENT OVER MEMORIES. E: all that stands fixed in a walk; S the memory, L the locals that are told, st the stack. -/
abbrev zE : Type := Program × Launch × Env × Room × State × MethodId × Array Value × List Frame × Method × Code × (State → Prop) × (Nat → Prop) × va_G × ClassId × ClassId × (Nat → Nat → Nat) × Nat × Nat × Nat
def Z (E : zE) (S : zM) (pc : Nat) (L : List (Nat × Value)) (st : List Value) : Prop := match E with
  | (p, l, e, R, s, m, args, below, meth, c, Q, A, D, cI, cJ, ad, nL, cells, slots) => ∀ (H : Heap) (locs : List Loc) (ls : Array Slot), va_S A s.heap H locs → va_P D vwCl (wl ad (cf cI cJ ad S)) H → lv_has ls nL L → W p l e R s m args below meth c H locs cells slots Q (F0 m pc ls st)
/-- the words on a private member of a nest mate that no table holds -/
def nw : List Cond := [.methodLinkNest RX7 9 yX4_init "DairyShares", .methodLinkNest RX4 11 yX1_init "DairyShares", .methodLinkNest RX4 20 yX5_init "DairyShares", .methodLinkNest RX4 27 yX0_init "DairyShares", .methodLinkNest RX4 34 yX3_init "DairyShares", .methodLinkNest RX4 41 yX2_init "DairyShares", .methodLinkNest RX7 34 yX6_init "DairyShares", .methodLinkNest RX4 82 yX7_quotient "DairyShares", .methodLinkNest RX0 34 yX7_quotient "DairyShares", .methodLinkNest RX6 31 yX7_quotient "DairyShares", .methodLinkNest RX4 200 yX7_rootOf "DairyShares"]
def zW (D : va_G) (cI cJ : ClassId) (ad : Nat → Nat → Nat) (S : zM) (U : State) : Prop := va_P D vwCl (wl ad (cf cI cJ ad S)) U.heap ∧ va_K D vwCl [(cI, .int), (cJ, .long)] U ∧ va_D (zA ad) (wl ad (cf cI cJ ad S)) ∧ ∀ w ∈ nw, va_Nw w U
/-- what stands fixed: the code cc, nL places of locals, the class own; fr frames and lo words of room -/
def zG (E : zE) (l0 : Launch) (D0 : va_G) (cI0 cJ0 : ClassId) (ad0 : Nat → Nat → Nat) (cc : ByteArray) (nL0 : Nat) (own : String) (fr lo : Nat) : Prop := match E with
  | (p, l, _, R, s, m, args, _, _, c, _, A, D, cI, cJ, ad, nL, cells, slots) => (l = l0 ∧ D = D0 ∧ cI = cI0 ∧ cJ = cJ0 ∧ ad = ad0 ∧ nL = nL0) ∧ p.tables.exec = Jvm.exec ∧ c.code = cc ∧ c.maxLocals = nL ∧ s.vm.findClass own = some m.cls ∧ (∀ w ∈ wsL_law, w.before args s = true) ∧ (R.frames = fr ∧ R.locals = lo ∧ cells ≤ R.cells ∧ slots ≤ R.slots) ∧ va_K D vwCl [(cI, .int), (cJ, .long)] s ∧ va_D A (wl ad fun _ _ => .inr (0, [])) ∧ (∀ a, zA ad a → A a) ∧ ∀ w ∈ nw, va_Nw w s
def zQ (D : va_G) (cI cJ : ClassId) (ad : Nat → Nat → Nat) (rv : Option Value) (P : zM → Prop) : Array Value → State → Outcome → State → Prop := fun _ st oc t => (oc = .returned rv ∧ ∃ S' : zM, P S' ∧ va_P D vwCl (wl ad (cf cI cJ ad S')) t.heap) ∧ va_F (zA ad) st t
/-- a method's end: what it answers, and the memory then -/
def zR (E : zE) (ret : Option FieldType) (rv : Option Value) (P : zM → Prop) : Prop := match E with
  | (_, _, _, _, s, _, args, below, meth, _, Q, A, D, cI, cJ, ad, _, cells, slots) => Q = MQ below (zQ D cI cJ ad rv P) args s 0 0 (zA ad) ∧ meth.sig.returnType = ret ∧ meth.locks = false ∧ A = zA ad ∧ cells = 0 ∧ slots = 0
/-- a contract: called with as over the memory S, the method y answers rv and leaves a memory with P -/
def Ct (l : Launch) (D : va_G) (cI cJ : ClassId) (ad : Nat → Nat → Nat) (y : MethodName) (cc : ByteArray) (nL : Nat) (ret : Option FieldType) (fr lo : Nat) (as : List Value) (S : zM) (rv : Option Value) (P : zM → Prop) : Prop :=
  Met l y (Cond.code y cc nL ret :: wsL_law) { frames := fr, cells := 0, slots := 0, locals := lo } (va_Pc as (fun U => zW D cI cJ ad S U)) (zQ D cI cJ ad rv P) 0 0 (zA ad)
theorem zQ_P {cI cJ : ClassId} {ad : Nat → Nat → Nat} {S T : zM} (h : ∀ r j, (r, j) ∈ ks → cf cI cJ ad S r j = cf cI cJ ad T r j) : wl ad (cf cI cJ ad S) = wl ad (cf cI cJ ad T) := wl_congr fun q hq => h q.1 q.2 hq
theorem ofWF {l : Launch} {y : MethodName} {ws ws' : List Cond} {rm : Room} {Pc : Array Value → State → Prop} {Qc : Array Value → State → Outcome → State → Prop} {mc ms : Nat} {free : Addr → Prop} {cc : ByteArray} {maxL : Nat} {ret : Option FieldType}
    (hy : plainFor y = true) (hw : ws = Cond.code y cc maxL ret :: ws')
    (body : ∀ p e s m args below meth c s₁, BodyLoose p l y (headSpec ws rm) cc maxL ret e s m args below meth c s₁ → c.maxLocals = maxL → Pc args s →
      W p l e (headSpec ws rm).room s m args below meth c s.heap [] 0 0 (MQ below Qc args s mc ms free) (entryFrame m args maxL)) : Met l y ws rm Pc Qc mc ms free := by
  refine MetFree.of_bodySF (code := cc) (maxLocals := maxL) (ret := ret) hy ?_ ?_
  · intro args s m h hn
    obtain ⟨meth, c, h1, h2, h3, h4, h5, h6, -, -⟩ := Cond.code_spec hn (atoms_spec (ws := ws) h _ (by rw [hw]; exact List.mem_cons_self))
    exact ⟨meth, c, h1, h2, h3, h4, h5, h6⟩
  · intro p e s m args below meth c s₁ B hml hP _
    have hh0 : s₁.heap = s.heap := by rw [B.state]; rfl
    obtain ⟨t, a1, o, b1, b2, b3⟩ := body p e s m args below meth c s₁ B hml hP s₁ hh0 (Stand.of_body B)
    exact ⟨t, o, a1, b1, b2, ⟨b3.1, b3.2⟩⟩
/-- a contract's proof is a walk -/
theorem Ct.ofF {l : Launch} {D : va_G} {cI cJ : ClassId} {ad : Nat → Nat → Nat} {y : MethodName} {cc : ByteArray} {nL : Nat} {ret : Option FieldType} {fr lo : Nat} {as : List Value} {S : zM} {rv : Option Value} {P : zM → Prop} (hy : plainFor y = true) (hn : (lg_sl as).length ≤ nL)
    (h : ∀ E : zE, zG E l D cI cJ ad cc nL y.cls fr lo → zR E ret rv P → Z E S 0 (lv_args 0 as) []) : Ct l D cI cJ ad y cc nL ret fr lo as S rv P := by
  refine ofWF (cc := cc) (maxL := nL) (ret := ret) hy rfl ?_
  intro p e s m args below meth c s₁ B hml hv
  obtain ⟨rfl, hP, hK, hD, hN⟩ := hv
  have hts := atoms_spec (ws := Cond.code y cc nL ret :: wsL_law) B.pre
  have hl := lv_entry as (n := nL) hn
  rw [lg_entry_eq]
  refine h (p, l, e, { frames := fr, cells := 0, slots := 0, locals := lo }, s, m, as.toArray, below, meth, c, MQ below (zQ D cI cJ ad rv P) as.toArray s 0 0 (zA ad), zA ad, D, cI, cJ, ad, nL, 0, 0) ?_ ?_ s.heap [] _ va_S.rf hP hl
  · exact ⟨⟨rfl, rfl, rfl, rfl, rfl, rfl⟩, B.exec, B.bytes, hml, findClass_of_methodNamed B.named, fun w hw => hts w (List.mem_cons_of_mem _ hw), ⟨rfl, rfl, Nat.le_refl _, Nat.le_refl _⟩, hK, wl_D hD, fun _ h => h, hN⟩
  · exact ⟨rfl, B.returns, B.notSynchronized, rfl, rfl, rfl⟩
theorem Ct.of {l : Launch} {D : va_G} {cI cJ : ClassId} {ad : Nat → Nat → Nat} {y : MethodName} {cc : ByteArray} {nL : Nat} {ret : Option FieldType} {fr lo : Nat} {as : List Value} {S : zM} {rv : Option Value} {P : zM → Prop} (hy : plainName y.cls = true) (hn : (lg_sl as).length ≤ nL)
    (h : ∀ E : zE, zG E l D cI cJ ad cc nL y.cls fr lo → zR E ret rv P → Z E S 0 (lv_args 0 as) []) : Ct l D cI cJ ad y cc nL ret fr lo as S rv P := Ct.ofF (plainFor_of_name hy) hn h
section ZR
variable {E : zE} {l0 : Launch} {D0 : va_G} {cI0 cJ0 : ClassId} {ad : Nat → Nat → Nat} {cc : ByteArray} {nL0 fr lo : Nat} {own : String} {S : zM} {pc : Nat} {L : List (Nat × Value)} {st : List Value}
/-- the same memory, told otherwise -/
theorem z_mem {T : zM} (hE : zG E l0 D0 cI0 cJ0 ad cc nL0 own fr lo) (h : ∀ r j, (r, j) ∈ ks → cf cI0 cJ0 ad S r j = cf cI0 cJ0 ad T r j) (k : Z E T pc L st) : Z E S pc L st := by
  obtain ⟨p, l, e, R, s, m, args, below, meth, c, Q, A, D, cI, cJ, ad1, nL, cells, slots⟩ := E
  obtain ⟨⟨rfl, rfl, rfl, rfl, rfl, rfl⟩, hx⟩ := hE
  intro H locs ls hS hP hl
  exact k H locs ls hS (by rw [← zQ_P h]; exact hP) hl
/-- fewer locals, in another order -/
theorem z_L {L' : List (Nat × Value)} (is : List Nat) (h : lv_pick L is = L') (k : Z E S pc L' st) : Z E S pc L st := by
  obtain ⟨p, l, e, R, s, m, args, below, meth, c, Q, A, D, cI, cJ, ad1, nL, cells, slots⟩ := E
  intro H locs ls hS hP hl
  exact k H locs ls hS hP (lv_sub hl is h)
theorem z_iconst (hE : zG E l0 D0 cI0 cJ0 ad cc nL0 own fr lo) {n : Int} (d : decode cc pc = .ok (.iconst n, 1)) (k : Z E S (pc + 1) L (.int (i32 n) :: st)) : Z E S pc L (st) := by
  obtain ⟨p, l, e, R, s, m, args, below, meth, c, Q, A, D, cI, cJ, ad1, nL, cells, slots⟩ := E
  obtain ⟨⟨rfl, rfl, rfl, rfl, rfl, rfl⟩, hx, hb, hml, hown, hts, ⟨hf1, hf2, hf3, hf4⟩, hK, hD, hA, hN⟩ := hE
  intro H locs ls hS hP hl
  exact lv_iconst hx hb d rfl (k H locs ls hS hP hl)
theorem z_bipush (hE : zG E l0 D0 cI0 cJ0 ad cc nL0 own fr lo) {n : Int} {a : Int} (hv : (Int8.ofInt n).toInt32 = i32 a) (d : decode cc pc = .ok (.bipush n, 2)) (k : Z E S (pc + 2) L (.int (i32 a) :: st)) : Z E S pc L (st) := by
  obtain ⟨p, l, e, R, s, m, args, below, meth, c, Q, A, D, cI, cJ, ad1, nL, cells, slots⟩ := E
  obtain ⟨⟨rfl, rfl, rfl, rfl, rfl, rfl⟩, hx, hb, hml, hown, hts, ⟨hf1, hf2, hf3, hf4⟩, hK, hD, hA, hN⟩ := hE
  intro H locs ls hS hP hl
  exact lv_bipush hx hb d hv (k H locs ls hS hP hl)
theorem z_sipush (hE : zG E l0 D0 cI0 cJ0 ad cc nL0 own fr lo) {n : Int} {a : Int} (hv : (Int16.ofInt n).toInt32 = i32 a) (d : decode cc pc = .ok (.sipush n, 3)) (k : Z E S (pc + 3) L (.int (i32 a) :: st)) : Z E S pc L (st) := by
  obtain ⟨p, l, e, R, s, m, args, below, meth, c, Q, A, D, cI, cJ, ad1, nL, cells, slots⟩ := E
  obtain ⟨⟨rfl, rfl, rfl, rfl, rfl, rfl⟩, hx, hb, hml, hown, hts, ⟨hf1, hf2, hf3, hf4⟩, hK, hD, hA, hN⟩ := hE
  intro H locs ls hS hP hl
  exact lv_sipush hx hb d hv (k H locs ls hS hP hl)
theorem z_lconst (hE : zG E l0 D0 cI0 cJ0 ad cc nL0 own fr lo) {n : Fin 2} {a : Int} (hv : Int64.ofNat (n : Nat) = i64 a) (d : decode cc pc = .ok (.lconst n, 1)) (k : Z E S (pc + 1) L (.long (i64 a) :: st)) : Z E S pc L (st) := by
  obtain ⟨p, l, e, R, s, m, args, below, meth, c, Q, A, D, cI, cJ, ad1, nL, cells, slots⟩ := E
  obtain ⟨⟨rfl, rfl, rfl, rfl, rfl, rfl⟩, hx, hb, hml, hown, hts, ⟨hf1, hf2, hf3, hf4⟩, hK, hD, hA, hN⟩ := hE
  intro H locs ls hS hP hl
  exact lv_lconst hx hb d hv (k H locs ls hS hP hl)
theorem z_ldc (hE : zG E l0 D0 cI0 cJ0 ad cc nL0 own fr lo) {index : Nat} {v : Int32} {a : Int} (hw : Cond.constant own index v ∈ wsL_law) (hv : v = i32 a) (d : decode cc pc = .ok (.ldc index, 2)) (k : Z E S (pc + 2) L (.int (i32 a) :: st)) : Z E S pc L (st) := by
  obtain ⟨p, l, e, R, s, m, args, below, meth, c, Q, A, D, cI, cJ, ad1, nL, cells, slots⟩ := E
  obtain ⟨⟨rfl, rfl, rfl, rfl, rfl, rfl⟩, hx, hb, hml, hown, hts, ⟨hf1, hf2, hf3, hf4⟩, hK, hD, hA, hN⟩ := hE
  intro H locs ls hS hP hl
  subst hv
  exact W.ldc hx hb hown (hts _ hw) rfl d (k H locs ls hS hP hl)
theorem z_ldc2 (hE : zG E l0 D0 cI0 cJ0 ad cc nL0 own fr lo) {index : Nat} {v : Int64} {a : Int} (hw : Cond.constantLong own index v ∈ wsL_law) (hv : v = i64 a) (d : decode cc pc = .ok (.ldc2_w index, 3)) (k : Z E S (pc + 3) L (.long (i64 a) :: st)) : Z E S pc L (st) := by
  obtain ⟨p, l, e, R, s, m, args, below, meth, c, Q, A, D, cI, cJ, ad1, nL, cells, slots⟩ := E
  obtain ⟨⟨rfl, rfl, rfl, rfl, rfl, rfl⟩, hx, hb, hml, hown, hts, ⟨hf1, hf2, hf3, hf4⟩, hK, hD, hA, hN⟩ := hE
  intro H locs ls hS hP hl
  subst hv
  exact W.ldc2 hx hb hown (hts _ hw) rfl d (k H locs ls hS hP hl)
theorem z_iload_n (hE : zG E l0 D0 cI0 cJ0 ad cc nL0 own fr lo) {j : Fin 4} {i : Nat} {x : Int32} (kk : Nat) (hi : (j : Nat) = i) (hk : L[kk]? = some (i, .int x)) (d : decode cc pc = .ok (.iload_n j, 1)) (k : Z E S (pc + 1) L (.int x :: st)) : Z E S pc L (st) := by
  obtain ⟨p, l, e, R, s, m, args, below, meth, c, Q, A, D, cI, cJ, ad1, nL, cells, slots⟩ := E
  obtain ⟨⟨rfl, rfl, rfl, rfl, rfl, rfl⟩, hx, hb, hml, hown, hts, ⟨hf1, hf2, hf3, hf4⟩, hK, hD, hA, hN⟩ := hE
  intro H locs ls hS hP hl
  exact lv_iload_n hx hb d hi (lv_at hl kk hk) (k H locs ls hS hP hl)
theorem z_iload (hE : zG E l0 D0 cI0 cJ0 ad cc nL0 own fr lo) {i : Nat} {x : Int32} (kk : Nat) (hk : L[kk]? = some (i, .int x)) (d : decode cc pc = .ok (.iload i, 2)) (k : Z E S (pc + 2) L (.int x :: st)) : Z E S pc L (st) := by
  obtain ⟨p, l, e, R, s, m, args, below, meth, c, Q, A, D, cI, cJ, ad1, nL, cells, slots⟩ := E
  obtain ⟨⟨rfl, rfl, rfl, rfl, rfl, rfl⟩, hx, hb, hml, hown, hts, ⟨hf1, hf2, hf3, hf4⟩, hK, hD, hA, hN⟩ := hE
  intro H locs ls hS hP hl
  exact lv_iload hx hb d (lv_at hl kk hk) (k H locs ls hS hP hl)
theorem z_istore_n (hE : zG E l0 D0 cI0 cJ0 ad cc nL0 own fr lo) {j : Fin 4} {i : Nat} {x : Int32} {L2 : List (Nat × Value)} (hi : (j : Nat) = i) (hn : i < nL0) (hL : (i, Value.int x) :: L.filter (fun q => !(q.1 == i) && !(q.1 + 1 == i && q.2.category == 2)) = L2) (d : decode cc pc = .ok (.istore_n j, 1)) (k : Z E S (pc + 1) L2 (st)) : Z E S pc L (.int x :: st) := by
  obtain ⟨p, l, e, R, s, m, args, below, meth, c, Q, A, D, cI, cJ, ad1, nL, cells, slots⟩ := E
  obtain ⟨⟨rfl, rfl, rfl, rfl, rfl, rfl⟩, hx, hb, hml, hown, hts, ⟨hf1, hf2, hf3, hf4⟩, hK, hD, hA, hN⟩ := hE
  intro H locs ls hS hP hl
  exact lv_istore_n hx hb d hi hl hn hL (fun ls hl => k H locs ls hS hP hl)
theorem z_istore (hE : zG E l0 D0 cI0 cJ0 ad cc nL0 own fr lo) {i : Nat} {x : Int32} {L2 : List (Nat × Value)} (hn : i < nL0) (hL : (i, Value.int x) :: L.filter (fun q => !(q.1 == i) && !(q.1 + 1 == i && q.2.category == 2)) = L2) (d : decode cc pc = .ok (.istore i, 2)) (k : Z E S (pc + 2) L2 (st)) : Z E S pc L (.int x :: st) := by
  obtain ⟨p, l, e, R, s, m, args, below, meth, c, Q, A, D, cI, cJ, ad1, nL, cells, slots⟩ := E
  obtain ⟨⟨rfl, rfl, rfl, rfl, rfl, rfl⟩, hx, hb, hml, hown, hts, ⟨hf1, hf2, hf3, hf4⟩, hK, hD, hA, hN⟩ := hE
  intro H locs ls hS hP hl
  exact lv_istore hx hb d hl hn hL (fun ls hl => k H locs ls hS hP hl)
theorem z_lload_n (hE : zG E l0 D0 cI0 cJ0 ad cc nL0 own fr lo) {j : Fin 4} {i : Nat} {x : Int64} (kk : Nat) (hi : (j : Nat) = i) (hk : L[kk]? = some (i, .long x)) (d : decode cc pc = .ok (.lload_n j, 1)) (k : Z E S (pc + 1) L (.long x :: st)) : Z E S pc L (st) := by
  obtain ⟨p, l, e, R, s, m, args, below, meth, c, Q, A, D, cI, cJ, ad1, nL, cells, slots⟩ := E
  obtain ⟨⟨rfl, rfl, rfl, rfl, rfl, rfl⟩, hx, hb, hml, hown, hts, ⟨hf1, hf2, hf3, hf4⟩, hK, hD, hA, hN⟩ := hE
  intro H locs ls hS hP hl
  exact lv_lload_n hx hb d hi (lv_at hl kk hk) (k H locs ls hS hP hl)
theorem z_lload (hE : zG E l0 D0 cI0 cJ0 ad cc nL0 own fr lo) {i : Nat} {x : Int64} (kk : Nat) (hk : L[kk]? = some (i, .long x)) (d : decode cc pc = .ok (.lload i, 2)) (k : Z E S (pc + 2) L (.long x :: st)) : Z E S pc L (st) := by
  obtain ⟨p, l, e, R, s, m, args, below, meth, c, Q, A, D, cI, cJ, ad1, nL, cells, slots⟩ := E
  obtain ⟨⟨rfl, rfl, rfl, rfl, rfl, rfl⟩, hx, hb, hml, hown, hts, ⟨hf1, hf2, hf3, hf4⟩, hK, hD, hA, hN⟩ := hE
  intro H locs ls hS hP hl
  exact lv_lload hx hb d (lv_at hl kk hk) (k H locs ls hS hP hl)
theorem z_lstore_n (hE : zG E l0 D0 cI0 cJ0 ad cc nL0 own fr lo) {j : Fin 4} {i : Nat} {x : Int64} {L2 : List (Nat × Value)} (hi : (j : Nat) = i) (hn : i + 1 < nL0) (hL : (i, Value.long x) :: L.filter (fun q => !(q.1 == i) && (!(q.1 == i + 1) && !(q.1 + 1 == i && q.2.category == 2))) = L2) (d : decode cc pc = .ok (.lstore_n j, 1)) (k : Z E S (pc + 1) L2 (st)) : Z E S pc L (.long x :: st) := by
  obtain ⟨p, l, e, R, s, m, args, below, meth, c, Q, A, D, cI, cJ, ad1, nL, cells, slots⟩ := E
  obtain ⟨⟨rfl, rfl, rfl, rfl, rfl, rfl⟩, hx, hb, hml, hown, hts, ⟨hf1, hf2, hf3, hf4⟩, hK, hD, hA, hN⟩ := hE
  intro H locs ls hS hP hl
  exact lv_lstore_n hx hb d hi hl hn hL (fun ls hl => k H locs ls hS hP hl)
theorem z_lstore (hE : zG E l0 D0 cI0 cJ0 ad cc nL0 own fr lo) {i : Nat} {x : Int64} {L2 : List (Nat × Value)} (hn : i + 1 < nL0) (hL : (i, Value.long x) :: L.filter (fun q => !(q.1 == i) && (!(q.1 == i + 1) && !(q.1 + 1 == i && q.2.category == 2))) = L2) (d : decode cc pc = .ok (.lstore i, 2)) (k : Z E S (pc + 2) L2 (st)) : Z E S pc L (.long x :: st) := by
  obtain ⟨p, l, e, R, s, m, args, below, meth, c, Q, A, D, cI, cJ, ad1, nL, cells, slots⟩ := E
  obtain ⟨⟨rfl, rfl, rfl, rfl, rfl, rfl⟩, hx, hb, hml, hown, hts, ⟨hf1, hf2, hf3, hf4⟩, hK, hD, hA, hN⟩ := hE
  intro H locs ls hS hP hl
  exact lv_lstore hx hb d hl hn hL (fun ls hl => k H locs ls hS hP hl)
theorem z_aload_n (hE : zG E l0 D0 cI0 cJ0 ad cc nL0 own fr lo) {j : Fin 4} {i : Nat} {x : Nat} (kk : Nat) (hi : (j : Nat) = i) (hk : L[kk]? = some (i, .ref x)) (d : decode cc pc = .ok (.aload_n j, 1)) (k : Z E S (pc + 1) L (.ref x :: st)) : Z E S pc L (st) := by
  obtain ⟨p, l, e, R, s, m, args, below, meth, c, Q, A, D, cI, cJ, ad1, nL, cells, slots⟩ := E
  obtain ⟨⟨rfl, rfl, rfl, rfl, rfl, rfl⟩, hx, hb, hml, hown, hts, ⟨hf1, hf2, hf3, hf4⟩, hK, hD, hA, hN⟩ := hE
  intro H locs ls hS hP hl
  exact lv_aload_n hx hb d hi (lv_at hl kk hk) (k H locs ls hS hP hl)
theorem z_aload (hE : zG E l0 D0 cI0 cJ0 ad cc nL0 own fr lo) {i : Nat} {x : Nat} (kk : Nat) (hk : L[kk]? = some (i, .ref x)) (d : decode cc pc = .ok (.aload i, 2)) (k : Z E S (pc + 2) L (.ref x :: st)) : Z E S pc L (st) := by
  obtain ⟨p, l, e, R, s, m, args, below, meth, c, Q, A, D, cI, cJ, ad1, nL, cells, slots⟩ := E
  obtain ⟨⟨rfl, rfl, rfl, rfl, rfl, rfl⟩, hx, hb, hml, hown, hts, ⟨hf1, hf2, hf3, hf4⟩, hK, hD, hA, hN⟩ := hE
  intro H locs ls hS hP hl
  exact lv_aload hx hb d (lv_at hl kk hk) (k H locs ls hS hP hl)
theorem z_astore_n (hE : zG E l0 D0 cI0 cJ0 ad cc nL0 own fr lo) {j : Fin 4} {i : Nat} {x : Nat} {L2 : List (Nat × Value)} (hi : (j : Nat) = i) (hn : i < nL0) (hL : (i, Value.ref x) :: L.filter (fun q => !(q.1 == i) && !(q.1 + 1 == i && q.2.category == 2)) = L2) (d : decode cc pc = .ok (.astore_n j, 1)) (k : Z E S (pc + 1) L2 (st)) : Z E S pc L (.ref x :: st) := by
  obtain ⟨p, l, e, R, s, m, args, below, meth, c, Q, A, D, cI, cJ, ad1, nL, cells, slots⟩ := E
  obtain ⟨⟨rfl, rfl, rfl, rfl, rfl, rfl⟩, hx, hb, hml, hown, hts, ⟨hf1, hf2, hf3, hf4⟩, hK, hD, hA, hN⟩ := hE
  intro H locs ls hS hP hl
  exact lv_astore_n hx hb d hi hl hn hL (fun ls hl => k H locs ls hS hP hl)
theorem z_astore (hE : zG E l0 D0 cI0 cJ0 ad cc nL0 own fr lo) {i : Nat} {x : Nat} {L2 : List (Nat × Value)} (hn : i < nL0) (hL : (i, Value.ref x) :: L.filter (fun q => !(q.1 == i) && !(q.1 + 1 == i && q.2.category == 2)) = L2) (d : decode cc pc = .ok (.astore i, 2)) (k : Z E S (pc + 2) L2 (st)) : Z E S pc L (.ref x :: st) := by
  obtain ⟨p, l, e, R, s, m, args, below, meth, c, Q, A, D, cI, cJ, ad1, nL, cells, slots⟩ := E
  obtain ⟨⟨rfl, rfl, rfl, rfl, rfl, rfl⟩, hx, hb, hml, hown, hts, ⟨hf1, hf2, hf3, hf4⟩, hK, hD, hA, hN⟩ := hE
  intro H locs ls hS hP hl
  exact lv_astore hx hb d hl hn hL (fun ls hl => k H locs ls hS hP hl)
theorem z_iinc (hE : zG E l0 D0 cI0 cJ0 ad cc nL0 own fr lo) {i : Nat} {n a : Int} {L2 : List (Nat × Value)} (kk : Nat) (hk : L[kk]? = some (i, .int (i32 a))) (hn : i < nL0) (hL : (i, Value.int (i32 (a + n))) :: L.filter (fun q => !(q.1 == i) && !(q.1 + 1 == i && q.2.category == 2)) = L2) (d : decode cc pc = .ok (.iinc i n, 3)) (k : Z E S (pc + 3) L2 (st)) : Z E S pc L (st) := by
  obtain ⟨p, l, e, R, s, m, args, below, meth, c, Q, A, D, cI, cJ, ad1, nL, cells, slots⟩ := E
  obtain ⟨⟨rfl, rfl, rfl, rfl, rfl, rfl⟩, hx, hb, hml, hown, hts, ⟨hf1, hf2, hf3, hf4⟩, hK, hD, hA, hN⟩ := hE
  intro H locs ls hS hP hl
  exact lv_iinc hx hb d hl hk (i32_add a n) hn hL (fun ls hl => k H locs ls hS hP hl)
theorem z_iadd (hE : zG E l0 D0 cI0 cJ0 ad cc nL0 own fr lo) {a b : Int} (d : decode cc pc = .ok (.iadd, 1)) (k : Z E S (pc + 1) L (.int (i32 (a + b)) :: st)) : Z E S pc L (.int (i32 b) :: .int (i32 a) :: st) := by
  obtain ⟨p, l, e, R, s, m, args, below, meth, c, Q, A, D, cI, cJ, ad1, nL, cells, slots⟩ := E
  obtain ⟨⟨rfl, rfl, rfl, rfl, rfl, rfl⟩, hx, hb, hml, hown, hts, ⟨hf1, hf2, hf3, hf4⟩, hK, hD, hA, hN⟩ := hE
  intro H locs ls hS hP hl
  refine lv_iadd hx hb d ?_
  rw [i32_add]
  exact k H locs ls hS hP hl
theorem z_isub (hE : zG E l0 D0 cI0 cJ0 ad cc nL0 own fr lo) {a b : Int} (d : decode cc pc = .ok (.isub, 1)) (k : Z E S (pc + 1) L (.int (i32 (a - b)) :: st)) : Z E S pc L (.int (i32 b) :: .int (i32 a) :: st) := by
  obtain ⟨p, l, e, R, s, m, args, below, meth, c, Q, A, D, cI, cJ, ad1, nL, cells, slots⟩ := E
  obtain ⟨⟨rfl, rfl, rfl, rfl, rfl, rfl⟩, hx, hb, hml, hown, hts, ⟨hf1, hf2, hf3, hf4⟩, hK, hD, hA, hN⟩ := hE
  intro H locs ls hS hP hl
  refine lv_isub hx hb d ?_
  rw [i32_sub]
  exact k H locs ls hS hP hl
theorem z_imul (hE : zG E l0 D0 cI0 cJ0 ad cc nL0 own fr lo) {a b : Int} (d : decode cc pc = .ok (.imul, 1)) (k : Z E S (pc + 1) L (.int (i32 (a * b)) :: st)) : Z E S pc L (.int (i32 b) :: .int (i32 a) :: st) := by
  obtain ⟨p, l, e, R, s, m, args, below, meth, c, Q, A, D, cI, cJ, ad1, nL, cells, slots⟩ := E
  obtain ⟨⟨rfl, rfl, rfl, rfl, rfl, rfl⟩, hx, hb, hml, hown, hts, ⟨hf1, hf2, hf3, hf4⟩, hK, hD, hA, hN⟩ := hE
  intro H locs ls hS hP hl
  refine lv_imul hx hb d ?_
  rw [i32_mul]
  exact k H locs ls hS hP hl
theorem z_idiv (hE : zG E l0 D0 cI0 cJ0 ad cc nL0 own fr lo) {a b : Int} (ha : b32 a) (hb2 : b32 b) (h0 : 0 < b) (d : decode cc pc = .ok (.idiv, 1)) (k : Z E S (pc + 1) L (.int (i32 (a.tdiv b)) :: st)) : Z E S pc L (.int (i32 b) :: .int (i32 a) :: st) := by
  obtain ⟨p, l, e, R, s, m, args, below, meth, c, Q, A, D, cI, cJ, ad1, nL, cells, slots⟩ := E
  obtain ⟨⟨rfl, rfl, rfl, rfl, rfl, rfl⟩, hx, hb, hml, hown, hts, ⟨hf1, hf2, hf3, hf4⟩, hK, hD, hA, hN⟩ := hE
  intro H locs ls hS hP hl
  refine lv_idiv hx hb d (fun q => by rw [i32_0, i32_eq hb2 b32_0] at q; omega) ?_
  rw [i32_div ha hb2 h0]
  exact k H locs ls hS hP hl
theorem z_irem (hE : zG E l0 D0 cI0 cJ0 ad cc nL0 own fr lo) {a b : Int} (ha : b32 a) (hb2 : b32 b) (h0 : 0 < b) (d : decode cc pc = .ok (.irem, 1)) (k : Z E S (pc + 1) L (.int (i32 (a - a.tdiv b * b)) :: st)) : Z E S pc L (.int (i32 b) :: .int (i32 a) :: st) := by
  obtain ⟨p, l, e, R, s, m, args, below, meth, c, Q, A, D, cI, cJ, ad1, nL, cells, slots⟩ := E
  obtain ⟨⟨rfl, rfl, rfl, rfl, rfl, rfl⟩, hx, hb, hml, hown, hts, ⟨hf1, hf2, hf3, hf4⟩, hK, hD, hA, hN⟩ := hE
  intro H locs ls hS hP hl
  refine lv_irem hx hb d (fun q => by rw [i32_0, i32_eq hb2 b32_0] at q; omega) ?_
  rw [i32_div ha hb2 h0, i32_mul, i32_sub]
  exact k H locs ls hS hP hl
theorem z_ladd (hE : zG E l0 D0 cI0 cJ0 ad cc nL0 own fr lo) {a b : Int} (d : decode cc pc = .ok (.ladd, 1)) (k : Z E S (pc + 1) L (.long (i64 (a + b)) :: st)) : Z E S pc L (.long (i64 b) :: .long (i64 a) :: st) := by
  obtain ⟨p, l, e, R, s, m, args, below, meth, c, Q, A, D, cI, cJ, ad1, nL, cells, slots⟩ := E
  obtain ⟨⟨rfl, rfl, rfl, rfl, rfl, rfl⟩, hx, hb, hml, hown, hts, ⟨hf1, hf2, hf3, hf4⟩, hK, hD, hA, hN⟩ := hE
  intro H locs ls hS hP hl
  refine lv_ladd hx hb d ?_
  rw [i64_add]
  exact k H locs ls hS hP hl
theorem z_lsub (hE : zG E l0 D0 cI0 cJ0 ad cc nL0 own fr lo) {a b : Int} (d : decode cc pc = .ok (.lsub, 1)) (k : Z E S (pc + 1) L (.long (i64 (a - b)) :: st)) : Z E S pc L (.long (i64 b) :: .long (i64 a) :: st) := by
  obtain ⟨p, l, e, R, s, m, args, below, meth, c, Q, A, D, cI, cJ, ad1, nL, cells, slots⟩ := E
  obtain ⟨⟨rfl, rfl, rfl, rfl, rfl, rfl⟩, hx, hb, hml, hown, hts, ⟨hf1, hf2, hf3, hf4⟩, hK, hD, hA, hN⟩ := hE
  intro H locs ls hS hP hl
  refine lv_lsub hx hb d ?_
  rw [i64_sub]
  exact k H locs ls hS hP hl
theorem z_lmul (hE : zG E l0 D0 cI0 cJ0 ad cc nL0 own fr lo) {a b : Int} (d : decode cc pc = .ok (.lmul, 1)) (k : Z E S (pc + 1) L (.long (i64 (a * b)) :: st)) : Z E S pc L (.long (i64 b) :: .long (i64 a) :: st) := by
  obtain ⟨p, l, e, R, s, m, args, below, meth, c, Q, A, D, cI, cJ, ad1, nL, cells, slots⟩ := E
  obtain ⟨⟨rfl, rfl, rfl, rfl, rfl, rfl⟩, hx, hb, hml, hown, hts, ⟨hf1, hf2, hf3, hf4⟩, hK, hD, hA, hN⟩ := hE
  intro H locs ls hS hP hl
  refine lv_lmul hx hb d ?_
  rw [i64_mul]
  exact k H locs ls hS hP hl
theorem z_ldiv (hE : zG E l0 D0 cI0 cJ0 ad cc nL0 own fr lo) {a b : Int} (ha : b64 a) (hb2 : b64 b) (h0 : 0 < b) (d : decode cc pc = .ok (.ldiv, 1)) (k : Z E S (pc + 1) L (.long (i64 (a.tdiv b)) :: st)) : Z E S pc L (.long (i64 b) :: .long (i64 a) :: st) := by
  obtain ⟨p, l, e, R, s, m, args, below, meth, c, Q, A, D, cI, cJ, ad1, nL, cells, slots⟩ := E
  obtain ⟨⟨rfl, rfl, rfl, rfl, rfl, rfl⟩, hx, hb, hml, hown, hts, ⟨hf1, hf2, hf3, hf4⟩, hK, hD, hA, hN⟩ := hE
  intro H locs ls hS hP hl
  refine lv_ldiv hx hb d (fun q => by rw [i64_0, i64_eq hb2 b64_0] at q; omega) ?_
  rw [i64_div ha hb2 h0]
  exact k H locs ls hS hP hl
theorem z_lrem (hE : zG E l0 D0 cI0 cJ0 ad cc nL0 own fr lo) {a b : Int} (ha : b64 a) (hb2 : b64 b) (h0 : 0 < b) (d : decode cc pc = .ok (.lrem, 1)) (k : Z E S (pc + 1) L (.long (i64 (a - a.tdiv b * b)) :: st)) : Z E S pc L (.long (i64 b) :: .long (i64 a) :: st) := by
  obtain ⟨p, l, e, R, s, m, args, below, meth, c, Q, A, D, cI, cJ, ad1, nL, cells, slots⟩ := E
  obtain ⟨⟨rfl, rfl, rfl, rfl, rfl, rfl⟩, hx, hb, hml, hown, hts, ⟨hf1, hf2, hf3, hf4⟩, hK, hD, hA, hN⟩ := hE
  intro H locs ls hS hP hl
  refine lv_lrem hx hb d (fun q => by rw [i64_0, i64_eq hb2 b64_0] at q; omega) ?_
  rw [i64_div ha hb2 h0, i64_mul, i64_sub]
  exact k H locs ls hS hP hl
theorem z_i2l (hE : zG E l0 D0 cI0 cJ0 ad cc nL0 own fr lo) {a : Int} (ha : b32 a) (d : decode cc pc = .ok (.i2l, 1)) (k : Z E S (pc + 1) L (.long (i64 a) :: st)) : Z E S pc L (.int (i32 a) :: st) := by
  obtain ⟨p, l, e, R, s, m, args, below, meth, c, Q, A, D, cI, cJ, ad1, nL, cells, slots⟩ := E
  obtain ⟨⟨rfl, rfl, rfl, rfl, rfl, rfl⟩, hx, hb, hml, hown, hts, ⟨hf1, hf2, hf3, hf4⟩, hK, hD, hA, hN⟩ := hE
  intro H locs ls hS hP hl
  exact lv_i2l hx hb d (i32_l ha) (k H locs ls hS hP hl)
theorem z_l2i (hE : zG E l0 D0 cI0 cJ0 ad cc nL0 own fr lo) {a : Int} (d : decode cc pc = .ok (.l2i, 1)) (k : Z E S (pc + 1) L (.int (i32 a) :: st)) : Z E S pc L (.long (i64 a) :: st) := by
  obtain ⟨p, l, e, R, s, m, args, below, meth, c, Q, A, D, cI, cJ, ad1, nL, cells, slots⟩ := E
  obtain ⟨⟨rfl, rfl, rfl, rfl, rfl, rfl⟩, hx, hb, hml, hown, hts, ⟨hf1, hf2, hf3, hf4⟩, hK, hD, hA, hN⟩ := hE
  intro H locs ls hS hP hl
  exact lv_l2i hx hb d (i64_i a) (k H locs ls hS hP hl)
theorem z_dup (hE : zG E l0 D0 cI0 cJ0 ad cc nL0 own fr lo) {v : Value} (hv : v.category = 1) (d : decode cc pc = .ok (.dup, 1)) (k : Z E S (pc + 1) L (v :: v :: st)) : Z E S pc L (v :: st) := by
  obtain ⟨p, l, e, R, s, m, args, below, meth, c, Q, A, D, cI, cJ, ad1, nL, cells, slots⟩ := E
  obtain ⟨⟨rfl, rfl, rfl, rfl, rfl, rfl⟩, hx, hb, hml, hown, hts, ⟨hf1, hf2, hf3, hf4⟩, hK, hD, hA, hN⟩ := hE
  intro H locs ls hS hP hl
  exact lv_dup hx hb d hv (k H locs ls hS hP hl)
theorem z_pop (hE : zG E l0 D0 cI0 cJ0 ad cc nL0 own fr lo) {v : Value} (hv : v.category = 1) (d : decode cc pc = .ok (.pop, 1)) (k : Z E S (pc + 1) L (st)) : Z E S pc L (v :: st) := by
  obtain ⟨p, l, e, R, s, m, args, below, meth, c, Q, A, D, cI, cJ, ad1, nL, cells, slots⟩ := E
  obtain ⟨⟨rfl, rfl, rfl, rfl, rfl, rfl⟩, hx, hb, hml, hown, hts, ⟨hf1, hf2, hf3, hf4⟩, hK, hD, hA, hN⟩ := hE
  intro H locs ls hS hP hl
  exact lv_pop hx hb d hv (k H locs ls hS hP hl)
theorem z_dup2 (hE : zG E l0 D0 cI0 cJ0 ad cc nL0 own fr lo) {v w : Value} (hv : v.category = 1) (hw : w.category = 1) (d : decode cc pc = .ok (.dup2, 1)) (k : Z E S (pc + 1) L (v :: w :: v :: w :: st)) : Z E S pc L (v :: w :: st) := by
  obtain ⟨p, l, e, R, s, m, args, below, meth, c, Q, A, D, cI, cJ, ad1, nL, cells, slots⟩ := E
  obtain ⟨⟨rfl, rfl, rfl, rfl, rfl, rfl⟩, hx, hb, hml, hown, hts, ⟨hf1, hf2, hf3, hf4⟩, hK, hD, hA, hN⟩ := hE
  intro H locs ls hS hP hl
  exact lv_dup2_11 hx hb d hv hw (k H locs ls hS hP hl)
theorem z_dup2l (hE : zG E l0 D0 cI0 cJ0 ad cc nL0 own fr lo) {v : Value} (hv : v.category = 2) (d : decode cc pc = .ok (.dup2, 1)) (k : Z E S (pc + 1) L (v :: v :: st)) : Z E S pc L (v :: st) := by
  obtain ⟨p, l, e, R, s, m, args, below, meth, c, Q, A, D, cI, cJ, ad1, nL, cells, slots⟩ := E
  obtain ⟨⟨rfl, rfl, rfl, rfl, rfl, rfl⟩, hx, hb, hml, hown, hts, ⟨hf1, hf2, hf3, hf4⟩, hK, hD, hA, hN⟩ := hE
  intro H locs ls hS hP hl
  exact lv_dup2_2 hx hb d hv (k H locs ls hS hP hl)
theorem z_goto (hE : zG E l0 D0 cI0 cJ0 ad cc nL0 own fr lo) {off : Int} {tgt : Nat} (ht : (pc : Int) + off = (tgt : Int)) (d : decode cc pc = .ok (.goto off, 3)) (k : Z E S tgt L (st)) : Z E S pc L (st) := by
  obtain ⟨p, l, e, R, s, m, args, below, meth, c, Q, A, D, cI, cJ, ad1, nL, cells, slots⟩ := E
  obtain ⟨⟨rfl, rfl, rfl, rfl, rfl, rfl⟩, hx, hb, hml, hown, hts, ⟨hf1, hf2, hf3, hf4⟩, hK, hD, hA, hN⟩ := hE
  intro H locs ls hS hP hl
  exact lv_goto hx hb d ht (k H locs ls hS hP hl)
theorem z_lcmp (hE : zG E l0 D0 cI0 cJ0 ad cc nL0 own fr lo) {a b : Int} (ha : b64 a) (hb2 : b64 b) (d : decode cc pc = .ok (.lcmp, 1)) (k : Z E S (pc + 1) L (.int (i32 (if b < a then 1 else if a = b then 0 else -1)) :: st)) : Z E S pc L (.long (i64 b) :: .long (i64 a) :: st) := by
  obtain ⟨p, l, e, R, s, m, args, below, meth, c, Q, A, D, cI, cJ, ad1, nL, cells, slots⟩ := E
  obtain ⟨⟨rfl, rfl, rfl, rfl, rfl, rfl⟩, hx, hb, hml, hown, hts, ⟨hf1, hf2, hf3, hf4⟩, hK, hD, hA, hN⟩ := hE
  intro H locs ls hS hP hl
  refine W.lcmp hx hb d ?_
  have e : lg_cmp (i64 a) (i64 b) = i32 (if b < a then 1 else if a = b then 0 else -1) := by
    unfold lg_cmp
    by_cases h1 : b < a
    · rw [if_pos h1, if_pos ((i64_lt hb2 ha).mpr h1)]; rfl
    · rw [if_neg h1, if_neg (fun q => h1 ((i64_lt hb2 ha).mp q))]
      by_cases h2 : a = b
      · rw [if_pos h2, if_pos ((i64_eq ha hb2).mpr h2)]; rfl
      · rw [if_neg h2, if_neg (fun q => h2 ((i64_eq ha hb2).mp q))]; rfl
  rw [e]
  exact k H locs ls hS hP hl
theorem z_icmp_eq (hE : zG E l0 D0 cI0 cJ0 ad cc nL0 own fr lo) {a b : Int} {off : Int} {tgt : Nat} (d : decode cc pc = .ok (.if_icmp .eq off, 3)) (ht : (pc : Int) + off = (tgt : Int)) (ha : b32 a) (hb2 : b32 b) (kt : a = b → Z E S tgt L st) (kf : ¬ a = b → Z E S (pc + 3) L st) : Z E S pc L (.int (i32 b) :: .int (i32 a) :: st) := by
  obtain ⟨p, l, e, R, s, m, args, below, meth, c, Q, A, D, cI, cJ, ad1, nL, cells, slots⟩ := E
  obtain ⟨⟨rfl, rfl, rfl, rfl, rfl, rfl⟩, hx, hb, hml, hown, hts, ⟨hf1, hf2, hf3, hf4⟩, hK, hD, hA, hN⟩ := hE
  intro H locs ls hS hP hl
  exact lv_icmp_eq hx hb d ht (fun q => kt ((i32_eq ha hb2).mp q) H locs ls hS hP hl) (fun q => kf (fun r => q ((i32_eq ha hb2).mpr r)) H locs ls hS hP hl)
theorem z_if_eq (hE : zG E l0 D0 cI0 cJ0 ad cc nL0 own fr lo) {a : Int} {off : Int} {tgt : Nat} (d : decode cc pc = .ok (.ifCond .eq off, 3)) (ht : (pc : Int) + off = (tgt : Int)) (ha : b32 a) (kt : a = 0 → Z E S tgt L st) (kf : ¬ a = 0 → Z E S (pc + 3) L st) : Z E S pc L (.int (i32 a) :: st) := by
  obtain ⟨p, l, e, R, s, m, args, below, meth, c, Q, A, D, cI, cJ, ad1, nL, cells, slots⟩ := E
  obtain ⟨⟨rfl, rfl, rfl, rfl, rfl, rfl⟩, hx, hb, hml, hown, hts, ⟨hf1, hf2, hf3, hf4⟩, hK, hD, hA, hN⟩ := hE
  intro H locs ls hS hP hl
  exact lv_if_eq hx hb d ht (fun q => kt ((i32_eq ha b32_0).mp q) H locs ls hS hP hl) (fun q => kf (fun r => q ((i32_eq ha b32_0).mpr r)) H locs ls hS hP hl)
theorem z_icmp_ne (hE : zG E l0 D0 cI0 cJ0 ad cc nL0 own fr lo) {a b : Int} {off : Int} {tgt : Nat} (d : decode cc pc = .ok (.if_icmp .ne off, 3)) (ht : (pc : Int) + off = (tgt : Int)) (ha : b32 a) (hb2 : b32 b) (kt : ¬ a = b → Z E S tgt L st) (kf : a = b → Z E S (pc + 3) L st) : Z E S pc L (.int (i32 b) :: .int (i32 a) :: st) := by
  obtain ⟨p, l, e, R, s, m, args, below, meth, c, Q, A, D, cI, cJ, ad1, nL, cells, slots⟩ := E
  obtain ⟨⟨rfl, rfl, rfl, rfl, rfl, rfl⟩, hx, hb, hml, hown, hts, ⟨hf1, hf2, hf3, hf4⟩, hK, hD, hA, hN⟩ := hE
  intro H locs ls hS hP hl
  exact lv_icmp_ne hx hb d ht (fun q => kt ((not_congr (i32_eq ha hb2)).mp q) H locs ls hS hP hl) (fun q => kf (by first | exact (i32_eq ha hb2).mp (Classical.not_not.mp q) | exact (i32_eq ha hb2).mp q) H locs ls hS hP hl)
theorem z_if_ne (hE : zG E l0 D0 cI0 cJ0 ad cc nL0 own fr lo) {a : Int} {off : Int} {tgt : Nat} (d : decode cc pc = .ok (.ifCond .ne off, 3)) (ht : (pc : Int) + off = (tgt : Int)) (ha : b32 a) (kt : ¬ a = 0 → Z E S tgt L st) (kf : a = 0 → Z E S (pc + 3) L st) : Z E S pc L (.int (i32 a) :: st) := by
  obtain ⟨p, l, e, R, s, m, args, below, meth, c, Q, A, D, cI, cJ, ad1, nL, cells, slots⟩ := E
  obtain ⟨⟨rfl, rfl, rfl, rfl, rfl, rfl⟩, hx, hb, hml, hown, hts, ⟨hf1, hf2, hf3, hf4⟩, hK, hD, hA, hN⟩ := hE
  intro H locs ls hS hP hl
  exact lv_if_ne hx hb d ht (fun q => kt ((not_congr (i32_eq ha b32_0)).mp q) H locs ls hS hP hl) (fun q => kf (by first | exact (i32_eq ha b32_0).mp (Classical.not_not.mp q) | exact (i32_eq ha b32_0).mp q) H locs ls hS hP hl)
theorem z_icmp_lt (hE : zG E l0 D0 cI0 cJ0 ad cc nL0 own fr lo) {a b : Int} {off : Int} {tgt : Nat} (d : decode cc pc = .ok (.if_icmp .lt off, 3)) (ht : (pc : Int) + off = (tgt : Int)) (ha : b32 a) (hb2 : b32 b) (kt : a < b → Z E S tgt L st) (kf : ¬ a < b → Z E S (pc + 3) L st) : Z E S pc L (.int (i32 b) :: .int (i32 a) :: st) := by
  obtain ⟨p, l, e, R, s, m, args, below, meth, c, Q, A, D, cI, cJ, ad1, nL, cells, slots⟩ := E
  obtain ⟨⟨rfl, rfl, rfl, rfl, rfl, rfl⟩, hx, hb, hml, hown, hts, ⟨hf1, hf2, hf3, hf4⟩, hK, hD, hA, hN⟩ := hE
  intro H locs ls hS hP hl
  exact lv_icmp_lt hx hb d ht (fun q => kt ((i32_lt ha hb2).mp q) H locs ls hS hP hl) (fun q => kf (fun r => q ((i32_lt ha hb2).mpr r)) H locs ls hS hP hl)
theorem z_if_lt (hE : zG E l0 D0 cI0 cJ0 ad cc nL0 own fr lo) {a : Int} {off : Int} {tgt : Nat} (d : decode cc pc = .ok (.ifCond .lt off, 3)) (ht : (pc : Int) + off = (tgt : Int)) (ha : b32 a) (kt : a < 0 → Z E S tgt L st) (kf : ¬ a < 0 → Z E S (pc + 3) L st) : Z E S pc L (.int (i32 a) :: st) := by
  obtain ⟨p, l, e, R, s, m, args, below, meth, c, Q, A, D, cI, cJ, ad1, nL, cells, slots⟩ := E
  obtain ⟨⟨rfl, rfl, rfl, rfl, rfl, rfl⟩, hx, hb, hml, hown, hts, ⟨hf1, hf2, hf3, hf4⟩, hK, hD, hA, hN⟩ := hE
  intro H locs ls hS hP hl
  exact lv_if_lt hx hb d ht (fun q => kt ((i32_lt ha b32_0).mp q) H locs ls hS hP hl) (fun q => kf (fun r => q ((i32_lt ha b32_0).mpr r)) H locs ls hS hP hl)
theorem z_icmp_ge (hE : zG E l0 D0 cI0 cJ0 ad cc nL0 own fr lo) {a b : Int} {off : Int} {tgt : Nat} (d : decode cc pc = .ok (.if_icmp .ge off, 3)) (ht : (pc : Int) + off = (tgt : Int)) (ha : b32 a) (hb2 : b32 b) (kt : b ≤ a → Z E S tgt L st) (kf : ¬ b ≤ a → Z E S (pc + 3) L st) : Z E S pc L (.int (i32 b) :: .int (i32 a) :: st) := by
  obtain ⟨p, l, e, R, s, m, args, below, meth, c, Q, A, D, cI, cJ, ad1, nL, cells, slots⟩ := E
  obtain ⟨⟨rfl, rfl, rfl, rfl, rfl, rfl⟩, hx, hb, hml, hown, hts, ⟨hf1, hf2, hf3, hf4⟩, hK, hD, hA, hN⟩ := hE
  intro H locs ls hS hP hl
  exact lv_icmp_ge hx hb d ht (fun q => kt ((i32_le hb2 ha).mp q) H locs ls hS hP hl) (fun q => kf (fun r => q ((i32_le hb2 ha).mpr r)) H locs ls hS hP hl)
theorem z_if_ge (hE : zG E l0 D0 cI0 cJ0 ad cc nL0 own fr lo) {a : Int} {off : Int} {tgt : Nat} (d : decode cc pc = .ok (.ifCond .ge off, 3)) (ht : (pc : Int) + off = (tgt : Int)) (ha : b32 a) (kt : 0 ≤ a → Z E S tgt L st) (kf : ¬ 0 ≤ a → Z E S (pc + 3) L st) : Z E S pc L (.int (i32 a) :: st) := by
  obtain ⟨p, l, e, R, s, m, args, below, meth, c, Q, A, D, cI, cJ, ad1, nL, cells, slots⟩ := E
  obtain ⟨⟨rfl, rfl, rfl, rfl, rfl, rfl⟩, hx, hb, hml, hown, hts, ⟨hf1, hf2, hf3, hf4⟩, hK, hD, hA, hN⟩ := hE
  intro H locs ls hS hP hl
  exact lv_if_ge hx hb d ht (fun q => kt ((i32_le b32_0 ha).mp q) H locs ls hS hP hl) (fun q => kf (fun r => q ((i32_le b32_0 ha).mpr r)) H locs ls hS hP hl)
theorem z_icmp_gt (hE : zG E l0 D0 cI0 cJ0 ad cc nL0 own fr lo) {a b : Int} {off : Int} {tgt : Nat} (d : decode cc pc = .ok (.if_icmp .gt off, 3)) (ht : (pc : Int) + off = (tgt : Int)) (ha : b32 a) (hb2 : b32 b) (kt : b < a → Z E S tgt L st) (kf : ¬ b < a → Z E S (pc + 3) L st) : Z E S pc L (.int (i32 b) :: .int (i32 a) :: st) := by
  obtain ⟨p, l, e, R, s, m, args, below, meth, c, Q, A, D, cI, cJ, ad1, nL, cells, slots⟩ := E
  obtain ⟨⟨rfl, rfl, rfl, rfl, rfl, rfl⟩, hx, hb, hml, hown, hts, ⟨hf1, hf2, hf3, hf4⟩, hK, hD, hA, hN⟩ := hE
  intro H locs ls hS hP hl
  exact lv_icmp_gt hx hb d ht (fun q => kt ((i32_lt hb2 ha).mp q) H locs ls hS hP hl) (fun q => kf (fun r => q ((i32_lt hb2 ha).mpr r)) H locs ls hS hP hl)
theorem z_if_gt (hE : zG E l0 D0 cI0 cJ0 ad cc nL0 own fr lo) {a : Int} {off : Int} {tgt : Nat} (d : decode cc pc = .ok (.ifCond .gt off, 3)) (ht : (pc : Int) + off = (tgt : Int)) (ha : b32 a) (kt : 0 < a → Z E S tgt L st) (kf : ¬ 0 < a → Z E S (pc + 3) L st) : Z E S pc L (.int (i32 a) :: st) := by
  obtain ⟨p, l, e, R, s, m, args, below, meth, c, Q, A, D, cI, cJ, ad1, nL, cells, slots⟩ := E
  obtain ⟨⟨rfl, rfl, rfl, rfl, rfl, rfl⟩, hx, hb, hml, hown, hts, ⟨hf1, hf2, hf3, hf4⟩, hK, hD, hA, hN⟩ := hE
  intro H locs ls hS hP hl
  exact lv_if_gt hx hb d ht (fun q => kt ((i32_lt b32_0 ha).mp q) H locs ls hS hP hl) (fun q => kf (fun r => q ((i32_lt b32_0 ha).mpr r)) H locs ls hS hP hl)
theorem z_icmp_le (hE : zG E l0 D0 cI0 cJ0 ad cc nL0 own fr lo) {a b : Int} {off : Int} {tgt : Nat} (d : decode cc pc = .ok (.if_icmp .le off, 3)) (ht : (pc : Int) + off = (tgt : Int)) (ha : b32 a) (hb2 : b32 b) (kt : a ≤ b → Z E S tgt L st) (kf : ¬ a ≤ b → Z E S (pc + 3) L st) : Z E S pc L (.int (i32 b) :: .int (i32 a) :: st) := by
  obtain ⟨p, l, e, R, s, m, args, below, meth, c, Q, A, D, cI, cJ, ad1, nL, cells, slots⟩ := E
  obtain ⟨⟨rfl, rfl, rfl, rfl, rfl, rfl⟩, hx, hb, hml, hown, hts, ⟨hf1, hf2, hf3, hf4⟩, hK, hD, hA, hN⟩ := hE
  intro H locs ls hS hP hl
  exact lv_icmp_le hx hb d ht (fun q => kt ((i32_le ha hb2).mp q) H locs ls hS hP hl) (fun q => kf (fun r => q ((i32_le ha hb2).mpr r)) H locs ls hS hP hl)
theorem z_if_le (hE : zG E l0 D0 cI0 cJ0 ad cc nL0 own fr lo) {a : Int} {off : Int} {tgt : Nat} (d : decode cc pc = .ok (.ifCond .le off, 3)) (ht : (pc : Int) + off = (tgt : Int)) (ha : b32 a) (kt : a ≤ 0 → Z E S tgt L st) (kf : ¬ a ≤ 0 → Z E S (pc + 3) L st) : Z E S pc L (.int (i32 a) :: st) := by
  obtain ⟨p, l, e, R, s, m, args, below, meth, c, Q, A, D, cI, cJ, ad1, nL, cells, slots⟩ := E
  obtain ⟨⟨rfl, rfl, rfl, rfl, rfl, rfl⟩, hx, hb, hml, hown, hts, ⟨hf1, hf2, hf3, hf4⟩, hK, hD, hA, hN⟩ := hE
  intro H locs ls hS hP hl
  exact lv_if_le hx hb d ht (fun q => kt ((i32_le ha b32_0).mp q) H locs ls hS hP hl) (fun q => kf (fun r => q ((i32_le ha b32_0).mpr r)) H locs ls hS hP hl)
theorem z_ifb_eq (hE : zG E l0 D0 cI0 cJ0 ad cc nL0 own fr lo) {P : Prop} [Decidable P] {off : Int} {tgt : Nat} (d : decode cc pc = .ok (.ifCond .eq off, 3)) (ht : (pc : Int) + off = (tgt : Int)) (kt : ¬ P → Z E S tgt L st) (kf : P → Z E S (pc + 3) L st) : Z E S pc L (.int (i32 (zbo P)) :: st) :=
  z_if_eq hE d ht zbo_b (fun q => kt (fun h => by rw [zbo_t h] at q; omega)) (fun q => kf (Classical.byContradiction fun h => q (zbo_f h)))
theorem z_ifb_ne (hE : zG E l0 D0 cI0 cJ0 ad cc nL0 own fr lo) {P : Prop} [Decidable P] {off : Int} {tgt : Nat} (d : decode cc pc = .ok (.ifCond .ne off, 3)) (ht : (pc : Int) + off = (tgt : Int)) (kt : P → Z E S tgt L st) (kf : ¬ P → Z E S (pc + 3) L st) : Z E S pc L (.int (i32 (zbo P)) :: st) :=
  z_if_ne hE d ht zbo_b (fun q => kt (Classical.byContradiction fun h => q (zbo_f h))) (fun q => kf (fun h => by rw [zbo_t h] at q; omega))
theorem z_ifl_eq (hE : zG E l0 D0 cI0 cJ0 ad cc nL0 own fr lo) {a b : Int} {off : Int} {tgt : Nat} (d : decode cc pc = .ok (.ifCond .eq off, 3)) (ht : (pc : Int) + off = (tgt : Int)) (kt : a = b → Z E S tgt L st) (kf : ¬ a = b → Z E S (pc + 3) L st) : Z E S pc L (.int (i32 (if b < a then 1 else if a = b then 0 else -1)) :: st) := by
  refine z_if_eq hE d ht ?_ (fun q => kt ?_) (fun q => kf ?_)
  · repeat' split
    all_goals exact ⟨by omega, by omega⟩
  · revert q; repeat' split
    all_goals omega
  · revert q; repeat' split
    all_goals omega
theorem z_ifl_ne (hE : zG E l0 D0 cI0 cJ0 ad cc nL0 own fr lo) {a b : Int} {off : Int} {tgt : Nat} (d : decode cc pc = .ok (.ifCond .ne off, 3)) (ht : (pc : Int) + off = (tgt : Int)) (kt : ¬ a = b → Z E S tgt L st) (kf : a = b → Z E S (pc + 3) L st) : Z E S pc L (.int (i32 (if b < a then 1 else if a = b then 0 else -1)) :: st) := by
  refine z_if_ne hE d ht ?_ (fun q => kt ?_) (fun q => kf ?_)
  · repeat' split
    all_goals exact ⟨by omega, by omega⟩
  · revert q; repeat' split
    all_goals omega
  · revert q; repeat' split
    all_goals omega
theorem z_ifl_lt (hE : zG E l0 D0 cI0 cJ0 ad cc nL0 own fr lo) {a b : Int} {off : Int} {tgt : Nat} (d : decode cc pc = .ok (.ifCond .lt off, 3)) (ht : (pc : Int) + off = (tgt : Int)) (kt : a < b → Z E S tgt L st) (kf : ¬ a < b → Z E S (pc + 3) L st) : Z E S pc L (.int (i32 (if b < a then 1 else if a = b then 0 else -1)) :: st) := by
  refine z_if_lt hE d ht ?_ (fun q => kt ?_) (fun q => kf ?_)
  · repeat' split
    all_goals exact ⟨by omega, by omega⟩
  · revert q; repeat' split
    all_goals omega
  · revert q; repeat' split
    all_goals omega
theorem z_ifl_ge (hE : zG E l0 D0 cI0 cJ0 ad cc nL0 own fr lo) {a b : Int} {off : Int} {tgt : Nat} (d : decode cc pc = .ok (.ifCond .ge off, 3)) (ht : (pc : Int) + off = (tgt : Int)) (kt : b ≤ a → Z E S tgt L st) (kf : ¬ b ≤ a → Z E S (pc + 3) L st) : Z E S pc L (.int (i32 (if b < a then 1 else if a = b then 0 else -1)) :: st) := by
  refine z_if_ge hE d ht ?_ (fun q => kt ?_) (fun q => kf ?_)
  · repeat' split
    all_goals exact ⟨by omega, by omega⟩
  · revert q; repeat' split
    all_goals omega
  · revert q; repeat' split
    all_goals omega
theorem z_ifl_gt (hE : zG E l0 D0 cI0 cJ0 ad cc nL0 own fr lo) {a b : Int} {off : Int} {tgt : Nat} (d : decode cc pc = .ok (.ifCond .gt off, 3)) (ht : (pc : Int) + off = (tgt : Int)) (kt : b < a → Z E S tgt L st) (kf : ¬ b < a → Z E S (pc + 3) L st) : Z E S pc L (.int (i32 (if b < a then 1 else if a = b then 0 else -1)) :: st) := by
  refine z_if_gt hE d ht ?_ (fun q => kt ?_) (fun q => kf ?_)
  · repeat' split
    all_goals exact ⟨by omega, by omega⟩
  · revert q; repeat' split
    all_goals omega
  · revert q; repeat' split
    all_goals omega
theorem z_ifl_le (hE : zG E l0 D0 cI0 cJ0 ad cc nL0 own fr lo) {a b : Int} {off : Int} {tgt : Nat} (d : decode cc pc = .ok (.ifCond .le off, 3)) (ht : (pc : Int) + off = (tgt : Int)) (kt : a ≤ b → Z E S tgt L st) (kf : ¬ a ≤ b → Z E S (pc + 3) L st) : Z E S pc L (.int (i32 (if b < a then 1 else if a = b then 0 else -1)) :: st) := by
  refine z_if_le hE d ht ?_ (fun q => kt ?_) (fun q => kf ?_)
  · repeat' split
    all_goals exact ⟨by omega, by omega⟩
  · revert q; repeat' split
    all_goals omega
  · revert q; repeat' split
    all_goals omega
theorem z_ixor (hE : zG E l0 D0 cI0 cJ0 ad cc nL0 own fr lo) {x y : Int32} (d : decode cc pc = .ok (.ixor, 1)) (k : Z E S (pc + 1) L (.int (x ^^^ y) :: st)) : Z E S pc L (.int y :: .int x :: st) := by
  obtain ⟨p, l, e, R, s, m, args, below, meth, c, Q, A, D, cI, cJ, ad1, nL, cells, slots⟩ := E
  obtain ⟨⟨rfl, rfl, rfl, rfl, rfl, rfl⟩, hx, hb, hml, hown, hts, ⟨hf1, hf2, hf3, hf4⟩, hK, hD, hA, hN⟩ := hE
  intro H locs ls hS hP hl
  exact lv_ixor hx hb d (k H locs ls hS hP hl)
theorem z_ifge_w (hE : zG E l0 D0 cI0 cJ0 ad cc nL0 own fr lo) {w : Int32} {P : Prop} {off : Int} {tgt : Nat} (h : 0 ≤ w ↔ P) (d : decode cc pc = .ok (.ifCond .ge off, 3)) (ht : (pc : Int) + off = (tgt : Int)) (kt : P → Z E S tgt L st) (kf : ¬ P → Z E S (pc + 3) L st) : Z E S pc L (.int w :: st) := by
  obtain ⟨p, l, e, R, s, m, args, below, meth, c, Q, A, D, cI, cJ, ad1, nL, cells, slots⟩ := E
  obtain ⟨⟨rfl, rfl, rfl, rfl, rfl, rfl⟩, hx, hb, hml, hown, hts, ⟨hf1, hf2, hf3, hf4⟩, hK, hD, hA, hN⟩ := hE
  intro H locs ls hS hP hl
  exact lv_if_ge hx hb d ht (fun q => kt (h.mp q) H locs ls hS hP hl) (fun q => kf (fun r => q (h.mpr r)) H locs ls hS hP hl)
theorem z_tIn (hE : zG E l0 D0 cI0 cJ0 ad cc nL0 own fr lo) {dflt lo1 hi off a : Int} {offs : Array Int} {len tgt : Nat} (v : Int) (d : decode cc pc = .ok (.tableswitch dflt lo1 hi offs, len)) (ha : b32 a) (hav : a = v) (h1 : ¬ v < lo1) (h2 : ¬ hi < v) (ho : offs[(v - lo1).toNat]? = some off) (ht : (pc : Int) + off = (tgt : Int)) (k : Z E S tgt L st) : Z E S pc L (.int (i32 a) :: st) := by
  obtain ⟨p, l, e, R, s, m, args, below, meth, c, Q, A, D, cI, cJ, ad1, nL, cells, slots⟩ := E
  obtain ⟨⟨rfl, rfl, rfl, rfl, rfl, rfl⟩, hx, hb, hml, hown, hts, ⟨hf1, hf2, hf3, hf4⟩, hK, hD, hA, hN⟩ := hE
  intro H locs ls hS hP hl
  subst hav
  exact lv_tableIn hx hb d (by rw [i32_I ha]; exact h1) (by rw [i32_I ha]; exact h2) (by rw [i32_I ha]; exact ho) ht (k H locs ls hS hP hl)
theorem z_tOut (hE : zG E l0 D0 cI0 cJ0 ad cc nL0 own fr lo) {dflt lo1 hi a : Int} {offs : Array Int} {len tgt : Nat} (d : decode cc pc = .ok (.tableswitch dflt lo1 hi offs, len)) (ha : b32 a) (h : a < lo1 ∨ hi < a) (ht : (pc : Int) + dflt = (tgt : Int)) (k : Z E S tgt L st) : Z E S pc L (.int (i32 a) :: st) := by
  obtain ⟨p, l, e, R, s, m, args, below, meth, c, Q, A, D, cI, cJ, ad1, nL, cells, slots⟩ := E
  obtain ⟨⟨rfl, rfl, rfl, rfl, rfl, rfl⟩, hx, hb, hml, hown, hts, ⟨hf1, hf2, hf3, hf4⟩, hK, hD, hA, hN⟩ := hE
  intro H locs ls hS hP hl
  exact lv_tableOut hx hb d (by rw [i32_I ha]; exact h) ht (k H locs ls hS hP hl)
theorem z_look (hE : zG E l0 D0 cI0 cJ0 ad cc nL0 own fr lo) {dflt off a : Int} {ps : Array (Int × Int)} {len tgt : Nat} (d : decode cc pc = .ok (.lookupswitch dflt ps, len)) (ha : b32 a) (hp : (ps.toList.zip (ps.toList.drop 1)).all (fun (a, next) => a.1 < next.1) = true) (ho : Op.lookupswitch.offset ps.toList dflt a = off) (ht : (pc : Int) + off = (tgt : Int)) (k : Z E S tgt L st) : Z E S pc L (.int (i32 a) :: st) := by
  obtain ⟨p, l, e, R, s, m, args, below, meth, c, Q, A, D, cI, cJ, ad1, nL, cells, slots⟩ := E
  obtain ⟨⟨rfl, rfl, rfl, rfl, rfl, rfl⟩, hx, hb, hml, hown, hts, ⟨hf1, hf2, hf3, hf4⟩, hK, hD, hA, hN⟩ := hE
  intro H locs ls hS hP hl
  exact lv_lookup hx hb d hp (by rw [i32_I ha]; exact ho) ht (k H locs ls hS hP hl)
end ZR
section ZT
variable {E : zE} {l0 : Launch} {D0 : va_G} {cI0 cJ0 : ClassId} {ad : Nat → Nat → Nat} {cc : ByteArray} {nL0 fr lo : Nat} {own : String} {S : zM} {pc : Nat} {L : List (Nat × Value)} {st : List Value}
theorem z_iret {rv : Option Value} {P : zM → Prop} (hE : zG E l0 D0 cI0 cJ0 ad cc nL0 own fr lo) (hR : zR E (some .int) rv P) {a : Int} (d : decode cc pc = .ok (.ireturn, 1)) (hv : rv = some (.int (i32 a))) (hT : P S) : Z E S pc L [.int (i32 a)] := by
  subst hv
  obtain ⟨p, l, e, R, s, m, args, below, meth, c, Q, A, D, cI, cJ, ad1, nL, cells, slots⟩ := E
  obtain ⟨⟨rfl, rfl, rfl, rfl, rfl, rfl⟩, hx, hb, hml, hown, hts, ⟨hf1, hf2, hf3, hf4⟩, hK, hD, hA, hN⟩ := hE
  obtain ⟨hQ, hr, hlk, rfl, rfl, rfl⟩ := hR
  intro H locs ls hS hP hl
  rw [hQ]
  exact W.iret hx hb hr (fun t ht hW => ⟨⟨rfl, S, hT, by rw [ht]; exact hP⟩, hS.F ht⟩) hS.2.2 d hlk
theorem z_lret {rv : Option Value} {P : zM → Prop} (hE : zG E l0 D0 cI0 cJ0 ad cc nL0 own fr lo) (hR : zR E (some .long) rv P) {a : Int} (d : decode cc pc = .ok (.lreturn, 1)) (hv : rv = some (.long (i64 a))) (hT : P S) : Z E S pc L [.long (i64 a)] := by
  subst hv
  obtain ⟨p, l, e, R, s, m, args, below, meth, c, Q, A, D, cI, cJ, ad1, nL, cells, slots⟩ := E
  obtain ⟨⟨rfl, rfl, rfl, rfl, rfl, rfl⟩, hx, hb, hml, hown, hts, ⟨hf1, hf2, hf3, hf4⟩, hK, hD, hA, hN⟩ := hE
  obtain ⟨hQ, hr, hlk, rfl, rfl, rfl⟩ := hR
  intro H locs ls hS hP hl
  rw [hQ]
  exact W.lret hx hb hr (fun t ht hW => ⟨⟨rfl, S, hT, by rw [ht]; exact hP⟩, hS.F ht⟩) hS.2.2 d hlk
theorem z_vret {rv : Option Value} {P : zM → Prop} (hE : zG E l0 D0 cI0 cJ0 ad cc nL0 own fr lo) (hR : zR E none rv P) (d : decode cc pc = .ok (.return_, 1)) (hv : rv = none) (hT : P S) : Z E S pc L [] := by
  subst hv
  obtain ⟨p, l, e, R, s, m, args, below, meth, c, Q, A, D, cI, cJ, ad1, nL, cells, slots⟩ := E
  obtain ⟨⟨rfl, rfl, rfl, rfl, rfl, rfl⟩, hx, hb, hml, hown, hts, ⟨hf1, hf2, hf3, hf4⟩, hK, hD, hA, hN⟩ := hE
  obtain ⟨hQ, hr, hlk, rfl, rfl, rfl⟩ := hR
  intro H locs ls hS hP hl
  rw [hQ]
  exact W.vret hx hb hr (fun t ht hW => ⟨⟨rfl, S, hT, by rw [ht]; exact hP⟩, hS.F ht⟩) hS.2.2 d hlk
theorem z_zret {rv : Option Value} {P : zM → Prop} (hE : zG E l0 D0 cI0 cJ0 ad cc nL0 own fr lo) (hR : zR E (some .boolean) rv P) {a : Int} (d : decode cc pc = .ok (.ireturn, 1)) (h01 : a = 0 ∨ a = 1) (hv : rv = some (.int (i32 a))) (hT : P S) : Z E S pc L [.int (i32 a)] := by
  subst hv
  obtain ⟨p, l, e, R, s, m, args, below, meth, c, Q, A, D, cI, cJ, ad1, nL, cells, slots⟩ := E
  obtain ⟨⟨rfl, rfl, rfl, rfl, rfl, rfl⟩, hx, hb, hml, hown, hts, ⟨hf1, hf2, hf3, hf4⟩, hK, hD, hA, hN⟩ := hE
  obtain ⟨hQ, hr, hlk, rfl, rfl, rfl⟩ := hR
  intro H locs ls hS hP hl
  rw [hQ]
  exact W.zret hx hb hr (by rcases h01 with rfl | rfl <;> decide) (fun t ht hW => ⟨⟨rfl, S, hT, by rw [ht]; exact hP⟩, hS.F ht⟩) hS.2.2 d hlk
end ZT
end
section
/-! ROWS OF THE MEMORY -/
theorem cf_all {cI cJ : ClassId} {ad : Nat → Nat → Nat} {S : zM} {r j : Nat} {e : va_E} (g : Int → Int) (hk : (r, j) ∈ ks) (hg : ∀ q, ¬ kz j q → g q = S r q) (he : e = cf cI cJ ad (us S r g) r j) : wl ad (zup (cf cI cJ ad S) r j e) = wl ad (cf cI cJ ad (us S r g)) := by
  refine wl_congr fun x hx => ?_
  unfold zup
  split
  · rename_i h; rw [h.1, h.2]; exact he
  · rename_i h
    refine cf_cg fun z hz => ?_
    unfold us
    split
    · rename_i hr
      rw [hr, hg]
      intro e2
      exact h ⟨hr, kz_one (r := r) (by rw [← hr]; exact hx) hk hz e2⟩
    · rfl
section ZM
variable {E : zE} {l0 : Launch} {D0 : va_G} {cI0 cJ0 : ClassId} {ad : Nat → Nat → Nat} {cc : ByteArray} {nL0 fr lo : Nat} {own : String} {S : zM} {pc : Nat} {L : List (Nat × Value)} {st : List Value}
theorem z_get (hE : zG E l0 D0 cI0 cJ0 ad cc nL0 own fr lo) {r j ci index N : Nat} {C : String} {T : u_T} {fs : List Value} {v : Value} (hk : (r, j) ∈ ks) (hc : cf cI0 cJ0 ad S r j = .inr (ci, fs)) (hcl : vwCl[ci]? = some (C, T, N)) (hin : ∀ w ∈ u_ws C T N, w ∈ wsL_law) (k : Nat) (hkN : k < N) (hw : Cond.fieldLink own index (T k).1 (T k).2.1 (T k).2.2.1 ∈ wsL_law) (hv : fs[k]? = some v) (d : decode cc pc = .ok (.getfield index, 3)) (kk : Z E S (pc + 3) L (v :: st)) : Z E S pc L (.ref (ad r j) :: st) := by
  obtain ⟨p, l, e, R, s, m, args, below, meth, c, Q, A, D, cI, cJ, ad1, nL, cells, slots⟩ := E
  obtain ⟨⟨rfl, rfl, rfl, rfl, rfl, rfl⟩, hx, hb, hml, hown, hts, ⟨hf1, hf2, hf3, hf4⟩, hK, hD, hA, hN⟩ := hE
  intro H locs ls hS hP hl
  obtain ⟨q0, -, h2⟩ := wl_get (ad := ad1) hk
  exact va_get hx hb hts hin hown hK hP q0 ((h2 _).trans (by rw [hc])) hcl k hkN (hts _ hw) (fun _ h => h) hv d (kk H locs ls hS hP hl)
theorem z_put (hE : zG E l0 D0 cI0 cJ0 ad cc nL0 own fr lo) {r j ci index N : Nat} {C : String} {T : u_T} {fs : List Value} {v : Value} {ty : FieldType} {ty0 : Nat → FieldType} (q x : Int) (hk : (r, j) ∈ ks) (hq : kz j q) (hc : cf cI0 cJ0 ad S r j = .inr (ci, fs)) (hcl : vwCl[ci]? = some (C, T, N)) (hin : ∀ w ∈ u_ws C T N, w ∈ wsL_law) (hty : ∀ k, k < N → parseFieldDescriptor (T k).2.2.1 = some (ty0 k)) (hnm : ∀ a, a < N → ∀ b, b < N → a ≠ b → (T a).2.1 ≠ (T b).2.1) (k : Nat) (hkN : k < N) (hw : Cond.fieldLink own index (T k).1 (T k).2.1 (T k).2.2.1 ∈ wsL_law) (hfin : (T k).2.2.2 = false) (hd : parseFieldDescriptor (T k).2.2.1 = some ty) (hn : narrow ty v = v) (hfit : fits ty v = true) (hlen : k < fs.length) (he : .inr (ci, fs.set k v) = cf cI0 cJ0 ad (us S r (up (S r) q x)) r j) (d : decode cc pc = .ok (.putfield index, 3)) (kk : Z E (us S r (up (S r) q x)) (pc + 3) L st) : Z E S pc L (v :: .ref (ad r j) :: st) := by
  obtain ⟨p, l, e, R, s, m, args, below, meth, c, Q, A, D, cI, cJ, ad1, nL, cells, slots⟩ := E
  obtain ⟨⟨rfl, rfl, rfl, rfl, rfl, rfl⟩, hx, hb, hml, hown, hts, ⟨hf1, hf2, hf3, hf4⟩, hK, hD, hA, hN⟩ := hE
  intro H locs ls hS hP hl
  obtain ⟨q0, h1, h2⟩ := wl_get (ad := ad1) hk
  refine va_put hx hb hts hin ty0 hty hnm hown hK hP (wl_D hD) hS q0 ((h2 _).trans (by rw [hc])) hcl k hkN (hts _ hw) (fun _ h => h) hfin hd hn hfit hlen d (fun H1 locs1 hP1 hD1 hS1 => ?_)
  rw [wl_set h1, cf_put q x hk hq he] at hP1
  exact kk H1 locs1 ls hS1 hP1 hl
theorem z_iald (hE : zG E l0 D0 cI0 cJ0 ad cc nL0 own fr lo) {r j n : Nat} {off : Int → Int} {a x : Int} (hk : (r, j) ∈ ks) (hc : cf cI0 cJ0 ad S r j = .inl (cI0, n, .inl (cz n (S r) off))) (h0 : 0 ≤ a) (h1 : a < n) (hn : n < 100000) (hx0 : S r (off a) = x) (d : decode cc pc = .ok (.iaload, 1)) (kk : Z E S (pc + 1) L (.int (i32 x) :: st)) : Z E S pc L (.int (i32 a) :: .ref (ad r j) :: st) := by
  obtain ⟨p, l, e, R, s, m, args, below, meth, c, Q, A, D, cI, cJ, ad1, nL, cells, slots⟩ := E
  obtain ⟨⟨rfl, rfl, rfl, rfl, rfl, rfl⟩, hx, hb, hml, hown, hts, ⟨hf1, hf2, hf3, hf4⟩, hK, hD, hA, hN⟩ := hE
  intro H locs ls hS hP hl
  have hba : b32 a := ⟨by omega, by omega⟩
  obtain ⟨q0, -, h2⟩ := wl_get (ad := ad1) hk
  refine va_iald hx hb hK hP q0 0 ((h2 _).trans (by rw [hc])) rfl (i32_in h0 h1 hba) d ?_
  rw [i32_nat h0 hba, cz_at (by omega), Int.toNat_of_nonneg h0, hx0]
  exact kk H locs ls hS hP hl
theorem z_iast (hE : zG E l0 D0 cI0 cJ0 ad cc nL0 own fr lo) {r j n : Nat} {off : Int → Int} {a x : Int} (q : Int) (hk : (r, j) ∈ ks) (hc : ∀ S : zM, cf cI0 cJ0 ad S r j = .inl (cI0, n, .inl (cz n (S r) off))) (h0 : 0 ≤ a) (h1 : a < n) (hn : n < 100000) (hq : off a = q) (hkz : kz j (off a)) (hoff : ∀ i : Int, off i = off a → i = a) (d : decode cc pc = .ok (.iastore, 1)) (kk : Z E (us S r (up (S r) q x)) (pc + 1) L st) : Z E S pc L (.int (i32 x) :: .int (i32 a) :: .ref (ad r j) :: st) := by
  obtain ⟨p, l, e, R, s, m, args, below, meth, c, Q, A, D, cI, cJ, ad1, nL, cells, slots⟩ := E
  obtain ⟨⟨rfl, rfl, rfl, rfl, rfl, rfl⟩, hx, hb, hml, hown, hts, ⟨hf1, hf2, hf3, hf4⟩, hK, hD, hA, hN⟩ := hE
  intro H locs ls hS hP hl
  have hba : b32 a := ⟨by omega, by omega⟩
  obtain ⟨q0, hp, h2⟩ := wl_get (ad := ad1) hk
  refine va_iast hx hb hK hP (wl_D hD) hS q0 0 ((h2 _).trans (by rw [hc S])) rfl (i32_in h0 h1 hba) d (fun H1 locs1 hP1 hD1 hS1 => ?_)
  rw [wl_set hp, i32_nat h0 hba, cf_put q x hk (hq ▸ hkz) ?_] at hP1
  · exact kk H1 locs1 ls hS1 hP1 hl
  · rw [hc, us_eq, cz_up (by omega) (fun i hi e => by have := hoff i (by rw [e, Int.toNat_of_nonneg h0]); omega), Int.toNat_of_nonneg h0, hq]
theorem z_lald (hE : zG E l0 D0 cI0 cJ0 ad cc nL0 own fr lo) {r j n : Nat} {off : Int → Int} {a x : Int} (hk : (r, j) ∈ ks) (hc : cf cI0 cJ0 ad S r j = .inl (cJ0, n, .inr (.inl (cy n (S r) off)))) (h0 : 0 ≤ a) (h1 : a < n) (hn : n < 100000) (hx0 : S r (off a) = x) (d : decode cc pc = .ok (.laload, 1)) (kk : Z E S (pc + 1) L (.long (i64 x) :: st)) : Z E S pc L (.int (i32 a) :: .ref (ad r j) :: st) := by
  obtain ⟨p, l, e, R, s, m, args, below, meth, c, Q, A, D, cI, cJ, ad1, nL, cells, slots⟩ := E
  obtain ⟨⟨rfl, rfl, rfl, rfl, rfl, rfl⟩, hx, hb, hml, hown, hts, ⟨hf1, hf2, hf3, hf4⟩, hK, hD, hA, hN⟩ := hE
  intro H locs ls hS hP hl
  have hba : b32 a := ⟨by omega, by omega⟩
  obtain ⟨q0, -, h2⟩ := wl_get (ad := ad1) hk
  refine va_lald hx hb hK hP q0 1 ((h2 _).trans (by rw [hc])) rfl (i32_in h0 h1 hba) d ?_
  rw [i32_nat h0 hba, cy_at (by omega), Int.toNat_of_nonneg h0, hx0]
  exact kk H locs ls hS hP hl
theorem z_last (hE : zG E l0 D0 cI0 cJ0 ad cc nL0 own fr lo) {r j n : Nat} {off : Int → Int} {a x : Int} (q : Int) (hk : (r, j) ∈ ks) (hc : ∀ S : zM, cf cI0 cJ0 ad S r j = .inl (cJ0, n, .inr (.inl (cy n (S r) off)))) (h0 : 0 ≤ a) (h1 : a < n) (hn : n < 100000) (hq : off a = q) (hkz : kz j (off a)) (hoff : ∀ i : Int, off i = off a → i = a) (d : decode cc pc = .ok (.lastore, 1)) (kk : Z E (us S r (up (S r) q x)) (pc + 1) L st) : Z E S pc L (.long (i64 x) :: .int (i32 a) :: .ref (ad r j) :: st) := by
  obtain ⟨p, l, e, R, s, m, args, below, meth, c, Q, A, D, cI, cJ, ad1, nL, cells, slots⟩ := E
  obtain ⟨⟨rfl, rfl, rfl, rfl, rfl, rfl⟩, hx, hb, hml, hown, hts, ⟨hf1, hf2, hf3, hf4⟩, hK, hD, hA, hN⟩ := hE
  intro H locs ls hS hP hl
  have hba : b32 a := ⟨by omega, by omega⟩
  obtain ⟨q0, hp, h2⟩ := wl_get (ad := ad1) hk
  refine va_last hx hb hK hP (wl_D hD) hS q0 1 ((h2 _).trans (by rw [hc S])) rfl (i32_in h0 h1 hba) d (fun H1 locs1 hP1 hD1 hS1 => ?_)
  rw [wl_set hp, i32_nat h0 hba, cf_put q x hk (hq ▸ hkz) ?_] at hP1
  · exact kk H1 locs1 ls hS1 hP1 hl
  · rw [hc, us_eq, cy_up (by omega) (fun i hi e => by have := hoff i (by rw [e, Int.toNat_of_nonneg h0]); omega), Int.toNat_of_nonneg h0, hq]
end ZM
section ZF
variable {E : zE} {l0 : Launch} {D0 : va_G} {cI0 cJ0 : ClassId} {ad : Nat → Nat → Nat} {cc : ByteArray} {nL0 fr lo : Nat} {own : String} {S : zM} {pc : Nat} {L : List (Nat × Value)} {st : List Value}
theorem gf_4_0 (hE : zG E l0 D0 cI0 cJ0 ad cc nL0 own fr lo) {r index : Nat} (hk : (r, 0) ∈ ks) (hw : Cond.fieldLink own index (TX4 0).1 (TX4 0).2.1 (TX4 0).2.2.1 ∈ wsL_law) (d : decode cc pc = .ok (.getfield index, 3)) (kk : Z E S (pc + 3) L (.ref (ad r 1) :: st)) : Z E S pc L (.ref (ad r 0) :: st) := z_get (ci := 4) hE hk rfl rfl inlX4 0 (by decide) hw rfl d kk
theorem gf_4_1 (hE : zG E l0 D0 cI0 cJ0 ad cc nL0 own fr lo) {r index : Nat} (hk : (r, 0) ∈ ks) (hw : Cond.fieldLink own index (TX4 1).1 (TX4 1).2.1 (TX4 1).2.2.1 ∈ wsL_law) (d : decode cc pc = .ok (.getfield index, 3)) (kk : Z E S (pc + 3) L (.ref (ad r 5) :: st)) : Z E S pc L (.ref (ad r 0) :: st) := z_get (ci := 4) hE hk rfl rfl inlX4 1 (by decide) hw rfl d kk
theorem gf_4_2 (hE : zG E l0 D0 cI0 cJ0 ad cc nL0 own fr lo) {r index : Nat} (hk : (r, 0) ∈ ks) (hw : Cond.fieldLink own index (TX4 2).1 (TX4 2).2.1 (TX4 2).2.2.1 ∈ wsL_law) (d : decode cc pc = .ok (.getfield index, 3)) (kk : Z E S (pc + 3) L (.ref (ad r 6) :: st)) : Z E S pc L (.ref (ad r 0) :: st) := z_get (ci := 4) hE hk rfl rfl inlX4 2 (by decide) hw rfl d kk
theorem gf_4_3 (hE : zG E l0 D0 cI0 cJ0 ad cc nL0 own fr lo) {r index : Nat} (hk : (r, 0) ∈ ks) (hw : Cond.fieldLink own index (TX4 3).1 (TX4 3).2.1 (TX4 3).2.2.1 ∈ wsL_law) (d : decode cc pc = .ok (.getfield index, 3)) (kk : Z E S (pc + 3) L (.ref (ad r 8) :: st)) : Z E S pc L (.ref (ad r 0) :: st) := z_get (ci := 4) hE hk rfl rfl inlX4 3 (by decide) hw rfl d kk
theorem gf_4_4 (hE : zG E l0 D0 cI0 cJ0 ad cc nL0 own fr lo) {r index : Nat} (hk : (r, 0) ∈ ks) (hw : Cond.fieldLink own index (TX4 4).1 (TX4 4).2.1 (TX4 4).2.2.1 ∈ wsL_law) (d : decode cc pc = .ok (.getfield index, 3)) (kk : Z E S (pc + 3) L (.ref (ad r 17) :: st)) : Z E S pc L (.ref (ad r 0) :: st) := z_get (ci := 4) hE hk rfl rfl inlX4 4 (by decide) hw rfl d kk
theorem gf_4_5 (hE : zG E l0 D0 cI0 cJ0 ad cc nL0 own fr lo) {r index : Nat} (hk : (r, 0) ∈ ks) (hw : Cond.fieldLink own index (TX4 5).1 (TX4 5).2.1 (TX4 5).2.2.1 ∈ wsL_law) (d : decode cc pc = .ok (.getfield index, 3)) (kk : Z E S (pc + 3) L (.int (i32 (S r 2)) :: st)) : Z E S pc L (.ref (ad r 0) :: st) := z_get (ci := 4) hE hk rfl rfl inlX4 5 (by decide) hw rfl d kk
theorem pf_4_5 (hE : zG E l0 D0 cI0 cJ0 ad cc nL0 own fr lo) {r index : Nat} {x : Int} (hk : (r, 0) ∈ ks) (hw : Cond.fieldLink own index (TX4 5).1 (TX4 5).2.1 (TX4 5).2.2.1 ∈ wsL_law) (d : decode cc pc = .ok (.putfield index, 3)) (kk : Z E (us S r (up (S r) 2 x)) (pc + 3) L st) : Z E S pc L (.int (i32 x) :: .ref (ad r 0) :: st) := z_put (ci := 4) (ty := .int) hE 2 x hk ((kz_A (by decide)).mpr (by decide)) rfl rfl inlX4 tyX4_ok nmX4 5 (by decide) hw rfl (by decide +kernel) rfl rfl (Nat.le_of_ble_eq_true rfl) (by simp [cf, us, up]) d kk
theorem gf_4_6 (hE : zG E l0 D0 cI0 cJ0 ad cc nL0 own fr lo) {r index : Nat} (hk : (r, 0) ∈ ks) (hw : Cond.fieldLink own index (TX4 6).1 (TX4 6).2.1 (TX4 6).2.2.1 ∈ wsL_law) (d : decode cc pc = .ok (.getfield index, 3)) (kk : Z E S (pc + 3) L (.int (i32 (S r 670)) :: st)) : Z E S pc L (.ref (ad r 0) :: st) := z_get (ci := 4) hE hk rfl rfl inlX4 6 (by decide) hw rfl d kk
theorem pf_4_6 (hE : zG E l0 D0 cI0 cJ0 ad cc nL0 own fr lo) {r index : Nat} {x : Int} (hk : (r, 0) ∈ ks) (hw : Cond.fieldLink own index (TX4 6).1 (TX4 6).2.1 (TX4 6).2.2.1 ∈ wsL_law) (d : decode cc pc = .ok (.putfield index, 3)) (kk : Z E (us S r (up (S r) 670 x)) (pc + 3) L st) : Z E S pc L (.int (i32 x) :: .ref (ad r 0) :: st) := z_put (ci := 4) (ty := .int) hE 670 x hk ((kz_A (by decide)).mpr (by decide)) rfl rfl inlX4 tyX4_ok nmX4 6 (by decide) hw rfl (by decide +kernel) rfl rfl (Nat.le_of_ble_eq_true rfl) (by simp [cf, us, up]) d kk
theorem gf_1_0 (hE : zG E l0 D0 cI0 cJ0 ad cc nL0 own fr lo) {r index : Nat} (hk : (r, 1) ∈ ks) (hw : Cond.fieldLink own index (TX1 0).1 (TX1 0).2.1 (TX1 0).2.2.1 ∈ wsL_law) (d : decode cc pc = .ok (.getfield index, 3)) (kk : Z E S (pc + 3) L (.int (i32 (S r 0)) :: st)) : Z E S pc L (.ref (ad r 1) :: st) := z_get (ci := 1) hE hk rfl rfl inlX1 0 (by decide) hw rfl d kk
theorem pf_1_0 (hE : zG E l0 D0 cI0 cJ0 ad cc nL0 own fr lo) {r index : Nat} {x : Int} (hk : (r, 1) ∈ ks) (hw : Cond.fieldLink own index (TX1 0).1 (TX1 0).2.1 (TX1 0).2.2.1 ∈ wsL_law) (d : decode cc pc = .ok (.putfield index, 3)) (kk : Z E (us S r (up (S r) 0 x)) (pc + 3) L st) : Z E S pc L (.int (i32 x) :: .ref (ad r 1) :: st) := z_put (ci := 1) (ty := .int) hE 0 x hk ((kz_A (by decide)).mpr (by decide)) rfl rfl inlX1 tyX1_ok nmX1 0 (by decide) hw rfl (by decide +kernel) rfl rfl (Nat.le_of_ble_eq_true rfl) (by simp [cf, us, up]) d kk
theorem gf_1_1 (hE : zG E l0 D0 cI0 cJ0 ad cc nL0 own fr lo) {r index : Nat} (hk : (r, 1) ∈ ks) (hw : Cond.fieldLink own index (TX1 1).1 (TX1 1).2.1 (TX1 1).2.2.1 ∈ wsL_law) (d : decode cc pc = .ok (.getfield index, 3)) (kk : Z E S (pc + 3) L (.ref (ad r 2) :: st)) : Z E S pc L (.ref (ad r 1) :: st) := z_get (ci := 1) hE hk rfl rfl inlX1 1 (by decide) hw rfl d kk
theorem gf_1_2 (hE : zG E l0 D0 cI0 cJ0 ad cc nL0 own fr lo) {r index : Nat} (hk : (r, 1) ∈ ks) (hw : Cond.fieldLink own index (TX1 2).1 (TX1 2).2.1 (TX1 2).2.2.1 ∈ wsL_law) (d : decode cc pc = .ok (.getfield index, 3)) (kk : Z E S (pc + 3) L (.ref (ad r 3) :: st)) : Z E S pc L (.ref (ad r 1) :: st) := z_get (ci := 1) hE hk rfl rfl inlX1 2 (by decide) hw rfl d kk
theorem gf_1_3 (hE : zG E l0 D0 cI0 cJ0 ad cc nL0 own fr lo) {r index : Nat} (hk : (r, 1) ∈ ks) (hw : Cond.fieldLink own index (TX1 3).1 (TX1 3).2.1 (TX1 3).2.2.1 ∈ wsL_law) (d : decode cc pc = .ok (.getfield index, 3)) (kk : Z E S (pc + 3) L (.ref (ad r 4) :: st)) : Z E S pc L (.ref (ad r 1) :: st) := z_get (ci := 1) hE hk rfl rfl inlX1 3 (by decide) hw rfl d kk
theorem gf_5_0 (hE : zG E l0 D0 cI0 cJ0 ad cc nL0 own fr lo) {r index : Nat} (hk : (r, 5) ∈ ks) (hw : Cond.fieldLink own index (TX5 0).1 (TX5 0).2.1 (TX5 0).2.2.1 ∈ wsL_law) (d : decode cc pc = .ok (.getfield index, 3)) (kk : Z E S (pc + 3) L (.int (i32 (S r 1)) :: st)) : Z E S pc L (.ref (ad r 5) :: st) := z_get (ci := 5) hE hk rfl rfl inlX5 0 (by decide) hw rfl d kk
theorem pf_5_0 (hE : zG E l0 D0 cI0 cJ0 ad cc nL0 own fr lo) {r index : Nat} {x : Int} (hk : (r, 5) ∈ ks) (hw : Cond.fieldLink own index (TX5 0).1 (TX5 0).2.1 (TX5 0).2.2.1 ∈ wsL_law) (d : decode cc pc = .ok (.putfield index, 3)) (kk : Z E (us S r (up (S r) 1 x)) (pc + 3) L st) : Z E S pc L (.int (i32 x) :: .ref (ad r 5) :: st) := z_put (ci := 5) (ty := .int) hE 1 x hk ((kz_A (by decide)).mpr (by decide)) rfl rfl inlX5 tyX5_ok nmX5 0 (by decide) hw rfl (by decide +kernel) rfl rfl (Nat.le_of_ble_eq_true rfl) (by simp [cf, us, up]) d kk
theorem gf_5_1 (hE : zG E l0 D0 cI0 cJ0 ad cc nL0 own fr lo) {r index : Nat} (hk : (r, 5) ∈ ks) (hw : Cond.fieldLink own index (TX5 1).1 (TX5 1).2.1 (TX5 1).2.2.1 ∈ wsL_law) (d : decode cc pc = .ok (.getfield index, 3)) (kk : Z E S (pc + 3) L (.int (i32 (S r 3)) :: st)) : Z E S pc L (.ref (ad r 5) :: st) := z_get (ci := 5) hE hk rfl rfl inlX5 1 (by decide) hw rfl d kk
theorem pf_5_1 (hE : zG E l0 D0 cI0 cJ0 ad cc nL0 own fr lo) {r index : Nat} {x : Int} (hk : (r, 5) ∈ ks) (hw : Cond.fieldLink own index (TX5 1).1 (TX5 1).2.1 (TX5 1).2.2.1 ∈ wsL_law) (d : decode cc pc = .ok (.putfield index, 3)) (kk : Z E (us S r (up (S r) 3 x)) (pc + 3) L st) : Z E S pc L (.int (i32 x) :: .ref (ad r 5) :: st) := z_put (ci := 5) (ty := .int) hE 3 x hk ((kz_A (by decide)).mpr (by decide)) rfl rfl inlX5 tyX5_ok nmX5 1 (by decide) hw rfl (by decide +kernel) rfl rfl (Nat.le_of_ble_eq_true rfl) (by simp [cf, us, up]) d kk
theorem gf_5_2 (hE : zG E l0 D0 cI0 cJ0 ad cc nL0 own fr lo) {r index : Nat} (hk : (r, 5) ∈ ks) (hw : Cond.fieldLink own index (TX5 2).1 (TX5 2).2.1 (TX5 2).2.2.1 ∈ wsL_law) (d : decode cc pc = .ok (.getfield index, 3)) (kk : Z E S (pc + 3) L (.int (i32 (S r 5)) :: st)) : Z E S pc L (.ref (ad r 5) :: st) := z_get (ci := 5) hE hk rfl rfl inlX5 2 (by decide) hw rfl d kk
theorem pf_5_2 (hE : zG E l0 D0 cI0 cJ0 ad cc nL0 own fr lo) {r index : Nat} {x : Int} (hk : (r, 5) ∈ ks) (hw : Cond.fieldLink own index (TX5 2).1 (TX5 2).2.1 (TX5 2).2.2.1 ∈ wsL_law) (d : decode cc pc = .ok (.putfield index, 3)) (kk : Z E (us S r (up (S r) 5 x)) (pc + 3) L st) : Z E S pc L (.int (i32 x) :: .ref (ad r 5) :: st) := z_put (ci := 5) (ty := .int) hE 5 x hk ((kz_A (by decide)).mpr (by decide)) rfl rfl inlX5 tyX5_ok nmX5 2 (by decide) hw rfl (by decide +kernel) rfl rfl (Nat.le_of_ble_eq_true rfl) (by simp [cf, us, up]) d kk
theorem gf_5_3 (hE : zG E l0 D0 cI0 cJ0 ad cc nL0 own fr lo) {r index : Nat} (hk : (r, 5) ∈ ks) (hw : Cond.fieldLink own index (TX5 3).1 (TX5 3).2.1 (TX5 3).2.2.1 ∈ wsL_law) (d : decode cc pc = .ok (.getfield index, 3)) (kk : Z E S (pc + 3) L (.int (i32 (S r 4)) :: st)) : Z E S pc L (.ref (ad r 5) :: st) := z_get (ci := 5) hE hk rfl rfl inlX5 3 (by decide) hw rfl d kk
theorem pf_5_3 (hE : zG E l0 D0 cI0 cJ0 ad cc nL0 own fr lo) {r index : Nat} {x : Int} (hk : (r, 5) ∈ ks) (hw : Cond.fieldLink own index (TX5 3).1 (TX5 3).2.1 (TX5 3).2.2.1 ∈ wsL_law) (d : decode cc pc = .ok (.putfield index, 3)) (kk : Z E (us S r (up (S r) 4 x)) (pc + 3) L st) : Z E S pc L (.int (i32 x) :: .ref (ad r 5) :: st) := z_put (ci := 5) (ty := .int) hE 4 x hk ((kz_A (by decide)).mpr (by decide)) rfl rfl inlX5 tyX5_ok nmX5 3 (by decide) hw rfl (by decide +kernel) rfl rfl (Nat.le_of_ble_eq_true rfl) (by simp [cf, us, up]) d kk
theorem gf_5_4 (hE : zG E l0 D0 cI0 cJ0 ad cc nL0 own fr lo) {r index : Nat} (hk : (r, 5) ∈ ks) (hw : Cond.fieldLink own index (TX5 4).1 (TX5 4).2.1 (TX5 4).2.2.1 ∈ wsL_law) (d : decode cc pc = .ok (.getfield index, 3)) (kk : Z E S (pc + 3) L (.int (i32 (S r 13)) :: st)) : Z E S pc L (.ref (ad r 5) :: st) := z_get (ci := 5) hE hk rfl rfl inlX5 4 (by decide) hw rfl d kk
theorem pf_5_4 (hE : zG E l0 D0 cI0 cJ0 ad cc nL0 own fr lo) {r index : Nat} {x : Int} (hk : (r, 5) ∈ ks) (hw : Cond.fieldLink own index (TX5 4).1 (TX5 4).2.1 (TX5 4).2.2.1 ∈ wsL_law) (d : decode cc pc = .ok (.putfield index, 3)) (kk : Z E (us S r (up (S r) 13 x)) (pc + 3) L st) : Z E S pc L (.int (i32 x) :: .ref (ad r 5) :: st) := z_put (ci := 5) (ty := .int) hE 13 x hk ((kz_A (by decide)).mpr (by decide)) rfl rfl inlX5 tyX5_ok nmX5 4 (by decide) hw rfl (by decide +kernel) rfl rfl (Nat.le_of_ble_eq_true rfl) (by simp [cf, us, up]) d kk
theorem gf_5_5 (hE : zG E l0 D0 cI0 cJ0 ad cc nL0 own fr lo) {r index : Nat} (hk : (r, 5) ∈ ks) (hw : Cond.fieldLink own index (TX5 5).1 (TX5 5).2.1 (TX5 5).2.2.1 ∈ wsL_law) (d : decode cc pc = .ok (.getfield index, 3)) (kk : Z E S (pc + 3) L (.int (i32 (S r 16)) :: st)) : Z E S pc L (.ref (ad r 5) :: st) := z_get (ci := 5) hE hk rfl rfl inlX5 5 (by decide) hw rfl d kk
theorem pf_5_5 (hE : zG E l0 D0 cI0 cJ0 ad cc nL0 own fr lo) {r index : Nat} {x : Int} (hk : (r, 5) ∈ ks) (hw : Cond.fieldLink own index (TX5 5).1 (TX5 5).2.1 (TX5 5).2.2.1 ∈ wsL_law) (d : decode cc pc = .ok (.putfield index, 3)) (kk : Z E (us S r (up (S r) 16 x)) (pc + 3) L st) : Z E S pc L (.int (i32 x) :: .ref (ad r 5) :: st) := z_put (ci := 5) (ty := .int) hE 16 x hk ((kz_A (by decide)).mpr (by decide)) rfl rfl inlX5 tyX5_ok nmX5 5 (by decide) hw rfl (by decide +kernel) rfl rfl (Nat.le_of_ble_eq_true rfl) (by simp [cf, us, up]) d kk
theorem gf_5_6 (hE : zG E l0 D0 cI0 cJ0 ad cc nL0 own fr lo) {r index : Nat} (hk : (r, 5) ∈ ks) (hw : Cond.fieldLink own index (TX5 6).1 (TX5 6).2.1 (TX5 6).2.2.1 ∈ wsL_law) (d : decode cc pc = .ok (.getfield index, 3)) (kk : Z E S (pc + 3) L (.int (i32 (S r 17)) :: st)) : Z E S pc L (.ref (ad r 5) :: st) := z_get (ci := 5) hE hk rfl rfl inlX5 6 (by decide) hw rfl d kk
theorem pf_5_6 (hE : zG E l0 D0 cI0 cJ0 ad cc nL0 own fr lo) {r index : Nat} {x : Int} (hk : (r, 5) ∈ ks) (hw : Cond.fieldLink own index (TX5 6).1 (TX5 6).2.1 (TX5 6).2.2.1 ∈ wsL_law) (d : decode cc pc = .ok (.putfield index, 3)) (kk : Z E (us S r (up (S r) 17 x)) (pc + 3) L st) : Z E S pc L (.int (i32 x) :: .ref (ad r 5) :: st) := z_put (ci := 5) (ty := .int) hE 17 x hk ((kz_A (by decide)).mpr (by decide)) rfl rfl inlX5 tyX5_ok nmX5 6 (by decide) hw rfl (by decide +kernel) rfl rfl (Nat.le_of_ble_eq_true rfl) (by simp [cf, us, up]) d kk
theorem gf_0_0 (hE : zG E l0 D0 cI0 cJ0 ad cc nL0 own fr lo) {r index : Nat} (hk : (r, 6) ∈ ks) (hw : Cond.fieldLink own index (TX0 0).1 (TX0 0).2.1 (TX0 0).2.2.1 ∈ wsL_law) (d : decode cc pc = .ok (.getfield index, 3)) (kk : Z E S (pc + 3) L (.int (i32 (S r 7)) :: st)) : Z E S pc L (.ref (ad r 6) :: st) := z_get (ci := 0) hE hk rfl rfl inlX0 0 (by decide) hw rfl d kk
theorem pf_0_0 (hE : zG E l0 D0 cI0 cJ0 ad cc nL0 own fr lo) {r index : Nat} {x : Int} (hk : (r, 6) ∈ ks) (hw : Cond.fieldLink own index (TX0 0).1 (TX0 0).2.1 (TX0 0).2.2.1 ∈ wsL_law) (d : decode cc pc = .ok (.putfield index, 3)) (kk : Z E (us S r (up (S r) 7 x)) (pc + 3) L st) : Z E S pc L (.int (i32 x) :: .ref (ad r 6) :: st) := z_put (ci := 0) (ty := .int) hE 7 x hk ((kz_A (by decide)).mpr (by decide)) rfl rfl inlX0 tyX0_ok nmX0 0 (by decide) hw rfl (by decide +kernel) rfl rfl (Nat.le_of_ble_eq_true rfl) (by simp [cf, us, up]) d kk
theorem gf_0_1 (hE : zG E l0 D0 cI0 cJ0 ad cc nL0 own fr lo) {r index : Nat} (hk : (r, 6) ∈ ks) (hw : Cond.fieldLink own index (TX0 1).1 (TX0 1).2.1 (TX0 1).2.2.1 ∈ wsL_law) (d : decode cc pc = .ok (.getfield index, 3)) (kk : Z E S (pc + 3) L (.int (i32 (S r 8)) :: st)) : Z E S pc L (.ref (ad r 6) :: st) := z_get (ci := 0) hE hk rfl rfl inlX0 1 (by decide) hw rfl d kk
theorem pf_0_1 (hE : zG E l0 D0 cI0 cJ0 ad cc nL0 own fr lo) {r index : Nat} {x : Int} (hk : (r, 6) ∈ ks) (hw : Cond.fieldLink own index (TX0 1).1 (TX0 1).2.1 (TX0 1).2.2.1 ∈ wsL_law) (d : decode cc pc = .ok (.putfield index, 3)) (kk : Z E (us S r (up (S r) 8 x)) (pc + 3) L st) : Z E S pc L (.int (i32 x) :: .ref (ad r 6) :: st) := z_put (ci := 0) (ty := .int) hE 8 x hk ((kz_A (by decide)).mpr (by decide)) rfl rfl inlX0 tyX0_ok nmX0 1 (by decide) hw rfl (by decide +kernel) rfl rfl (Nat.le_of_ble_eq_true rfl) (by simp [cf, us, up]) d kk
theorem gf_0_2 (hE : zG E l0 D0 cI0 cJ0 ad cc nL0 own fr lo) {r index : Nat} (hk : (r, 6) ∈ ks) (hw : Cond.fieldLink own index (TX0 2).1 (TX0 2).2.1 (TX0 2).2.2.1 ∈ wsL_law) (d : decode cc pc = .ok (.getfield index, 3)) (kk : Z E S (pc + 3) L (.int (i32 (S r 6)) :: st)) : Z E S pc L (.ref (ad r 6) :: st) := z_get (ci := 0) hE hk rfl rfl inlX0 2 (by decide) hw rfl d kk
theorem pf_0_2 (hE : zG E l0 D0 cI0 cJ0 ad cc nL0 own fr lo) {r index : Nat} {x : Int} (hk : (r, 6) ∈ ks) (hw : Cond.fieldLink own index (TX0 2).1 (TX0 2).2.1 (TX0 2).2.2.1 ∈ wsL_law) (d : decode cc pc = .ok (.putfield index, 3)) (kk : Z E (us S r (up (S r) 6 x)) (pc + 3) L st) : Z E S pc L (.int (i32 x) :: .ref (ad r 6) :: st) := z_put (ci := 0) (ty := .int) hE 6 x hk ((kz_A (by decide)).mpr (by decide)) rfl rfl inlX0 tyX0_ok nmX0 2 (by decide) hw rfl (by decide +kernel) rfl rfl (Nat.le_of_ble_eq_true rfl) (by simp [cf, us, up]) d kk
theorem gf_0_3 (hE : zG E l0 D0 cI0 cJ0 ad cc nL0 own fr lo) {r index : Nat} (hk : (r, 6) ∈ ks) (hw : Cond.fieldLink own index (TX0 3).1 (TX0 3).2.1 (TX0 3).2.2.1 ∈ wsL_law) (d : decode cc pc = .ok (.getfield index, 3)) (kk : Z E S (pc + 3) L (.int (i32 (S r 9)) :: st)) : Z E S pc L (.ref (ad r 6) :: st) := z_get (ci := 0) hE hk rfl rfl inlX0 3 (by decide) hw rfl d kk
theorem pf_0_3 (hE : zG E l0 D0 cI0 cJ0 ad cc nL0 own fr lo) {r index : Nat} {x : Int} (hk : (r, 6) ∈ ks) (hw : Cond.fieldLink own index (TX0 3).1 (TX0 3).2.1 (TX0 3).2.2.1 ∈ wsL_law) (d : decode cc pc = .ok (.putfield index, 3)) (kk : Z E (us S r (up (S r) 9 x)) (pc + 3) L st) : Z E S pc L (.int (i32 x) :: .ref (ad r 6) :: st) := z_put (ci := 0) (ty := .int) hE 9 x hk ((kz_A (by decide)).mpr (by decide)) rfl rfl inlX0 tyX0_ok nmX0 3 (by decide) hw rfl (by decide +kernel) rfl rfl (Nat.le_of_ble_eq_true rfl) (by simp [cf, us, up]) d kk
theorem gf_0_4 (hE : zG E l0 D0 cI0 cJ0 ad cc nL0 own fr lo) {r index : Nat} (hk : (r, 6) ∈ ks) (hw : Cond.fieldLink own index (TX0 4).1 (TX0 4).2.1 (TX0 4).2.2.1 ∈ wsL_law) (d : decode cc pc = .ok (.getfield index, 3)) (kk : Z E S (pc + 3) L (.ref (ad r 7) :: st)) : Z E S pc L (.ref (ad r 6) :: st) := z_get (ci := 0) hE hk rfl rfl inlX0 4 (by decide) hw rfl d kk
theorem gf_3_0 (hE : zG E l0 D0 cI0 cJ0 ad cc nL0 own fr lo) {r index : Nat} (hk : (r, 8) ∈ ks) (hw : Cond.fieldLink own index (TX3 0).1 (TX3 0).2.1 (TX3 0).2.2.1 ∈ wsL_law) (d : decode cc pc = .ok (.getfield index, 3)) (kk : Z E S (pc + 3) L (.int (i32 (S r 14)) :: st)) : Z E S pc L (.ref (ad r 8) :: st) := z_get (ci := 3) hE hk rfl rfl inlX3 0 (by decide) hw rfl d kk
theorem pf_3_0 (hE : zG E l0 D0 cI0 cJ0 ad cc nL0 own fr lo) {r index : Nat} {x : Int} (hk : (r, 8) ∈ ks) (hw : Cond.fieldLink own index (TX3 0).1 (TX3 0).2.1 (TX3 0).2.2.1 ∈ wsL_law) (d : decode cc pc = .ok (.putfield index, 3)) (kk : Z E (us S r (up (S r) 14 x)) (pc + 3) L st) : Z E S pc L (.int (i32 x) :: .ref (ad r 8) :: st) := z_put (ci := 3) (ty := .int) hE 14 x hk ((kz_A (by decide)).mpr (by decide)) rfl rfl inlX3 tyX3_ok nmX3 0 (by decide) hw rfl (by decide +kernel) rfl rfl (Nat.le_of_ble_eq_true rfl) (by simp [cf, us, up]) d kk
theorem gf_3_1 (hE : zG E l0 D0 cI0 cJ0 ad cc nL0 own fr lo) {r index : Nat} (hk : (r, 8) ∈ ks) (hw : Cond.fieldLink own index (TX3 1).1 (TX3 1).2.1 (TX3 1).2.2.1 ∈ wsL_law) (d : decode cc pc = .ok (.getfield index, 3)) (kk : Z E S (pc + 3) L (.ref (ad r 9) :: st)) : Z E S pc L (.ref (ad r 8) :: st) := z_get (ci := 3) hE hk rfl rfl inlX3 1 (by decide) hw rfl d kk
theorem gf_3_2 (hE : zG E l0 D0 cI0 cJ0 ad cc nL0 own fr lo) {r index : Nat} (hk : (r, 8) ∈ ks) (hw : Cond.fieldLink own index (TX3 2).1 (TX3 2).2.1 (TX3 2).2.2.1 ∈ wsL_law) (d : decode cc pc = .ok (.getfield index, 3)) (kk : Z E S (pc + 3) L (.ref (ad r 10) :: st)) : Z E S pc L (.ref (ad r 8) :: st) := z_get (ci := 3) hE hk rfl rfl inlX3 2 (by decide) hw rfl d kk
theorem gf_3_3 (hE : zG E l0 D0 cI0 cJ0 ad cc nL0 own fr lo) {r index : Nat} (hk : (r, 8) ∈ ks) (hw : Cond.fieldLink own index (TX3 3).1 (TX3 3).2.1 (TX3 3).2.2.1 ∈ wsL_law) (d : decode cc pc = .ok (.getfield index, 3)) (kk : Z E S (pc + 3) L (.ref (ad r 11) :: st)) : Z E S pc L (.ref (ad r 8) :: st) := z_get (ci := 3) hE hk rfl rfl inlX3 3 (by decide) hw rfl d kk
theorem gf_3_4 (hE : zG E l0 D0 cI0 cJ0 ad cc nL0 own fr lo) {r index : Nat} (hk : (r, 8) ∈ ks) (hw : Cond.fieldLink own index (TX3 4).1 (TX3 4).2.1 (TX3 4).2.2.1 ∈ wsL_law) (d : decode cc pc = .ok (.getfield index, 3)) (kk : Z E S (pc + 3) L (.ref (ad r 12) :: st)) : Z E S pc L (.ref (ad r 8) :: st) := z_get (ci := 3) hE hk rfl rfl inlX3 4 (by decide) hw rfl d kk
theorem gf_3_5 (hE : zG E l0 D0 cI0 cJ0 ad cc nL0 own fr lo) {r index : Nat} (hk : (r, 8) ∈ ks) (hw : Cond.fieldLink own index (TX3 5).1 (TX3 5).2.1 (TX3 5).2.2.1 ∈ wsL_law) (d : decode cc pc = .ok (.getfield index, 3)) (kk : Z E S (pc + 3) L (.ref (ad r 13) :: st)) : Z E S pc L (.ref (ad r 8) :: st) := z_get (ci := 3) hE hk rfl rfl inlX3 5 (by decide) hw rfl d kk
theorem gf_3_6 (hE : zG E l0 D0 cI0 cJ0 ad cc nL0 own fr lo) {r index : Nat} (hk : (r, 8) ∈ ks) (hw : Cond.fieldLink own index (TX3 6).1 (TX3 6).2.1 (TX3 6).2.2.1 ∈ wsL_law) (d : decode cc pc = .ok (.getfield index, 3)) (kk : Z E S (pc + 3) L (.ref (ad r 14) :: st)) : Z E S pc L (.ref (ad r 8) :: st) := z_get (ci := 3) hE hk rfl rfl inlX3 6 (by decide) hw rfl d kk
theorem gf_3_7 (hE : zG E l0 D0 cI0 cJ0 ad cc nL0 own fr lo) {r index : Nat} (hk : (r, 8) ∈ ks) (hw : Cond.fieldLink own index (TX3 7).1 (TX3 7).2.1 (TX3 7).2.2.1 ∈ wsL_law) (d : decode cc pc = .ok (.getfield index, 3)) (kk : Z E S (pc + 3) L (.ref (ad r 15) :: st)) : Z E S pc L (.ref (ad r 8) :: st) := z_get (ci := 3) hE hk rfl rfl inlX3 7 (by decide) hw rfl d kk
theorem gf_3_8 (hE : zG E l0 D0 cI0 cJ0 ad cc nL0 own fr lo) {r index : Nat} (hk : (r, 8) ∈ ks) (hw : Cond.fieldLink own index (TX3 8).1 (TX3 8).2.1 (TX3 8).2.2.1 ∈ wsL_law) (d : decode cc pc = .ok (.getfield index, 3)) (kk : Z E S (pc + 3) L (.ref (ad r 16) :: st)) : Z E S pc L (.ref (ad r 8) :: st) := z_get (ci := 3) hE hk rfl rfl inlX3 8 (by decide) hw rfl d kk
theorem gf_2_0 (hE : zG E l0 D0 cI0 cJ0 ad cc nL0 own fr lo) {r index : Nat} (hk : (r, 17) ∈ ks) (hw : Cond.fieldLink own index (TX2 0).1 (TX2 0).2.1 (TX2 0).2.2.1 ∈ wsL_law) (d : decode cc pc = .ok (.getfield index, 3)) (kk : Z E S (pc + 3) L (.int (i32 (S r 15)) :: st)) : Z E S pc L (.ref (ad r 17) :: st) := z_get (ci := 2) hE hk rfl rfl inlX2 0 (by decide) hw rfl d kk
theorem pf_2_0 (hE : zG E l0 D0 cI0 cJ0 ad cc nL0 own fr lo) {r index : Nat} {x : Int} (hk : (r, 17) ∈ ks) (hw : Cond.fieldLink own index (TX2 0).1 (TX2 0).2.1 (TX2 0).2.2.1 ∈ wsL_law) (d : decode cc pc = .ok (.putfield index, 3)) (kk : Z E (us S r (up (S r) 15 x)) (pc + 3) L st) : Z E S pc L (.int (i32 x) :: .ref (ad r 17) :: st) := z_put (ci := 2) (ty := .int) hE 15 x hk ((kz_A (by decide)).mpr (by decide)) rfl rfl inlX2 tyX2_ok nmX2 0 (by decide) hw rfl (by decide +kernel) rfl rfl (Nat.le_of_ble_eq_true rfl) (by simp [cf, us, up]) d kk
theorem gf_2_1 (hE : zG E l0 D0 cI0 cJ0 ad cc nL0 own fr lo) {r index : Nat} (hk : (r, 17) ∈ ks) (hw : Cond.fieldLink own index (TX2 1).1 (TX2 1).2.1 (TX2 1).2.2.1 ∈ wsL_law) (d : decode cc pc = .ok (.getfield index, 3)) (kk : Z E S (pc + 3) L (.ref (ad r 18) :: st)) : Z E S pc L (.ref (ad r 17) :: st) := z_get (ci := 2) hE hk rfl rfl inlX2 1 (by decide) hw rfl d kk
theorem gf_2_2 (hE : zG E l0 D0 cI0 cJ0 ad cc nL0 own fr lo) {r index : Nat} (hk : (r, 17) ∈ ks) (hw : Cond.fieldLink own index (TX2 2).1 (TX2 2).2.1 (TX2 2).2.2.1 ∈ wsL_law) (d : decode cc pc = .ok (.getfield index, 3)) (kk : Z E S (pc + 3) L (.ref (ad r 19) :: st)) : Z E S pc L (.ref (ad r 17) :: st) := z_get (ci := 2) hE hk rfl rfl inlX2 2 (by decide) hw rfl d kk
theorem gf_2_3 (hE : zG E l0 D0 cI0 cJ0 ad cc nL0 own fr lo) {r index : Nat} (hk : (r, 17) ∈ ks) (hw : Cond.fieldLink own index (TX2 3).1 (TX2 3).2.1 (TX2 3).2.2.1 ∈ wsL_law) (d : decode cc pc = .ok (.getfield index, 3)) (kk : Z E S (pc + 3) L (.ref (ad r 20) :: st)) : Z E S pc L (.ref (ad r 17) :: st) := z_get (ci := 2) hE hk rfl rfl inlX2 3 (by decide) hw rfl d kk
theorem gf_2_4 (hE : zG E l0 D0 cI0 cJ0 ad cc nL0 own fr lo) {r index : Nat} (hk : (r, 17) ∈ ks) (hw : Cond.fieldLink own index (TX2 4).1 (TX2 4).2.1 (TX2 4).2.2.1 ∈ wsL_law) (d : decode cc pc = .ok (.getfield index, 3)) (kk : Z E S (pc + 3) L (.ref (ad r 21) :: st)) : Z E S pc L (.ref (ad r 17) :: st) := z_get (ci := 2) hE hk rfl rfl inlX2 4 (by decide) hw rfl d kk
theorem gf_7_0 (hE : zG E l0 D0 cI0 cJ0 ad cc nL0 own fr lo) {r index : Nat} (hk : (r, 22) ∈ ks) (hw : Cond.fieldLink own index (TX7 0).1 (TX7 0).2.1 (TX7 0).2.2.1 ∈ wsL_law) (d : decode cc pc = .ok (.getfield index, 3)) (kk : Z E S (pc + 3) L (.ref (ad (S r 1).toNat 0) :: st)) : Z E S pc L (.ref (ad r 22) :: st) := z_get (ci := 7) hE hk rfl rfl inlX7 0 (by decide) hw rfl d kk
theorem pf_7_0 (hE : zG E l0 D0 cI0 cJ0 ad cc nL0 own fr lo) {r index x : Nat} (hk : (r, 22) ∈ ks) (hw : Cond.fieldLink own index (TX7 0).1 (TX7 0).2.1 (TX7 0).2.2.1 ∈ wsL_law) (d : decode cc pc = .ok (.putfield index, 3)) (kk : Z E (us S r (up (S r) 1 (x : Int))) (pc + 3) L st) : Z E S pc L (.ref (ad x 0) :: .ref (ad r 22) :: st) := z_put (ci := 7) (ty := .object "DairyShares$Register") hE 1 x hk ((kz_B (by decide) (by decide)).mpr (by decide)) rfl rfl inlX7 tyX7_ok nmX7 0 (by decide) hw rfl (by decide +kernel) rfl rfl (Nat.le_of_ble_eq_true rfl) (by simp [cf, us, up]) d kk
theorem gf_7_1 (hE : zG E l0 D0 cI0 cJ0 ad cc nL0 own fr lo) {r index : Nat} (hk : (r, 22) ∈ ks) (hw : Cond.fieldLink own index (TX7 1).1 (TX7 1).2.1 (TX7 1).2.2.1 ∈ wsL_law) (d : decode cc pc = .ok (.getfield index, 3)) (kk : Z E S (pc + 3) L (.ref (ad (S r 2).toNat 0) :: st)) : Z E S pc L (.ref (ad r 22) :: st) := z_get (ci := 7) hE hk rfl rfl inlX7 1 (by decide) hw rfl d kk
theorem pf_7_1 (hE : zG E l0 D0 cI0 cJ0 ad cc nL0 own fr lo) {r index x : Nat} (hk : (r, 22) ∈ ks) (hw : Cond.fieldLink own index (TX7 1).1 (TX7 1).2.1 (TX7 1).2.2.1 ∈ wsL_law) (d : decode cc pc = .ok (.putfield index, 3)) (kk : Z E (us S r (up (S r) 2 (x : Int))) (pc + 3) L st) : Z E S pc L (.ref (ad x 0) :: .ref (ad r 22) :: st) := z_put (ci := 7) (ty := .object "DairyShares$Register") hE 2 x hk ((kz_B (by decide) (by decide)).mpr (by decide)) rfl rfl inlX7 tyX7_ok nmX7 1 (by decide) hw rfl (by decide +kernel) rfl rfl (Nat.le_of_ble_eq_true rfl) (by simp [cf, us, up]) d kk
theorem gf_7_2 (hE : zG E l0 D0 cI0 cJ0 ad cc nL0 own fr lo) {r index : Nat} (hk : (r, 22) ∈ ks) (hw : Cond.fieldLink own index (TX7 2).1 (TX7 2).2.1 (TX7 2).2.2.1 ∈ wsL_law) (d : decode cc pc = .ok (.getfield index, 3)) (kk : Z E S (pc + 3) L (.ref (ad (S r 3).toNat 0) :: st)) : Z E S pc L (.ref (ad r 22) :: st) := z_get (ci := 7) hE hk rfl rfl inlX7 2 (by decide) hw rfl d kk
theorem pf_7_2 (hE : zG E l0 D0 cI0 cJ0 ad cc nL0 own fr lo) {r index x : Nat} (hk : (r, 22) ∈ ks) (hw : Cond.fieldLink own index (TX7 2).1 (TX7 2).2.1 (TX7 2).2.2.1 ∈ wsL_law) (d : decode cc pc = .ok (.putfield index, 3)) (kk : Z E (us S r (up (S r) 3 (x : Int))) (pc + 3) L st) : Z E S pc L (.ref (ad x 0) :: .ref (ad r 22) :: st) := z_put (ci := 7) (ty := .object "DairyShares$Register") hE 3 x hk ((kz_B (by decide) (by decide)).mpr (by decide)) rfl rfl inlX7 tyX7_ok nmX7 2 (by decide) hw rfl (by decide +kernel) rfl rfl (Nat.le_of_ble_eq_true rfl) (by simp [cf, us, up]) d kk
theorem gf_7_3 (hE : zG E l0 D0 cI0 cJ0 ad cc nL0 own fr lo) {r index : Nat} (hk : (r, 22) ∈ ks) (hw : Cond.fieldLink own index (TX7 3).1 (TX7 3).2.1 (TX7 3).2.2.1 ∈ wsL_law) (d : decode cc pc = .ok (.getfield index, 3)) (kk : Z E S (pc + 3) L (.ref (ad (S r 4).toNat 0) :: st)) : Z E S pc L (.ref (ad r 22) :: st) := z_get (ci := 7) hE hk rfl rfl inlX7 3 (by decide) hw rfl d kk
theorem pf_7_3 (hE : zG E l0 D0 cI0 cJ0 ad cc nL0 own fr lo) {r index x : Nat} (hk : (r, 22) ∈ ks) (hw : Cond.fieldLink own index (TX7 3).1 (TX7 3).2.1 (TX7 3).2.2.1 ∈ wsL_law) (d : decode cc pc = .ok (.putfield index, 3)) (kk : Z E (us S r (up (S r) 4 (x : Int))) (pc + 3) L st) : Z E S pc L (.ref (ad x 0) :: .ref (ad r 22) :: st) := z_put (ci := 7) (ty := .object "DairyShares$Register") hE 4 x hk ((kz_B (by decide) (by decide)).mpr (by decide)) rfl rfl inlX7 tyX7_ok nmX7 3 (by decide) hw rfl (by decide +kernel) rfl rfl (Nat.le_of_ble_eq_true rfl) (by simp [cf, us, up]) d kk
theorem gf_7_4 (hE : zG E l0 D0 cI0 cJ0 ad cc nL0 own fr lo) {r index : Nat} (hk : (r, 22) ∈ ks) (hw : Cond.fieldLink own index (TX7 4).1 (TX7 4).2.1 (TX7 4).2.2.1 ∈ wsL_law) (d : decode cc pc = .ok (.getfield index, 3)) (kk : Z E S (pc + 3) L (.ref (ad (S r 5).toNat 0) :: st)) : Z E S pc L (.ref (ad r 22) :: st) := z_get (ci := 7) hE hk rfl rfl inlX7 4 (by decide) hw rfl d kk
theorem pf_7_4 (hE : zG E l0 D0 cI0 cJ0 ad cc nL0 own fr lo) {r index x : Nat} (hk : (r, 22) ∈ ks) (hw : Cond.fieldLink own index (TX7 4).1 (TX7 4).2.1 (TX7 4).2.2.1 ∈ wsL_law) (d : decode cc pc = .ok (.putfield index, 3)) (kk : Z E (us S r (up (S r) 5 (x : Int))) (pc + 3) L st) : Z E S pc L (.ref (ad x 0) :: .ref (ad r 22) :: st) := z_put (ci := 7) (ty := .object "DairyShares$Register") hE 5 x hk ((kz_B (by decide) (by decide)).mpr (by decide)) rfl rfl inlX7 tyX7_ok nmX7 4 (by decide) hw rfl (by decide +kernel) rfl rfl (Nat.le_of_ble_eq_true rfl) (by simp [cf, us, up]) d kk
theorem gf_7_5 (hE : zG E l0 D0 cI0 cJ0 ad cc nL0 own fr lo) {r index : Nat} (hk : (r, 22) ∈ ks) (hw : Cond.fieldLink own index (TX7 5).1 (TX7 5).2.1 (TX7 5).2.2.1 ∈ wsL_law) (d : decode cc pc = .ok (.getfield index, 3)) (kk : Z E S (pc + 3) L (.int (i32 (S r 0)) :: st)) : Z E S pc L (.ref (ad r 22) :: st) := z_get (ci := 7) hE hk rfl rfl inlX7 5 (by decide) hw rfl d kk
theorem pf_7_5 (hE : zG E l0 D0 cI0 cJ0 ad cc nL0 own fr lo) {r index : Nat} {x : Int} (hk : (r, 22) ∈ ks) (hw : Cond.fieldLink own index (TX7 5).1 (TX7 5).2.1 (TX7 5).2.2.1 ∈ wsL_law) (d : decode cc pc = .ok (.putfield index, 3)) (kk : Z E (us S r (up (S r) 0 x)) (pc + 3) L st) : Z E S pc L (.int (i32 x) :: .ref (ad r 22) :: st) := z_put (ci := 7) (ty := .int) hE 0 x hk ((kz_B (by decide) (by decide)).mpr (by decide)) rfl rfl inlX7 tyX7_ok nmX7 5 (by decide) hw rfl (by decide +kernel) rfl rfl (Nat.le_of_ble_eq_true rfl) (by simp [cf, us, up]) d kk
theorem gf_7_6 (hE : zG E l0 D0 cI0 cJ0 ad cc nL0 own fr lo) {r index : Nat} (hk : (r, 22) ∈ ks) (hw : Cond.fieldLink own index (TX7 6).1 (TX7 6).2.1 (TX7 6).2.2.1 ∈ wsL_law) (d : decode cc pc = .ok (.getfield index, 3)) (kk : Z E S (pc + 3) L (.ref (ad r 23) :: st)) : Z E S pc L (.ref (ad r 22) :: st) := z_get (ci := 7) hE hk rfl rfl inlX7 6 (by decide) hw rfl d kk
theorem gf_6_0 (hE : zG E l0 D0 cI0 cJ0 ad cc nL0 own fr lo) {r index : Nat} (hk : (r, 23) ∈ ks) (hw : Cond.fieldLink own index (TX6 0).1 (TX6 0).2.1 (TX6 0).2.2.1 ∈ wsL_law) (d : decode cc pc = .ok (.getfield index, 3)) (kk : Z E S (pc + 3) L (.ref (ad r 24) :: st)) : Z E S pc L (.ref (ad r 23) :: st) := z_get (ci := 6) hE hk rfl rfl inlX6 0 (by decide) hw rfl d kk
theorem gf_6_1 (hE : zG E l0 D0 cI0 cJ0 ad cc nL0 own fr lo) {r index : Nat} (hk : (r, 23) ∈ ks) (hw : Cond.fieldLink own index (TX6 1).1 (TX6 1).2.1 (TX6 1).2.2.1 ∈ wsL_law) (d : decode cc pc = .ok (.getfield index, 3)) (kk : Z E S (pc + 3) L (.ref (ad r 25) :: st)) : Z E S pc L (.ref (ad r 23) :: st) := z_get (ci := 6) hE hk rfl rfl inlX6 1 (by decide) hw rfl d kk
theorem gf_6_2 (hE : zG E l0 D0 cI0 cJ0 ad cc nL0 own fr lo) {r index : Nat} (hk : (r, 23) ∈ ks) (hw : Cond.fieldLink own index (TX6 2).1 (TX6 2).2.1 (TX6 2).2.2.1 ∈ wsL_law) (d : decode cc pc = .ok (.getfield index, 3)) (kk : Z E S (pc + 3) L (.ref (ad r 26) :: st)) : Z E S pc L (.ref (ad r 23) :: st) := z_get (ci := 6) hE hk rfl rfl inlX6 2 (by decide) hw rfl d kk
theorem gf_8_0 (hE : zG E l0 D0 cI0 cJ0 ad cc nL0 own fr lo) {r index : Nat} (hk : (r, 27) ∈ ks) (hw : Cond.fieldLink own index (TX8 0).1 (TX8 0).2.1 (TX8 0).2.2.1 ∈ wsL_law) (d : decode cc pc = .ok (.getfield index, 3)) (kk : Z E S (pc + 3) L (.ref (ad 7 28) :: st)) : Z E S pc L (.ref (ad r 27) :: st) := z_get (ci := 8) hE hk rfl rfl inlX8 0 (by decide) hw rfl d kk
theorem gf_8_1 (hE : zG E l0 D0 cI0 cJ0 ad cc nL0 own fr lo) {r index : Nat} (hk : (r, 27) ∈ ks) (hw : Cond.fieldLink own index (TX8 1).1 (TX8 1).2.1 (TX8 1).2.2.1 ∈ wsL_law) (d : decode cc pc = .ok (.getfield index, 3)) (kk : Z E S (pc + 3) L (.ref (ad 8 29) :: st)) : Z E S pc L (.ref (ad r 27) :: st) := z_get (ci := 8) hE hk rfl rfl inlX8 1 (by decide) hw rfl d kk
theorem gf_8_2 (hE : zG E l0 D0 cI0 cJ0 ad cc nL0 own fr lo) {r index : Nat} (hk : (r, 27) ∈ ks) (hw : Cond.fieldLink own index (TX8 2).1 (TX8 2).2.1 (TX8 2).2.2.1 ∈ wsL_law) (d : decode cc pc = .ok (.getfield index, 3)) (kk : Z E S (pc + 3) L (.int (i32 (S r 0)) :: st)) : Z E S pc L (.ref (ad r 27) :: st) := z_get (ci := 8) hE hk rfl rfl inlX8 2 (by decide) hw rfl d kk
theorem pf_8_2 (hE : zG E l0 D0 cI0 cJ0 ad cc nL0 own fr lo) {r index : Nat} {x : Int} (hk : (r, 27) ∈ ks) (hw : Cond.fieldLink own index (TX8 2).1 (TX8 2).2.1 (TX8 2).2.2.1 ∈ wsL_law) (d : decode cc pc = .ok (.putfield index, 3)) (kk : Z E (us S r (up (S r) 0 x)) (pc + 3) L st) : Z E S pc L (.int (i32 x) :: .ref (ad r 27) :: st) := z_put (ci := 8) (ty := .int) hE 0 x hk ((kz_C (by decide) (by decide) (by decide)).mpr (by decide)) rfl rfl inlX8 tyX8_ok nmX8 2 (by decide) hw rfl (by decide +kernel) rfl rfl (Nat.le_of_ble_eq_true rfl) (by simp [cf, us, up]) d kk
theorem gf_8_3 (hE : zG E l0 D0 cI0 cJ0 ad cc nL0 own fr lo) {r index : Nat} (hk : (r, 27) ∈ ks) (hw : Cond.fieldLink own index (TX8 3).1 (TX8 3).2.1 (TX8 3).2.2.1 ∈ wsL_law) (d : decode cc pc = .ok (.getfield index, 3)) (kk : Z E S (pc + 3) L (.ref (ad r 30) :: st)) : Z E S pc L (.ref (ad r 27) :: st) := z_get (ci := 8) hE hk rfl rfl inlX8 3 (by decide) hw rfl d kk
theorem gf_8_4 (hE : zG E l0 D0 cI0 cJ0 ad cc nL0 own fr lo) {r index : Nat} (hk : (r, 27) ∈ ks) (hw : Cond.fieldLink own index (TX8 4).1 (TX8 4).2.1 (TX8 4).2.2.1 ∈ wsL_law) (d : decode cc pc = .ok (.getfield index, 3)) (kk : Z E S (pc + 3) L (.ref (ad r 31) :: st)) : Z E S pc L (.ref (ad r 27) :: st) := z_get (ci := 8) hE hk rfl rfl inlX8 4 (by decide) hw rfl d kk
theorem gf_8_5 (hE : zG E l0 D0 cI0 cJ0 ad cc nL0 own fr lo) {r index : Nat} (hk : (r, 27) ∈ ks) (hw : Cond.fieldLink own index (TX8 5).1 (TX8 5).2.1 (TX8 5).2.2.1 ∈ wsL_law) (d : decode cc pc = .ok (.getfield index, 3)) (kk : Z E S (pc + 3) L (.ref (ad r 32) :: st)) : Z E S pc L (.ref (ad r 27) :: st) := z_get (ci := 8) hE hk rfl rfl inlX8 5 (by decide) hw rfl d kk
theorem al_2 (hE : zG E l0 D0 cI0 cJ0 ad cc nL0 own fr lo) {r : Nat} {a : Int} (hk : (r, 2) ∈ ks) (h0 : 0 ≤ a) (h1 : a < 12) (d : decode cc pc = .ok (.iaload, 1)) (kk : Z E S (pc + 1) L (.int (i32 (S r (19 + 3 * a))) :: st)) : Z E S pc L (.int (i32 a) :: .ref (ad r 2) :: st) := z_iald (n := 12) (off := (of3 19)) hE hk rfl h0 h1 (by decide) (by unfold of3; simp only [Int.zero_add]) d kk
theorem as_2 (hE : zG E l0 D0 cI0 cJ0 ad cc nL0 own fr lo) {r : Nat} {a x : Int} (hk : (r, 2) ∈ ks) (h0 : 0 ≤ a) (h1 : a < 12) (d : decode cc pc = .ok (.iastore, 1)) (kk : Z E (us S r (up (S r) (19 + 3 * a) x)) (pc + 1) L st) : Z E S pc L (.int (i32 x) :: .int (i32 a) :: .ref (ad r 2) :: st) := z_iast (n := 12) (off := (of3 19)) hE (19 + 3 * a) hk (fun _ => rfl) h0 h1 (by decide) (by unfold of3; simp only [Int.zero_add]) (ko_2 h0 h1) (fun i e => by unfold of3 at e; omega) d kk
theorem al_3 (hE : zG E l0 D0 cI0 cJ0 ad cc nL0 own fr lo) {r : Nat} {a : Int} (hk : (r, 3) ∈ ks) (h0 : 0 ≤ a) (h1 : a < 12) (d : decode cc pc = .ok (.iaload, 1)) (kk : Z E S (pc + 1) L (.int (i32 (S r (20 + 3 * a))) :: st)) : Z E S pc L (.int (i32 a) :: .ref (ad r 3) :: st) := z_iald (n := 12) (off := (of3 20)) hE hk rfl h0 h1 (by decide) (by unfold of3; simp only [Int.zero_add]) d kk
theorem as_3 (hE : zG E l0 D0 cI0 cJ0 ad cc nL0 own fr lo) {r : Nat} {a x : Int} (hk : (r, 3) ∈ ks) (h0 : 0 ≤ a) (h1 : a < 12) (d : decode cc pc = .ok (.iastore, 1)) (kk : Z E (us S r (up (S r) (20 + 3 * a) x)) (pc + 1) L st) : Z E S pc L (.int (i32 x) :: .int (i32 a) :: .ref (ad r 3) :: st) := z_iast (n := 12) (off := (of3 20)) hE (20 + 3 * a) hk (fun _ => rfl) h0 h1 (by decide) (by unfold of3; simp only [Int.zero_add]) (ko_3 h0 h1) (fun i e => by unfold of3 at e; omega) d kk
theorem al_4 (hE : zG E l0 D0 cI0 cJ0 ad cc nL0 own fr lo) {r : Nat} {a : Int} (hk : (r, 4) ∈ ks) (h0 : 0 ≤ a) (h1 : a < 12) (d : decode cc pc = .ok (.laload, 1)) (kk : Z E S (pc + 1) L (.long (i64 (S r (21 + 3 * a))) :: st)) : Z E S pc L (.int (i32 a) :: .ref (ad r 4) :: st) := z_lald (n := 12) (off := (of3 21)) hE hk rfl h0 h1 (by decide) (by unfold of3; simp only [Int.zero_add]) d kk
theorem as_4 (hE : zG E l0 D0 cI0 cJ0 ad cc nL0 own fr lo) {r : Nat} {a x : Int} (hk : (r, 4) ∈ ks) (h0 : 0 ≤ a) (h1 : a < 12) (d : decode cc pc = .ok (.lastore, 1)) (kk : Z E (us S r (up (S r) (21 + 3 * a) x)) (pc + 1) L st) : Z E S pc L (.long (i64 x) :: .int (i32 a) :: .ref (ad r 4) :: st) := z_last (n := 12) (off := (of3 21)) hE (21 + 3 * a) hk (fun _ => rfl) h0 h1 (by decide) (by unfold of3; simp only [Int.zero_add]) (ko_4 h0 h1) (fun i e => by unfold of3 at e; omega) d kk
theorem al_7 (hE : zG E l0 D0 cI0 cJ0 ad cc nL0 own fr lo) {r : Nat} {a : Int} (hk : (r, 7) ∈ ks) (h0 : 0 ≤ a) (h1 : a < 3) (d : decode cc pc = .ok (.iaload, 1)) (kk : Z E S (pc + 1) L (.int (i32 (S r (10 + a))) :: st)) : Z E S pc L (.int (i32 a) :: .ref (ad r 7) :: st) := z_iald (n := 3) (off := (of1 10)) hE hk rfl h0 h1 (by decide) (by unfold of1; simp only [Int.zero_add]) d kk
theorem as_7 (hE : zG E l0 D0 cI0 cJ0 ad cc nL0 own fr lo) {r : Nat} {a x : Int} (hk : (r, 7) ∈ ks) (h0 : 0 ≤ a) (h1 : a < 3) (d : decode cc pc = .ok (.iastore, 1)) (kk : Z E (us S r (up (S r) (10 + a) x)) (pc + 1) L st) : Z E S pc L (.int (i32 x) :: .int (i32 a) :: .ref (ad r 7) :: st) := z_iast (n := 3) (off := (of1 10)) hE (10 + a) hk (fun _ => rfl) h0 h1 (by decide) (by unfold of1; simp only [Int.zero_add]) (ko_7 h0 h1) (fun i e => by unfold of1 at e; omega) d kk
theorem al_9 (hE : zG E l0 D0 cI0 cJ0 ad cc nL0 own fr lo) {r : Nat} {a : Int} (hk : (r, 9) ∈ ks) (h0 : 0 ≤ a) (h1 : a < 20) (d : decode cc pc = .ok (.iaload, 1)) (kk : Z E S (pc + 1) L (.int (i32 (S r (55 + 22 * a))) :: st)) : Z E S pc L (.int (i32 a) :: .ref (ad r 9) :: st) := z_iald (n := 20) (off := (of22 55)) hE hk rfl h0 h1 (by decide) (by unfold of22; simp only [Int.zero_add]) d kk
theorem as_9 (hE : zG E l0 D0 cI0 cJ0 ad cc nL0 own fr lo) {r : Nat} {a x : Int} (hk : (r, 9) ∈ ks) (h0 : 0 ≤ a) (h1 : a < 20) (d : decode cc pc = .ok (.iastore, 1)) (kk : Z E (us S r (up (S r) (55 + 22 * a) x)) (pc + 1) L st) : Z E S pc L (.int (i32 x) :: .int (i32 a) :: .ref (ad r 9) :: st) := z_iast (n := 20) (off := (of22 55)) hE (55 + 22 * a) hk (fun _ => rfl) h0 h1 (by decide) (by unfold of22; simp only [Int.zero_add]) (ko_9 h0 h1) (fun i e => by unfold of22 at e; omega) d kk
theorem al_10 (hE : zG E l0 D0 cI0 cJ0 ad cc nL0 own fr lo) {r : Nat} {a : Int} (hk : (r, 10) ∈ ks) (h0 : 0 ≤ a) (h1 : a < 20) (d : decode cc pc = .ok (.iaload, 1)) (kk : Z E S (pc + 1) L (.int (i32 (S r (56 + 22 * a))) :: st)) : Z E S pc L (.int (i32 a) :: .ref (ad r 10) :: st) := z_iald (n := 20) (off := (of22 56)) hE hk rfl h0 h1 (by decide) (by unfold of22; simp only [Int.zero_add]) d kk
theorem as_10 (hE : zG E l0 D0 cI0 cJ0 ad cc nL0 own fr lo) {r : Nat} {a x : Int} (hk : (r, 10) ∈ ks) (h0 : 0 ≤ a) (h1 : a < 20) (d : decode cc pc = .ok (.iastore, 1)) (kk : Z E (us S r (up (S r) (56 + 22 * a) x)) (pc + 1) L st) : Z E S pc L (.int (i32 x) :: .int (i32 a) :: .ref (ad r 10) :: st) := z_iast (n := 20) (off := (of22 56)) hE (56 + 22 * a) hk (fun _ => rfl) h0 h1 (by decide) (by unfold of22; simp only [Int.zero_add]) (ko_10 h0 h1) (fun i e => by unfold of22 at e; omega) d kk
theorem al_11 (hE : zG E l0 D0 cI0 cJ0 ad cc nL0 own fr lo) {r : Nat} {a : Int} (hk : (r, 11) ∈ ks) (h0 : 0 ≤ a) (h1 : a < 20) (d : decode cc pc = .ok (.iaload, 1)) (kk : Z E S (pc + 1) L (.int (i32 (S r (58 + 22 * a))) :: st)) : Z E S pc L (.int (i32 a) :: .ref (ad r 11) :: st) := z_iald (n := 20) (off := (of22 58)) hE hk rfl h0 h1 (by decide) (by unfold of22; simp only [Int.zero_add]) d kk
theorem as_11 (hE : zG E l0 D0 cI0 cJ0 ad cc nL0 own fr lo) {r : Nat} {a x : Int} (hk : (r, 11) ∈ ks) (h0 : 0 ≤ a) (h1 : a < 20) (d : decode cc pc = .ok (.iastore, 1)) (kk : Z E (us S r (up (S r) (58 + 22 * a) x)) (pc + 1) L st) : Z E S pc L (.int (i32 x) :: .int (i32 a) :: .ref (ad r 11) :: st) := z_iast (n := 20) (off := (of22 58)) hE (58 + 22 * a) hk (fun _ => rfl) h0 h1 (by decide) (by unfold of22; simp only [Int.zero_add]) (ko_11 h0 h1) (fun i e => by unfold of22 at e; omega) d kk
theorem al_12 (hE : zG E l0 D0 cI0 cJ0 ad cc nL0 own fr lo) {r : Nat} {a : Int} (hk : (r, 12) ∈ ks) (h0 : 0 ≤ a) (h1 : a < 20) (d : decode cc pc = .ok (.iaload, 1)) (kk : Z E S (pc + 1) L (.int (i32 (S r (57 + 22 * a))) :: st)) : Z E S pc L (.int (i32 a) :: .ref (ad r 12) :: st) := z_iald (n := 20) (off := (of22 57)) hE hk rfl h0 h1 (by decide) (by unfold of22; simp only [Int.zero_add]) d kk
theorem as_12 (hE : zG E l0 D0 cI0 cJ0 ad cc nL0 own fr lo) {r : Nat} {a x : Int} (hk : (r, 12) ∈ ks) (h0 : 0 ≤ a) (h1 : a < 20) (d : decode cc pc = .ok (.iastore, 1)) (kk : Z E (us S r (up (S r) (57 + 22 * a) x)) (pc + 1) L st) : Z E S pc L (.int (i32 x) :: .int (i32 a) :: .ref (ad r 12) :: st) := z_iast (n := 20) (off := (of22 57)) hE (57 + 22 * a) hk (fun _ => rfl) h0 h1 (by decide) (by unfold of22; simp only [Int.zero_add]) (ko_12 h0 h1) (fun i e => by unfold of22 at e; omega) d kk
theorem al_13 (hE : zG E l0 D0 cI0 cJ0 ad cc nL0 own fr lo) {r : Nat} {a : Int} (hk : (r, 13) ∈ ks) (h0 : 0 ≤ a) (h1 : a < 20) (d : decode cc pc = .ok (.iaload, 1)) (kk : Z E S (pc + 1) L (.int (i32 (S r (59 + 22 * a))) :: st)) : Z E S pc L (.int (i32 a) :: .ref (ad r 13) :: st) := z_iald (n := 20) (off := (of22 59)) hE hk rfl h0 h1 (by decide) (by unfold of22; simp only [Int.zero_add]) d kk
theorem as_13 (hE : zG E l0 D0 cI0 cJ0 ad cc nL0 own fr lo) {r : Nat} {a x : Int} (hk : (r, 13) ∈ ks) (h0 : 0 ≤ a) (h1 : a < 20) (d : decode cc pc = .ok (.iastore, 1)) (kk : Z E (us S r (up (S r) (59 + 22 * a) x)) (pc + 1) L st) : Z E S pc L (.int (i32 x) :: .int (i32 a) :: .ref (ad r 13) :: st) := z_iast (n := 20) (off := (of22 59)) hE (59 + 22 * a) hk (fun _ => rfl) h0 h1 (by decide) (by unfold of22; simp only [Int.zero_add]) (ko_13 h0 h1) (fun i e => by unfold of22 at e; omega) d kk
theorem al_14 (hE : zG E l0 D0 cI0 cJ0 ad cc nL0 own fr lo) {r : Nat} {a : Int} (hk : (r, 14) ∈ ks) (h0 : 0 ≤ a) (h1 : a < 20) (d : decode cc pc = .ok (.iaload, 1)) (kk : Z E S (pc + 1) L (.int (i32 (S r (645 + a))) :: st)) : Z E S pc L (.int (i32 a) :: .ref (ad r 14) :: st) := z_iald (n := 20) (off := (of1 645)) hE hk rfl h0 h1 (by decide) (by unfold of1; simp only [Int.zero_add]) d kk
theorem as_14 (hE : zG E l0 D0 cI0 cJ0 ad cc nL0 own fr lo) {r : Nat} {a x : Int} (hk : (r, 14) ∈ ks) (h0 : 0 ≤ a) (h1 : a < 20) (d : decode cc pc = .ok (.iastore, 1)) (kk : Z E (us S r (up (S r) (645 + a) x)) (pc + 1) L st) : Z E S pc L (.int (i32 x) :: .int (i32 a) :: .ref (ad r 14) :: st) := z_iast (n := 20) (off := (of1 645)) hE (645 + a) hk (fun _ => rfl) h0 h1 (by decide) (by unfold of1; simp only [Int.zero_add]) (ko_14 h0 h1) (fun i e => by unfold of1 at e; omega) d kk
theorem al_15 (hE : zG E l0 D0 cI0 cJ0 ad cc nL0 own fr lo) {r : Nat} {a : Int} (q : Int) (hk : (r, 15) ∈ ks) (h0 : 0 ≤ a) (h1 : a < 80) (hq : ofS a = q) (d : decode cc pc = .ok (.iaload, 1)) (kk : Z E S (pc + 1) L (.int (i32 (S r q)) :: st)) : Z E S pc L (.int (i32 a) :: .ref (ad r 15) :: st) := z_iald (n := 80) (off := ofS) hE hk rfl h0 h1 (by decide) (by rw [hq]) d kk
theorem as_15 (hE : zG E l0 D0 cI0 cJ0 ad cc nL0 own fr lo) {r : Nat} {a x : Int} (q : Int) (hk : (r, 15) ∈ ks) (h0 : 0 ≤ a) (h1 : a < 80) (hq : ofS a = q) (d : decode cc pc = .ok (.iastore, 1)) (kk : Z E (us S r (up (S r) q x)) (pc + 1) L st) : Z E S pc L (.int (i32 x) :: .int (i32 a) :: .ref (ad r 15) :: st) := z_iast (n := 80) (off := ofS) hE q hk (fun _ => rfl) h0 h1 (by decide) hq (ko_15 h0 h1) (fun i e => by unfold ofS at e; omega) d kk
theorem al_16 (hE : zG E l0 D0 cI0 cJ0 ad cc nL0 own fr lo) {r : Nat} {a : Int} (q : Int) (hk : (r, 16) ∈ ks) (h0 : 0 ≤ a) (h1 : a < 240) (hq : ofC a = q) (d : decode cc pc = .ok (.iaload, 1)) (kk : Z E S (pc + 1) L (.int (i32 (S r q)) :: st)) : Z E S pc L (.int (i32 a) :: .ref (ad r 16) :: st) := z_iald (n := 240) (off := ofC) hE hk rfl h0 h1 (by decide) (by rw [hq]) d kk
theorem as_16 (hE : zG E l0 D0 cI0 cJ0 ad cc nL0 own fr lo) {r : Nat} {a x : Int} (q : Int) (hk : (r, 16) ∈ ks) (h0 : 0 ≤ a) (h1 : a < 240) (hq : ofC a = q) (d : decode cc pc = .ok (.iastore, 1)) (kk : Z E (us S r (up (S r) q x)) (pc + 1) L st) : Z E S pc L (.int (i32 x) :: .int (i32 a) :: .ref (ad r 16) :: st) := z_iast (n := 240) (off := ofC) hE q hk (fun _ => rfl) h0 h1 (by decide) hq (ko_16 h0 h1) (fun i e => by unfold ofC at e; omega) d kk
theorem al_18 (hE : zG E l0 D0 cI0 cJ0 ad cc nL0 own fr lo) {r : Nat} {a : Int} (hk : (r, 18) ∈ ks) (h0 : 0 ≤ a) (h1 : a < 10) (d : decode cc pc = .ok (.iaload, 1)) (kk : Z E S (pc + 1) L (.int (i32 (S r (495 + 15 * a))) :: st)) : Z E S pc L (.int (i32 a) :: .ref (ad r 18) :: st) := z_iald (n := 10) (off := (of15 495)) hE hk rfl h0 h1 (by decide) (by unfold of15; simp only [Int.zero_add]) d kk
theorem as_18 (hE : zG E l0 D0 cI0 cJ0 ad cc nL0 own fr lo) {r : Nat} {a x : Int} (hk : (r, 18) ∈ ks) (h0 : 0 ≤ a) (h1 : a < 10) (d : decode cc pc = .ok (.iastore, 1)) (kk : Z E (us S r (up (S r) (495 + 15 * a) x)) (pc + 1) L st) : Z E S pc L (.int (i32 x) :: .int (i32 a) :: .ref (ad r 18) :: st) := z_iast (n := 10) (off := (of15 495)) hE (495 + 15 * a) hk (fun _ => rfl) h0 h1 (by decide) (by unfold of15; simp only [Int.zero_add]) (ko_18 h0 h1) (fun i e => by unfold of15 at e; omega) d kk
theorem al_19 (hE : zG E l0 D0 cI0 cJ0 ad cc nL0 own fr lo) {r : Nat} {a : Int} (hk : (r, 19) ∈ ks) (h0 : 0 ≤ a) (h1 : a < 10) (d : decode cc pc = .ok (.iaload, 1)) (kk : Z E S (pc + 1) L (.int (i32 (S r (496 + 15 * a))) :: st)) : Z E S pc L (.int (i32 a) :: .ref (ad r 19) :: st) := z_iald (n := 10) (off := (of15 496)) hE hk rfl h0 h1 (by decide) (by unfold of15; simp only [Int.zero_add]) d kk
theorem as_19 (hE : zG E l0 D0 cI0 cJ0 ad cc nL0 own fr lo) {r : Nat} {a x : Int} (hk : (r, 19) ∈ ks) (h0 : 0 ≤ a) (h1 : a < 10) (d : decode cc pc = .ok (.iastore, 1)) (kk : Z E (us S r (up (S r) (496 + 15 * a) x)) (pc + 1) L st) : Z E S pc L (.int (i32 x) :: .int (i32 a) :: .ref (ad r 19) :: st) := z_iast (n := 10) (off := (of15 496)) hE (496 + 15 * a) hk (fun _ => rfl) h0 h1 (by decide) (by unfold of15; simp only [Int.zero_add]) (ko_19 h0 h1) (fun i e => by unfold of15 at e; omega) d kk
theorem al_20 (hE : zG E l0 D0 cI0 cJ0 ad cc nL0 own fr lo) {r : Nat} {a : Int} (hk : (r, 20) ∈ ks) (h0 : 0 ≤ a) (h1 : a < 10) (d : decode cc pc = .ok (.iaload, 1)) (kk : Z E S (pc + 1) L (.int (i32 (S r (497 + 15 * a))) :: st)) : Z E S pc L (.int (i32 a) :: .ref (ad r 20) :: st) := z_iald (n := 10) (off := (of15 497)) hE hk rfl h0 h1 (by decide) (by unfold of15; simp only [Int.zero_add]) d kk
theorem as_20 (hE : zG E l0 D0 cI0 cJ0 ad cc nL0 own fr lo) {r : Nat} {a x : Int} (hk : (r, 20) ∈ ks) (h0 : 0 ≤ a) (h1 : a < 10) (d : decode cc pc = .ok (.iastore, 1)) (kk : Z E (us S r (up (S r) (497 + 15 * a) x)) (pc + 1) L st) : Z E S pc L (.int (i32 x) :: .int (i32 a) :: .ref (ad r 20) :: st) := z_iast (n := 10) (off := (of15 497)) hE (497 + 15 * a) hk (fun _ => rfl) h0 h1 (by decide) (by unfold of15; simp only [Int.zero_add]) (ko_20 h0 h1) (fun i e => by unfold of15 at e; omega) d kk
theorem al_21 (hE : zG E l0 D0 cI0 cJ0 ad cc nL0 own fr lo) {r : Nat} {a : Int} (q : Int) (hk : (r, 21) ∈ ks) (h0 : 0 ≤ a) (h1 : a < 120) (hq : ofB a = q) (d : decode cc pc = .ok (.iaload, 1)) (kk : Z E S (pc + 1) L (.int (i32 (S r q)) :: st)) : Z E S pc L (.int (i32 a) :: .ref (ad r 21) :: st) := z_iald (n := 120) (off := ofB) hE hk rfl h0 h1 (by decide) (by rw [hq]) d kk
theorem as_21 (hE : zG E l0 D0 cI0 cJ0 ad cc nL0 own fr lo) {r : Nat} {a x : Int} (q : Int) (hk : (r, 21) ∈ ks) (h0 : 0 ≤ a) (h1 : a < 120) (hq : ofB a = q) (d : decode cc pc = .ok (.iastore, 1)) (kk : Z E (us S r (up (S r) q x)) (pc + 1) L st) : Z E S pc L (.int (i32 x) :: .int (i32 a) :: .ref (ad r 21) :: st) := z_iast (n := 120) (off := ofB) hE q hk (fun _ => rfl) h0 h1 (by decide) hq (ko_21 h0 h1) (fun i e => by unfold ofB at e; omega) d kk
theorem al_24 (hE : zG E l0 D0 cI0 cJ0 ad cc nL0 own fr lo) {r : Nat} {a : Int} (hk : (r, 24) ∈ ks) (h0 : 0 ≤ a) (h1 : a < 12) (d : decode cc pc = .ok (.iaload, 1)) (kk : Z E S (pc + 1) L (.int (i32 (S r (100 + a))) :: st)) : Z E S pc L (.int (i32 a) :: .ref (ad r 24) :: st) := z_iald (n := 12) (off := (of1 100)) hE hk rfl h0 h1 (by decide) (by unfold of1; simp only [Int.zero_add]) d kk
theorem as_24 (hE : zG E l0 D0 cI0 cJ0 ad cc nL0 own fr lo) {r : Nat} {a x : Int} (hk : (r, 24) ∈ ks) (h0 : 0 ≤ a) (h1 : a < 12) (d : decode cc pc = .ok (.iastore, 1)) (kk : Z E (us S r (up (S r) (100 + a) x)) (pc + 1) L st) : Z E S pc L (.int (i32 x) :: .int (i32 a) :: .ref (ad r 24) :: st) := z_iast (n := 12) (off := (of1 100)) hE (100 + a) hk (fun _ => rfl) h0 h1 (by decide) (by unfold of1; simp only [Int.zero_add]) (ko_24 h0 h1) (fun i e => by unfold of1 at e; omega) d kk
theorem al_25 (hE : zG E l0 D0 cI0 cJ0 ad cc nL0 own fr lo) {r : Nat} {a : Int} (hk : (r, 25) ∈ ks) (h0 : 0 ≤ a) (h1 : a < 12) (d : decode cc pc = .ok (.iaload, 1)) (kk : Z E S (pc + 1) L (.int (i32 (S r (200 + a))) :: st)) : Z E S pc L (.int (i32 a) :: .ref (ad r 25) :: st) := z_iald (n := 12) (off := (of1 200)) hE hk rfl h0 h1 (by decide) (by unfold of1; simp only [Int.zero_add]) d kk
theorem as_25 (hE : zG E l0 D0 cI0 cJ0 ad cc nL0 own fr lo) {r : Nat} {a x : Int} (hk : (r, 25) ∈ ks) (h0 : 0 ≤ a) (h1 : a < 12) (d : decode cc pc = .ok (.iastore, 1)) (kk : Z E (us S r (up (S r) (200 + a) x)) (pc + 1) L st) : Z E S pc L (.int (i32 x) :: .int (i32 a) :: .ref (ad r 25) :: st) := z_iast (n := 12) (off := (of1 200)) hE (200 + a) hk (fun _ => rfl) h0 h1 (by decide) (by unfold of1; simp only [Int.zero_add]) (ko_25 h0 h1) (fun i e => by unfold of1 at e; omega) d kk
theorem al_26 (hE : zG E l0 D0 cI0 cJ0 ad cc nL0 own fr lo) {r : Nat} {a : Int} (hk : (r, 26) ∈ ks) (h0 : 0 ≤ a) (h1 : a < 12) (d : decode cc pc = .ok (.iaload, 1)) (kk : Z E S (pc + 1) L (.int (i32 (S r (300 + a))) :: st)) : Z E S pc L (.int (i32 a) :: .ref (ad r 26) :: st) := z_iald (n := 12) (off := (of1 300)) hE hk rfl h0 h1 (by decide) (by unfold of1; simp only [Int.zero_add]) d kk
theorem as_26 (hE : zG E l0 D0 cI0 cJ0 ad cc nL0 own fr lo) {r : Nat} {a x : Int} (hk : (r, 26) ∈ ks) (h0 : 0 ≤ a) (h1 : a < 12) (d : decode cc pc = .ok (.iastore, 1)) (kk : Z E (us S r (up (S r) (300 + a) x)) (pc + 1) L st) : Z E S pc L (.int (i32 x) :: .int (i32 a) :: .ref (ad r 26) :: st) := z_iast (n := 12) (off := (of1 300)) hE (300 + a) hk (fun _ => rfl) h0 h1 (by decide) (by unfold of1; simp only [Int.zero_add]) (ko_26 h0 h1) (fun i e => by unfold of1 at e; omega) d kk
theorem al_28 (hE : zG E l0 D0 cI0 cJ0 ad cc nL0 own fr lo) {r : Nat} {a : Int} (hk : (r, 28) ∈ ks) (h0 : 0 ≤ a) (h1 : a < 645) (d : decode cc pc = .ok (.laload, 1)) (kk : Z E S (pc + 1) L (.long (i64 (S r (a))) :: st)) : Z E S pc L (.int (i32 a) :: .ref (ad r 28) :: st) := z_lald (n := 645) (off := (of1 0)) hE hk rfl h0 h1 (by decide) (by unfold of1; simp only [Int.zero_add]) d kk
theorem as_28 (hE : zG E l0 D0 cI0 cJ0 ad cc nL0 own fr lo) {r : Nat} {a x : Int} (hk : (r, 28) ∈ ks) (h0 : 0 ≤ a) (h1 : a < 645) (d : decode cc pc = .ok (.lastore, 1)) (kk : Z E (us S r (up (S r) (a) x)) (pc + 1) L st) : Z E S pc L (.long (i64 x) :: .int (i32 a) :: .ref (ad r 28) :: st) := z_last (n := 645) (off := (of1 0)) hE (a) hk (fun _ => rfl) h0 h1 (by decide) (by unfold of1; simp only [Int.zero_add]) (ko_28 h0 h1) (fun i e => by unfold of1 at e; omega) d kk
theorem al_29 (hE : zG E l0 D0 cI0 cJ0 ad cc nL0 own fr lo) {r : Nat} {a : Int} (hk : (r, 29) ∈ ks) (h0 : 0 ≤ a) (h1 : a < 2580) (d : decode cc pc = .ok (.laload, 1)) (kk : Z E S (pc + 1) L (.long (i64 (S r (a))) :: st)) : Z E S pc L (.int (i32 a) :: .ref (ad r 29) :: st) := z_lald (n := 2580) (off := (of1 0)) hE hk rfl h0 h1 (by decide) (by unfold of1; simp only [Int.zero_add]) d kk
theorem as_29 (hE : zG E l0 D0 cI0 cJ0 ad cc nL0 own fr lo) {r : Nat} {a x : Int} (hk : (r, 29) ∈ ks) (h0 : 0 ≤ a) (h1 : a < 2580) (d : decode cc pc = .ok (.lastore, 1)) (kk : Z E (us S r (up (S r) (a) x)) (pc + 1) L st) : Z E S pc L (.long (i64 x) :: .int (i32 a) :: .ref (ad r 29) :: st) := z_last (n := 2580) (off := (of1 0)) hE (a) hk (fun _ => rfl) h0 h1 (by decide) (by unfold of1; simp only [Int.zero_add]) (ko_29 h0 h1) (fun i e => by unfold of1 at e; omega) d kk
theorem al_30 (hE : zG E l0 D0 cI0 cJ0 ad cc nL0 own fr lo) {r : Nat} {a : Int} (hk : (r, 30) ∈ ks) (h0 : 0 ≤ a) (h1 : a < 12) (d : decode cc pc = .ok (.laload, 1)) (kk : Z E S (pc + 1) L (.long (i64 (S r (100 + a))) :: st)) : Z E S pc L (.int (i32 a) :: .ref (ad r 30) :: st) := z_lald (n := 12) (off := (of1 100)) hE hk rfl h0 h1 (by decide) (by unfold of1; simp only [Int.zero_add]) d kk
theorem as_30 (hE : zG E l0 D0 cI0 cJ0 ad cc nL0 own fr lo) {r : Nat} {a x : Int} (hk : (r, 30) ∈ ks) (h0 : 0 ≤ a) (h1 : a < 12) (d : decode cc pc = .ok (.lastore, 1)) (kk : Z E (us S r (up (S r) (100 + a) x)) (pc + 1) L st) : Z E S pc L (.long (i64 x) :: .int (i32 a) :: .ref (ad r 30) :: st) := z_last (n := 12) (off := (of1 100)) hE (100 + a) hk (fun _ => rfl) h0 h1 (by decide) (by unfold of1; simp only [Int.zero_add]) (ko_30 h0 h1) (fun i e => by unfold of1 at e; omega) d kk
theorem al_31 (hE : zG E l0 D0 cI0 cJ0 ad cc nL0 own fr lo) {r : Nat} {a : Int} (hk : (r, 31) ∈ ks) (h0 : 0 ≤ a) (h1 : a < 12) (d : decode cc pc = .ok (.laload, 1)) (kk : Z E S (pc + 1) L (.long (i64 (S r (200 + a))) :: st)) : Z E S pc L (.int (i32 a) :: .ref (ad r 31) :: st) := z_lald (n := 12) (off := (of1 200)) hE hk rfl h0 h1 (by decide) (by unfold of1; simp only [Int.zero_add]) d kk
theorem as_31 (hE : zG E l0 D0 cI0 cJ0 ad cc nL0 own fr lo) {r : Nat} {a x : Int} (hk : (r, 31) ∈ ks) (h0 : 0 ≤ a) (h1 : a < 12) (d : decode cc pc = .ok (.lastore, 1)) (kk : Z E (us S r (up (S r) (200 + a) x)) (pc + 1) L st) : Z E S pc L (.long (i64 x) :: .int (i32 a) :: .ref (ad r 31) :: st) := z_last (n := 12) (off := (of1 200)) hE (200 + a) hk (fun _ => rfl) h0 h1 (by decide) (by unfold of1; simp only [Int.zero_add]) (ko_31 h0 h1) (fun i e => by unfold of1 at e; omega) d kk
theorem al_32 (hE : zG E l0 D0 cI0 cJ0 ad cc nL0 own fr lo) {r : Nat} {a : Int} (hk : (r, 32) ∈ ks) (h0 : 0 ≤ a) (h1 : a < 12) (d : decode cc pc = .ok (.laload, 1)) (kk : Z E S (pc + 1) L (.long (i64 (S r (300 + a))) :: st)) : Z E S pc L (.int (i32 a) :: .ref (ad r 32) :: st) := z_lald (n := 12) (off := (of1 300)) hE hk rfl h0 h1 (by decide) (by unfold of1; simp only [Int.zero_add]) d kk
theorem as_32 (hE : zG E l0 D0 cI0 cJ0 ad cc nL0 own fr lo) {r : Nat} {a x : Int} (hk : (r, 32) ∈ ks) (h0 : 0 ≤ a) (h1 : a < 12) (d : decode cc pc = .ok (.lastore, 1)) (kk : Z E (us S r (up (S r) (300 + a) x)) (pc + 1) L st) : Z E S pc L (.long (i64 x) :: .int (i32 a) :: .ref (ad r 32) :: st) := z_last (n := 12) (off := (of1 300)) hE (300 + a) hk (fun _ => rfl) h0 h1 (by decide) (by unfold of1; simp only [Int.zero_add]) (ko_32 h0 h1) (fun i e => by unfold of1 at e; omega) d kk
end ZF
section ZC
variable {E : zE} {l0 : Launch} {D0 : va_G} {cI0 cJ0 : ClassId} {ad : Nat → Nat → Nat} {cc : ByteArray} {nL0 fr lo : Nat} {own : String} {S : zM} {pc : Nat} {L : List (Nat × Value)} {st : List Value}
theorem ac_2 (hE : zG E l0 D0 cI0 cJ0 ad cc nL0 own fr lo) {r1 r2 index : Nat} (hk1 : (r1, 2) ∈ ks) (hk2 : (r2, 2) ∈ ks) (hw : Cond.methodLink own index arraycopyName ∈ wsL_law) (hfr : 1 ≤ fr) (hlo : (st.map fun v => v.category).sum + (nativeFrameWords "java/lang/System" "arraycopy" 5 + 11) ≤ lo) (d : decode cc pc = .ok (.invokestatic index, 3)) (kk : Z E (us S r2 (fun q => if kyA q = 2 then S r1 q else S r2 q)) (pc + 3) L st) : Z E S pc L (.int (i32 12) :: .int (i32 0) :: .ref (ad r2 2) :: .int (i32 0) :: .ref (ad r1 2) :: st) := by
  obtain ⟨p, l, e, R, s, m, args, below, meth, c, Q, A, D, cI, cJ, ad1, nL, cells, slots⟩ := E
  obtain ⟨⟨rfl, rfl, rfl, rfl, rfl, rfl⟩, hx, hb, hml, hown, hts, ⟨hf1, hf2, hf3, hf4⟩, hK, hD, hA, hN⟩ := hE
  intro H locs ls hS hP hl
  obtain ⟨q1, -, g1⟩ := wl_get (ad := ad1) hk1
  obtain ⟨q2, hp, g2⟩ := wl_get (ad := ad1) hk2
  have e0 : (i32 0).toNatClampNeg = 0 := rfl
  have en : (i32 12).toNatClampNeg = 12 := rfl
  refine va_copyi hx hb (hml.trans hl.1.symm) hown (hts _ hw) (hts _ zv_arraycopyName) (hts _ zt_arraycopyName) (hts _ zn_java_lang_System) hK hP (wl_D hD) hS q1 q2 0 0 (g1 _) (g2 _) rfl rfl rfl (by decide) (by decide) (by decide) (by decide) (by decide) (fun i hi => rfl) (by omega) (by omega) d (fun H1 locs1 hP1 hD1 hS1 => ?_)
  rw [wl_set hp, e0, en, cf_all (fun q => if kyA q = 2 then S r1 q else S r2 q) hk2 (fun q hq => if_neg (fun e => hq ((kz_A (by decide)).mpr e))) ?_] at hP1
  · exact kk H1 locs1 ls hS1 hP1 hl
  · have e9 : va_cpy (cz 12 (S r1) (of3 19)) (cz 12 (S r2) (of3 19)) 0 0 12 = cz 12 (fun q => if kyA q = 2 then S r1 q else S r2 q) (of3 19) := by
      funext k
      by_cases hk : k < 12
      · rw [pk_cpy_in (by omega) (by omega), cz_at hk, show 0 + (k - 0) = k by omega, cz_at hk, if_pos ((kz_A (by decide)).mp (ko_2 (by omega) (by omega)))]
      · rw [pk_cpy_out (by omega)]; unfold cz; rw [if_neg hk, if_neg hk]
    rw [e9]; simp only [cf, us_eq]
theorem ac_3 (hE : zG E l0 D0 cI0 cJ0 ad cc nL0 own fr lo) {r1 r2 index : Nat} (hk1 : (r1, 3) ∈ ks) (hk2 : (r2, 3) ∈ ks) (hw : Cond.methodLink own index arraycopyName ∈ wsL_law) (hfr : 1 ≤ fr) (hlo : (st.map fun v => v.category).sum + (nativeFrameWords "java/lang/System" "arraycopy" 5 + 11) ≤ lo) (d : decode cc pc = .ok (.invokestatic index, 3)) (kk : Z E (us S r2 (fun q => if kyA q = 3 then S r1 q else S r2 q)) (pc + 3) L st) : Z E S pc L (.int (i32 12) :: .int (i32 0) :: .ref (ad r2 3) :: .int (i32 0) :: .ref (ad r1 3) :: st) := by
  obtain ⟨p, l, e, R, s, m, args, below, meth, c, Q, A, D, cI, cJ, ad1, nL, cells, slots⟩ := E
  obtain ⟨⟨rfl, rfl, rfl, rfl, rfl, rfl⟩, hx, hb, hml, hown, hts, ⟨hf1, hf2, hf3, hf4⟩, hK, hD, hA, hN⟩ := hE
  intro H locs ls hS hP hl
  obtain ⟨q1, -, g1⟩ := wl_get (ad := ad1) hk1
  obtain ⟨q2, hp, g2⟩ := wl_get (ad := ad1) hk2
  have e0 : (i32 0).toNatClampNeg = 0 := rfl
  have en : (i32 12).toNatClampNeg = 12 := rfl
  refine va_copyi hx hb (hml.trans hl.1.symm) hown (hts _ hw) (hts _ zv_arraycopyName) (hts _ zt_arraycopyName) (hts _ zn_java_lang_System) hK hP (wl_D hD) hS q1 q2 0 0 (g1 _) (g2 _) rfl rfl rfl (by decide) (by decide) (by decide) (by decide) (by decide) (fun i hi => rfl) (by omega) (by omega) d (fun H1 locs1 hP1 hD1 hS1 => ?_)
  rw [wl_set hp, e0, en, cf_all (fun q => if kyA q = 3 then S r1 q else S r2 q) hk2 (fun q hq => if_neg (fun e => hq ((kz_A (by decide)).mpr e))) ?_] at hP1
  · exact kk H1 locs1 ls hS1 hP1 hl
  · have e9 : va_cpy (cz 12 (S r1) (of3 20)) (cz 12 (S r2) (of3 20)) 0 0 12 = cz 12 (fun q => if kyA q = 3 then S r1 q else S r2 q) (of3 20) := by
      funext k
      by_cases hk : k < 12
      · rw [pk_cpy_in (by omega) (by omega), cz_at hk, show 0 + (k - 0) = k by omega, cz_at hk, if_pos ((kz_A (by decide)).mp (ko_3 (by omega) (by omega)))]
      · rw [pk_cpy_out (by omega)]; unfold cz; rw [if_neg hk, if_neg hk]
    rw [e9]; simp only [cf, us_eq]
theorem ac_4 (hE : zG E l0 D0 cI0 cJ0 ad cc nL0 own fr lo) {r1 r2 index : Nat} (hk1 : (r1, 4) ∈ ks) (hk2 : (r2, 4) ∈ ks) (hw : Cond.methodLink own index arraycopyName ∈ wsL_law) (hfr : 1 ≤ fr) (hlo : (st.map fun v => v.category).sum + (nativeFrameWords "java/lang/System" "arraycopy" 5 + 11) ≤ lo) (d : decode cc pc = .ok (.invokestatic index, 3)) (kk : Z E (us S r2 (fun q => if kyA q = 4 then S r1 q else S r2 q)) (pc + 3) L st) : Z E S pc L (.int (i32 12) :: .int (i32 0) :: .ref (ad r2 4) :: .int (i32 0) :: .ref (ad r1 4) :: st) := by
  obtain ⟨p, l, e, R, s, m, args, below, meth, c, Q, A, D, cI, cJ, ad1, nL, cells, slots⟩ := E
  obtain ⟨⟨rfl, rfl, rfl, rfl, rfl, rfl⟩, hx, hb, hml, hown, hts, ⟨hf1, hf2, hf3, hf4⟩, hK, hD, hA, hN⟩ := hE
  intro H locs ls hS hP hl
  obtain ⟨q1, -, g1⟩ := wl_get (ad := ad1) hk1
  obtain ⟨q2, hp, g2⟩ := wl_get (ad := ad1) hk2
  have e0 : (i32 0).toNatClampNeg = 0 := rfl
  have en : (i32 12).toNatClampNeg = 12 := rfl
  refine va_copyl hx hb (hml.trans hl.1.symm) hown (hts _ hw) (hts _ zv_arraycopyName) (hts _ zt_arraycopyName) (hts _ zn_java_lang_System) hK hP (wl_D hD) hS q1 q2 1 1 (g1 _) (g2 _) rfl rfl rfl (by decide) (by decide) (by decide) (by decide) (by decide) (fun i hi => rfl) (by omega) (by omega) d (fun H1 locs1 hP1 hD1 hS1 => ?_)
  rw [wl_set hp, e0, en, cf_all (fun q => if kyA q = 4 then S r1 q else S r2 q) hk2 (fun q hq => if_neg (fun e => hq ((kz_A (by decide)).mpr e))) ?_] at hP1
  · exact kk H1 locs1 ls hS1 hP1 hl
  · have e9 : va_cpy (cy 12 (S r1) (of3 21)) (cy 12 (S r2) (of3 21)) 0 0 12 = cy 12 (fun q => if kyA q = 4 then S r1 q else S r2 q) (of3 21) := by
      funext k
      by_cases hk : k < 12
      · rw [pk_cpy_in (by omega) (by omega), cy_at hk, show 0 + (k - 0) = k by omega, cy_at hk, if_pos ((kz_A (by decide)).mp (ko_4 (by omega) (by omega)))]
      · rw [pk_cpy_out (by omega)]; unfold cy; rw [if_neg hk, if_neg hk]
    rw [e9]; simp only [cf, us_eq]
theorem ac_7 (hE : zG E l0 D0 cI0 cJ0 ad cc nL0 own fr lo) {r1 r2 index : Nat} (hk1 : (r1, 7) ∈ ks) (hk2 : (r2, 7) ∈ ks) (hw : Cond.methodLink own index arraycopyName ∈ wsL_law) (hfr : 1 ≤ fr) (hlo : (st.map fun v => v.category).sum + (nativeFrameWords "java/lang/System" "arraycopy" 5 + 11) ≤ lo) (d : decode cc pc = .ok (.invokestatic index, 3)) (kk : Z E (us S r2 (fun q => if kyA q = 7 then S r1 q else S r2 q)) (pc + 3) L st) : Z E S pc L (.int (i32 3) :: .int (i32 0) :: .ref (ad r2 7) :: .int (i32 0) :: .ref (ad r1 7) :: st) := by
  obtain ⟨p, l, e, R, s, m, args, below, meth, c, Q, A, D, cI, cJ, ad1, nL, cells, slots⟩ := E
  obtain ⟨⟨rfl, rfl, rfl, rfl, rfl, rfl⟩, hx, hb, hml, hown, hts, ⟨hf1, hf2, hf3, hf4⟩, hK, hD, hA, hN⟩ := hE
  intro H locs ls hS hP hl
  obtain ⟨q1, -, g1⟩ := wl_get (ad := ad1) hk1
  obtain ⟨q2, hp, g2⟩ := wl_get (ad := ad1) hk2
  have e0 : (i32 0).toNatClampNeg = 0 := rfl
  have en : (i32 3).toNatClampNeg = 3 := rfl
  refine va_copyi hx hb (hml.trans hl.1.symm) hown (hts _ hw) (hts _ zv_arraycopyName) (hts _ zt_arraycopyName) (hts _ zn_java_lang_System) hK hP (wl_D hD) hS q1 q2 0 0 (g1 _) (g2 _) rfl rfl rfl (by decide) (by decide) (by decide) (by decide) (by decide) (fun i hi => rfl) (by omega) (by omega) d (fun H1 locs1 hP1 hD1 hS1 => ?_)
  rw [wl_set hp, e0, en, cf_all (fun q => if kyA q = 7 then S r1 q else S r2 q) hk2 (fun q hq => if_neg (fun e => hq ((kz_A (by decide)).mpr e))) ?_] at hP1
  · exact kk H1 locs1 ls hS1 hP1 hl
  · have e9 : va_cpy (cz 3 (S r1) (of1 10)) (cz 3 (S r2) (of1 10)) 0 0 3 = cz 3 (fun q => if kyA q = 7 then S r1 q else S r2 q) (of1 10) := by
      funext k
      by_cases hk : k < 3
      · rw [pk_cpy_in (by omega) (by omega), cz_at hk, show 0 + (k - 0) = k by omega, cz_at hk, if_pos ((kz_A (by decide)).mp (ko_7 (by omega) (by omega)))]
      · rw [pk_cpy_out (by omega)]; unfold cz; rw [if_neg hk, if_neg hk]
    rw [e9]; simp only [cf, us_eq]
theorem ac_9 (hE : zG E l0 D0 cI0 cJ0 ad cc nL0 own fr lo) {r1 r2 index : Nat} (hk1 : (r1, 9) ∈ ks) (hk2 : (r2, 9) ∈ ks) (hw : Cond.methodLink own index arraycopyName ∈ wsL_law) (hfr : 1 ≤ fr) (hlo : (st.map fun v => v.category).sum + (nativeFrameWords "java/lang/System" "arraycopy" 5 + 11) ≤ lo) (d : decode cc pc = .ok (.invokestatic index, 3)) (kk : Z E (us S r2 (fun q => if kyA q = 9 then S r1 q else S r2 q)) (pc + 3) L st) : Z E S pc L (.int (i32 20) :: .int (i32 0) :: .ref (ad r2 9) :: .int (i32 0) :: .ref (ad r1 9) :: st) := by
  obtain ⟨p, l, e, R, s, m, args, below, meth, c, Q, A, D, cI, cJ, ad1, nL, cells, slots⟩ := E
  obtain ⟨⟨rfl, rfl, rfl, rfl, rfl, rfl⟩, hx, hb, hml, hown, hts, ⟨hf1, hf2, hf3, hf4⟩, hK, hD, hA, hN⟩ := hE
  intro H locs ls hS hP hl
  obtain ⟨q1, -, g1⟩ := wl_get (ad := ad1) hk1
  obtain ⟨q2, hp, g2⟩ := wl_get (ad := ad1) hk2
  have e0 : (i32 0).toNatClampNeg = 0 := rfl
  have en : (i32 20).toNatClampNeg = 20 := rfl
  refine va_copyi hx hb (hml.trans hl.1.symm) hown (hts _ hw) (hts _ zv_arraycopyName) (hts _ zt_arraycopyName) (hts _ zn_java_lang_System) hK hP (wl_D hD) hS q1 q2 0 0 (g1 _) (g2 _) rfl rfl rfl (by decide) (by decide) (by decide) (by decide) (by decide) (fun i hi => rfl) (by omega) (by omega) d (fun H1 locs1 hP1 hD1 hS1 => ?_)
  rw [wl_set hp, e0, en, cf_all (fun q => if kyA q = 9 then S r1 q else S r2 q) hk2 (fun q hq => if_neg (fun e => hq ((kz_A (by decide)).mpr e))) ?_] at hP1
  · exact kk H1 locs1 ls hS1 hP1 hl
  · have e9 : va_cpy (cz 20 (S r1) (of22 55)) (cz 20 (S r2) (of22 55)) 0 0 20 = cz 20 (fun q => if kyA q = 9 then S r1 q else S r2 q) (of22 55) := by
      funext k
      by_cases hk : k < 20
      · rw [pk_cpy_in (by omega) (by omega), cz_at hk, show 0 + (k - 0) = k by omega, cz_at hk, if_pos ((kz_A (by decide)).mp (ko_9 (by omega) (by omega)))]
      · rw [pk_cpy_out (by omega)]; unfold cz; rw [if_neg hk, if_neg hk]
    rw [e9]; simp only [cf, us_eq]
theorem ac_10 (hE : zG E l0 D0 cI0 cJ0 ad cc nL0 own fr lo) {r1 r2 index : Nat} (hk1 : (r1, 10) ∈ ks) (hk2 : (r2, 10) ∈ ks) (hw : Cond.methodLink own index arraycopyName ∈ wsL_law) (hfr : 1 ≤ fr) (hlo : (st.map fun v => v.category).sum + (nativeFrameWords "java/lang/System" "arraycopy" 5 + 11) ≤ lo) (d : decode cc pc = .ok (.invokestatic index, 3)) (kk : Z E (us S r2 (fun q => if kyA q = 10 then S r1 q else S r2 q)) (pc + 3) L st) : Z E S pc L (.int (i32 20) :: .int (i32 0) :: .ref (ad r2 10) :: .int (i32 0) :: .ref (ad r1 10) :: st) := by
  obtain ⟨p, l, e, R, s, m, args, below, meth, c, Q, A, D, cI, cJ, ad1, nL, cells, slots⟩ := E
  obtain ⟨⟨rfl, rfl, rfl, rfl, rfl, rfl⟩, hx, hb, hml, hown, hts, ⟨hf1, hf2, hf3, hf4⟩, hK, hD, hA, hN⟩ := hE
  intro H locs ls hS hP hl
  obtain ⟨q1, -, g1⟩ := wl_get (ad := ad1) hk1
  obtain ⟨q2, hp, g2⟩ := wl_get (ad := ad1) hk2
  have e0 : (i32 0).toNatClampNeg = 0 := rfl
  have en : (i32 20).toNatClampNeg = 20 := rfl
  refine va_copyi hx hb (hml.trans hl.1.symm) hown (hts _ hw) (hts _ zv_arraycopyName) (hts _ zt_arraycopyName) (hts _ zn_java_lang_System) hK hP (wl_D hD) hS q1 q2 0 0 (g1 _) (g2 _) rfl rfl rfl (by decide) (by decide) (by decide) (by decide) (by decide) (fun i hi => rfl) (by omega) (by omega) d (fun H1 locs1 hP1 hD1 hS1 => ?_)
  rw [wl_set hp, e0, en, cf_all (fun q => if kyA q = 10 then S r1 q else S r2 q) hk2 (fun q hq => if_neg (fun e => hq ((kz_A (by decide)).mpr e))) ?_] at hP1
  · exact kk H1 locs1 ls hS1 hP1 hl
  · have e9 : va_cpy (cz 20 (S r1) (of22 56)) (cz 20 (S r2) (of22 56)) 0 0 20 = cz 20 (fun q => if kyA q = 10 then S r1 q else S r2 q) (of22 56) := by
      funext k
      by_cases hk : k < 20
      · rw [pk_cpy_in (by omega) (by omega), cz_at hk, show 0 + (k - 0) = k by omega, cz_at hk, if_pos ((kz_A (by decide)).mp (ko_10 (by omega) (by omega)))]
      · rw [pk_cpy_out (by omega)]; unfold cz; rw [if_neg hk, if_neg hk]
    rw [e9]; simp only [cf, us_eq]
theorem ac_11 (hE : zG E l0 D0 cI0 cJ0 ad cc nL0 own fr lo) {r1 r2 index : Nat} (hk1 : (r1, 11) ∈ ks) (hk2 : (r2, 11) ∈ ks) (hw : Cond.methodLink own index arraycopyName ∈ wsL_law) (hfr : 1 ≤ fr) (hlo : (st.map fun v => v.category).sum + (nativeFrameWords "java/lang/System" "arraycopy" 5 + 11) ≤ lo) (d : decode cc pc = .ok (.invokestatic index, 3)) (kk : Z E (us S r2 (fun q => if kyA q = 11 then S r1 q else S r2 q)) (pc + 3) L st) : Z E S pc L (.int (i32 20) :: .int (i32 0) :: .ref (ad r2 11) :: .int (i32 0) :: .ref (ad r1 11) :: st) := by
  obtain ⟨p, l, e, R, s, m, args, below, meth, c, Q, A, D, cI, cJ, ad1, nL, cells, slots⟩ := E
  obtain ⟨⟨rfl, rfl, rfl, rfl, rfl, rfl⟩, hx, hb, hml, hown, hts, ⟨hf1, hf2, hf3, hf4⟩, hK, hD, hA, hN⟩ := hE
  intro H locs ls hS hP hl
  obtain ⟨q1, -, g1⟩ := wl_get (ad := ad1) hk1
  obtain ⟨q2, hp, g2⟩ := wl_get (ad := ad1) hk2
  have e0 : (i32 0).toNatClampNeg = 0 := rfl
  have en : (i32 20).toNatClampNeg = 20 := rfl
  refine va_copyi hx hb (hml.trans hl.1.symm) hown (hts _ hw) (hts _ zv_arraycopyName) (hts _ zt_arraycopyName) (hts _ zn_java_lang_System) hK hP (wl_D hD) hS q1 q2 0 0 (g1 _) (g2 _) rfl rfl rfl (by decide) (by decide) (by decide) (by decide) (by decide) (fun i hi => rfl) (by omega) (by omega) d (fun H1 locs1 hP1 hD1 hS1 => ?_)
  rw [wl_set hp, e0, en, cf_all (fun q => if kyA q = 11 then S r1 q else S r2 q) hk2 (fun q hq => if_neg (fun e => hq ((kz_A (by decide)).mpr e))) ?_] at hP1
  · exact kk H1 locs1 ls hS1 hP1 hl
  · have e9 : va_cpy (cz 20 (S r1) (of22 58)) (cz 20 (S r2) (of22 58)) 0 0 20 = cz 20 (fun q => if kyA q = 11 then S r1 q else S r2 q) (of22 58) := by
      funext k
      by_cases hk : k < 20
      · rw [pk_cpy_in (by omega) (by omega), cz_at hk, show 0 + (k - 0) = k by omega, cz_at hk, if_pos ((kz_A (by decide)).mp (ko_11 (by omega) (by omega)))]
      · rw [pk_cpy_out (by omega)]; unfold cz; rw [if_neg hk, if_neg hk]
    rw [e9]; simp only [cf, us_eq]
theorem ac_12 (hE : zG E l0 D0 cI0 cJ0 ad cc nL0 own fr lo) {r1 r2 index : Nat} (hk1 : (r1, 12) ∈ ks) (hk2 : (r2, 12) ∈ ks) (hw : Cond.methodLink own index arraycopyName ∈ wsL_law) (hfr : 1 ≤ fr) (hlo : (st.map fun v => v.category).sum + (nativeFrameWords "java/lang/System" "arraycopy" 5 + 11) ≤ lo) (d : decode cc pc = .ok (.invokestatic index, 3)) (kk : Z E (us S r2 (fun q => if kyA q = 12 then S r1 q else S r2 q)) (pc + 3) L st) : Z E S pc L (.int (i32 20) :: .int (i32 0) :: .ref (ad r2 12) :: .int (i32 0) :: .ref (ad r1 12) :: st) := by
  obtain ⟨p, l, e, R, s, m, args, below, meth, c, Q, A, D, cI, cJ, ad1, nL, cells, slots⟩ := E
  obtain ⟨⟨rfl, rfl, rfl, rfl, rfl, rfl⟩, hx, hb, hml, hown, hts, ⟨hf1, hf2, hf3, hf4⟩, hK, hD, hA, hN⟩ := hE
  intro H locs ls hS hP hl
  obtain ⟨q1, -, g1⟩ := wl_get (ad := ad1) hk1
  obtain ⟨q2, hp, g2⟩ := wl_get (ad := ad1) hk2
  have e0 : (i32 0).toNatClampNeg = 0 := rfl
  have en : (i32 20).toNatClampNeg = 20 := rfl
  refine va_copyi hx hb (hml.trans hl.1.symm) hown (hts _ hw) (hts _ zv_arraycopyName) (hts _ zt_arraycopyName) (hts _ zn_java_lang_System) hK hP (wl_D hD) hS q1 q2 0 0 (g1 _) (g2 _) rfl rfl rfl (by decide) (by decide) (by decide) (by decide) (by decide) (fun i hi => rfl) (by omega) (by omega) d (fun H1 locs1 hP1 hD1 hS1 => ?_)
  rw [wl_set hp, e0, en, cf_all (fun q => if kyA q = 12 then S r1 q else S r2 q) hk2 (fun q hq => if_neg (fun e => hq ((kz_A (by decide)).mpr e))) ?_] at hP1
  · exact kk H1 locs1 ls hS1 hP1 hl
  · have e9 : va_cpy (cz 20 (S r1) (of22 57)) (cz 20 (S r2) (of22 57)) 0 0 20 = cz 20 (fun q => if kyA q = 12 then S r1 q else S r2 q) (of22 57) := by
      funext k
      by_cases hk : k < 20
      · rw [pk_cpy_in (by omega) (by omega), cz_at hk, show 0 + (k - 0) = k by omega, cz_at hk, if_pos ((kz_A (by decide)).mp (ko_12 (by omega) (by omega)))]
      · rw [pk_cpy_out (by omega)]; unfold cz; rw [if_neg hk, if_neg hk]
    rw [e9]; simp only [cf, us_eq]
theorem ac_13 (hE : zG E l0 D0 cI0 cJ0 ad cc nL0 own fr lo) {r1 r2 index : Nat} (hk1 : (r1, 13) ∈ ks) (hk2 : (r2, 13) ∈ ks) (hw : Cond.methodLink own index arraycopyName ∈ wsL_law) (hfr : 1 ≤ fr) (hlo : (st.map fun v => v.category).sum + (nativeFrameWords "java/lang/System" "arraycopy" 5 + 11) ≤ lo) (d : decode cc pc = .ok (.invokestatic index, 3)) (kk : Z E (us S r2 (fun q => if kyA q = 13 then S r1 q else S r2 q)) (pc + 3) L st) : Z E S pc L (.int (i32 20) :: .int (i32 0) :: .ref (ad r2 13) :: .int (i32 0) :: .ref (ad r1 13) :: st) := by
  obtain ⟨p, l, e, R, s, m, args, below, meth, c, Q, A, D, cI, cJ, ad1, nL, cells, slots⟩ := E
  obtain ⟨⟨rfl, rfl, rfl, rfl, rfl, rfl⟩, hx, hb, hml, hown, hts, ⟨hf1, hf2, hf3, hf4⟩, hK, hD, hA, hN⟩ := hE
  intro H locs ls hS hP hl
  obtain ⟨q1, -, g1⟩ := wl_get (ad := ad1) hk1
  obtain ⟨q2, hp, g2⟩ := wl_get (ad := ad1) hk2
  have e0 : (i32 0).toNatClampNeg = 0 := rfl
  have en : (i32 20).toNatClampNeg = 20 := rfl
  refine va_copyi hx hb (hml.trans hl.1.symm) hown (hts _ hw) (hts _ zv_arraycopyName) (hts _ zt_arraycopyName) (hts _ zn_java_lang_System) hK hP (wl_D hD) hS q1 q2 0 0 (g1 _) (g2 _) rfl rfl rfl (by decide) (by decide) (by decide) (by decide) (by decide) (fun i hi => rfl) (by omega) (by omega) d (fun H1 locs1 hP1 hD1 hS1 => ?_)
  rw [wl_set hp, e0, en, cf_all (fun q => if kyA q = 13 then S r1 q else S r2 q) hk2 (fun q hq => if_neg (fun e => hq ((kz_A (by decide)).mpr e))) ?_] at hP1
  · exact kk H1 locs1 ls hS1 hP1 hl
  · have e9 : va_cpy (cz 20 (S r1) (of22 59)) (cz 20 (S r2) (of22 59)) 0 0 20 = cz 20 (fun q => if kyA q = 13 then S r1 q else S r2 q) (of22 59) := by
      funext k
      by_cases hk : k < 20
      · rw [pk_cpy_in (by omega) (by omega), cz_at hk, show 0 + (k - 0) = k by omega, cz_at hk, if_pos ((kz_A (by decide)).mp (ko_13 (by omega) (by omega)))]
      · rw [pk_cpy_out (by omega)]; unfold cz; rw [if_neg hk, if_neg hk]
    rw [e9]; simp only [cf, us_eq]
theorem ac_14 (hE : zG E l0 D0 cI0 cJ0 ad cc nL0 own fr lo) {r1 r2 index : Nat} (hk1 : (r1, 14) ∈ ks) (hk2 : (r2, 14) ∈ ks) (hw : Cond.methodLink own index arraycopyName ∈ wsL_law) (hfr : 1 ≤ fr) (hlo : (st.map fun v => v.category).sum + (nativeFrameWords "java/lang/System" "arraycopy" 5 + 11) ≤ lo) (d : decode cc pc = .ok (.invokestatic index, 3)) (kk : Z E (us S r2 (fun q => if kyA q = 14 then S r1 q else S r2 q)) (pc + 3) L st) : Z E S pc L (.int (i32 20) :: .int (i32 0) :: .ref (ad r2 14) :: .int (i32 0) :: .ref (ad r1 14) :: st) := by
  obtain ⟨p, l, e, R, s, m, args, below, meth, c, Q, A, D, cI, cJ, ad1, nL, cells, slots⟩ := E
  obtain ⟨⟨rfl, rfl, rfl, rfl, rfl, rfl⟩, hx, hb, hml, hown, hts, ⟨hf1, hf2, hf3, hf4⟩, hK, hD, hA, hN⟩ := hE
  intro H locs ls hS hP hl
  obtain ⟨q1, -, g1⟩ := wl_get (ad := ad1) hk1
  obtain ⟨q2, hp, g2⟩ := wl_get (ad := ad1) hk2
  have e0 : (i32 0).toNatClampNeg = 0 := rfl
  have en : (i32 20).toNatClampNeg = 20 := rfl
  refine va_copyi hx hb (hml.trans hl.1.symm) hown (hts _ hw) (hts _ zv_arraycopyName) (hts _ zt_arraycopyName) (hts _ zn_java_lang_System) hK hP (wl_D hD) hS q1 q2 0 0 (g1 _) (g2 _) rfl rfl rfl (by decide) (by decide) (by decide) (by decide) (by decide) (fun i hi => rfl) (by omega) (by omega) d (fun H1 locs1 hP1 hD1 hS1 => ?_)
  rw [wl_set hp, e0, en, cf_all (fun q => if kyA q = 14 then S r1 q else S r2 q) hk2 (fun q hq => if_neg (fun e => hq ((kz_A (by decide)).mpr e))) ?_] at hP1
  · exact kk H1 locs1 ls hS1 hP1 hl
  · have e9 : va_cpy (cz 20 (S r1) (of1 645)) (cz 20 (S r2) (of1 645)) 0 0 20 = cz 20 (fun q => if kyA q = 14 then S r1 q else S r2 q) (of1 645) := by
      funext k
      by_cases hk : k < 20
      · rw [pk_cpy_in (by omega) (by omega), cz_at hk, show 0 + (k - 0) = k by omega, cz_at hk, if_pos ((kz_A (by decide)).mp (ko_14 (by omega) (by omega)))]
      · rw [pk_cpy_out (by omega)]; unfold cz; rw [if_neg hk, if_neg hk]
    rw [e9]; simp only [cf, us_eq]
theorem ac_15 (hE : zG E l0 D0 cI0 cJ0 ad cc nL0 own fr lo) {r1 r2 index : Nat} (hk1 : (r1, 15) ∈ ks) (hk2 : (r2, 15) ∈ ks) (hw : Cond.methodLink own index arraycopyName ∈ wsL_law) (hfr : 1 ≤ fr) (hlo : (st.map fun v => v.category).sum + (nativeFrameWords "java/lang/System" "arraycopy" 5 + 11) ≤ lo) (d : decode cc pc = .ok (.invokestatic index, 3)) (kk : Z E (us S r2 (fun q => if kyA q = 15 then S r1 q else S r2 q)) (pc + 3) L st) : Z E S pc L (.int (i32 80) :: .int (i32 0) :: .ref (ad r2 15) :: .int (i32 0) :: .ref (ad r1 15) :: st) := by
  obtain ⟨p, l, e, R, s, m, args, below, meth, c, Q, A, D, cI, cJ, ad1, nL, cells, slots⟩ := E
  obtain ⟨⟨rfl, rfl, rfl, rfl, rfl, rfl⟩, hx, hb, hml, hown, hts, ⟨hf1, hf2, hf3, hf4⟩, hK, hD, hA, hN⟩ := hE
  intro H locs ls hS hP hl
  obtain ⟨q1, -, g1⟩ := wl_get (ad := ad1) hk1
  obtain ⟨q2, hp, g2⟩ := wl_get (ad := ad1) hk2
  have e0 : (i32 0).toNatClampNeg = 0 := rfl
  have en : (i32 80).toNatClampNeg = 80 := rfl
  refine va_copyi hx hb (hml.trans hl.1.symm) hown (hts _ hw) (hts _ zv_arraycopyName) (hts _ zt_arraycopyName) (hts _ zn_java_lang_System) hK hP (wl_D hD) hS q1 q2 0 0 (g1 _) (g2 _) rfl rfl rfl (by decide) (by decide) (by decide) (by decide) (by decide) (fun i hi => rfl) (by omega) (by omega) d (fun H1 locs1 hP1 hD1 hS1 => ?_)
  rw [wl_set hp, e0, en, cf_all (fun q => if kyA q = 15 then S r1 q else S r2 q) hk2 (fun q hq => if_neg (fun e => hq ((kz_A (by decide)).mpr e))) ?_] at hP1
  · exact kk H1 locs1 ls hS1 hP1 hl
  · have e9 : va_cpy (cz 80 (S r1) ofS) (cz 80 (S r2) ofS) 0 0 80 = cz 80 (fun q => if kyA q = 15 then S r1 q else S r2 q) ofS := by
      funext k
      by_cases hk : k < 80
      · rw [pk_cpy_in (by omega) (by omega), cz_at hk, show 0 + (k - 0) = k by omega, cz_at hk, if_pos ((kz_A (by decide)).mp (ko_15 (by omega) (by omega)))]
      · rw [pk_cpy_out (by omega)]; unfold cz; rw [if_neg hk, if_neg hk]
    rw [e9]; simp only [cf, us_eq]
theorem ac_16 (hE : zG E l0 D0 cI0 cJ0 ad cc nL0 own fr lo) {r1 r2 index : Nat} (hk1 : (r1, 16) ∈ ks) (hk2 : (r2, 16) ∈ ks) (hw : Cond.methodLink own index arraycopyName ∈ wsL_law) (hfr : 1 ≤ fr) (hlo : (st.map fun v => v.category).sum + (nativeFrameWords "java/lang/System" "arraycopy" 5 + 11) ≤ lo) (d : decode cc pc = .ok (.invokestatic index, 3)) (kk : Z E (us S r2 (fun q => if kyA q = 16 then S r1 q else S r2 q)) (pc + 3) L st) : Z E S pc L (.int (i32 240) :: .int (i32 0) :: .ref (ad r2 16) :: .int (i32 0) :: .ref (ad r1 16) :: st) := by
  obtain ⟨p, l, e, R, s, m, args, below, meth, c, Q, A, D, cI, cJ, ad1, nL, cells, slots⟩ := E
  obtain ⟨⟨rfl, rfl, rfl, rfl, rfl, rfl⟩, hx, hb, hml, hown, hts, ⟨hf1, hf2, hf3, hf4⟩, hK, hD, hA, hN⟩ := hE
  intro H locs ls hS hP hl
  obtain ⟨q1, -, g1⟩ := wl_get (ad := ad1) hk1
  obtain ⟨q2, hp, g2⟩ := wl_get (ad := ad1) hk2
  have e0 : (i32 0).toNatClampNeg = 0 := rfl
  have en : (i32 240).toNatClampNeg = 240 := rfl
  refine va_copyi hx hb (hml.trans hl.1.symm) hown (hts _ hw) (hts _ zv_arraycopyName) (hts _ zt_arraycopyName) (hts _ zn_java_lang_System) hK hP (wl_D hD) hS q1 q2 0 0 (g1 _) (g2 _) rfl rfl rfl (by decide) (by decide) (by decide) (by decide) (by decide) (fun i hi => rfl) (by omega) (by omega) d (fun H1 locs1 hP1 hD1 hS1 => ?_)
  rw [wl_set hp, e0, en, cf_all (fun q => if kyA q = 16 then S r1 q else S r2 q) hk2 (fun q hq => if_neg (fun e => hq ((kz_A (by decide)).mpr e))) ?_] at hP1
  · exact kk H1 locs1 ls hS1 hP1 hl
  · have e9 : va_cpy (cz 240 (S r1) ofC) (cz 240 (S r2) ofC) 0 0 240 = cz 240 (fun q => if kyA q = 16 then S r1 q else S r2 q) ofC := by
      funext k
      by_cases hk : k < 240
      · rw [pk_cpy_in (by omega) (by omega), cz_at hk, show 0 + (k - 0) = k by omega, cz_at hk, if_pos ((kz_A (by decide)).mp (ko_16 (by omega) (by omega)))]
      · rw [pk_cpy_out (by omega)]; unfold cz; rw [if_neg hk, if_neg hk]
    rw [e9]; simp only [cf, us_eq]
theorem ac_18 (hE : zG E l0 D0 cI0 cJ0 ad cc nL0 own fr lo) {r1 r2 index : Nat} (hk1 : (r1, 18) ∈ ks) (hk2 : (r2, 18) ∈ ks) (hw : Cond.methodLink own index arraycopyName ∈ wsL_law) (hfr : 1 ≤ fr) (hlo : (st.map fun v => v.category).sum + (nativeFrameWords "java/lang/System" "arraycopy" 5 + 11) ≤ lo) (d : decode cc pc = .ok (.invokestatic index, 3)) (kk : Z E (us S r2 (fun q => if kyA q = 18 then S r1 q else S r2 q)) (pc + 3) L st) : Z E S pc L (.int (i32 10) :: .int (i32 0) :: .ref (ad r2 18) :: .int (i32 0) :: .ref (ad r1 18) :: st) := by
  obtain ⟨p, l, e, R, s, m, args, below, meth, c, Q, A, D, cI, cJ, ad1, nL, cells, slots⟩ := E
  obtain ⟨⟨rfl, rfl, rfl, rfl, rfl, rfl⟩, hx, hb, hml, hown, hts, ⟨hf1, hf2, hf3, hf4⟩, hK, hD, hA, hN⟩ := hE
  intro H locs ls hS hP hl
  obtain ⟨q1, -, g1⟩ := wl_get (ad := ad1) hk1
  obtain ⟨q2, hp, g2⟩ := wl_get (ad := ad1) hk2
  have e0 : (i32 0).toNatClampNeg = 0 := rfl
  have en : (i32 10).toNatClampNeg = 10 := rfl
  refine va_copyi hx hb (hml.trans hl.1.symm) hown (hts _ hw) (hts _ zv_arraycopyName) (hts _ zt_arraycopyName) (hts _ zn_java_lang_System) hK hP (wl_D hD) hS q1 q2 0 0 (g1 _) (g2 _) rfl rfl rfl (by decide) (by decide) (by decide) (by decide) (by decide) (fun i hi => rfl) (by omega) (by omega) d (fun H1 locs1 hP1 hD1 hS1 => ?_)
  rw [wl_set hp, e0, en, cf_all (fun q => if kyA q = 18 then S r1 q else S r2 q) hk2 (fun q hq => if_neg (fun e => hq ((kz_A (by decide)).mpr e))) ?_] at hP1
  · exact kk H1 locs1 ls hS1 hP1 hl
  · have e9 : va_cpy (cz 10 (S r1) (of15 495)) (cz 10 (S r2) (of15 495)) 0 0 10 = cz 10 (fun q => if kyA q = 18 then S r1 q else S r2 q) (of15 495) := by
      funext k
      by_cases hk : k < 10
      · rw [pk_cpy_in (by omega) (by omega), cz_at hk, show 0 + (k - 0) = k by omega, cz_at hk, if_pos ((kz_A (by decide)).mp (ko_18 (by omega) (by omega)))]
      · rw [pk_cpy_out (by omega)]; unfold cz; rw [if_neg hk, if_neg hk]
    rw [e9]; simp only [cf, us_eq]
theorem ac_19 (hE : zG E l0 D0 cI0 cJ0 ad cc nL0 own fr lo) {r1 r2 index : Nat} (hk1 : (r1, 19) ∈ ks) (hk2 : (r2, 19) ∈ ks) (hw : Cond.methodLink own index arraycopyName ∈ wsL_law) (hfr : 1 ≤ fr) (hlo : (st.map fun v => v.category).sum + (nativeFrameWords "java/lang/System" "arraycopy" 5 + 11) ≤ lo) (d : decode cc pc = .ok (.invokestatic index, 3)) (kk : Z E (us S r2 (fun q => if kyA q = 19 then S r1 q else S r2 q)) (pc + 3) L st) : Z E S pc L (.int (i32 10) :: .int (i32 0) :: .ref (ad r2 19) :: .int (i32 0) :: .ref (ad r1 19) :: st) := by
  obtain ⟨p, l, e, R, s, m, args, below, meth, c, Q, A, D, cI, cJ, ad1, nL, cells, slots⟩ := E
  obtain ⟨⟨rfl, rfl, rfl, rfl, rfl, rfl⟩, hx, hb, hml, hown, hts, ⟨hf1, hf2, hf3, hf4⟩, hK, hD, hA, hN⟩ := hE
  intro H locs ls hS hP hl
  obtain ⟨q1, -, g1⟩ := wl_get (ad := ad1) hk1
  obtain ⟨q2, hp, g2⟩ := wl_get (ad := ad1) hk2
  have e0 : (i32 0).toNatClampNeg = 0 := rfl
  have en : (i32 10).toNatClampNeg = 10 := rfl
  refine va_copyi hx hb (hml.trans hl.1.symm) hown (hts _ hw) (hts _ zv_arraycopyName) (hts _ zt_arraycopyName) (hts _ zn_java_lang_System) hK hP (wl_D hD) hS q1 q2 0 0 (g1 _) (g2 _) rfl rfl rfl (by decide) (by decide) (by decide) (by decide) (by decide) (fun i hi => rfl) (by omega) (by omega) d (fun H1 locs1 hP1 hD1 hS1 => ?_)
  rw [wl_set hp, e0, en, cf_all (fun q => if kyA q = 19 then S r1 q else S r2 q) hk2 (fun q hq => if_neg (fun e => hq ((kz_A (by decide)).mpr e))) ?_] at hP1
  · exact kk H1 locs1 ls hS1 hP1 hl
  · have e9 : va_cpy (cz 10 (S r1) (of15 496)) (cz 10 (S r2) (of15 496)) 0 0 10 = cz 10 (fun q => if kyA q = 19 then S r1 q else S r2 q) (of15 496) := by
      funext k
      by_cases hk : k < 10
      · rw [pk_cpy_in (by omega) (by omega), cz_at hk, show 0 + (k - 0) = k by omega, cz_at hk, if_pos ((kz_A (by decide)).mp (ko_19 (by omega) (by omega)))]
      · rw [pk_cpy_out (by omega)]; unfold cz; rw [if_neg hk, if_neg hk]
    rw [e9]; simp only [cf, us_eq]
theorem ac_20 (hE : zG E l0 D0 cI0 cJ0 ad cc nL0 own fr lo) {r1 r2 index : Nat} (hk1 : (r1, 20) ∈ ks) (hk2 : (r2, 20) ∈ ks) (hw : Cond.methodLink own index arraycopyName ∈ wsL_law) (hfr : 1 ≤ fr) (hlo : (st.map fun v => v.category).sum + (nativeFrameWords "java/lang/System" "arraycopy" 5 + 11) ≤ lo) (d : decode cc pc = .ok (.invokestatic index, 3)) (kk : Z E (us S r2 (fun q => if kyA q = 20 then S r1 q else S r2 q)) (pc + 3) L st) : Z E S pc L (.int (i32 10) :: .int (i32 0) :: .ref (ad r2 20) :: .int (i32 0) :: .ref (ad r1 20) :: st) := by
  obtain ⟨p, l, e, R, s, m, args, below, meth, c, Q, A, D, cI, cJ, ad1, nL, cells, slots⟩ := E
  obtain ⟨⟨rfl, rfl, rfl, rfl, rfl, rfl⟩, hx, hb, hml, hown, hts, ⟨hf1, hf2, hf3, hf4⟩, hK, hD, hA, hN⟩ := hE
  intro H locs ls hS hP hl
  obtain ⟨q1, -, g1⟩ := wl_get (ad := ad1) hk1
  obtain ⟨q2, hp, g2⟩ := wl_get (ad := ad1) hk2
  have e0 : (i32 0).toNatClampNeg = 0 := rfl
  have en : (i32 10).toNatClampNeg = 10 := rfl
  refine va_copyi hx hb (hml.trans hl.1.symm) hown (hts _ hw) (hts _ zv_arraycopyName) (hts _ zt_arraycopyName) (hts _ zn_java_lang_System) hK hP (wl_D hD) hS q1 q2 0 0 (g1 _) (g2 _) rfl rfl rfl (by decide) (by decide) (by decide) (by decide) (by decide) (fun i hi => rfl) (by omega) (by omega) d (fun H1 locs1 hP1 hD1 hS1 => ?_)
  rw [wl_set hp, e0, en, cf_all (fun q => if kyA q = 20 then S r1 q else S r2 q) hk2 (fun q hq => if_neg (fun e => hq ((kz_A (by decide)).mpr e))) ?_] at hP1
  · exact kk H1 locs1 ls hS1 hP1 hl
  · have e9 : va_cpy (cz 10 (S r1) (of15 497)) (cz 10 (S r2) (of15 497)) 0 0 10 = cz 10 (fun q => if kyA q = 20 then S r1 q else S r2 q) (of15 497) := by
      funext k
      by_cases hk : k < 10
      · rw [pk_cpy_in (by omega) (by omega), cz_at hk, show 0 + (k - 0) = k by omega, cz_at hk, if_pos ((kz_A (by decide)).mp (ko_20 (by omega) (by omega)))]
      · rw [pk_cpy_out (by omega)]; unfold cz; rw [if_neg hk, if_neg hk]
    rw [e9]; simp only [cf, us_eq]
theorem ac_21 (hE : zG E l0 D0 cI0 cJ0 ad cc nL0 own fr lo) {r1 r2 index : Nat} (hk1 : (r1, 21) ∈ ks) (hk2 : (r2, 21) ∈ ks) (hw : Cond.methodLink own index arraycopyName ∈ wsL_law) (hfr : 1 ≤ fr) (hlo : (st.map fun v => v.category).sum + (nativeFrameWords "java/lang/System" "arraycopy" 5 + 11) ≤ lo) (d : decode cc pc = .ok (.invokestatic index, 3)) (kk : Z E (us S r2 (fun q => if kyA q = 21 then S r1 q else S r2 q)) (pc + 3) L st) : Z E S pc L (.int (i32 120) :: .int (i32 0) :: .ref (ad r2 21) :: .int (i32 0) :: .ref (ad r1 21) :: st) := by
  obtain ⟨p, l, e, R, s, m, args, below, meth, c, Q, A, D, cI, cJ, ad1, nL, cells, slots⟩ := E
  obtain ⟨⟨rfl, rfl, rfl, rfl, rfl, rfl⟩, hx, hb, hml, hown, hts, ⟨hf1, hf2, hf3, hf4⟩, hK, hD, hA, hN⟩ := hE
  intro H locs ls hS hP hl
  obtain ⟨q1, -, g1⟩ := wl_get (ad := ad1) hk1
  obtain ⟨q2, hp, g2⟩ := wl_get (ad := ad1) hk2
  have e0 : (i32 0).toNatClampNeg = 0 := rfl
  have en : (i32 120).toNatClampNeg = 120 := rfl
  refine va_copyi hx hb (hml.trans hl.1.symm) hown (hts _ hw) (hts _ zv_arraycopyName) (hts _ zt_arraycopyName) (hts _ zn_java_lang_System) hK hP (wl_D hD) hS q1 q2 0 0 (g1 _) (g2 _) rfl rfl rfl (by decide) (by decide) (by decide) (by decide) (by decide) (fun i hi => rfl) (by omega) (by omega) d (fun H1 locs1 hP1 hD1 hS1 => ?_)
  rw [wl_set hp, e0, en, cf_all (fun q => if kyA q = 21 then S r1 q else S r2 q) hk2 (fun q hq => if_neg (fun e => hq ((kz_A (by decide)).mpr e))) ?_] at hP1
  · exact kk H1 locs1 ls hS1 hP1 hl
  · have e9 : va_cpy (cz 120 (S r1) ofB) (cz 120 (S r2) ofB) 0 0 120 = cz 120 (fun q => if kyA q = 21 then S r1 q else S r2 q) ofB := by
      funext k
      by_cases hk : k < 120
      · rw [pk_cpy_in (by omega) (by omega), cz_at hk, show 0 + (k - 0) = k by omega, cz_at hk, if_pos ((kz_A (by decide)).mp (ko_21 (by omega) (by omega)))]
      · rw [pk_cpy_out (by omega)]; unfold cz; rw [if_neg hk, if_neg hk]
    rw [e9]; simp only [cf, us_eq]
theorem ac_7s (hE : zG E l0 D0 cI0 cJ0 ad cc nL0 own fr lo) {r index : Nat} (hk : (r, 7) ∈ ks) (hw : Cond.methodLink own index arraycopyName ∈ wsL_law) (hfr : 1 ≤ fr) (hlo : (st.map fun v => v.category).sum + (nativeFrameWords "java/lang/System" "arraycopy" 5 + 11) ≤ lo) (d : decode cc pc = .ok (.invokestatic index, 3)) (kk : Z E (us S r (up (up (S r) 10 (S r 11)) 11 (S r 12))) (pc + 3) L st) : Z E S pc L (.int (i32 2) :: .int (i32 0) :: .ref (ad r 7) :: .int (i32 1) :: .ref (ad r 7) :: st) := by
  obtain ⟨p, l, e, R, s, m, args, below, meth, c, Q, A, D, cI, cJ, ad1, nL, cells, slots⟩ := E
  obtain ⟨⟨rfl, rfl, rfl, rfl, rfl, rfl⟩, hx, hb, hml, hown, hts, ⟨hf1, hf2, hf3, hf4⟩, hK, hD, hA, hN⟩ := hE
  intro H locs ls hS hP hl
  obtain ⟨q2, hp, g2⟩ := wl_get (ad := ad1) hk
  have e0 : (i32 0).toNatClampNeg = 0 := rfl
  have e1 : (i32 1).toNatClampNeg = 1 := rfl
  have en : (i32 2).toNatClampNeg = 2 := rfl
  refine va_copyi hx hb (hml.trans hl.1.symm) hown (hts _ hw) (hts _ zv_arraycopyName) (hts _ zt_arraycopyName) (hts _ zn_java_lang_System) hK hP (wl_D hD) hS q2 q2 0 0 (g2 _) (g2 _) rfl rfl rfl (by decide) (by decide) (by decide) (by decide) (by decide) (fun i hi => rfl) (by omega) (by omega) d (fun H1 locs1 hP1 hD1 hS1 => ?_)
  rw [wl_set hp, e0, e1, en, cf_all (up (up (S r) 10 (S r 11)) 11 (S r 12)) hk (fun q hq => ?_) ?_] at hP1
  · exact kk H1 locs1 ls hS1 hP1 hl
  · have e9 : va_cpy (cz 3 (S r) (of1 10)) (cz 3 (S r) (of1 10)) 1 0 2 = cz 3 (up (up (S r) 10 (S r 11)) 11 (S r 12)) (of1 10) := by
      funext k
      match k with
      | 0 => simp [va_cpy, cz, of1, up]
      | 1 => simp [va_cpy, cz, of1, up]
      | 2 => simp [va_cpy, cz, of1, up]
      | k + 3 => simp only [va_cpy, cz]; rw [if_neg (by omega), if_neg (by omega), if_neg (by omega)]
    rw [e9]; simp only [cf, us_eq]
  · rw [up_ne (fun e => hq (by rw [e]; exact (kz_A (by decide)).mpr (by decide))), up_ne (fun e => hq (by rw [e]; exact (kz_A (by decide)).mpr (by decide)))]
theorem ac_24 (hE : zG E l0 D0 cI0 cJ0 ad cc nL0 own fr lo) {index : Nat} (hw : Cond.methodLink own index arraycopyName ∈ wsL_law) (hfr : 1 ≤ fr) (hlo : (st.map fun v => v.category).sum + (nativeFrameWords "java/lang/System" "arraycopy" 5 + 11) ≤ lo) (d : decode cc pc = .ok (.invokestatic index, 3)) (kk : Z E (us S 5 (fun q => if 200 ≤ q ∧ q < 212 then S 5 (q - 100) else S 5 q)) (pc + 3) L st) : Z E S pc L (.int (i32 12) :: .int (i32 0) :: .ref (ad 5 25) :: .int (i32 0) :: .ref (ad 5 24) :: st) := by
  obtain ⟨p, l, e, R, s, m, args, below, meth, c, Q, A, D, cI, cJ, ad1, nL, cells, slots⟩ := E
  obtain ⟨⟨rfl, rfl, rfl, rfl, rfl, rfl⟩, hx, hb, hml, hown, hts, ⟨hf1, hf2, hf3, hf4⟩, hK, hD, hA, hN⟩ := hE
  intro H locs ls hS hP hl
  obtain ⟨q1, -, g1⟩ := wl_get (ad := ad1) (r := 5) (j := 24) (by decide)
  obtain ⟨q2, hp, g2⟩ := wl_get (ad := ad1) (r := 5) (j := 25) (by decide)
  have e0 : (i32 0).toNatClampNeg = 0 := rfl
  have en : (i32 12).toNatClampNeg = 12 := rfl
  refine va_copyi hx hb (hml.trans hl.1.symm) hown (hts _ hw) (hts _ zv_arraycopyName) (hts _ zt_arraycopyName) (hts _ zn_java_lang_System) hK hP (wl_D hD) hS q1 q2 0 0 (g1 _) (g2 _) rfl rfl rfl (by decide) (by decide) (by decide) (by decide) (by decide) (fun i hi => rfl) (by omega) (by omega) d (fun H1 locs1 hP1 hD1 hS1 => ?_)
  rw [wl_set hp, e0, en, cf_all (fun q => if 200 ≤ q ∧ q < 212 then S 5 (q - 100) else S 5 q) (by decide) (fun q hq => if_neg (fun e => hq ((kz_B (by decide) (by decide)).mpr (by unfold kyB; (repeat' split) <;> omega)))) ?_] at hP1
  · exact kk H1 locs1 ls hS1 hP1 hl
  · have e9 : va_cpy (cz 12 (S 5) (of1 100)) (cz 12 (S 5) (of1 200)) 0 0 12 = cz 12 (fun q => if 200 ≤ q ∧ q < 212 then S 5 (q - 100) else S 5 q) (of1 200) := by
      funext k
      by_cases hk : k < 12
      · rw [pk_cpy_in (by omega) (by omega), cz_at (by omega), cz_at hk]
        have h9 : of1 100 ((0 + (k - 0) : Nat) : Int) = of1 200 k - 100 := by unfold of1; omega
        rw [h9, if_pos (by unfold of1; omega)]
      · rw [pk_cpy_out (by omega)]; unfold cz; rw [if_neg hk, if_neg hk]
    rw [e9]; simp only [cf, us_eq]
theorem z_max (hE : zG E l0 D0 cI0 cJ0 ad cc nL0 own fr lo) {index : Nat} {a b : Int} (hw : Cond.methodLink own index Lib.Math.max.name ∈ wsL_law) (hfr : 1 ≤ fr) (hlo : (st.map fun v => v.category).sum + 13 ≤ lo) (ha : b32 a) (hb2 : b32 b) (d : decode cc pc = .ok (.invokestatic index, 3)) (kk : Z E S (pc + 3) L (.int (i32 (max a b)) :: st)) : Z E S pc L (.int (i32 b) :: .int (i32 a) :: st) := by
  obtain ⟨p, l, e, R, s, m, args, below, meth, c, Q, A, D, cI, cJ, ad1, nL, cells, slots⟩ := E
  obtain ⟨⟨rfl, rfl, rfl, rfl, rfl, rfl⟩, hx, hb, hml, hown, hts, ⟨hf1, hf2, hf3, hf4⟩, hK, hD, hA, hN⟩ := hE
  intro H locs ls hS hP hl
  refine va_mmax hx hb (hml.trans hl.1.symm) hown (hts _ hw) (hts _ zt_J9_max_name) (hts _ zn_java_lang_Math) (hts _ zc_J9_max_name) (by omega) (by omega) hf3 hf4 d ?_
  have e9 : (if i32 a < i32 b then i32 b else i32 a) = i32 (max a b) := by
    by_cases h : a < b
    · rw [if_pos ((i32_lt ha hb2).mpr h)]; congr 1; omega
    · rw [if_neg (fun q => h ((i32_lt ha hb2).mp q))]; congr 1; omega
  rw [e9]
  exact kk H locs ls hS hP hl
theorem z_min (hE : zG E l0 D0 cI0 cJ0 ad cc nL0 own fr lo) {index : Nat} {a b : Int} (hw : Cond.methodLink own index Lib.Math.min.name ∈ wsL_law) (hfr : 1 ≤ fr) (hlo : (st.map fun v => v.category).sum + 13 ≤ lo) (ha : b32 a) (hb2 : b32 b) (d : decode cc pc = .ok (.invokestatic index, 3)) (kk : Z E S (pc + 3) L (.int (i32 (min a b)) :: st)) : Z E S pc L (.int (i32 b) :: .int (i32 a) :: st) := by
  obtain ⟨p, l, e, R, s, m, args, below, meth, c, Q, A, D, cI, cJ, ad1, nL, cells, slots⟩ := E
  obtain ⟨⟨rfl, rfl, rfl, rfl, rfl, rfl⟩, hx, hb, hml, hown, hts, ⟨hf1, hf2, hf3, hf4⟩, hK, hD, hA, hN⟩ := hE
  intro H locs ls hS hP hl
  refine va_mmin hx hb (hml.trans hl.1.symm) hown (hts _ hw) (hts _ zt_J9_min_name) (hts _ zn_java_lang_Math) (hts _ zc_J9_min_name) (by omega) (by omega) hf3 hf4 d ?_
  have e9 : (if i32 b < i32 a then i32 b else i32 a) = i32 (min a b) := by
    by_cases h : b < a
    · rw [if_pos ((i32_lt hb2 ha).mpr h)]; congr 1; omega
    · rw [if_neg (fun q => h ((i32_lt hb2 ha).mp q))]; congr 1; omega
  rw [e9]
  exact kk H locs ls hS hP hl
end ZC
/-! CALLS -/
theorem zw_in {ws : List Cond} (h : ∀ w ∈ ws, w ∈ wsL_law) : GoodIn wsL_law ws := fun w hw => ⟨h w hw, good_of_word (List.all_eq_true.mp zw_good w (h w hw))⟩
theorem nw_warm {s U : State} (hW : s.WarmedH U.vm) (h : ∀ w ∈ nw, va_Nw w s) : ∀ w ∈ nw, va_Nw w U := by
  intro w hw
  have h1 := h w hw
  simp only [nw, List.mem_cons, List.not_mem_nil, or_false] at hw
  rcases hw with rfl | rfl | rfl | rfl | rfl | rfl | rfl | rfl | rfl | rfl | rfl <;> exact va_Nw.warmM hW h1
theorem nw_same {u U : State} (hvm : u.vm = U.vm) (h : ∀ w ∈ nw, va_Nw w u) : ∀ w ∈ nw, va_Nw w U := by
  intro w hw
  have h1 := h w hw
  simp only [nw, List.mem_cons, List.not_mem_nil, or_false] at hw
  rcases hw with rfl | rfl | rfl | rfl | rfl | rfl | rfl | rfl | rfl | rfl | rfl <;> exact va_Nw.same rfl hvm h1
theorem zW_blind {D : va_G} {cI cJ : ClassId} {ad : Nat → Nat → Nat} {S : zM} {as : List Value} : FrameBlind (va_Pc as (fun U => zW D cI cJ ad S U)) := by
  intro a U g mk h
  obtain ⟨h0, h1, h2, h3, h4⟩ := h
  exact ⟨h0, h1, va_K.moved (u := U) (U := U.calling g mk a) (Vm.Alike.refl U.vm) h2, h3, nw_same (u := U) (U := U.calling g mk a) rfl h4⟩
theorem zW_pre {D : va_G} {cI cJ : ClassId} {ad : Nat → Nat → Nat} {S : zM} {A : Nat → Prop} {s : State} {H : Heap} (hP : va_P D vwCl (wl ad (cf cI cJ ad S)) H) (hK : va_K D vwCl [(cI, .int), (cJ, .long)] s) (hD : va_D A (wl ad fun _ _ => .inr (0, []))) (hN : ∀ w ∈ nw, va_Nw w s) (as : List Value) : ∀ U : State, U.heap = H → s.WarmedH U.vm → va_Pc as (fun U => zW D cI cJ ad S U) as.toArray U := by
  intro U hU hW
  refine ⟨rfl, by rw [hU]; exact hP, va_K.moved hW.alike hK, (wl_D hD).weaken (fun k q hq _ => ?_), nw_warm hW hN⟩
  unfold wl at hq
  rw [List.getElem?_map] at hq
  cases hx : ks[k]? with
  | none => rw [hx] at hq; cases hq
  | some x => rw [hx] at hq; cases hq; exact ⟨x, List.mem_of_getElem? hx, rfl⟩
section ZK
variable {E : zE} {l0 : Launch} {D0 : va_G} {cI0 cJ0 : ClassId} {ad : Nat → Nat → Nat} {cc : ByteArray} {nL0 fr lo : Nat} {own : String} {S : zM} {pc : Nat} {L : List (Nat × Value)} {st st1 st2 : List Value}
variable {y : MethodName} {cc2 : ByteArray} {nL2 fr2 lo2 index n : Nat} {ret2 : Option FieldType} {As : List Value} {rv : Option Value} {S2 : zM} {P2 : zM → Prop}
theorem z_callVp (hE : zG E l0 D0 cI0 cJ0 ad cc nL0 own fr lo) {r j ci N : Nat} {T : u_T} {fs : List Value} (hC : Ct l0 D0 cI0 cJ0 ad y cc2 nL2 ret2 fr2 lo2 (.ref (ad r j) :: As) S rv P2) (hk : (r, j) ∈ ks) (hc : cf cI0 cJ0 ad S r j = .inr (ci, fs)) (hcl : vwCl[ci]? = some (y.cls, T, N)) (w1 : Cond.methodLink own index y ∈ wsL_law) (w2 : Cond.instanceMethod y ∈ wsL_law) (w3 : Cond.selects y.cls y y ∈ wsL_law) (w4 : Cond.initialized y.cls ∈ wsL_law) (w5 : Cond.code y cc2 nL2 ret2 ∈ wsL_law) (hd : y.cls ≠ "java/lang/invoke/MethodHandle" ∧ y.cls ≠ "java/lang/invoke/VarHandle" ∧ (parseMethodDescriptor y.desc).map (fun d => d.parameters.length) = some n) (hfr : fr2 + 1 ≤ fr) (hlo : 8 + (nL2 + 11) + lo2 ≤ lo) (hAs : As.length = n) (hs : st1 = As.reverse ++ .ref (ad r j) :: st) (hs2 : rv.toList ++ st = st2) (hst : (st.map fun v => v.category).sum ≤ 8) (d : decode cc pc = .ok (.invokevirtual index, 3)) (kk : ∀ S2 : zM, P2 S2 → Z E S2 (pc + 3) L st2) : Z E S pc L st1 := by
  obtain ⟨p, l, e, R, s, m, args, below, meth, c, Q, A, D, cI, cJ, ad1, nL, cells, slots⟩ := E
  obtain ⟨⟨rfl, rfl, rfl, rfl, rfl, rfl⟩, hx, hb, hml, hown, hts, ⟨hf1, hf2, hf3, hf4⟩, hK, hD, hA, hN⟩ := hE
  intro H locs ls hS hP hl
  subst hs
  obtain ⟨q0, -, g1⟩ := wl_get (ad := ad1) hk
  have hG : GoodIn wsL_law (wsV own index y.cls y (Cond.code y cc2 nL2 ret2 :: wsL_law)) := zw_in fun w hw => by
    unfold wsV at hw
    rcases List.mem_append.mp hw with hw | hw
    · simp only [List.mem_cons, List.not_mem_nil, or_false] at hw
      rcases hw with rfl | rfl | rfl | rfl
      · exact w1
      · exact w2
      · exact w3
      · exact w4
    · rcases List.mem_cons.mp hw with rfl | hw
      · exact w5
      · exact hw
  have hr := va_runV (H := H) (locs := locs) (cells := cells) (slots := slots) (g := F0 m pc ls (As.reverse ++ .ref (ad1 r j) :: st)) (As := As) (rest := st) (R := R) (p := p) (l := l) (e := e) (below := below) (meth := meth) ⟨hx, hb, hml, hown, hts⟩ hC (cwV n hts hG rfl rfl rfl ⟨rfl, hd⟩ ⟨by rw [hf1]; exact hfr, by rw [hf2]; exact hlo⟩) ⟨zW_blind, va_recv hK hP hcl ((g1 _).trans (by rw [hc])), zW_pre hP hK hD hN _⟩ rfl hAs hl.1 rfl (lv_room hst) d ⟨hf3, hf4⟩
  intro T hT X
  obtain ⟨v, st₀, t, T', L', h0, X', hL', e1, e2, ⟨⟨hv, S2, hP2, hP1⟩, hz, hk⟩, stp⟩ := hr T hT X
  cases hv
  rw [h0] at hz hk
  subst hs2
  have hS1 : va_S A s.heap T'.heap (locs ++ L') := ⟨Nat.le_trans hS.1 (by rw [e1]; exact hz), fun q h1 h2 => by rw [e1, hk q (Nat.lt_of_lt_of_le h1 hS.1) (fun z => h2 (hA q z))]; exact hS.2.1 q h1 h2, fun q hq => by
    rcases List.mem_append.mp hq with h | h
    · exact hS.2.2 q h
    · exact hA _ (hL' q h)⟩
  obtain ⟨t2, a1, b1⟩ := kk S2 hP2 T'.heap (locs ++ L') ls hS1 (by rw [e1]; exact hP1) hl T' rfl X'
  exact ⟨t2, stp t2 a1, b1⟩
theorem z_callSp (hE : zG E l0 D0 cI0 cJ0 ad cc nL0 own fr lo) (hC : Ct l0 D0 cI0 cJ0 ad y cc2 nL2 ret2 fr2 lo2 As S rv P2) (w1 : Cond.methodLink own index y ∈ wsL_law) (w2 : Cond.static y ∈ wsL_law) (w4 : Cond.initialized y.cls ∈ wsL_law) (w5 : Cond.code y cc2 nL2 ret2 ∈ wsL_law) (hd : y.cls ≠ "java/lang/invoke/MethodHandle" ∧ y.cls ≠ "java/lang/invoke/VarHandle" ∧ (parseMethodDescriptor y.desc).map (fun d => d.parameters.length) = some n) (hfr : fr2 + 1 ≤ fr) (hlo : 8 + (nL2 + 11) + lo2 ≤ lo) (hAs : As.length = n) (hs : st1 = As.reverse ++ st) (hs2 : rv.toList ++ st = st2) (hst : (st.map fun v => v.category).sum ≤ 8) (d : decode cc pc = .ok (.invokestatic index, 3)) (kk : ∀ S2 : zM, P2 S2 → Z E S2 (pc + 3) L st2) : Z E S pc L st1 := by
  obtain ⟨p, l, e, R, s, m, args, below, meth, c, Q, A, D, cI, cJ, ad1, nL, cells, slots⟩ := E
  obtain ⟨⟨rfl, rfl, rfl, rfl, rfl, rfl⟩, hx, hb, hml, hown, hts, ⟨hf1, hf2, hf3, hf4⟩, hK, hD, hA, hN⟩ := hE
  intro H locs ls hS hP hl
  subst hs
  have hG : GoodIn wsL_law (va_wsS own index y (Cond.code y cc2 nL2 ret2 :: wsL_law)) := zw_in fun w hw => by
    unfold va_wsS at hw
    rcases List.mem_append.mp hw with hw | hw
    · simp only [List.mem_cons, List.not_mem_nil, or_false] at hw
      rcases hw with rfl | rfl | rfl
      · exact w1
      · exact w2
      · exact w4
    · rcases List.mem_cons.mp hw with rfl | hw
      · exact w5
      · exact hw
  have hr := va_runS (H := H) (locs := locs) (cells := cells) (slots := slots) (g := F0 m pc ls (As.reverse ++ st)) (As := As) (rest := st) (R := R) (p := p) (l := l) (e := e) (below := below) (meth := meth) ⟨hx, hb, hml, hown, hts⟩ hC (va_cwS n hts hG rfl rfl rfl hd ⟨by rw [hf1]; exact hfr, by rw [hf2]; exact hlo⟩) ⟨zW_blind, zW_pre hP hK hD hN _⟩ rfl hAs hl.1 rfl (lv_room hst) d ⟨hf3, hf4⟩
  intro T hT X
  obtain ⟨v, st₀, t, T', L', h0, X', hL', e1, e2, ⟨⟨hv, S2, hP2, hP1⟩, hz, hk⟩, stp⟩ := hr T hT X
  cases hv
  rw [h0] at hz hk
  subst hs2
  have hS1 : va_S A s.heap T'.heap (locs ++ L') := ⟨Nat.le_trans hS.1 (by rw [e1]; exact hz), fun q h1 h2 => by rw [e1, hk q (Nat.lt_of_lt_of_le h1 hS.1) (fun z => h2 (hA q z))]; exact hS.2.1 q h1 h2, fun q hq => by
    rcases List.mem_append.mp hq with h | h
    · exact hS.2.2 q h
    · exact hA _ (hL' q h)⟩
  obtain ⟨t2, a1, b1⟩ := kk S2 hP2 T'.heap (locs ++ L') ls hS1 (by rw [e1]; exact hP1) hl T' rfl X'
  exact ⟨t2, stp t2 a1, b1⟩
theorem z_callNp (hE : zG E l0 D0 cI0 cJ0 ad cc nL0 own fr lo) {host : String} (hC : Ct l0 D0 cI0 cJ0 ad y cc2 nL2 ret2 fr2 lo2 As S rv P2) (w1 : Cond.methodLinkNest own index y host ∈ nw) (w2 : Cond.static y ∈ wsL_law) (w4 : Cond.initialized y.cls ∈ wsL_law) (w5 : Cond.code y cc2 nL2 ret2 ∈ wsL_law) (hd : y.cls ≠ "java/lang/invoke/MethodHandle" ∧ y.cls ≠ "java/lang/invoke/VarHandle" ∧ (parseMethodDescriptor y.desc).map (fun d => d.parameters.length) = some n) (hfr : fr2 + 1 ≤ fr) (hlo : 8 + (nL2 + 11) + lo2 ≤ lo) (hAs : As.length = n) (hs : st1 = As.reverse ++ st) (hs2 : rv.toList ++ st = st2) (hst : (st.map fun v => v.category).sum ≤ 8) (d : decode cc pc = .ok (.invokestatic index, 3)) (kk : ∀ S2 : zM, P2 S2 → Z E S2 (pc + 3) L st2) : Z E S pc L st1 := by
  obtain ⟨p, l, e, R, s, m, args, below, meth, c, Q, A, D, cI, cJ, ad1, nL, cells, slots⟩ := E
  obtain ⟨⟨rfl, rfl, rfl, rfl, rfl, rfl⟩, hx, hb, hml, hown, hts, ⟨hf1, hf2, hf3, hf4⟩, hK, hD, hA, hN⟩ := hE
  intro H locs ls hS hP hl
  subst hs
  have hG : GoodIn wsL_law (Cond.code y cc2 nL2 ret2 :: wsL_law) := zw_in fun w hw => by
    rcases List.mem_cons.mp hw with rfl | hw
    · exact w5
    · exact hw
  have hr := va_runSN (H := H) (locs := locs) (cells := cells) (slots := slots) (g := F0 m pc ls (As.reverse ++ st)) (As := As) (rest := st) (R := R) (p := p) (l := l) (e := e) (below := below) (meth := meth) (Ts := wsL_law) (own := own) ⟨hx, hb, hml, hown, hts⟩ hC ⟨va_cnB n hts hG rfl rfl rfl (hN _ w1) (hts _ w4) hd ⟨by rw [hf1]; exact hfr, by rw [hf2]; exact hlo⟩, hts _ w2, trivial⟩ ⟨zW_blind, zW_pre hP hK hD hN _⟩ rfl hAs hl.1 rfl (lv_room hst) d ⟨hf3, hf4⟩
  intro T hT X
  obtain ⟨v, st₀, t, T', L', h0, X', hL', e1, e2, ⟨⟨hv, S2, hP2, hP1⟩, hz, hk⟩, stp⟩ := hr T hT X
  cases hv
  rw [h0] at hz hk
  subst hs2
  have hS1 : va_S A s.heap T'.heap (locs ++ L') := ⟨Nat.le_trans hS.1 (by rw [e1]; exact hz), fun q h1 h2 => by rw [e1, hk q (Nat.lt_of_lt_of_le h1 hS.1) (fun z => h2 (hA q z))]; exact hS.2.1 q h1 h2, fun q hq => by
    rcases List.mem_append.mp hq with h | h
    · exact hS.2.2 q h
    · exact hA _ (hL' q h)⟩
  obtain ⟨t2, a1, b1⟩ := kk S2 hP2 T'.heap (locs ++ L') ls hS1 (by rw [e1]; exact hP1) hl T' rfl X'
  exact ⟨t2, stp t2 a1, b1⟩
theorem z_callV (hE : zG E l0 D0 cI0 cJ0 ad cc nL0 own fr lo) {r j ci N : Nat} {T : u_T} {fs : List Value} (hC : Ct l0 D0 cI0 cJ0 ad y cc2 nL2 ret2 fr2 lo2 (.ref (ad r j) :: As) S rv (fun X => X = S2)) (hk : (r, j) ∈ ks) (hc : cf cI0 cJ0 ad S r j = .inr (ci, fs)) (hcl : vwCl[ci]? = some (y.cls, T, N)) (w1 : Cond.methodLink own index y ∈ wsL_law) (w2 : Cond.instanceMethod y ∈ wsL_law) (w3 : Cond.selects y.cls y y ∈ wsL_law) (w4 : Cond.initialized y.cls ∈ wsL_law) (w5 : Cond.code y cc2 nL2 ret2 ∈ wsL_law) (hd : y.cls ≠ "java/lang/invoke/MethodHandle" ∧ y.cls ≠ "java/lang/invoke/VarHandle" ∧ (parseMethodDescriptor y.desc).map (fun d => d.parameters.length) = some n) (hfr : fr2 + 1 ≤ fr) (hlo : 8 + (nL2 + 11) + lo2 ≤ lo) (hAs : As.length = n) (hs : st1 = As.reverse ++ .ref (ad r j) :: st) (hs2 : rv.toList ++ st = st2) (hst : (st.map fun v => v.category).sum ≤ 8) (d : decode cc pc = .ok (.invokevirtual index, 3)) (kk : Z E S2 (pc + 3) L st2) : Z E S pc L st1 := z_callVp hE hC hk hc hcl w1 w2 w3 w4 w5 hd hfr hlo hAs hs hs2 hst d (fun X hX => by rw [hX]; exact kk)
theorem z_callS (hE : zG E l0 D0 cI0 cJ0 ad cc nL0 own fr lo) (hC : Ct l0 D0 cI0 cJ0 ad y cc2 nL2 ret2 fr2 lo2 As S rv (fun X => X = S2)) (w1 : Cond.methodLink own index y ∈ wsL_law) (w2 : Cond.static y ∈ wsL_law) (w4 : Cond.initialized y.cls ∈ wsL_law) (w5 : Cond.code y cc2 nL2 ret2 ∈ wsL_law) (hd : y.cls ≠ "java/lang/invoke/MethodHandle" ∧ y.cls ≠ "java/lang/invoke/VarHandle" ∧ (parseMethodDescriptor y.desc).map (fun d => d.parameters.length) = some n) (hfr : fr2 + 1 ≤ fr) (hlo : 8 + (nL2 + 11) + lo2 ≤ lo) (hAs : As.length = n) (hs : st1 = As.reverse ++ st) (hs2 : rv.toList ++ st = st2) (hst : (st.map fun v => v.category).sum ≤ 8) (d : decode cc pc = .ok (.invokestatic index, 3)) (kk : Z E S2 (pc + 3) L st2) : Z E S pc L st1 := z_callSp hE hC w1 w2 w4 w5 hd hfr hlo hAs hs hs2 hst d (fun X hX => by rw [hX]; exact kk)
theorem z_callN (hE : zG E l0 D0 cI0 cJ0 ad cc nL0 own fr lo) {host : String} (hC : Ct l0 D0 cI0 cJ0 ad y cc2 nL2 ret2 fr2 lo2 As S rv (fun X => X = S2)) (w1 : Cond.methodLinkNest own index y host ∈ nw) (w2 : Cond.static y ∈ wsL_law) (w4 : Cond.initialized y.cls ∈ wsL_law) (w5 : Cond.code y cc2 nL2 ret2 ∈ wsL_law) (hd : y.cls ≠ "java/lang/invoke/MethodHandle" ∧ y.cls ≠ "java/lang/invoke/VarHandle" ∧ (parseMethodDescriptor y.desc).map (fun d => d.parameters.length) = some n) (hfr : fr2 + 1 ≤ fr) (hlo : 8 + (nL2 + 11) + lo2 ≤ lo) (hAs : As.length = n) (hs : st1 = As.reverse ++ st) (hs2 : rv.toList ++ st = st2) (hst : (st.map fun v => v.category).sum ≤ 8) (d : decode cc pc = .ok (.invokestatic index, 3)) (kk : Z E S2 (pc + 3) L st2) : Z E S pc L st1 := z_callNp hE hC w1 w2 w4 w5 hd hfr hlo hAs hs hs2 hst d (fun X hX => by rw [hX]; exact kk)
end ZK
end
section
/-! THE STATE AS NUMBERS. s q: the number at the place q: 0 members, 1 liters, 2 treasury, 3 its limit, 4 cap, 5 par, 6 price, 7 assets, 8 debts, 9 surpluses, 10.. the surpluses, 13 stage length, 14 offers, 15 motions, 16 rule, 17 quorum, 18 day (the model's; the class's: 670), 19 + 3 m member m (shares, milk, account), 55 + 22 o offer o (seller, buyer, remains, offered, stage, days left (the model's; the class's: 645 + o), sold 4, claims 12), 495 + 15 q motion q (kind, value, state, ballots 12) -/
def smN (f : Int → Int) : Nat → Int
  | 0 => 0
  | n + 1 => smN f n + f n
/-- the sum of f over 0 .. n - 1 -/
def sm (f : Int → Int) (n : Int) : Int := smN f n.toNat
theorem sm_0 (f : Int → Int) : sm f 0 = 0 := rfl
theorem sm_s {f : Int → Int} {n : Int} (h : 0 ≤ n) : sm f (n + 1) = sm f n + f n := by
  unfold sm
  rw [show (n + 1).toNat = n.toNat + 1 by omega]
  show smN f n.toNat + f (n.toNat : Int) = _
  rw [Int.toNat_of_nonneg h]
theorem smN_cg {f g : Int → Int} : ∀ {n : Nat}, (∀ k : Int, 0 ≤ k → k < n → f k = g k) → smN f n = smN g n
  | 0, _ => rfl
  | n + 1, h => by
    show smN f n + f n = smN g n + g n
    rw [smN_cg (n := n) (fun k h1 h2 => h k h1 (by omega)), h n (by omega) (by omega)]
theorem sm_cg {f g : Int → Int} {n : Int} (h : ∀ k : Int, 0 ≤ k → k < n → f k = g k) : sm f n = sm g n := smN_cg fun k h1 h2 => h k h1 (by omega)
theorem sm_b {f : Int → Int} {n a b : Int} (hn : 0 ≤ n) (h : ∀ k : Int, 0 ≤ k → k < n → a ≤ f k ∧ f k ≤ b) : n * a ≤ sm f n ∧ sm f n ≤ n * b := by
  have key : ∀ m : Nat, (m : Int) ≤ n → (m : Int) * a ≤ smN f m ∧ smN f m ≤ (m : Int) * b := by
    intro m
    induction m with
    | zero => intro _; simp [smN]
    | succ m ih =>
      intro hm
      have h1 := ih (by omega)
      have h2 := h m (by omega) (by omega)
      show ((m + 1 : Nat) : Int) * a ≤ smN f m + f m ∧ smN f m + f m ≤ ((m + 1 : Nat) : Int) * b
      rw [show ((m + 1 : Nat) : Int) = (m : Int) + 1 from rfl, Int.add_mul, Int.add_mul, Int.one_mul, Int.one_mul]
      omega
  have := key n.toNat (by omega)
  rw [Int.toNat_of_nonneg hn] at this
  exact this
theorem smN_up (f : Int → Int) (i v : Int) : ∀ n : Nat, smN (up f i v) n = smN f n + (if 0 ≤ i ∧ i < n then v - f i else 0)
  | 0 => by show (0 : Int) = 0 + _; rw [if_neg (by omega)]; rfl
  | n + 1 => by
    show smN (up f i v) n + up f i v n = smN f n + f n + _
    rw [smN_up f i v n]
    by_cases h : i = n
    · subst h
      rw [up_eq, if_neg (by omega), if_pos (by omega)]; omega
    · rw [up_ne (Ne.symm h)]
      by_cases h2 : 0 ≤ i ∧ i < n
      · rw [if_pos h2, if_pos (by omega)]; omega
      · rw [if_neg h2, if_neg (by omega)]; omega
theorem sm_up (f : Int → Int) {i v n : Int} (h : 0 ≤ i) (h2 : i < n) : sm (up f i v) n = sm f n + v - f i := by
  unfold sm
  rw [smN_up, if_pos (by omega)]; omega
theorem sm_nn {f : Int → Int} {n : Int} (h0 : ∀ k : Int, 0 ≤ k → k < n → 0 ≤ f k) : 0 ≤ sm f n := by
  have key : ∀ m : Nat, (m : Int) ≤ n ∨ m = 0 → 0 ≤ smN f m := by
    intro m
    induction m with
    | zero => intro _; exact Int.le_refl 0
    | succ m ih =>
      intro hm
      have h5 := ih (by omega)
      have h6 := h0 m (by omega) (by omega)
      show 0 ≤ smN f m + f m
      omega
  exact key n.toNat (by omega)
theorem sm_mem {f : Int → Int} {n i : Int} (h : 0 ≤ i) (h2 : i < n) (h0 : ∀ k : Int, 0 ≤ k → k < n → 0 ≤ f k) : f i ≤ sm f n := by
  have h1 := sm_up f (v := 0) h h2
  have h4 : 0 ≤ sm (up f i 0) n := sm_nn fun k h5 h6 => by
    by_cases e : k = i
    · rw [e, up_eq]; omega
    · rw [up_ne e]; exact h0 k h5 h6
  omega
/-- a place grows by v -/
def uq (s : Int → Int) (k v : Int) : Int → Int := up s k (s k + v)
theorem uq_eq {s : Int → Int} {k v : Int} : uq s k v k = s k + v := up_eq
theorem uq_ne {s : Int → Int} {k v q : Int} (h : q ≠ k) : uq s k v q = s q := up_ne h
theorem uq_0 (s : Int → Int) (k : Int) : uq s k 0 = s := by unfold uq; rw [Int.add_zero]; exact up_id rfl
theorem uq_sw (s : Int → Int) (k j v w : Int) : uq (uq s k v) j w = uq (uq s j w) k v := by
  by_cases c : j = k
  · subst c
    unfold uq
    rw [up_eq, up_eq, up_up, up_up]
    congr 1; omega
  · unfold uq
    rw [up_ne c, up_ne (Ne.symm c)]
    exact up_sw s (Ne.symm c) _ _
theorem uq_sub (s : Int → Int) (k v : Int) : up s k (s k - v) = uq s k (-v) := by unfold uq; rw [Int.sub_eq_add_neg]
def sp_all (s : Int → Int) : Int := s 2 + sm (fun k => s (19 + 3 * k)) (s 0)
def sp_req (s : Int → Int) (m : Int) : Int := (s (20 + 3 * m) + s 1 - 1) / s 1
def sp_ro (s : Int → Int) (m : Int) : Int → Int := fun k => if s (59 + 22 * k) ≠ 3 ∧ s (55 + 22 * k) = m then s (57 + 22 * k) else 0
def sp_rem (s : Int → Int) (m : Int) : Int := sm (sp_ro s m) (s 14)
def sp_free (s : Int → Int) (m : Int) : Int := max (s (19 + 3 * m) - (sp_req s m + sp_rem s m)) 0
def sp_room (s : Int → Int) (m : Int) : Int := max (sp_all s * s 4 / 100 - s (19 + 3 * m)) 0
abbrev sp_needy (s : Int → Int) (m : Int) : Prop := s (19 + 3 * m) < sp_req s m
abbrev sp_can (s : Int → Int) (o m : Int) : Prop := s (55 + 22 * o) ≠ m ∧ ((s (59 + 22 * o) = 0 ∧ sp_needy s m) ∨ s (59 + 22 * o) = 1)
def sp_begin (s : Int → Int) (o st len : Int) : Int → Int := fun q => if q = 59 + 22 * o then st else if q = 60 + 22 * o then s 13 else if q = 645 + o then len else if 65 + 22 * o ≤ q ∧ q < 77 + 22 * o then 0 else s q
def sp_take (s : Int → Int) (o w n pr : Int) : Int → Int := uq (uq (uq (uq s (19 + 3 * s (55 + 22 * o)) (-n)) (21 + 3 * s (55 + 22 * o)) (pr * n)) (57 + 22 * o) (-n)) (61 + 22 * o + w) n
def sp_buy (s : Int → Int) (m n pr : Int) : Int → Int := uq (uq s (19 + 3 * m) n) (21 + 3 * m) (-(pr * n))
def sp_sell (s : Int → Int) (o w m n pr : Int) : Int → Int := sp_take (sp_buy s m n pr) o w n pr
def sp_tn (s : Int → Int) (o : Int) : Int := min (s (57 + 22 * o)) (max (s 3 - s 2) 0)
def sp_tre (s : Int → Int) (o : Int) : Int → Int := sp_take (uq s 2 (sp_tn s o)) o 2 (sp_tn s o) (s 6)
def sp_bn (s : Int → Int) (o : Int) : Int := min (s (57 + 22 * o)) (sp_room s (s (56 + 22 * o)))
def sp_toB (s : Int → Int) (o : Int) : Int → Int := sp_sell s o 3 (s (56 + 22 * o)) (sp_bn s o) (s (58 + 22 * o))
def sp_dem (s : Int → Int) (o : Int) : Int → Int := fun k => min (s (65 + 22 * o + k)) (sp_room s k)
/-- the first place of 0 .. n where f is greatest -/
def bst (f : Int → Int) : Nat → Int
  | 0 => 0
  | n + 1 => if f (bst f n) < f ((n : Int) + 1) then (n : Int) + 1 else bst f n
/-- one by one to the greatest rests; a rest that was used becomes z -/
def hnd (z : Int) : Nat → (Int → Int) → (Int → Int) → (Int → Int)
  | 0, g, _ => g
  | n + 1, g, r => hnd z n (up g (bst r 11) (g (bst r 11) + 1)) (up r (bst r 11) z)
def sp_quo (d : Int → Int) (w : Int) : Int → Int := fun k => w * d k / sm d 12
def sp_rst (d : Int → Int) (w : Int) : Int → Int := fun k => w * d k - w * d k / sm d 12 * sm d 12
def sp_left (d : Int → Int) (w : Int) : Int := w - sm (sp_quo d w) 12
def sp_gets (d : Int → Int) (w : Int) : Int → Int := if sm d 12 ≤ w then d else hnd (-1) (sp_left d w).toNat (sp_quo d w) (sp_rst d w)
def sp_sells (g : Int → Int) (o st : Int) (s : Int → Int) : Nat → (Int → Int)
  | 0 => s
  | k + 1 => sp_sell (sp_sells g o st s k) o st k (g k) (sp_sells g o st s k 6)
def sp_clm (s : Int → Int) (o st : Int) : Int → Int := sp_sells (sp_gets (sp_dem s o) (s (57 + 22 * o))) o st s 12
def sp_mid (s : Int → Int) (o : Int) : Int → Int := if s (59 + 22 * o) = 2 then sp_toB (sp_tre s o) o else sp_clm s o (s (59 + 22 * o))
abbrev sp_shut (s : Int → Int) (o : Int) : Prop := s (59 + 22 * o) = 2 ∨ sp_mid s o (57 + 22 * o) ≤ 0
def sp_end (s : Int → Int) (o : Int) : Int → Int := if sp_shut s o then sp_begin (sp_mid s o) o 3 0 else sp_begin (sp_mid s o) o (s (59 + 22 * o) + 1) (sp_mid s o 13)
def sp_tick (s : Int → Int) (o : Int) : Int → Int := uq (uq s (645 + o) (-1)) (60 + 22 * o) (-1)
abbrev sp_last (s : Int → Int) (o : Int) : Prop := s (59 + 22 * o) ≠ 3 ∧ s (645 + o) - 1 ≤ 0
def sp_off (s : Int → Int) (o : Int) : Int → Int := if s (59 + 22 * o) ≠ 3 then (if s (645 + o) - 1 ≤ 0 then sp_end (sp_tick s o) o else sp_tick s o) else s
def sp_offC (s : Int → Int) (o : Int) : Int := if sp_last s o ∧ sp_shut (sp_tick s o) o then 1 else 0
def sp_dayS (s : Int → Int) : Nat → (Int → Int)
  | 0 => s
  | k + 1 => sp_off (sp_dayS s k) k
def sp_dayC (s : Int → Int) : Nat → Int
  | 0 => 0
  | k + 1 => sp_dayC s k + sp_offC (sp_dayS s k) k
def sp_day (s : Int → Int) : Int → Int := sp_dayS (uq s 670 1) (s 14).toNat
def sp_dayN (s : Int → Int) : Int := sp_dayC (uq s 670 1) (s 14).toNat
def sp_days (s : Int → Int) : Nat → (Int → Int)
  | 0 => s
  | d + 1 => sp_day (sp_days s d)
def sp_daysN (s : Int → Int) : Nat → Int
  | 0 => 0
  | d + 1 => sp_daysN s d + sp_dayN (sp_days s d)
/-- the root: the loop of both programs, with fuel -/
def rtl : Nat → Int → Int → Int
  | 0, k, _ => k
  | f + 1, k, n => if (k + 1) * (k + 1) ≤ n then rtl f (k + 1) n else k
def sp_root (n : Int) : Int := rtl 10000 0 n
def sp_votes (s : Int → Int) (m : Int) : Int := if s (19 + 3 * m) ≤ 0 then 0 else if s 16 = 1 then s (19 + 3 * m) else if s 16 = 2 then s (20 + 3 * m) / 1000 + 1 else if s 16 = 3 then sp_root (s (19 + 3 * m)) else 1
def sp_vf (s : Int → Int) (q b : Int) : Int → Int := fun k => if s (498 + 15 * q + k) = b then sp_votes s k else 0
def sp_sum (s : Int → Int) (q b : Int) : Int := sm (sp_vf s q b) (s 0)
abbrev sp_pass (s : Int → Int) (q : Int) : Prop := (sp_sum s q 1 + sp_sum s q 2 + sp_sum s q 0) * s 17 ≤ (sp_sum s q 1 + sp_sum s q 2) * 100 ∧ sp_sum s q 1 + sp_sum s q 2 < 2 * sp_sum s q 1
def sp_divi (v : Int) (s : Int → Int) : Nat → (Int → Int)
  | 0 => s
  | k + 1 => uq (sp_divi v s k) (21 + 3 * k) (s (19 + 3 * k) * s 5 * v / 100)
def sp_does (s : Int → Int) (kind v : Int) : Int → Int := if kind = 0 then up s 5 v else if kind = 1 then up s 4 v else if kind = 2 then up s 13 v else if kind = 3 then uq s 2 (-(min v (s 2))) else sp_divi v s (s 0).toNat
def sp_clo (s : Int → Int) (q : Int) : Int → Int := if sp_pass s q then sp_does (up s (497 + 15 * q) 1) (s (495 + 15 * q)) (s (496 + 15 * q)) else up s (497 + 15 * q) 2
def sp_cnt (s : Int → Int) (q : Int) : Int := sm (fun k => if s (498 + 15 * q + k) ≠ 0 then 1 else 0) 12
def sp_mean (s : Int → Int) : Int := sm (fun k => s (10 + k)) (s 9) / s 9
def sp_val (s : Int → Int) (all : Int) : Int := (3 * ((s 7 - s 8) / all) + 2 * (10 * sp_mean s / all)) / 5
def sp_rec (s : Int → Int) (a : Int) : Int → Int := if 3 ≤ s 9 then up (up (up (up (up s 10 (s 11)) 11 (s 12)) 9 2) 12 a) 9 3 else up (up s (10 + s 9) a) 9 (s 9 + 1)
def sp_offer (s : Int → Int) (se bu n pr : Int) : Int → Int := sp_begin (up (up (up (up (up s 14 (s 14 + 1)) (55 + 22 * s 14) se) (56 + 22 * s 14) bu) (57 + 22 * s 14) n) (58 + 22 * s 14) pr) (s 14) 0 (s 13)
def sp_prop (s : Int → Int) (kd v : Int) : Int → Int := up (up (up (up s 15 (s 15 + 1)) (495 + 15 * s 15) kd) (496 + 15 * s 15) v) (497 + 15 * s 15) 0
end
section
theorem dX7_isWithin_0 : decode cX7_isWithin 0 = .ok (.iload_n 0, 1) := by decide +kernel
theorem dX7_isWithin_1 : decode cX7_isWithin 1 = .ok (.iload_n 1, 1) := by decide +kernel
theorem dX7_isWithin_2 : decode cX7_isWithin 2 = .ok (.if_icmp .lt 12, 3) := by decide +kernel
theorem dX7_isWithin_5 : decode cX7_isWithin 5 = .ok (.iload_n 0, 1) := by decide +kernel
theorem dX7_isWithin_6 : decode cX7_isWithin 6 = .ok (.iload_n 2, 1) := by decide +kernel
theorem dX7_isWithin_7 : decode cX7_isWithin 7 = .ok (.if_icmp .gt 7, 3) := by decide +kernel
theorem dX7_isWithin_10 : decode cX7_isWithin 10 = .ok (.iconst 1, 1) := by decide +kernel
theorem dX7_isWithin_11 : decode cX7_isWithin 11 = .ok (.goto 4, 3) := by decide +kernel
theorem dX7_isWithin_14 : decode cX7_isWithin 14 = .ok (.iconst 0, 1) := by decide +kernel
theorem dX7_isWithin_15 : decode cX7_isWithin 15 = .ok (.ireturn, 1) := by decide +kernel
theorem hy_X7_isWithin : yX7_isWithin.cls ≠ "java/lang/invoke/MethodHandle" ∧ yX7_isWithin.cls ≠ "java/lang/invoke/VarHandle" ∧ (parseMethodDescriptor yX7_isWithin.desc).map (fun d => d.parameters.length) = some 3 := ⟨by decide +kernel, by decide +kernel, by decide +kernel⟩
set_option maxHeartbeats 4000000 in
set_option maxRecDepth 100000 in
theorem c_X7_isWithin (l0 : Launch) (D0 : va_G) (cI0 cJ0 : ClassId) (ad : Nat → Nat → Nat) (S : zM) (a : Int) (b : Int) (c : Int) (ha : b32 a) (hb : b32 b) (hc : b32 c) : Ct l0 D0 cI0 cJ0 ad yX7_isWithin cX7_isWithin 3 (some .boolean) 0 0 [.int (i32 a), .int (i32 b), .int (i32 c)] S (some (.int (i32 (zbo (b ≤ a ∧ a ≤ c))))) (fun X => X = S) := by
  refine Ct.of (by decide) (Nat.le_of_ble_eq_true rfl) (fun E hE hR => ?_)
  have hE : zG E l0 D0 cI0 cJ0 ad cX7_isWithin 3 RX7 0 0 := hE
  show Z E S 0 [(0, .int (i32 a)), (1, .int (i32 b)), (2, .int (i32 c))] []
  refine z_iload_n hE 0 rfl rfl dX7_isWithin_0 ?_
  refine z_iload_n hE 1 rfl rfl dX7_isWithin_1 ?_
  refine z_icmp_lt (tgt := 14) hE dX7_isWithin_2 (by decide) ⟨by first | exact ha.1 | exact ha.2 | exact hb.1 | exact hb.2 | exact hc.1 | exact hc.2, by first | exact ha.1 | exact ha.2 | exact hb.1 | exact hb.2 | exact hc.1 | exact hc.2⟩ ⟨by first | exact ha.1 | exact ha.2 | exact hb.1 | exact hb.2 | exact hc.1 | exact hc.2, by first | exact ha.1 | exact ha.2 | exact hb.1 | exact hb.2 | exact hc.1 | exact hc.2⟩ (fun c1 => ?_) (fun c1 => ?_)
  · refine z_iconst hE dX7_isWithin_14 ?_
    exact z_zret hE hR dX7_isWithin_15 (by decide) (congrArg (fun x => some (Value.int (i32 x))) (by unfold zbo; first | rw [if_pos (by omega)] | rw [if_neg (by omega)])) (by first | rfl | (simp only [us_id]))
  · refine z_iload_n hE 0 rfl rfl dX7_isWithin_5 ?_
    refine z_iload_n hE 2 rfl rfl dX7_isWithin_6 ?_
    refine z_icmp_gt (tgt := 14) hE dX7_isWithin_7 (by decide) ⟨by first | exact ha.1 | exact ha.2 | exact hb.1 | exact hb.2 | exact hc.1 | exact hc.2, by first | exact ha.1 | exact ha.2 | exact hb.1 | exact hb.2 | exact hc.1 | exact hc.2⟩ ⟨by first | exact ha.1 | exact ha.2 | exact hb.1 | exact hb.2 | exact hc.1 | exact hc.2, by first | exact ha.1 | exact ha.2 | exact hb.1 | exact hb.2 | exact hc.1 | exact hc.2⟩ (fun c2 => ?_) (fun c2 => ?_)
    · refine z_iconst hE dX7_isWithin_14 ?_
      exact z_zret hE hR dX7_isWithin_15 (by decide) (congrArg (fun x => some (Value.int (i32 x))) (by unfold zbo; first | rw [if_pos (by omega)] | rw [if_neg (by omega)])) (by first | rfl | (simp only [us_id]))
    · refine z_iconst hE dX7_isWithin_10 ?_
      refine z_goto (tgt := 15) hE (d := dX7_isWithin_11) (ht := by decide) ?_
      exact z_zret hE hR dX7_isWithin_15 (by decide) (congrArg (fun x => some (Value.int (i32 x))) (by unfold zbo; first | rw [if_pos (by omega)] | rw [if_neg (by omega)])) (by first | rfl | (simp only [us_id]))
theorem xor_nn {a b : Int} (ha : b32 a) (hb : b32 b) (h0 : 0 < b) : 0 ≤ i32 a ^^^ i32 b ↔ 0 ≤ a := by
  have key : ∀ x : Int32, 0 ≤ x ↔ x.toBitVec.msb = false := by
    intro x
    rw [Int32.le_iff_toInt_le, show (0 : Int32).toInt = 0 from rfl, show x.toInt = x.toBitVec.toInt from rfl, BitVec.msb_eq_toInt, decide_eq_false_iff_not]
    omega
  have hb1 : (i32 b).toBitVec.msb = false := (key _).mp (by rw [i32_0, i32_le b32_0 hb]; omega)
  rw [key, Int32.toBitVec_xor, BitVec.msb_xor, hb1, Bool.xor_false, ← key, i32_0, i32_le b32_0 ha]
theorem fdiv_1 {a b : Int} (hb : 0 < b) (h : 0 ≤ a) : a.tdiv b = a / b := Int.tdiv_eq_ediv_of_nonneg h
theorem tdiv_mul {a b : Int} : a.tdiv b * b + a.tmod b = a := by have := Int.tmod_add_mul_tdiv a b; rw [Int.mul_comm] at this; omega
theorem fdiv_2 {a b : Int} (hb : 0 < b) (h : a.tdiv b * b = a) : a.tdiv b = a / b := (Int.ediv_eq_of_eq_mul_left (by omega) h.symm).symm
theorem fdiv_3 {a b : Int} (hb : 0 < b) (h : ¬ 0 ≤ a) (h2 : ¬ a.tdiv b * b = a) : a.tdiv b - 1 = a / b := by
  have e := @tdiv_mul a b
  have h3 : -b < a.tmod b := Int.lt_tmod_of_pos a hb
  have h4 : a.tmod b ≤ 0 := by
    have h5 := Int.tmod_nonneg b (a := -a) (by omega)
    rw [Int.neg_tmod] at h5; omega
  have h6 : a.tmod b ≠ 0 := fun q => h2 (by omega)
  have h7 : (a.tdiv b - 1) * b = a.tdiv b * b - b := by rw [Int.sub_mul, Int.one_mul]
  symm
  rw [Int.ediv_eq_iff_of_pos hb]
  first | (rw [h7]; omega) | (constructor <;> (try rw [Int.mul_comm]) <;> omega)
theorem tdiv_b {a b : Int} (ha : b32 a) (hb : 0 < b) : b32 (a.tdiv b * b) := by
  have e := @tdiv_mul a b
  have h1 : a.tmod b < b := Int.tmod_lt_of_pos a hb
  have h3 : -b < a.tmod b := Int.lt_tmod_of_pos a hb
  have := ha.1; have := ha.2
  rcases Int.le_total 0 a with q | q
  · have h5 := Int.tmod_nonneg b q
    have h6 := Int.mul_nonneg (Int.tdiv_nonneg q (Int.le_of_lt hb)) (Int.le_of_lt hb)
    exact ⟨by omega, by omega⟩
  · have h5 := Int.tmod_nonneg b (a := -a) (by omega)
    rw [Int.neg_tmod] at h5
    have h6 := Int.tdiv_nonneg (a := -a) (b := b) (by omega) (Int.le_of_lt hb)
    rw [Int.neg_tdiv] at h6
    have h7 := Int.mul_nonneg h6 (Int.le_of_lt hb)
    rw [Int.neg_mul] at h7
    exact ⟨by omega, by omega⟩
theorem dJ9_floorDiv_7cf53_0 : decode cJ9_floorDiv_7cf53 0 = .ok (.iload_n 0, 1) := by decide +kernel
theorem dJ9_floorDiv_7cf53_1 : decode cJ9_floorDiv_7cf53 1 = .ok (.iload_n 1, 1) := by decide +kernel
theorem dJ9_floorDiv_7cf53_2 : decode cJ9_floorDiv_7cf53 2 = .ok (.idiv, 1) := by decide +kernel
theorem dJ9_floorDiv_7cf53_3 : decode cJ9_floorDiv_7cf53 3 = .ok (.istore_n 2, 1) := by decide +kernel
theorem dJ9_floorDiv_7cf53_4 : decode cJ9_floorDiv_7cf53 4 = .ok (.iload_n 0, 1) := by decide +kernel
theorem dJ9_floorDiv_7cf53_5 : decode cJ9_floorDiv_7cf53 5 = .ok (.iload_n 1, 1) := by decide +kernel
theorem dJ9_floorDiv_7cf53_6 : decode cJ9_floorDiv_7cf53 6 = .ok (.ixor, 1) := by decide +kernel
theorem dJ9_floorDiv_7cf53_7 : decode cJ9_floorDiv_7cf53 7 = .ok (.ifCond .ge 14, 3) := by decide +kernel
theorem dJ9_floorDiv_7cf53_10 : decode cJ9_floorDiv_7cf53 10 = .ok (.iload_n 2, 1) := by decide +kernel
theorem dJ9_floorDiv_7cf53_11 : decode cJ9_floorDiv_7cf53 11 = .ok (.iload_n 1, 1) := by decide +kernel
theorem dJ9_floorDiv_7cf53_12 : decode cJ9_floorDiv_7cf53 12 = .ok (.imul, 1) := by decide +kernel
theorem dJ9_floorDiv_7cf53_13 : decode cJ9_floorDiv_7cf53 13 = .ok (.iload_n 0, 1) := by decide +kernel
theorem dJ9_floorDiv_7cf53_14 : decode cJ9_floorDiv_7cf53 14 = .ok (.if_icmp .eq 7, 3) := by decide +kernel
theorem dJ9_floorDiv_7cf53_17 : decode cJ9_floorDiv_7cf53 17 = .ok (.iload_n 2, 1) := by decide +kernel
theorem dJ9_floorDiv_7cf53_18 : decode cJ9_floorDiv_7cf53 18 = .ok (.iconst 1, 1) := by decide +kernel
theorem dJ9_floorDiv_7cf53_19 : decode cJ9_floorDiv_7cf53 19 = .ok (.isub, 1) := by decide +kernel
theorem dJ9_floorDiv_7cf53_20 : decode cJ9_floorDiv_7cf53 20 = .ok (.ireturn, 1) := by decide +kernel
theorem dJ9_floorDiv_7cf53_21 : decode cJ9_floorDiv_7cf53 21 = .ok (.iload_n 2, 1) := by decide +kernel
theorem dJ9_floorDiv_7cf53_22 : decode cJ9_floorDiv_7cf53 22 = .ok (.ireturn, 1) := by decide +kernel
theorem hy_J9_floorDiv_7cf53 : yJ9_floorDiv_7cf53.cls ≠ "java/lang/invoke/MethodHandle" ∧ yJ9_floorDiv_7cf53.cls ≠ "java/lang/invoke/VarHandle" ∧ (parseMethodDescriptor yJ9_floorDiv_7cf53.desc).map (fun d => d.parameters.length) = some 2 := ⟨by decide +kernel, by decide +kernel, by decide +kernel⟩
set_option maxHeartbeats 4000000 in
set_option maxRecDepth 100000 in
theorem c_J9_floorDiv_7cf53 (l0 : Launch) (D0 : va_G) (cI0 cJ0 : ClassId) (ad : Nat → Nat → Nat) (S : zM) (a : Int) (b : Int) (ha : b32 a) (hb : b32 b) (h0 : 0 < b) : Ct l0 D0 cI0 cJ0 ad yJ9_floorDiv_7cf53 cJ9_floorDiv_7cf53 3 (some .int) 0 0 [.int (i32 a), .int (i32 b)] S (some (.int (i32 (a / b)))) (fun X => X = S) := by
  refine Ct.ofF (by unfold plainFor; rw [Bool.or_eq_true]; right; decide +kernel) (Nat.le_of_ble_eq_true rfl) (fun E hE hR => ?_)
  have hE : zG E l0 D0 cI0 cJ0 ad cJ9_floorDiv_7cf53 3 RJ9 0 0 := hE
  show Z E S 0 [(0, .int (i32 a)), (1, .int (i32 b))] []
  refine z_iload_n hE 0 rfl rfl dJ9_floorDiv_7cf53_0 ?_
  refine z_iload_n hE 1 rfl rfl dJ9_floorDiv_7cf53_1 ?_
  refine z_idiv hE ⟨by first | exact ha.1 | exact ha.2 | exact hb.1 | exact hb.2 | exact h0 | exact (tdiv_b ha h0).1 | exact (tdiv_b ha h0).2, by first | exact ha.1 | exact ha.2 | exact hb.1 | exact hb.2 | exact h0 | exact (tdiv_b ha h0).1 | exact (tdiv_b ha h0).2⟩ ⟨by first | exact ha.1 | exact ha.2 | exact hb.1 | exact hb.2 | exact h0 | exact (tdiv_b ha h0).1 | exact (tdiv_b ha h0).2, by first | exact ha.1 | exact ha.2 | exact hb.1 | exact hb.2 | exact h0 | exact (tdiv_b ha h0).1 | exact (tdiv_b ha h0).2⟩ (by first | exact ha.1 | exact ha.2 | exact hb.1 | exact hb.2 | exact h0 | exact (tdiv_b ha h0).1 | exact (tdiv_b ha h0).2) dJ9_floorDiv_7cf53_2 ?_
  refine z_istore_n hE rfl (by decide) rfl dJ9_floorDiv_7cf53_3 ?_
  refine z_iload_n hE 1 rfl rfl dJ9_floorDiv_7cf53_4 ?_
  refine z_iload_n hE 2 rfl rfl dJ9_floorDiv_7cf53_5 ?_
  refine z_ixor hE dJ9_floorDiv_7cf53_6 ?_
  refine z_ifge_w (tgt := 21) hE (xor_nn ha hb h0) dJ9_floorDiv_7cf53_7 (by decide) (fun c1 => ?_) (fun c1 => ?_)
  · refine z_iload_n hE 0 rfl rfl dJ9_floorDiv_7cf53_21 ?_
    exact z_iret hE hR dJ9_floorDiv_7cf53_22 (congrArg (fun x => some (Value.int (i32 x))) (by first | exact (fdiv_1 h0 c1).symm | exact (fdiv_2 h0 c2).symm)) (by first | rfl | (simp only [us_id]))
  · refine z_iload_n hE 0 rfl rfl dJ9_floorDiv_7cf53_10 ?_
    refine z_iload_n hE 2 rfl rfl dJ9_floorDiv_7cf53_11 ?_
    refine z_imul hE dJ9_floorDiv_7cf53_12 ?_
    refine z_iload_n hE 1 rfl rfl dJ9_floorDiv_7cf53_13 ?_
    refine z_icmp_eq (tgt := 21) hE dJ9_floorDiv_7cf53_14 (by decide) ⟨by first | exact ha.1 | exact ha.2 | exact hb.1 | exact hb.2 | exact h0 | exact (tdiv_b ha h0).1 | exact (tdiv_b ha h0).2, by first | exact ha.1 | exact ha.2 | exact hb.1 | exact hb.2 | exact h0 | exact (tdiv_b ha h0).1 | exact (tdiv_b ha h0).2⟩ ⟨by first | exact ha.1 | exact ha.2 | exact hb.1 | exact hb.2 | exact h0 | exact (tdiv_b ha h0).1 | exact (tdiv_b ha h0).2, by first | exact ha.1 | exact ha.2 | exact hb.1 | exact hb.2 | exact h0 | exact (tdiv_b ha h0).1 | exact (tdiv_b ha h0).2⟩ (fun c2 => ?_) (fun c2 => ?_)
    · refine z_iload_n hE 0 rfl rfl dJ9_floorDiv_7cf53_21 ?_
      exact z_iret hE hR dJ9_floorDiv_7cf53_22 (congrArg (fun x => some (Value.int (i32 x))) (by first | exact (fdiv_1 h0 c1).symm | exact (fdiv_2 h0 c2).symm)) (by first | rfl | (simp only [us_id]))
    · refine z_iload_n hE 0 rfl rfl dJ9_floorDiv_7cf53_17 ?_
      refine z_iconst hE dJ9_floorDiv_7cf53_18 ?_
      refine z_isub hE dJ9_floorDiv_7cf53_19 ?_
      exact z_iret hE hR dJ9_floorDiv_7cf53_20 (congrArg (fun x => some (Value.int (i32 x))) (by exact (fdiv_3 h0 c1 c2).symm)) (by first | rfl | (simp only [us_id]))
theorem dX7_quotient_0 : decode cX7_quotient 0 = .ok (.iload_n 1, 1) := by decide +kernel
theorem dX7_quotient_1 : decode cX7_quotient 1 = .ok (.ifCond .le 11, 3) := by decide +kernel
theorem dX7_quotient_4 : decode cX7_quotient 4 = .ok (.iload_n 0, 1) := by decide +kernel
theorem dX7_quotient_5 : decode cX7_quotient 5 = .ok (.iload_n 1, 1) := by decide +kernel
theorem dX7_quotient_6 : decode cX7_quotient 6 = .ok (.invokestatic 255, 3) := by decide +kernel
theorem dX7_quotient_9 : decode cX7_quotient 9 = .ok (.goto 4, 3) := by decide +kernel
theorem dX7_quotient_12 : decode cX7_quotient 12 = .ok (.iconst 0, 1) := by decide +kernel
theorem dX7_quotient_13 : decode cX7_quotient 13 = .ok (.ireturn, 1) := by decide +kernel
theorem hy_X7_quotient : yX7_quotient.cls ≠ "java/lang/invoke/MethodHandle" ∧ yX7_quotient.cls ≠ "java/lang/invoke/VarHandle" ∧ (parseMethodDescriptor yX7_quotient.desc).map (fun d => d.parameters.length) = some 2 := ⟨by decide +kernel, by decide +kernel, by decide +kernel⟩
set_option maxHeartbeats 4000000 in
set_option maxRecDepth 100000 in
theorem c_X7_quotient (l0 : Launch) (D0 : va_G) (cI0 cJ0 : ClassId) (ad : Nat → Nat → Nat) (S : zM) (a : Int) (b : Int) (ha : b32 a) (hb : b32 b) (h0 : 0 ≤ b) : Ct l0 D0 cI0 cJ0 ad yX7_quotient cX7_quotient 2 (some .int) 1 22 [.int (i32 a), .int (i32 b)] S (some (.int (i32 (a / b)))) (fun X => X = S) := by
  refine Ct.of (by decide) (Nat.le_of_ble_eq_true rfl) (fun E hE hR => ?_)
  have hE : zG E l0 D0 cI0 cJ0 ad cX7_quotient 2 RX7 1 22 := hE
  show Z E S 0 [(0, .int (i32 a)), (1, .int (i32 b))] []
  refine z_iload_n hE 1 rfl rfl dX7_quotient_0 ?_
  refine z_if_le (tgt := 12) hE dX7_quotient_1 (by decide) ⟨by first | exact ha.1 | exact ha.2 | exact hb.1 | exact hb.2 | omega, by first | exact ha.1 | exact ha.2 | exact hb.1 | exact hb.2 | omega⟩ (fun c1 => ?_) (fun c1 => ?_)
  · refine z_iconst hE dX7_quotient_12 ?_
    exact z_iret hE hR dX7_quotient_13 (congrArg (fun x => some (Value.int (i32 x))) (by first | rfl | (rw [show b = 0 by omega, Int.ediv_zero]))) (by first | rfl | (simp only [us_id]))
  · refine z_iload_n hE 0 rfl rfl dX7_quotient_4 ?_
    refine z_iload_n hE 1 rfl rfl dX7_quotient_5 ?_
    refine z_callS hE (c_J9_floorDiv_7cf53 l0 D0 cI0 cJ0 ad S a b ha hb (by first | exact ha.1 | exact ha.2 | exact hb.1 | exact hb.2 | omega)) zm_X7_255 zt_yJ9_floorDiv_7cf53 zn_RJ9 zc_yJ9_floorDiv_7cf53 (hy_J9_floorDiv_7cf53) (Nat.le_of_ble_eq_true rfl) (Nat.le_of_ble_eq_true rfl) rfl rfl rfl (Nat.le_of_ble_eq_true rfl) dX7_quotient_6 ?_
    refine z_goto (tgt := 13) hE (d := dX7_quotient_9) (ht := by decide) ?_
    exact z_iret hE hR dX7_quotient_13 (congrArg (fun x => some (Value.int (i32 x))) (by first | rfl | (rw [show b = 0 by omega, Int.ediv_zero]))) (by first | rfl | (simp only [us_id]))
end
section
theorem ks_lt : ∀ x ∈ ks, x.1 < 5 → x.2 < 22 := by decide +kernel
theorem z_memA {E : zE} {l0 : Launch} {D0 : va_G} {cI0 cJ0 : ClassId} {ad : Nat → Nat → Nat} {cc : ByteArray} {nL0 fr lo : Nat} {own : String} {S : zM} {pc : Nat} {L : List (Nat × Value)} {st : List Value} {r : Nat} {f g : Int → Int} (hE : zG E l0 D0 cI0 cJ0 ad cc nL0 own fr lo) (hr : r < 5) (h : ∀ q, kyA q ≠ 99 → f q = g q) (k : Z E (us S r g) pc L st) : Z E (us S r f) pc L st := by
  refine z_mem hE (fun r' j hk => cf_cg fun q hq => ?_) k
  unfold us
  split
  · rename_i e
    subst e
    have hj : j < 22 := ks_lt _ hk hr
    exact h q (by have := (kz_A hj).mp hq; omega)
  · rfl
theorem uq_two {s : Int → Int} {j k v w : Int} (h : j ≠ k) : up (uq s k v) j (s j + w) = uq (uq s k v) j w := by
  show _ = up (uq s k v) j (uq s k v j + w)
  rw [uq_ne h]
def cpg (a b : Nat) (s t : Int → Int) : Int → Int := fun q => if a ≤ kyA q ∧ kyA q ≤ b then t q else s q
def clr (s : Int → Int) (a i : Int) : Int → Int := fun q => if a ≤ q ∧ q < a + i then 0 else s q
theorem clr_0 (s : Int → Int) (a : Int) : clr s a 0 = s := by funext q; unfold clr; rw [if_neg (by omega)]
theorem clr_s {s : Int → Int} {a i : Int} (h : 0 ≤ i) : up (clr s a i) (a + i) 0 = clr s a (i + 1) := by
  funext q; unfold up clr
  by_cases e : q = a + i
  · rw [if_pos e, if_pos (by omega)]
  · rw [if_neg e]
    by_cases e2 : a ≤ q ∧ q < a + i
    · rw [if_pos e2, if_pos (by omega)]
    · rw [if_neg e2, if_neg (by omega)]
theorem dX1_has_0 : decode cX1_has 0 = .ok (.iload_n 1, 1) := by decide +kernel
theorem dX1_has_1 : decode cX1_has 1 = .ok (.ifCond .lt 15, 3) := by decide +kernel
theorem dX1_has_4 : decode cX1_has 4 = .ok (.iload_n 1, 1) := by decide +kernel
theorem dX1_has_5 : decode cX1_has 5 = .ok (.aload_n 0, 1) := by decide +kernel
theorem dX1_has_6 : decode cX1_has 6 = .ok (.getfield 9, 3) := by decide +kernel
theorem dX1_has_9 : decode cX1_has 9 = .ok (.if_icmp .ge 7, 3) := by decide +kernel
theorem dX1_has_12 : decode cX1_has 12 = .ok (.iconst 1, 1) := by decide +kernel
theorem dX1_has_13 : decode cX1_has 13 = .ok (.goto 4, 3) := by decide +kernel
theorem dX1_has_16 : decode cX1_has 16 = .ok (.iconst 0, 1) := by decide +kernel
theorem dX1_has_17 : decode cX1_has 17 = .ok (.ireturn, 1) := by decide +kernel
theorem hy_X1_has : yX1_has.cls ≠ "java/lang/invoke/MethodHandle" ∧ yX1_has.cls ≠ "java/lang/invoke/VarHandle" ∧ (parseMethodDescriptor yX1_has.desc).map (fun d => d.parameters.length) = some 1 := ⟨by decide +kernel, by decide +kernel, by decide +kernel⟩
set_option maxHeartbeats 4000000 in
set_option maxRecDepth 100000 in
theorem c_X1_has (l0 : Launch) (D0 : va_G) (cI0 cJ0 : ClassId) (ad : Nat → Nat → Nat) (S : zM) (r : Nat) (hr : r < 5) (m : Int) (h0 : -2147483648 ≤ m ∧ m < 2147483648) (h1 : 0 ≤ S r 0 ∧ S r 0 ≤ 12) : Ct l0 D0 cI0 cJ0 ad yX1_has cX1_has 2 (some .boolean) 0 0 [.ref (ad r 1), .int (i32 m)] S (some (.int (i32 (zbo (0 ≤ m ∧ m < S r 0))))) (fun X => X = S) := by
  refine Ct.of (by decide) (Nat.le_of_ble_eq_true rfl) (fun E hE hR => ?_)
  have hE : zG E l0 D0 cI0 cJ0 ad cX1_has 2 RX1 0 0 := hE
  show Z E S 0 [(0, .ref (ad r 1)), (1, .int (i32 m))] []
  refine z_iload_n hE 1 rfl rfl dX1_has_0 ?_
  refine z_if_lt (tgt := 16) hE dX1_has_1 (by decide) ⟨by omega, by omega⟩ (fun c1 => ?_) (fun c1 => ?_)
  · refine z_iconst hE dX1_has_16 ?_
    exact z_zret hE hR dX1_has_17 (by decide) (congrArg (fun x => some (Value.int (i32 x))) (by first | rfl | (unfold zbo; first | rw [if_pos (by omega)] | rw [if_neg (by omega)]))) (by first | rfl | (simp only [us_id]))
  · refine z_iload_n hE 1 rfl rfl dX1_has_4 ?_
    refine z_aload_n hE 0 rfl rfl dX1_has_5 ?_
    refine gf_1_0 hE (ks_m hr (by decide)) zf_X1_9 dX1_has_6 ?_
    refine z_icmp_ge (tgt := 16) hE dX1_has_9 (by decide) ⟨by omega, by omega⟩ ⟨by omega, by omega⟩ (fun c2 => ?_) (fun c2 => ?_)
    · refine z_iconst hE dX1_has_16 ?_
      exact z_zret hE hR dX1_has_17 (by decide) (congrArg (fun x => some (Value.int (i32 x))) (by first | rfl | (unfold zbo; first | rw [if_pos (by omega)] | rw [if_neg (by omega)]))) (by first | rfl | (simp only [us_id]))
    · refine z_iconst hE dX1_has_12 ?_
      refine z_goto (tgt := 17) hE (d := dX1_has_13) (ht := by decide) ?_
      exact z_zret hE hR dX1_has_17 (by decide) (congrArg (fun x => some (Value.int (i32 x))) (by first | rfl | (unfold zbo; first | rw [if_pos (by omega)] | rw [if_neg (by omega)]))) (by first | rfl | (simp only [us_id]))
theorem dX3_has_0 : decode cX3_has 0 = .ok (.iload_n 1, 1) := by decide +kernel
theorem dX3_has_1 : decode cX3_has 1 = .ok (.ifCond .lt 15, 3) := by decide +kernel
theorem dX3_has_4 : decode cX3_has 4 = .ok (.iload_n 1, 1) := by decide +kernel
theorem dX3_has_5 : decode cX3_has 5 = .ok (.aload_n 0, 1) := by decide +kernel
theorem dX3_has_6 : decode cX3_has 6 = .ok (.getfield 9, 3) := by decide +kernel
theorem dX3_has_9 : decode cX3_has 9 = .ok (.if_icmp .ge 7, 3) := by decide +kernel
theorem dX3_has_12 : decode cX3_has 12 = .ok (.iconst 1, 1) := by decide +kernel
theorem dX3_has_13 : decode cX3_has 13 = .ok (.goto 4, 3) := by decide +kernel
theorem dX3_has_16 : decode cX3_has 16 = .ok (.iconst 0, 1) := by decide +kernel
theorem dX3_has_17 : decode cX3_has 17 = .ok (.ireturn, 1) := by decide +kernel
theorem hy_X3_has : yX3_has.cls ≠ "java/lang/invoke/MethodHandle" ∧ yX3_has.cls ≠ "java/lang/invoke/VarHandle" ∧ (parseMethodDescriptor yX3_has.desc).map (fun d => d.parameters.length) = some 1 := ⟨by decide +kernel, by decide +kernel, by decide +kernel⟩
set_option maxHeartbeats 4000000 in
set_option maxRecDepth 100000 in
theorem c_X3_has (l0 : Launch) (D0 : va_G) (cI0 cJ0 : ClassId) (ad : Nat → Nat → Nat) (S : zM) (r : Nat) (hr : r < 5) (o : Int) (h0 : -2147483648 ≤ o ∧ o < 2147483648) (h1 : 0 ≤ S r 14 ∧ S r 14 ≤ 20) : Ct l0 D0 cI0 cJ0 ad yX3_has cX3_has 2 (some .boolean) 0 0 [.ref (ad r 8), .int (i32 o)] S (some (.int (i32 (zbo (0 ≤ o ∧ o < S r 14))))) (fun X => X = S) := by
  refine Ct.of (by decide) (Nat.le_of_ble_eq_true rfl) (fun E hE hR => ?_)
  have hE : zG E l0 D0 cI0 cJ0 ad cX3_has 2 RX3 0 0 := hE
  show Z E S 0 [(0, .ref (ad r 8)), (1, .int (i32 o))] []
  refine z_iload_n hE 1 rfl rfl dX3_has_0 ?_
  refine z_if_lt (tgt := 16) hE dX3_has_1 (by decide) ⟨by omega, by omega⟩ (fun c1 => ?_) (fun c1 => ?_)
  · refine z_iconst hE dX3_has_16 ?_
    exact z_zret hE hR dX3_has_17 (by decide) (congrArg (fun x => some (Value.int (i32 x))) (by first | rfl | (unfold zbo; first | rw [if_pos (by omega)] | rw [if_neg (by omega)]))) (by first | rfl | (simp only [us_id]))
  · refine z_iload_n hE 1 rfl rfl dX3_has_4 ?_
    refine z_aload_n hE 0 rfl rfl dX3_has_5 ?_
    refine gf_3_0 hE (ks_m hr (by decide)) zf_X3_9 dX3_has_6 ?_
    refine z_icmp_ge (tgt := 16) hE dX3_has_9 (by decide) ⟨by omega, by omega⟩ ⟨by omega, by omega⟩ (fun c2 => ?_) (fun c2 => ?_)
    · refine z_iconst hE dX3_has_16 ?_
      exact z_zret hE hR dX3_has_17 (by decide) (congrArg (fun x => some (Value.int (i32 x))) (by first | rfl | (unfold zbo; first | rw [if_pos (by omega)] | rw [if_neg (by omega)]))) (by first | rfl | (simp only [us_id]))
    · refine z_iconst hE dX3_has_12 ?_
      refine z_goto (tgt := 17) hE (d := dX3_has_13) (ht := by decide) ?_
      exact z_zret hE hR dX3_has_17 (by decide) (congrArg (fun x => some (Value.int (i32 x))) (by first | rfl | (unfold zbo; first | rw [if_pos (by omega)] | rw [if_neg (by omega)]))) (by first | rfl | (simp only [us_id]))
theorem dX2_has_0 : decode cX2_has 0 = .ok (.iload_n 1, 1) := by decide +kernel
theorem dX2_has_1 : decode cX2_has 1 = .ok (.ifCond .lt 15, 3) := by decide +kernel
theorem dX2_has_4 : decode cX2_has 4 = .ok (.iload_n 1, 1) := by decide +kernel
theorem dX2_has_5 : decode cX2_has 5 = .ok (.aload_n 0, 1) := by decide +kernel
theorem dX2_has_6 : decode cX2_has 6 = .ok (.getfield 9, 3) := by decide +kernel
theorem dX2_has_9 : decode cX2_has 9 = .ok (.if_icmp .ge 7, 3) := by decide +kernel
theorem dX2_has_12 : decode cX2_has 12 = .ok (.iconst 1, 1) := by decide +kernel
theorem dX2_has_13 : decode cX2_has 13 = .ok (.goto 4, 3) := by decide +kernel
theorem dX2_has_16 : decode cX2_has 16 = .ok (.iconst 0, 1) := by decide +kernel
theorem dX2_has_17 : decode cX2_has 17 = .ok (.ireturn, 1) := by decide +kernel
theorem hy_X2_has : yX2_has.cls ≠ "java/lang/invoke/MethodHandle" ∧ yX2_has.cls ≠ "java/lang/invoke/VarHandle" ∧ (parseMethodDescriptor yX2_has.desc).map (fun d => d.parameters.length) = some 1 := ⟨by decide +kernel, by decide +kernel, by decide +kernel⟩
set_option maxHeartbeats 4000000 in
set_option maxRecDepth 100000 in
theorem c_X2_has (l0 : Launch) (D0 : va_G) (cI0 cJ0 : ClassId) (ad : Nat → Nat → Nat) (S : zM) (r : Nat) (hr : r < 5) (q : Int) (h0 : -2147483648 ≤ q ∧ q < 2147483648) (h1 : 0 ≤ S r 15 ∧ S r 15 ≤ 10) : Ct l0 D0 cI0 cJ0 ad yX2_has cX2_has 2 (some .boolean) 0 0 [.ref (ad r 17), .int (i32 q)] S (some (.int (i32 (zbo (0 ≤ q ∧ q < S r 15))))) (fun X => X = S) := by
  refine Ct.of (by decide) (Nat.le_of_ble_eq_true rfl) (fun E hE hR => ?_)
  have hE : zG E l0 D0 cI0 cJ0 ad cX2_has 2 RX2 0 0 := hE
  show Z E S 0 [(0, .ref (ad r 17)), (1, .int (i32 q))] []
  refine z_iload_n hE 1 rfl rfl dX2_has_0 ?_
  refine z_if_lt (tgt := 16) hE dX2_has_1 (by decide) ⟨by omega, by omega⟩ (fun c1 => ?_) (fun c1 => ?_)
  · refine z_iconst hE dX2_has_16 ?_
    exact z_zret hE hR dX2_has_17 (by decide) (congrArg (fun x => some (Value.int (i32 x))) (by first | rfl | (unfold zbo; first | rw [if_pos (by omega)] | rw [if_neg (by omega)]))) (by first | rfl | (simp only [us_id]))
  · refine z_iload_n hE 1 rfl rfl dX2_has_4 ?_
    refine z_aload_n hE 0 rfl rfl dX2_has_5 ?_
    refine gf_2_0 hE (ks_m hr (by decide)) zf_X2_9 dX2_has_6 ?_
    refine z_icmp_ge (tgt := 16) hE dX2_has_9 (by decide) ⟨by omega, by omega⟩ ⟨by omega, by omega⟩ (fun c2 => ?_) (fun c2 => ?_)
    · refine z_iconst hE dX2_has_16 ?_
      exact z_zret hE hR dX2_has_17 (by decide) (congrArg (fun x => some (Value.int (i32 x))) (by first | rfl | (unfold zbo; first | rw [if_pos (by omega)] | rw [if_neg (by omega)]))) (by first | rfl | (simp only [us_id]))
    · refine z_iconst hE dX2_has_12 ?_
      refine z_goto (tgt := 17) hE (d := dX2_has_13) (ht := by decide) ?_
      exact z_zret hE hR dX2_has_17 (by decide) (congrArg (fun x => some (Value.int (i32 x))) (by first | rfl | (unfold zbo; first | rw [if_pos (by omega)] | rw [if_neg (by omega)]))) (by first | rfl | (simp only [us_id]))
theorem dX3_isOpen_0 : decode cX3_isOpen 0 = .ok (.aload_n 0, 1) := by decide +kernel
theorem dX3_isOpen_1 : decode cX3_isOpen 1 = .ok (.getfield 28, 3) := by decide +kernel
theorem dX3_isOpen_4 : decode cX3_isOpen 4 = .ok (.iload_n 1, 1) := by decide +kernel
theorem dX3_isOpen_5 : decode cX3_isOpen 5 = .ok (.iaload, 1) := by decide +kernel
theorem dX3_isOpen_6 : decode cX3_isOpen 6 = .ok (.iconst 3, 1) := by decide +kernel
theorem dX3_isOpen_7 : decode cX3_isOpen 7 = .ok (.if_icmp .eq 7, 3) := by decide +kernel
theorem dX3_isOpen_10 : decode cX3_isOpen 10 = .ok (.iconst 1, 1) := by decide +kernel
theorem dX3_isOpen_11 : decode cX3_isOpen 11 = .ok (.goto 4, 3) := by decide +kernel
theorem dX3_isOpen_14 : decode cX3_isOpen 14 = .ok (.iconst 0, 1) := by decide +kernel
theorem dX3_isOpen_15 : decode cX3_isOpen 15 = .ok (.ireturn, 1) := by decide +kernel
theorem hy_X3_isOpen : yX3_isOpen.cls ≠ "java/lang/invoke/MethodHandle" ∧ yX3_isOpen.cls ≠ "java/lang/invoke/VarHandle" ∧ (parseMethodDescriptor yX3_isOpen.desc).map (fun d => d.parameters.length) = some 1 := ⟨by decide +kernel, by decide +kernel, by decide +kernel⟩
set_option maxHeartbeats 4000000 in
set_option maxRecDepth 100000 in
theorem c_X3_isOpen (l0 : Launch) (D0 : va_G) (cI0 cJ0 : ClassId) (ad : Nat → Nat → Nat) (S : zM) (r : Nat) (hr : r < 5) (o : Int) (h0 : 0 ≤ o ∧ o < 20) (h1 : 0 ≤ S r (59 + 22 * o) ∧ S r (59 + 22 * o) ≤ 3) : Ct l0 D0 cI0 cJ0 ad yX3_isOpen cX3_isOpen 2 (some .boolean) 0 0 [.ref (ad r 8), .int (i32 o)] S (some (.int (i32 (zbo (S r (59 + 22 * o) ≠ 3))))) (fun X => X = S) := by
  refine Ct.of (by decide) (Nat.le_of_ble_eq_true rfl) (fun E hE hR => ?_)
  have hE : zG E l0 D0 cI0 cJ0 ad cX3_isOpen 2 RX3 0 0 := hE
  show Z E S 0 [(0, .ref (ad r 8)), (1, .int (i32 o))] []
  refine z_aload_n hE 0 rfl rfl dX3_isOpen_0 ?_
  refine gf_3_5 hE (ks_m hr (by decide)) zf_X3_28 dX3_isOpen_1 ?_
  refine z_iload_n hE 1 rfl rfl dX3_isOpen_4 ?_
  refine al_13 hE (ks_m hr (by decide)) (by omega) (by omega) dX3_isOpen_5 ?_
  refine z_iconst hE dX3_isOpen_6 ?_
  refine z_icmp_eq (tgt := 14) hE dX3_isOpen_7 (by decide) ⟨by omega, by omega⟩ ⟨by omega, by omega⟩ (fun c1 => ?_) (fun c1 => ?_)
  · refine z_iconst hE dX3_isOpen_14 ?_
    exact z_zret hE hR dX3_isOpen_15 (by decide) (congrArg (fun x => some (Value.int (i32 x))) (by first | rfl | (unfold zbo; first | rw [if_pos (by omega)] | rw [if_neg (by omega)]))) (by first | rfl | (simp only [us_id]))
  · refine z_iconst hE dX3_isOpen_10 ?_
    refine z_goto (tgt := 15) hE (d := dX3_isOpen_11) (ht := by decide) ?_
    exact z_zret hE hR dX3_isOpen_15 (by decide) (congrArg (fun x => some (Value.int (i32 x))) (by first | rfl | (unfold zbo; first | rw [if_pos (by omega)] | rw [if_neg (by omega)]))) (by first | rfl | (simp only [us_id]))
theorem dX2_isOpen_0 : decode cX2_isOpen 0 = .ok (.aload_n 0, 1) := by decide +kernel
theorem dX2_isOpen_1 : decode cX2_isOpen 1 = .ok (.getfield 22, 3) := by decide +kernel
theorem dX2_isOpen_4 : decode cX2_isOpen 4 = .ok (.iload_n 1, 1) := by decide +kernel
theorem dX2_isOpen_5 : decode cX2_isOpen 5 = .ok (.iaload, 1) := by decide +kernel
theorem dX2_isOpen_6 : decode cX2_isOpen 6 = .ok (.ifCond .ne 7, 3) := by decide +kernel
theorem dX2_isOpen_9 : decode cX2_isOpen 9 = .ok (.iconst 1, 1) := by decide +kernel
theorem dX2_isOpen_10 : decode cX2_isOpen 10 = .ok (.goto 4, 3) := by decide +kernel
theorem dX2_isOpen_13 : decode cX2_isOpen 13 = .ok (.iconst 0, 1) := by decide +kernel
theorem dX2_isOpen_14 : decode cX2_isOpen 14 = .ok (.ireturn, 1) := by decide +kernel
theorem hy_X2_isOpen : yX2_isOpen.cls ≠ "java/lang/invoke/MethodHandle" ∧ yX2_isOpen.cls ≠ "java/lang/invoke/VarHandle" ∧ (parseMethodDescriptor yX2_isOpen.desc).map (fun d => d.parameters.length) = some 1 := ⟨by decide +kernel, by decide +kernel, by decide +kernel⟩
set_option maxHeartbeats 4000000 in
set_option maxRecDepth 100000 in
theorem c_X2_isOpen (l0 : Launch) (D0 : va_G) (cI0 cJ0 : ClassId) (ad : Nat → Nat → Nat) (S : zM) (r : Nat) (hr : r < 5) (q : Int) (h0 : 0 ≤ q ∧ q < 10) (h1 : 0 ≤ S r (497 + 15 * q) ∧ S r (497 + 15 * q) ≤ 2) : Ct l0 D0 cI0 cJ0 ad yX2_isOpen cX2_isOpen 2 (some .boolean) 0 0 [.ref (ad r 17), .int (i32 q)] S (some (.int (i32 (zbo (S r (497 + 15 * q) = 0))))) (fun X => X = S) := by
  refine Ct.of (by decide) (Nat.le_of_ble_eq_true rfl) (fun E hE hR => ?_)
  have hE : zG E l0 D0 cI0 cJ0 ad cX2_isOpen 2 RX2 0 0 := hE
  show Z E S 0 [(0, .ref (ad r 17)), (1, .int (i32 q))] []
  refine z_aload_n hE 0 rfl rfl dX2_isOpen_0 ?_
  refine gf_2_3 hE (ks_m hr (by decide)) zf_X2_22 dX2_isOpen_1 ?_
  refine z_iload_n hE 1 rfl rfl dX2_isOpen_4 ?_
  refine al_20 hE (ks_m hr (by decide)) (by omega) (by omega) dX2_isOpen_5 ?_
  refine z_if_ne (tgt := 13) hE dX2_isOpen_6 (by decide) ⟨by omega, by omega⟩ (fun c1 => ?_) (fun c1 => ?_)
  · refine z_iconst hE dX2_isOpen_13 ?_
    exact z_zret hE hR dX2_isOpen_14 (by decide) (congrArg (fun x => some (Value.int (i32 x))) (by first | rfl | (unfold zbo; first | rw [if_pos (by omega)] | rw [if_neg (by omega)]))) (by first | rfl | (simp only [us_id]))
  · refine z_iconst hE dX2_isOpen_9 ?_
    refine z_goto (tgt := 14) hE (d := dX2_isOpen_10) (ht := by decide) ?_
    exact z_zret hE hR dX2_isOpen_14 (by decide) (congrArg (fun x => some (Value.int (i32 x))) (by first | rfl | (unfold zbo; first | rw [if_pos (by omega)] | rw [if_neg (by omega)]))) (by first | rfl | (simp only [us_id]))
theorem dX2_add_0 : decode cX2_add 0 = .ok (.aload_n 0, 1) := by decide +kernel
theorem dX2_add_1 : decode cX2_add 1 = .ok (.getfield 9, 3) := by decide +kernel
theorem dX2_add_4 : decode cX2_add 4 = .ok (.istore_n 3, 1) := by decide +kernel
theorem dX2_add_5 : decode cX2_add 5 = .ok (.aload_n 0, 1) := by decide +kernel
theorem dX2_add_6 : decode cX2_add 6 = .ok (.dup, 1) := by decide +kernel
theorem dX2_add_7 : decode cX2_add 7 = .ok (.getfield 9, 3) := by decide +kernel
theorem dX2_add_10 : decode cX2_add 10 = .ok (.iconst 1, 1) := by decide +kernel
theorem dX2_add_11 : decode cX2_add 11 = .ok (.iadd, 1) := by decide +kernel
theorem dX2_add_12 : decode cX2_add 12 = .ok (.putfield 9, 3) := by decide +kernel
theorem dX2_add_15 : decode cX2_add 15 = .ok (.aload_n 0, 1) := by decide +kernel
theorem dX2_add_16 : decode cX2_add 16 = .ok (.getfield 15, 3) := by decide +kernel
theorem dX2_add_19 : decode cX2_add 19 = .ok (.iload_n 3, 1) := by decide +kernel
theorem dX2_add_20 : decode cX2_add 20 = .ok (.iload_n 1, 1) := by decide +kernel
theorem dX2_add_21 : decode cX2_add 21 = .ok (.iastore, 1) := by decide +kernel
theorem dX2_add_22 : decode cX2_add 22 = .ok (.aload_n 0, 1) := by decide +kernel
theorem dX2_add_23 : decode cX2_add 23 = .ok (.getfield 19, 3) := by decide +kernel
theorem dX2_add_26 : decode cX2_add 26 = .ok (.iload_n 3, 1) := by decide +kernel
theorem dX2_add_27 : decode cX2_add 27 = .ok (.iload_n 2, 1) := by decide +kernel
theorem dX2_add_28 : decode cX2_add 28 = .ok (.iastore, 1) := by decide +kernel
theorem dX2_add_29 : decode cX2_add 29 = .ok (.aload_n 0, 1) := by decide +kernel
theorem dX2_add_30 : decode cX2_add 30 = .ok (.getfield 22, 3) := by decide +kernel
theorem dX2_add_33 : decode cX2_add 33 = .ok (.iload_n 3, 1) := by decide +kernel
theorem dX2_add_34 : decode cX2_add 34 = .ok (.iconst 0, 1) := by decide +kernel
theorem dX2_add_35 : decode cX2_add 35 = .ok (.iastore, 1) := by decide +kernel
theorem dX2_add_36 : decode cX2_add 36 = .ok (.iload_n 3, 1) := by decide +kernel
theorem dX2_add_37 : decode cX2_add 37 = .ok (.ireturn, 1) := by decide +kernel
theorem hy_X2_add : yX2_add.cls ≠ "java/lang/invoke/MethodHandle" ∧ yX2_add.cls ≠ "java/lang/invoke/VarHandle" ∧ (parseMethodDescriptor yX2_add.desc).map (fun d => d.parameters.length) = some 2 := ⟨by decide +kernel, by decide +kernel, by decide +kernel⟩
set_option maxHeartbeats 4000000 in
set_option maxRecDepth 100000 in
theorem c_X2_add (l0 : Launch) (D0 : va_G) (cI0 cJ0 : ClassId) (ad : Nat → Nat → Nat) (S : zM) (r : Nat) (hr : r < 5) (kd : Int) (v : Int) (h0 : 0 ≤ S r 15 ∧ S r 15 < 10) : Ct l0 D0 cI0 cJ0 ad yX2_add cX2_add 4 (some .int) 0 0 [.ref (ad r 17), .int (i32 kd), .int (i32 v)] S (some (.int (i32 (S r 15)))) (fun X => X = (us S r (sp_prop (S r) kd v))) := by
  refine Ct.of (by decide) (Nat.le_of_ble_eq_true rfl) (fun E hE hR => ?_)
  have hE : zG E l0 D0 cI0 cJ0 ad cX2_add 4 RX2 0 0 := hE
  show Z E S 0 [(0, .ref (ad r 17)), (1, .int (i32 kd)), (2, .int (i32 v))] []
  refine z_aload_n hE 0 rfl rfl dX2_add_0 ?_
  refine gf_2_0 hE (ks_m hr (by decide)) zf_X2_9 dX2_add_1 ?_
  refine z_istore_n hE rfl (by decide) rfl dX2_add_4 ?_
  refine z_aload_n hE 1 rfl rfl dX2_add_5 ?_
  refine z_dup hE rfl dX2_add_6 ?_
  refine gf_2_0 hE (ks_m hr (by decide)) zf_X2_9 dX2_add_7 ?_
  refine z_iconst hE dX2_add_10 ?_
  refine z_iadd hE dX2_add_11 ?_
  refine pf_2_0 hE (ks_m hr (by decide)) zf_X2_9 dX2_add_12 ?_
  refine z_aload_n hE 1 rfl rfl dX2_add_15 ?_
  refine gf_2_1 hE (ks_m hr (by decide)) zf_X2_15 dX2_add_16 ?_
  refine z_iload_n hE 0 rfl rfl dX2_add_19 ?_
  refine z_iload_n hE 2 rfl rfl dX2_add_20 ?_
  refine as_18 hE (ks_m hr (by decide)) (by omega) (by omega) dX2_add_21 ?_
  try simp only [us_eq, us_us]
  refine z_aload_n hE 1 rfl rfl dX2_add_22 ?_
  refine gf_2_2 hE (ks_m hr (by decide)) zf_X2_19 dX2_add_23 ?_
  refine z_iload_n hE 0 rfl rfl dX2_add_26 ?_
  refine z_iload_n hE 3 rfl rfl dX2_add_27 ?_
  refine as_19 hE (ks_m hr (by decide)) (by omega) (by omega) dX2_add_28 ?_
  try simp only [us_eq, us_us]
  refine z_aload_n hE 1 rfl rfl dX2_add_29 ?_
  refine gf_2_3 hE (ks_m hr (by decide)) zf_X2_22 dX2_add_30 ?_
  refine z_iload_n hE 0 rfl rfl dX2_add_33 ?_
  refine z_iconst hE dX2_add_34 ?_
  refine as_20 hE (ks_m hr (by decide)) (by omega) (by omega) dX2_add_35 ?_
  try simp only [us_eq, us_us]
  refine z_iload_n hE 0 rfl rfl dX2_add_36 ?_
  exact z_iret hE hR dX2_add_37 (congrArg (fun x => some (Value.int (i32 x))) (by first | rfl | omega)) (by first | rfl | (simp only [us_id]))
theorem dX2_ballotOf_0 : decode cX2_ballotOf 0 = .ok (.aload_n 0, 1) := by decide +kernel
theorem dX2_ballotOf_1 : decode cX2_ballotOf 1 = .ok (.getfield 25, 3) := by decide +kernel
theorem dX2_ballotOf_4 : decode cX2_ballotOf 4 = .ok (.iload_n 1, 1) := by decide +kernel
theorem dX2_ballotOf_5 : decode cX2_ballotOf 5 = .ok (.bipush 12, 2) := by decide +kernel
theorem dX2_ballotOf_7 : decode cX2_ballotOf 7 = .ok (.imul, 1) := by decide +kernel
theorem dX2_ballotOf_8 : decode cX2_ballotOf 8 = .ok (.iload_n 2, 1) := by decide +kernel
theorem dX2_ballotOf_9 : decode cX2_ballotOf 9 = .ok (.iadd, 1) := by decide +kernel
theorem dX2_ballotOf_10 : decode cX2_ballotOf 10 = .ok (.iaload, 1) := by decide +kernel
theorem dX2_ballotOf_11 : decode cX2_ballotOf 11 = .ok (.ireturn, 1) := by decide +kernel
theorem hy_X2_ballotOf : yX2_ballotOf.cls ≠ "java/lang/invoke/MethodHandle" ∧ yX2_ballotOf.cls ≠ "java/lang/invoke/VarHandle" ∧ (parseMethodDescriptor yX2_ballotOf.desc).map (fun d => d.parameters.length) = some 2 := ⟨by decide +kernel, by decide +kernel, by decide +kernel⟩
set_option maxHeartbeats 4000000 in
set_option maxRecDepth 100000 in
theorem c_X2_ballotOf (l0 : Launch) (D0 : va_G) (cI0 cJ0 : ClassId) (ad : Nat → Nat → Nat) (S : zM) (r : Nat) (hr : r < 5) (q : Int) (m : Int) (h0 : 0 ≤ q ∧ q < 10) (h1 : 0 ≤ m ∧ m < 12) : Ct l0 D0 cI0 cJ0 ad yX2_ballotOf cX2_ballotOf 3 (some .int) 0 0 [.ref (ad r 17), .int (i32 q), .int (i32 m)] S (some (.int (i32 (S r (498 + 15 * q + m))))) (fun X => X = S) := by
  refine Ct.of (by decide) (Nat.le_of_ble_eq_true rfl) (fun E hE hR => ?_)
  have hE : zG E l0 D0 cI0 cJ0 ad cX2_ballotOf 3 RX2 0 0 := hE
  show Z E S 0 [(0, .ref (ad r 17)), (1, .int (i32 q)), (2, .int (i32 m))] []
  refine z_aload_n hE 0 rfl rfl dX2_ballotOf_0 ?_
  refine gf_2_4 hE (ks_m hr (by decide)) zf_X2_25 dX2_ballotOf_1 ?_
  refine z_iload_n hE 1 rfl rfl dX2_ballotOf_4 ?_
  refine z_bipush (a := 12) hE (by decide) dX2_ballotOf_5 ?_
  refine z_imul hE dX2_ballotOf_7 ?_
  refine z_iload_n hE 2 rfl rfl dX2_ballotOf_8 ?_
  refine z_iadd hE dX2_ballotOf_9 ?_
  refine al_21 hE (498 + 15 * q + m) (ks_m hr (by decide)) (by omega) (by omega) (by unfold ofB; omega) dX2_ballotOf_10 ?_
  exact z_iret hE hR dX2_ballotOf_11 (congrArg (fun x => some (Value.int (i32 x))) (by first | rfl | omega)) (by first | rfl | (simp only [us_id]))
theorem dX2_setBallot_0 : decode cX2_setBallot 0 = .ok (.aload_n 0, 1) := by decide +kernel
theorem dX2_setBallot_1 : decode cX2_setBallot 1 = .ok (.getfield 25, 3) := by decide +kernel
theorem dX2_setBallot_4 : decode cX2_setBallot 4 = .ok (.iload_n 1, 1) := by decide +kernel
theorem dX2_setBallot_5 : decode cX2_setBallot 5 = .ok (.bipush 12, 2) := by decide +kernel
theorem dX2_setBallot_7 : decode cX2_setBallot 7 = .ok (.imul, 1) := by decide +kernel
theorem dX2_setBallot_8 : decode cX2_setBallot 8 = .ok (.iload_n 2, 1) := by decide +kernel
theorem dX2_setBallot_9 : decode cX2_setBallot 9 = .ok (.iadd, 1) := by decide +kernel
theorem dX2_setBallot_10 : decode cX2_setBallot 10 = .ok (.iload_n 3, 1) := by decide +kernel
theorem dX2_setBallot_11 : decode cX2_setBallot 11 = .ok (.iastore, 1) := by decide +kernel
theorem dX2_setBallot_12 : decode cX2_setBallot 12 = .ok (.return_, 1) := by decide +kernel
theorem hy_X2_setBallot : yX2_setBallot.cls ≠ "java/lang/invoke/MethodHandle" ∧ yX2_setBallot.cls ≠ "java/lang/invoke/VarHandle" ∧ (parseMethodDescriptor yX2_setBallot.desc).map (fun d => d.parameters.length) = some 3 := ⟨by decide +kernel, by decide +kernel, by decide +kernel⟩
set_option maxHeartbeats 4000000 in
set_option maxRecDepth 100000 in
theorem c_X2_setBallot (l0 : Launch) (D0 : va_G) (cI0 cJ0 : ClassId) (ad : Nat → Nat → Nat) (S : zM) (r : Nat) (hr : r < 5) (q : Int) (m : Int) (b : Int) (h0 : 0 ≤ q ∧ q < 10) (h1 : 0 ≤ m ∧ m < 12) : Ct l0 D0 cI0 cJ0 ad yX2_setBallot cX2_setBallot 4 none 0 0 [.ref (ad r 17), .int (i32 q), .int (i32 m), .int (i32 b)] S none (fun X => X = (us S r (up (S r) (498 + 15 * q + m) b))) := by
  refine Ct.of (by decide) (Nat.le_of_ble_eq_true rfl) (fun E hE hR => ?_)
  have hE : zG E l0 D0 cI0 cJ0 ad cX2_setBallot 4 RX2 0 0 := hE
  show Z E S 0 [(0, .ref (ad r 17)), (1, .int (i32 q)), (2, .int (i32 m)), (3, .int (i32 b))] []
  refine z_aload_n hE 0 rfl rfl dX2_setBallot_0 ?_
  refine gf_2_4 hE (ks_m hr (by decide)) zf_X2_25 dX2_setBallot_1 ?_
  refine z_iload_n hE 1 rfl rfl dX2_setBallot_4 ?_
  refine z_bipush (a := 12) hE (by decide) dX2_setBallot_5 ?_
  refine z_imul hE dX2_setBallot_7 ?_
  refine z_iload_n hE 2 rfl rfl dX2_setBallot_8 ?_
  refine z_iadd hE dX2_setBallot_9 ?_
  refine z_iload_n hE 3 rfl rfl dX2_setBallot_10 ?_
  refine as_21 hE (498 + 15 * q + m) (ks_m hr (by decide)) (by omega) (by omega) (by unfold ofB; omega) dX2_setBallot_11 ?_
  exact z_vret hE hR dX2_setBallot_12 rfl (by first | rfl | (simp only [us_id]))
theorem dX2_countBallots_0 : decode cX2_countBallots 0 = .ok (.iconst 0, 1) := by decide +kernel
theorem dX2_countBallots_1 : decode cX2_countBallots 1 = .ok (.istore_n 2, 1) := by decide +kernel
theorem dX2_countBallots_2 : decode cX2_countBallots 2 = .ok (.iconst 0, 1) := by decide +kernel
theorem dX2_countBallots_3 : decode cX2_countBallots 3 = .ok (.istore_n 3, 1) := by decide +kernel
theorem dX2_countBallots_4 : decode cX2_countBallots 4 = .ok (.iload_n 3, 1) := by decide +kernel
theorem dX2_countBallots_5 : decode cX2_countBallots 5 = .ok (.bipush 12, 2) := by decide +kernel
theorem dX2_countBallots_7 : decode cX2_countBallots 7 = .ok (.if_icmp .ge 21, 3) := by decide +kernel
theorem dX2_countBallots_10 : decode cX2_countBallots 10 = .ok (.aload_n 0, 1) := by decide +kernel
theorem dX2_countBallots_11 : decode cX2_countBallots 11 = .ok (.iload_n 1, 1) := by decide +kernel
theorem dX2_countBallots_12 : decode cX2_countBallots 12 = .ok (.iload_n 3, 1) := by decide +kernel
theorem dX2_countBallots_13 : decode cX2_countBallots 13 = .ok (.invokevirtual 34, 3) := by decide +kernel
theorem dX2_countBallots_16 : decode cX2_countBallots 16 = .ok (.ifCond .eq 6, 3) := by decide +kernel
theorem dX2_countBallots_19 : decode cX2_countBallots 19 = .ok (.iinc 2 1, 3) := by decide +kernel
theorem dX2_countBallots_22 : decode cX2_countBallots 22 = .ok (.iinc 3 1, 3) := by decide +kernel
theorem dX2_countBallots_25 : decode cX2_countBallots 25 = .ok (.goto (-21), 3) := by decide +kernel
theorem dX2_countBallots_28 : decode cX2_countBallots 28 = .ok (.iload_n 2, 1) := by decide +kernel
theorem dX2_countBallots_29 : decode cX2_countBallots 29 = .ok (.ireturn, 1) := by decide +kernel
theorem hy_X2_countBallots : yX2_countBallots.cls ≠ "java/lang/invoke/MethodHandle" ∧ yX2_countBallots.cls ≠ "java/lang/invoke/VarHandle" ∧ (parseMethodDescriptor yX2_countBallots.desc).map (fun d => d.parameters.length) = some 1 := ⟨by decide +kernel, by decide +kernel, by decide +kernel⟩
set_option maxHeartbeats 4000000 in
set_option maxRecDepth 100000 in
theorem lp_X2_countBallots {E : zE} {l0 : Launch} {D0 : va_G} {cI0 cJ0 : ClassId} {ad : Nat → Nat → Nat} (hE : zG E l0 D0 cI0 cJ0 ad cX2_countBallots 4 RX2 1 22) (S : zM) (r : Nat) (hr : r < 5) (q : Int) (h0 : 0 ≤ q ∧ q < 10) (hb : ∀ m : Int, 0 ≤ m → m < 12 → 0 ≤ S r (498 + 15 * q + m) ∧ S r (498 + 15 * q + m) ≤ 2) (hR : zR E (some .int) (some (.int (i32 (sp_cnt (S r) q)))) (fun X => X = S)) : ∀ (fuel : Nat) (i : Int) (h9 : 0 ≤ i ∧ i ≤ 12), (12 - i).toNat < fuel → Z E S 4 [(3, .int (i32 i)), (2, .int (i32 (sm (fun k => if S r (498 + 15 * q + k) ≠ 0 then 1 else 0) i))), (0, .ref (ad r 17)), (1, .int (i32 q))] [] := by
  intro fuel
  induction fuel with
  | zero => intro _ _ hz; omega
  | succ fuel ih =>
    intro i h9 hz
    refine z_iload_n hE 0 rfl rfl dX2_countBallots_4 ?_
    refine z_bipush (a := 12) hE (by decide) dX2_countBallots_5 ?_
    refine z_icmp_ge (tgt := 28) hE dX2_countBallots_7 (by decide) ⟨by omega, by omega⟩ ⟨by omega, by omega⟩ (fun c1 => ?_) (fun c1 => ?_)
    · refine z_iload_n hE 1 rfl rfl dX2_countBallots_28 ?_
      exact z_iret hE hR dX2_countBallots_29 (congrArg (fun x => some (Value.int (i32 x))) (by unfold sp_cnt; rw [show i = 12 by omega])) (by first | rfl | (simp only [us_id]))
    · refine z_aload_n hE 2 rfl rfl dX2_countBallots_10 ?_
      refine z_iload_n hE 3 rfl rfl dX2_countBallots_11 ?_
      refine z_iload_n hE 0 rfl rfl dX2_countBallots_12 ?_
      refine z_callV hE (c_X2_ballotOf l0 D0 cI0 cJ0 ad S r hr q i (by omega) (by omega)) (ks_m hr (by decide)) rfl rfl zm_X2_34 zi_yX2_ballotOf zs_yX2_ballotOf zn_RX2 zc_yX2_ballotOf (hy_X2_ballotOf) (Nat.le_of_ble_eq_true rfl) (Nat.le_of_ble_eq_true rfl) rfl rfl rfl (Nat.le_of_ble_eq_true rfl) dX2_countBallots_13 ?_
      have h8 := hb i (by omega) (by omega)
      refine z_if_eq (tgt := 22) hE dX2_countBallots_16 (by decide) ⟨by omega, by omega⟩ (fun c2 => ?_) (fun c2 => ?_)
      · refine z_iinc hE 0 rfl (by decide) rfl dX2_countBallots_22 ?_
        refine z_goto (tgt := 4) hE (d := dX2_countBallots_25) (ht := by decide) ?_
        refine z_L (L' := [(3, .int (i32 (i + 1))), (2, .int (i32 (sm (fun k => if S r (498 + 15 * q + k) ≠ 0 then 1 else 0) (i + 1)))), (0, .ref (ad r 17)), (1, .int (i32 q))]) [0, 1, 2, 3] (by rw [show sm (fun k => if S r (498 + 15 * q + k) ≠ 0 then 1 else 0) (i + 1) = sm (fun k => if S r (498 + 15 * q + k) ≠ 0 then 1 else 0) i from by first | rfl | ((rw [sm_s h9.1]; first | rw [if_pos (by omega)] | (rw [if_neg (by omega)]; omega)))]; rfl) ?_
        exact ih (i + 1) ⟨by omega, by omega⟩ (by omega)
      · refine z_iinc hE 1 rfl (by decide) rfl dX2_countBallots_19 ?_
        refine z_iinc hE 1 rfl (by decide) rfl dX2_countBallots_22 ?_
        refine z_goto (tgt := 4) hE (d := dX2_countBallots_25) (ht := by decide) ?_
        refine z_L (L' := [(3, .int (i32 (i + 1))), (2, .int (i32 (sm (fun k => if S r (498 + 15 * q + k) ≠ 0 then 1 else 0) (i + 1)))), (0, .ref (ad r 17)), (1, .int (i32 q))]) [0, 1, 2, 3] (by rw [show sm (fun k => if S r (498 + 15 * q + k) ≠ 0 then 1 else 0) (i + 1) = sm (fun k => if S r (498 + 15 * q + k) ≠ 0 then 1 else 0) i + 1 from by first | rfl | ((rw [sm_s h9.1]; first | rw [if_pos (by omega)] | (rw [if_neg (by omega)]; omega)))]; rfl) ?_
        exact ih (i + 1) ⟨by omega, by omega⟩ (by omega)
set_option maxHeartbeats 4000000 in
set_option maxRecDepth 100000 in
theorem c_X2_countBallots (l0 : Launch) (D0 : va_G) (cI0 cJ0 : ClassId) (ad : Nat → Nat → Nat) (S : zM) (r : Nat) (hr : r < 5) (q : Int) (h0 : 0 ≤ q ∧ q < 10) (hb : ∀ m : Int, 0 ≤ m → m < 12 → 0 ≤ S r (498 + 15 * q + m) ∧ S r (498 + 15 * q + m) ≤ 2) : Ct l0 D0 cI0 cJ0 ad yX2_countBallots cX2_countBallots 4 (some .int) 1 22 [.ref (ad r 17), .int (i32 q)] S (some (.int (i32 (sp_cnt (S r) q)))) (fun X => X = S) := by
  refine Ct.of (by decide) (Nat.le_of_ble_eq_true rfl) (fun E hE hR => ?_)
  have hE : zG E l0 D0 cI0 cJ0 ad cX2_countBallots 4 RX2 1 22 := hE
  show Z E S 0 [(0, .ref (ad r 17)), (1, .int (i32 q))] []
  refine z_iconst hE dX2_countBallots_0 ?_
  refine z_istore_n hE rfl (by decide) rfl dX2_countBallots_1 ?_
  refine z_iconst hE dX2_countBallots_2 ?_
  refine z_istore_n hE rfl (by decide) rfl dX2_countBallots_3 ?_
  refine z_L (L' := [(3, .int (i32 0)), (2, .int (i32 (sm (fun k => if S r (498 + 15 * q + k) ≠ 0 then 1 else 0) 0))), (0, .ref (ad r 17)), (1, .int (i32 q))]) [0, 1, 2, 3] (by rw [show sm (fun k => if S r (498 + 15 * q + k) ≠ 0 then 1 else 0) 0 = 0 from by first | rfl | (exact sm_0 _)]; rfl) ?_
  exact lp_X2_countBallots hE S r hr q h0 hb hR 13 0 ⟨by omega, by omega⟩ (by omega)
theorem dX3_add_0 : decode cX3_add 0 = .ok (.aload_n 0, 1) := by decide +kernel
theorem dX3_add_1 : decode cX3_add 1 = .ok (.getfield 9, 3) := by decide +kernel
theorem dX3_add_4 : decode cX3_add 4 = .ok (.istore 5, 2) := by decide +kernel
theorem dX3_add_6 : decode cX3_add 6 = .ok (.aload_n 0, 1) := by decide +kernel
theorem dX3_add_7 : decode cX3_add 7 = .ok (.dup, 1) := by decide +kernel
theorem dX3_add_8 : decode cX3_add 8 = .ok (.getfield 9, 3) := by decide +kernel
theorem dX3_add_11 : decode cX3_add 11 = .ok (.iconst 1, 1) := by decide +kernel
theorem dX3_add_12 : decode cX3_add 12 = .ok (.iadd, 1) := by decide +kernel
theorem dX3_add_13 : decode cX3_add 13 = .ok (.putfield 9, 3) := by decide +kernel
theorem dX3_add_16 : decode cX3_add 16 = .ok (.aload_n 0, 1) := by decide +kernel
theorem dX3_add_17 : decode cX3_add 17 = .ok (.getfield 15, 3) := by decide +kernel
theorem dX3_add_20 : decode cX3_add 20 = .ok (.iload 5, 2) := by decide +kernel
theorem dX3_add_22 : decode cX3_add 22 = .ok (.iload_n 1, 1) := by decide +kernel
theorem dX3_add_23 : decode cX3_add 23 = .ok (.iastore, 1) := by decide +kernel
theorem dX3_add_24 : decode cX3_add 24 = .ok (.aload_n 0, 1) := by decide +kernel
theorem dX3_add_25 : decode cX3_add 25 = .ok (.getfield 19, 3) := by decide +kernel
theorem dX3_add_28 : decode cX3_add 28 = .ok (.iload 5, 2) := by decide +kernel
theorem dX3_add_30 : decode cX3_add 30 = .ok (.iload_n 2, 1) := by decide +kernel
theorem dX3_add_31 : decode cX3_add 31 = .ok (.iastore, 1) := by decide +kernel
theorem dX3_add_32 : decode cX3_add 32 = .ok (.aload_n 0, 1) := by decide +kernel
theorem dX3_add_33 : decode cX3_add 33 = .ok (.getfield 25, 3) := by decide +kernel
theorem dX3_add_36 : decode cX3_add 36 = .ok (.iload 5, 2) := by decide +kernel
theorem dX3_add_38 : decode cX3_add 38 = .ok (.iload_n 3, 1) := by decide +kernel
theorem dX3_add_39 : decode cX3_add 39 = .ok (.iastore, 1) := by decide +kernel
theorem dX3_add_40 : decode cX3_add 40 = .ok (.aload_n 0, 1) := by decide +kernel
theorem dX3_add_41 : decode cX3_add 41 = .ok (.getfield 22, 3) := by decide +kernel
theorem dX3_add_44 : decode cX3_add 44 = .ok (.iload 5, 2) := by decide +kernel
theorem dX3_add_46 : decode cX3_add 46 = .ok (.iload 4, 2) := by decide +kernel
theorem dX3_add_48 : decode cX3_add 48 = .ok (.iastore, 1) := by decide +kernel
theorem dX3_add_49 : decode cX3_add 49 = .ok (.iload 5, 2) := by decide +kernel
theorem dX3_add_51 : decode cX3_add 51 = .ok (.ireturn, 1) := by decide +kernel
theorem hy_X3_add : yX3_add.cls ≠ "java/lang/invoke/MethodHandle" ∧ yX3_add.cls ≠ "java/lang/invoke/VarHandle" ∧ (parseMethodDescriptor yX3_add.desc).map (fun d => d.parameters.length) = some 4 := ⟨by decide +kernel, by decide +kernel, by decide +kernel⟩
set_option maxHeartbeats 4000000 in
set_option maxRecDepth 100000 in
theorem c_X3_add (l0 : Launch) (D0 : va_G) (cI0 cJ0 : ClassId) (ad : Nat → Nat → Nat) (S : zM) (r : Nat) (hr : r < 5) (se : Int) (bu : Int) (n : Int) (pr : Int) (h0 : 0 ≤ S r 14 ∧ S r 14 < 20) : Ct l0 D0 cI0 cJ0 ad yX3_add cX3_add 6 (some .int) 0 0 [.ref (ad r 8), .int (i32 se), .int (i32 bu), .int (i32 n), .int (i32 pr)] S (some (.int (i32 (S r 14)))) (fun X => X = (us S r (up (up (up (up (up (S r) 14 (S r 14 + 1)) (55 + 22 * S r 14) se) (56 + 22 * S r 14) bu) (57 + 22 * S r 14) n) (58 + 22 * S r 14) pr))) := by
  refine Ct.of (by decide) (Nat.le_of_ble_eq_true rfl) (fun E hE hR => ?_)
  have hE : zG E l0 D0 cI0 cJ0 ad cX3_add 6 RX3 0 0 := hE
  show Z E S 0 [(0, .ref (ad r 8)), (1, .int (i32 se)), (2, .int (i32 bu)), (3, .int (i32 n)), (4, .int (i32 pr))] []
  refine z_aload_n hE 0 rfl rfl dX3_add_0 ?_
  refine gf_3_0 hE (ks_m hr (by decide)) zf_X3_9 dX3_add_1 ?_
  refine z_istore hE (by decide) rfl dX3_add_4 ?_
  refine z_aload_n hE 1 rfl rfl dX3_add_6 ?_
  refine z_dup hE rfl dX3_add_7 ?_
  refine gf_3_0 hE (ks_m hr (by decide)) zf_X3_9 dX3_add_8 ?_
  refine z_iconst hE dX3_add_11 ?_
  refine z_iadd hE dX3_add_12 ?_
  refine pf_3_0 hE (ks_m hr (by decide)) zf_X3_9 dX3_add_13 ?_
  refine z_aload_n hE 1 rfl rfl dX3_add_16 ?_
  refine gf_3_1 hE (ks_m hr (by decide)) zf_X3_15 dX3_add_17 ?_
  refine z_iload hE 0 rfl dX3_add_20 ?_
  refine z_iload_n hE 2 rfl rfl dX3_add_22 ?_
  refine as_9 hE (ks_m hr (by decide)) (by omega) (by omega) dX3_add_23 ?_
  try simp only [us_eq, us_us]
  refine z_aload_n hE 1 rfl rfl dX3_add_24 ?_
  refine gf_3_2 hE (ks_m hr (by decide)) zf_X3_19 dX3_add_25 ?_
  refine z_iload hE 0 rfl dX3_add_28 ?_
  refine z_iload_n hE 3 rfl rfl dX3_add_30 ?_
  refine as_10 hE (ks_m hr (by decide)) (by omega) (by omega) dX3_add_31 ?_
  try simp only [us_eq, us_us]
  refine z_aload_n hE 1 rfl rfl dX3_add_32 ?_
  refine gf_3_4 hE (ks_m hr (by decide)) zf_X3_25 dX3_add_33 ?_
  refine z_iload hE 0 rfl dX3_add_36 ?_
  refine z_iload_n hE 4 rfl rfl dX3_add_38 ?_
  refine as_12 hE (ks_m hr (by decide)) (by omega) (by omega) dX3_add_39 ?_
  try simp only [us_eq, us_us]
  refine z_aload_n hE 1 rfl rfl dX3_add_40 ?_
  refine gf_3_3 hE (ks_m hr (by decide)) zf_X3_22 dX3_add_41 ?_
  refine z_iload hE 0 rfl dX3_add_44 ?_
  refine z_iload hE 5 rfl dX3_add_46 ?_
  refine as_11 hE (ks_m hr (by decide)) (by omega) (by omega) dX3_add_48 ?_
  try simp only [us_eq, us_us]
  refine z_iload hE 0 rfl dX3_add_49 ?_
  exact z_iret hE hR dX3_add_51 (congrArg (fun x => some (Value.int (i32 x))) (by first | rfl | omega)) (by first | rfl | (simp only [us_id]))
theorem dX3_claimBy_0 : decode cX3_claimBy 0 = .ok (.aload_n 0, 1) := by decide +kernel
theorem dX3_claimBy_1 : decode cX3_claimBy 1 = .ok (.getfield 37, 3) := by decide +kernel
theorem dX3_claimBy_4 : decode cX3_claimBy 4 = .ok (.iload_n 1, 1) := by decide +kernel
theorem dX3_claimBy_5 : decode cX3_claimBy 5 = .ok (.bipush 12, 2) := by decide +kernel
theorem dX3_claimBy_7 : decode cX3_claimBy 7 = .ok (.imul, 1) := by decide +kernel
theorem dX3_claimBy_8 : decode cX3_claimBy 8 = .ok (.iload_n 2, 1) := by decide +kernel
theorem dX3_claimBy_9 : decode cX3_claimBy 9 = .ok (.iadd, 1) := by decide +kernel
theorem dX3_claimBy_10 : decode cX3_claimBy 10 = .ok (.iaload, 1) := by decide +kernel
theorem dX3_claimBy_11 : decode cX3_claimBy 11 = .ok (.ireturn, 1) := by decide +kernel
theorem hy_X3_claimBy : yX3_claimBy.cls ≠ "java/lang/invoke/MethodHandle" ∧ yX3_claimBy.cls ≠ "java/lang/invoke/VarHandle" ∧ (parseMethodDescriptor yX3_claimBy.desc).map (fun d => d.parameters.length) = some 2 := ⟨by decide +kernel, by decide +kernel, by decide +kernel⟩
set_option maxHeartbeats 4000000 in
set_option maxRecDepth 100000 in
theorem c_X3_claimBy (l0 : Launch) (D0 : va_G) (cI0 cJ0 : ClassId) (ad : Nat → Nat → Nat) (S : zM) (r : Nat) (hr : r < 5) (o : Int) (m : Int) (h0 : 0 ≤ o ∧ o < 20) (h1 : 0 ≤ m ∧ m < 12) : Ct l0 D0 cI0 cJ0 ad yX3_claimBy cX3_claimBy 3 (some .int) 0 0 [.ref (ad r 8), .int (i32 o), .int (i32 m)] S (some (.int (i32 (S r (65 + 22 * o + m))))) (fun X => X = S) := by
  refine Ct.of (by decide) (Nat.le_of_ble_eq_true rfl) (fun E hE hR => ?_)
  have hE : zG E l0 D0 cI0 cJ0 ad cX3_claimBy 3 RX3 0 0 := hE
  show Z E S 0 [(0, .ref (ad r 8)), (1, .int (i32 o)), (2, .int (i32 m))] []
  refine z_aload_n hE 0 rfl rfl dX3_claimBy_0 ?_
  refine gf_3_8 hE (ks_m hr (by decide)) zf_X3_37 dX3_claimBy_1 ?_
  refine z_iload_n hE 1 rfl rfl dX3_claimBy_4 ?_
  refine z_bipush (a := 12) hE (by decide) dX3_claimBy_5 ?_
  refine z_imul hE dX3_claimBy_7 ?_
  refine z_iload_n hE 2 rfl rfl dX3_claimBy_8 ?_
  refine z_iadd hE dX3_claimBy_9 ?_
  refine al_16 hE (65 + 22 * o + m) (ks_m hr (by decide)) (by omega) (by omega) (by unfold ofC; omega) dX3_claimBy_10 ?_
  exact z_iret hE hR dX3_claimBy_11 (congrArg (fun x => some (Value.int (i32 x))) (by first | rfl | omega)) (by first | rfl | (simp only [us_id]))
theorem dX3_setClaim_0 : decode cX3_setClaim 0 = .ok (.aload_n 0, 1) := by decide +kernel
theorem dX3_setClaim_1 : decode cX3_setClaim 1 = .ok (.getfield 37, 3) := by decide +kernel
theorem dX3_setClaim_4 : decode cX3_setClaim 4 = .ok (.iload_n 1, 1) := by decide +kernel
theorem dX3_setClaim_5 : decode cX3_setClaim 5 = .ok (.bipush 12, 2) := by decide +kernel
theorem dX3_setClaim_7 : decode cX3_setClaim 7 = .ok (.imul, 1) := by decide +kernel
theorem dX3_setClaim_8 : decode cX3_setClaim 8 = .ok (.iload_n 2, 1) := by decide +kernel
theorem dX3_setClaim_9 : decode cX3_setClaim 9 = .ok (.iadd, 1) := by decide +kernel
theorem dX3_setClaim_10 : decode cX3_setClaim 10 = .ok (.iload_n 3, 1) := by decide +kernel
theorem dX3_setClaim_11 : decode cX3_setClaim 11 = .ok (.iastore, 1) := by decide +kernel
theorem dX3_setClaim_12 : decode cX3_setClaim 12 = .ok (.return_, 1) := by decide +kernel
theorem hy_X3_setClaim : yX3_setClaim.cls ≠ "java/lang/invoke/MethodHandle" ∧ yX3_setClaim.cls ≠ "java/lang/invoke/VarHandle" ∧ (parseMethodDescriptor yX3_setClaim.desc).map (fun d => d.parameters.length) = some 3 := ⟨by decide +kernel, by decide +kernel, by decide +kernel⟩
set_option maxHeartbeats 4000000 in
set_option maxRecDepth 100000 in
theorem c_X3_setClaim (l0 : Launch) (D0 : va_G) (cI0 cJ0 : ClassId) (ad : Nat → Nat → Nat) (S : zM) (r : Nat) (hr : r < 5) (o : Int) (m : Int) (n : Int) (h0 : 0 ≤ o ∧ o < 20) (h1 : 0 ≤ m ∧ m < 12) : Ct l0 D0 cI0 cJ0 ad yX3_setClaim cX3_setClaim 4 none 0 0 [.ref (ad r 8), .int (i32 o), .int (i32 m), .int (i32 n)] S none (fun X => X = (us S r (up (S r) (65 + 22 * o + m) n))) := by
  refine Ct.of (by decide) (Nat.le_of_ble_eq_true rfl) (fun E hE hR => ?_)
  have hE : zG E l0 D0 cI0 cJ0 ad cX3_setClaim 4 RX3 0 0 := hE
  show Z E S 0 [(0, .ref (ad r 8)), (1, .int (i32 o)), (2, .int (i32 m)), (3, .int (i32 n))] []
  refine z_aload_n hE 0 rfl rfl dX3_setClaim_0 ?_
  refine gf_3_8 hE (ks_m hr (by decide)) zf_X3_37 dX3_setClaim_1 ?_
  refine z_iload_n hE 1 rfl rfl dX3_setClaim_4 ?_
  refine z_bipush (a := 12) hE (by decide) dX3_setClaim_5 ?_
  refine z_imul hE dX3_setClaim_7 ?_
  refine z_iload_n hE 2 rfl rfl dX3_setClaim_8 ?_
  refine z_iadd hE dX3_setClaim_9 ?_
  refine z_iload_n hE 3 rfl rfl dX3_setClaim_10 ?_
  refine as_16 hE (65 + 22 * o + m) (ks_m hr (by decide)) (by omega) (by omega) (by unfold ofC; omega) dX3_setClaim_11 ?_
  exact z_vret hE hR dX3_setClaim_12 rfl (by first | rfl | (simp only [us_id]))
theorem dX3_soldTo_0 : decode cX3_soldTo 0 = .ok (.aload_n 0, 1) := by decide +kernel
theorem dX3_soldTo_1 : decode cX3_soldTo 1 = .ok (.getfield 34, 3) := by decide +kernel
theorem dX3_soldTo_4 : decode cX3_soldTo 4 = .ok (.iload_n 1, 1) := by decide +kernel
theorem dX3_soldTo_5 : decode cX3_soldTo 5 = .ok (.iconst 4, 1) := by decide +kernel
theorem dX3_soldTo_6 : decode cX3_soldTo 6 = .ok (.imul, 1) := by decide +kernel
theorem dX3_soldTo_7 : decode cX3_soldTo 7 = .ok (.iload_n 2, 1) := by decide +kernel
theorem dX3_soldTo_8 : decode cX3_soldTo 8 = .ok (.iadd, 1) := by decide +kernel
theorem dX3_soldTo_9 : decode cX3_soldTo 9 = .ok (.iaload, 1) := by decide +kernel
theorem dX3_soldTo_10 : decode cX3_soldTo 10 = .ok (.ireturn, 1) := by decide +kernel
theorem hy_X3_soldTo : yX3_soldTo.cls ≠ "java/lang/invoke/MethodHandle" ∧ yX3_soldTo.cls ≠ "java/lang/invoke/VarHandle" ∧ (parseMethodDescriptor yX3_soldTo.desc).map (fun d => d.parameters.length) = some 2 := ⟨by decide +kernel, by decide +kernel, by decide +kernel⟩
set_option maxHeartbeats 4000000 in
set_option maxRecDepth 100000 in
theorem c_X3_soldTo (l0 : Launch) (D0 : va_G) (cI0 cJ0 : ClassId) (ad : Nat → Nat → Nat) (S : zM) (r : Nat) (hr : r < 5) (o : Int) (w : Int) (h0 : 0 ≤ o ∧ o < 20) (h1 : 0 ≤ w ∧ w < 4) : Ct l0 D0 cI0 cJ0 ad yX3_soldTo cX3_soldTo 3 (some .int) 0 0 [.ref (ad r 8), .int (i32 o), .int (i32 w)] S (some (.int (i32 (S r (61 + 22 * o + w))))) (fun X => X = S) := by
  refine Ct.of (by decide) (Nat.le_of_ble_eq_true rfl) (fun E hE hR => ?_)
  have hE : zG E l0 D0 cI0 cJ0 ad cX3_soldTo 3 RX3 0 0 := hE
  show Z E S 0 [(0, .ref (ad r 8)), (1, .int (i32 o)), (2, .int (i32 w))] []
  refine z_aload_n hE 0 rfl rfl dX3_soldTo_0 ?_
  refine gf_3_7 hE (ks_m hr (by decide)) zf_X3_34 dX3_soldTo_1 ?_
  refine z_iload_n hE 1 rfl rfl dX3_soldTo_4 ?_
  refine z_iconst hE dX3_soldTo_5 ?_
  refine z_imul hE dX3_soldTo_6 ?_
  refine z_iload_n hE 2 rfl rfl dX3_soldTo_7 ?_
  refine z_iadd hE dX3_soldTo_8 ?_
  refine al_15 hE (61 + 22 * o + w) (ks_m hr (by decide)) (by omega) (by omega) (by unfold ofS; omega) dX3_soldTo_9 ?_
  exact z_iret hE hR dX3_soldTo_10 (congrArg (fun x => some (Value.int (i32 x))) (by first | rfl | omega)) (by first | rfl | (simp only [us_id]))
theorem dX3_clearClaims_0 : decode cX3_clearClaims 0 = .ok (.iconst 0, 1) := by decide +kernel
theorem dX3_clearClaims_1 : decode cX3_clearClaims 1 = .ok (.istore_n 2, 1) := by decide +kernel
theorem dX3_clearClaims_2 : decode cX3_clearClaims 2 = .ok (.iload_n 2, 1) := by decide +kernel
theorem dX3_clearClaims_3 : decode cX3_clearClaims 3 = .ok (.bipush 12, 2) := by decide +kernel
theorem dX3_clearClaims_5 : decode cX3_clearClaims 5 = .ok (.if_icmp .ge 16, 3) := by decide +kernel
theorem dX3_clearClaims_8 : decode cX3_clearClaims 8 = .ok (.aload_n 0, 1) := by decide +kernel
theorem dX3_clearClaims_9 : decode cX3_clearClaims 9 = .ok (.iload_n 1, 1) := by decide +kernel
theorem dX3_clearClaims_10 : decode cX3_clearClaims 10 = .ok (.iload_n 2, 1) := by decide +kernel
theorem dX3_clearClaims_11 : decode cX3_clearClaims 11 = .ok (.iconst 0, 1) := by decide +kernel
theorem dX3_clearClaims_12 : decode cX3_clearClaims 12 = .ok (.invokevirtual 54, 3) := by decide +kernel
theorem dX3_clearClaims_15 : decode cX3_clearClaims 15 = .ok (.iinc 2 1, 3) := by decide +kernel
theorem dX3_clearClaims_18 : decode cX3_clearClaims 18 = .ok (.goto (-16), 3) := by decide +kernel
theorem dX3_clearClaims_21 : decode cX3_clearClaims 21 = .ok (.return_, 1) := by decide +kernel
theorem hy_X3_clearClaims : yX3_clearClaims.cls ≠ "java/lang/invoke/MethodHandle" ∧ yX3_clearClaims.cls ≠ "java/lang/invoke/VarHandle" ∧ (parseMethodDescriptor yX3_clearClaims.desc).map (fun d => d.parameters.length) = some 1 := ⟨by decide +kernel, by decide +kernel, by decide +kernel⟩
set_option maxHeartbeats 4000000 in
set_option maxRecDepth 100000 in
theorem lp_X3_clearClaims {E : zE} {l0 : Launch} {D0 : va_G} {cI0 cJ0 : ClassId} {ad : Nat → Nat → Nat} (hE : zG E l0 D0 cI0 cJ0 ad cX3_clearClaims 3 RX3 1 23) (S : zM) (r : Nat) (hr : r < 5) (o : Int) (h0 : 0 ≤ o ∧ o < 20) (hR : zR E none none (fun X => X = (us S r (clr (S r) (65 + 22 * o) 12)))) : ∀ (fuel : Nat) (i : Int) (h9 : 0 ≤ i ∧ i ≤ 12), (12 - i).toNat < fuel → Z E (us S r (clr (S r) (65 + 22 * o) i)) 2 [(2, .int (i32 i)), (0, .ref (ad r 8)), (1, .int (i32 o))] [] := by
  intro fuel
  induction fuel with
  | zero => intro _ _ hz; omega
  | succ fuel ih =>
    intro i h9 hz
    refine z_iload_n hE 0 rfl rfl dX3_clearClaims_2 ?_
    refine z_bipush (a := 12) hE (by decide) dX3_clearClaims_3 ?_
    refine z_icmp_ge (tgt := 21) hE dX3_clearClaims_5 (by decide) ⟨by omega, by omega⟩ ⟨by omega, by omega⟩ (fun c1 => ?_) (fun c1 => ?_)
    · exact z_vret hE hR dX3_clearClaims_21 rfl (by rw [show i = 12 by omega])
    · refine z_aload_n hE 1 rfl rfl dX3_clearClaims_8 ?_
      refine z_iload_n hE 2 rfl rfl dX3_clearClaims_9 ?_
      refine z_iload_n hE 0 rfl rfl dX3_clearClaims_10 ?_
      refine z_iconst hE dX3_clearClaims_11 ?_
      refine z_callV hE (c_X3_setClaim l0 D0 cI0 cJ0 ad (us S r (clr (S r) (65 + 22 * o) i)) r hr o i 0 (by omega) (by omega)) (ks_m hr (by decide)) rfl rfl zm_X3_54 zi_yX3_setClaim zs_yX3_setClaim zn_RX3 zc_yX3_setClaim (hy_X3_setClaim) (Nat.le_of_ble_eq_true rfl) (Nat.le_of_ble_eq_true rfl) rfl rfl rfl (Nat.le_of_ble_eq_true rfl) dX3_clearClaims_12 ?_
      try simp only [us_eq, us_us]
      refine z_iinc hE 0 rfl (by decide) rfl dX3_clearClaims_15 ?_
      refine z_goto (tgt := 2) hE (d := dX3_clearClaims_18) (ht := by decide) ?_
      refine z_L (L' := [(2, .int (i32 (i + 1))), (0, .ref (ad r 8)), (1, .int (i32 o))]) [0, 1, 2] (by rfl) ?_
      rw [clr_s h9.1]
      exact ih (i + 1) ⟨by omega, by omega⟩ (by omega)
set_option maxHeartbeats 4000000 in
set_option maxRecDepth 100000 in
theorem c_X3_clearClaims (l0 : Launch) (D0 : va_G) (cI0 cJ0 : ClassId) (ad : Nat → Nat → Nat) (S : zM) (r : Nat) (hr : r < 5) (o : Int) (h0 : 0 ≤ o ∧ o < 20) : Ct l0 D0 cI0 cJ0 ad yX3_clearClaims cX3_clearClaims 3 none 1 23 [.ref (ad r 8), .int (i32 o)] S none (fun X => X = (us S r (clr (S r) (65 + 22 * o) 12))) := by
  refine Ct.of (by decide) (Nat.le_of_ble_eq_true rfl) (fun E hE hR => ?_)
  have hE : zG E l0 D0 cI0 cJ0 ad cX3_clearClaims 3 RX3 1 23 := hE
  show Z E S 0 [(0, .ref (ad r 8)), (1, .int (i32 o))] []
  refine z_iconst hE dX3_clearClaims_0 ?_
  refine z_istore_n hE rfl (by decide) rfl dX3_clearClaims_1 ?_
  refine z_L (L' := [(2, .int (i32 0)), (0, .ref (ad r 8)), (1, .int (i32 o))]) [0, 1, 2] (by rfl) ?_
  rw [show S = us S r (clr (S r) (65 + 22 * o) 0) from by rw [clr_0, us_id]]
  exact lp_X3_clearClaims hE S r hr o h0 hR 13 0 ⟨by omega, by omega⟩ (by omega)
theorem dX3_sumOfClaims_0 : decode cX3_sumOfClaims 0 = .ok (.iconst 0, 1) := by decide +kernel
theorem dX3_sumOfClaims_1 : decode cX3_sumOfClaims 1 = .ok (.istore_n 2, 1) := by decide +kernel
theorem dX3_sumOfClaims_2 : decode cX3_sumOfClaims 2 = .ok (.iconst 0, 1) := by decide +kernel
theorem dX3_sumOfClaims_3 : decode cX3_sumOfClaims 3 = .ok (.istore_n 3, 1) := by decide +kernel
theorem dX3_sumOfClaims_4 : decode cX3_sumOfClaims 4 = .ok (.iload_n 3, 1) := by decide +kernel
theorem dX3_sumOfClaims_5 : decode cX3_sumOfClaims 5 = .ok (.bipush 12, 2) := by decide +kernel
theorem dX3_sumOfClaims_7 : decode cX3_sumOfClaims 7 = .ok (.if_icmp .ge 18, 3) := by decide +kernel
theorem dX3_sumOfClaims_10 : decode cX3_sumOfClaims 10 = .ok (.iload_n 2, 1) := by decide +kernel
theorem dX3_sumOfClaims_11 : decode cX3_sumOfClaims 11 = .ok (.aload_n 0, 1) := by decide +kernel
theorem dX3_sumOfClaims_12 : decode cX3_sumOfClaims 12 = .ok (.iload_n 1, 1) := by decide +kernel
theorem dX3_sumOfClaims_13 : decode cX3_sumOfClaims 13 = .ok (.iload_n 3, 1) := by decide +kernel
theorem dX3_sumOfClaims_14 : decode cX3_sumOfClaims 14 = .ok (.invokevirtual 57, 3) := by decide +kernel
theorem dX3_sumOfClaims_17 : decode cX3_sumOfClaims 17 = .ok (.iadd, 1) := by decide +kernel
theorem dX3_sumOfClaims_18 : decode cX3_sumOfClaims 18 = .ok (.istore_n 2, 1) := by decide +kernel
theorem dX3_sumOfClaims_19 : decode cX3_sumOfClaims 19 = .ok (.iinc 3 1, 3) := by decide +kernel
theorem dX3_sumOfClaims_22 : decode cX3_sumOfClaims 22 = .ok (.goto (-18), 3) := by decide +kernel
theorem dX3_sumOfClaims_25 : decode cX3_sumOfClaims 25 = .ok (.iload_n 2, 1) := by decide +kernel
theorem dX3_sumOfClaims_26 : decode cX3_sumOfClaims 26 = .ok (.ireturn, 1) := by decide +kernel
theorem hy_X3_sumOfClaims : yX3_sumOfClaims.cls ≠ "java/lang/invoke/MethodHandle" ∧ yX3_sumOfClaims.cls ≠ "java/lang/invoke/VarHandle" ∧ (parseMethodDescriptor yX3_sumOfClaims.desc).map (fun d => d.parameters.length) = some 1 := ⟨by decide +kernel, by decide +kernel, by decide +kernel⟩
set_option maxHeartbeats 4000000 in
set_option maxRecDepth 100000 in
theorem lp_X3_sumOfClaims {E : zE} {l0 : Launch} {D0 : va_G} {cI0 cJ0 : ClassId} {ad : Nat → Nat → Nat} (hE : zG E l0 D0 cI0 cJ0 ad cX3_sumOfClaims 4 RX3 1 22) (S : zM) (r : Nat) (hr : r < 5) (o : Int) (h0 : 0 ≤ o ∧ o < 20) (hR : zR E (some .int) (some (.int (i32 (sm (fun k => S r (65 + 22 * o + k)) 12)))) (fun X => X = S)) : ∀ (fuel : Nat) (i : Int) (h9 : 0 ≤ i ∧ i ≤ 12), (12 - i).toNat < fuel → Z E S 4 [(3, .int (i32 i)), (2, .int (i32 (sm (fun k => S r (65 + 22 * o + k)) i))), (0, .ref (ad r 8)), (1, .int (i32 o))] [] := by
  intro fuel
  induction fuel with
  | zero => intro _ _ hz; omega
  | succ fuel ih =>
    intro i h9 hz
    refine z_iload_n hE 0 rfl rfl dX3_sumOfClaims_4 ?_
    refine z_bipush (a := 12) hE (by decide) dX3_sumOfClaims_5 ?_
    refine z_icmp_ge (tgt := 25) hE dX3_sumOfClaims_7 (by decide) ⟨by omega, by omega⟩ ⟨by omega, by omega⟩ (fun c1 => ?_) (fun c1 => ?_)
    · refine z_iload_n hE 1 rfl rfl dX3_sumOfClaims_25 ?_
      exact z_iret hE hR dX3_sumOfClaims_26 (congrArg (fun x => some (Value.int (i32 x))) (by rw [show i = 12 by omega])) (by first | rfl | (simp only [us_id]))
    · refine z_iload_n hE 1 rfl rfl dX3_sumOfClaims_10 ?_
      refine z_aload_n hE 2 rfl rfl dX3_sumOfClaims_11 ?_
      refine z_iload_n hE 3 rfl rfl dX3_sumOfClaims_12 ?_
      refine z_iload_n hE 0 rfl rfl dX3_sumOfClaims_13 ?_
      refine z_callV hE (c_X3_claimBy l0 D0 cI0 cJ0 ad S r hr o i (by omega) (by omega)) (ks_m hr (by decide)) rfl rfl zm_X3_57 zi_yX3_claimBy zs_yX3_claimBy zn_RX3 zc_yX3_claimBy (hy_X3_claimBy) (Nat.le_of_ble_eq_true rfl) (Nat.le_of_ble_eq_true rfl) rfl rfl rfl (Nat.le_of_ble_eq_true rfl) dX3_sumOfClaims_14 ?_
      refine z_iadd hE dX3_sumOfClaims_17 ?_
      refine z_istore_n hE rfl (by decide) rfl dX3_sumOfClaims_18 ?_
      refine z_iinc hE 1 rfl (by decide) rfl dX3_sumOfClaims_19 ?_
      refine z_goto (tgt := 4) hE (d := dX3_sumOfClaims_22) (ht := by decide) ?_
      refine z_L (L' := [(3, .int (i32 (i + 1))), (2, .int (i32 (sm (fun k => S r (65 + 22 * o + k)) (i + 1)))), (0, .ref (ad r 8)), (1, .int (i32 o))]) [0, 1, 2, 3] (by rw [show sm (fun k => S r (65 + 22 * o + k)) (i + 1) = (sm (fun k => S r (65 + 22 * o + k)) i) + ((S r) (65 + 22 * o + i)) from by first | rfl | (exact sm_s h9.1)]; rfl) ?_
      exact ih (i + 1) ⟨by omega, by omega⟩ (by omega)
set_option maxHeartbeats 4000000 in
set_option maxRecDepth 100000 in
theorem c_X3_sumOfClaims (l0 : Launch) (D0 : va_G) (cI0 cJ0 : ClassId) (ad : Nat → Nat → Nat) (S : zM) (r : Nat) (hr : r < 5) (o : Int) (h0 : 0 ≤ o ∧ o < 20) : Ct l0 D0 cI0 cJ0 ad yX3_sumOfClaims cX3_sumOfClaims 4 (some .int) 1 22 [.ref (ad r 8), .int (i32 o)] S (some (.int (i32 (sm (fun k => S r (65 + 22 * o + k)) 12)))) (fun X => X = S) := by
  refine Ct.of (by decide) (Nat.le_of_ble_eq_true rfl) (fun E hE hR => ?_)
  have hE : zG E l0 D0 cI0 cJ0 ad cX3_sumOfClaims 4 RX3 1 22 := hE
  show Z E S 0 [(0, .ref (ad r 8)), (1, .int (i32 o))] []
  refine z_iconst hE dX3_sumOfClaims_0 ?_
  refine z_istore_n hE rfl (by decide) rfl dX3_sumOfClaims_1 ?_
  refine z_iconst hE dX3_sumOfClaims_2 ?_
  refine z_istore_n hE rfl (by decide) rfl dX3_sumOfClaims_3 ?_
  refine z_L (L' := [(3, .int (i32 0)), (2, .int (i32 (sm (fun k => S r (65 + 22 * o + k)) 0))), (0, .ref (ad r 8)), (1, .int (i32 o))]) [0, 1, 2, 3] (by rw [show sm (fun k => S r (65 + 22 * o + k)) 0 = 0 from by first | rfl | (exact sm_0 _)]; rfl) ?_
  exact lp_X3_sumOfClaims hE S r hr o h0 hR 13 0 ⟨by omega, by omega⟩ (by omega)
theorem dX3_beginStage_0 : decode cX3_beginStage 0 = .ok (.aload_n 0, 1) := by decide +kernel
theorem dX3_beginStage_1 : decode cX3_beginStage 1 = .ok (.getfield 28, 3) := by decide +kernel
theorem dX3_beginStage_4 : decode cX3_beginStage 4 = .ok (.iload_n 1, 1) := by decide +kernel
theorem dX3_beginStage_5 : decode cX3_beginStage 5 = .ok (.iload_n 2, 1) := by decide +kernel
theorem dX3_beginStage_6 : decode cX3_beginStage 6 = .ok (.iastore, 1) := by decide +kernel
theorem dX3_beginStage_7 : decode cX3_beginStage 7 = .ok (.aload_n 0, 1) := by decide +kernel
theorem dX3_beginStage_8 : decode cX3_beginStage 8 = .ok (.getfield 31, 3) := by decide +kernel
theorem dX3_beginStage_11 : decode cX3_beginStage 11 = .ok (.iload_n 1, 1) := by decide +kernel
theorem dX3_beginStage_12 : decode cX3_beginStage 12 = .ok (.iload_n 3, 1) := by decide +kernel
theorem dX3_beginStage_13 : decode cX3_beginStage 13 = .ok (.iastore, 1) := by decide +kernel
theorem dX3_beginStage_14 : decode cX3_beginStage 14 = .ok (.aload_n 0, 1) := by decide +kernel
theorem dX3_beginStage_15 : decode cX3_beginStage 15 = .ok (.iload_n 1, 1) := by decide +kernel
theorem dX3_beginStage_16 : decode cX3_beginStage 16 = .ok (.invokevirtual 46, 3) := by decide +kernel
theorem dX3_beginStage_19 : decode cX3_beginStage 19 = .ok (.return_, 1) := by decide +kernel
theorem hy_X3_beginStage : yX3_beginStage.cls ≠ "java/lang/invoke/MethodHandle" ∧ yX3_beginStage.cls ≠ "java/lang/invoke/VarHandle" ∧ (parseMethodDescriptor yX3_beginStage.desc).map (fun d => d.parameters.length) = some 3 := ⟨by decide +kernel, by decide +kernel, by decide +kernel⟩
set_option maxHeartbeats 4000000 in
set_option maxRecDepth 100000 in
theorem c_X3_beginStage (l0 : Launch) (D0 : va_G) (cI0 cJ0 : ClassId) (ad : Nat → Nat → Nat) (S : zM) (r : Nat) (hr : r < 5) (o : Int) (st : Int) (len : Int) (h0 : 0 ≤ o ∧ o < 20) : Ct l0 D0 cI0 cJ0 ad yX3_beginStage cX3_beginStage 4 none 2 45 [.ref (ad r 8), .int (i32 o), .int (i32 st), .int (i32 len)] S none (fun X => X = (us S r (sp_begin (S r) o st len))) := by
  refine Ct.of (by decide) (Nat.le_of_ble_eq_true rfl) (fun E hE hR => ?_)
  have hE : zG E l0 D0 cI0 cJ0 ad cX3_beginStage 4 RX3 2 45 := hE
  show Z E S 0 [(0, .ref (ad r 8)), (1, .int (i32 o)), (2, .int (i32 st)), (3, .int (i32 len))] []
  refine z_aload_n hE 0 rfl rfl dX3_beginStage_0 ?_
  refine gf_3_5 hE (ks_m hr (by decide)) zf_X3_28 dX3_beginStage_1 ?_
  refine z_iload_n hE 1 rfl rfl dX3_beginStage_4 ?_
  refine z_iload_n hE 2 rfl rfl dX3_beginStage_5 ?_
  refine as_13 hE (ks_m hr (by decide)) (by omega) (by omega) dX3_beginStage_6 ?_
  refine z_aload_n hE 0 rfl rfl dX3_beginStage_7 ?_
  refine gf_3_6 hE (ks_m hr (by decide)) zf_X3_31 dX3_beginStage_8 ?_
  refine z_iload_n hE 1 rfl rfl dX3_beginStage_11 ?_
  refine z_iload_n hE 3 rfl rfl dX3_beginStage_12 ?_
  refine as_14 hE (ks_m hr (by decide)) (by omega) (by omega) dX3_beginStage_13 ?_
  try simp only [us_eq, us_us]
  refine z_aload_n hE 0 rfl rfl dX3_beginStage_14 ?_
  refine z_iload_n hE 1 rfl rfl dX3_beginStage_15 ?_
  refine z_callV hE (c_X3_clearClaims l0 D0 cI0 cJ0 ad (us S r (up (up (S r) (59 + 22 * o) st) (645 + o) len)) r hr o (by omega)) (ks_m hr (by decide)) rfl rfl zm_X3_46 zi_yX3_clearClaims zs_yX3_clearClaims zn_RX3 zc_yX3_clearClaims (hy_X3_clearClaims) (Nat.le_of_ble_eq_true rfl) (Nat.le_of_ble_eq_true rfl) rfl rfl rfl (Nat.le_of_ble_eq_true rfl) dX3_beginStage_16 ?_
  try simp only [us_eq, us_us]
  refine z_memA hE hr (g := sp_begin (S r) o st len) (fun q hq => ?_) ?_
  · have h1 : q ≠ 60 + 22 * o := fun e => hq (by rw [e, kyA_2 (by omega) (by omega), if_neg (by omega), if_neg (by omega), if_pos (by omega)])
    unfold clr sp_begin up; (repeat' split) <;> first | rfl | omega
  exact z_vret hE hR dX3_beginStage_19 rfl (by first | rfl | (simp only [us_id]))
theorem dX3_close_0 : decode cX3_close 0 = .ok (.aload_n 0, 1) := by decide +kernel
theorem dX3_close_1 : decode cX3_close 1 = .ok (.iload_n 1, 1) := by decide +kernel
theorem dX3_close_2 : decode cX3_close 2 = .ok (.iconst 3, 1) := by decide +kernel
theorem dX3_close_3 : decode cX3_close 3 = .ok (.iconst 0, 1) := by decide +kernel
theorem dX3_close_4 : decode cX3_close 4 = .ok (.invokevirtual 50, 3) := by decide +kernel
theorem dX3_close_7 : decode cX3_close 7 = .ok (.return_, 1) := by decide +kernel
theorem hy_X3_close : yX3_close.cls ≠ "java/lang/invoke/MethodHandle" ∧ yX3_close.cls ≠ "java/lang/invoke/VarHandle" ∧ (parseMethodDescriptor yX3_close.desc).map (fun d => d.parameters.length) = some 1 := ⟨by decide +kernel, by decide +kernel, by decide +kernel⟩
set_option maxHeartbeats 4000000 in
set_option maxRecDepth 100000 in
theorem c_X3_close (l0 : Launch) (D0 : va_G) (cI0 cJ0 : ClassId) (ad : Nat → Nat → Nat) (S : zM) (r : Nat) (hr : r < 5) (o : Int) (h0 : 0 ≤ o ∧ o < 20) : Ct l0 D0 cI0 cJ0 ad yX3_close cX3_close 2 none 3 68 [.ref (ad r 8), .int (i32 o)] S none (fun X => X = (us S r (sp_begin (S r) o 3 0))) := by
  refine Ct.of (by decide) (Nat.le_of_ble_eq_true rfl) (fun E hE hR => ?_)
  have hE : zG E l0 D0 cI0 cJ0 ad cX3_close 2 RX3 3 68 := hE
  show Z E S 0 [(0, .ref (ad r 8)), (1, .int (i32 o))] []
  refine z_aload_n hE 0 rfl rfl dX3_close_0 ?_
  refine z_iload_n hE 1 rfl rfl dX3_close_1 ?_
  refine z_iconst hE dX3_close_2 ?_
  refine z_iconst hE dX3_close_3 ?_
  refine z_callV hE (c_X3_beginStage l0 D0 cI0 cJ0 ad S r hr o 3 0 (by omega)) (ks_m hr (by decide)) rfl rfl zm_X3_50 zi_yX3_beginStage zs_yX3_beginStage zn_RX3 zc_yX3_beginStage (hy_X3_beginStage) (Nat.le_of_ble_eq_true rfl) (Nat.le_of_ble_eq_true rfl) rfl rfl rfl (Nat.le_of_ble_eq_true rfl) dX3_close_4 ?_
  exact z_vret hE hR dX3_close_7 rfl (by first | rfl | (simp only [us_id]))
theorem dX3_losesLastDay_0 : decode cX3_losesLastDay 0 = .ok (.aload_n 0, 1) := by decide +kernel
theorem dX3_losesLastDay_1 : decode cX3_losesLastDay 1 = .ok (.getfield 31, 3) := by decide +kernel
theorem dX3_losesLastDay_4 : decode cX3_losesLastDay 4 = .ok (.iload_n 1, 1) := by decide +kernel
theorem dX3_losesLastDay_5 : decode cX3_losesLastDay 5 = .ok (.dup2, 1) := by decide +kernel
theorem dX3_losesLastDay_6 : decode cX3_losesLastDay 6 = .ok (.iaload, 1) := by decide +kernel
theorem dX3_losesLastDay_7 : decode cX3_losesLastDay 7 = .ok (.iconst 1, 1) := by decide +kernel
theorem dX3_losesLastDay_8 : decode cX3_losesLastDay 8 = .ok (.isub, 1) := by decide +kernel
theorem dX3_losesLastDay_9 : decode cX3_losesLastDay 9 = .ok (.iastore, 1) := by decide +kernel
theorem dX3_losesLastDay_10 : decode cX3_losesLastDay 10 = .ok (.aload_n 0, 1) := by decide +kernel
theorem dX3_losesLastDay_11 : decode cX3_losesLastDay 11 = .ok (.getfield 31, 3) := by decide +kernel
theorem dX3_losesLastDay_14 : decode cX3_losesLastDay 14 = .ok (.iload_n 1, 1) := by decide +kernel
theorem dX3_losesLastDay_15 : decode cX3_losesLastDay 15 = .ok (.iaload, 1) := by decide +kernel
theorem dX3_losesLastDay_16 : decode cX3_losesLastDay 16 = .ok (.ifCond .gt 7, 3) := by decide +kernel
theorem dX3_losesLastDay_19 : decode cX3_losesLastDay 19 = .ok (.iconst 1, 1) := by decide +kernel
theorem dX3_losesLastDay_20 : decode cX3_losesLastDay 20 = .ok (.goto 4, 3) := by decide +kernel
theorem dX3_losesLastDay_23 : decode cX3_losesLastDay 23 = .ok (.iconst 0, 1) := by decide +kernel
theorem dX3_losesLastDay_24 : decode cX3_losesLastDay 24 = .ok (.ireturn, 1) := by decide +kernel
theorem hy_X3_losesLastDay : yX3_losesLastDay.cls ≠ "java/lang/invoke/MethodHandle" ∧ yX3_losesLastDay.cls ≠ "java/lang/invoke/VarHandle" ∧ (parseMethodDescriptor yX3_losesLastDay.desc).map (fun d => d.parameters.length) = some 1 := ⟨by decide +kernel, by decide +kernel, by decide +kernel⟩
set_option maxHeartbeats 4000000 in
set_option maxRecDepth 100000 in
theorem c_X3_losesLastDay (l0 : Launch) (D0 : va_G) (cI0 cJ0 : ClassId) (ad : Nat → Nat → Nat) (S : zM) (r : Nat) (hr : r < 5) (o : Int) (h0 : 0 ≤ o ∧ o < 20) (h1 : -10 ≤ S r (645 + o) ∧ S r (645 + o) ≤ 10) : Ct l0 D0 cI0 cJ0 ad yX3_losesLastDay cX3_losesLastDay 2 (some .boolean) 0 0 [.ref (ad r 8), .int (i32 o)] S (some (.int (i32 (zbo (S r (645 + o) - 1 ≤ 0))))) (fun X => X = (us S r (sp_tick (S r) o))) := by
  refine Ct.of (by decide) (Nat.le_of_ble_eq_true rfl) (fun E hE hR => ?_)
  have hE : zG E l0 D0 cI0 cJ0 ad cX3_losesLastDay 2 RX3 0 0 := hE
  show Z E S 0 [(0, .ref (ad r 8)), (1, .int (i32 o))] []
  refine z_aload_n hE 0 rfl rfl dX3_losesLastDay_0 ?_
  refine gf_3_6 hE (ks_m hr (by decide)) zf_X3_31 dX3_losesLastDay_1 ?_
  refine z_iload_n hE 1 rfl rfl dX3_losesLastDay_4 ?_
  refine z_dup2 hE rfl rfl dX3_losesLastDay_5 ?_
  refine al_14 hE (ks_m hr (by decide)) (by omega) (by omega) dX3_losesLastDay_6 ?_
  refine z_iconst hE dX3_losesLastDay_7 ?_
  refine z_isub hE dX3_losesLastDay_8 ?_
  refine as_14 hE (ks_m hr (by decide)) (by omega) (by omega) dX3_losesLastDay_9 ?_
  refine z_aload_n hE 0 rfl rfl dX3_losesLastDay_10 ?_
  refine gf_3_6 hE (ks_m hr (by decide)) zf_X3_31 dX3_losesLastDay_11 ?_
  refine z_iload_n hE 1 rfl rfl dX3_losesLastDay_14 ?_
  refine al_14 hE (ks_m hr (by decide)) (by omega) (by omega) dX3_losesLastDay_15 ?_
  try simp only [us_eq, us_us]
  rw [up_eq]
  refine z_if_gt (tgt := 23) hE dX3_losesLastDay_16 (by decide) ⟨by omega, by omega⟩ (fun c1 => ?_) (fun c1 => ?_)
  · refine z_iconst hE dX3_losesLastDay_23 ?_
    refine z_memA hE hr (g := sp_tick (S r) o) (fun q hq => ?_) ?_
    · have h1 : q ≠ 60 + 22 * o := fun e => hq (by rw [e, kyA_2 (by omega) (by omega), if_neg (by omega), if_neg (by omega), if_pos (by omega)])
      unfold sp_tick; rw [uq_ne h1]; unfold uq; rw [Int.sub_eq_add_neg]
    exact z_zret hE hR dX3_losesLastDay_24 (by decide) (congrArg (fun x => some (Value.int (i32 x))) (by first | rfl | (unfold zbo; first | rw [if_pos (by omega)] | rw [if_neg (by omega)]))) (by rfl)
  · refine z_iconst hE dX3_losesLastDay_19 ?_
    refine z_goto (tgt := 24) hE (d := dX3_losesLastDay_20) (ht := by decide) ?_
    refine z_memA hE hr (g := sp_tick (S r) o) (fun q hq => ?_) ?_
    · have h1 : q ≠ 60 + 22 * o := fun e => hq (by rw [e, kyA_2 (by omega) (by omega), if_neg (by omega), if_neg (by omega), if_pos (by omega)])
      unfold sp_tick; rw [uq_ne h1]; unfold uq; rw [Int.sub_eq_add_neg]
    exact z_zret hE hR dX3_losesLastDay_24 (by decide) (congrArg (fun x => some (Value.int (i32 x))) (by first | rfl | (unfold zbo; first | rw [if_pos (by omega)] | rw [if_neg (by omega)]))) (by rfl)
theorem dX3_recordSale_0 : decode cX3_recordSale 0 = .ok (.aload_n 0, 1) := by decide +kernel
theorem dX3_recordSale_1 : decode cX3_recordSale 1 = .ok (.getfield 25, 3) := by decide +kernel
theorem dX3_recordSale_4 : decode cX3_recordSale 4 = .ok (.iload_n 1, 1) := by decide +kernel
theorem dX3_recordSale_5 : decode cX3_recordSale 5 = .ok (.dup2, 1) := by decide +kernel
theorem dX3_recordSale_6 : decode cX3_recordSale 6 = .ok (.iaload, 1) := by decide +kernel
theorem dX3_recordSale_7 : decode cX3_recordSale 7 = .ok (.iload_n 3, 1) := by decide +kernel
theorem dX3_recordSale_8 : decode cX3_recordSale 8 = .ok (.isub, 1) := by decide +kernel
theorem dX3_recordSale_9 : decode cX3_recordSale 9 = .ok (.iastore, 1) := by decide +kernel
theorem dX3_recordSale_10 : decode cX3_recordSale 10 = .ok (.aload_n 0, 1) := by decide +kernel
theorem dX3_recordSale_11 : decode cX3_recordSale 11 = .ok (.getfield 34, 3) := by decide +kernel
theorem dX3_recordSale_14 : decode cX3_recordSale 14 = .ok (.iload_n 1, 1) := by decide +kernel
theorem dX3_recordSale_15 : decode cX3_recordSale 15 = .ok (.iconst 4, 1) := by decide +kernel
theorem dX3_recordSale_16 : decode cX3_recordSale 16 = .ok (.imul, 1) := by decide +kernel
theorem dX3_recordSale_17 : decode cX3_recordSale 17 = .ok (.iload_n 2, 1) := by decide +kernel
theorem dX3_recordSale_18 : decode cX3_recordSale 18 = .ok (.iadd, 1) := by decide +kernel
theorem dX3_recordSale_19 : decode cX3_recordSale 19 = .ok (.dup2, 1) := by decide +kernel
theorem dX3_recordSale_20 : decode cX3_recordSale 20 = .ok (.iaload, 1) := by decide +kernel
theorem dX3_recordSale_21 : decode cX3_recordSale 21 = .ok (.iload_n 3, 1) := by decide +kernel
theorem dX3_recordSale_22 : decode cX3_recordSale 22 = .ok (.iadd, 1) := by decide +kernel
theorem dX3_recordSale_23 : decode cX3_recordSale 23 = .ok (.iastore, 1) := by decide +kernel
theorem dX3_recordSale_24 : decode cX3_recordSale 24 = .ok (.return_, 1) := by decide +kernel
theorem hy_X3_recordSale : yX3_recordSale.cls ≠ "java/lang/invoke/MethodHandle" ∧ yX3_recordSale.cls ≠ "java/lang/invoke/VarHandle" ∧ (parseMethodDescriptor yX3_recordSale.desc).map (fun d => d.parameters.length) = some 3 := ⟨by decide +kernel, by decide +kernel, by decide +kernel⟩
set_option maxHeartbeats 4000000 in
set_option maxRecDepth 100000 in
theorem c_X3_recordSale (l0 : Launch) (D0 : va_G) (cI0 cJ0 : ClassId) (ad : Nat → Nat → Nat) (S : zM) (r : Nat) (hr : r < 5) (o : Int) (w : Int) (n : Int) (h0 : 0 ≤ o ∧ o < 20) (h1 : 0 ≤ w ∧ w < 4) : Ct l0 D0 cI0 cJ0 ad yX3_recordSale cX3_recordSale 4 none 0 0 [.ref (ad r 8), .int (i32 o), .int (i32 w), .int (i32 n)] S none (fun X => X = (us S r (uq (uq (S r) (57 + 22 * o) (-n)) (61 + 22 * o + w) n))) := by
  refine Ct.of (by decide) (Nat.le_of_ble_eq_true rfl) (fun E hE hR => ?_)
  have hE : zG E l0 D0 cI0 cJ0 ad cX3_recordSale 4 RX3 0 0 := hE
  show Z E S 0 [(0, .ref (ad r 8)), (1, .int (i32 o)), (2, .int (i32 w)), (3, .int (i32 n))] []
  refine z_aload_n hE 0 rfl rfl dX3_recordSale_0 ?_
  refine gf_3_4 hE (ks_m hr (by decide)) zf_X3_25 dX3_recordSale_1 ?_
  refine z_iload_n hE 1 rfl rfl dX3_recordSale_4 ?_
  refine z_dup2 hE rfl rfl dX3_recordSale_5 ?_
  refine al_12 hE (ks_m hr (by decide)) (by omega) (by omega) dX3_recordSale_6 ?_
  refine z_iload_n hE 3 rfl rfl dX3_recordSale_7 ?_
  refine z_isub hE dX3_recordSale_8 ?_
  refine as_12 hE (ks_m hr (by decide)) (by omega) (by omega) dX3_recordSale_9 ?_
  refine z_aload_n hE 0 rfl rfl dX3_recordSale_10 ?_
  refine gf_3_7 hE (ks_m hr (by decide)) zf_X3_34 dX3_recordSale_11 ?_
  refine z_iload_n hE 1 rfl rfl dX3_recordSale_14 ?_
  refine z_iconst hE dX3_recordSale_15 ?_
  refine z_imul hE dX3_recordSale_16 ?_
  refine z_iload_n hE 2 rfl rfl dX3_recordSale_17 ?_
  refine z_iadd hE dX3_recordSale_18 ?_
  refine z_dup2 hE rfl rfl dX3_recordSale_19 ?_
  refine al_15 hE (61 + 22 * o + w) (ks_m hr (by decide)) (by omega) (by omega) (by unfold ofS; omega) dX3_recordSale_20 ?_
  try simp only [us_eq, us_us]
  rw [up_ne (show 61 + 22 * o + w ≠ 57 + 22 * o by omega)]
  refine z_iload_n hE 3 rfl rfl dX3_recordSale_21 ?_
  refine z_iadd hE dX3_recordSale_22 ?_
  refine as_15 hE (61 + 22 * o + w) (ks_m hr (by decide)) (by omega) (by omega) (by unfold ofS; omega) dX3_recordSale_23 ?_
  try simp only [us_eq, us_us]
  exact z_vret hE hR dX3_recordSale_24 rfl (by rw [uq_sub, uq_two (by omega)])
theorem dX3_remainingOf_0 : decode cX3_remainingOf 0 = .ok (.iconst 0, 1) := by decide +kernel
theorem dX3_remainingOf_1 : decode cX3_remainingOf 1 = .ok (.istore_n 2, 1) := by decide +kernel
theorem dX3_remainingOf_2 : decode cX3_remainingOf 2 = .ok (.iconst 0, 1) := by decide +kernel
theorem dX3_remainingOf_3 : decode cX3_remainingOf 3 = .ok (.istore_n 3, 1) := by decide +kernel
theorem dX3_remainingOf_4 : decode cX3_remainingOf 4 = .ok (.iload_n 3, 1) := by decide +kernel
theorem dX3_remainingOf_5 : decode cX3_remainingOf 5 = .ok (.aload_n 0, 1) := by decide +kernel
theorem dX3_remainingOf_6 : decode cX3_remainingOf 6 = .ok (.getfield 9, 3) := by decide +kernel
theorem dX3_remainingOf_9 : decode cX3_remainingOf 9 = .ok (.if_icmp .ge 36, 3) := by decide +kernel
theorem dX3_remainingOf_12 : decode cX3_remainingOf 12 = .ok (.aload_n 0, 1) := by decide +kernel
theorem dX3_remainingOf_13 : decode cX3_remainingOf 13 = .ok (.iload_n 3, 1) := by decide +kernel
theorem dX3_remainingOf_14 : decode cX3_remainingOf 14 = .ok (.invokevirtual 61, 3) := by decide +kernel
theorem dX3_remainingOf_17 : decode cX3_remainingOf 17 = .ok (.ifCond .eq 22, 3) := by decide +kernel
theorem dX3_remainingOf_20 : decode cX3_remainingOf 20 = .ok (.aload_n 0, 1) := by decide +kernel
theorem dX3_remainingOf_21 : decode cX3_remainingOf 21 = .ok (.getfield 15, 3) := by decide +kernel
theorem dX3_remainingOf_24 : decode cX3_remainingOf 24 = .ok (.iload_n 3, 1) := by decide +kernel
theorem dX3_remainingOf_25 : decode cX3_remainingOf 25 = .ok (.iaload, 1) := by decide +kernel
theorem dX3_remainingOf_26 : decode cX3_remainingOf 26 = .ok (.iload_n 1, 1) := by decide +kernel
theorem dX3_remainingOf_27 : decode cX3_remainingOf 27 = .ok (.if_icmp .ne 12, 3) := by decide +kernel
theorem dX3_remainingOf_30 : decode cX3_remainingOf 30 = .ok (.iload_n 2, 1) := by decide +kernel
theorem dX3_remainingOf_31 : decode cX3_remainingOf 31 = .ok (.aload_n 0, 1) := by decide +kernel
theorem dX3_remainingOf_32 : decode cX3_remainingOf 32 = .ok (.getfield 25, 3) := by decide +kernel
theorem dX3_remainingOf_35 : decode cX3_remainingOf 35 = .ok (.iload_n 3, 1) := by decide +kernel
theorem dX3_remainingOf_36 : decode cX3_remainingOf 36 = .ok (.iaload, 1) := by decide +kernel
theorem dX3_remainingOf_37 : decode cX3_remainingOf 37 = .ok (.iadd, 1) := by decide +kernel
theorem dX3_remainingOf_38 : decode cX3_remainingOf 38 = .ok (.istore_n 2, 1) := by decide +kernel
theorem dX3_remainingOf_39 : decode cX3_remainingOf 39 = .ok (.iinc 3 1, 3) := by decide +kernel
theorem dX3_remainingOf_42 : decode cX3_remainingOf 42 = .ok (.goto (-38), 3) := by decide +kernel
theorem dX3_remainingOf_45 : decode cX3_remainingOf 45 = .ok (.iload_n 2, 1) := by decide +kernel
theorem dX3_remainingOf_46 : decode cX3_remainingOf 46 = .ok (.ireturn, 1) := by decide +kernel
theorem hy_X3_remainingOf : yX3_remainingOf.cls ≠ "java/lang/invoke/MethodHandle" ∧ yX3_remainingOf.cls ≠ "java/lang/invoke/VarHandle" ∧ (parseMethodDescriptor yX3_remainingOf.desc).map (fun d => d.parameters.length) = some 1 := ⟨by decide +kernel, by decide +kernel, by decide +kernel⟩
set_option maxHeartbeats 4000000 in
set_option maxRecDepth 100000 in
theorem lp_X3_remainingOf {E : zE} {l0 : Launch} {D0 : va_G} {cI0 cJ0 : ClassId} {ad : Nat → Nat → Nat} (hE : zG E l0 D0 cI0 cJ0 ad cX3_remainingOf 4 RX3 1 21) (S : zM) (r : Nat) (hr : r < 5) (m : Int) (h0 : 0 ≤ m ∧ m < 12) (h1 : 0 ≤ S r 14 ∧ S r 14 ≤ 20) (ho : ∀ k : Int, 0 ≤ k → k < S r 14 → 0 ≤ S r (59 + 22 * k) ∧ S r (59 + 22 * k) ≤ 3 ∧ 0 ≤ S r (55 + 22 * k) ∧ S r (55 + 22 * k) ≤ 12) (hR : zR E (some .int) (some (.int (i32 (sp_rem (S r) m)))) (fun X => X = S)) : ∀ (fuel : Nat) (i : Int) (h9 : 0 ≤ i ∧ i ≤ S r 14), (S r 14 - i).toNat < fuel → Z E S 4 [(3, .int (i32 i)), (2, .int (i32 (sm (sp_ro (S r) m) i))), (0, .ref (ad r 8)), (1, .int (i32 m))] [] := by
  intro fuel
  induction fuel with
  | zero => intro _ _ hz; omega
  | succ fuel ih =>
    intro i h9 hz
    refine z_iload_n hE 0 rfl rfl dX3_remainingOf_4 ?_
    refine z_aload_n hE 2 rfl rfl dX3_remainingOf_5 ?_
    refine gf_3_0 hE (ks_m hr (by decide)) zf_X3_9 dX3_remainingOf_6 ?_
    refine z_icmp_ge (tgt := 45) hE dX3_remainingOf_9 (by decide) ⟨by omega, by omega⟩ ⟨by omega, by omega⟩ (fun c1 => ?_) (fun c1 => ?_)
    · refine z_iload_n hE 1 rfl rfl dX3_remainingOf_45 ?_
      exact z_iret hE hR dX3_remainingOf_46 (congrArg (fun x => some (Value.int (i32 x))) (by unfold sp_rem; rw [show i = S r 14 by omega])) (by first | rfl | (simp only [us_id]))
    · have h8 := ho i (by omega) (by omega)
      refine z_aload_n hE 2 rfl rfl dX3_remainingOf_12 ?_
      refine z_iload_n hE 0 rfl rfl dX3_remainingOf_13 ?_
      refine z_callV hE (c_X3_isOpen l0 D0 cI0 cJ0 ad S r hr i (by omega) (by omega)) (ks_m hr (by decide)) rfl rfl zm_X3_61 zi_yX3_isOpen zs_yX3_isOpen zn_RX3 zc_yX3_isOpen (hy_X3_isOpen) (Nat.le_of_ble_eq_true rfl) (Nat.le_of_ble_eq_true rfl) rfl rfl rfl (Nat.le_of_ble_eq_true rfl) dX3_remainingOf_14 ?_
      refine z_ifb_eq (tgt := 39) hE dX3_remainingOf_17 (by decide) (fun c2 => ?_) (fun c2 => ?_)
      · refine z_iinc hE 0 rfl (by decide) rfl dX3_remainingOf_39 ?_
        refine z_goto (tgt := 4) hE (d := dX3_remainingOf_42) (ht := by decide) ?_
        refine z_L (L' := [(3, .int (i32 (i + 1))), (2, .int (i32 (sm (sp_ro (S r) m) (i + 1)))), (0, .ref (ad r 8)), (1, .int (i32 m))]) [0, 1, 2, 3] (by rw [show sm (sp_ro (S r) m) (i + 1) = sm (sp_ro (S r) m) i from by first | rfl | ((rw [sm_s h9.1]; unfold sp_ro; first | rw [if_pos ⟨by omega, by omega⟩] | (rw [if_neg (by omega)]; omega)))]; rfl) ?_
        exact ih (i + 1) ⟨by omega, by omega⟩ (by omega)
      · refine z_aload_n hE 2 rfl rfl dX3_remainingOf_20 ?_
        refine gf_3_1 hE (ks_m hr (by decide)) zf_X3_15 dX3_remainingOf_21 ?_
        refine z_iload_n hE 0 rfl rfl dX3_remainingOf_24 ?_
        refine al_9 hE (ks_m hr (by decide)) (by omega) (by omega) dX3_remainingOf_25 ?_
        refine z_iload_n hE 3 rfl rfl dX3_remainingOf_26 ?_
        refine z_icmp_ne (tgt := 39) hE dX3_remainingOf_27 (by decide) ⟨by omega, by omega⟩ ⟨by omega, by omega⟩ (fun c3 => ?_) (fun c3 => ?_)
        · refine z_iinc hE 0 rfl (by decide) rfl dX3_remainingOf_39 ?_
          refine z_goto (tgt := 4) hE (d := dX3_remainingOf_42) (ht := by decide) ?_
          refine z_L (L' := [(3, .int (i32 (i + 1))), (2, .int (i32 (sm (sp_ro (S r) m) (i + 1)))), (0, .ref (ad r 8)), (1, .int (i32 m))]) [0, 1, 2, 3] (by rw [show sm (sp_ro (S r) m) (i + 1) = sm (sp_ro (S r) m) i from by first | rfl | ((rw [sm_s h9.1]; unfold sp_ro; first | rw [if_pos ⟨by omega, by omega⟩] | (rw [if_neg (by omega)]; omega)))]; rfl) ?_
          exact ih (i + 1) ⟨by omega, by omega⟩ (by omega)
        · refine z_iload_n hE 1 rfl rfl dX3_remainingOf_30 ?_
          refine z_aload_n hE 2 rfl rfl dX3_remainingOf_31 ?_
          refine gf_3_4 hE (ks_m hr (by decide)) zf_X3_25 dX3_remainingOf_32 ?_
          refine z_iload_n hE 0 rfl rfl dX3_remainingOf_35 ?_
          refine al_12 hE (ks_m hr (by decide)) (by omega) (by omega) dX3_remainingOf_36 ?_
          refine z_iadd hE dX3_remainingOf_37 ?_
          refine z_istore_n hE rfl (by decide) rfl dX3_remainingOf_38 ?_
          refine z_iinc hE 1 rfl (by decide) rfl dX3_remainingOf_39 ?_
          refine z_goto (tgt := 4) hE (d := dX3_remainingOf_42) (ht := by decide) ?_
          refine z_L (L' := [(3, .int (i32 (i + 1))), (2, .int (i32 (sm (sp_ro (S r) m) (i + 1)))), (0, .ref (ad r 8)), (1, .int (i32 m))]) [0, 1, 2, 3] (by rw [show sm (sp_ro (S r) m) (i + 1) = (sm (sp_ro (S r) m) i) + (S r (57 + 22 * i)) from by first | rfl | ((rw [sm_s h9.1]; unfold sp_ro; first | rw [if_pos ⟨by omega, by omega⟩] | (rw [if_neg (by omega)]; omega)))]; rfl) ?_
          exact ih (i + 1) ⟨by omega, by omega⟩ (by omega)
set_option maxHeartbeats 4000000 in
set_option maxRecDepth 100000 in
theorem c_X3_remainingOf (l0 : Launch) (D0 : va_G) (cI0 cJ0 : ClassId) (ad : Nat → Nat → Nat) (S : zM) (r : Nat) (hr : r < 5) (m : Int) (h0 : 0 ≤ m ∧ m < 12) (h1 : 0 ≤ S r 14 ∧ S r 14 ≤ 20) (ho : ∀ k : Int, 0 ≤ k → k < S r 14 → 0 ≤ S r (59 + 22 * k) ∧ S r (59 + 22 * k) ≤ 3 ∧ 0 ≤ S r (55 + 22 * k) ∧ S r (55 + 22 * k) ≤ 12) : Ct l0 D0 cI0 cJ0 ad yX3_remainingOf cX3_remainingOf 4 (some .int) 1 21 [.ref (ad r 8), .int (i32 m)] S (some (.int (i32 (sp_rem (S r) m)))) (fun X => X = S) := by
  refine Ct.of (by decide) (Nat.le_of_ble_eq_true rfl) (fun E hE hR => ?_)
  have hE : zG E l0 D0 cI0 cJ0 ad cX3_remainingOf 4 RX3 1 21 := hE
  show Z E S 0 [(0, .ref (ad r 8)), (1, .int (i32 m))] []
  refine z_iconst hE dX3_remainingOf_0 ?_
  refine z_istore_n hE rfl (by decide) rfl dX3_remainingOf_1 ?_
  refine z_iconst hE dX3_remainingOf_2 ?_
  refine z_istore_n hE rfl (by decide) rfl dX3_remainingOf_3 ?_
  refine z_L (L' := [(3, .int (i32 0)), (2, .int (i32 (sm (sp_ro (S r) m) 0))), (0, .ref (ad r 8)), (1, .int (i32 m))]) [0, 1, 2, 3] (by rw [show sm (sp_ro (S r) m) 0 = 0 from by first | rfl | (exact sm_0 _)]; rfl) ?_
  exact lp_X3_remainingOf hE S r hr m h0 h1 ho hR 21 0 ⟨by omega, by omega⟩ (by omega)
theorem dX0_recordSurplus_0 : decode cX0_recordSurplus 0 = .ok (.aload_n 0, 1) := by decide +kernel
theorem dX0_recordSurplus_1 : decode cX0_recordSurplus 1 = .ok (.getfield 21, 3) := by decide +kernel
theorem dX0_recordSurplus_4 : decode cX0_recordSurplus 4 = .ok (.iconst 3, 1) := by decide +kernel
theorem dX0_recordSurplus_5 : decode cX0_recordSurplus 5 = .ok (.if_icmp .lt 22, 3) := by decide +kernel
theorem dX0_recordSurplus_8 : decode cX0_recordSurplus 8 = .ok (.aload_n 0, 1) := by decide +kernel
theorem dX0_recordSurplus_9 : decode cX0_recordSurplus 9 = .ok (.getfield 24, 3) := by decide +kernel
theorem dX0_recordSurplus_12 : decode cX0_recordSurplus 12 = .ok (.iconst 1, 1) := by decide +kernel
theorem dX0_recordSurplus_13 : decode cX0_recordSurplus 13 = .ok (.aload_n 0, 1) := by decide +kernel
theorem dX0_recordSurplus_14 : decode cX0_recordSurplus 14 = .ok (.getfield 24, 3) := by decide +kernel
theorem dX0_recordSurplus_17 : decode cX0_recordSurplus 17 = .ok (.iconst 0, 1) := by decide +kernel
theorem dX0_recordSurplus_18 : decode cX0_recordSurplus 18 = .ok (.iconst 2, 1) := by decide +kernel
theorem dX0_recordSurplus_19 : decode cX0_recordSurplus 19 = .ok (.invokestatic 28, 3) := by decide +kernel
theorem dX0_recordSurplus_22 : decode cX0_recordSurplus 22 = .ok (.aload_n 0, 1) := by decide +kernel
theorem dX0_recordSurplus_23 : decode cX0_recordSurplus 23 = .ok (.iconst 2, 1) := by decide +kernel
theorem dX0_recordSurplus_24 : decode cX0_recordSurplus 24 = .ok (.putfield 21, 3) := by decide +kernel
theorem dX0_recordSurplus_27 : decode cX0_recordSurplus 27 = .ok (.aload_n 0, 1) := by decide +kernel
theorem dX0_recordSurplus_28 : decode cX0_recordSurplus 28 = .ok (.getfield 24, 3) := by decide +kernel
theorem dX0_recordSurplus_31 : decode cX0_recordSurplus 31 = .ok (.aload_n 0, 1) := by decide +kernel
theorem dX0_recordSurplus_32 : decode cX0_recordSurplus 32 = .ok (.getfield 21, 3) := by decide +kernel
theorem dX0_recordSurplus_35 : decode cX0_recordSurplus 35 = .ok (.iload_n 1, 1) := by decide +kernel
theorem dX0_recordSurplus_36 : decode cX0_recordSurplus 36 = .ok (.iastore, 1) := by decide +kernel
theorem dX0_recordSurplus_37 : decode cX0_recordSurplus 37 = .ok (.aload_n 0, 1) := by decide +kernel
theorem dX0_recordSurplus_38 : decode cX0_recordSurplus 38 = .ok (.dup, 1) := by decide +kernel
theorem dX0_recordSurplus_39 : decode cX0_recordSurplus 39 = .ok (.getfield 21, 3) := by decide +kernel
theorem dX0_recordSurplus_42 : decode cX0_recordSurplus 42 = .ok (.iconst 1, 1) := by decide +kernel
theorem dX0_recordSurplus_43 : decode cX0_recordSurplus 43 = .ok (.iadd, 1) := by decide +kernel
theorem dX0_recordSurplus_44 : decode cX0_recordSurplus 44 = .ok (.putfield 21, 3) := by decide +kernel
theorem dX0_recordSurplus_47 : decode cX0_recordSurplus 47 = .ok (.return_, 1) := by decide +kernel
theorem hy_X0_recordSurplus : yX0_recordSurplus.cls ≠ "java/lang/invoke/MethodHandle" ∧ yX0_recordSurplus.cls ≠ "java/lang/invoke/VarHandle" ∧ (parseMethodDescriptor yX0_recordSurplus.desc).map (fun d => d.parameters.length) = some 1 := ⟨by decide +kernel, by decide +kernel, by decide +kernel⟩
set_option maxHeartbeats 4000000 in
set_option maxRecDepth 100000 in
theorem c_X0_recordSurplus (l0 : Launch) (D0 : va_G) (cI0 cJ0 : ClassId) (ad : Nat → Nat → Nat) (S : zM) (r : Nat) (hr : r < 5) (a : Int) (h0 : 0 ≤ S r 9 ∧ S r 9 ≤ 3) : Ct l0 D0 cI0 cJ0 ad yX0_recordSurplus cX0_recordSurplus 2 none 1 26 [.ref (ad r 6), .int (i32 a)] S none (fun X => X = (us S r (sp_rec (S r) a))) := by
  refine Ct.of (by decide) (Nat.le_of_ble_eq_true rfl) (fun E hE hR => ?_)
  have hE : zG E l0 D0 cI0 cJ0 ad cX0_recordSurplus 2 RX0 1 26 := hE
  show Z E S 0 [(0, .ref (ad r 6)), (1, .int (i32 a))] []
  refine z_aload_n hE 0 rfl rfl dX0_recordSurplus_0 ?_
  refine gf_0_3 hE (ks_m hr (by decide)) zf_X0_21 dX0_recordSurplus_1 ?_
  refine z_iconst hE dX0_recordSurplus_4 ?_
  refine z_icmp_lt (tgt := 27) hE dX0_recordSurplus_5 (by decide) ⟨by omega, by omega⟩ ⟨by omega, by omega⟩ (fun c1 => ?_) (fun c1 => ?_)
  · refine z_aload_n hE 0 rfl rfl dX0_recordSurplus_27 ?_
    refine gf_0_4 hE (ks_m hr (by decide)) zf_X0_24 dX0_recordSurplus_28 ?_
    refine z_aload_n hE 0 rfl rfl dX0_recordSurplus_31 ?_
    refine gf_0_3 hE (ks_m hr (by decide)) zf_X0_21 dX0_recordSurplus_32 ?_
    refine z_iload_n hE 1 rfl rfl dX0_recordSurplus_35 ?_
    refine as_7 hE (ks_m hr (by decide)) (by omega) (by omega) dX0_recordSurplus_36 ?_
    refine z_aload_n hE 0 rfl rfl dX0_recordSurplus_37 ?_
    refine z_dup hE rfl dX0_recordSurplus_38 ?_
    refine gf_0_3 hE (ks_m hr (by decide)) zf_X0_21 dX0_recordSurplus_39 ?_
    try simp only [us_eq, us_us]
    rw [up_ne (show 9 ≠ 10 + (S r 9) by omega)]
    refine z_iconst hE dX0_recordSurplus_42 ?_
    refine z_iadd hE dX0_recordSurplus_43 ?_
    refine pf_0_3 hE (ks_m hr (by decide)) zf_X0_21 dX0_recordSurplus_44 ?_
    try simp only [us_eq, us_us]
    exact z_vret hE hR dX0_recordSurplus_47 rfl (by unfold sp_rec; first | (rw [if_pos (by omega)]; try rfl) | (rw [if_neg (by omega)]; try rfl))
  · refine z_aload_n hE 0 rfl rfl dX0_recordSurplus_8 ?_
    refine gf_0_4 hE (ks_m hr (by decide)) zf_X0_24 dX0_recordSurplus_9 ?_
    refine z_iconst hE dX0_recordSurplus_12 ?_
    refine z_aload_n hE 0 rfl rfl dX0_recordSurplus_13 ?_
    refine gf_0_4 hE (ks_m hr (by decide)) zf_X0_24 dX0_recordSurplus_14 ?_
    refine z_iconst hE dX0_recordSurplus_17 ?_
    refine z_iconst hE dX0_recordSurplus_18 ?_
    refine ac_7s hE (ks_m hr (by decide)) zm_X0_28 (by decide) (Nat.le_of_ble_eq_true rfl) dX0_recordSurplus_19 ?_
    refine z_aload_n hE 0 rfl rfl dX0_recordSurplus_22 ?_
    refine z_iconst hE dX0_recordSurplus_23 ?_
    refine pf_0_3 hE (ks_m hr (by decide)) zf_X0_21 dX0_recordSurplus_24 ?_
    try simp only [us_eq, us_us]
    refine z_aload_n hE 0 rfl rfl dX0_recordSurplus_27 ?_
    refine gf_0_4 hE (ks_m hr (by decide)) zf_X0_24 dX0_recordSurplus_28 ?_
    refine z_aload_n hE 0 rfl rfl dX0_recordSurplus_31 ?_
    refine gf_0_3 hE (ks_m hr (by decide)) zf_X0_21 dX0_recordSurplus_32 ?_
    try simp only [us_eq, us_us]
    rw [up_eq]
    refine z_iload_n hE 1 rfl rfl dX0_recordSurplus_35 ?_
    refine as_7 hE (ks_m hr (by decide)) (by omega) (by omega) dX0_recordSurplus_36 ?_
    try simp only [us_eq, us_us]
    refine z_aload_n hE 0 rfl rfl dX0_recordSurplus_37 ?_
    refine z_dup hE rfl dX0_recordSurplus_38 ?_
    refine gf_0_3 hE (ks_m hr (by decide)) zf_X0_21 dX0_recordSurplus_39 ?_
    try simp only [us_eq, us_us]
    rw [up_ne (show 9 ≠ 10 + 2 by omega)]
    rw [up_eq]
    refine z_iconst hE dX0_recordSurplus_42 ?_
    refine z_iadd hE dX0_recordSurplus_43 ?_
    refine pf_0_3 hE (ks_m hr (by decide)) zf_X0_21 dX0_recordSurplus_44 ?_
    try simp only [us_eq, us_us]
    exact z_vret hE hR dX0_recordSurplus_47 rfl (by unfold sp_rec; first | (rw [if_pos (by omega)]; try rfl) | (rw [if_neg (by omega)]; try rfl))
theorem dX0_meanSurplus_0 : decode cX0_meanSurplus 0 = .ok (.iconst 0, 1) := by decide +kernel
theorem dX0_meanSurplus_1 : decode cX0_meanSurplus 1 = .ok (.istore_n 1, 1) := by decide +kernel
theorem dX0_meanSurplus_2 : decode cX0_meanSurplus 2 = .ok (.iconst 0, 1) := by decide +kernel
theorem dX0_meanSurplus_3 : decode cX0_meanSurplus 3 = .ok (.istore_n 2, 1) := by decide +kernel
theorem dX0_meanSurplus_4 : decode cX0_meanSurplus 4 = .ok (.iload_n 2, 1) := by decide +kernel
theorem dX0_meanSurplus_5 : decode cX0_meanSurplus 5 = .ok (.aload_n 0, 1) := by decide +kernel
theorem dX0_meanSurplus_6 : decode cX0_meanSurplus 6 = .ok (.getfield 21, 3) := by decide +kernel
theorem dX0_meanSurplus_9 : decode cX0_meanSurplus 9 = .ok (.if_icmp .ge 18, 3) := by decide +kernel
theorem dX0_meanSurplus_12 : decode cX0_meanSurplus 12 = .ok (.iload_n 1, 1) := by decide +kernel
theorem dX0_meanSurplus_13 : decode cX0_meanSurplus 13 = .ok (.aload_n 0, 1) := by decide +kernel
theorem dX0_meanSurplus_14 : decode cX0_meanSurplus 14 = .ok (.getfield 24, 3) := by decide +kernel
theorem dX0_meanSurplus_17 : decode cX0_meanSurplus 17 = .ok (.iload_n 2, 1) := by decide +kernel
theorem dX0_meanSurplus_18 : decode cX0_meanSurplus 18 = .ok (.iaload, 1) := by decide +kernel
theorem dX0_meanSurplus_19 : decode cX0_meanSurplus 19 = .ok (.iadd, 1) := by decide +kernel
theorem dX0_meanSurplus_20 : decode cX0_meanSurplus 20 = .ok (.istore_n 1, 1) := by decide +kernel
theorem dX0_meanSurplus_21 : decode cX0_meanSurplus 21 = .ok (.iinc 2 1, 3) := by decide +kernel
theorem dX0_meanSurplus_24 : decode cX0_meanSurplus 24 = .ok (.goto (-20), 3) := by decide +kernel
theorem dX0_meanSurplus_27 : decode cX0_meanSurplus 27 = .ok (.iload_n 1, 1) := by decide +kernel
theorem dX0_meanSurplus_28 : decode cX0_meanSurplus 28 = .ok (.aload_n 0, 1) := by decide +kernel
theorem dX0_meanSurplus_29 : decode cX0_meanSurplus 29 = .ok (.getfield 21, 3) := by decide +kernel
theorem dX0_meanSurplus_32 : decode cX0_meanSurplus 32 = .ok (.invokestatic 34, 3) := by decide +kernel
theorem dX0_meanSurplus_35 : decode cX0_meanSurplus 35 = .ok (.ireturn, 1) := by decide +kernel
theorem hy_X0_meanSurplus : yX0_meanSurplus.cls ≠ "java/lang/invoke/MethodHandle" ∧ yX0_meanSurplus.cls ≠ "java/lang/invoke/VarHandle" ∧ (parseMethodDescriptor yX0_meanSurplus.desc).map (fun d => d.parameters.length) = some 0 := ⟨by decide +kernel, by decide +kernel, by decide +kernel⟩
set_option maxHeartbeats 4000000 in
set_option maxRecDepth 100000 in
theorem lp_X0_meanSurplus {E : zE} {l0 : Launch} {D0 : va_G} {cI0 cJ0 : ClassId} {ad : Nat → Nat → Nat} (hE : zG E l0 D0 cI0 cJ0 ad cX0_meanSurplus 3 RX0 2 43) (S : zM) (r : Nat) (hr : r < 5) (h0 : 0 ≤ S r 9 ∧ S r 9 ≤ 3) (hs : ∀ k : Int, 0 ≤ k → k < 3 → -1000000 ≤ S r (10 + k) ∧ S r (10 + k) ≤ 1000000) (hR : zR E (some .int) (some (.int (i32 (sp_mean (S r))))) (fun X => X = S)) : ∀ (fuel : Nat) (i : Int) (h9 : 0 ≤ i ∧ i ≤ S r 9), (S r 9 - i).toNat < fuel → Z E S 4 [(2, .int (i32 i)), (1, .int (i32 (sm (fun k => S r (10 + k)) i))), (0, .ref (ad r 6))] [] := by
  intro fuel
  induction fuel with
  | zero => intro _ _ hz; omega
  | succ fuel ih =>
    intro i h9 hz
    refine z_iload_n hE 0 rfl rfl dX0_meanSurplus_4 ?_
    refine z_aload_n hE 2 rfl rfl dX0_meanSurplus_5 ?_
    refine gf_0_3 hE (ks_m hr (by decide)) zf_X0_21 dX0_meanSurplus_6 ?_
    refine z_icmp_ge (tgt := 27) hE dX0_meanSurplus_9 (by decide) ⟨by omega, by omega⟩ ⟨by omega, by omega⟩ (fun c1 => ?_) (fun c1 => ?_)
    · have h8 := sm_b (f := fun k => S r (10 + k)) (n := i) (a := -1000000) (b := 1000000) h9.1 (fun k h1 h2 => hs k h1 (by omega))
      refine z_iload_n hE 1 rfl rfl dX0_meanSurplus_27 ?_
      refine z_aload_n hE 2 rfl rfl dX0_meanSurplus_28 ?_
      refine gf_0_3 hE (ks_m hr (by decide)) zf_X0_21 dX0_meanSurplus_29 ?_
      refine z_callN hE (c_X7_quotient l0 D0 cI0 cJ0 ad S (sm (fun k => S r (10 + k)) i) (S r 9) (⟨by omega, by omega⟩) (⟨by omega, by omega⟩) (by omega)) (List.mem_of_getElem? (i := 8) rfl) zt_yX7_quotient zn_RX7 zc_yX7_quotient (hy_X7_quotient) (Nat.le_of_ble_eq_true rfl) (Nat.le_of_ble_eq_true rfl) rfl rfl rfl (Nat.le_of_ble_eq_true rfl) dX0_meanSurplus_32 ?_
      exact z_iret hE hR dX0_meanSurplus_35 (congrArg (fun x => some (Value.int (i32 x))) (by unfold sp_mean; rw [show i = S r 9 by omega])) (by first | rfl | (simp only [us_id]))
    · refine z_iload_n hE 1 rfl rfl dX0_meanSurplus_12 ?_
      refine z_aload_n hE 2 rfl rfl dX0_meanSurplus_13 ?_
      refine gf_0_4 hE (ks_m hr (by decide)) zf_X0_24 dX0_meanSurplus_14 ?_
      refine z_iload_n hE 0 rfl rfl dX0_meanSurplus_17 ?_
      refine al_7 hE (ks_m hr (by decide)) (by omega) (by omega) dX0_meanSurplus_18 ?_
      refine z_iadd hE dX0_meanSurplus_19 ?_
      refine z_istore_n hE rfl (by decide) rfl dX0_meanSurplus_20 ?_
      refine z_iinc hE 1 rfl (by decide) rfl dX0_meanSurplus_21 ?_
      refine z_goto (tgt := 4) hE (d := dX0_meanSurplus_24) (ht := by decide) ?_
      refine z_L (L' := [(2, .int (i32 (i + 1))), (1, .int (i32 (sm (fun k => S r (10 + k)) (i + 1)))), (0, .ref (ad r 6))]) [0, 1, 2] (by rw [show sm (fun k => S r (10 + k)) (i + 1) = (sm (fun k => S r (10 + k)) i) + (S r (10 + i)) from by first | rfl | (exact sm_s h9.1)]; rfl) ?_
      exact ih (i + 1) ⟨by omega, by omega⟩ (by omega)
set_option maxHeartbeats 4000000 in
set_option maxRecDepth 100000 in
theorem c_X0_meanSurplus (l0 : Launch) (D0 : va_G) (cI0 cJ0 : ClassId) (ad : Nat → Nat → Nat) (S : zM) (r : Nat) (hr : r < 5) (h0 : 0 ≤ S r 9 ∧ S r 9 ≤ 3) (hs : ∀ k : Int, 0 ≤ k → k < 3 → -1000000 ≤ S r (10 + k) ∧ S r (10 + k) ≤ 1000000) : Ct l0 D0 cI0 cJ0 ad yX0_meanSurplus cX0_meanSurplus 3 (some .int) 2 43 [.ref (ad r 6)] S (some (.int (i32 (sp_mean (S r))))) (fun X => X = S) := by
  refine Ct.of (by decide) (Nat.le_of_ble_eq_true rfl) (fun E hE hR => ?_)
  have hE : zG E l0 D0 cI0 cJ0 ad cX0_meanSurplus 3 RX0 2 43 := hE
  show Z E S 0 [(0, .ref (ad r 6))] []
  refine z_iconst hE dX0_meanSurplus_0 ?_
  refine z_istore_n hE rfl (by decide) rfl dX0_meanSurplus_1 ?_
  refine z_iconst hE dX0_meanSurplus_2 ?_
  refine z_istore_n hE rfl (by decide) rfl dX0_meanSurplus_3 ?_
  refine z_L (L' := [(2, .int (i32 0)), (1, .int (i32 (sm (fun k => S r (10 + k)) 0))), (0, .ref (ad r 6))]) [0, 1, 2] (by rw [show sm (fun k => S r (10 + k)) 0 = 0 from by first | rfl | (exact sm_0 _)]; rfl) ?_
  exact lp_X0_meanSurplus hE S r hr h0 hs hR 4 0 ⟨by omega, by omega⟩ (by omega)
end
section
/-! WHAT HOLDS OF A STATE -/
def InvA (s : Int → Int) : Prop := (0 ≤ s 0 ∧ s 0 ≤ 12) ∧ (100 ≤ s 1 ∧ s 1 ≤ 10000) ∧ 0 ≤ s 2 ∧ (0 ≤ s 3 ∧ s 3 ≤ 1000) ∧ (5 ≤ s 4 ∧ s 4 ≤ 100) ∧ (1 ≤ s 5 ∧ s 5 ≤ 1000) ∧ (1 ≤ s 6 ∧ s 6 ≤ 100000000) ∧ (0 ≤ s 7 ∧ s 7 ≤ 100000000) ∧ (0 ≤ s 8 ∧ s 8 ≤ 100000000) ∧ (0 ≤ s 9 ∧ s 9 ≤ 3) ∧ (1 ≤ s 13 ∧ s 13 ≤ 10) ∧ (0 ≤ s 14 ∧ s 14 ≤ 20) ∧ (0 ≤ s 15 ∧ s 15 ≤ 10) ∧ (0 ≤ s 16 ∧ s 16 ≤ 3) ∧ (0 ≤ s 17 ∧ s 17 ≤ 100)
def InvS (s : Int → Int) : Prop := ∀ k : Int, 0 ≤ k → k < 3 → -1000000 ≤ s (10 + k) ∧ s (10 + k) ≤ 1000000
def InvM (s : Int → Int) : Prop := ∀ m : Int, 0 ≤ m → m < 12 → 0 ≤ s (19 + 3 * m) ∧ 0 ≤ s (20 + 3 * m) ∧ s (20 + 3 * m) ≤ 1000000 ∧ (s 0 ≤ m → s (19 + 3 * m) = 0)
def InvO (s : Int → Int) : Prop := ∀ o : Int, 0 ≤ o → o < s 14 → (0 ≤ s (55 + 22 * o) ∧ s (55 + 22 * o) < s 0) ∧ (0 ≤ s (56 + 22 * o) ∧ s (56 + 22 * o) < s 0) ∧ s (55 + 22 * o) ≠ s (56 + 22 * o) ∧ (0 ≤ s (57 + 22 * o) ∧ s (57 + 22 * o) ≤ 1000) ∧ (1 ≤ s (58 + 22 * o) ∧ s (58 + 22 * o) ≤ 100000) ∧ (0 ≤ s (59 + 22 * o) ∧ s (59 + 22 * o) ≤ 3)
def InvZ (s : Int → Int) : Prop := ∀ o w : Int, s 14 ≤ o → o < 20 → 0 ≤ w → w < 4 → s (61 + 22 * o + w) = 0
def InvC (s : Int → Int) : Prop := ∀ o k : Int, 0 ≤ o → o < 20 → 0 ≤ k → k < 12 → 0 ≤ s (65 + 22 * o + k) ∧ s (65 + 22 * o + k) ≤ 1000 ∧ (s 0 ≤ k → s (65 + 22 * o + k) = 0)
def okKind (k v : Int) : Prop := (k = 0 ∧ 1 ≤ v ∧ v ≤ 1000) ∨ (k = 1 ∧ 5 ≤ v ∧ v ≤ 100) ∨ (k = 2 ∧ 1 ≤ v ∧ v ≤ 10) ∨ (k = 3 ∧ 1 ≤ v ∧ v ≤ 1000) ∨ (k = 4 ∧ 1 ≤ v ∧ v ≤ 100)
def InvQ (s : Int → Int) : Prop := ∀ q : Int, 0 ≤ q → q < s 15 → (0 ≤ s (497 + 15 * q) ∧ s (497 + 15 * q) ≤ 2) ∧ okKind (s (495 + 15 * q)) (s (496 + 15 * q))
def InvV (s : Int → Int) : Prop := ∀ q k : Int, 0 ≤ q → q < 10 → 0 ≤ k → k < 12 → 0 ≤ s (498 + 15 * q + k) ∧ s (498 + 15 * q + k) ≤ 2 ∧ (s 15 ≤ q → s (498 + 15 * q + k) = 0)
def InvB (s : Int → Int) : Prop := ∀ m : Int, 0 ≤ m → m < 12 → sp_rem s m ≤ s (19 + 3 * m)
def InvD (s : Int → Int) : Prop := ∀ o : Int, 0 ≤ o → o < s 14 → s (59 + 22 * o) ≠ 3 → (1 ≤ s (645 + o) ∧ s (645 + o) ≤ 10) ∧ s (60 + 22 * o) = s (645 + o)
def Inv0 (s : Int → Int) : Prop := InvA s ∧ InvS s ∧ InvM s ∧ sp_all s ≤ 10000 ∧ InvO s ∧ InvZ s ∧ InvC s ∧ InvQ s ∧ InvV s ∧ InvB s
def Inv (s : Int → Int) : Prop := Inv0 s ∧ InvD s ∧ s 18 = s 670
theorem inA {s : Int → Int} (h : Inv0 s) : InvA s := h.1
theorem inS {s : Int → Int} (h : Inv0 s) : InvS s := h.2.1
theorem inMm {s : Int → Int} (h : Inv0 s) : InvM s := h.2.2.1
theorem inO {s : Int → Int} (h : Inv0 s) : InvO s := h.2.2.2.2.1
theorem inZ {s : Int → Int} (h : Inv0 s) : InvZ s := h.2.2.2.2.2.1
theorem inC {s : Int → Int} (h : Inv0 s) : InvC s := h.2.2.2.2.2.2.1
theorem inQ {s : Int → Int} (h : Inv0 s) : InvQ s := h.2.2.2.2.2.2.2.1
theorem inV {s : Int → Int} (h : Inv0 s) : InvV s := h.2.2.2.2.2.2.2.2.1
theorem inB {s : Int → Int} (h : Inv0 s) : InvB s := h.2.2.2.2.2.2.2.2.2
theorem inT {s : Int → Int} (h : Inv0 s) : 0 ≤ sp_all s ∧ sp_all s ≤ 10000 := by
  refine ⟨?_, h.2.2.2.1⟩
  have hA := inA h
  unfold InvA at hA
  have h1 : 0 ≤ sm (fun k => s (19 + 3 * k)) (s 0) := sm_nn fun k h1 h2 => (inMm h k h1 (by omega)).1
  unfold sp_all
  omega
theorem inM {s : Int → Int} (h : Inv0 s) {m : Int} (h0 : 0 ≤ m) (h1 : m < 12) : (0 ≤ s (19 + 3 * m) ∧ s (19 + 3 * m) ≤ 10000) ∧ (0 ≤ s (20 + 3 * m) ∧ s (20 + 3 * m) ≤ 1000000) := by
  have hm := inMm h m h0 h1
  have hA := inA h
  unfold InvA at hA
  have hT := inT h
  refine ⟨⟨hm.1, ?_⟩, hm.2.1, hm.2.2.1⟩
  by_cases e : m < s 0
  · have h2 := sm_mem (f := fun k => s (19 + 3 * k)) h0 e (fun k h1 h2 => (inMm h k h1 (by omega)).1)
    unfold sp_all at hT
    omega
  · have := hm.2.2.2 (by omega)
    omega
theorem inTr {s : Int → Int} (h : Inv0 s) : 0 ≤ s 2 ∧ s 2 ≤ 10000 := by
  have hA := inA h
  unfold InvA at hA
  have hT := inT h
  have h1 : 0 ≤ sm (fun k => s (19 + 3 * k)) (s 0) := sm_nn fun k h1 h2 => (inMm h k h1 (by omega)).1
  unfold sp_all at hT
  omega
/-- what remains of a seller's offers, over the first n, in bounds -/
theorem ro_b {s : Int → Int} (h : Inv0 s) (m : Int) {k : Int} (h1 : 0 ≤ k) (h2 : k < s 14) : 0 ≤ sp_ro s m k ∧ sp_ro s m k ≤ 1000 := by
  have := inO h k h1 h2
  unfold sp_ro
  split <;> omega
theorem rem_b {s : Int → Int} (h : Inv0 s) (m : Int) : 0 ≤ sp_rem s m ∧ sp_rem s m ≤ 20000 := by
  have hA := inA h
  unfold InvA at hA
  have h1 := sm_b (f := sp_ro s m) (n := s 14) (a := 0) (b := 1000) (by omega) (fun k h1 h2 => ro_b h m h1 h2)
  unfold sp_rem
  omega
theorem req_b {s : Int → Int} (h : Inv0 s) {m : Int} (h0 : 0 ≤ m) (h1 : m < 12) : 0 ≤ sp_req s m ∧ sp_req s m ≤ 1010000 := by
  have hA := inA h
  unfold InvA at hA
  have hm := inM h h0 h1
  unfold sp_req
  constructor
  · exact Int.ediv_nonneg (by omega) (by omega)
  · exact Int.le_trans (Int.ediv_le_self _ (by omega)) (by omega)
theorem room_b {s : Int → Int} (h : Inv0 s) {m : Int} (h0 : 0 ≤ m) (h1 : m < 12) : (0 ≤ sp_all s * s 4 ∧ sp_all s * s 4 ≤ 1000000) ∧ (0 ≤ sp_all s * s 4 / 100 ∧ sp_all s * s 4 / 100 ≤ 10000) ∧ 0 ≤ sp_room s m ∧ sp_room s m ≤ 10000 := by
  have hA := inA h
  unfold InvA at hA
  have hT := inT h
  have hm := inM h h0 h1
  have h2 := zx_mul (a := sp_all s) (b := s 4) (A := 10000) (B := 100) hT.1 hT.2 (by omega) (by omega)
  unfold sp_room
  omega
theorem rtl_b : ∀ (f : Nat) (k n : Int), 0 ≤ k → k * k ≤ n → n ≤ 10000 → 0 ≤ rtl f k n ∧ rtl f k n ≤ 100
  | 0, k, n, h0, h1, h2 => by
    unfold rtl
    refine ⟨h0, ?_⟩
    rcases Int.lt_or_le 100 k with q | q
    · have := Int.mul_le_mul (show (101 : Int) ≤ k by omega) (show (101 : Int) ≤ k by omega) (by omega) h0
      omega
    · exact q
  | f + 1, k, n, h0, h1, h2 => by
    unfold rtl
    split
    · rename_i h3
      exact rtl_b f (k + 1) n (by omega) h3 h2
    · refine ⟨h0, ?_⟩
      rcases Int.lt_or_le 100 k with q | q
      · have := Int.mul_le_mul (show (101 : Int) ≤ k by omega) (show (101 : Int) ≤ k by omega) (by omega) h0
        omega
      · exact q
theorem root_b {n : Int} (h : 0 ≤ n) (h2 : n ≤ 10000) : 0 ≤ sp_root n ∧ sp_root n ≤ 100 := rtl_b 10000 0 n (Int.le_refl 0) (by omega) h2
theorem votes_b {s : Int → Int} (h : Inv0 s) {m : Int} (h0 : 0 ≤ m) (h1 : m < 12) : 0 ≤ sp_votes s m ∧ sp_votes s m ≤ 10000 := by
  have hm := inM h h0 h1
  have hr := root_b hm.1.1 hm.1.2
  unfold sp_votes
  (repeat' split) <;> omega
theorem sum_b {s : Int → Int} (h : Inv0 s) (q b : Int) : 0 ≤ sp_sum s q b ∧ sp_sum s q b ≤ 120000 := by
  have hA := inA h
  unfold InvA at hA
  have h1 := sm_b (f := sp_vf s q b) (n := s 0) (a := 0) (b := 10000) (by omega) (fun k h1 h2 => by
    have := votes_b h h1 (show k < 12 by omega)
    unfold sp_vf
    split <;> omega)
  unfold sp_sum
  omega
theorem dem_b {s : Int → Int} (h : Inv0 s) {o k : Int} (h0 : 0 ≤ o) (h1 : o < 20) (h2 : 0 ≤ k) (h3 : k < 12) : 0 ≤ sp_dem s o k ∧ sp_dem s o k ≤ 1000 := by
  have hc := inC h o k h0 h1 h2 h3
  have hr := room_b h h2 h3
  unfold sp_dem
  omega
theorem mean_b {s : Int → Int} (h : Inv0 s) : -1000000 ≤ sp_mean s ∧ sp_mean s ≤ 1000000 := by
  have hA := inA h
  unfold InvA at hA
  have h1 := sm_b (f := fun k => s (10 + k)) (n := s 9) (a := -1000000) (b := 1000000) (by omega) (fun k h1 h2 => inS h k h1 (by omega))
  unfold sp_mean
  rcases (show s 9 = 0 ∨ s 9 = 1 ∨ s 9 = 2 ∨ s 9 = 3 by omega) with e | e | e | e <;> rw [e] at h1 ⊢ <;> omega
end
section
theorem zbo_cg {P Q : Prop} [Decidable P] [Decidable Q] (h : P ↔ Q) : zbo P = zbo Q := by
  unfold zbo
  by_cases a : P
  · rw [if_pos a, if_pos (h.mp a)]
  · rw [if_neg a, if_neg (fun q => a (h.mpr q))]
theorem dX7_rootOf_0 : decode cX7_rootOf 0 = .ok (.iconst 0, 1) := by decide +kernel
theorem dX7_rootOf_1 : decode cX7_rootOf 1 = .ok (.istore_n 1, 1) := by decide +kernel
theorem dX7_rootOf_2 : decode cX7_rootOf 2 = .ok (.iload_n 1, 1) := by decide +kernel
theorem dX7_rootOf_3 : decode cX7_rootOf 3 = .ok (.sipush 10000, 3) := by decide +kernel
theorem dX7_rootOf_6 : decode cX7_rootOf 6 = .ok (.if_icmp .ge 20, 3) := by decide +kernel
theorem dX7_rootOf_9 : decode cX7_rootOf 9 = .ok (.iload_n 1, 1) := by decide +kernel
theorem dX7_rootOf_10 : decode cX7_rootOf 10 = .ok (.iconst 1, 1) := by decide +kernel
theorem dX7_rootOf_11 : decode cX7_rootOf 11 = .ok (.iadd, 1) := by decide +kernel
theorem dX7_rootOf_12 : decode cX7_rootOf 12 = .ok (.iload_n 1, 1) := by decide +kernel
theorem dX7_rootOf_13 : decode cX7_rootOf 13 = .ok (.iconst 1, 1) := by decide +kernel
theorem dX7_rootOf_14 : decode cX7_rootOf 14 = .ok (.iadd, 1) := by decide +kernel
theorem dX7_rootOf_15 : decode cX7_rootOf 15 = .ok (.imul, 1) := by decide +kernel
theorem dX7_rootOf_16 : decode cX7_rootOf 16 = .ok (.iload_n 0, 1) := by decide +kernel
theorem dX7_rootOf_17 : decode cX7_rootOf 17 = .ok (.if_icmp .gt 9, 3) := by decide +kernel
theorem dX7_rootOf_20 : decode cX7_rootOf 20 = .ok (.iinc 1 1, 3) := by decide +kernel
theorem dX7_rootOf_23 : decode cX7_rootOf 23 = .ok (.goto (-21), 3) := by decide +kernel
theorem dX7_rootOf_26 : decode cX7_rootOf 26 = .ok (.iload_n 1, 1) := by decide +kernel
theorem dX7_rootOf_27 : decode cX7_rootOf 27 = .ok (.ireturn, 1) := by decide +kernel
theorem hy_X7_rootOf : yX7_rootOf.cls ≠ "java/lang/invoke/MethodHandle" ∧ yX7_rootOf.cls ≠ "java/lang/invoke/VarHandle" ∧ (parseMethodDescriptor yX7_rootOf.desc).map (fun d => d.parameters.length) = some 1 := ⟨by decide +kernel, by decide +kernel, by decide +kernel⟩
set_option maxHeartbeats 4000000 in
set_option maxRecDepth 100000 in
theorem lp_X7_rootOf {E : zE} {l0 : Launch} {D0 : va_G} {cI0 cJ0 : ClassId} {ad : Nat → Nat → Nat} (hE : zG E l0 D0 cI0 cJ0 ad cX7_rootOf 2 RX7 0 0) (S : zM) (n : Int) (h0 : 0 ≤ n ∧ n ≤ 10000) (hR : zR E (some .int) (some (.int (i32 (sp_root n)))) (fun X => X = S)) : ∀ (fuel : Nat) (k : Int) (h9 : 0 ≤ k ∧ k ≤ 100) (h8 : k * k ≤ n) (h7 : rtl (10000 - k).toNat k n = sp_root n), (10000 - k).toNat < fuel → Z E S 2 [(1, .int (i32 k)), (0, .int (i32 n))] [] := by
  intro fuel
  induction fuel with
  | zero => intro _ _ _ _ hz; omega
  | succ fuel ih =>
    intro k h9 h8 h7 hz
    have h6 := zx_mul (a := k + 1) (b := k + 1) (A := 101) (B := 101) (by omega) (by omega) (by omega) (by omega)
    have h5 : rtl (10000 - k).toNat k n = if (k + 1) * (k + 1) ≤ n then rtl (10000 - (k + 1)).toNat (k + 1) n else k := by
      rw [show (10000 - k).toNat = (10000 - (k + 1)).toNat + 1 by omega]; rfl
    refine z_iload_n hE 0 rfl rfl dX7_rootOf_2 ?_
    refine z_sipush (a := 10000) hE (by decide) dX7_rootOf_3 ?_
    refine z_icmp_ge (tgt := 26) hE dX7_rootOf_6 (by decide) ⟨by omega, by omega⟩ ⟨by omega, by omega⟩ (fun c1 => ?_) (fun c1 => ?_)
    · exact by omega
    · refine z_iload_n hE 0 rfl rfl dX7_rootOf_9 ?_
      refine z_iconst hE dX7_rootOf_10 ?_
      refine z_iadd hE dX7_rootOf_11 ?_
      refine z_iload_n hE 0 rfl rfl dX7_rootOf_12 ?_
      refine z_iconst hE dX7_rootOf_13 ?_
      refine z_iadd hE dX7_rootOf_14 ?_
      refine z_imul hE dX7_rootOf_15 ?_
      refine z_iload_n hE 1 rfl rfl dX7_rootOf_16 ?_
      refine z_icmp_gt (tgt := 26) hE dX7_rootOf_17 (by decide) ⟨by omega, by omega⟩ ⟨by omega, by omega⟩ (fun c2 => ?_) (fun c2 => ?_)
      · refine z_iload_n hE 0 rfl rfl dX7_rootOf_26 ?_
        exact z_iret hE hR dX7_rootOf_27 (congrArg (fun x => some (Value.int (i32 x))) (by rw [← h7, h5, if_neg (by omega)])) (by first | rfl | (simp only [us_id]))
      · refine z_iinc hE 0 rfl (by decide) rfl dX7_rootOf_20 ?_
        refine z_goto (tgt := 2) hE (d := dX7_rootOf_23) (ht := by decide) ?_
        refine z_L (L' := [(1, .int (i32 (k + 1))), (0, .int (i32 n))]) [0, 1] (by rfl) ?_
        exact ih (k + 1) (by have h4 : k + 1 ≤ 100 := by { rcases Int.lt_or_le 100 (k + 1) with q | q; · { have := Int.mul_le_mul (show (101 : Int) ≤ k + 1 by omega) (show (101 : Int) ≤ k + 1 by omega) (by omega) (by omega); omega }; · exact q }; omega) (by omega) (by rw [if_pos (by omega)] at h5; rw [← h5]; exact h7) (by omega)
set_option maxHeartbeats 4000000 in
set_option maxRecDepth 100000 in
theorem c_X7_rootOf (l0 : Launch) (D0 : va_G) (cI0 cJ0 : ClassId) (ad : Nat → Nat → Nat) (S : zM) (n : Int) (h0 : 0 ≤ n ∧ n ≤ 10000) : Ct l0 D0 cI0 cJ0 ad yX7_rootOf cX7_rootOf 2 (some .int) 0 0 [.int (i32 n)] S (some (.int (i32 (sp_root n)))) (fun X => X = S) := by
  refine Ct.of (by decide) (Nat.le_of_ble_eq_true rfl) (fun E hE hR => ?_)
  have hE : zG E l0 D0 cI0 cJ0 ad cX7_rootOf 2 RX7 0 0 := hE
  show Z E S 0 [(0, .int (i32 n))] []
  refine z_iconst hE dX7_rootOf_0 ?_
  refine z_istore_n hE rfl (by decide) rfl dX7_rootOf_1 ?_
  refine z_L (L' := [(1, .int (i32 0)), (0, .int (i32 n))]) [0, 1] (by rfl) ?_
  exact lp_X7_rootOf hE S n h0 hR 10001 0 ⟨by omega, by omega⟩ (by omega) rfl (by omega)
theorem dX7_isValueOfKind_0 : decode cX7_isValueOfKind 0 = .ok (.iload_n 0, 1) := by decide +kernel
theorem dX7_isValueOfKind_1 : decode cX7_isValueOfKind 1 = .ok (.tableswitch 77 0 4 #[35, 44, 52, 60, 69], 35) := by decide +kernel
theorem dX7_isValueOfKind_36 : decode cX7_isValueOfKind 36 = .ok (.iload_n 1, 1) := by decide +kernel
theorem dX7_isValueOfKind_37 : decode cX7_isValueOfKind 37 = .ok (.iconst 1, 1) := by decide +kernel
theorem dX7_isValueOfKind_38 : decode cX7_isValueOfKind 38 = .ok (.sipush 1000, 3) := by decide +kernel
theorem dX7_isValueOfKind_41 : decode cX7_isValueOfKind 41 = .ok (.invokestatic 56, 3) := by decide +kernel
theorem dX7_isValueOfKind_44 : decode cX7_isValueOfKind 44 = .ok (.ireturn, 1) := by decide +kernel
theorem dX7_isValueOfKind_45 : decode cX7_isValueOfKind 45 = .ok (.iload_n 1, 1) := by decide +kernel
theorem dX7_isValueOfKind_46 : decode cX7_isValueOfKind 46 = .ok (.iconst 5, 1) := by decide +kernel
theorem dX7_isValueOfKind_47 : decode cX7_isValueOfKind 47 = .ok (.bipush 100, 2) := by decide +kernel
theorem dX7_isValueOfKind_49 : decode cX7_isValueOfKind 49 = .ok (.invokestatic 56, 3) := by decide +kernel
theorem dX7_isValueOfKind_52 : decode cX7_isValueOfKind 52 = .ok (.ireturn, 1) := by decide +kernel
theorem dX7_isValueOfKind_53 : decode cX7_isValueOfKind 53 = .ok (.iload_n 1, 1) := by decide +kernel
theorem dX7_isValueOfKind_54 : decode cX7_isValueOfKind 54 = .ok (.iconst 1, 1) := by decide +kernel
theorem dX7_isValueOfKind_55 : decode cX7_isValueOfKind 55 = .ok (.bipush 10, 2) := by decide +kernel
theorem dX7_isValueOfKind_57 : decode cX7_isValueOfKind 57 = .ok (.invokestatic 56, 3) := by decide +kernel
theorem dX7_isValueOfKind_60 : decode cX7_isValueOfKind 60 = .ok (.ireturn, 1) := by decide +kernel
theorem dX7_isValueOfKind_61 : decode cX7_isValueOfKind 61 = .ok (.iload_n 1, 1) := by decide +kernel
theorem dX7_isValueOfKind_62 : decode cX7_isValueOfKind 62 = .ok (.iconst 1, 1) := by decide +kernel
theorem dX7_isValueOfKind_63 : decode cX7_isValueOfKind 63 = .ok (.sipush 1000, 3) := by decide +kernel
theorem dX7_isValueOfKind_66 : decode cX7_isValueOfKind 66 = .ok (.invokestatic 56, 3) := by decide +kernel
theorem dX7_isValueOfKind_69 : decode cX7_isValueOfKind 69 = .ok (.ireturn, 1) := by decide +kernel
theorem dX7_isValueOfKind_70 : decode cX7_isValueOfKind 70 = .ok (.iload_n 1, 1) := by decide +kernel
theorem dX7_isValueOfKind_71 : decode cX7_isValueOfKind 71 = .ok (.iconst 1, 1) := by decide +kernel
theorem dX7_isValueOfKind_72 : decode cX7_isValueOfKind 72 = .ok (.bipush 100, 2) := by decide +kernel
theorem dX7_isValueOfKind_74 : decode cX7_isValueOfKind 74 = .ok (.invokestatic 56, 3) := by decide +kernel
theorem dX7_isValueOfKind_77 : decode cX7_isValueOfKind 77 = .ok (.ireturn, 1) := by decide +kernel
theorem dX7_isValueOfKind_78 : decode cX7_isValueOfKind 78 = .ok (.iconst 0, 1) := by decide +kernel
theorem dX7_isValueOfKind_79 : decode cX7_isValueOfKind 79 = .ok (.ireturn, 1) := by decide +kernel
theorem hy_X7_isValueOfKind : yX7_isValueOfKind.cls ≠ "java/lang/invoke/MethodHandle" ∧ yX7_isValueOfKind.cls ≠ "java/lang/invoke/VarHandle" ∧ (parseMethodDescriptor yX7_isValueOfKind.desc).map (fun d => d.parameters.length) = some 2 := ⟨by decide +kernel, by decide +kernel, by decide +kernel⟩
set_option maxHeartbeats 4000000 in
set_option maxRecDepth 100000 in
theorem c_X7_isValueOfKind (l0 : Launch) (D0 : va_G) (cI0 cJ0 : ClassId) (ad : Nat → Nat → Nat) (S : zM) (k : Int) (v : Int) (h0 : -2147483648 ≤ k ∧ k < 2147483648) (h1 : -2147483648 ≤ v ∧ v < 2147483648) : Ct l0 D0 cI0 cJ0 ad yX7_isValueOfKind cX7_isValueOfKind 2 (some .boolean) 1 22 [.int (i32 k), .int (i32 v)] S (some (.int (i32 (zbo ((k = 0 ∧ 1 ≤ v ∧ v ≤ 1000) ∨ (k = 1 ∧ 5 ≤ v ∧ v ≤ 100) ∨ (k = 2 ∧ 1 ≤ v ∧ v ≤ 10) ∨ (k = 3 ∧ 1 ≤ v ∧ v ≤ 1000) ∨ (k = 4 ∧ 1 ≤ v ∧ v ≤ 100)))))) (fun X => X = S) := by
  refine Ct.of (by decide) (Nat.le_of_ble_eq_true rfl) (fun E hE hR => ?_)
  have hE : zG E l0 D0 cI0 cJ0 ad cX7_isValueOfKind 2 RX7 1 22 := hE
  show Z E S 0 [(0, .int (i32 k)), (1, .int (i32 v))] []
  refine z_iload_n hE 0 rfl rfl dX7_isValueOfKind_0 ?_
  by_cases k1_0 : k = 0
  · refine z_tIn (tgt := 36) hE 0 dX7_isValueOfKind_1 ⟨by omega, by omega⟩ k1_0 (by decide) (by decide) rfl (by decide) ?_
    refine z_iload_n hE 1 rfl rfl dX7_isValueOfKind_36 ?_
    refine z_iconst hE dX7_isValueOfKind_37 ?_
    refine z_sipush (a := 1000) hE (by decide) dX7_isValueOfKind_38 ?_
    refine z_callS hE (c_X7_isWithin l0 D0 cI0 cJ0 ad S v 1 1000 (⟨by omega, by omega⟩) (⟨by omega, by omega⟩) (⟨by omega, by omega⟩)) zm_X7_56 zt_yX7_isWithin zn_RX7 zc_yX7_isWithin (hy_X7_isWithin) (Nat.le_of_ble_eq_true rfl) (Nat.le_of_ble_eq_true rfl) rfl rfl rfl (Nat.le_of_ble_eq_true rfl) dX7_isValueOfKind_41 ?_
    exact z_zret hE hR dX7_isValueOfKind_44 (by unfold zbo; split <;> omega) (congrArg (fun x => some (Value.int (i32 x))) (by first | exact zbo_cg (by omega) | exact zbo_f (by omega))) (by first | rfl | (simp only [us_id]))
  by_cases k1_1 : k = 1
  · refine z_tIn (tgt := 45) hE 1 dX7_isValueOfKind_1 ⟨by omega, by omega⟩ k1_1 (by decide) (by decide) rfl (by decide) ?_
    refine z_iload_n hE 1 rfl rfl dX7_isValueOfKind_45 ?_
    refine z_iconst hE dX7_isValueOfKind_46 ?_
    refine z_bipush (a := 100) hE (by decide) dX7_isValueOfKind_47 ?_
    refine z_callS hE (c_X7_isWithin l0 D0 cI0 cJ0 ad S v 5 100 (⟨by omega, by omega⟩) (⟨by omega, by omega⟩) (⟨by omega, by omega⟩)) zm_X7_56 zt_yX7_isWithin zn_RX7 zc_yX7_isWithin (hy_X7_isWithin) (Nat.le_of_ble_eq_true rfl) (Nat.le_of_ble_eq_true rfl) rfl rfl rfl (Nat.le_of_ble_eq_true rfl) dX7_isValueOfKind_49 ?_
    exact z_zret hE hR dX7_isValueOfKind_52 (by unfold zbo; split <;> omega) (congrArg (fun x => some (Value.int (i32 x))) (by first | exact zbo_cg (by omega) | exact zbo_f (by omega))) (by first | rfl | (simp only [us_id]))
  by_cases k1_2 : k = 2
  · refine z_tIn (tgt := 53) hE 2 dX7_isValueOfKind_1 ⟨by omega, by omega⟩ k1_2 (by decide) (by decide) rfl (by decide) ?_
    refine z_iload_n hE 1 rfl rfl dX7_isValueOfKind_53 ?_
    refine z_iconst hE dX7_isValueOfKind_54 ?_
    refine z_bipush (a := 10) hE (by decide) dX7_isValueOfKind_55 ?_
    refine z_callS hE (c_X7_isWithin l0 D0 cI0 cJ0 ad S v 1 10 (⟨by omega, by omega⟩) (⟨by omega, by omega⟩) (⟨by omega, by omega⟩)) zm_X7_56 zt_yX7_isWithin zn_RX7 zc_yX7_isWithin (hy_X7_isWithin) (Nat.le_of_ble_eq_true rfl) (Nat.le_of_ble_eq_true rfl) rfl rfl rfl (Nat.le_of_ble_eq_true rfl) dX7_isValueOfKind_57 ?_
    exact z_zret hE hR dX7_isValueOfKind_60 (by unfold zbo; split <;> omega) (congrArg (fun x => some (Value.int (i32 x))) (by first | exact zbo_cg (by omega) | exact zbo_f (by omega))) (by first | rfl | (simp only [us_id]))
  by_cases k1_3 : k = 3
  · refine z_tIn (tgt := 61) hE 3 dX7_isValueOfKind_1 ⟨by omega, by omega⟩ k1_3 (by decide) (by decide) rfl (by decide) ?_
    refine z_iload_n hE 1 rfl rfl dX7_isValueOfKind_61 ?_
    refine z_iconst hE dX7_isValueOfKind_62 ?_
    refine z_sipush (a := 1000) hE (by decide) dX7_isValueOfKind_63 ?_
    refine z_callS hE (c_X7_isWithin l0 D0 cI0 cJ0 ad S v 1 1000 (⟨by omega, by omega⟩) (⟨by omega, by omega⟩) (⟨by omega, by omega⟩)) zm_X7_56 zt_yX7_isWithin zn_RX7 zc_yX7_isWithin (hy_X7_isWithin) (Nat.le_of_ble_eq_true rfl) (Nat.le_of_ble_eq_true rfl) rfl rfl rfl (Nat.le_of_ble_eq_true rfl) dX7_isValueOfKind_66 ?_
    exact z_zret hE hR dX7_isValueOfKind_69 (by unfold zbo; split <;> omega) (congrArg (fun x => some (Value.int (i32 x))) (by first | exact zbo_cg (by omega) | exact zbo_f (by omega))) (by first | rfl | (simp only [us_id]))
  by_cases k1_4 : k = 4
  · refine z_tIn (tgt := 70) hE 4 dX7_isValueOfKind_1 ⟨by omega, by omega⟩ k1_4 (by decide) (by decide) rfl (by decide) ?_
    refine z_iload_n hE 1 rfl rfl dX7_isValueOfKind_70 ?_
    refine z_iconst hE dX7_isValueOfKind_71 ?_
    refine z_bipush (a := 100) hE (by decide) dX7_isValueOfKind_72 ?_
    refine z_callS hE (c_X7_isWithin l0 D0 cI0 cJ0 ad S v 1 100 (⟨by omega, by omega⟩) (⟨by omega, by omega⟩) (⟨by omega, by omega⟩)) zm_X7_56 zt_yX7_isWithin zn_RX7 zc_yX7_isWithin (hy_X7_isWithin) (Nat.le_of_ble_eq_true rfl) (Nat.le_of_ble_eq_true rfl) rfl rfl rfl (Nat.le_of_ble_eq_true rfl) dX7_isValueOfKind_74 ?_
    exact z_zret hE hR dX7_isValueOfKind_77 (by unfold zbo; split <;> omega) (congrArg (fun x => some (Value.int (i32 x))) (by first | exact zbo_cg (by omega) | exact zbo_f (by omega))) (by first | rfl | (simp only [us_id]))
  refine z_tOut (tgt := 78) hE dX7_isValueOfKind_1 ⟨by omega, by omega⟩ (by omega) (by decide) ?_
  refine z_iconst hE dX7_isValueOfKind_78 ?_
  exact z_zret hE hR dX7_isValueOfKind_79 (by decide) (congrArg (fun x => some (Value.int (i32 x))) (by first | exact zbo_cg (by omega) | exact zbo_f (by omega))) (by first | rfl | (simp only [us_id]))
theorem ediv_b {a b M : Int} (h : 1 ≤ b) (h1 : -M ≤ a) (h2 : a ≤ M) : -M ≤ a / b ∧ a / b ≤ M := by
  have e := Int.mul_ediv_add_emod a b
  have e1 := Int.emod_nonneg a (show b ≠ 0 by omega)
  have e2 := Int.emod_lt_of_pos a (show 0 < b by omega)
  constructor
  · rcases Int.lt_or_le (a / b) (-M) with q | q
    · exfalso
      have h3 : b * (a / b) ≤ 1 * (a / b) + 0 := by
        have h4 := Int.mul_le_mul_of_nonneg_left (show a / b ≤ 0 by omega) (show 0 ≤ b - 1 by omega)
        rw [Int.sub_mul] at h4; omega
      have h5 : b * (a / b) ≤ b * (-M - 1) := Int.mul_le_mul_of_nonneg_left (by omega) (by omega)
      have h6 : b * (-M - 1) = -(b * M) - b := by rw [Int.mul_sub, Int.mul_neg, Int.mul_one]
      have h7 : M ≤ b * M := by
        have h8 := Int.mul_le_mul_of_nonneg_right h (show 0 ≤ M by omega)
        omega
      omega
    · exact q
  · rcases Int.lt_or_le M (a / b) with q | q
    · exfalso
      have h3 : 1 * (a / b) ≤ b * (a / b) := Int.mul_le_mul_of_nonneg_right h (by omega)
      omega
    · exact q
theorem dX0_valueOfOne_0 : decode cX0_valueOfOne 0 = .ok (.aload_n 0, 1) := by decide +kernel
theorem dX0_valueOfOne_1 : decode cX0_valueOfOne 1 = .ok (.getfield 9, 3) := by decide +kernel
theorem dX0_valueOfOne_4 : decode cX0_valueOfOne 4 = .ok (.aload_n 0, 1) := by decide +kernel
theorem dX0_valueOfOne_5 : decode cX0_valueOfOne 5 = .ok (.getfield 15, 3) := by decide +kernel
theorem dX0_valueOfOne_8 : decode cX0_valueOfOne 8 = .ok (.isub, 1) := by decide +kernel
theorem dX0_valueOfOne_9 : decode cX0_valueOfOne 9 = .ok (.iload_n 1, 1) := by decide +kernel
theorem dX0_valueOfOne_10 : decode cX0_valueOfOne 10 = .ok (.invokestatic 34, 3) := by decide +kernel
theorem dX0_valueOfOne_13 : decode cX0_valueOfOne 13 = .ok (.istore_n 2, 1) := by decide +kernel
theorem dX0_valueOfOne_14 : decode cX0_valueOfOne 14 = .ok (.bipush 10, 2) := by decide +kernel
theorem dX0_valueOfOne_16 : decode cX0_valueOfOne 16 = .ok (.aload_n 0, 1) := by decide +kernel
theorem dX0_valueOfOne_17 : decode cX0_valueOfOne 17 = .ok (.invokevirtual 38, 3) := by decide +kernel
theorem dX0_valueOfOne_20 : decode cX0_valueOfOne 20 = .ok (.imul, 1) := by decide +kernel
theorem dX0_valueOfOne_21 : decode cX0_valueOfOne 21 = .ok (.iload_n 1, 1) := by decide +kernel
theorem dX0_valueOfOne_22 : decode cX0_valueOfOne 22 = .ok (.invokestatic 34, 3) := by decide +kernel
theorem dX0_valueOfOne_25 : decode cX0_valueOfOne 25 = .ok (.istore_n 3, 1) := by decide +kernel
theorem dX0_valueOfOne_26 : decode cX0_valueOfOne 26 = .ok (.iconst 3, 1) := by decide +kernel
theorem dX0_valueOfOne_27 : decode cX0_valueOfOne 27 = .ok (.iload_n 2, 1) := by decide +kernel
theorem dX0_valueOfOne_28 : decode cX0_valueOfOne 28 = .ok (.imul, 1) := by decide +kernel
theorem dX0_valueOfOne_29 : decode cX0_valueOfOne 29 = .ok (.iconst 2, 1) := by decide +kernel
theorem dX0_valueOfOne_30 : decode cX0_valueOfOne 30 = .ok (.iload_n 3, 1) := by decide +kernel
theorem dX0_valueOfOne_31 : decode cX0_valueOfOne 31 = .ok (.imul, 1) := by decide +kernel
theorem dX0_valueOfOne_32 : decode cX0_valueOfOne 32 = .ok (.iadd, 1) := by decide +kernel
theorem dX0_valueOfOne_33 : decode cX0_valueOfOne 33 = .ok (.iconst 5, 1) := by decide +kernel
theorem dX0_valueOfOne_34 : decode cX0_valueOfOne 34 = .ok (.invokestatic 34, 3) := by decide +kernel
theorem dX0_valueOfOne_37 : decode cX0_valueOfOne 37 = .ok (.ireturn, 1) := by decide +kernel
theorem hy_X0_valueOfOne : yX0_valueOfOne.cls ≠ "java/lang/invoke/MethodHandle" ∧ yX0_valueOfOne.cls ≠ "java/lang/invoke/VarHandle" ∧ (parseMethodDescriptor yX0_valueOfOne.desc).map (fun d => d.parameters.length) = some 1 := ⟨by decide +kernel, by decide +kernel, by decide +kernel⟩
set_option maxHeartbeats 4000000 in
set_option maxRecDepth 100000 in
theorem c_X0_valueOfOne (l0 : Launch) (D0 : va_G) (cI0 cJ0 : ClassId) (ad : Nat → Nat → Nat) (S : zM) (r : Nat) (hr : r < 5) (all : Int) (h0 : 1 ≤ all ∧ all ≤ 10000) (hI : Inv0 (S r)) : Ct l0 D0 cI0 cJ0 ad yX0_valueOfOne cX0_valueOfOne 4 (some .int) 3 65 [.ref (ad r 6), .int (i32 all)] S (some (.int (i32 (sp_val (S r) all)))) (fun X => X = S) := by
  refine Ct.of (by decide) (Nat.le_of_ble_eq_true rfl) (fun E hE hR => ?_)
  have hE : zG E l0 D0 cI0 cJ0 ad cX0_valueOfOne 4 RX0 3 65 := hE
  show Z E S 0 [(0, .ref (ad r 6)), (1, .int (i32 all))] []
  have hA := inA hI
  unfold InvA at hA
  have hm := mean_b hI
  refine z_aload_n hE 0 rfl rfl dX0_valueOfOne_0 ?_
  refine gf_0_0 hE (ks_m hr (by decide)) zf_X0_9 dX0_valueOfOne_1 ?_
  refine z_aload_n hE 0 rfl rfl dX0_valueOfOne_4 ?_
  refine gf_0_1 hE (ks_m hr (by decide)) zf_X0_15 dX0_valueOfOne_5 ?_
  refine z_isub hE dX0_valueOfOne_8 ?_
  refine z_iload_n hE 1 rfl rfl dX0_valueOfOne_9 ?_
  refine z_callN hE (c_X7_quotient l0 D0 cI0 cJ0 ad S ((S r 7) - (S r 8)) all (⟨by omega, by omega⟩) (⟨by omega, by omega⟩) (by omega)) (List.mem_of_getElem? (i := 8) rfl) zt_yX7_quotient zn_RX7 zc_yX7_quotient (hy_X7_quotient) (Nat.le_of_ble_eq_true rfl) (Nat.le_of_ble_eq_true rfl) rfl rfl rfl (Nat.le_of_ble_eq_true rfl) dX0_valueOfOne_10 ?_
  refine z_istore_n hE rfl (by decide) rfl dX0_valueOfOne_13 ?_
  refine z_bipush (a := 10) hE (by decide) dX0_valueOfOne_14 ?_
  refine z_aload_n hE 1 rfl rfl dX0_valueOfOne_16 ?_
  refine z_callV hE (c_X0_meanSurplus l0 D0 cI0 cJ0 ad S r hr (by omega) (inS hI)) (ks_m hr (by decide)) rfl rfl zm_X0_38 zi_yX0_meanSurplus zs_yX0_meanSurplus zn_RX0 zc_yX0_meanSurplus (hy_X0_meanSurplus) (Nat.le_of_ble_eq_true rfl) (Nat.le_of_ble_eq_true rfl) rfl rfl rfl (Nat.le_of_ble_eq_true rfl) dX0_valueOfOne_17 ?_
  refine z_imul hE dX0_valueOfOne_20 ?_
  refine z_iload_n hE 2 rfl rfl dX0_valueOfOne_21 ?_
  refine z_callN hE (c_X7_quotient l0 D0 cI0 cJ0 ad S (10 * (sp_mean ((S r)))) all (⟨by omega, by omega⟩) (⟨by omega, by omega⟩) (by omega)) (List.mem_of_getElem? (i := 8) rfl) zt_yX7_quotient zn_RX7 zc_yX7_quotient (hy_X7_quotient) (Nat.le_of_ble_eq_true rfl) (Nat.le_of_ble_eq_true rfl) rfl rfl rfl (Nat.le_of_ble_eq_true rfl) dX0_valueOfOne_22 ?_
  have e1 : -100000000 ≤ (S r 7 - S r 8) / all ∧ (S r 7 - S r 8) / all ≤ 100000000 := ediv_b (by omega) (by omega) (by omega)
  have e2 : -10000000 ≤ 10 * sp_mean (S r) / all ∧ 10 * sp_mean (S r) / all ≤ 10000000 := ediv_b (by omega) (by omega) (by omega)
  refine z_istore_n hE rfl (by decide) rfl dX0_valueOfOne_25 ?_
  refine z_iconst hE dX0_valueOfOne_26 ?_
  refine z_iload_n hE 1 rfl rfl dX0_valueOfOne_27 ?_
  refine z_imul hE dX0_valueOfOne_28 ?_
  refine z_iconst hE dX0_valueOfOne_29 ?_
  refine z_iload_n hE 0 rfl rfl dX0_valueOfOne_30 ?_
  refine z_imul hE dX0_valueOfOne_31 ?_
  refine z_iadd hE dX0_valueOfOne_32 ?_
  refine z_iconst hE dX0_valueOfOne_33 ?_
  refine z_callN hE (c_X7_quotient l0 D0 cI0 cJ0 ad S ((3 * (((S r 7) - (S r 8)) / all)) + (2 * ((10 * (sp_mean ((S r)))) / all))) 5 (⟨by omega, by omega⟩) (⟨by omega, by omega⟩) (by omega)) (List.mem_of_getElem? (i := 8) rfl) zt_yX7_quotient zn_RX7 zc_yX7_quotient (hy_X7_quotient) (Nat.le_of_ble_eq_true rfl) (Nat.le_of_ble_eq_true rfl) rfl rfl rfl (Nat.le_of_ble_eq_true rfl) dX0_valueOfOne_34 ?_

  exact z_iret hE hR dX0_valueOfOne_37 (congrArg (fun x => some (Value.int (i32 x))) (by first | rfl | omega)) (by first | rfl | (simp only [us_id]))
theorem dX1_copyFrom_0 : decode cX1_copyFrom 0 = .ok (.aload_n 0, 1) := by decide +kernel
theorem dX1_copyFrom_1 : decode cX1_copyFrom 1 = .ok (.aload_n 1, 1) := by decide +kernel
theorem dX1_copyFrom_2 : decode cX1_copyFrom 2 = .ok (.getfield 9, 3) := by decide +kernel
theorem dX1_copyFrom_5 : decode cX1_copyFrom 5 = .ok (.putfield 9, 3) := by decide +kernel
theorem dX1_copyFrom_8 : decode cX1_copyFrom 8 = .ok (.aload_n 1, 1) := by decide +kernel
theorem dX1_copyFrom_9 : decode cX1_copyFrom 9 = .ok (.getfield 15, 3) := by decide +kernel
theorem dX1_copyFrom_12 : decode cX1_copyFrom 12 = .ok (.iconst 0, 1) := by decide +kernel
theorem dX1_copyFrom_13 : decode cX1_copyFrom 13 = .ok (.aload_n 0, 1) := by decide +kernel
theorem dX1_copyFrom_14 : decode cX1_copyFrom 14 = .ok (.getfield 15, 3) := by decide +kernel
theorem dX1_copyFrom_17 : decode cX1_copyFrom 17 = .ok (.iconst 0, 1) := by decide +kernel
theorem dX1_copyFrom_18 : decode cX1_copyFrom 18 = .ok (.bipush 12, 2) := by decide +kernel
theorem dX1_copyFrom_20 : decode cX1_copyFrom 20 = .ok (.invokestatic 26, 3) := by decide +kernel
theorem dX1_copyFrom_23 : decode cX1_copyFrom 23 = .ok (.aload_n 1, 1) := by decide +kernel
theorem dX1_copyFrom_24 : decode cX1_copyFrom 24 = .ok (.getfield 19, 3) := by decide +kernel
theorem dX1_copyFrom_27 : decode cX1_copyFrom 27 = .ok (.iconst 0, 1) := by decide +kernel
theorem dX1_copyFrom_28 : decode cX1_copyFrom 28 = .ok (.aload_n 0, 1) := by decide +kernel
theorem dX1_copyFrom_29 : decode cX1_copyFrom 29 = .ok (.getfield 19, 3) := by decide +kernel
theorem dX1_copyFrom_32 : decode cX1_copyFrom 32 = .ok (.iconst 0, 1) := by decide +kernel
theorem dX1_copyFrom_33 : decode cX1_copyFrom 33 = .ok (.bipush 12, 2) := by decide +kernel
theorem dX1_copyFrom_35 : decode cX1_copyFrom 35 = .ok (.invokestatic 26, 3) := by decide +kernel
theorem dX1_copyFrom_38 : decode cX1_copyFrom 38 = .ok (.aload_n 1, 1) := by decide +kernel
theorem dX1_copyFrom_39 : decode cX1_copyFrom 39 = .ok (.getfield 22, 3) := by decide +kernel
theorem dX1_copyFrom_42 : decode cX1_copyFrom 42 = .ok (.iconst 0, 1) := by decide +kernel
theorem dX1_copyFrom_43 : decode cX1_copyFrom 43 = .ok (.aload_n 0, 1) := by decide +kernel
theorem dX1_copyFrom_44 : decode cX1_copyFrom 44 = .ok (.getfield 22, 3) := by decide +kernel
theorem dX1_copyFrom_47 : decode cX1_copyFrom 47 = .ok (.iconst 0, 1) := by decide +kernel
theorem dX1_copyFrom_48 : decode cX1_copyFrom 48 = .ok (.bipush 12, 2) := by decide +kernel
theorem dX1_copyFrom_50 : decode cX1_copyFrom 50 = .ok (.invokestatic 26, 3) := by decide +kernel
theorem dX1_copyFrom_53 : decode cX1_copyFrom 53 = .ok (.return_, 1) := by decide +kernel
theorem hy_X1_copyFrom : yX1_copyFrom.cls ≠ "java/lang/invoke/MethodHandle" ∧ yX1_copyFrom.cls ≠ "java/lang/invoke/VarHandle" ∧ (parseMethodDescriptor yX1_copyFrom.desc).map (fun d => d.parameters.length) = some 1 := ⟨by decide +kernel, by decide +kernel, by decide +kernel⟩
set_option maxHeartbeats 4000000 in
set_option maxRecDepth 100000 in
theorem c_X1_copyFrom (l0 : Launch) (D0 : va_G) (cI0 cJ0 : ClassId) (ad : Nat → Nat → Nat) (S : zM) (r : Nat) (hr : r < 5) (r2 : Nat) (hr2 : r2 < 5) (hne : r2 ≠ r) : Ct l0 D0 cI0 cJ0 ad yX1_copyFrom cX1_copyFrom 2 none 1 26 [.ref (ad r 1), .ref (ad r2 1)] S none (fun X => X = (us S r (cpg 1 4 (S r) (S r2)))) := by
  refine Ct.of (by decide) (Nat.le_of_ble_eq_true rfl) (fun E hE hR => ?_)
  have hE : zG E l0 D0 cI0 cJ0 ad cX1_copyFrom 2 RX1 1 26 := hE
  show Z E S 0 [(0, .ref (ad r 1)), (1, .ref (ad r2 1))] []
  refine z_aload_n hE 0 rfl rfl dX1_copyFrom_0 ?_
  refine z_aload_n hE 1 rfl rfl dX1_copyFrom_1 ?_
  refine gf_1_0 hE (ks_m hr2 (by decide)) zf_X1_9 dX1_copyFrom_2 ?_
  refine pf_1_0 hE (ks_m hr (by decide)) zf_X1_9 dX1_copyFrom_5 ?_
  refine z_aload_n hE 1 rfl rfl dX1_copyFrom_8 ?_
  refine gf_1_1 hE (ks_m hr2 (by decide)) zf_X1_15 dX1_copyFrom_9 ?_
  refine z_iconst hE dX1_copyFrom_12 ?_
  refine z_aload_n hE 0 rfl rfl dX1_copyFrom_13 ?_
  refine gf_1_1 hE (ks_m hr (by decide)) zf_X1_15 dX1_copyFrom_14 ?_
  refine z_iconst hE dX1_copyFrom_17 ?_
  refine z_bipush (a := 12) hE (by decide) dX1_copyFrom_18 ?_
  refine ac_2 hE (ks_m hr2 (by decide)) (ks_m hr (by decide)) zm_X1_26 (by decide) (Nat.le_of_ble_eq_true rfl) dX1_copyFrom_20 ?_
  try simp only [us_eq, us_us, us_ne hne]
  refine z_aload_n hE 1 rfl rfl dX1_copyFrom_23 ?_
  refine gf_1_2 hE (ks_m hr2 (by decide)) zf_X1_19 dX1_copyFrom_24 ?_
  refine z_iconst hE dX1_copyFrom_27 ?_
  refine z_aload_n hE 0 rfl rfl dX1_copyFrom_28 ?_
  refine gf_1_2 hE (ks_m hr (by decide)) zf_X1_19 dX1_copyFrom_29 ?_
  refine z_iconst hE dX1_copyFrom_32 ?_
  refine z_bipush (a := 12) hE (by decide) dX1_copyFrom_33 ?_
  refine ac_3 hE (ks_m hr2 (by decide)) (ks_m hr (by decide)) zm_X1_26 (by decide) (Nat.le_of_ble_eq_true rfl) dX1_copyFrom_35 ?_
  try simp only [us_eq, us_us, us_ne hne]
  refine z_aload_n hE 1 rfl rfl dX1_copyFrom_38 ?_
  refine gf_1_3 hE (ks_m hr2 (by decide)) zf_X1_22 dX1_copyFrom_39 ?_
  refine z_iconst hE dX1_copyFrom_42 ?_
  refine z_aload_n hE 0 rfl rfl dX1_copyFrom_43 ?_
  refine gf_1_3 hE (ks_m hr (by decide)) zf_X1_22 dX1_copyFrom_44 ?_
  refine z_iconst hE dX1_copyFrom_47 ?_
  refine z_bipush (a := 12) hE (by decide) dX1_copyFrom_48 ?_
  refine ac_4 hE (ks_m hr2 (by decide)) (ks_m hr (by decide)) zm_X1_26 (by decide) (Nat.le_of_ble_eq_true rfl) dX1_copyFrom_50 ?_
  try simp only [us_eq, us_us, us_ne hne]
  refine z_memA hE hr (g := cpg 1 4 (S r) (S r2)) (fun q hq => ?_) ?_
  · have hk : kyA q = 1 → q = 0 := kyA_i1
    by_cases e0 : q = 0
    · subst e0; simp [cpg, up, kyA]
    unfold cpg up; simp only [e0, if_false]; (repeat' split) <;> first | rfl | omega
  exact z_vret hE hR dX1_copyFrom_53 rfl (by rfl)
theorem dX5_copyFrom_0 : decode cX5_copyFrom 0 = .ok (.aload_n 0, 1) := by decide +kernel
theorem dX5_copyFrom_1 : decode cX5_copyFrom 1 = .ok (.aload_n 1, 1) := by decide +kernel
theorem dX5_copyFrom_2 : decode cX5_copyFrom 2 = .ok (.getfield 9, 3) := by decide +kernel
theorem dX5_copyFrom_5 : decode cX5_copyFrom 5 = .ok (.putfield 9, 3) := by decide +kernel
theorem dX5_copyFrom_8 : decode cX5_copyFrom 8 = .ok (.aload_n 0, 1) := by decide +kernel
theorem dX5_copyFrom_9 : decode cX5_copyFrom 9 = .ok (.aload_n 1, 1) := by decide +kernel
theorem dX5_copyFrom_10 : decode cX5_copyFrom 10 = .ok (.getfield 15, 3) := by decide +kernel
theorem dX5_copyFrom_13 : decode cX5_copyFrom 13 = .ok (.putfield 15, 3) := by decide +kernel
theorem dX5_copyFrom_16 : decode cX5_copyFrom 16 = .ok (.aload_n 0, 1) := by decide +kernel
theorem dX5_copyFrom_17 : decode cX5_copyFrom 17 = .ok (.aload_n 1, 1) := by decide +kernel
theorem dX5_copyFrom_18 : decode cX5_copyFrom 18 = .ok (.getfield 18, 3) := by decide +kernel
theorem dX5_copyFrom_21 : decode cX5_copyFrom 21 = .ok (.putfield 18, 3) := by decide +kernel
theorem dX5_copyFrom_24 : decode cX5_copyFrom 24 = .ok (.aload_n 0, 1) := by decide +kernel
theorem dX5_copyFrom_25 : decode cX5_copyFrom 25 = .ok (.aload_n 1, 1) := by decide +kernel
theorem dX5_copyFrom_26 : decode cX5_copyFrom 26 = .ok (.getfield 21, 3) := by decide +kernel
theorem dX5_copyFrom_29 : decode cX5_copyFrom 29 = .ok (.putfield 21, 3) := by decide +kernel
theorem dX5_copyFrom_32 : decode cX5_copyFrom 32 = .ok (.aload_n 0, 1) := by decide +kernel
theorem dX5_copyFrom_33 : decode cX5_copyFrom 33 = .ok (.aload_n 1, 1) := by decide +kernel
theorem dX5_copyFrom_34 : decode cX5_copyFrom 34 = .ok (.getfield 24, 3) := by decide +kernel
theorem dX5_copyFrom_37 : decode cX5_copyFrom 37 = .ok (.putfield 24, 3) := by decide +kernel
theorem dX5_copyFrom_40 : decode cX5_copyFrom 40 = .ok (.aload_n 0, 1) := by decide +kernel
theorem dX5_copyFrom_41 : decode cX5_copyFrom 41 = .ok (.aload_n 1, 1) := by decide +kernel
theorem dX5_copyFrom_42 : decode cX5_copyFrom 42 = .ok (.getfield 27, 3) := by decide +kernel
theorem dX5_copyFrom_45 : decode cX5_copyFrom 45 = .ok (.putfield 27, 3) := by decide +kernel
theorem dX5_copyFrom_48 : decode cX5_copyFrom 48 = .ok (.aload_n 0, 1) := by decide +kernel
theorem dX5_copyFrom_49 : decode cX5_copyFrom 49 = .ok (.aload_n 1, 1) := by decide +kernel
theorem dX5_copyFrom_50 : decode cX5_copyFrom 50 = .ok (.getfield 30, 3) := by decide +kernel
theorem dX5_copyFrom_53 : decode cX5_copyFrom 53 = .ok (.putfield 30, 3) := by decide +kernel
theorem dX5_copyFrom_56 : decode cX5_copyFrom 56 = .ok (.return_, 1) := by decide +kernel
theorem hy_X5_copyFrom : yX5_copyFrom.cls ≠ "java/lang/invoke/MethodHandle" ∧ yX5_copyFrom.cls ≠ "java/lang/invoke/VarHandle" ∧ (parseMethodDescriptor yX5_copyFrom.desc).map (fun d => d.parameters.length) = some 1 := ⟨by decide +kernel, by decide +kernel, by decide +kernel⟩
set_option maxHeartbeats 4000000 in
set_option maxRecDepth 100000 in
theorem c_X5_copyFrom (l0 : Launch) (D0 : va_G) (cI0 cJ0 : ClassId) (ad : Nat → Nat → Nat) (S : zM) (r : Nat) (hr : r < 5) (r2 : Nat) (hr2 : r2 < 5) (hne : r2 ≠ r) : Ct l0 D0 cI0 cJ0 ad yX5_copyFrom cX5_copyFrom 2 none 0 0 [.ref (ad r 5), .ref (ad r2 5)] S none (fun X => X = (us S r (cpg 5 5 (S r) (S r2)))) := by
  refine Ct.of (by decide) (Nat.le_of_ble_eq_true rfl) (fun E hE hR => ?_)
  have hE : zG E l0 D0 cI0 cJ0 ad cX5_copyFrom 2 RX5 0 0 := hE
  show Z E S 0 [(0, .ref (ad r 5)), (1, .ref (ad r2 5))] []
  refine z_aload_n hE 0 rfl rfl dX5_copyFrom_0 ?_
  refine z_aload_n hE 1 rfl rfl dX5_copyFrom_1 ?_
  refine gf_5_0 hE (ks_m hr2 (by decide)) zf_X5_9 dX5_copyFrom_2 ?_
  refine pf_5_0 hE (ks_m hr (by decide)) zf_X5_9 dX5_copyFrom_5 ?_
  refine z_aload_n hE 0 rfl rfl dX5_copyFrom_8 ?_
  refine z_aload_n hE 1 rfl rfl dX5_copyFrom_9 ?_
  refine gf_5_1 hE (ks_m hr2 (by decide)) zf_X5_15 dX5_copyFrom_10 ?_
  try simp only [us_eq, us_us, us_ne hne]
  refine pf_5_1 hE (ks_m hr (by decide)) zf_X5_15 dX5_copyFrom_13 ?_
  try simp only [us_eq, us_us, us_ne hne]
  refine z_aload_n hE 0 rfl rfl dX5_copyFrom_16 ?_
  refine z_aload_n hE 1 rfl rfl dX5_copyFrom_17 ?_
  refine gf_5_2 hE (ks_m hr2 (by decide)) zf_X5_18 dX5_copyFrom_18 ?_
  try simp only [us_eq, us_us, us_ne hne]
  refine pf_5_2 hE (ks_m hr (by decide)) zf_X5_18 dX5_copyFrom_21 ?_
  try simp only [us_eq, us_us, us_ne hne]
  refine z_aload_n hE 0 rfl rfl dX5_copyFrom_24 ?_
  refine z_aload_n hE 1 rfl rfl dX5_copyFrom_25 ?_
  refine gf_5_3 hE (ks_m hr2 (by decide)) zf_X5_21 dX5_copyFrom_26 ?_
  try simp only [us_eq, us_us, us_ne hne]
  refine pf_5_3 hE (ks_m hr (by decide)) zf_X5_21 dX5_copyFrom_29 ?_
  try simp only [us_eq, us_us, us_ne hne]
  refine z_aload_n hE 0 rfl rfl dX5_copyFrom_32 ?_
  refine z_aload_n hE 1 rfl rfl dX5_copyFrom_33 ?_
  refine gf_5_4 hE (ks_m hr2 (by decide)) zf_X5_24 dX5_copyFrom_34 ?_
  try simp only [us_eq, us_us, us_ne hne]
  refine pf_5_4 hE (ks_m hr (by decide)) zf_X5_24 dX5_copyFrom_37 ?_
  try simp only [us_eq, us_us, us_ne hne]
  refine z_aload_n hE 0 rfl rfl dX5_copyFrom_40 ?_
  refine z_aload_n hE 1 rfl rfl dX5_copyFrom_41 ?_
  refine gf_5_5 hE (ks_m hr2 (by decide)) zf_X5_27 dX5_copyFrom_42 ?_
  try simp only [us_eq, us_us, us_ne hne]
  refine pf_5_5 hE (ks_m hr (by decide)) zf_X5_27 dX5_copyFrom_45 ?_
  try simp only [us_eq, us_us, us_ne hne]
  refine z_aload_n hE 0 rfl rfl dX5_copyFrom_48 ?_
  refine z_aload_n hE 1 rfl rfl dX5_copyFrom_49 ?_
  refine gf_5_6 hE (ks_m hr2 (by decide)) zf_X5_30 dX5_copyFrom_50 ?_
  try simp only [us_eq, us_us, us_ne hne]
  refine pf_5_6 hE (ks_m hr (by decide)) zf_X5_30 dX5_copyFrom_53 ?_
  try simp only [us_eq, us_us, us_ne hne]
  refine z_memA hE hr (g := cpg 5 5 (S r) (S r2)) (fun q hq => ?_) ?_
  · have hk : kyA q = 5 → q = 1 ∨ q = 3 ∨ q = 4 ∨ q = 5 ∨ q = 13 ∨ q = 16 ∨ q = 17 := kyA_i5
    by_cases e1 : q = 1
    · subst e1; simp [cpg, up, kyA]
    by_cases e3 : q = 3
    · subst e3; simp [cpg, up, kyA]
    by_cases e4 : q = 4
    · subst e4; simp [cpg, up, kyA]
    by_cases e5 : q = 5
    · subst e5; simp [cpg, up, kyA]
    by_cases e13 : q = 13
    · subst e13; simp [cpg, up, kyA]
    by_cases e16 : q = 16
    · subst e16; simp [cpg, up, kyA]
    by_cases e17 : q = 17
    · subst e17; simp [cpg, up, kyA]
    unfold cpg up; simp only [e1, e3, e4, e5, e13, e16, e17, if_false]; (repeat' split) <;> first | rfl | omega
  exact z_vret hE hR dX5_copyFrom_56 rfl (by rfl)
theorem dX0_copyFrom_0 : decode cX0_copyFrom 0 = .ok (.aload_n 0, 1) := by decide +kernel
theorem dX0_copyFrom_1 : decode cX0_copyFrom 1 = .ok (.aload_n 1, 1) := by decide +kernel
theorem dX0_copyFrom_2 : decode cX0_copyFrom 2 = .ok (.getfield 9, 3) := by decide +kernel
theorem dX0_copyFrom_5 : decode cX0_copyFrom 5 = .ok (.putfield 9, 3) := by decide +kernel
theorem dX0_copyFrom_8 : decode cX0_copyFrom 8 = .ok (.aload_n 0, 1) := by decide +kernel
theorem dX0_copyFrom_9 : decode cX0_copyFrom 9 = .ok (.aload_n 1, 1) := by decide +kernel
theorem dX0_copyFrom_10 : decode cX0_copyFrom 10 = .ok (.getfield 15, 3) := by decide +kernel
theorem dX0_copyFrom_13 : decode cX0_copyFrom 13 = .ok (.putfield 15, 3) := by decide +kernel
theorem dX0_copyFrom_16 : decode cX0_copyFrom 16 = .ok (.aload_n 0, 1) := by decide +kernel
theorem dX0_copyFrom_17 : decode cX0_copyFrom 17 = .ok (.aload_n 1, 1) := by decide +kernel
theorem dX0_copyFrom_18 : decode cX0_copyFrom 18 = .ok (.getfield 18, 3) := by decide +kernel
theorem dX0_copyFrom_21 : decode cX0_copyFrom 21 = .ok (.putfield 18, 3) := by decide +kernel
theorem dX0_copyFrom_24 : decode cX0_copyFrom 24 = .ok (.aload_n 0, 1) := by decide +kernel
theorem dX0_copyFrom_25 : decode cX0_copyFrom 25 = .ok (.aload_n 1, 1) := by decide +kernel
theorem dX0_copyFrom_26 : decode cX0_copyFrom 26 = .ok (.getfield 21, 3) := by decide +kernel
theorem dX0_copyFrom_29 : decode cX0_copyFrom 29 = .ok (.putfield 21, 3) := by decide +kernel
theorem dX0_copyFrom_32 : decode cX0_copyFrom 32 = .ok (.aload_n 1, 1) := by decide +kernel
theorem dX0_copyFrom_33 : decode cX0_copyFrom 33 = .ok (.getfield 24, 3) := by decide +kernel
theorem dX0_copyFrom_36 : decode cX0_copyFrom 36 = .ok (.iconst 0, 1) := by decide +kernel
theorem dX0_copyFrom_37 : decode cX0_copyFrom 37 = .ok (.aload_n 0, 1) := by decide +kernel
theorem dX0_copyFrom_38 : decode cX0_copyFrom 38 = .ok (.getfield 24, 3) := by decide +kernel
theorem dX0_copyFrom_41 : decode cX0_copyFrom 41 = .ok (.iconst 0, 1) := by decide +kernel
theorem dX0_copyFrom_42 : decode cX0_copyFrom 42 = .ok (.iconst 3, 1) := by decide +kernel
theorem dX0_copyFrom_43 : decode cX0_copyFrom 43 = .ok (.invokestatic 28, 3) := by decide +kernel
theorem dX0_copyFrom_46 : decode cX0_copyFrom 46 = .ok (.return_, 1) := by decide +kernel
theorem hy_X0_copyFrom : yX0_copyFrom.cls ≠ "java/lang/invoke/MethodHandle" ∧ yX0_copyFrom.cls ≠ "java/lang/invoke/VarHandle" ∧ (parseMethodDescriptor yX0_copyFrom.desc).map (fun d => d.parameters.length) = some 1 := ⟨by decide +kernel, by decide +kernel, by decide +kernel⟩
set_option maxHeartbeats 4000000 in
set_option maxRecDepth 100000 in
theorem c_X0_copyFrom (l0 : Launch) (D0 : va_G) (cI0 cJ0 : ClassId) (ad : Nat → Nat → Nat) (S : zM) (r : Nat) (hr : r < 5) (r2 : Nat) (hr2 : r2 < 5) (hne : r2 ≠ r) : Ct l0 D0 cI0 cJ0 ad yX0_copyFrom cX0_copyFrom 2 none 1 26 [.ref (ad r 6), .ref (ad r2 6)] S none (fun X => X = (us S r (cpg 6 7 (S r) (S r2)))) := by
  refine Ct.of (by decide) (Nat.le_of_ble_eq_true rfl) (fun E hE hR => ?_)
  have hE : zG E l0 D0 cI0 cJ0 ad cX0_copyFrom 2 RX0 1 26 := hE
  show Z E S 0 [(0, .ref (ad r 6)), (1, .ref (ad r2 6))] []
  refine z_aload_n hE 0 rfl rfl dX0_copyFrom_0 ?_
  refine z_aload_n hE 1 rfl rfl dX0_copyFrom_1 ?_
  refine gf_0_0 hE (ks_m hr2 (by decide)) zf_X0_9 dX0_copyFrom_2 ?_
  refine pf_0_0 hE (ks_m hr (by decide)) zf_X0_9 dX0_copyFrom_5 ?_
  refine z_aload_n hE 0 rfl rfl dX0_copyFrom_8 ?_
  refine z_aload_n hE 1 rfl rfl dX0_copyFrom_9 ?_
  refine gf_0_1 hE (ks_m hr2 (by decide)) zf_X0_15 dX0_copyFrom_10 ?_
  try simp only [us_eq, us_us, us_ne hne]
  refine pf_0_1 hE (ks_m hr (by decide)) zf_X0_15 dX0_copyFrom_13 ?_
  try simp only [us_eq, us_us, us_ne hne]
  refine z_aload_n hE 0 rfl rfl dX0_copyFrom_16 ?_
  refine z_aload_n hE 1 rfl rfl dX0_copyFrom_17 ?_
  refine gf_0_2 hE (ks_m hr2 (by decide)) zf_X0_18 dX0_copyFrom_18 ?_
  try simp only [us_eq, us_us, us_ne hne]
  refine pf_0_2 hE (ks_m hr (by decide)) zf_X0_18 dX0_copyFrom_21 ?_
  try simp only [us_eq, us_us, us_ne hne]
  refine z_aload_n hE 0 rfl rfl dX0_copyFrom_24 ?_
  refine z_aload_n hE 1 rfl rfl dX0_copyFrom_25 ?_
  refine gf_0_3 hE (ks_m hr2 (by decide)) zf_X0_21 dX0_copyFrom_26 ?_
  try simp only [us_eq, us_us, us_ne hne]
  refine pf_0_3 hE (ks_m hr (by decide)) zf_X0_21 dX0_copyFrom_29 ?_
  try simp only [us_eq, us_us, us_ne hne]
  refine z_aload_n hE 1 rfl rfl dX0_copyFrom_32 ?_
  refine gf_0_4 hE (ks_m hr2 (by decide)) zf_X0_24 dX0_copyFrom_33 ?_
  refine z_iconst hE dX0_copyFrom_36 ?_
  refine z_aload_n hE 0 rfl rfl dX0_copyFrom_37 ?_
  refine gf_0_4 hE (ks_m hr (by decide)) zf_X0_24 dX0_copyFrom_38 ?_
  refine z_iconst hE dX0_copyFrom_41 ?_
  refine z_iconst hE dX0_copyFrom_42 ?_
  refine ac_7 hE (ks_m hr2 (by decide)) (ks_m hr (by decide)) zm_X0_28 (by decide) (Nat.le_of_ble_eq_true rfl) dX0_copyFrom_43 ?_
  try simp only [us_eq, us_us, us_ne hne]
  refine z_memA hE hr (g := cpg 6 7 (S r) (S r2)) (fun q hq => ?_) ?_
  · have hk : kyA q = 6 → q = 6 ∨ q = 7 ∨ q = 8 ∨ q = 9 := kyA_i6
    by_cases e6 : q = 6
    · subst e6; simp [cpg, up, kyA]
    by_cases e7 : q = 7
    · subst e7; simp [cpg, up, kyA]
    by_cases e8 : q = 8
    · subst e8; simp [cpg, up, kyA]
    by_cases e9 : q = 9
    · subst e9; simp [cpg, up, kyA]
    unfold cpg up; simp only [e6, e7, e8, e9, if_false]; (repeat' split) <;> first | rfl | omega
  exact z_vret hE hR dX0_copyFrom_46 rfl (by rfl)
theorem dX3_copyFrom_0 : decode cX3_copyFrom 0 = .ok (.aload_n 0, 1) := by decide +kernel
theorem dX3_copyFrom_1 : decode cX3_copyFrom 1 = .ok (.aload_n 1, 1) := by decide +kernel
theorem dX3_copyFrom_2 : decode cX3_copyFrom 2 = .ok (.getfield 9, 3) := by decide +kernel
theorem dX3_copyFrom_5 : decode cX3_copyFrom 5 = .ok (.putfield 9, 3) := by decide +kernel
theorem dX3_copyFrom_8 : decode cX3_copyFrom 8 = .ok (.aload_n 1, 1) := by decide +kernel
theorem dX3_copyFrom_9 : decode cX3_copyFrom 9 = .ok (.getfield 15, 3) := by decide +kernel
theorem dX3_copyFrom_12 : decode cX3_copyFrom 12 = .ok (.iconst 0, 1) := by decide +kernel
theorem dX3_copyFrom_13 : decode cX3_copyFrom 13 = .ok (.aload_n 0, 1) := by decide +kernel
theorem dX3_copyFrom_14 : decode cX3_copyFrom 14 = .ok (.getfield 15, 3) := by decide +kernel
theorem dX3_copyFrom_17 : decode cX3_copyFrom 17 = .ok (.iconst 0, 1) := by decide +kernel
theorem dX3_copyFrom_18 : decode cX3_copyFrom 18 = .ok (.bipush 20, 2) := by decide +kernel
theorem dX3_copyFrom_20 : decode cX3_copyFrom 20 = .ok (.invokestatic 40, 3) := by decide +kernel
theorem dX3_copyFrom_23 : decode cX3_copyFrom 23 = .ok (.aload_n 1, 1) := by decide +kernel
theorem dX3_copyFrom_24 : decode cX3_copyFrom 24 = .ok (.getfield 19, 3) := by decide +kernel
theorem dX3_copyFrom_27 : decode cX3_copyFrom 27 = .ok (.iconst 0, 1) := by decide +kernel
theorem dX3_copyFrom_28 : decode cX3_copyFrom 28 = .ok (.aload_n 0, 1) := by decide +kernel
theorem dX3_copyFrom_29 : decode cX3_copyFrom 29 = .ok (.getfield 19, 3) := by decide +kernel
theorem dX3_copyFrom_32 : decode cX3_copyFrom 32 = .ok (.iconst 0, 1) := by decide +kernel
theorem dX3_copyFrom_33 : decode cX3_copyFrom 33 = .ok (.bipush 20, 2) := by decide +kernel
theorem dX3_copyFrom_35 : decode cX3_copyFrom 35 = .ok (.invokestatic 40, 3) := by decide +kernel
theorem dX3_copyFrom_38 : decode cX3_copyFrom 38 = .ok (.aload_n 1, 1) := by decide +kernel
theorem dX3_copyFrom_39 : decode cX3_copyFrom 39 = .ok (.getfield 22, 3) := by decide +kernel
theorem dX3_copyFrom_42 : decode cX3_copyFrom 42 = .ok (.iconst 0, 1) := by decide +kernel
theorem dX3_copyFrom_43 : decode cX3_copyFrom 43 = .ok (.aload_n 0, 1) := by decide +kernel
theorem dX3_copyFrom_44 : decode cX3_copyFrom 44 = .ok (.getfield 22, 3) := by decide +kernel
theorem dX3_copyFrom_47 : decode cX3_copyFrom 47 = .ok (.iconst 0, 1) := by decide +kernel
theorem dX3_copyFrom_48 : decode cX3_copyFrom 48 = .ok (.bipush 20, 2) := by decide +kernel
theorem dX3_copyFrom_50 : decode cX3_copyFrom 50 = .ok (.invokestatic 40, 3) := by decide +kernel
theorem dX3_copyFrom_53 : decode cX3_copyFrom 53 = .ok (.aload_n 1, 1) := by decide +kernel
theorem dX3_copyFrom_54 : decode cX3_copyFrom 54 = .ok (.getfield 25, 3) := by decide +kernel
theorem dX3_copyFrom_57 : decode cX3_copyFrom 57 = .ok (.iconst 0, 1) := by decide +kernel
theorem dX3_copyFrom_58 : decode cX3_copyFrom 58 = .ok (.aload_n 0, 1) := by decide +kernel
theorem dX3_copyFrom_59 : decode cX3_copyFrom 59 = .ok (.getfield 25, 3) := by decide +kernel
theorem dX3_copyFrom_62 : decode cX3_copyFrom 62 = .ok (.iconst 0, 1) := by decide +kernel
theorem dX3_copyFrom_63 : decode cX3_copyFrom 63 = .ok (.bipush 20, 2) := by decide +kernel
theorem dX3_copyFrom_65 : decode cX3_copyFrom 65 = .ok (.invokestatic 40, 3) := by decide +kernel
theorem dX3_copyFrom_68 : decode cX3_copyFrom 68 = .ok (.aload_n 1, 1) := by decide +kernel
theorem dX3_copyFrom_69 : decode cX3_copyFrom 69 = .ok (.getfield 28, 3) := by decide +kernel
theorem dX3_copyFrom_72 : decode cX3_copyFrom 72 = .ok (.iconst 0, 1) := by decide +kernel
theorem dX3_copyFrom_73 : decode cX3_copyFrom 73 = .ok (.aload_n 0, 1) := by decide +kernel
theorem dX3_copyFrom_74 : decode cX3_copyFrom 74 = .ok (.getfield 28, 3) := by decide +kernel
theorem dX3_copyFrom_77 : decode cX3_copyFrom 77 = .ok (.iconst 0, 1) := by decide +kernel
theorem dX3_copyFrom_78 : decode cX3_copyFrom 78 = .ok (.bipush 20, 2) := by decide +kernel
theorem dX3_copyFrom_80 : decode cX3_copyFrom 80 = .ok (.invokestatic 40, 3) := by decide +kernel
theorem dX3_copyFrom_83 : decode cX3_copyFrom 83 = .ok (.aload_n 1, 1) := by decide +kernel
theorem dX3_copyFrom_84 : decode cX3_copyFrom 84 = .ok (.getfield 31, 3) := by decide +kernel
theorem dX3_copyFrom_87 : decode cX3_copyFrom 87 = .ok (.iconst 0, 1) := by decide +kernel
theorem dX3_copyFrom_88 : decode cX3_copyFrom 88 = .ok (.aload_n 0, 1) := by decide +kernel
theorem dX3_copyFrom_89 : decode cX3_copyFrom 89 = .ok (.getfield 31, 3) := by decide +kernel
theorem dX3_copyFrom_92 : decode cX3_copyFrom 92 = .ok (.iconst 0, 1) := by decide +kernel
theorem dX3_copyFrom_93 : decode cX3_copyFrom 93 = .ok (.bipush 20, 2) := by decide +kernel
theorem dX3_copyFrom_95 : decode cX3_copyFrom 95 = .ok (.invokestatic 40, 3) := by decide +kernel
theorem dX3_copyFrom_98 : decode cX3_copyFrom 98 = .ok (.aload_n 1, 1) := by decide +kernel
theorem dX3_copyFrom_99 : decode cX3_copyFrom 99 = .ok (.getfield 34, 3) := by decide +kernel
theorem dX3_copyFrom_102 : decode cX3_copyFrom 102 = .ok (.iconst 0, 1) := by decide +kernel
theorem dX3_copyFrom_103 : decode cX3_copyFrom 103 = .ok (.aload_n 0, 1) := by decide +kernel
theorem dX3_copyFrom_104 : decode cX3_copyFrom 104 = .ok (.getfield 34, 3) := by decide +kernel
theorem dX3_copyFrom_107 : decode cX3_copyFrom 107 = .ok (.iconst 0, 1) := by decide +kernel
theorem dX3_copyFrom_108 : decode cX3_copyFrom 108 = .ok (.bipush 80, 2) := by decide +kernel
theorem dX3_copyFrom_110 : decode cX3_copyFrom 110 = .ok (.invokestatic 40, 3) := by decide +kernel
theorem dX3_copyFrom_113 : decode cX3_copyFrom 113 = .ok (.aload_n 1, 1) := by decide +kernel
theorem dX3_copyFrom_114 : decode cX3_copyFrom 114 = .ok (.getfield 37, 3) := by decide +kernel
theorem dX3_copyFrom_117 : decode cX3_copyFrom 117 = .ok (.iconst 0, 1) := by decide +kernel
theorem dX3_copyFrom_118 : decode cX3_copyFrom 118 = .ok (.aload_n 0, 1) := by decide +kernel
theorem dX3_copyFrom_119 : decode cX3_copyFrom 119 = .ok (.getfield 37, 3) := by decide +kernel
theorem dX3_copyFrom_122 : decode cX3_copyFrom 122 = .ok (.iconst 0, 1) := by decide +kernel
theorem dX3_copyFrom_123 : decode cX3_copyFrom 123 = .ok (.sipush 240, 3) := by decide +kernel
theorem dX3_copyFrom_126 : decode cX3_copyFrom 126 = .ok (.invokestatic 40, 3) := by decide +kernel
theorem dX3_copyFrom_129 : decode cX3_copyFrom 129 = .ok (.return_, 1) := by decide +kernel
theorem hy_X3_copyFrom : yX3_copyFrom.cls ≠ "java/lang/invoke/MethodHandle" ∧ yX3_copyFrom.cls ≠ "java/lang/invoke/VarHandle" ∧ (parseMethodDescriptor yX3_copyFrom.desc).map (fun d => d.parameters.length) = some 1 := ⟨by decide +kernel, by decide +kernel, by decide +kernel⟩
set_option maxHeartbeats 4000000 in
set_option maxRecDepth 100000 in
theorem c_X3_copyFrom (l0 : Launch) (D0 : va_G) (cI0 cJ0 : ClassId) (ad : Nat → Nat → Nat) (S : zM) (r : Nat) (hr : r < 5) (r2 : Nat) (hr2 : r2 < 5) (hne : r2 ≠ r) : Ct l0 D0 cI0 cJ0 ad yX3_copyFrom cX3_copyFrom 2 none 1 26 [.ref (ad r 8), .ref (ad r2 8)] S none (fun X => X = (us S r (cpg 8 16 (S r) (S r2)))) := by
  refine Ct.of (by decide) (Nat.le_of_ble_eq_true rfl) (fun E hE hR => ?_)
  have hE : zG E l0 D0 cI0 cJ0 ad cX3_copyFrom 2 RX3 1 26 := hE
  show Z E S 0 [(0, .ref (ad r 8)), (1, .ref (ad r2 8))] []
  refine z_aload_n hE 0 rfl rfl dX3_copyFrom_0 ?_
  refine z_aload_n hE 1 rfl rfl dX3_copyFrom_1 ?_
  refine gf_3_0 hE (ks_m hr2 (by decide)) zf_X3_9 dX3_copyFrom_2 ?_
  refine pf_3_0 hE (ks_m hr (by decide)) zf_X3_9 dX3_copyFrom_5 ?_
  refine z_aload_n hE 1 rfl rfl dX3_copyFrom_8 ?_
  refine gf_3_1 hE (ks_m hr2 (by decide)) zf_X3_15 dX3_copyFrom_9 ?_
  refine z_iconst hE dX3_copyFrom_12 ?_
  refine z_aload_n hE 0 rfl rfl dX3_copyFrom_13 ?_
  refine gf_3_1 hE (ks_m hr (by decide)) zf_X3_15 dX3_copyFrom_14 ?_
  refine z_iconst hE dX3_copyFrom_17 ?_
  refine z_bipush (a := 20) hE (by decide) dX3_copyFrom_18 ?_
  refine ac_9 hE (ks_m hr2 (by decide)) (ks_m hr (by decide)) zm_X3_40 (by decide) (Nat.le_of_ble_eq_true rfl) dX3_copyFrom_20 ?_
  try simp only [us_eq, us_us, us_ne hne]
  refine z_aload_n hE 1 rfl rfl dX3_copyFrom_23 ?_
  refine gf_3_2 hE (ks_m hr2 (by decide)) zf_X3_19 dX3_copyFrom_24 ?_
  refine z_iconst hE dX3_copyFrom_27 ?_
  refine z_aload_n hE 0 rfl rfl dX3_copyFrom_28 ?_
  refine gf_3_2 hE (ks_m hr (by decide)) zf_X3_19 dX3_copyFrom_29 ?_
  refine z_iconst hE dX3_copyFrom_32 ?_
  refine z_bipush (a := 20) hE (by decide) dX3_copyFrom_33 ?_
  refine ac_10 hE (ks_m hr2 (by decide)) (ks_m hr (by decide)) zm_X3_40 (by decide) (Nat.le_of_ble_eq_true rfl) dX3_copyFrom_35 ?_
  try simp only [us_eq, us_us, us_ne hne]
  refine z_aload_n hE 1 rfl rfl dX3_copyFrom_38 ?_
  refine gf_3_3 hE (ks_m hr2 (by decide)) zf_X3_22 dX3_copyFrom_39 ?_
  refine z_iconst hE dX3_copyFrom_42 ?_
  refine z_aload_n hE 0 rfl rfl dX3_copyFrom_43 ?_
  refine gf_3_3 hE (ks_m hr (by decide)) zf_X3_22 dX3_copyFrom_44 ?_
  refine z_iconst hE dX3_copyFrom_47 ?_
  refine z_bipush (a := 20) hE (by decide) dX3_copyFrom_48 ?_
  refine ac_11 hE (ks_m hr2 (by decide)) (ks_m hr (by decide)) zm_X3_40 (by decide) (Nat.le_of_ble_eq_true rfl) dX3_copyFrom_50 ?_
  try simp only [us_eq, us_us, us_ne hne]
  refine z_aload_n hE 1 rfl rfl dX3_copyFrom_53 ?_
  refine gf_3_4 hE (ks_m hr2 (by decide)) zf_X3_25 dX3_copyFrom_54 ?_
  refine z_iconst hE dX3_copyFrom_57 ?_
  refine z_aload_n hE 0 rfl rfl dX3_copyFrom_58 ?_
  refine gf_3_4 hE (ks_m hr (by decide)) zf_X3_25 dX3_copyFrom_59 ?_
  refine z_iconst hE dX3_copyFrom_62 ?_
  refine z_bipush (a := 20) hE (by decide) dX3_copyFrom_63 ?_
  refine ac_12 hE (ks_m hr2 (by decide)) (ks_m hr (by decide)) zm_X3_40 (by decide) (Nat.le_of_ble_eq_true rfl) dX3_copyFrom_65 ?_
  try simp only [us_eq, us_us, us_ne hne]
  refine z_aload_n hE 1 rfl rfl dX3_copyFrom_68 ?_
  refine gf_3_5 hE (ks_m hr2 (by decide)) zf_X3_28 dX3_copyFrom_69 ?_
  refine z_iconst hE dX3_copyFrom_72 ?_
  refine z_aload_n hE 0 rfl rfl dX3_copyFrom_73 ?_
  refine gf_3_5 hE (ks_m hr (by decide)) zf_X3_28 dX3_copyFrom_74 ?_
  refine z_iconst hE dX3_copyFrom_77 ?_
  refine z_bipush (a := 20) hE (by decide) dX3_copyFrom_78 ?_
  refine ac_13 hE (ks_m hr2 (by decide)) (ks_m hr (by decide)) zm_X3_40 (by decide) (Nat.le_of_ble_eq_true rfl) dX3_copyFrom_80 ?_
  try simp only [us_eq, us_us, us_ne hne]
  refine z_aload_n hE 1 rfl rfl dX3_copyFrom_83 ?_
  refine gf_3_6 hE (ks_m hr2 (by decide)) zf_X3_31 dX3_copyFrom_84 ?_
  refine z_iconst hE dX3_copyFrom_87 ?_
  refine z_aload_n hE 0 rfl rfl dX3_copyFrom_88 ?_
  refine gf_3_6 hE (ks_m hr (by decide)) zf_X3_31 dX3_copyFrom_89 ?_
  refine z_iconst hE dX3_copyFrom_92 ?_
  refine z_bipush (a := 20) hE (by decide) dX3_copyFrom_93 ?_
  refine ac_14 hE (ks_m hr2 (by decide)) (ks_m hr (by decide)) zm_X3_40 (by decide) (Nat.le_of_ble_eq_true rfl) dX3_copyFrom_95 ?_
  try simp only [us_eq, us_us, us_ne hne]
  refine z_aload_n hE 1 rfl rfl dX3_copyFrom_98 ?_
  refine gf_3_7 hE (ks_m hr2 (by decide)) zf_X3_34 dX3_copyFrom_99 ?_
  refine z_iconst hE dX3_copyFrom_102 ?_
  refine z_aload_n hE 0 rfl rfl dX3_copyFrom_103 ?_
  refine gf_3_7 hE (ks_m hr (by decide)) zf_X3_34 dX3_copyFrom_104 ?_
  refine z_iconst hE dX3_copyFrom_107 ?_
  refine z_bipush (a := 80) hE (by decide) dX3_copyFrom_108 ?_
  refine ac_15 hE (ks_m hr2 (by decide)) (ks_m hr (by decide)) zm_X3_40 (by decide) (Nat.le_of_ble_eq_true rfl) dX3_copyFrom_110 ?_
  try simp only [us_eq, us_us, us_ne hne]
  refine z_aload_n hE 1 rfl rfl dX3_copyFrom_113 ?_
  refine gf_3_8 hE (ks_m hr2 (by decide)) zf_X3_37 dX3_copyFrom_114 ?_
  refine z_iconst hE dX3_copyFrom_117 ?_
  refine z_aload_n hE 0 rfl rfl dX3_copyFrom_118 ?_
  refine gf_3_8 hE (ks_m hr (by decide)) zf_X3_37 dX3_copyFrom_119 ?_
  refine z_iconst hE dX3_copyFrom_122 ?_
  refine z_sipush (a := 240) hE (by decide) dX3_copyFrom_123 ?_
  refine ac_16 hE (ks_m hr2 (by decide)) (ks_m hr (by decide)) zm_X3_40 (by decide) (Nat.le_of_ble_eq_true rfl) dX3_copyFrom_126 ?_
  try simp only [us_eq, us_us, us_ne hne]
  refine z_memA hE hr (g := cpg 8 16 (S r) (S r2)) (fun q hq => ?_) ?_
  · have hk : kyA q = 8 → q = 14 := kyA_i8
    by_cases e14 : q = 14
    · subst e14; simp [cpg, up, kyA]
    unfold cpg up; simp only [e14, if_false]; (repeat' split) <;> first | rfl | omega
  exact z_vret hE hR dX3_copyFrom_129 rfl (by rfl)
theorem dX2_copyFrom_0 : decode cX2_copyFrom 0 = .ok (.aload_n 0, 1) := by decide +kernel
theorem dX2_copyFrom_1 : decode cX2_copyFrom 1 = .ok (.aload_n 1, 1) := by decide +kernel
theorem dX2_copyFrom_2 : decode cX2_copyFrom 2 = .ok (.getfield 9, 3) := by decide +kernel
theorem dX2_copyFrom_5 : decode cX2_copyFrom 5 = .ok (.putfield 9, 3) := by decide +kernel
theorem dX2_copyFrom_8 : decode cX2_copyFrom 8 = .ok (.aload_n 1, 1) := by decide +kernel
theorem dX2_copyFrom_9 : decode cX2_copyFrom 9 = .ok (.getfield 15, 3) := by decide +kernel
theorem dX2_copyFrom_12 : decode cX2_copyFrom 12 = .ok (.iconst 0, 1) := by decide +kernel
theorem dX2_copyFrom_13 : decode cX2_copyFrom 13 = .ok (.aload_n 0, 1) := by decide +kernel
theorem dX2_copyFrom_14 : decode cX2_copyFrom 14 = .ok (.getfield 15, 3) := by decide +kernel
theorem dX2_copyFrom_17 : decode cX2_copyFrom 17 = .ok (.iconst 0, 1) := by decide +kernel
theorem dX2_copyFrom_18 : decode cX2_copyFrom 18 = .ok (.bipush 10, 2) := by decide +kernel
theorem dX2_copyFrom_20 : decode cX2_copyFrom 20 = .ok (.invokestatic 28, 3) := by decide +kernel
theorem dX2_copyFrom_23 : decode cX2_copyFrom 23 = .ok (.aload_n 1, 1) := by decide +kernel
theorem dX2_copyFrom_24 : decode cX2_copyFrom 24 = .ok (.getfield 19, 3) := by decide +kernel
theorem dX2_copyFrom_27 : decode cX2_copyFrom 27 = .ok (.iconst 0, 1) := by decide +kernel
theorem dX2_copyFrom_28 : decode cX2_copyFrom 28 = .ok (.aload_n 0, 1) := by decide +kernel
theorem dX2_copyFrom_29 : decode cX2_copyFrom 29 = .ok (.getfield 19, 3) := by decide +kernel
theorem dX2_copyFrom_32 : decode cX2_copyFrom 32 = .ok (.iconst 0, 1) := by decide +kernel
theorem dX2_copyFrom_33 : decode cX2_copyFrom 33 = .ok (.bipush 10, 2) := by decide +kernel
theorem dX2_copyFrom_35 : decode cX2_copyFrom 35 = .ok (.invokestatic 28, 3) := by decide +kernel
theorem dX2_copyFrom_38 : decode cX2_copyFrom 38 = .ok (.aload_n 1, 1) := by decide +kernel
theorem dX2_copyFrom_39 : decode cX2_copyFrom 39 = .ok (.getfield 22, 3) := by decide +kernel
theorem dX2_copyFrom_42 : decode cX2_copyFrom 42 = .ok (.iconst 0, 1) := by decide +kernel
theorem dX2_copyFrom_43 : decode cX2_copyFrom 43 = .ok (.aload_n 0, 1) := by decide +kernel
theorem dX2_copyFrom_44 : decode cX2_copyFrom 44 = .ok (.getfield 22, 3) := by decide +kernel
theorem dX2_copyFrom_47 : decode cX2_copyFrom 47 = .ok (.iconst 0, 1) := by decide +kernel
theorem dX2_copyFrom_48 : decode cX2_copyFrom 48 = .ok (.bipush 10, 2) := by decide +kernel
theorem dX2_copyFrom_50 : decode cX2_copyFrom 50 = .ok (.invokestatic 28, 3) := by decide +kernel
theorem dX2_copyFrom_53 : decode cX2_copyFrom 53 = .ok (.aload_n 1, 1) := by decide +kernel
theorem dX2_copyFrom_54 : decode cX2_copyFrom 54 = .ok (.getfield 25, 3) := by decide +kernel
theorem dX2_copyFrom_57 : decode cX2_copyFrom 57 = .ok (.iconst 0, 1) := by decide +kernel
theorem dX2_copyFrom_58 : decode cX2_copyFrom 58 = .ok (.aload_n 0, 1) := by decide +kernel
theorem dX2_copyFrom_59 : decode cX2_copyFrom 59 = .ok (.getfield 25, 3) := by decide +kernel
theorem dX2_copyFrom_62 : decode cX2_copyFrom 62 = .ok (.iconst 0, 1) := by decide +kernel
theorem dX2_copyFrom_63 : decode cX2_copyFrom 63 = .ok (.bipush 120, 2) := by decide +kernel
theorem dX2_copyFrom_65 : decode cX2_copyFrom 65 = .ok (.invokestatic 28, 3) := by decide +kernel
theorem dX2_copyFrom_68 : decode cX2_copyFrom 68 = .ok (.return_, 1) := by decide +kernel
theorem hy_X2_copyFrom : yX2_copyFrom.cls ≠ "java/lang/invoke/MethodHandle" ∧ yX2_copyFrom.cls ≠ "java/lang/invoke/VarHandle" ∧ (parseMethodDescriptor yX2_copyFrom.desc).map (fun d => d.parameters.length) = some 1 := ⟨by decide +kernel, by decide +kernel, by decide +kernel⟩
set_option maxHeartbeats 4000000 in
set_option maxRecDepth 100000 in
theorem c_X2_copyFrom (l0 : Launch) (D0 : va_G) (cI0 cJ0 : ClassId) (ad : Nat → Nat → Nat) (S : zM) (r : Nat) (hr : r < 5) (r2 : Nat) (hr2 : r2 < 5) (hne : r2 ≠ r) : Ct l0 D0 cI0 cJ0 ad yX2_copyFrom cX2_copyFrom 2 none 1 26 [.ref (ad r 17), .ref (ad r2 17)] S none (fun X => X = (us S r (cpg 17 21 (S r) (S r2)))) := by
  refine Ct.of (by decide) (Nat.le_of_ble_eq_true rfl) (fun E hE hR => ?_)
  have hE : zG E l0 D0 cI0 cJ0 ad cX2_copyFrom 2 RX2 1 26 := hE
  show Z E S 0 [(0, .ref (ad r 17)), (1, .ref (ad r2 17))] []
  refine z_aload_n hE 0 rfl rfl dX2_copyFrom_0 ?_
  refine z_aload_n hE 1 rfl rfl dX2_copyFrom_1 ?_
  refine gf_2_0 hE (ks_m hr2 (by decide)) zf_X2_9 dX2_copyFrom_2 ?_
  refine pf_2_0 hE (ks_m hr (by decide)) zf_X2_9 dX2_copyFrom_5 ?_
  refine z_aload_n hE 1 rfl rfl dX2_copyFrom_8 ?_
  refine gf_2_1 hE (ks_m hr2 (by decide)) zf_X2_15 dX2_copyFrom_9 ?_
  refine z_iconst hE dX2_copyFrom_12 ?_
  refine z_aload_n hE 0 rfl rfl dX2_copyFrom_13 ?_
  refine gf_2_1 hE (ks_m hr (by decide)) zf_X2_15 dX2_copyFrom_14 ?_
  refine z_iconst hE dX2_copyFrom_17 ?_
  refine z_bipush (a := 10) hE (by decide) dX2_copyFrom_18 ?_
  refine ac_18 hE (ks_m hr2 (by decide)) (ks_m hr (by decide)) zm_X2_28 (by decide) (Nat.le_of_ble_eq_true rfl) dX2_copyFrom_20 ?_
  try simp only [us_eq, us_us, us_ne hne]
  refine z_aload_n hE 1 rfl rfl dX2_copyFrom_23 ?_
  refine gf_2_2 hE (ks_m hr2 (by decide)) zf_X2_19 dX2_copyFrom_24 ?_
  refine z_iconst hE dX2_copyFrom_27 ?_
  refine z_aload_n hE 0 rfl rfl dX2_copyFrom_28 ?_
  refine gf_2_2 hE (ks_m hr (by decide)) zf_X2_19 dX2_copyFrom_29 ?_
  refine z_iconst hE dX2_copyFrom_32 ?_
  refine z_bipush (a := 10) hE (by decide) dX2_copyFrom_33 ?_
  refine ac_19 hE (ks_m hr2 (by decide)) (ks_m hr (by decide)) zm_X2_28 (by decide) (Nat.le_of_ble_eq_true rfl) dX2_copyFrom_35 ?_
  try simp only [us_eq, us_us, us_ne hne]
  refine z_aload_n hE 1 rfl rfl dX2_copyFrom_38 ?_
  refine gf_2_3 hE (ks_m hr2 (by decide)) zf_X2_22 dX2_copyFrom_39 ?_
  refine z_iconst hE dX2_copyFrom_42 ?_
  refine z_aload_n hE 0 rfl rfl dX2_copyFrom_43 ?_
  refine gf_2_3 hE (ks_m hr (by decide)) zf_X2_22 dX2_copyFrom_44 ?_
  refine z_iconst hE dX2_copyFrom_47 ?_
  refine z_bipush (a := 10) hE (by decide) dX2_copyFrom_48 ?_
  refine ac_20 hE (ks_m hr2 (by decide)) (ks_m hr (by decide)) zm_X2_28 (by decide) (Nat.le_of_ble_eq_true rfl) dX2_copyFrom_50 ?_
  try simp only [us_eq, us_us, us_ne hne]
  refine z_aload_n hE 1 rfl rfl dX2_copyFrom_53 ?_
  refine gf_2_4 hE (ks_m hr2 (by decide)) zf_X2_25 dX2_copyFrom_54 ?_
  refine z_iconst hE dX2_copyFrom_57 ?_
  refine z_aload_n hE 0 rfl rfl dX2_copyFrom_58 ?_
  refine gf_2_4 hE (ks_m hr (by decide)) zf_X2_25 dX2_copyFrom_59 ?_
  refine z_iconst hE dX2_copyFrom_62 ?_
  refine z_bipush (a := 120) hE (by decide) dX2_copyFrom_63 ?_
  refine ac_21 hE (ks_m hr2 (by decide)) (ks_m hr (by decide)) zm_X2_28 (by decide) (Nat.le_of_ble_eq_true rfl) dX2_copyFrom_65 ?_
  try simp only [us_eq, us_us, us_ne hne]
  refine z_memA hE hr (g := cpg 17 21 (S r) (S r2)) (fun q hq => ?_) ?_
  · have hk : kyA q = 17 → q = 15 := kyA_i17
    by_cases e15 : q = 15
    · subst e15; simp [cpg, up, kyA]
    unfold cpg up; simp only [e15, if_false]; (repeat' split) <;> first | rfl | omega
  exact z_vret hE hR dX2_copyFrom_68 rfl (by rfl)
theorem dX4_copyFrom_0 : decode cX4_copyFrom 0 = .ok (.aload_n 0, 1) := by decide +kernel
theorem dX4_copyFrom_1 : decode cX4_copyFrom 1 = .ok (.getfield 12, 3) := by decide +kernel
theorem dX4_copyFrom_4 : decode cX4_copyFrom 4 = .ok (.aload_n 1, 1) := by decide +kernel
theorem dX4_copyFrom_5 : decode cX4_copyFrom 5 = .ok (.getfield 12, 3) := by decide +kernel
theorem dX4_copyFrom_8 : decode cX4_copyFrom 8 = .ok (.invokevirtual 53, 3) := by decide +kernel
theorem dX4_copyFrom_11 : decode cX4_copyFrom 11 = .ok (.aload_n 0, 1) := by decide +kernel
theorem dX4_copyFrom_12 : decode cX4_copyFrom 12 = .ok (.getfield 21, 3) := by decide +kernel
theorem dX4_copyFrom_15 : decode cX4_copyFrom 15 = .ok (.aload_n 1, 1) := by decide +kernel
theorem dX4_copyFrom_16 : decode cX4_copyFrom 16 = .ok (.getfield 21, 3) := by decide +kernel
theorem dX4_copyFrom_19 : decode cX4_copyFrom 19 = .ok (.invokevirtual 57, 3) := by decide +kernel
theorem dX4_copyFrom_22 : decode cX4_copyFrom 22 = .ok (.aload_n 0, 1) := by decide +kernel
theorem dX4_copyFrom_23 : decode cX4_copyFrom 23 = .ok (.getfield 28, 3) := by decide +kernel
theorem dX4_copyFrom_26 : decode cX4_copyFrom 26 = .ok (.aload_n 1, 1) := by decide +kernel
theorem dX4_copyFrom_27 : decode cX4_copyFrom 27 = .ok (.getfield 28, 3) := by decide +kernel
theorem dX4_copyFrom_30 : decode cX4_copyFrom 30 = .ok (.invokevirtual 60, 3) := by decide +kernel
theorem dX4_copyFrom_33 : decode cX4_copyFrom 33 = .ok (.aload_n 0, 1) := by decide +kernel
theorem dX4_copyFrom_34 : decode cX4_copyFrom 34 = .ok (.getfield 35, 3) := by decide +kernel
theorem dX4_copyFrom_37 : decode cX4_copyFrom 37 = .ok (.aload_n 1, 1) := by decide +kernel
theorem dX4_copyFrom_38 : decode cX4_copyFrom 38 = .ok (.getfield 35, 3) := by decide +kernel
theorem dX4_copyFrom_41 : decode cX4_copyFrom 41 = .ok (.invokevirtual 63, 3) := by decide +kernel
theorem dX4_copyFrom_44 : decode cX4_copyFrom 44 = .ok (.aload_n 0, 1) := by decide +kernel
theorem dX4_copyFrom_45 : decode cX4_copyFrom 45 = .ok (.getfield 42, 3) := by decide +kernel
theorem dX4_copyFrom_48 : decode cX4_copyFrom 48 = .ok (.aload_n 1, 1) := by decide +kernel
theorem dX4_copyFrom_49 : decode cX4_copyFrom 49 = .ok (.getfield 42, 3) := by decide +kernel
theorem dX4_copyFrom_52 : decode cX4_copyFrom 52 = .ok (.invokevirtual 66, 3) := by decide +kernel
theorem dX4_copyFrom_55 : decode cX4_copyFrom 55 = .ok (.aload_n 0, 1) := by decide +kernel
theorem dX4_copyFrom_56 : decode cX4_copyFrom 56 = .ok (.aload_n 1, 1) := by decide +kernel
theorem dX4_copyFrom_57 : decode cX4_copyFrom 57 = .ok (.getfield 46, 3) := by decide +kernel
theorem dX4_copyFrom_60 : decode cX4_copyFrom 60 = .ok (.putfield 46, 3) := by decide +kernel
theorem dX4_copyFrom_63 : decode cX4_copyFrom 63 = .ok (.aload_n 0, 1) := by decide +kernel
theorem dX4_copyFrom_64 : decode cX4_copyFrom 64 = .ok (.aload_n 1, 1) := by decide +kernel
theorem dX4_copyFrom_65 : decode cX4_copyFrom 65 = .ok (.getfield 50, 3) := by decide +kernel
theorem dX4_copyFrom_68 : decode cX4_copyFrom 68 = .ok (.putfield 50, 3) := by decide +kernel
theorem dX4_copyFrom_71 : decode cX4_copyFrom 71 = .ok (.return_, 1) := by decide +kernel
theorem hy_X4_copyFrom : yX4_copyFrom.cls ≠ "java/lang/invoke/MethodHandle" ∧ yX4_copyFrom.cls ≠ "java/lang/invoke/VarHandle" ∧ (parseMethodDescriptor yX4_copyFrom.desc).map (fun d => d.parameters.length) = some 1 := ⟨by decide +kernel, by decide +kernel, by decide +kernel⟩
set_option maxHeartbeats 4000000 in
set_option maxRecDepth 100000 in
theorem c_X4_copyFrom (l0 : Launch) (D0 : va_G) (cI0 cJ0 : ClassId) (ad : Nat → Nat → Nat) (S : zM) (r : Nat) (hr : r < 5) (r2 : Nat) (hr2 : r2 < 5) (hne : r2 ≠ r) : Ct l0 D0 cI0 cJ0 ad yX4_copyFrom cX4_copyFrom 2 none 2 47 [.ref (ad r 0), .ref (ad r2 0)] S none (fun X => X = (us S r (S r2))) := by
  refine Ct.of (by decide) (Nat.le_of_ble_eq_true rfl) (fun E hE hR => ?_)
  have hE : zG E l0 D0 cI0 cJ0 ad cX4_copyFrom 2 RX4 2 47 := hE
  show Z E S 0 [(0, .ref (ad r 0)), (1, .ref (ad r2 0))] []
  refine z_aload_n hE 0 rfl rfl dX4_copyFrom_0 ?_
  refine gf_4_0 hE (ks_m hr (by decide)) zf_X4_12 dX4_copyFrom_1 ?_
  refine z_aload_n hE 1 rfl rfl dX4_copyFrom_4 ?_
  refine gf_4_0 hE (ks_m hr2 (by decide)) zf_X4_12 dX4_copyFrom_5 ?_
  refine z_callV hE (c_X1_copyFrom l0 D0 cI0 cJ0 ad S r hr r2 hr2 hne) (ks_m hr (by decide)) rfl rfl zm_X4_53 zi_yX1_copyFrom zs_yX1_copyFrom zn_RX1 zc_yX1_copyFrom (hy_X1_copyFrom) (Nat.le_of_ble_eq_true rfl) (Nat.le_of_ble_eq_true rfl) rfl rfl rfl (Nat.le_of_ble_eq_true rfl) dX4_copyFrom_8 ?_
  refine z_aload_n hE 0 rfl rfl dX4_copyFrom_11 ?_
  refine gf_4_1 hE (ks_m hr (by decide)) zf_X4_21 dX4_copyFrom_12 ?_
  refine z_aload_n hE 1 rfl rfl dX4_copyFrom_15 ?_
  refine gf_4_1 hE (ks_m hr2 (by decide)) zf_X4_21 dX4_copyFrom_16 ?_
  refine z_callV hE (c_X5_copyFrom l0 D0 cI0 cJ0 ad (us S r (cpg 1 4 ((S r)) ((S r2)))) r hr r2 hr2 hne) (ks_m hr (by decide)) rfl rfl zm_X4_57 zi_yX5_copyFrom zs_yX5_copyFrom zn_RX5 zc_yX5_copyFrom (hy_X5_copyFrom) (Nat.le_of_ble_eq_true rfl) (Nat.le_of_ble_eq_true rfl) rfl rfl rfl (Nat.le_of_ble_eq_true rfl) dX4_copyFrom_19 ?_
  try simp only [us_eq, us_us, us_ne hne]
  refine z_aload_n hE 0 rfl rfl dX4_copyFrom_22 ?_
  refine gf_4_2 hE (ks_m hr (by decide)) zf_X4_28 dX4_copyFrom_23 ?_
  refine z_aload_n hE 1 rfl rfl dX4_copyFrom_26 ?_
  refine gf_4_2 hE (ks_m hr2 (by decide)) zf_X4_28 dX4_copyFrom_27 ?_
  refine z_callV hE (c_X0_copyFrom l0 D0 cI0 cJ0 ad (us S r (cpg 5 5 ((cpg 1 4 ((S r)) ((S r2)))) ((S r2)))) r hr r2 hr2 hne) (ks_m hr (by decide)) rfl rfl zm_X4_60 zi_yX0_copyFrom zs_yX0_copyFrom zn_RX0 zc_yX0_copyFrom (hy_X0_copyFrom) (Nat.le_of_ble_eq_true rfl) (Nat.le_of_ble_eq_true rfl) rfl rfl rfl (Nat.le_of_ble_eq_true rfl) dX4_copyFrom_30 ?_
  try simp only [us_eq, us_us, us_ne hne]
  refine z_aload_n hE 0 rfl rfl dX4_copyFrom_33 ?_
  refine gf_4_3 hE (ks_m hr (by decide)) zf_X4_35 dX4_copyFrom_34 ?_
  refine z_aload_n hE 1 rfl rfl dX4_copyFrom_37 ?_
  refine gf_4_3 hE (ks_m hr2 (by decide)) zf_X4_35 dX4_copyFrom_38 ?_
  refine z_callV hE (c_X3_copyFrom l0 D0 cI0 cJ0 ad (us S r (cpg 6 7 ((cpg 5 5 ((cpg 1 4 ((S r)) ((S r2)))) ((S r2)))) ((S r2)))) r hr r2 hr2 hne) (ks_m hr (by decide)) rfl rfl zm_X4_63 zi_yX3_copyFrom zs_yX3_copyFrom zn_RX3 zc_yX3_copyFrom (hy_X3_copyFrom) (Nat.le_of_ble_eq_true rfl) (Nat.le_of_ble_eq_true rfl) rfl rfl rfl (Nat.le_of_ble_eq_true rfl) dX4_copyFrom_41 ?_
  try simp only [us_eq, us_us, us_ne hne]
  refine z_aload_n hE 0 rfl rfl dX4_copyFrom_44 ?_
  refine gf_4_4 hE (ks_m hr (by decide)) zf_X4_42 dX4_copyFrom_45 ?_
  refine z_aload_n hE 1 rfl rfl dX4_copyFrom_48 ?_
  refine gf_4_4 hE (ks_m hr2 (by decide)) zf_X4_42 dX4_copyFrom_49 ?_
  refine z_callV hE (c_X2_copyFrom l0 D0 cI0 cJ0 ad (us S r (cpg 8 16 ((cpg 6 7 ((cpg 5 5 ((cpg 1 4 ((S r)) ((S r2)))) ((S r2)))) ((S r2)))) ((S r2)))) r hr r2 hr2 hne) (ks_m hr (by decide)) rfl rfl zm_X4_66 zi_yX2_copyFrom zs_yX2_copyFrom zn_RX2 zc_yX2_copyFrom (hy_X2_copyFrom) (Nat.le_of_ble_eq_true rfl) (Nat.le_of_ble_eq_true rfl) rfl rfl rfl (Nat.le_of_ble_eq_true rfl) dX4_copyFrom_52 ?_
  try simp only [us_eq, us_us, us_ne hne]
  refine z_aload_n hE 0 rfl rfl dX4_copyFrom_55 ?_
  refine z_aload_n hE 1 rfl rfl dX4_copyFrom_56 ?_
  refine gf_4_5 hE (ks_m hr2 (by decide)) zf_X4_46 dX4_copyFrom_57 ?_
  try simp only [us_eq, us_us, us_ne hne]
  refine pf_4_5 hE (ks_m hr (by decide)) zf_X4_46 dX4_copyFrom_60 ?_
  try simp only [us_eq, us_us, us_ne hne]
  refine z_aload_n hE 0 rfl rfl dX4_copyFrom_63 ?_
  refine z_aload_n hE 1 rfl rfl dX4_copyFrom_64 ?_
  refine gf_4_6 hE (ks_m hr2 (by decide)) zf_X4_50 dX4_copyFrom_65 ?_
  try simp only [us_eq, us_us, us_ne hne]
  refine pf_4_6 hE (ks_m hr (by decide)) zf_X4_50 dX4_copyFrom_68 ?_
  try simp only [us_eq, us_us, us_ne hne]
  refine z_memA hE hr (g := S r2) (fun q hq => ?_) ?_
  · have hk := @kyA_i0 q
    by_cases e1 : q = 670
    · subst e1; exact up_eq
    by_cases e2 : q = 2
    · subst e2; rw [up_ne (by decide)]; exact up_eq
    have h9 := kyA_le q
    rw [up_ne e1, up_ne e2]; unfold cpg; (repeat' split) <;> first | rfl | omega
  exact z_vret hE hR dX4_copyFrom_71 rfl (by rfl)
theorem dX4_countAllShares_0 : decode cX4_countAllShares 0 = .ok (.aload_n 0, 1) := by decide +kernel
theorem dX4_countAllShares_1 : decode cX4_countAllShares 1 = .ok (.getfield 46, 3) := by decide +kernel
theorem dX4_countAllShares_4 : decode cX4_countAllShares 4 = .ok (.istore_n 1, 1) := by decide +kernel
theorem dX4_countAllShares_5 : decode cX4_countAllShares 5 = .ok (.iconst 0, 1) := by decide +kernel
theorem dX4_countAllShares_6 : decode cX4_countAllShares 6 = .ok (.istore_n 2, 1) := by decide +kernel
theorem dX4_countAllShares_7 : decode cX4_countAllShares 7 = .ok (.iload_n 2, 1) := by decide +kernel
theorem dX4_countAllShares_8 : decode cX4_countAllShares 8 = .ok (.aload_n 0, 1) := by decide +kernel
theorem dX4_countAllShares_9 : decode cX4_countAllShares 9 = .ok (.getfield 12, 3) := by decide +kernel
theorem dX4_countAllShares_12 : decode cX4_countAllShares 12 = .ok (.getfield 69, 3) := by decide +kernel
theorem dX4_countAllShares_15 : decode cX4_countAllShares 15 = .ok (.if_icmp .ge 21, 3) := by decide +kernel
theorem dX4_countAllShares_18 : decode cX4_countAllShares 18 = .ok (.iload_n 1, 1) := by decide +kernel
theorem dX4_countAllShares_19 : decode cX4_countAllShares 19 = .ok (.aload_n 0, 1) := by decide +kernel
theorem dX4_countAllShares_20 : decode cX4_countAllShares 20 = .ok (.getfield 12, 3) := by decide +kernel
theorem dX4_countAllShares_23 : decode cX4_countAllShares 23 = .ok (.getfield 72, 3) := by decide +kernel
theorem dX4_countAllShares_26 : decode cX4_countAllShares 26 = .ok (.iload_n 2, 1) := by decide +kernel
theorem dX4_countAllShares_27 : decode cX4_countAllShares 27 = .ok (.iaload, 1) := by decide +kernel
theorem dX4_countAllShares_28 : decode cX4_countAllShares 28 = .ok (.iadd, 1) := by decide +kernel
theorem dX4_countAllShares_29 : decode cX4_countAllShares 29 = .ok (.istore_n 1, 1) := by decide +kernel
theorem dX4_countAllShares_30 : decode cX4_countAllShares 30 = .ok (.iinc 2 1, 3) := by decide +kernel
theorem dX4_countAllShares_33 : decode cX4_countAllShares 33 = .ok (.goto (-26), 3) := by decide +kernel
theorem dX4_countAllShares_36 : decode cX4_countAllShares 36 = .ok (.iload_n 1, 1) := by decide +kernel
theorem dX4_countAllShares_37 : decode cX4_countAllShares 37 = .ok (.ireturn, 1) := by decide +kernel
theorem hy_X4_countAllShares : yX4_countAllShares.cls ≠ "java/lang/invoke/MethodHandle" ∧ yX4_countAllShares.cls ≠ "java/lang/invoke/VarHandle" ∧ (parseMethodDescriptor yX4_countAllShares.desc).map (fun d => d.parameters.length) = some 0 := ⟨by decide +kernel, by decide +kernel, by decide +kernel⟩
set_option maxHeartbeats 4000000 in
set_option maxRecDepth 100000 in
theorem lp_X4_countAllShares {E : zE} {l0 : Launch} {D0 : va_G} {cI0 cJ0 : ClassId} {ad : Nat → Nat → Nat} (hE : zG E l0 D0 cI0 cJ0 ad cX4_countAllShares 3 RX4 0 0) (S : zM) (r : Nat) (hr : r < 5) (hI : Inv0 (S r)) (hR : zR E (some .int) (some (.int (i32 (sp_all (S r))))) (fun X => X = S)) : ∀ (fuel : Nat) (i : Int) (h9 : 0 ≤ i ∧ i ≤ S r 0), (S r 0 - i).toNat < fuel → Z E S 7 [(2, .int (i32 i)), (1, .int (i32 (S r 2 + sm (fun k => S r (19 + 3 * k)) i))), (0, .ref (ad r 0))] [] := by
  intro fuel
  induction fuel with
  | zero => intro _ _ hz; omega
  | succ fuel ih =>
    intro i h9 hz
    have hA := inA hI
    unfold InvA at hA
    refine z_iload_n hE 0 rfl rfl dX4_countAllShares_7 ?_
    refine z_aload_n hE 2 rfl rfl dX4_countAllShares_8 ?_
    refine gf_4_0 hE (ks_m hr (by decide)) zf_X4_12 dX4_countAllShares_9 ?_
    refine gf_1_0 hE (ks_m hr (by decide)) zf_X4_69 dX4_countAllShares_12 ?_
    refine z_icmp_ge (tgt := 36) hE dX4_countAllShares_15 (by decide) ⟨by omega, by omega⟩ ⟨by omega, by omega⟩ (fun c1 => ?_) (fun c1 => ?_)
    · refine z_iload_n hE 1 rfl rfl dX4_countAllShares_36 ?_
      exact z_iret hE hR dX4_countAllShares_37 (congrArg (fun x => some (Value.int (i32 x))) (by unfold sp_all; rw [show i = S r 0 by omega])) (by first | rfl | (simp only [us_id]))
    · refine z_iload_n hE 1 rfl rfl dX4_countAllShares_18 ?_
      refine z_aload_n hE 2 rfl rfl dX4_countAllShares_19 ?_
      refine gf_4_0 hE (ks_m hr (by decide)) zf_X4_12 dX4_countAllShares_20 ?_
      refine gf_1_1 hE (ks_m hr (by decide)) zf_X4_72 dX4_countAllShares_23 ?_
      refine z_iload_n hE 0 rfl rfl dX4_countAllShares_26 ?_
      refine al_2 hE (ks_m hr (by decide)) (by omega) (by omega) dX4_countAllShares_27 ?_
      refine z_iadd hE dX4_countAllShares_28 ?_
      refine z_istore_n hE rfl (by decide) rfl dX4_countAllShares_29 ?_
      refine z_iinc hE 1 rfl (by decide) rfl dX4_countAllShares_30 ?_
      refine z_goto (tgt := 7) hE (d := dX4_countAllShares_33) (ht := by decide) ?_
      refine z_L (L' := [(2, .int (i32 (i + 1))), (1, .int (i32 (S r 2 + sm (fun k => S r (19 + 3 * k)) (i + 1)))), (0, .ref (ad r 0))]) [0, 1, 2] (by rw [show S r 2 + sm (fun k => S r (19 + 3 * k)) (i + 1) = (S r 2 + sm (fun k => S r (19 + 3 * k)) i) + (S r (19 + 3 * i)) from by first | rfl | ((rw [sm_s h9.1]; omega))]; rfl) ?_
      exact ih (i + 1) ⟨by omega, by omega⟩ (by omega)
set_option maxHeartbeats 4000000 in
set_option maxRecDepth 100000 in
theorem c_X4_countAllShares (l0 : Launch) (D0 : va_G) (cI0 cJ0 : ClassId) (ad : Nat → Nat → Nat) (S : zM) (r : Nat) (hr : r < 5) (hI : Inv0 (S r)) : Ct l0 D0 cI0 cJ0 ad yX4_countAllShares cX4_countAllShares 3 (some .int) 0 0 [.ref (ad r 0)] S (some (.int (i32 (sp_all (S r))))) (fun X => X = S) := by
  refine Ct.of (by decide) (Nat.le_of_ble_eq_true rfl) (fun E hE hR => ?_)
  have hE : zG E l0 D0 cI0 cJ0 ad cX4_countAllShares 3 RX4 0 0 := hE
  show Z E S 0 [(0, .ref (ad r 0))] []
  have hA := inA hI
  unfold InvA at hA
  refine z_aload_n hE 0 rfl rfl dX4_countAllShares_0 ?_
  refine gf_4_5 hE (ks_m hr (by decide)) zf_X4_46 dX4_countAllShares_1 ?_
  refine z_istore_n hE rfl (by decide) rfl dX4_countAllShares_4 ?_
  refine z_iconst hE dX4_countAllShares_5 ?_
  refine z_istore_n hE rfl (by decide) rfl dX4_countAllShares_6 ?_
  refine z_L (L' := [(2, .int (i32 0)), (1, .int (i32 (S r 2 + sm (fun k => S r (19 + 3 * k)) 0))), (0, .ref (ad r 0))]) [0, 1, 2] (by rw [show S r 2 + sm (fun k => S r (19 + 3 * k)) 0 = S r 2 from by first | rfl | ((rw [sm_0, Int.add_zero]))]; rfl) ?_
  exact lp_X4_countAllShares hE S r hr hI hR 13 0 ⟨by omega, by omega⟩ (by omega)
theorem dX4_requirementOf_0 : decode cX4_requirementOf 0 = .ok (.aload_n 0, 1) := by decide +kernel
theorem dX4_requirementOf_1 : decode cX4_requirementOf 1 = .ok (.getfield 21, 3) := by decide +kernel
theorem dX4_requirementOf_4 : decode cX4_requirementOf 4 = .ok (.getfield 76, 3) := by decide +kernel
theorem dX4_requirementOf_7 : decode cX4_requirementOf 7 = .ok (.istore_n 2, 1) := by decide +kernel
theorem dX4_requirementOf_8 : decode cX4_requirementOf 8 = .ok (.aload_n 0, 1) := by decide +kernel
theorem dX4_requirementOf_9 : decode cX4_requirementOf 9 = .ok (.getfield 12, 3) := by decide +kernel
theorem dX4_requirementOf_12 : decode cX4_requirementOf 12 = .ok (.getfield 79, 3) := by decide +kernel
theorem dX4_requirementOf_15 : decode cX4_requirementOf 15 = .ok (.iload_n 1, 1) := by decide +kernel
theorem dX4_requirementOf_16 : decode cX4_requirementOf 16 = .ok (.iaload, 1) := by decide +kernel
theorem dX4_requirementOf_17 : decode cX4_requirementOf 17 = .ok (.iload_n 2, 1) := by decide +kernel
theorem dX4_requirementOf_18 : decode cX4_requirementOf 18 = .ok (.iadd, 1) := by decide +kernel
theorem dX4_requirementOf_19 : decode cX4_requirementOf 19 = .ok (.iconst 1, 1) := by decide +kernel
theorem dX4_requirementOf_20 : decode cX4_requirementOf 20 = .ok (.isub, 1) := by decide +kernel
theorem dX4_requirementOf_21 : decode cX4_requirementOf 21 = .ok (.iload_n 2, 1) := by decide +kernel
theorem dX4_requirementOf_22 : decode cX4_requirementOf 22 = .ok (.invokestatic 82, 3) := by decide +kernel
theorem dX4_requirementOf_25 : decode cX4_requirementOf 25 = .ok (.ireturn, 1) := by decide +kernel
theorem hy_X4_requirementOf : yX4_requirementOf.cls ≠ "java/lang/invoke/MethodHandle" ∧ yX4_requirementOf.cls ≠ "java/lang/invoke/VarHandle" ∧ (parseMethodDescriptor yX4_requirementOf.desc).map (fun d => d.parameters.length) = some 1 := ⟨by decide +kernel, by decide +kernel, by decide +kernel⟩
set_option maxHeartbeats 4000000 in
set_option maxRecDepth 100000 in
theorem c_X4_requirementOf (l0 : Launch) (D0 : va_G) (cI0 cJ0 : ClassId) (ad : Nat → Nat → Nat) (S : zM) (r : Nat) (hr : r < 5) (m : Int) (hI : Inv0 (S r)) (h0 : 0 ≤ m ∧ m < 12) : Ct l0 D0 cI0 cJ0 ad yX4_requirementOf cX4_requirementOf 3 (some .int) 2 43 [.ref (ad r 0), .int (i32 m)] S (some (.int (i32 (sp_req (S r) m)))) (fun X => X = S) := by
  refine Ct.of (by decide) (Nat.le_of_ble_eq_true rfl) (fun E hE hR => ?_)
  have hE : zG E l0 D0 cI0 cJ0 ad cX4_requirementOf 3 RX4 2 43 := hE
  show Z E S 0 [(0, .ref (ad r 0)), (1, .int (i32 m))] []
  have hA := inA hI
  unfold InvA at hA
  have hm := inM hI h0.1 h0.2
  refine z_aload_n hE 0 rfl rfl dX4_requirementOf_0 ?_
  refine gf_4_1 hE (ks_m hr (by decide)) zf_X4_21 dX4_requirementOf_1 ?_
  refine gf_5_0 hE (ks_m hr (by decide)) zf_X4_76 dX4_requirementOf_4 ?_
  refine z_istore_n hE rfl (by decide) rfl dX4_requirementOf_7 ?_
  refine z_aload_n hE 1 rfl rfl dX4_requirementOf_8 ?_
  refine gf_4_0 hE (ks_m hr (by decide)) zf_X4_12 dX4_requirementOf_9 ?_
  refine gf_1_2 hE (ks_m hr (by decide)) zf_X4_79 dX4_requirementOf_12 ?_
  refine z_iload_n hE 2 rfl rfl dX4_requirementOf_15 ?_
  refine al_3 hE (ks_m hr (by decide)) (by omega) (by omega) dX4_requirementOf_16 ?_
  refine z_iload_n hE 0 rfl rfl dX4_requirementOf_17 ?_
  refine z_iadd hE dX4_requirementOf_18 ?_
  refine z_iconst hE dX4_requirementOf_19 ?_
  refine z_isub hE dX4_requirementOf_20 ?_
  refine z_iload_n hE 0 rfl rfl dX4_requirementOf_21 ?_
  refine z_callN hE (c_X7_quotient l0 D0 cI0 cJ0 ad S (((S r (20 + 3 * m)) + (S r 1)) - 1) (S r 1) (⟨by omega, by omega⟩) (⟨by omega, by omega⟩) (by omega)) (List.mem_of_getElem? (i := 7) rfl) zt_yX7_quotient zn_RX7 zc_yX7_quotient (hy_X7_quotient) (Nat.le_of_ble_eq_true rfl) (Nat.le_of_ble_eq_true rfl) rfl rfl rfl (Nat.le_of_ble_eq_true rfl) dX4_requirementOf_22 ?_
  exact z_iret hE hR dX4_requirementOf_25 (congrArg (fun x => some (Value.int (i32 x))) (by first | rfl | omega)) (by first | rfl | (simp only [us_id]))
theorem dX4_freeSharesOf_0 : decode cX4_freeSharesOf 0 = .ok (.aload_n 0, 1) := by decide +kernel
theorem dX4_freeSharesOf_1 : decode cX4_freeSharesOf 1 = .ok (.iload_n 1, 1) := by decide +kernel
theorem dX4_freeSharesOf_2 : decode cX4_freeSharesOf 2 = .ok (.invokevirtual 86, 3) := by decide +kernel
theorem dX4_freeSharesOf_5 : decode cX4_freeSharesOf 5 = .ok (.aload_n 0, 1) := by decide +kernel
theorem dX4_freeSharesOf_6 : decode cX4_freeSharesOf 6 = .ok (.getfield 35, 3) := by decide +kernel
theorem dX4_freeSharesOf_9 : decode cX4_freeSharesOf 9 = .ok (.iload_n 1, 1) := by decide +kernel
theorem dX4_freeSharesOf_10 : decode cX4_freeSharesOf 10 = .ok (.invokevirtual 90, 3) := by decide +kernel
theorem dX4_freeSharesOf_13 : decode cX4_freeSharesOf 13 = .ok (.iadd, 1) := by decide +kernel
theorem dX4_freeSharesOf_14 : decode cX4_freeSharesOf 14 = .ok (.istore_n 2, 1) := by decide +kernel
theorem dX4_freeSharesOf_15 : decode cX4_freeSharesOf 15 = .ok (.aload_n 0, 1) := by decide +kernel
theorem dX4_freeSharesOf_16 : decode cX4_freeSharesOf 16 = .ok (.getfield 12, 3) := by decide +kernel
theorem dX4_freeSharesOf_19 : decode cX4_freeSharesOf 19 = .ok (.getfield 72, 3) := by decide +kernel
theorem dX4_freeSharesOf_22 : decode cX4_freeSharesOf 22 = .ok (.iload_n 1, 1) := by decide +kernel
theorem dX4_freeSharesOf_23 : decode cX4_freeSharesOf 23 = .ok (.iaload, 1) := by decide +kernel
theorem dX4_freeSharesOf_24 : decode cX4_freeSharesOf 24 = .ok (.iload_n 2, 1) := by decide +kernel
theorem dX4_freeSharesOf_25 : decode cX4_freeSharesOf 25 = .ok (.isub, 1) := by decide +kernel
theorem dX4_freeSharesOf_26 : decode cX4_freeSharesOf 26 = .ok (.iconst 0, 1) := by decide +kernel
theorem dX4_freeSharesOf_27 : decode cX4_freeSharesOf 27 = .ok (.invokestatic 93, 3) := by decide +kernel
theorem dX4_freeSharesOf_30 : decode cX4_freeSharesOf 30 = .ok (.ireturn, 1) := by decide +kernel
theorem hy_X4_freeSharesOf : yX4_freeSharesOf.cls ≠ "java/lang/invoke/MethodHandle" ∧ yX4_freeSharesOf.cls ≠ "java/lang/invoke/VarHandle" ∧ (parseMethodDescriptor yX4_freeSharesOf.desc).map (fun d => d.parameters.length) = some 1 := ⟨by decide +kernel, by decide +kernel, by decide +kernel⟩
set_option maxHeartbeats 4000000 in
set_option maxRecDepth 100000 in
theorem c_X4_freeSharesOf (l0 : Launch) (D0 : va_G) (cI0 cJ0 : ClassId) (ad : Nat → Nat → Nat) (S : zM) (r : Nat) (hr : r < 5) (m : Int) (hI : Inv0 (S r)) (h0 : 0 ≤ m ∧ m < 12) : Ct l0 D0 cI0 cJ0 ad yX4_freeSharesOf cX4_freeSharesOf 3 (some .int) 3 65 [.ref (ad r 0), .int (i32 m)] S (some (.int (i32 (sp_free (S r) m)))) (fun X => X = S) := by
  refine Ct.of (by decide) (Nat.le_of_ble_eq_true rfl) (fun E hE hR => ?_)
  have hE : zG E l0 D0 cI0 cJ0 ad cX4_freeSharesOf 3 RX4 3 65 := hE
  show Z E S 0 [(0, .ref (ad r 0)), (1, .int (i32 m))] []
  have hA := inA hI
  unfold InvA at hA
  have hm := inM hI h0.1 h0.2
  have h3 := req_b hI h0.1 h0.2
  have h4 := rem_b hI m
  refine z_aload_n hE 0 rfl rfl dX4_freeSharesOf_0 ?_
  refine z_iload_n hE 1 rfl rfl dX4_freeSharesOf_1 ?_
  refine z_callV hE (c_X4_requirementOf l0 D0 cI0 cJ0 ad S r hr m hI (by omega)) (ks_m hr (by decide)) rfl rfl zm_X4_86 zi_yX4_requirementOf zs_yX4_requirementOf zn_RX4 zc_yX4_requirementOf (hy_X4_requirementOf) (Nat.le_of_ble_eq_true rfl) (Nat.le_of_ble_eq_true rfl) rfl rfl rfl (Nat.le_of_ble_eq_true rfl) dX4_freeSharesOf_2 ?_
  refine z_aload_n hE 0 rfl rfl dX4_freeSharesOf_5 ?_
  refine gf_4_3 hE (ks_m hr (by decide)) zf_X4_35 dX4_freeSharesOf_6 ?_
  refine z_iload_n hE 1 rfl rfl dX4_freeSharesOf_9 ?_
  refine z_callV hE (c_X3_remainingOf l0 D0 cI0 cJ0 ad S r hr m (by omega) (by omega) (fun k h1 h2 => by have := inO hI k h1 h2; omega)) (ks_m hr (by decide)) rfl rfl zm_X4_90 zi_yX3_remainingOf zs_yX3_remainingOf zn_RX3 zc_yX3_remainingOf (hy_X3_remainingOf) (Nat.le_of_ble_eq_true rfl) (Nat.le_of_ble_eq_true rfl) rfl rfl rfl (Nat.le_of_ble_eq_true rfl) dX4_freeSharesOf_10 ?_
  refine z_iadd hE dX4_freeSharesOf_13 ?_
  refine z_istore_n hE rfl (by decide) rfl dX4_freeSharesOf_14 ?_
  refine z_aload_n hE 1 rfl rfl dX4_freeSharesOf_15 ?_
  refine gf_4_0 hE (ks_m hr (by decide)) zf_X4_12 dX4_freeSharesOf_16 ?_
  refine gf_1_1 hE (ks_m hr (by decide)) zf_X4_72 dX4_freeSharesOf_19 ?_
  refine z_iload_n hE 2 rfl rfl dX4_freeSharesOf_22 ?_
  refine al_2 hE (ks_m hr (by decide)) (by omega) (by omega) dX4_freeSharesOf_23 ?_
  refine z_iload_n hE 0 rfl rfl dX4_freeSharesOf_24 ?_
  refine z_isub hE dX4_freeSharesOf_25 ?_
  refine z_iconst hE dX4_freeSharesOf_26 ?_
  refine z_max hE zm_X4_93 (by decide) (Nat.le_of_ble_eq_true rfl) ⟨by omega, by omega⟩ ⟨by omega, by omega⟩ dX4_freeSharesOf_27 ?_
  exact z_iret hE hR dX4_freeSharesOf_30 (congrArg (fun x => some (Value.int (i32 x))) (by first | rfl | omega)) (by first | rfl | (simp only [us_id]))
theorem dX4_roomOf_0 : decode cX4_roomOf 0 = .ok (.aload_n 0, 1) := by decide +kernel
theorem dX4_roomOf_1 : decode cX4_roomOf 1 = .ok (.invokevirtual 98, 3) := by decide +kernel
theorem dX4_roomOf_4 : decode cX4_roomOf 4 = .ok (.aload_n 0, 1) := by decide +kernel
theorem dX4_roomOf_5 : decode cX4_roomOf 5 = .ok (.getfield 21, 3) := by decide +kernel
theorem dX4_roomOf_8 : decode cX4_roomOf 8 = .ok (.getfield 102, 3) := by decide +kernel
theorem dX4_roomOf_11 : decode cX4_roomOf 11 = .ok (.imul, 1) := by decide +kernel
theorem dX4_roomOf_12 : decode cX4_roomOf 12 = .ok (.bipush 100, 2) := by decide +kernel
theorem dX4_roomOf_14 : decode cX4_roomOf 14 = .ok (.invokestatic 82, 3) := by decide +kernel
theorem dX4_roomOf_17 : decode cX4_roomOf 17 = .ok (.istore_n 2, 1) := by decide +kernel
theorem dX4_roomOf_18 : decode cX4_roomOf 18 = .ok (.iload_n 2, 1) := by decide +kernel
theorem dX4_roomOf_19 : decode cX4_roomOf 19 = .ok (.aload_n 0, 1) := by decide +kernel
theorem dX4_roomOf_20 : decode cX4_roomOf 20 = .ok (.getfield 12, 3) := by decide +kernel
theorem dX4_roomOf_23 : decode cX4_roomOf 23 = .ok (.getfield 72, 3) := by decide +kernel
theorem dX4_roomOf_26 : decode cX4_roomOf 26 = .ok (.iload_n 1, 1) := by decide +kernel
theorem dX4_roomOf_27 : decode cX4_roomOf 27 = .ok (.iaload, 1) := by decide +kernel
theorem dX4_roomOf_28 : decode cX4_roomOf 28 = .ok (.isub, 1) := by decide +kernel
theorem dX4_roomOf_29 : decode cX4_roomOf 29 = .ok (.iconst 0, 1) := by decide +kernel
theorem dX4_roomOf_30 : decode cX4_roomOf 30 = .ok (.invokestatic 93, 3) := by decide +kernel
theorem dX4_roomOf_33 : decode cX4_roomOf 33 = .ok (.ireturn, 1) := by decide +kernel
theorem hy_X4_roomOf : yX4_roomOf.cls ≠ "java/lang/invoke/MethodHandle" ∧ yX4_roomOf.cls ≠ "java/lang/invoke/VarHandle" ∧ (parseMethodDescriptor yX4_roomOf.desc).map (fun d => d.parameters.length) = some 1 := ⟨by decide +kernel, by decide +kernel, by decide +kernel⟩
set_option maxHeartbeats 4000000 in
set_option maxRecDepth 100000 in
theorem c_X4_roomOf (l0 : Launch) (D0 : va_G) (cI0 cJ0 : ClassId) (ad : Nat → Nat → Nat) (S : zM) (r : Nat) (hr : r < 5) (m : Int) (hI : Inv0 (S r)) (h0 : 0 ≤ m ∧ m < 12) : Ct l0 D0 cI0 cJ0 ad yX4_roomOf cX4_roomOf 3 (some .int) 2 43 [.ref (ad r 0), .int (i32 m)] S (some (.int (i32 (sp_room (S r) m)))) (fun X => X = S) := by
  refine Ct.of (by decide) (Nat.le_of_ble_eq_true rfl) (fun E hE hR => ?_)
  have hE : zG E l0 D0 cI0 cJ0 ad cX4_roomOf 3 RX4 2 43 := hE
  show Z E S 0 [(0, .ref (ad r 0)), (1, .int (i32 m))] []
  have hA := inA hI
  unfold InvA at hA
  have hm := inM hI h0.1 h0.2
  have h3 := room_b hI h0.1 h0.2
  have h4 := inT hI
  refine z_aload_n hE 0 rfl rfl dX4_roomOf_0 ?_
  refine z_callV hE (c_X4_countAllShares l0 D0 cI0 cJ0 ad S r hr hI) (ks_m hr (by decide)) rfl rfl zm_X4_98 zi_yX4_countAllShares zs_yX4_countAllShares zn_RX4 zc_yX4_countAllShares (hy_X4_countAllShares) (Nat.le_of_ble_eq_true rfl) (Nat.le_of_ble_eq_true rfl) rfl rfl rfl (Nat.le_of_ble_eq_true rfl) dX4_roomOf_1 ?_
  refine z_aload_n hE 0 rfl rfl dX4_roomOf_4 ?_
  refine gf_4_1 hE (ks_m hr (by decide)) zf_X4_21 dX4_roomOf_5 ?_
  refine gf_5_3 hE (ks_m hr (by decide)) zf_X4_102 dX4_roomOf_8 ?_
  refine z_imul hE dX4_roomOf_11 ?_
  refine z_bipush (a := 100) hE (by decide) dX4_roomOf_12 ?_
  refine z_callN hE (c_X7_quotient l0 D0 cI0 cJ0 ad S ((sp_all ((S r))) * (S r 4)) 100 (⟨by omega, by omega⟩) (⟨by omega, by omega⟩) (by omega)) (List.mem_of_getElem? (i := 7) rfl) zt_yX7_quotient zn_RX7 zc_yX7_quotient (hy_X7_quotient) (Nat.le_of_ble_eq_true rfl) (Nat.le_of_ble_eq_true rfl) rfl rfl rfl (Nat.le_of_ble_eq_true rfl) dX4_roomOf_14 ?_
  refine z_istore_n hE rfl (by decide) rfl dX4_roomOf_17 ?_
  refine z_iload_n hE 0 rfl rfl dX4_roomOf_18 ?_
  refine z_aload_n hE 1 rfl rfl dX4_roomOf_19 ?_
  refine gf_4_0 hE (ks_m hr (by decide)) zf_X4_12 dX4_roomOf_20 ?_
  refine gf_1_1 hE (ks_m hr (by decide)) zf_X4_72 dX4_roomOf_23 ?_
  refine z_iload_n hE 2 rfl rfl dX4_roomOf_26 ?_
  refine al_2 hE (ks_m hr (by decide)) (by omega) (by omega) dX4_roomOf_27 ?_
  refine z_isub hE dX4_roomOf_28 ?_
  refine z_iconst hE dX4_roomOf_29 ?_
  refine z_max hE zm_X4_93 (by decide) (Nat.le_of_ble_eq_true rfl) ⟨by omega, by omega⟩ ⟨by omega, by omega⟩ dX4_roomOf_30 ?_
  exact z_iret hE hR dX4_roomOf_33 (congrArg (fun x => some (Value.int (i32 x))) (by first | rfl | omega)) (by first | rfl | (simp only [us_id]))
theorem dX4_isNeedy_0 : decode cX4_isNeedy 0 = .ok (.aload_n 0, 1) := by decide +kernel
theorem dX4_isNeedy_1 : decode cX4_isNeedy 1 = .ok (.getfield 12, 3) := by decide +kernel
theorem dX4_isNeedy_4 : decode cX4_isNeedy 4 = .ok (.getfield 72, 3) := by decide +kernel
theorem dX4_isNeedy_7 : decode cX4_isNeedy 7 = .ok (.iload_n 1, 1) := by decide +kernel
theorem dX4_isNeedy_8 : decode cX4_isNeedy 8 = .ok (.iaload, 1) := by decide +kernel
theorem dX4_isNeedy_9 : decode cX4_isNeedy 9 = .ok (.aload_n 0, 1) := by decide +kernel
theorem dX4_isNeedy_10 : decode cX4_isNeedy 10 = .ok (.iload_n 1, 1) := by decide +kernel
theorem dX4_isNeedy_11 : decode cX4_isNeedy 11 = .ok (.invokevirtual 86, 3) := by decide +kernel
theorem dX4_isNeedy_14 : decode cX4_isNeedy 14 = .ok (.if_icmp .ge 7, 3) := by decide +kernel
theorem dX4_isNeedy_17 : decode cX4_isNeedy 17 = .ok (.iconst 1, 1) := by decide +kernel
theorem dX4_isNeedy_18 : decode cX4_isNeedy 18 = .ok (.goto 4, 3) := by decide +kernel
theorem dX4_isNeedy_21 : decode cX4_isNeedy 21 = .ok (.iconst 0, 1) := by decide +kernel
theorem dX4_isNeedy_22 : decode cX4_isNeedy 22 = .ok (.ireturn, 1) := by decide +kernel
theorem hy_X4_isNeedy : yX4_isNeedy.cls ≠ "java/lang/invoke/MethodHandle" ∧ yX4_isNeedy.cls ≠ "java/lang/invoke/VarHandle" ∧ (parseMethodDescriptor yX4_isNeedy.desc).map (fun d => d.parameters.length) = some 1 := ⟨by decide +kernel, by decide +kernel, by decide +kernel⟩
set_option maxHeartbeats 4000000 in
set_option maxRecDepth 100000 in
theorem c_X4_isNeedy (l0 : Launch) (D0 : va_G) (cI0 cJ0 : ClassId) (ad : Nat → Nat → Nat) (S : zM) (r : Nat) (hr : r < 5) (m : Int) (hI : Inv0 (S r)) (h0 : 0 ≤ m ∧ m < 12) : Ct l0 D0 cI0 cJ0 ad yX4_isNeedy cX4_isNeedy 2 (some .boolean) 3 65 [.ref (ad r 0), .int (i32 m)] S (some (.int (i32 (zbo (sp_needy (S r) m))))) (fun X => X = S) := by
  refine Ct.of (by decide) (Nat.le_of_ble_eq_true rfl) (fun E hE hR => ?_)
  have hE : zG E l0 D0 cI0 cJ0 ad cX4_isNeedy 2 RX4 3 65 := hE
  show Z E S 0 [(0, .ref (ad r 0)), (1, .int (i32 m))] []
  have hA := inA hI
  unfold InvA at hA
  have hm := inM hI h0.1 h0.2
  have h3 := req_b hI h0.1 h0.2
  refine z_aload_n hE 0 rfl rfl dX4_isNeedy_0 ?_
  refine gf_4_0 hE (ks_m hr (by decide)) zf_X4_12 dX4_isNeedy_1 ?_
  refine gf_1_1 hE (ks_m hr (by decide)) zf_X4_72 dX4_isNeedy_4 ?_
  refine z_iload_n hE 1 rfl rfl dX4_isNeedy_7 ?_
  refine al_2 hE (ks_m hr (by decide)) (by omega) (by omega) dX4_isNeedy_8 ?_
  refine z_aload_n hE 0 rfl rfl dX4_isNeedy_9 ?_
  refine z_iload_n hE 1 rfl rfl dX4_isNeedy_10 ?_
  refine z_callV hE (c_X4_requirementOf l0 D0 cI0 cJ0 ad S r hr m hI (by omega)) (ks_m hr (by decide)) rfl rfl zm_X4_86 zi_yX4_requirementOf zs_yX4_requirementOf zn_RX4 zc_yX4_requirementOf (hy_X4_requirementOf) (Nat.le_of_ble_eq_true rfl) (Nat.le_of_ble_eq_true rfl) rfl rfl rfl (Nat.le_of_ble_eq_true rfl) dX4_isNeedy_11 ?_
  refine z_icmp_ge (tgt := 21) hE dX4_isNeedy_14 (by decide) ⟨by omega, by omega⟩ ⟨by omega, by omega⟩ (fun c1 => ?_) (fun c1 => ?_)
  · refine z_iconst hE dX4_isNeedy_21 ?_
    exact z_zret hE hR dX4_isNeedy_22 (by decide) (congrArg (fun x => some (Value.int (i32 x))) (by first | rfl | (unfold zbo; first | rw [if_pos (by omega)] | rw [if_neg (by omega)]))) (by first | rfl | (simp only [us_id]))
  · refine z_iconst hE dX4_isNeedy_17 ?_
    refine z_goto (tgt := 22) hE (d := dX4_isNeedy_18) (ht := by decide) ?_
    exact z_zret hE hR dX4_isNeedy_22 (by decide) (congrArg (fun x => some (Value.int (i32 x))) (by first | rfl | (unfold zbo; first | rw [if_pos (by omega)] | rw [if_neg (by omega)]))) (by first | rfl | (simp only [us_id]))
theorem dX4_canClaim_0 : decode cX4_canClaim 0 = .ok (.aload_n 0, 1) := by decide +kernel
theorem dX4_canClaim_1 : decode cX4_canClaim 1 = .ok (.getfield 35, 3) := by decide +kernel
theorem dX4_canClaim_4 : decode cX4_canClaim 4 = .ok (.getfield 105, 3) := by decide +kernel
theorem dX4_canClaim_7 : decode cX4_canClaim 7 = .ok (.iload_n 1, 1) := by decide +kernel
theorem dX4_canClaim_8 : decode cX4_canClaim 8 = .ok (.iaload, 1) := by decide +kernel
theorem dX4_canClaim_9 : decode cX4_canClaim 9 = .ok (.iload_n 2, 1) := by decide +kernel
theorem dX4_canClaim_10 : decode cX4_canClaim 10 = .ok (.if_icmp .ne 5, 3) := by decide +kernel
theorem dX4_canClaim_13 : decode cX4_canClaim 13 = .ok (.iconst 0, 1) := by decide +kernel
theorem dX4_canClaim_14 : decode cX4_canClaim 14 = .ok (.ireturn, 1) := by decide +kernel
theorem dX4_canClaim_15 : decode cX4_canClaim 15 = .ok (.aload_n 0, 1) := by decide +kernel
theorem dX4_canClaim_16 : decode cX4_canClaim 16 = .ok (.getfield 35, 3) := by decide +kernel
theorem dX4_canClaim_19 : decode cX4_canClaim 19 = .ok (.getfield 108, 3) := by decide +kernel
theorem dX4_canClaim_22 : decode cX4_canClaim 22 = .ok (.iload_n 1, 1) := by decide +kernel
theorem dX4_canClaim_23 : decode cX4_canClaim 23 = .ok (.iaload, 1) := by decide +kernel
theorem dX4_canClaim_24 : decode cX4_canClaim 24 = .ok (.lookupswitch 36 #[(0, 28), (1, 34)], 28) := by decide +kernel
theorem dX4_canClaim_52 : decode cX4_canClaim 52 = .ok (.aload_n 0, 1) := by decide +kernel
theorem dX4_canClaim_53 : decode cX4_canClaim 53 = .ok (.iload_n 2, 1) := by decide +kernel
theorem dX4_canClaim_54 : decode cX4_canClaim 54 = .ok (.invokevirtual 111, 3) := by decide +kernel
theorem dX4_canClaim_57 : decode cX4_canClaim 57 = .ok (.ireturn, 1) := by decide +kernel
theorem dX4_canClaim_58 : decode cX4_canClaim 58 = .ok (.iconst 1, 1) := by decide +kernel
theorem dX4_canClaim_59 : decode cX4_canClaim 59 = .ok (.ireturn, 1) := by decide +kernel
theorem dX4_canClaim_60 : decode cX4_canClaim 60 = .ok (.iconst 0, 1) := by decide +kernel
theorem dX4_canClaim_61 : decode cX4_canClaim 61 = .ok (.ireturn, 1) := by decide +kernel
theorem hy_X4_canClaim : yX4_canClaim.cls ≠ "java/lang/invoke/MethodHandle" ∧ yX4_canClaim.cls ≠ "java/lang/invoke/VarHandle" ∧ (parseMethodDescriptor yX4_canClaim.desc).map (fun d => d.parameters.length) = some 2 := ⟨by decide +kernel, by decide +kernel, by decide +kernel⟩
set_option maxHeartbeats 4000000 in
set_option maxRecDepth 100000 in
theorem c_X4_canClaim (l0 : Launch) (D0 : va_G) (cI0 cJ0 : ClassId) (ad : Nat → Nat → Nat) (S : zM) (r : Nat) (hr : r < 5) (o : Int) (m : Int) (hI : Inv0 (S r)) (h1 : 0 ≤ o ∧ o < S r 14) (h0 : 0 ≤ m ∧ m < 12) : Ct l0 D0 cI0 cJ0 ad yX4_canClaim cX4_canClaim 3 (some .boolean) 4 86 [.ref (ad r 0), .int (i32 o), .int (i32 m)] S (some (.int (i32 (zbo (sp_can (S r) o m))))) (fun X => X = S) := by
  refine Ct.of (by decide) (Nat.le_of_ble_eq_true rfl) (fun E hE hR => ?_)
  have hE : zG E l0 D0 cI0 cJ0 ad cX4_canClaim 3 RX4 4 86 := hE
  show Z E S 0 [(0, .ref (ad r 0)), (1, .int (i32 o)), (2, .int (i32 m))] []
  have hA := inA hI
  unfold InvA at hA
  have hm := inM hI h0.1 h0.2
  have ho := inO hI o h1.1 h1.2
  refine z_aload_n hE 0 rfl rfl dX4_canClaim_0 ?_
  refine gf_4_3 hE (ks_m hr (by decide)) zf_X4_35 dX4_canClaim_1 ?_
  refine gf_3_1 hE (ks_m hr (by decide)) zf_X4_105 dX4_canClaim_4 ?_
  refine z_iload_n hE 1 rfl rfl dX4_canClaim_7 ?_
  refine al_9 hE (ks_m hr (by decide)) (by omega) (by omega) dX4_canClaim_8 ?_
  refine z_iload_n hE 2 rfl rfl dX4_canClaim_9 ?_
  refine z_icmp_ne (tgt := 15) hE dX4_canClaim_10 (by decide) ⟨by omega, by omega⟩ ⟨by omega, by omega⟩ (fun c1 => ?_) (fun c1 => ?_)
  · refine z_aload_n hE 0 rfl rfl dX4_canClaim_15 ?_
    refine gf_4_3 hE (ks_m hr (by decide)) zf_X4_35 dX4_canClaim_16 ?_
    refine gf_3_5 hE (ks_m hr (by decide)) zf_X4_108 dX4_canClaim_19 ?_
    refine z_iload_n hE 1 rfl rfl dX4_canClaim_22 ?_
    refine al_13 hE (ks_m hr (by decide)) (by omega) (by omega) dX4_canClaim_23 ?_
    by_cases k24_0 : S r (59 + 22 * o) = 0
    · refine z_look (tgt := 52) (off := 28) hE dX4_canClaim_24 ⟨by omega, by omega⟩ (by decide) (by simp [Op.lookupswitch.offset_cons, Op.lookupswitch.offset_nil, k24_0]) (by decide) ?_
      refine z_aload_n hE 0 rfl rfl dX4_canClaim_52 ?_
      refine z_iload_n hE 2 rfl rfl dX4_canClaim_53 ?_
      refine z_callV hE (c_X4_isNeedy l0 D0 cI0 cJ0 ad S r hr m hI (by omega)) (ks_m hr (by decide)) rfl rfl zm_X4_111 zi_yX4_isNeedy zs_yX4_isNeedy zn_RX4 zc_yX4_isNeedy (hy_X4_isNeedy) (Nat.le_of_ble_eq_true rfl) (Nat.le_of_ble_eq_true rfl) rfl rfl rfl (Nat.le_of_ble_eq_true rfl) dX4_canClaim_54 ?_
      exact z_zret hE hR dX4_canClaim_57 (by unfold zbo; split <;> omega) (congrArg (fun x => some (Value.int (i32 x))) (by first | exact zbo_cg (by omega) | exact (zbo_t (by omega)) | exact zbo_f (by omega))) (by first | rfl | (simp only [us_id]))
    by_cases k24_1 : S r (59 + 22 * o) = 1
    · refine z_look (tgt := 58) (off := 34) hE dX4_canClaim_24 ⟨by omega, by omega⟩ (by decide) (by simp [Op.lookupswitch.offset_cons, Op.lookupswitch.offset_nil, k24_0, k24_1]) (by decide) ?_
      refine z_iconst hE dX4_canClaim_58 ?_
      exact z_zret hE hR dX4_canClaim_59 (by decide) (congrArg (fun x => some (Value.int (i32 x))) (by first | exact zbo_cg (by omega) | exact (zbo_t (by omega)) | exact zbo_f (by omega))) (by first | rfl | (simp only [us_id]))
    refine z_look (tgt := 60) (off := 36) hE dX4_canClaim_24 ⟨by omega, by omega⟩ (by decide) (by simp [Op.lookupswitch.offset_cons, Op.lookupswitch.offset_nil]; omega) (by decide) ?_
    refine z_iconst hE dX4_canClaim_60 ?_
    exact z_zret hE hR dX4_canClaim_61 (by decide) (congrArg (fun x => some (Value.int (i32 x))) (by first | exact zbo_cg (by omega) | exact (zbo_t (by omega)) | exact zbo_f (by omega))) (by first | rfl | (simp only [us_id]))
  · refine z_iconst hE dX4_canClaim_13 ?_
    exact z_zret hE hR dX4_canClaim_14 (by decide) (congrArg (fun x => some (Value.int (i32 x))) (by first | exact zbo_cg (by omega) | exact (zbo_t (by omega)) | exact zbo_f (by omega))) (by first | rfl | (simp only [us_id]))
theorem dX4_votesOf_0 : decode cX4_votesOf 0 = .ok (.aload_n 0, 1) := by decide +kernel
theorem dX4_votesOf_1 : decode cX4_votesOf 1 = .ok (.getfield 12, 3) := by decide +kernel
theorem dX4_votesOf_4 : decode cX4_votesOf 4 = .ok (.getfield 72, 3) := by decide +kernel
theorem dX4_votesOf_7 : decode cX4_votesOf 7 = .ok (.iload_n 1, 1) := by decide +kernel
theorem dX4_votesOf_8 : decode cX4_votesOf 8 = .ok (.iaload, 1) := by decide +kernel
theorem dX4_votesOf_9 : decode cX4_votesOf 9 = .ok (.istore_n 2, 1) := by decide +kernel
theorem dX4_votesOf_10 : decode cX4_votesOf 10 = .ok (.iload_n 2, 1) := by decide +kernel
theorem dX4_votesOf_11 : decode cX4_votesOf 11 = .ok (.ifCond .gt 5, 3) := by decide +kernel
theorem dX4_votesOf_14 : decode cX4_votesOf 14 = .ok (.iconst 0, 1) := by decide +kernel
theorem dX4_votesOf_15 : decode cX4_votesOf 15 = .ok (.ireturn, 1) := by decide +kernel
theorem dX4_votesOf_16 : decode cX4_votesOf 16 = .ok (.aload_n 0, 1) := by decide +kernel
theorem dX4_votesOf_17 : decode cX4_votesOf 17 = .ok (.getfield 21, 3) := by decide +kernel
theorem dX4_votesOf_20 : decode cX4_votesOf 20 = .ok (.getfield 197, 3) := by decide +kernel
theorem dX4_votesOf_23 : decode cX4_votesOf 23 = .ok (.tableswitch 50 1 3 #[25, 27, 45], 25) := by decide +kernel
theorem dX4_votesOf_48 : decode cX4_votesOf 48 = .ok (.iload_n 2, 1) := by decide +kernel
theorem dX4_votesOf_49 : decode cX4_votesOf 49 = .ok (.ireturn, 1) := by decide +kernel
theorem dX4_votesOf_50 : decode cX4_votesOf 50 = .ok (.aload_n 0, 1) := by decide +kernel
theorem dX4_votesOf_51 : decode cX4_votesOf 51 = .ok (.getfield 12, 3) := by decide +kernel
theorem dX4_votesOf_54 : decode cX4_votesOf 54 = .ok (.getfield 79, 3) := by decide +kernel
theorem dX4_votesOf_57 : decode cX4_votesOf 57 = .ok (.iload_n 1, 1) := by decide +kernel
theorem dX4_votesOf_58 : decode cX4_votesOf 58 = .ok (.iaload, 1) := by decide +kernel
theorem dX4_votesOf_59 : decode cX4_votesOf 59 = .ok (.sipush 1000, 3) := by decide +kernel
theorem dX4_votesOf_62 : decode cX4_votesOf 62 = .ok (.invokestatic 82, 3) := by decide +kernel
theorem dX4_votesOf_65 : decode cX4_votesOf 65 = .ok (.iconst 1, 1) := by decide +kernel
theorem dX4_votesOf_66 : decode cX4_votesOf 66 = .ok (.iadd, 1) := by decide +kernel
theorem dX4_votesOf_67 : decode cX4_votesOf 67 = .ok (.ireturn, 1) := by decide +kernel
theorem dX4_votesOf_68 : decode cX4_votesOf 68 = .ok (.iload_n 2, 1) := by decide +kernel
theorem dX4_votesOf_69 : decode cX4_votesOf 69 = .ok (.invokestatic 200, 3) := by decide +kernel
theorem dX4_votesOf_72 : decode cX4_votesOf 72 = .ok (.ireturn, 1) := by decide +kernel
theorem dX4_votesOf_73 : decode cX4_votesOf 73 = .ok (.iconst 1, 1) := by decide +kernel
theorem dX4_votesOf_74 : decode cX4_votesOf 74 = .ok (.ireturn, 1) := by decide +kernel
theorem hy_X4_votesOf : yX4_votesOf.cls ≠ "java/lang/invoke/MethodHandle" ∧ yX4_votesOf.cls ≠ "java/lang/invoke/VarHandle" ∧ (parseMethodDescriptor yX4_votesOf.desc).map (fun d => d.parameters.length) = some 1 := ⟨by decide +kernel, by decide +kernel, by decide +kernel⟩
set_option maxHeartbeats 4000000 in
set_option maxRecDepth 100000 in
theorem c_X4_votesOf (l0 : Launch) (D0 : va_G) (cI0 cJ0 : ClassId) (ad : Nat → Nat → Nat) (S : zM) (r : Nat) (hr : r < 5) (m : Int) (hI : Inv0 (S r)) (h0 : 0 ≤ m ∧ m < 12) : Ct l0 D0 cI0 cJ0 ad yX4_votesOf cX4_votesOf 3 (some .int) 2 43 [.ref (ad r 0), .int (i32 m)] S (some (.int (i32 (sp_votes (S r) m)))) (fun X => X = S) := by
  refine Ct.of (by decide) (Nat.le_of_ble_eq_true rfl) (fun E hE hR => ?_)
  have hE : zG E l0 D0 cI0 cJ0 ad cX4_votesOf 3 RX4 2 43 := hE
  show Z E S 0 [(0, .ref (ad r 0)), (1, .int (i32 m))] []
  have hA := inA hI
  unfold InvA at hA
  have hm := inM hI h0.1 h0.2
  refine z_aload_n hE 0 rfl rfl dX4_votesOf_0 ?_
  refine gf_4_0 hE (ks_m hr (by decide)) zf_X4_12 dX4_votesOf_1 ?_
  refine gf_1_1 hE (ks_m hr (by decide)) zf_X4_72 dX4_votesOf_4 ?_
  refine z_iload_n hE 1 rfl rfl dX4_votesOf_7 ?_
  refine al_2 hE (ks_m hr (by decide)) (by omega) (by omega) dX4_votesOf_8 ?_
  refine z_istore_n hE rfl (by decide) rfl dX4_votesOf_9 ?_
  refine z_iload_n hE 0 rfl rfl dX4_votesOf_10 ?_
  refine z_if_gt (tgt := 16) hE dX4_votesOf_11 (by decide) ⟨by omega, by omega⟩ (fun c1 => ?_) (fun c1 => ?_)
  · refine z_aload_n hE 1 rfl rfl dX4_votesOf_16 ?_
    refine gf_4_1 hE (ks_m hr (by decide)) zf_X4_21 dX4_votesOf_17 ?_
    refine gf_5_5 hE (ks_m hr (by decide)) zf_X4_197 dX4_votesOf_20 ?_
    by_cases k23_1 : S r 16 = 1
    · refine z_tIn (tgt := 48) hE 1 dX4_votesOf_23 ⟨by omega, by omega⟩ k23_1 (by decide) (by decide) rfl (by decide) ?_
      refine z_iload_n hE 0 rfl rfl dX4_votesOf_48 ?_
      exact z_iret hE hR dX4_votesOf_49 (congrArg (fun x => some (Value.int (i32 x))) (by unfold sp_votes; first | rw [if_pos (by omega)] | rw [if_neg (by omega), if_pos (by omega)] | rw [if_neg (by omega), if_neg (by omega), if_pos (by omega)] | rw [if_neg (by omega), if_neg (by omega), if_neg (by omega), if_pos (by omega)] | rw [if_neg (by omega), if_neg (by omega), if_neg (by omega), if_neg (by omega)])) (by first | rfl | (simp only [us_id]))
    by_cases k23_2 : S r 16 = 2
    · refine z_tIn (tgt := 50) hE 2 dX4_votesOf_23 ⟨by omega, by omega⟩ k23_2 (by decide) (by decide) rfl (by decide) ?_
      refine z_aload_n hE 1 rfl rfl dX4_votesOf_50 ?_
      refine gf_4_0 hE (ks_m hr (by decide)) zf_X4_12 dX4_votesOf_51 ?_
      refine gf_1_2 hE (ks_m hr (by decide)) zf_X4_79 dX4_votesOf_54 ?_
      refine z_iload_n hE 2 rfl rfl dX4_votesOf_57 ?_
      refine al_3 hE (ks_m hr (by decide)) (by omega) (by omega) dX4_votesOf_58 ?_
      refine z_sipush (a := 1000) hE (by decide) dX4_votesOf_59 ?_
      refine z_callN hE (c_X7_quotient l0 D0 cI0 cJ0 ad S (S r (20 + 3 * m)) 1000 (⟨by omega, by omega⟩) (⟨by omega, by omega⟩) (by omega)) (List.mem_of_getElem? (i := 7) rfl) zt_yX7_quotient zn_RX7 zc_yX7_quotient (hy_X7_quotient) (Nat.le_of_ble_eq_true rfl) (Nat.le_of_ble_eq_true rfl) rfl rfl rfl (Nat.le_of_ble_eq_true rfl) dX4_votesOf_62 ?_
      refine z_iconst hE dX4_votesOf_65 ?_
      refine z_iadd hE dX4_votesOf_66 ?_
      exact z_iret hE hR dX4_votesOf_67 (congrArg (fun x => some (Value.int (i32 x))) (by unfold sp_votes; first | rw [if_pos (by omega)] | rw [if_neg (by omega), if_pos (by omega)] | rw [if_neg (by omega), if_neg (by omega), if_pos (by omega)] | rw [if_neg (by omega), if_neg (by omega), if_neg (by omega), if_pos (by omega)] | rw [if_neg (by omega), if_neg (by omega), if_neg (by omega), if_neg (by omega)])) (by first | rfl | (simp only [us_id]))
    by_cases k23_3 : S r 16 = 3
    · refine z_tIn (tgt := 68) hE 3 dX4_votesOf_23 ⟨by omega, by omega⟩ k23_3 (by decide) (by decide) rfl (by decide) ?_
      refine z_iload_n hE 0 rfl rfl dX4_votesOf_68 ?_
      refine z_callN hE (c_X7_rootOf l0 D0 cI0 cJ0 ad S (S r (19 + 3 * m)) (by omega)) (List.mem_of_getElem? (i := 10) rfl) zt_yX7_rootOf zn_RX7 zc_yX7_rootOf (hy_X7_rootOf) (Nat.le_of_ble_eq_true rfl) (Nat.le_of_ble_eq_true rfl) rfl rfl rfl (Nat.le_of_ble_eq_true rfl) dX4_votesOf_69 ?_
      exact z_iret hE hR dX4_votesOf_72 (congrArg (fun x => some (Value.int (i32 x))) (by unfold sp_votes; first | rw [if_pos (by omega)] | rw [if_neg (by omega), if_pos (by omega)] | rw [if_neg (by omega), if_neg (by omega), if_pos (by omega)] | rw [if_neg (by omega), if_neg (by omega), if_neg (by omega), if_pos (by omega)] | rw [if_neg (by omega), if_neg (by omega), if_neg (by omega), if_neg (by omega)])) (by first | rfl | (simp only [us_id]))
    refine z_tOut (tgt := 73) hE dX4_votesOf_23 ⟨by omega, by omega⟩ (by omega) (by decide) ?_
    refine z_iconst hE dX4_votesOf_73 ?_
    exact z_iret hE hR dX4_votesOf_74 (congrArg (fun x => some (Value.int (i32 x))) (by unfold sp_votes; first | rw [if_pos (by omega)] | rw [if_neg (by omega), if_pos (by omega)] | rw [if_neg (by omega), if_neg (by omega), if_pos (by omega)] | rw [if_neg (by omega), if_neg (by omega), if_neg (by omega), if_pos (by omega)] | rw [if_neg (by omega), if_neg (by omega), if_neg (by omega), if_neg (by omega)])) (by first | rfl | (simp only [us_id]))
  · refine z_iconst hE dX4_votesOf_14 ?_
    exact z_iret hE hR dX4_votesOf_15 (congrArg (fun x => some (Value.int (i32 x))) (by unfold sp_votes; first | rw [if_pos (by omega)] | rw [if_neg (by omega), if_pos (by omega)] | rw [if_neg (by omega), if_neg (by omega), if_pos (by omega)] | rw [if_neg (by omega), if_neg (by omega), if_neg (by omega), if_pos (by omega)] | rw [if_neg (by omega), if_neg (by omega), if_neg (by omega), if_neg (by omega)])) (by first | rfl | (simp only [us_id]))
theorem dX4_sumOfVotes_0 : decode cX4_sumOfVotes 0 = .ok (.iconst 0, 1) := by decide +kernel
theorem dX4_sumOfVotes_1 : decode cX4_sumOfVotes 1 = .ok (.istore_n 3, 1) := by decide +kernel
theorem dX4_sumOfVotes_2 : decode cX4_sumOfVotes 2 = .ok (.iconst 0, 1) := by decide +kernel
theorem dX4_sumOfVotes_3 : decode cX4_sumOfVotes 3 = .ok (.istore 4, 2) := by decide +kernel
theorem dX4_sumOfVotes_5 : decode cX4_sumOfVotes 5 = .ok (.iload 4, 2) := by decide +kernel
theorem dX4_sumOfVotes_7 : decode cX4_sumOfVotes 7 = .ok (.aload_n 0, 1) := by decide +kernel
theorem dX4_sumOfVotes_8 : decode cX4_sumOfVotes 8 = .ok (.getfield 12, 3) := by decide +kernel
theorem dX4_sumOfVotes_11 : decode cX4_sumOfVotes 11 = .ok (.getfield 69, 3) := by decide +kernel
theorem dX4_sumOfVotes_14 : decode cX4_sumOfVotes 14 = .ok (.if_icmp .ge 32, 3) := by decide +kernel
theorem dX4_sumOfVotes_17 : decode cX4_sumOfVotes 17 = .ok (.aload_n 0, 1) := by decide +kernel
theorem dX4_sumOfVotes_18 : decode cX4_sumOfVotes 18 = .ok (.getfield 42, 3) := by decide +kernel
theorem dX4_sumOfVotes_21 : decode cX4_sumOfVotes 21 = .ok (.iload_n 1, 1) := by decide +kernel
theorem dX4_sumOfVotes_22 : decode cX4_sumOfVotes 22 = .ok (.iload 4, 2) := by decide +kernel
theorem dX4_sumOfVotes_24 : decode cX4_sumOfVotes 24 = .ok (.invokevirtual 203, 3) := by decide +kernel
theorem dX4_sumOfVotes_27 : decode cX4_sumOfVotes 27 = .ok (.iload_n 2, 1) := by decide +kernel
theorem dX4_sumOfVotes_28 : decode cX4_sumOfVotes 28 = .ok (.if_icmp .ne 12, 3) := by decide +kernel
theorem dX4_sumOfVotes_31 : decode cX4_sumOfVotes 31 = .ok (.iload_n 3, 1) := by decide +kernel
theorem dX4_sumOfVotes_32 : decode cX4_sumOfVotes 32 = .ok (.aload_n 0, 1) := by decide +kernel
theorem dX4_sumOfVotes_33 : decode cX4_sumOfVotes 33 = .ok (.iload 4, 2) := by decide +kernel
theorem dX4_sumOfVotes_35 : decode cX4_sumOfVotes 35 = .ok (.invokevirtual 206, 3) := by decide +kernel
theorem dX4_sumOfVotes_38 : decode cX4_sumOfVotes 38 = .ok (.iadd, 1) := by decide +kernel
theorem dX4_sumOfVotes_39 : decode cX4_sumOfVotes 39 = .ok (.istore_n 3, 1) := by decide +kernel
theorem dX4_sumOfVotes_40 : decode cX4_sumOfVotes 40 = .ok (.iinc 4 1, 3) := by decide +kernel
theorem dX4_sumOfVotes_43 : decode cX4_sumOfVotes 43 = .ok (.goto (-38), 3) := by decide +kernel
theorem dX4_sumOfVotes_46 : decode cX4_sumOfVotes 46 = .ok (.iload_n 3, 1) := by decide +kernel
theorem dX4_sumOfVotes_47 : decode cX4_sumOfVotes 47 = .ok (.ireturn, 1) := by decide +kernel
theorem hy_X4_sumOfVotes : yX4_sumOfVotes.cls ≠ "java/lang/invoke/MethodHandle" ∧ yX4_sumOfVotes.cls ≠ "java/lang/invoke/VarHandle" ∧ (parseMethodDescriptor yX4_sumOfVotes.desc).map (fun d => d.parameters.length) = some 2 := ⟨by decide +kernel, by decide +kernel, by decide +kernel⟩
set_option maxHeartbeats 4000000 in
set_option maxRecDepth 100000 in
theorem lp_X4_sumOfVotes {E : zE} {l0 : Launch} {D0 : va_G} {cI0 cJ0 : ClassId} {ad : Nat → Nat → Nat} (hE : zG E l0 D0 cI0 cJ0 ad cX4_sumOfVotes 5 RX4 3 65) (S : zM) (r : Nat) (hr : r < 5) (q : Int) (b : Int) (hI : Inv0 (S r)) (h0 : 0 ≤ q ∧ q < 10) (h1 : 0 ≤ b ∧ b ≤ 2) (hR : zR E (some .int) (some (.int (i32 (sp_sum (S r) q b)))) (fun X => X = S)) : ∀ (fuel : Nat) (i : Int) (h9 : 0 ≤ i ∧ i ≤ S r 0), (S r 0 - i).toNat < fuel → Z E S 5 [(4, .int (i32 i)), (3, .int (i32 (sm (sp_vf (S r) q b) i))), (0, .ref (ad r 0)), (1, .int (i32 q)), (2, .int (i32 b))] [] := by
  intro fuel
  induction fuel with
  | zero => intro _ _ hz; omega
  | succ fuel ih =>
    intro i h9 hz
    have hA := inA hI
    unfold InvA at hA
    refine z_iload hE 0 rfl dX4_sumOfVotes_5 ?_
    refine z_aload_n hE 2 rfl rfl dX4_sumOfVotes_7 ?_
    refine gf_4_0 hE (ks_m hr (by decide)) zf_X4_12 dX4_sumOfVotes_8 ?_
    refine gf_1_0 hE (ks_m hr (by decide)) zf_X4_69 dX4_sumOfVotes_11 ?_
    refine z_icmp_ge (tgt := 46) hE dX4_sumOfVotes_14 (by decide) ⟨by omega, by omega⟩ ⟨by omega, by omega⟩ (fun c1 => ?_) (fun c1 => ?_)
    · refine z_iload_n hE 1 rfl rfl dX4_sumOfVotes_46 ?_
      exact z_iret hE hR dX4_sumOfVotes_47 (congrArg (fun x => some (Value.int (i32 x))) (by unfold sp_sum; rw [show i = S r 0 by omega])) (by first | rfl | (simp only [us_id]))
    · have h8 := inV hI q i h0.1 h0.2 h9.1 (by omega)
      refine z_aload_n hE 2 rfl rfl dX4_sumOfVotes_17 ?_
      refine gf_4_4 hE (ks_m hr (by decide)) zf_X4_42 dX4_sumOfVotes_18 ?_
      refine z_iload_n hE 3 rfl rfl dX4_sumOfVotes_21 ?_
      refine z_iload hE 0 rfl dX4_sumOfVotes_22 ?_
      refine z_callV hE (c_X2_ballotOf l0 D0 cI0 cJ0 ad S r hr q i (by omega) (by omega)) (ks_m hr (by decide)) rfl rfl zm_X4_203 zi_yX2_ballotOf zs_yX2_ballotOf zn_RX2 zc_yX2_ballotOf (hy_X2_ballotOf) (Nat.le_of_ble_eq_true rfl) (Nat.le_of_ble_eq_true rfl) rfl rfl rfl (Nat.le_of_ble_eq_true rfl) dX4_sumOfVotes_24 ?_
      refine z_iload_n hE 4 rfl rfl dX4_sumOfVotes_27 ?_
      refine z_icmp_ne (tgt := 40) hE dX4_sumOfVotes_28 (by decide) ⟨by omega, by omega⟩ ⟨by omega, by omega⟩ (fun c2 => ?_) (fun c2 => ?_)
      · refine z_iinc hE 0 rfl (by decide) rfl dX4_sumOfVotes_40 ?_
        refine z_goto (tgt := 5) hE (d := dX4_sumOfVotes_43) (ht := by decide) ?_
        refine z_L (L' := [(4, .int (i32 (i + 1))), (3, .int (i32 (sm (sp_vf (S r) q b) (i + 1)))), (0, .ref (ad r 0)), (1, .int (i32 q)), (2, .int (i32 b))]) [0, 1, 2, 3, 4] (by rw [show sm (sp_vf (S r) q b) (i + 1) = sm (sp_vf (S r) q b) i from by first | rfl | ((rw [sm_s h9.1]; unfold sp_vf; first | rw [if_pos (by omega)] | (rw [if_neg (by omega)]; omega)))]; rfl) ?_
        exact ih (i + 1) ⟨by omega, by omega⟩ (by omega)
      · refine z_iload_n hE 1 rfl rfl dX4_sumOfVotes_31 ?_
        refine z_aload_n hE 2 rfl rfl dX4_sumOfVotes_32 ?_
        refine z_iload hE 0 rfl dX4_sumOfVotes_33 ?_
        refine z_callV hE (c_X4_votesOf l0 D0 cI0 cJ0 ad S r hr i hI (by omega)) (ks_m hr (by decide)) rfl rfl zm_X4_206 zi_yX4_votesOf zs_yX4_votesOf zn_RX4 zc_yX4_votesOf (hy_X4_votesOf) (Nat.le_of_ble_eq_true rfl) (Nat.le_of_ble_eq_true rfl) rfl rfl rfl (Nat.le_of_ble_eq_true rfl) dX4_sumOfVotes_35 ?_
        refine z_iadd hE dX4_sumOfVotes_38 ?_
        refine z_istore_n hE rfl (by decide) rfl dX4_sumOfVotes_39 ?_
        refine z_iinc hE 1 rfl (by decide) rfl dX4_sumOfVotes_40 ?_
        refine z_goto (tgt := 5) hE (d := dX4_sumOfVotes_43) (ht := by decide) ?_
        refine z_L (L' := [(4, .int (i32 (i + 1))), (3, .int (i32 (sm (sp_vf (S r) q b) (i + 1)))), (0, .ref (ad r 0)), (1, .int (i32 q)), (2, .int (i32 b))]) [0, 1, 2, 3, 4] (by rw [show sm (sp_vf (S r) q b) (i + 1) = (sm (sp_vf (S r) q b) i) + (sp_votes ((S r)) i) from by first | rfl | ((rw [sm_s h9.1]; unfold sp_vf; first | rw [if_pos (by omega)] | (rw [if_neg (by omega)]; omega)))]; rfl) ?_
        exact ih (i + 1) ⟨by omega, by omega⟩ (by omega)
set_option maxHeartbeats 4000000 in
set_option maxRecDepth 100000 in
theorem c_X4_sumOfVotes (l0 : Launch) (D0 : va_G) (cI0 cJ0 : ClassId) (ad : Nat → Nat → Nat) (S : zM) (r : Nat) (hr : r < 5) (q : Int) (b : Int) (hI : Inv0 (S r)) (h0 : 0 ≤ q ∧ q < 10) (h1 : 0 ≤ b ∧ b ≤ 2) : Ct l0 D0 cI0 cJ0 ad yX4_sumOfVotes cX4_sumOfVotes 5 (some .int) 3 65 [.ref (ad r 0), .int (i32 q), .int (i32 b)] S (some (.int (i32 (sp_sum (S r) q b)))) (fun X => X = S) := by
  refine Ct.of (by decide) (Nat.le_of_ble_eq_true rfl) (fun E hE hR => ?_)
  have hE : zG E l0 D0 cI0 cJ0 ad cX4_sumOfVotes 5 RX4 3 65 := hE
  show Z E S 0 [(0, .ref (ad r 0)), (1, .int (i32 q)), (2, .int (i32 b))] []
  have hA := inA hI
  unfold InvA at hA
  refine z_iconst hE dX4_sumOfVotes_0 ?_
  refine z_istore_n hE rfl (by decide) rfl dX4_sumOfVotes_1 ?_
  refine z_iconst hE dX4_sumOfVotes_2 ?_
  refine z_istore hE (by decide) rfl dX4_sumOfVotes_3 ?_
  refine z_L (L' := [(4, .int (i32 0)), (3, .int (i32 (sm (sp_vf (S r) q b) 0))), (0, .ref (ad r 0)), (1, .int (i32 q)), (2, .int (i32 b))]) [0, 1, 2, 3, 4] (by rw [show sm (sp_vf (S r) q b) 0 = 0 from by first | rfl | (exact sm_0 _)]; rfl) ?_
  exact lp_X4_sumOfVotes hE S r hr q b hI h0 h1 hR 13 0 ⟨by omega, by omega⟩ (by omega)
theorem dX4_passes_0 : decode cX4_passes 0 = .ok (.aload_n 0, 1) := by decide +kernel
theorem dX4_passes_1 : decode cX4_passes 1 = .ok (.iload_n 1, 1) := by decide +kernel
theorem dX4_passes_2 : decode cX4_passes 2 = .ok (.iconst 1, 1) := by decide +kernel
theorem dX4_passes_3 : decode cX4_passes 3 = .ok (.invokevirtual 209, 3) := by decide +kernel
theorem dX4_passes_6 : decode cX4_passes 6 = .ok (.istore_n 2, 1) := by decide +kernel
theorem dX4_passes_7 : decode cX4_passes 7 = .ok (.aload_n 0, 1) := by decide +kernel
theorem dX4_passes_8 : decode cX4_passes 8 = .ok (.iload_n 1, 1) := by decide +kernel
theorem dX4_passes_9 : decode cX4_passes 9 = .ok (.iconst 2, 1) := by decide +kernel
theorem dX4_passes_10 : decode cX4_passes 10 = .ok (.invokevirtual 209, 3) := by decide +kernel
theorem dX4_passes_13 : decode cX4_passes 13 = .ok (.istore_n 3, 1) := by decide +kernel
theorem dX4_passes_14 : decode cX4_passes 14 = .ok (.iload_n 2, 1) := by decide +kernel
theorem dX4_passes_15 : decode cX4_passes 15 = .ok (.iload_n 3, 1) := by decide +kernel
theorem dX4_passes_16 : decode cX4_passes 16 = .ok (.iadd, 1) := by decide +kernel
theorem dX4_passes_17 : decode cX4_passes 17 = .ok (.istore 4, 2) := by decide +kernel
theorem dX4_passes_19 : decode cX4_passes 19 = .ok (.iload 4, 2) := by decide +kernel
theorem dX4_passes_21 : decode cX4_passes 21 = .ok (.aload_n 0, 1) := by decide +kernel
theorem dX4_passes_22 : decode cX4_passes 22 = .ok (.iload_n 1, 1) := by decide +kernel
theorem dX4_passes_23 : decode cX4_passes 23 = .ok (.iconst 0, 1) := by decide +kernel
theorem dX4_passes_24 : decode cX4_passes 24 = .ok (.invokevirtual 209, 3) := by decide +kernel
theorem dX4_passes_27 : decode cX4_passes 27 = .ok (.iadd, 1) := by decide +kernel
theorem dX4_passes_28 : decode cX4_passes 28 = .ok (.istore 5, 2) := by decide +kernel
theorem dX4_passes_30 : decode cX4_passes 30 = .ok (.iload 4, 2) := by decide +kernel
theorem dX4_passes_32 : decode cX4_passes 32 = .ok (.bipush 100, 2) := by decide +kernel
theorem dX4_passes_34 : decode cX4_passes 34 = .ok (.imul, 1) := by decide +kernel
theorem dX4_passes_35 : decode cX4_passes 35 = .ok (.iload 5, 2) := by decide +kernel
theorem dX4_passes_37 : decode cX4_passes 37 = .ok (.aload_n 0, 1) := by decide +kernel
theorem dX4_passes_38 : decode cX4_passes 38 = .ok (.getfield 21, 3) := by decide +kernel
theorem dX4_passes_41 : decode cX4_passes 41 = .ok (.getfield 212, 3) := by decide +kernel
theorem dX4_passes_44 : decode cX4_passes 44 = .ok (.imul, 1) := by decide +kernel
theorem dX4_passes_45 : decode cX4_passes 45 = .ok (.if_icmp .lt 15, 3) := by decide +kernel
theorem dX4_passes_48 : decode cX4_passes 48 = .ok (.iconst 2, 1) := by decide +kernel
theorem dX4_passes_49 : decode cX4_passes 49 = .ok (.iload_n 2, 1) := by decide +kernel
theorem dX4_passes_50 : decode cX4_passes 50 = .ok (.imul, 1) := by decide +kernel
theorem dX4_passes_51 : decode cX4_passes 51 = .ok (.iload 4, 2) := by decide +kernel
theorem dX4_passes_53 : decode cX4_passes 53 = .ok (.if_icmp .le 7, 3) := by decide +kernel
theorem dX4_passes_56 : decode cX4_passes 56 = .ok (.iconst 1, 1) := by decide +kernel
theorem dX4_passes_57 : decode cX4_passes 57 = .ok (.goto 4, 3) := by decide +kernel
theorem dX4_passes_60 : decode cX4_passes 60 = .ok (.iconst 0, 1) := by decide +kernel
theorem dX4_passes_61 : decode cX4_passes 61 = .ok (.ireturn, 1) := by decide +kernel
theorem hy_X4_passes : yX4_passes.cls ≠ "java/lang/invoke/MethodHandle" ∧ yX4_passes.cls ≠ "java/lang/invoke/VarHandle" ∧ (parseMethodDescriptor yX4_passes.desc).map (fun d => d.parameters.length) = some 1 := ⟨by decide +kernel, by decide +kernel, by decide +kernel⟩
set_option maxHeartbeats 4000000 in
set_option maxRecDepth 100000 in
theorem c_X4_passes (l0 : Launch) (D0 : va_G) (cI0 cJ0 : ClassId) (ad : Nat → Nat → Nat) (S : zM) (r : Nat) (hr : r < 5) (q : Int) (hI : Inv0 (S r)) (h0 : 0 ≤ q ∧ q < 10) : Ct l0 D0 cI0 cJ0 ad yX4_passes cX4_passes 6 (some .boolean) 4 89 [.ref (ad r 0), .int (i32 q)] S (some (.int (i32 (zbo (sp_pass (S r) q))))) (fun X => X = S) := by
  refine Ct.of (by decide) (Nat.le_of_ble_eq_true rfl) (fun E hE hR => ?_)
  have hE : zG E l0 D0 cI0 cJ0 ad cX4_passes 6 RX4 4 89 := hE
  show Z E S 0 [(0, .ref (ad r 0)), (1, .int (i32 q))] []
  have hA := inA hI
  unfold InvA at hA
  have s0 := sum_b hI q 0
  have s1 := sum_b hI q 1
  have s2 := sum_b hI q 2
  have s3 := zx_mul (a := sp_sum (S r) q 1 + sp_sum (S r) q 2 + sp_sum (S r) q 0) (b := S r 17) (A := 360000) (B := 100) (by omega) (by omega) (by omega) (by omega)
  refine z_aload_n hE 0 rfl rfl dX4_passes_0 ?_
  refine z_iload_n hE 1 rfl rfl dX4_passes_1 ?_
  refine z_iconst hE dX4_passes_2 ?_
  refine z_callV hE (c_X4_sumOfVotes l0 D0 cI0 cJ0 ad S r hr q 1 hI (by omega) (by omega)) (ks_m hr (by decide)) rfl rfl zm_X4_209 zi_yX4_sumOfVotes zs_yX4_sumOfVotes zn_RX4 zc_yX4_sumOfVotes (hy_X4_sumOfVotes) (Nat.le_of_ble_eq_true rfl) (Nat.le_of_ble_eq_true rfl) rfl rfl rfl (Nat.le_of_ble_eq_true rfl) dX4_passes_3 ?_
  refine z_istore_n hE rfl (by decide) rfl dX4_passes_6 ?_
  refine z_aload_n hE 1 rfl rfl dX4_passes_7 ?_
  refine z_iload_n hE 2 rfl rfl dX4_passes_8 ?_
  refine z_iconst hE dX4_passes_9 ?_
  refine z_callV hE (c_X4_sumOfVotes l0 D0 cI0 cJ0 ad S r hr q 2 hI (by omega) (by omega)) (ks_m hr (by decide)) rfl rfl zm_X4_209 zi_yX4_sumOfVotes zs_yX4_sumOfVotes zn_RX4 zc_yX4_sumOfVotes (hy_X4_sumOfVotes) (Nat.le_of_ble_eq_true rfl) (Nat.le_of_ble_eq_true rfl) rfl rfl rfl (Nat.le_of_ble_eq_true rfl) dX4_passes_10 ?_
  refine z_istore_n hE rfl (by decide) rfl dX4_passes_13 ?_
  refine z_iload_n hE 1 rfl rfl dX4_passes_14 ?_
  refine z_iload_n hE 0 rfl rfl dX4_passes_15 ?_
  refine z_iadd hE dX4_passes_16 ?_
  refine z_istore hE (by decide) rfl dX4_passes_17 ?_
  refine z_iload hE 0 rfl dX4_passes_19 ?_
  refine z_aload_n hE 3 rfl rfl dX4_passes_21 ?_
  refine z_iload_n hE 4 rfl rfl dX4_passes_22 ?_
  refine z_iconst hE dX4_passes_23 ?_
  refine z_callV hE (c_X4_sumOfVotes l0 D0 cI0 cJ0 ad S r hr q 0 hI (by omega) (by omega)) (ks_m hr (by decide)) rfl rfl zm_X4_209 zi_yX4_sumOfVotes zs_yX4_sumOfVotes zn_RX4 zc_yX4_sumOfVotes (hy_X4_sumOfVotes) (Nat.le_of_ble_eq_true rfl) (Nat.le_of_ble_eq_true rfl) rfl rfl rfl (Nat.le_of_ble_eq_true rfl) dX4_passes_24 ?_
  refine z_iadd hE dX4_passes_27 ?_
  refine z_istore hE (by decide) rfl dX4_passes_28 ?_
  refine z_iload hE 1 rfl dX4_passes_30 ?_
  refine z_bipush (a := 100) hE (by decide) dX4_passes_32 ?_
  refine z_imul hE dX4_passes_34 ?_
  refine z_iload hE 0 rfl dX4_passes_35 ?_
  refine z_aload_n hE 4 rfl rfl dX4_passes_37 ?_
  refine gf_4_1 hE (ks_m hr (by decide)) zf_X4_21 dX4_passes_38 ?_
  refine gf_5_6 hE (ks_m hr (by decide)) zf_X4_212 dX4_passes_41 ?_
  refine z_imul hE dX4_passes_44 ?_
  refine z_icmp_lt (tgt := 60) hE dX4_passes_45 (by decide) ⟨by omega, by omega⟩ ⟨by omega, by omega⟩ (fun c1 => ?_) (fun c1 => ?_)
  · refine z_iconst hE dX4_passes_60 ?_
    exact z_zret hE hR dX4_passes_61 (by decide) (congrArg (fun x => some (Value.int (i32 x))) (by first | rfl | (unfold zbo; first | rw [if_pos (by omega)] | rw [if_neg (by omega)]))) (by first | rfl | (simp only [us_id]))
  · refine z_iconst hE dX4_passes_48 ?_
    refine z_iload_n hE 3 rfl rfl dX4_passes_49 ?_
    refine z_imul hE dX4_passes_50 ?_
    refine z_iload hE 1 rfl dX4_passes_51 ?_
    refine z_icmp_le (tgt := 60) hE dX4_passes_53 (by decide) ⟨by omega, by omega⟩ ⟨by omega, by omega⟩ (fun c2 => ?_) (fun c2 => ?_)
    · refine z_iconst hE dX4_passes_60 ?_
      exact z_zret hE hR dX4_passes_61 (by decide) (congrArg (fun x => some (Value.int (i32 x))) (by first | rfl | (unfold zbo; first | rw [if_pos (by omega)] | rw [if_neg (by omega)]))) (by first | rfl | (simp only [us_id]))
    · refine z_iconst hE dX4_passes_56 ?_
      refine z_goto (tgt := 61) hE (d := dX4_passes_57) (ht := by decide) ?_
      exact z_zret hE hR dX4_passes_61 (by decide) (congrArg (fun x => some (Value.int (i32 x))) (by first | rfl | (unfold zbo; first | rw [if_pos (by omega)] | rw [if_neg (by omega)]))) (by first | rfl | (simp only [us_id]))
theorem divi_ne {v : Int} {s : Int → Int} : ∀ {n : Nat} {q : Int}, (∀ k : Int, 0 ≤ k → k < n → q ≠ 21 + 3 * k) → sp_divi v s n q = s q
  | 0, _, _ => rfl
  | n + 1, q, h => by
    show uq _ _ _ q = _
    rw [uq_ne (h n (by omega) (by omega))]
    exact divi_ne fun k h1 h2 => h k h1 (by omega)
theorem divi_s {v : Int} {s : Int → Int} {i : Int} (h : 0 ≤ i) : sp_divi v s (i + 1).toNat = uq (sp_divi v s i.toNat) (21 + 3 * i) (s (19 + 3 * i) * s 5 * v / 100) := by
  rw [show (i + 1).toNat = i.toNat + 1 by omega]
  show uq _ _ _ = _
  rw [Int.toNat_of_nonneg h]
theorem dX4_payDividend_0 : decode cX4_payDividend 0 = .ok (.iconst 0, 1) := by decide +kernel
theorem dX4_payDividend_1 : decode cX4_payDividend 1 = .ok (.istore_n 2, 1) := by decide +kernel
theorem dX4_payDividend_2 : decode cX4_payDividend 2 = .ok (.iload_n 2, 1) := by decide +kernel
theorem dX4_payDividend_3 : decode cX4_payDividend 3 = .ok (.aload_n 0, 1) := by decide +kernel
theorem dX4_payDividend_4 : decode cX4_payDividend 4 = .ok (.getfield 12, 3) := by decide +kernel
theorem dX4_payDividend_7 : decode cX4_payDividend 7 = .ok (.getfield 69, 3) := by decide +kernel
theorem dX4_payDividend_10 : decode cX4_payDividend 10 = .ok (.if_icmp .ge 48, 3) := by decide +kernel
theorem dX4_payDividend_13 : decode cX4_payDividend 13 = .ok (.aload_n 0, 1) := by decide +kernel
theorem dX4_payDividend_14 : decode cX4_payDividend 14 = .ok (.getfield 12, 3) := by decide +kernel
theorem dX4_payDividend_17 : decode cX4_payDividend 17 = .ok (.getfield 72, 3) := by decide +kernel
theorem dX4_payDividend_20 : decode cX4_payDividend 20 = .ok (.iload_n 2, 1) := by decide +kernel
theorem dX4_payDividend_21 : decode cX4_payDividend 21 = .ok (.iaload, 1) := by decide +kernel
theorem dX4_payDividend_22 : decode cX4_payDividend 22 = .ok (.aload_n 0, 1) := by decide +kernel
theorem dX4_payDividend_23 : decode cX4_payDividend 23 = .ok (.getfield 21, 3) := by decide +kernel
theorem dX4_payDividend_26 : decode cX4_payDividend 26 = .ok (.getfield 215, 3) := by decide +kernel
theorem dX4_payDividend_29 : decode cX4_payDividend 29 = .ok (.imul, 1) := by decide +kernel
theorem dX4_payDividend_30 : decode cX4_payDividend 30 = .ok (.iload_n 1, 1) := by decide +kernel
theorem dX4_payDividend_31 : decode cX4_payDividend 31 = .ok (.imul, 1) := by decide +kernel
theorem dX4_payDividend_32 : decode cX4_payDividend 32 = .ok (.istore_n 3, 1) := by decide +kernel
theorem dX4_payDividend_33 : decode cX4_payDividend 33 = .ok (.aload_n 0, 1) := by decide +kernel
theorem dX4_payDividend_34 : decode cX4_payDividend 34 = .ok (.getfield 12, 3) := by decide +kernel
theorem dX4_payDividend_37 : decode cX4_payDividend 37 = .ok (.getfield 190, 3) := by decide +kernel
theorem dX4_payDividend_40 : decode cX4_payDividend 40 = .ok (.iload_n 2, 1) := by decide +kernel
theorem dX4_payDividend_41 : decode cX4_payDividend 41 = .ok (.dup2, 1) := by decide +kernel
theorem dX4_payDividend_42 : decode cX4_payDividend 42 = .ok (.laload, 1) := by decide +kernel
theorem dX4_payDividend_43 : decode cX4_payDividend 43 = .ok (.iload_n 3, 1) := by decide +kernel
theorem dX4_payDividend_44 : decode cX4_payDividend 44 = .ok (.bipush 100, 2) := by decide +kernel
theorem dX4_payDividend_46 : decode cX4_payDividend 46 = .ok (.invokestatic 82, 3) := by decide +kernel
theorem dX4_payDividend_49 : decode cX4_payDividend 49 = .ok (.i2l, 1) := by decide +kernel
theorem dX4_payDividend_50 : decode cX4_payDividend 50 = .ok (.ladd, 1) := by decide +kernel
theorem dX4_payDividend_51 : decode cX4_payDividend 51 = .ok (.lastore, 1) := by decide +kernel
theorem dX4_payDividend_52 : decode cX4_payDividend 52 = .ok (.iinc 2 1, 3) := by decide +kernel
theorem dX4_payDividend_55 : decode cX4_payDividend 55 = .ok (.goto (-53), 3) := by decide +kernel
theorem dX4_payDividend_58 : decode cX4_payDividend 58 = .ok (.return_, 1) := by decide +kernel
theorem hy_X4_payDividend : yX4_payDividend.cls ≠ "java/lang/invoke/MethodHandle" ∧ yX4_payDividend.cls ≠ "java/lang/invoke/VarHandle" ∧ (parseMethodDescriptor yX4_payDividend.desc).map (fun d => d.parameters.length) = some 1 := ⟨by decide +kernel, by decide +kernel, by decide +kernel⟩
set_option maxHeartbeats 4000000 in
set_option maxRecDepth 100000 in
theorem lp_X4_payDividend {E : zE} {l0 : Launch} {D0 : va_G} {cI0 cJ0 : ClassId} {ad : Nat → Nat → Nat} (hE : zG E l0 D0 cI0 cJ0 ad cX4_payDividend 4 RX4 2 43) (S : zM) (r : Nat) (hr : r < 5) (v : Int) (hI : Inv0 (S r)) (h0 : 1 ≤ v ∧ v ≤ 100) (hR : zR E none none (fun X => X = (us S r (sp_divi v (S r) (S r 0).toNat)))) : ∀ (fuel : Nat) (i : Int) (h9 : 0 ≤ i ∧ i ≤ S r 0), (S r 0 - i).toNat < fuel → Z E (us S r (sp_divi v (S r) i.toNat)) 2 [(2, .int (i32 i)), (0, .ref (ad r 0)), (1, .int (i32 v))] [] := by
  intro fuel
  induction fuel with
  | zero => intro _ _ hz; omega
  | succ fuel ih =>
    intro i h9 hz
    have hA := inA hI
    unfold InvA at hA
    refine z_iload_n hE 0 rfl rfl dX4_payDividend_2 ?_
    refine z_aload_n hE 1 rfl rfl dX4_payDividend_3 ?_
    refine gf_4_0 hE (ks_m hr (by decide)) zf_X4_12 dX4_payDividend_4 ?_
    refine gf_1_0 hE (ks_m hr (by decide)) zf_X4_69 dX4_payDividend_7 ?_
    try simp only [us_eq, us_us]
    rw [divi_ne (fun k h1 h2 => by omega)]
    refine z_icmp_ge (tgt := 58) hE dX4_payDividend_10 (by decide) ⟨by omega, by omega⟩ ⟨by omega, by omega⟩ (fun c1 => ?_) (fun c1 => ?_)
    · exact z_vret hE hR dX4_payDividend_58 rfl (by rw [show i = S r 0 by omega])
    · have hm := inM hI h9.1 (show i < 12 by omega)
      have hx := zx_mul (a := S r (19 + 3 * i)) (b := S r 5) (A := 10000) (B := 1000) (by omega) (by omega) (by omega) (by omega)
      have hy := zx_mul (a := S r (19 + 3 * i) * S r 5) (b := v) (A := 10000000) (B := 100) (by omega) (by omega) (by omega) (by omega)
      refine z_aload_n hE 1 rfl rfl dX4_payDividend_13 ?_
      refine gf_4_0 hE (ks_m hr (by decide)) zf_X4_12 dX4_payDividend_14 ?_
      refine gf_1_1 hE (ks_m hr (by decide)) zf_X4_72 dX4_payDividend_17 ?_
      refine z_iload_n hE 0 rfl rfl dX4_payDividend_20 ?_
      refine al_2 hE (ks_m hr (by decide)) (by omega) (by omega) dX4_payDividend_21 ?_
      try simp only [us_eq, us_us]
      rw [divi_ne (fun k h1 h2 => by omega)]
      refine z_aload_n hE 1 rfl rfl dX4_payDividend_22 ?_
      refine gf_4_1 hE (ks_m hr (by decide)) zf_X4_21 dX4_payDividend_23 ?_
      refine gf_5_2 hE (ks_m hr (by decide)) zf_X4_215 dX4_payDividend_26 ?_
      try simp only [us_eq, us_us]
      rw [divi_ne (fun k h1 h2 => by omega)]
      refine z_imul hE dX4_payDividend_29 ?_
      refine z_iload_n hE 2 rfl rfl dX4_payDividend_30 ?_
      refine z_imul hE dX4_payDividend_31 ?_
      refine z_istore_n hE rfl (by decide) rfl dX4_payDividend_32 ?_
      refine z_aload_n hE 2 rfl rfl dX4_payDividend_33 ?_
      refine gf_4_0 hE (ks_m hr (by decide)) zf_X4_12 dX4_payDividend_34 ?_
      refine gf_1_3 hE (ks_m hr (by decide)) zf_X4_190 dX4_payDividend_37 ?_
      refine z_iload_n hE 1 rfl rfl dX4_payDividend_40 ?_
      refine z_dup2 hE rfl rfl dX4_payDividend_41 ?_
      refine al_4 hE (ks_m hr (by decide)) (by omega) (by omega) dX4_payDividend_42 ?_
      try simp only [us_eq, us_us]
      refine z_iload_n hE 0 rfl rfl dX4_payDividend_43 ?_
      refine z_bipush (a := 100) hE (by decide) dX4_payDividend_44 ?_
      refine z_callN hE (c_X7_quotient l0 D0 cI0 cJ0 ad (us S r (sp_divi v (S r) i.toNat)) (((S r (19 + 3 * i)) * (S r 5)) * v) 100 (⟨by omega, by omega⟩) (⟨by omega, by omega⟩) (by omega)) (List.mem_of_getElem? (i := 7) rfl) zt_yX7_quotient zn_RX7 zc_yX7_quotient (hy_X7_quotient) (Nat.le_of_ble_eq_true rfl) (Nat.le_of_ble_eq_true rfl) rfl rfl rfl (Nat.le_of_ble_eq_true rfl) dX4_payDividend_46 ?_
      try simp only [us_eq, us_us]
      refine z_i2l hE ⟨by omega, by omega⟩ dX4_payDividend_49 ?_
      refine z_ladd hE dX4_payDividend_50 ?_
      refine as_4 hE (ks_m hr (by decide)) (by omega) (by omega) dX4_payDividend_51 ?_
      try simp only [us_eq, us_us]
      refine z_iinc hE 1 rfl (by decide) rfl dX4_payDividend_52 ?_
      refine z_goto (tgt := 2) hE (d := dX4_payDividend_55) (ht := by decide) ?_
      refine z_L (L' := [(2, .int (i32 (i + 1))), (0, .ref (ad r 0)), (1, .int (i32 v))]) [0, 2, 3] (by rfl) ?_
      rw [show ∀ x, up (sp_divi v (S r) i.toNat) (21 + 3 * i) (sp_divi v (S r) i.toNat (21 + 3 * i) + x) = uq (sp_divi v (S r) i.toNat) (21 + 3 * i) x from fun _ => rfl, ← divi_s h9.1]
      exact ih (i + 1) ⟨by omega, by omega⟩ (by omega)
set_option maxHeartbeats 4000000 in
set_option maxRecDepth 100000 in
theorem c_X4_payDividend (l0 : Launch) (D0 : va_G) (cI0 cJ0 : ClassId) (ad : Nat → Nat → Nat) (S : zM) (r : Nat) (hr : r < 5) (v : Int) (hI : Inv0 (S r)) (h0 : 1 ≤ v ∧ v ≤ 100) : Ct l0 D0 cI0 cJ0 ad yX4_payDividend cX4_payDividend 4 none 2 43 [.ref (ad r 0), .int (i32 v)] S none (fun X => X = (us S r (sp_divi v (S r) (S r 0).toNat))) := by
  refine Ct.of (by decide) (Nat.le_of_ble_eq_true rfl) (fun E hE hR => ?_)
  have hE : zG E l0 D0 cI0 cJ0 ad cX4_payDividend 4 RX4 2 43 := hE
  show Z E S 0 [(0, .ref (ad r 0)), (1, .int (i32 v))] []
  have hA := inA hI
  unfold InvA at hA
  refine z_iconst hE dX4_payDividend_0 ?_
  refine z_istore_n hE rfl (by decide) rfl dX4_payDividend_1 ?_
  refine z_L (L' := [(2, .int (i32 0)), (0, .ref (ad r 0)), (1, .int (i32 v))]) [0, 1, 2] (by rfl) ?_
  rw [show S = us S r (sp_divi v (S r) (0 : Int).toNat) from (us_id S r).symm]
  exact lp_X4_payDividend hE S r hr v hI h0 hR 13 0 ⟨by omega, by omega⟩ (by omega)
theorem dX4_carryOut_0 : decode cX4_carryOut 0 = .ok (.iload_n 1, 1) := by decide +kernel
theorem dX4_carryOut_1 : decode cX4_carryOut 1 = .ok (.tableswitch 96 0 4 #[35, 46, 57, 68, 88], 35) := by decide +kernel
theorem dX4_carryOut_36 : decode cX4_carryOut 36 = .ok (.aload_n 0, 1) := by decide +kernel
theorem dX4_carryOut_37 : decode cX4_carryOut 37 = .ok (.getfield 21, 3) := by decide +kernel
theorem dX4_carryOut_40 : decode cX4_carryOut 40 = .ok (.iload_n 2, 1) := by decide +kernel
theorem dX4_carryOut_41 : decode cX4_carryOut 41 = .ok (.putfield 215, 3) := by decide +kernel
theorem dX4_carryOut_44 : decode cX4_carryOut 44 = .ok (.goto 53, 3) := by decide +kernel
theorem dX4_carryOut_47 : decode cX4_carryOut 47 = .ok (.aload_n 0, 1) := by decide +kernel
theorem dX4_carryOut_48 : decode cX4_carryOut 48 = .ok (.getfield 21, 3) := by decide +kernel
theorem dX4_carryOut_51 : decode cX4_carryOut 51 = .ok (.iload_n 2, 1) := by decide +kernel
theorem dX4_carryOut_52 : decode cX4_carryOut 52 = .ok (.putfield 102, 3) := by decide +kernel
theorem dX4_carryOut_55 : decode cX4_carryOut 55 = .ok (.goto 42, 3) := by decide +kernel
theorem dX4_carryOut_58 : decode cX4_carryOut 58 = .ok (.aload_n 0, 1) := by decide +kernel
theorem dX4_carryOut_59 : decode cX4_carryOut 59 = .ok (.getfield 21, 3) := by decide +kernel
theorem dX4_carryOut_62 : decode cX4_carryOut 62 = .ok (.iload_n 2, 1) := by decide +kernel
theorem dX4_carryOut_63 : decode cX4_carryOut 63 = .ok (.putfield 143, 3) := by decide +kernel
theorem dX4_carryOut_66 : decode cX4_carryOut 66 = .ok (.goto 31, 3) := by decide +kernel
theorem dX4_carryOut_69 : decode cX4_carryOut 69 = .ok (.aload_n 0, 1) := by decide +kernel
theorem dX4_carryOut_70 : decode cX4_carryOut 70 = .ok (.dup, 1) := by decide +kernel
theorem dX4_carryOut_71 : decode cX4_carryOut 71 = .ok (.getfield 46, 3) := by decide +kernel
theorem dX4_carryOut_74 : decode cX4_carryOut 74 = .ok (.iload_n 2, 1) := by decide +kernel
theorem dX4_carryOut_75 : decode cX4_carryOut 75 = .ok (.aload_n 0, 1) := by decide +kernel
theorem dX4_carryOut_76 : decode cX4_carryOut 76 = .ok (.getfield 46, 3) := by decide +kernel
theorem dX4_carryOut_79 : decode cX4_carryOut 79 = .ok (.invokestatic 161, 3) := by decide +kernel
theorem dX4_carryOut_82 : decode cX4_carryOut 82 = .ok (.isub, 1) := by decide +kernel
theorem dX4_carryOut_83 : decode cX4_carryOut 83 = .ok (.putfield 46, 3) := by decide +kernel
theorem dX4_carryOut_86 : decode cX4_carryOut 86 = .ok (.goto 11, 3) := by decide +kernel
theorem dX4_carryOut_89 : decode cX4_carryOut 89 = .ok (.aload_n 0, 1) := by decide +kernel
theorem dX4_carryOut_90 : decode cX4_carryOut 90 = .ok (.iload_n 2, 1) := by decide +kernel
theorem dX4_carryOut_91 : decode cX4_carryOut 91 = .ok (.invokevirtual 218, 3) := by decide +kernel
theorem dX4_carryOut_94 : decode cX4_carryOut 94 = .ok (.goto 3, 3) := by decide +kernel
theorem dX4_carryOut_97 : decode cX4_carryOut 97 = .ok (.return_, 1) := by decide +kernel
theorem hy_X4_carryOut : yX4_carryOut.cls ≠ "java/lang/invoke/MethodHandle" ∧ yX4_carryOut.cls ≠ "java/lang/invoke/VarHandle" ∧ (parseMethodDescriptor yX4_carryOut.desc).map (fun d => d.parameters.length) = some 2 := ⟨by decide +kernel, by decide +kernel, by decide +kernel⟩
set_option maxHeartbeats 4000000 in
set_option maxRecDepth 100000 in
theorem c_X4_carryOut (l0 : Launch) (D0 : va_G) (cI0 cJ0 : ClassId) (ad : Nat → Nat → Nat) (S : zM) (r : Nat) (hr : r < 5) (kd : Int) (v : Int) (hI : Inv0 (S r)) (h0 : okKind kd v) : Ct l0 D0 cI0 cJ0 ad yX4_carryOut cX4_carryOut 3 none 3 66 [.ref (ad r 0), .int (i32 kd), .int (i32 v)] S none (fun X => X = (us S r (sp_does (S r) kd v))) := by
  refine Ct.of (by decide) (Nat.le_of_ble_eq_true rfl) (fun E hE hR => ?_)
  have hE : zG E l0 D0 cI0 cJ0 ad cX4_carryOut 3 RX4 3 66 := hE
  show Z E S 0 [(0, .ref (ad r 0)), (1, .int (i32 kd)), (2, .int (i32 v))] []
  have hA := inA hI
  unfold InvA at hA
  have hk := h0
  unfold okKind at hk
  have ht := inTr hI
  refine z_iload_n hE 1 rfl rfl dX4_carryOut_0 ?_
  by_cases k1_0 : kd = 0
  · refine z_tIn (tgt := 36) hE 0 dX4_carryOut_1 ⟨by omega, by omega⟩ k1_0 (by decide) (by decide) rfl (by decide) ?_
    refine z_aload_n hE 0 rfl rfl dX4_carryOut_36 ?_
    refine gf_4_1 hE (ks_m hr (by decide)) zf_X4_21 dX4_carryOut_37 ?_
    refine z_iload_n hE 2 rfl rfl dX4_carryOut_40 ?_
    refine pf_5_2 hE (ks_m hr (by decide)) zf_X4_215 dX4_carryOut_41 ?_
    refine z_goto (tgt := 97) hE (d := dX4_carryOut_44) (ht := by decide) ?_
    exact z_vret hE hR dX4_carryOut_97 rfl (by unfold sp_does; first | (rw [if_pos (by omega)]; done) | (rw [if_neg (by omega), if_pos (by omega)]; done) | (rw [if_neg (by omega), if_neg (by omega), if_pos (by omega)]; done) | (rw [if_neg (by omega), if_neg (by omega), if_neg (by omega), if_pos (by omega), uq_sub]; done) | (rw [if_neg (by omega), if_neg (by omega), if_neg (by omega), if_neg (by omega)]; done) | (exfalso; omega))
  by_cases k1_1 : kd = 1
  · refine z_tIn (tgt := 47) hE 1 dX4_carryOut_1 ⟨by omega, by omega⟩ k1_1 (by decide) (by decide) rfl (by decide) ?_
    refine z_aload_n hE 0 rfl rfl dX4_carryOut_47 ?_
    refine gf_4_1 hE (ks_m hr (by decide)) zf_X4_21 dX4_carryOut_48 ?_
    refine z_iload_n hE 2 rfl rfl dX4_carryOut_51 ?_
    refine pf_5_3 hE (ks_m hr (by decide)) zf_X4_102 dX4_carryOut_52 ?_
    refine z_goto (tgt := 97) hE (d := dX4_carryOut_55) (ht := by decide) ?_
    exact z_vret hE hR dX4_carryOut_97 rfl (by unfold sp_does; first | (rw [if_pos (by omega)]; done) | (rw [if_neg (by omega), if_pos (by omega)]; done) | (rw [if_neg (by omega), if_neg (by omega), if_pos (by omega)]; done) | (rw [if_neg (by omega), if_neg (by omega), if_neg (by omega), if_pos (by omega), uq_sub]; done) | (rw [if_neg (by omega), if_neg (by omega), if_neg (by omega), if_neg (by omega)]; done) | (exfalso; omega))
  by_cases k1_2 : kd = 2
  · refine z_tIn (tgt := 58) hE 2 dX4_carryOut_1 ⟨by omega, by omega⟩ k1_2 (by decide) (by decide) rfl (by decide) ?_
    refine z_aload_n hE 0 rfl rfl dX4_carryOut_58 ?_
    refine gf_4_1 hE (ks_m hr (by decide)) zf_X4_21 dX4_carryOut_59 ?_
    refine z_iload_n hE 2 rfl rfl dX4_carryOut_62 ?_
    refine pf_5_4 hE (ks_m hr (by decide)) zf_X4_143 dX4_carryOut_63 ?_
    refine z_goto (tgt := 97) hE (d := dX4_carryOut_66) (ht := by decide) ?_
    exact z_vret hE hR dX4_carryOut_97 rfl (by unfold sp_does; first | (rw [if_pos (by omega)]; done) | (rw [if_neg (by omega), if_pos (by omega)]; done) | (rw [if_neg (by omega), if_neg (by omega), if_pos (by omega)]; done) | (rw [if_neg (by omega), if_neg (by omega), if_neg (by omega), if_pos (by omega), uq_sub]; done) | (rw [if_neg (by omega), if_neg (by omega), if_neg (by omega), if_neg (by omega)]; done) | (exfalso; omega))
  by_cases k1_3 : kd = 3
  · refine z_tIn (tgt := 69) hE 3 dX4_carryOut_1 ⟨by omega, by omega⟩ k1_3 (by decide) (by decide) rfl (by decide) ?_
    refine z_aload_n hE 0 rfl rfl dX4_carryOut_69 ?_
    refine z_dup hE rfl dX4_carryOut_70 ?_
    refine gf_4_5 hE (ks_m hr (by decide)) zf_X4_46 dX4_carryOut_71 ?_
    refine z_iload_n hE 2 rfl rfl dX4_carryOut_74 ?_
    refine z_aload_n hE 0 rfl rfl dX4_carryOut_75 ?_
    refine gf_4_5 hE (ks_m hr (by decide)) zf_X4_46 dX4_carryOut_76 ?_
    refine z_min hE zm_X4_161 (by decide) (Nat.le_of_ble_eq_true rfl) ⟨by omega, by omega⟩ ⟨by omega, by omega⟩ dX4_carryOut_79 ?_
    refine z_isub hE dX4_carryOut_82 ?_
    refine pf_4_5 hE (ks_m hr (by decide)) zf_X4_46 dX4_carryOut_83 ?_
    refine z_goto (tgt := 97) hE (d := dX4_carryOut_86) (ht := by decide) ?_
    exact z_vret hE hR dX4_carryOut_97 rfl (by unfold sp_does; first | (rw [if_pos (by omega)]; done) | (rw [if_neg (by omega), if_pos (by omega)]; done) | (rw [if_neg (by omega), if_neg (by omega), if_pos (by omega)]; done) | (rw [if_neg (by omega), if_neg (by omega), if_neg (by omega), if_pos (by omega), uq_sub]; done) | (rw [if_neg (by omega), if_neg (by omega), if_neg (by omega), if_neg (by omega)]; done) | (exfalso; omega))
  by_cases k1_4 : kd = 4
  · refine z_tIn (tgt := 89) hE 4 dX4_carryOut_1 ⟨by omega, by omega⟩ k1_4 (by decide) (by decide) rfl (by decide) ?_
    refine z_aload_n hE 0 rfl rfl dX4_carryOut_89 ?_
    refine z_iload_n hE 2 rfl rfl dX4_carryOut_90 ?_
    refine z_callV hE (c_X4_payDividend l0 D0 cI0 cJ0 ad S r hr v hI (by omega)) (ks_m hr (by decide)) rfl rfl zm_X4_218 zi_yX4_payDividend zs_yX4_payDividend zn_RX4 zc_yX4_payDividend (hy_X4_payDividend) (Nat.le_of_ble_eq_true rfl) (Nat.le_of_ble_eq_true rfl) rfl rfl rfl (Nat.le_of_ble_eq_true rfl) dX4_carryOut_91 ?_
    refine z_goto (tgt := 97) hE (d := dX4_carryOut_94) (ht := by decide) ?_
    exact z_vret hE hR dX4_carryOut_97 rfl (by unfold sp_does; first | (rw [if_pos (by omega)]; done) | (rw [if_neg (by omega), if_pos (by omega)]; done) | (rw [if_neg (by omega), if_neg (by omega), if_pos (by omega)]; done) | (rw [if_neg (by omega), if_neg (by omega), if_neg (by omega), if_pos (by omega), uq_sub]; done) | (rw [if_neg (by omega), if_neg (by omega), if_neg (by omega), if_neg (by omega)]; done) | (exfalso; omega))
  refine z_tOut (tgt := 97) hE dX4_carryOut_1 ⟨by omega, by omega⟩ (by omega) (by decide) ?_
  exact z_vret hE hR dX4_carryOut_97 rfl (by unfold sp_does; first | (rw [if_pos (by omega)]; done) | (rw [if_neg (by omega), if_pos (by omega)]; done) | (rw [if_neg (by omega), if_neg (by omega), if_pos (by omega)]; done) | (rw [if_neg (by omega), if_neg (by omega), if_neg (by omega), if_pos (by omega), uq_sub]; done) | (rw [if_neg (by omega), if_neg (by omega), if_neg (by omega), if_neg (by omega)]; done) | (exfalso; omega))
end
section
theorem bst_b (f : Int → Int) : ∀ n : Nat, 0 ≤ bst f n ∧ bst f n ≤ n
  | 0 => by unfold bst; omega
  | n + 1 => by
    have := bst_b f n
    unfold bst
    split <;> omega
theorem bst_s {f : Int → Int} {i : Int} (h : 1 ≤ i) : bst f i.toNat = if f (bst f (i - 1).toNat) < f i then i else bst f (i - 1).toNat := by
  rw [show i.toNat = (i - 1).toNat + 1 by omega]
  show (if f (bst f (i - 1).toNat) < f (((i - 1).toNat : Int) + 1) then (((i - 1).toNat : Int) + 1) else bst f (i - 1).toNat) = _
  rw [show (((i - 1).toNat : Int) + 1) = i by omega]
theorem bst_cg {f g : Int → Int} : ∀ {n : Nat}, (∀ k : Int, 0 ≤ k → k ≤ n → f k = g k) → bst f n = bst g n
  | 0, _ => rfl
  | n + 1, h => by
    have h1 : bst f n = bst g n := bst_cg (n := n) fun k h1 h2 => h k h1 (by omega)
    have h2 := bst_b g n
    unfold bst
    rw [h1, h (bst g n) h2.1 (by omega), h ((n : Int) + 1) (by omega) (by omega)]
theorem hnd_cg {z : Int} : ∀ {n : Nat} {g g2 r r2 : Int → Int}, (∀ k : Int, 0 ≤ k → k < 12 → g k = g2 k) → (∀ k : Int, 0 ≤ k → k < 12 → r k = r2 k) → ∀ k : Int, 0 ≤ k → k < 12 → hnd z n g r k = hnd z n g2 r2 k
  | 0, _, _, _, _, h, _, k, h0, h1 => h k h0 h1
  | n + 1, g, g2, r, r2, h, h2, k, h0, h1 => by
    have e : bst r 11 = bst r2 11 := bst_cg fun k h3 h4 => h2 k h3 (by omega)
    have hb := bst_b r2 11
    show hnd z n (up g (bst r 11) (g (bst r 11) + 1)) (up r (bst r 11) z) k = hnd z n (up g2 (bst r2 11) (g2 (bst r2 11) + 1)) (up r2 (bst r2 11) z) k
    rw [e]
    refine hnd_cg (fun j h3 h4 => ?_) (fun j h3 h4 => ?_) k h0 h1
    · unfold up; split
      · rw [h _ hb.1 (by omega)]
      · exact h j h3 h4
    · unfold up; split
      · rfl
      · exact h2 j h3 h4
theorem hs_1 {g : Int → Int} {b v w : Int} (hb : 0 ≤ b) (hb2 : b ≤ 11) {j : Int} (h3 : 0 ≤ j) (h4 : j < 12) : up (up g (200 + b) v) (300 + b) w (200 + j) = up (fun k => g (200 + k)) b v j := by
  rw [up_ne (by omega)]
  by_cases e : j = b
  · rw [e, up_eq, up_eq]
  · rw [up_ne e, up_ne (by omega)]
theorem hs_2 {g : Int → Int} {b v w : Int} (hb : 0 ≤ b) (hb2 : b ≤ 11) {j : Int} (h3 : 0 ≤ j) (h4 : j < 12) : up (up g (200 + b) v) (300 + b) w (300 + j) = up (fun k => g (300 + k)) b w j := by
  by_cases e : j = b
  · rw [e, up_eq, up_eq]
  · rw [up_ne e, up_ne (by omega), up_ne (by omega)]
theorem qs_1 {g p : Int → Int} {i v w : Int} {r : Int → Int} (hv : v = p i) (hw : w = r i) (h0 : 0 ≤ i) (hi : i < 12) (hg : ∀ k : Int, 0 ≤ k → k < i → g (200 + k) = p k ∧ g (300 + k) = r k) : ∀ k : Int, 0 ≤ k → k < i + 1 → up (up g (200 + i) v) (300 + i) w (200 + k) = p k ∧ up (up g (200 + i) v) (300 + i) w (300 + k) = r k := by
  intro k h1 h2
  by_cases e : k = i
  · rw [e, up_ne (by omega), up_eq, up_eq]; exact ⟨hv, hw⟩
  · rw [up_ne (by omega), up_ne (by omega), up_ne (by omega), up_ne (by omega)]; exact hg k h1 (by omega)
theorem dX6_sumOfDemands_0 : decode cX6_sumOfDemands 0 = .ok (.iconst 0, 1) := by decide +kernel
theorem dX6_sumOfDemands_1 : decode cX6_sumOfDemands 1 = .ok (.istore_n 1, 1) := by decide +kernel
theorem dX6_sumOfDemands_2 : decode cX6_sumOfDemands 2 = .ok (.iconst 0, 1) := by decide +kernel
theorem dX6_sumOfDemands_3 : decode cX6_sumOfDemands 3 = .ok (.istore_n 2, 1) := by decide +kernel
theorem dX6_sumOfDemands_4 : decode cX6_sumOfDemands 4 = .ok (.iload_n 2, 1) := by decide +kernel
theorem dX6_sumOfDemands_5 : decode cX6_sumOfDemands 5 = .ok (.bipush 12, 2) := by decide +kernel
theorem dX6_sumOfDemands_7 : decode cX6_sumOfDemands 7 = .ok (.if_icmp .ge 18, 3) := by decide +kernel
theorem dX6_sumOfDemands_10 : decode cX6_sumOfDemands 10 = .ok (.iload_n 1, 1) := by decide +kernel
theorem dX6_sumOfDemands_11 : decode cX6_sumOfDemands 11 = .ok (.aload_n 0, 1) := by decide +kernel
theorem dX6_sumOfDemands_12 : decode cX6_sumOfDemands 12 = .ok (.getfield 9, 3) := by decide +kernel
theorem dX6_sumOfDemands_15 : decode cX6_sumOfDemands 15 = .ok (.iload_n 2, 1) := by decide +kernel
theorem dX6_sumOfDemands_16 : decode cX6_sumOfDemands 16 = .ok (.iaload, 1) := by decide +kernel
theorem dX6_sumOfDemands_17 : decode cX6_sumOfDemands 17 = .ok (.iadd, 1) := by decide +kernel
theorem dX6_sumOfDemands_18 : decode cX6_sumOfDemands 18 = .ok (.istore_n 1, 1) := by decide +kernel
theorem dX6_sumOfDemands_19 : decode cX6_sumOfDemands 19 = .ok (.iinc 2 1, 3) := by decide +kernel
theorem dX6_sumOfDemands_22 : decode cX6_sumOfDemands 22 = .ok (.goto (-18), 3) := by decide +kernel
theorem dX6_sumOfDemands_25 : decode cX6_sumOfDemands 25 = .ok (.iload_n 1, 1) := by decide +kernel
theorem dX6_sumOfDemands_26 : decode cX6_sumOfDemands 26 = .ok (.ireturn, 1) := by decide +kernel
theorem hy_X6_sumOfDemands : yX6_sumOfDemands.cls ≠ "java/lang/invoke/MethodHandle" ∧ yX6_sumOfDemands.cls ≠ "java/lang/invoke/VarHandle" ∧ (parseMethodDescriptor yX6_sumOfDemands.desc).map (fun d => d.parameters.length) = some 0 := ⟨by decide +kernel, by decide +kernel, by decide +kernel⟩
set_option maxHeartbeats 4000000 in
set_option maxRecDepth 100000 in
theorem lp_X6_sumOfDemands {E : zE} {l0 : Launch} {D0 : va_G} {cI0 cJ0 : ClassId} {ad : Nat → Nat → Nat} (hE : zG E l0 D0 cI0 cJ0 ad cX6_sumOfDemands 3 RX6 0 0) (S : zM) (hR : zR E (some .int) (some (.int (i32 (sm (fun k => S 5 (100 + k)) 12)))) (fun X => X = S)) : ∀ (fuel : Nat) (i : Int) (h9 : 0 ≤ i ∧ i ≤ 12), (12 - i).toNat < fuel → Z E S 4 [(2, .int (i32 i)), (1, .int (i32 (sm (fun k => S 5 (100 + k)) i))), (0, .ref (ad 5 23))] [] := by
  intro fuel
  induction fuel with
  | zero => intro _ _ hz; omega
  | succ fuel ih =>
    intro i h9 hz
    refine z_iload_n hE 0 rfl rfl dX6_sumOfDemands_4 ?_
    refine z_bipush (a := 12) hE (by decide) dX6_sumOfDemands_5 ?_
    refine z_icmp_ge (tgt := 25) hE dX6_sumOfDemands_7 (by decide) ⟨by omega, by omega⟩ ⟨by omega, by omega⟩ (fun c1 => ?_) (fun c1 => ?_)
    · refine z_iload_n hE 1 rfl rfl dX6_sumOfDemands_25 ?_
      exact z_iret hE hR dX6_sumOfDemands_26 (congrArg (fun x => some (Value.int (i32 x))) (by rw [show i = 12 by omega])) (by first | rfl | (simp only [us_id]))
    · refine z_iload_n hE 1 rfl rfl dX6_sumOfDemands_10 ?_
      refine z_aload_n hE 2 rfl rfl dX6_sumOfDemands_11 ?_
      refine gf_6_0 hE (by decide) zf_X6_9 dX6_sumOfDemands_12 ?_
      refine z_iload_n hE 0 rfl rfl dX6_sumOfDemands_15 ?_
      refine al_24 hE (by decide) (by omega) (by omega) dX6_sumOfDemands_16 ?_
      refine z_iadd hE dX6_sumOfDemands_17 ?_
      refine z_istore_n hE rfl (by decide) rfl dX6_sumOfDemands_18 ?_
      refine z_iinc hE 1 rfl (by decide) rfl dX6_sumOfDemands_19 ?_
      refine z_goto (tgt := 4) hE (d := dX6_sumOfDemands_22) (ht := by decide) ?_
      refine z_L (L' := [(2, .int (i32 (i + 1))), (1, .int (i32 (sm (fun k => S 5 (100 + k)) (i + 1)))), (0, .ref (ad 5 23))]) [0, 1, 2] (by rw [show sm (fun k => S 5 (100 + k)) (i + 1) = (sm (fun k => S 5 (100 + k)) i) + (S 5 (100 + i)) from by first | rfl | (exact sm_s h9.1)]; rfl) ?_
      exact ih (i + 1) ⟨by omega, by omega⟩ (by omega)
set_option maxHeartbeats 4000000 in
set_option maxRecDepth 100000 in
theorem c_X6_sumOfDemands (l0 : Launch) (D0 : va_G) (cI0 cJ0 : ClassId) (ad : Nat → Nat → Nat) (S : zM) : Ct l0 D0 cI0 cJ0 ad yX6_sumOfDemands cX6_sumOfDemands 3 (some .int) 0 0 [.ref (ad 5 23)] S (some (.int (i32 (sm (fun k => S 5 (100 + k)) 12)))) (fun X => X = S) := by
  refine Ct.of (by decide) (Nat.le_of_ble_eq_true rfl) (fun E hE hR => ?_)
  have hE : zG E l0 D0 cI0 cJ0 ad cX6_sumOfDemands 3 RX6 0 0 := hE
  show Z E S 0 [(0, .ref (ad 5 23))] []
  refine z_iconst hE dX6_sumOfDemands_0 ?_
  refine z_istore_n hE rfl (by decide) rfl dX6_sumOfDemands_1 ?_
  refine z_iconst hE dX6_sumOfDemands_2 ?_
  refine z_istore_n hE rfl (by decide) rfl dX6_sumOfDemands_3 ?_
  refine z_L (L' := [(2, .int (i32 0)), (1, .int (i32 (sm (fun k => S 5 (100 + k)) 0))), (0, .ref (ad 5 23))]) [0, 1, 2] (by rw [show sm (fun k => S 5 (100 + k)) 0 = 0 from by first | rfl | (exact sm_0 _)]; rfl) ?_
  exact lp_X6_sumOfDemands hE S hR 13 0 ⟨by omega, by omega⟩ (by omega)
theorem dX6_greatestRemainder_0 : decode cX6_greatestRemainder 0 = .ok (.iconst 0, 1) := by decide +kernel
theorem dX6_greatestRemainder_1 : decode cX6_greatestRemainder 1 = .ok (.istore_n 1, 1) := by decide +kernel
theorem dX6_greatestRemainder_2 : decode cX6_greatestRemainder 2 = .ok (.iconst 1, 1) := by decide +kernel
theorem dX6_greatestRemainder_3 : decode cX6_greatestRemainder 3 = .ok (.istore_n 2, 1) := by decide +kernel
theorem dX6_greatestRemainder_4 : decode cX6_greatestRemainder 4 = .ok (.iload_n 2, 1) := by decide +kernel
theorem dX6_greatestRemainder_5 : decode cX6_greatestRemainder 5 = .ok (.bipush 12, 2) := by decide +kernel
theorem dX6_greatestRemainder_7 : decode cX6_greatestRemainder 7 = .ok (.if_icmp .ge 26, 3) := by decide +kernel
theorem dX6_greatestRemainder_10 : decode cX6_greatestRemainder 10 = .ok (.aload_n 0, 1) := by decide +kernel
theorem dX6_greatestRemainder_11 : decode cX6_greatestRemainder 11 = .ok (.getfield 18, 3) := by decide +kernel
theorem dX6_greatestRemainder_14 : decode cX6_greatestRemainder 14 = .ok (.iload_n 2, 1) := by decide +kernel
theorem dX6_greatestRemainder_15 : decode cX6_greatestRemainder 15 = .ok (.iaload, 1) := by decide +kernel
theorem dX6_greatestRemainder_16 : decode cX6_greatestRemainder 16 = .ok (.aload_n 0, 1) := by decide +kernel
theorem dX6_greatestRemainder_17 : decode cX6_greatestRemainder 17 = .ok (.getfield 18, 3) := by decide +kernel
theorem dX6_greatestRemainder_20 : decode cX6_greatestRemainder 20 = .ok (.iload_n 1, 1) := by decide +kernel
theorem dX6_greatestRemainder_21 : decode cX6_greatestRemainder 21 = .ok (.iaload, 1) := by decide +kernel
theorem dX6_greatestRemainder_22 : decode cX6_greatestRemainder 22 = .ok (.if_icmp .le 5, 3) := by decide +kernel
theorem dX6_greatestRemainder_25 : decode cX6_greatestRemainder 25 = .ok (.iload_n 2, 1) := by decide +kernel
theorem dX6_greatestRemainder_26 : decode cX6_greatestRemainder 26 = .ok (.istore_n 1, 1) := by decide +kernel
theorem dX6_greatestRemainder_27 : decode cX6_greatestRemainder 27 = .ok (.iinc 2 1, 3) := by decide +kernel
theorem dX6_greatestRemainder_30 : decode cX6_greatestRemainder 30 = .ok (.goto (-26), 3) := by decide +kernel
theorem dX6_greatestRemainder_33 : decode cX6_greatestRemainder 33 = .ok (.iload_n 1, 1) := by decide +kernel
theorem dX6_greatestRemainder_34 : decode cX6_greatestRemainder 34 = .ok (.ireturn, 1) := by decide +kernel
theorem hy_X6_greatestRemainder : yX6_greatestRemainder.cls ≠ "java/lang/invoke/MethodHandle" ∧ yX6_greatestRemainder.cls ≠ "java/lang/invoke/VarHandle" ∧ (parseMethodDescriptor yX6_greatestRemainder.desc).map (fun d => d.parameters.length) = some 0 := ⟨by decide +kernel, by decide +kernel, by decide +kernel⟩
set_option maxHeartbeats 4000000 in
set_option maxRecDepth 100000 in
theorem lp_X6_greatestRemainder {E : zE} {l0 : Launch} {D0 : va_G} {cI0 cJ0 : ClassId} {ad : Nat → Nat → Nat} (hE : zG E l0 D0 cI0 cJ0 ad cX6_greatestRemainder 3 RX6 0 0) (S : zM) (hr5 : ∀ k : Int, 0 ≤ k → k < 12 → -1 ≤ S 5 (300 + k) ∧ S 5 (300 + k) ≤ 12000) (hR : zR E (some .int) (some (.int (i32 (bst (fun k => S 5 (300 + k)) 11)))) (fun X => X = S)) : ∀ (fuel : Nat) (i : Int) (h9 : 1 ≤ i ∧ i ≤ 12), (12 - i).toNat < fuel → Z E S 4 [(2, .int (i32 i)), (1, .int (i32 (bst (fun k => S 5 (300 + k)) (i - 1).toNat))), (0, .ref (ad 5 23))] [] := by
  intro fuel
  induction fuel with
  | zero => intro _ _ hz; omega
  | succ fuel ih =>
    intro i h9 hz
    have hb := bst_b (fun k => S 5 (300 + k)) (i - 1).toNat
    have e9 := bst_s (f := (fun k => S 5 (300 + k))) (i := i) h9.1
    have h7 := hr5 (bst (fun k => S 5 (300 + k)) (i - 1).toNat) hb.1 (by omega)
    refine z_iload_n hE 0 rfl rfl dX6_greatestRemainder_4 ?_
    refine z_bipush (a := 12) hE (by decide) dX6_greatestRemainder_5 ?_
    refine z_icmp_ge (tgt := 33) hE dX6_greatestRemainder_7 (by decide) ⟨by omega, by omega⟩ ⟨by omega, by omega⟩ (fun c1 => ?_) (fun c1 => ?_)
    · refine z_iload_n hE 1 rfl rfl dX6_greatestRemainder_33 ?_
      exact z_iret hE hR dX6_greatestRemainder_34 (congrArg (fun x => some (Value.int (i32 x))) (by rw [show i = 12 by omega]; rfl)) (by first | rfl | (simp only [us_id]))
    · have h6 := hr5 i (by omega) (by omega)
      refine z_aload_n hE 2 rfl rfl dX6_greatestRemainder_10 ?_
      refine gf_6_2 hE (by decide) zf_X6_18 dX6_greatestRemainder_11 ?_
      refine z_iload_n hE 0 rfl rfl dX6_greatestRemainder_14 ?_
      refine al_26 hE (by decide) (by omega) (by omega) dX6_greatestRemainder_15 ?_
      refine z_aload_n hE 2 rfl rfl dX6_greatestRemainder_16 ?_
      refine gf_6_2 hE (by decide) zf_X6_18 dX6_greatestRemainder_17 ?_
      refine z_iload_n hE 1 rfl rfl dX6_greatestRemainder_20 ?_
      refine al_26 hE (by decide) (by omega) (by omega) dX6_greatestRemainder_21 ?_
      refine z_icmp_le (tgt := 27) hE dX6_greatestRemainder_22 (by decide) ⟨by omega, by omega⟩ ⟨by omega, by omega⟩ (fun c2 => ?_) (fun c2 => ?_)
      · refine z_iinc hE 0 rfl (by decide) rfl dX6_greatestRemainder_27 ?_
        refine z_goto (tgt := 4) hE (d := dX6_greatestRemainder_30) (ht := by decide) ?_
        refine z_L (L' := [(2, .int (i32 (i + 1))), (1, .int (i32 (bst (fun k => S 5 (300 + k)) ((i + 1) - 1).toNat))), (0, .ref (ad 5 23))]) [0, 1, 2] (by rw [show bst (fun k => S 5 (300 + k)) ((i + 1) - 1).toNat = bst (fun k => S 5 (300 + k)) (i - 1).toNat from by first | rfl | ((rw [show i + 1 - 1 = i by omega, e9]; first | exact if_pos (by omega) | exact if_neg (by omega)))]; rfl) ?_
        exact ih (i + 1) ⟨by omega, by omega⟩ (by omega)
      · refine z_iload_n hE 0 rfl rfl dX6_greatestRemainder_25 ?_
        refine z_istore_n hE rfl (by decide) rfl dX6_greatestRemainder_26 ?_
        refine z_iinc hE 1 rfl (by decide) rfl dX6_greatestRemainder_27 ?_
        refine z_goto (tgt := 4) hE (d := dX6_greatestRemainder_30) (ht := by decide) ?_
        refine z_L (L' := [(2, .int (i32 (i + 1))), (1, .int (i32 (bst (fun k => S 5 (300 + k)) ((i + 1) - 1).toNat))), (0, .ref (ad 5 23))]) [0, 1, 2] (by rw [show bst (fun k => S 5 (300 + k)) ((i + 1) - 1).toNat = i from by first | rfl | ((rw [show i + 1 - 1 = i by omega, e9]; first | exact if_pos (by omega) | exact if_neg (by omega)))]; rfl) ?_
        exact ih (i + 1) ⟨by omega, by omega⟩ (by omega)
set_option maxHeartbeats 4000000 in
set_option maxRecDepth 100000 in
theorem c_X6_greatestRemainder (l0 : Launch) (D0 : va_G) (cI0 cJ0 : ClassId) (ad : Nat → Nat → Nat) (S : zM) (hr5 : ∀ k : Int, 0 ≤ k → k < 12 → -1 ≤ S 5 (300 + k) ∧ S 5 (300 + k) ≤ 12000) : Ct l0 D0 cI0 cJ0 ad yX6_greatestRemainder cX6_greatestRemainder 3 (some .int) 0 0 [.ref (ad 5 23)] S (some (.int (i32 (bst (fun k => S 5 (300 + k)) 11)))) (fun X => X = S) := by
  refine Ct.of (by decide) (Nat.le_of_ble_eq_true rfl) (fun E hE hR => ?_)
  have hE : zG E l0 D0 cI0 cJ0 ad cX6_greatestRemainder 3 RX6 0 0 := hE
  show Z E S 0 [(0, .ref (ad 5 23))] []
  refine z_iconst hE dX6_greatestRemainder_0 ?_
  refine z_istore_n hE rfl (by decide) rfl dX6_greatestRemainder_1 ?_
  refine z_iconst hE dX6_greatestRemainder_2 ?_
  refine z_istore_n hE rfl (by decide) rfl dX6_greatestRemainder_3 ?_
  refine z_L (L' := [(2, .int (i32 (1 : Int))), (1, .int (i32 (bst (fun k => S 5 (300 + k)) (((1 : Int)) - 1).toNat))), (0, .ref (ad 5 23))]) [0, 1, 2] (by rw [show bst (fun k => S 5 (300 + k)) (((1 : Int)) - 1).toNat = 0 from by first | rfl | (rfl)]; rfl) ?_
  exact lp_X6_greatestRemainder hE S hr5 hR 13 ((1 : Int)) ⟨by omega, by omega⟩ (by omega)
theorem dX6_handOut_0 : decode cX6_handOut 0 = .ok (.iconst 0, 1) := by decide +kernel
theorem dX6_handOut_1 : decode cX6_handOut 1 = .ok (.istore_n 2, 1) := by decide +kernel
theorem dX6_handOut_2 : decode cX6_handOut 2 = .ok (.iload_n 2, 1) := by decide +kernel
theorem dX6_handOut_3 : decode cX6_handOut 3 = .ok (.iload_n 1, 1) := by decide +kernel
theorem dX6_handOut_4 : decode cX6_handOut 4 = .ok (.if_icmp .ge 31, 3) := by decide +kernel
theorem dX6_handOut_7 : decode cX6_handOut 7 = .ok (.aload_n 0, 1) := by decide +kernel
theorem dX6_handOut_8 : decode cX6_handOut 8 = .ok (.invokevirtual 39, 3) := by decide +kernel
theorem dX6_handOut_11 : decode cX6_handOut 11 = .ok (.istore_n 3, 1) := by decide +kernel
theorem dX6_handOut_12 : decode cX6_handOut 12 = .ok (.aload_n 0, 1) := by decide +kernel
theorem dX6_handOut_13 : decode cX6_handOut 13 = .ok (.getfield 15, 3) := by decide +kernel
theorem dX6_handOut_16 : decode cX6_handOut 16 = .ok (.iload_n 3, 1) := by decide +kernel
theorem dX6_handOut_17 : decode cX6_handOut 17 = .ok (.dup2, 1) := by decide +kernel
theorem dX6_handOut_18 : decode cX6_handOut 18 = .ok (.iaload, 1) := by decide +kernel
theorem dX6_handOut_19 : decode cX6_handOut 19 = .ok (.iconst 1, 1) := by decide +kernel
theorem dX6_handOut_20 : decode cX6_handOut 20 = .ok (.iadd, 1) := by decide +kernel
theorem dX6_handOut_21 : decode cX6_handOut 21 = .ok (.iastore, 1) := by decide +kernel
theorem dX6_handOut_22 : decode cX6_handOut 22 = .ok (.aload_n 0, 1) := by decide +kernel
theorem dX6_handOut_23 : decode cX6_handOut 23 = .ok (.getfield 18, 3) := by decide +kernel
theorem dX6_handOut_26 : decode cX6_handOut 26 = .ok (.iload_n 3, 1) := by decide +kernel
theorem dX6_handOut_27 : decode cX6_handOut 27 = .ok (.iconst (-1), 1) := by decide +kernel
theorem dX6_handOut_28 : decode cX6_handOut 28 = .ok (.iastore, 1) := by decide +kernel
theorem dX6_handOut_29 : decode cX6_handOut 29 = .ok (.iinc 2 1, 3) := by decide +kernel
theorem dX6_handOut_32 : decode cX6_handOut 32 = .ok (.goto (-30), 3) := by decide +kernel
theorem dX6_handOut_35 : decode cX6_handOut 35 = .ok (.return_, 1) := by decide +kernel
theorem hy_X6_handOut : yX6_handOut.cls ≠ "java/lang/invoke/MethodHandle" ∧ yX6_handOut.cls ≠ "java/lang/invoke/VarHandle" ∧ (parseMethodDescriptor yX6_handOut.desc).map (fun d => d.parameters.length) = some 1 := ⟨by decide +kernel, by decide +kernel, by decide +kernel⟩
set_option maxHeartbeats 4000000 in
set_option maxRecDepth 100000 in
theorem lp_X6_handOut {E : zE} {l0 : Launch} {D0 : va_G} {cI0 cJ0 : ClassId} {ad : Nat → Nat → Nat} (hE : zG E l0 D0 cI0 cJ0 ad cX6_handOut 4 RX6 1 22) (S : zM) (n : Int) (h0 : 0 ≤ n ∧ n ≤ 1000) (hr5 : ∀ k : Int, 0 ≤ k → k < 12 → -1 ≤ S 5 (300 + k) ∧ S 5 (300 + k) ≤ 12000) (hR : zR E none none (fun X => ∃ g : Int → Int, X = us S 5 g ∧ (∀ k : Int, 0 ≤ k → k < 12 → g (200 + k) = hnd (-1) n.toNat (fun k => S 5 (200 + k)) (fun k => S 5 (300 + k)) k) ∧ ∀ q : Int, q < 200 → g q = S 5 q)) : ∀ (fuel : Nat) (i : Int) (g : Int → Int) (h9 : 0 ≤ i ∧ i ≤ n) (hg : ∀ k : Int, 0 ≤ k → k < 12 → hnd (-1) (n - i).toNat (fun k => g (200 + k)) (fun k => g (300 + k)) k = hnd (-1) n.toNat (fun k => S 5 (200 + k)) (fun k => S 5 (300 + k)) k) (hq : ∀ q : Int, q < 200 → g q = S 5 q) (hz5 : ∀ k : Int, 0 ≤ k → k < 12 → -1 ≤ g (300 + k) ∧ g (300 + k) ≤ 12000), (n - i).toNat < fuel → Z E (us S 5 g) 2 [(2, .int (i32 i)), (0, .ref (ad 5 23)), (1, .int (i32 n))] [] := by
  intro fuel
  induction fuel with
  | zero => intro _ _ _ _ _ _ hz; omega
  | succ fuel ih =>
    intro i g h9 hg hq hz5 hz
    refine z_iload_n hE 0 rfl rfl dX6_handOut_2 ?_
    refine z_iload_n hE 2 rfl rfl dX6_handOut_3 ?_
    refine z_icmp_ge (tgt := 35) hE dX6_handOut_4 (by decide) ⟨by omega, by omega⟩ ⟨by omega, by omega⟩ (fun c1 => ?_) (fun c1 => ?_)
    · exact z_vret hE hR dX6_handOut_35 rfl (by exact ⟨g, rfl, fun k h1 h2 => by rw [← hg k h1 h2, show (n - i).toNat = 0 by omega]; rfl, hq⟩)
    · refine z_aload_n hE 1 rfl rfl dX6_handOut_7 ?_
      refine z_callV hE (c_X6_greatestRemainder l0 D0 cI0 cJ0 ad (us S 5 g) (by rw [us_eq]; exact hz5)) (by decide) rfl rfl zm_X6_39 zi_yX6_greatestRemainder zs_yX6_greatestRemainder zn_RX6 zc_yX6_greatestRemainder (hy_X6_greatestRemainder) (Nat.le_of_ble_eq_true rfl) (Nat.le_of_ble_eq_true rfl) rfl rfl rfl (Nat.le_of_ble_eq_true rfl) dX6_handOut_8 ?_
      try simp only [us_eq, us_us]
      refine z_istore_n hE rfl (by decide) rfl dX6_handOut_11 ?_
      have hb := bst_b (fun k => g (300 + k)) 11
      refine z_aload_n hE 2 rfl rfl dX6_handOut_12 ?_
      refine gf_6_1 hE (by decide) zf_X6_15 dX6_handOut_13 ?_
      refine z_iload_n hE 0 rfl rfl dX6_handOut_16 ?_
      refine z_dup2 hE rfl rfl dX6_handOut_17 ?_
      refine al_25 hE (by decide) (by omega) (by omega) dX6_handOut_18 ?_
      try simp only [us_eq, us_us]
      refine z_iconst hE dX6_handOut_19 ?_
      refine z_iadd hE dX6_handOut_20 ?_
      refine as_25 hE (by decide) (by omega) (by omega) dX6_handOut_21 ?_
      try simp only [us_eq, us_us]
      refine z_aload_n hE 2 rfl rfl dX6_handOut_22 ?_
      refine gf_6_2 hE (by decide) zf_X6_18 dX6_handOut_23 ?_
      refine z_iload_n hE 0 rfl rfl dX6_handOut_26 ?_
      refine z_iconst hE dX6_handOut_27 ?_
      refine as_26 hE (by decide) (by omega) (by omega) dX6_handOut_28 ?_
      try simp only [us_eq, us_us]
      refine z_iinc hE 1 rfl (by decide) rfl dX6_handOut_29 ?_
      refine z_goto (tgt := 2) hE (d := dX6_handOut_32) (ht := by decide) ?_
      refine z_L (L' := [(2, .int (i32 (i + 1))), (0, .ref (ad 5 23)), (1, .int (i32 n))]) [0, 2, 3] (by rfl) ?_
      exact ih (i + 1) (up (up g (200 + bst (fun k => g (300 + k)) 11) (g (200 + bst (fun k => g (300 + k)) 11) + 1)) (300 + bst (fun k => g (300 + k)) 11) (-1)) ⟨by omega, by omega⟩ (fun k h1 h2 => by rw [← hg k h1 h2, show (n - i).toNat = (n - (i + 1)).toNat + 1 by omega]; exact hnd_cg (fun j h3 h4 => hs_1 hb.1 hb.2 h3 h4) (fun j h3 h4 => hs_2 hb.1 hb.2 h3 h4) k h1 h2) (fun q h1 => by rw [up_ne (by omega), up_ne (by omega)]; exact hq q h1) (fun k h1 h2 => by have := hz5 k h1 h2; unfold up; (repeat' split) <;> omega) (by omega)
set_option maxHeartbeats 4000000 in
set_option maxRecDepth 100000 in
theorem c_X6_handOut (l0 : Launch) (D0 : va_G) (cI0 cJ0 : ClassId) (ad : Nat → Nat → Nat) (S : zM) (n : Int) (h0 : 0 ≤ n ∧ n ≤ 1000) (hr5 : ∀ k : Int, 0 ≤ k → k < 12 → -1 ≤ S 5 (300 + k) ∧ S 5 (300 + k) ≤ 12000) : Ct l0 D0 cI0 cJ0 ad yX6_handOut cX6_handOut 4 none 1 22 [.ref (ad 5 23), .int (i32 n)] S none (fun X => ∃ g : Int → Int, X = us S 5 g ∧ (∀ k : Int, 0 ≤ k → k < 12 → g (200 + k) = hnd (-1) n.toNat (fun k => S 5 (200 + k)) (fun k => S 5 (300 + k)) k) ∧ ∀ q : Int, q < 200 → g q = S 5 q) := by
  refine Ct.of (by decide) (Nat.le_of_ble_eq_true rfl) (fun E hE hR => ?_)
  have hE : zG E l0 D0 cI0 cJ0 ad cX6_handOut 4 RX6 1 22 := hE
  show Z E S 0 [(0, .ref (ad 5 23)), (1, .int (i32 n))] []
  refine z_iconst hE dX6_handOut_0 ?_
  refine z_istore_n hE rfl (by decide) rfl dX6_handOut_1 ?_
  refine z_L (L' := [(2, .int (i32 0)), (0, .ref (ad 5 23)), (1, .int (i32 n))]) [0, 1, 2] (by rfl) ?_
  rw [show S = us S 5 (S 5) from (us_id S 5).symm]
  exact lp_X6_handOut hE S n h0 hr5 hR 1001 0 (S 5) ⟨by omega, by omega⟩ (fun k h1 h2 => by rw [show (n - 0).toNat = n.toNat by omega]) (fun q h1 => rfl) hr5 (by omega)
theorem quo_b {d : Int → Int} {w k : Int} (hd : ∀ k : Int, 0 ≤ k → k < 12 → 0 ≤ d k ∧ d k ≤ 1000) (hw : 0 ≤ w ∧ w ≤ 1000) (hA : 1 ≤ sm d 12) (h0 : 0 ≤ k) (h1 : k < 12) : (0 ≤ w * d k ∧ w * d k ≤ 1000000) ∧ (0 ≤ sp_quo d w k ∧ sp_quo d w k ≤ 1000000) ∧ (0 ≤ sp_rst d w k ∧ sp_rst d w k < sm d 12) ∧ sp_quo d w k * sm d 12 + sp_rst d w k = w * d k ∧ (0 ≤ sp_quo d w k * sm d 12 ∧ sp_quo d w k * sm d 12 ≤ 1000000) := by
  have h2 := hd k h0 h1
  have h3 := zx_mul (a := w) (b := d k) (A := 1000) (B := 1000) hw.1 hw.2 h2.1 h2.2
  have h4 := Int.ediv_mul_le (w * d k) (show sm d 12 ≠ 0 by omega)
  have h5 := Int.emod_lt_of_pos (w * d k) (show 0 < sm d 12 by omega)
  have h6 := Int.mul_ediv_add_emod (w * d k) (sm d 12)
  have h7 := Int.ediv_nonneg (a := w * d k) (b := sm d 12) h3.1 (by omega)
  have h8 := Int.ediv_le_self (sm d 12) h3.1
  have h9 := Int.mul_nonneg h7 (show 0 ≤ sm d 12 by omega)
  rw [Int.mul_comm (sm d 12)] at h6
  unfold sp_quo sp_rst
  omega
theorem left_b {d : Int → Int} {w : Int} (hd : ∀ k : Int, 0 ≤ k → k < 12 → 0 ≤ d k ∧ d k ≤ 1000) (hw : 0 ≤ w ∧ w ≤ 1000) (hA : w < sm d 12) : 0 ≤ sp_left d w ∧ sp_left d w ≤ 1000 ∧ sp_left d w * sm d 12 = sm (sp_rst d w) 12 := by
  have key : ∀ n : Nat, (n : Int) ≤ 12 → smN (sp_quo d w) n * sm d 12 + smN (sp_rst d w) n = w * smN d n ∧ 0 ≤ smN (sp_rst d w) n ∧ 0 ≤ smN (sp_quo d w) n := by
    intro n
    induction n with
    | zero => intro _; simp [smN]
    | succ n ih =>
      intro hn
      obtain ⟨h1, h2, h3⟩ := ih (by omega)
      have h4 := quo_b hd hw (by omega) (k := n) (by omega) (by omega)
      show (smN (sp_quo d w) n + sp_quo d w n) * sm d 12 + (smN (sp_rst d w) n + sp_rst d w n) = w * (smN d n + d n) ∧ 0 ≤ smN (sp_rst d w) n + sp_rst d w n ∧ 0 ≤ smN (sp_quo d w) n + sp_quo d w n
      rw [Int.add_mul, Int.mul_add]
      omega
  have h := key 12 (by omega)
  have e : ∀ f : Int → Int, smN f 12 = sm f 12 := fun _ => rfl
  rw [e, e, e] at h
  have h5 : sp_left d w * sm d 12 = w * sm d 12 - sm (sp_quo d w) 12 * sm d 12 := by unfold sp_left; rw [Int.sub_mul]
  have h6 : 0 ≤ sp_left d w := by
    rcases Int.lt_or_le (sp_left d w) 0 with q | q
    · have h7 := Int.mul_le_mul_of_nonneg_right (show sp_left d w ≤ -1 by omega) (show 0 ≤ sm d 12 by omega)
      omega
    · exact q
  refine ⟨h6, ?_, by omega⟩
  unfold sp_left
  omega
theorem dX6_divide_0 : decode cX6_divide 0 = .ok (.aload_n 0, 1) := by decide +kernel
theorem dX6_divide_1 : decode cX6_divide 1 = .ok (.invokevirtual 21, 3) := by decide +kernel
theorem dX6_divide_4 : decode cX6_divide 4 = .ok (.istore_n 2, 1) := by decide +kernel
theorem dX6_divide_5 : decode cX6_divide 5 = .ok (.iload_n 2, 1) := by decide +kernel
theorem dX6_divide_6 : decode cX6_divide 6 = .ok (.iload_n 1, 1) := by decide +kernel
theorem dX6_divide_7 : decode cX6_divide 7 = .ok (.if_icmp .gt 19, 3) := by decide +kernel
theorem dX6_divide_10 : decode cX6_divide 10 = .ok (.aload_n 0, 1) := by decide +kernel
theorem dX6_divide_11 : decode cX6_divide 11 = .ok (.getfield 9, 3) := by decide +kernel
theorem dX6_divide_14 : decode cX6_divide 14 = .ok (.iconst 0, 1) := by decide +kernel
theorem dX6_divide_15 : decode cX6_divide 15 = .ok (.aload_n 0, 1) := by decide +kernel
theorem dX6_divide_16 : decode cX6_divide 16 = .ok (.getfield 15, 3) := by decide +kernel
theorem dX6_divide_19 : decode cX6_divide 19 = .ok (.iconst 0, 1) := by decide +kernel
theorem dX6_divide_20 : decode cX6_divide 20 = .ok (.bipush 12, 2) := by decide +kernel
theorem dX6_divide_22 : decode cX6_divide 22 = .ok (.invokestatic 25, 3) := by decide +kernel
theorem dX6_divide_25 : decode cX6_divide 25 = .ok (.return_, 1) := by decide +kernel
theorem dX6_divide_26 : decode cX6_divide 26 = .ok (.iload_n 1, 1) := by decide +kernel
theorem dX6_divide_27 : decode cX6_divide 27 = .ok (.istore_n 3, 1) := by decide +kernel
theorem dX6_divide_28 : decode cX6_divide 28 = .ok (.iconst 0, 1) := by decide +kernel
theorem dX6_divide_29 : decode cX6_divide 29 = .ok (.istore 4, 2) := by decide +kernel
theorem dX6_divide_31 : decode cX6_divide 31 = .ok (.iload 4, 2) := by decide +kernel
theorem dX6_divide_33 : decode cX6_divide 33 = .ok (.bipush 12, 2) := by decide +kernel
theorem dX6_divide_35 : decode cX6_divide 35 = .ok (.if_icmp .ge 62, 3) := by decide +kernel
theorem dX6_divide_38 : decode cX6_divide 38 = .ok (.iload_n 1, 1) := by decide +kernel
theorem dX6_divide_39 : decode cX6_divide 39 = .ok (.aload_n 0, 1) := by decide +kernel
theorem dX6_divide_40 : decode cX6_divide 40 = .ok (.getfield 9, 3) := by decide +kernel
theorem dX6_divide_43 : decode cX6_divide 43 = .ok (.iload 4, 2) := by decide +kernel
theorem dX6_divide_45 : decode cX6_divide 45 = .ok (.iaload, 1) := by decide +kernel
theorem dX6_divide_46 : decode cX6_divide 46 = .ok (.imul, 1) := by decide +kernel
theorem dX6_divide_47 : decode cX6_divide 47 = .ok (.istore 5, 2) := by decide +kernel
theorem dX6_divide_49 : decode cX6_divide 49 = .ok (.aload_n 0, 1) := by decide +kernel
theorem dX6_divide_50 : decode cX6_divide 50 = .ok (.getfield 15, 3) := by decide +kernel
theorem dX6_divide_53 : decode cX6_divide 53 = .ok (.iload 4, 2) := by decide +kernel
theorem dX6_divide_55 : decode cX6_divide 55 = .ok (.iload 5, 2) := by decide +kernel
theorem dX6_divide_57 : decode cX6_divide 57 = .ok (.iload_n 2, 1) := by decide +kernel
theorem dX6_divide_58 : decode cX6_divide 58 = .ok (.invokestatic 31, 3) := by decide +kernel
theorem dX6_divide_61 : decode cX6_divide 61 = .ok (.iastore, 1) := by decide +kernel
theorem dX6_divide_62 : decode cX6_divide 62 = .ok (.aload_n 0, 1) := by decide +kernel
theorem dX6_divide_63 : decode cX6_divide 63 = .ok (.getfield 18, 3) := by decide +kernel
theorem dX6_divide_66 : decode cX6_divide 66 = .ok (.iload 4, 2) := by decide +kernel
theorem dX6_divide_68 : decode cX6_divide 68 = .ok (.iload 5, 2) := by decide +kernel
theorem dX6_divide_70 : decode cX6_divide 70 = .ok (.aload_n 0, 1) := by decide +kernel
theorem dX6_divide_71 : decode cX6_divide 71 = .ok (.getfield 15, 3) := by decide +kernel
theorem dX6_divide_74 : decode cX6_divide 74 = .ok (.iload 4, 2) := by decide +kernel
theorem dX6_divide_76 : decode cX6_divide 76 = .ok (.iaload, 1) := by decide +kernel
theorem dX6_divide_77 : decode cX6_divide 77 = .ok (.iload_n 2, 1) := by decide +kernel
theorem dX6_divide_78 : decode cX6_divide 78 = .ok (.imul, 1) := by decide +kernel
theorem dX6_divide_79 : decode cX6_divide 79 = .ok (.isub, 1) := by decide +kernel
theorem dX6_divide_80 : decode cX6_divide 80 = .ok (.iastore, 1) := by decide +kernel
theorem dX6_divide_81 : decode cX6_divide 81 = .ok (.iload_n 3, 1) := by decide +kernel
theorem dX6_divide_82 : decode cX6_divide 82 = .ok (.aload_n 0, 1) := by decide +kernel
theorem dX6_divide_83 : decode cX6_divide 83 = .ok (.getfield 15, 3) := by decide +kernel
theorem dX6_divide_86 : decode cX6_divide 86 = .ok (.iload 4, 2) := by decide +kernel
theorem dX6_divide_88 : decode cX6_divide 88 = .ok (.iaload, 1) := by decide +kernel
theorem dX6_divide_89 : decode cX6_divide 89 = .ok (.isub, 1) := by decide +kernel
theorem dX6_divide_90 : decode cX6_divide 90 = .ok (.istore_n 3, 1) := by decide +kernel
theorem dX6_divide_91 : decode cX6_divide 91 = .ok (.iinc 4 1, 3) := by decide +kernel
theorem dX6_divide_94 : decode cX6_divide 94 = .ok (.goto (-63), 3) := by decide +kernel
theorem dX6_divide_97 : decode cX6_divide 97 = .ok (.aload_n 0, 1) := by decide +kernel
theorem dX6_divide_98 : decode cX6_divide 98 = .ok (.iload_n 3, 1) := by decide +kernel
theorem dX6_divide_99 : decode cX6_divide 99 = .ok (.invokevirtual 35, 3) := by decide +kernel
theorem dX6_divide_102 : decode cX6_divide 102 = .ok (.return_, 1) := by decide +kernel
theorem hy_X6_divide : yX6_divide.cls ≠ "java/lang/invoke/MethodHandle" ∧ yX6_divide.cls ≠ "java/lang/invoke/VarHandle" ∧ (parseMethodDescriptor yX6_divide.desc).map (fun d => d.parameters.length) = some 1 := ⟨by decide +kernel, by decide +kernel, by decide +kernel⟩
set_option maxHeartbeats 4000000 in
set_option maxRecDepth 100000 in
theorem lp_X6_divide {E : zE} {l0 : Launch} {D0 : va_G} {cI0 cJ0 : ClassId} {ad : Nat → Nat → Nat} (hE : zG E l0 D0 cI0 cJ0 ad cX6_divide 6 RX6 2 45) (S : zM) (w : Int) (h0 : 0 ≤ w ∧ w ≤ 1000) (hd : ∀ k : Int, 0 ≤ k → k < 12 → 0 ≤ S 5 (100 + k) ∧ S 5 (100 + k) ≤ 1000) (hR : zR E none none (fun X => ∃ g : Int → Int, X = us S 5 g ∧ (∀ k : Int, 0 ≤ k → k < 12 → g (200 + k) = sp_gets (fun k => S 5 (100 + k)) w k) ∧ ∀ q : Int, q < 200 → g q = S 5 q)) : ∀ (fuel : Nat) (i : Int) (g : Int → Int) (h9 : 0 ≤ i ∧ i ≤ 12) (hA : w < sm (fun k => S 5 (100 + k)) 12) (hs : 0 ≤ sm (fun k => S 5 (100 + k)) 12 ∧ sm (fun k => S 5 (100 + k)) 12 ≤ 12000) (hg : ∀ k : Int, 0 ≤ k → k < i → g (200 + k) = sp_quo (fun k => S 5 (100 + k)) w k ∧ g (300 + k) = sp_rst (fun k => S 5 (100 + k)) w k) (hq : ∀ q : Int, q < 200 → g q = S 5 q), (12 - i).toNat < fuel → Z E (us S 5 g) 31 [(4, .int (i32 i)), (3, .int (i32 (w - sm (sp_quo (fun k => S 5 (100 + k)) w) i))), (2, .int (i32 (sm (fun k => S 5 (100 + k)) 12))), (0, .ref (ad 5 23)), (1, .int (i32 w))] [] := by
  intro fuel
  induction fuel with
  | zero => intro _ _ _ _ _ _ _ hz; omega
  | succ fuel ih =>
    intro i g h9 hA hs hg hq hz
    have hql := sm_b (f := sp_quo (fun k => S 5 (100 + k)) w) (n := i) (a := 0) (b := 1000000) h9.1 (fun k h1 h2 => (quo_b hd h0 (by omega) h1 (by omega)).2.1)
    refine z_iload hE 0 rfl dX6_divide_31 ?_
    refine z_bipush (a := 12) hE (by decide) dX6_divide_33 ?_
    refine z_icmp_ge (tgt := 97) hE dX6_divide_35 (by decide) ⟨by omega, by omega⟩ ⟨by omega, by omega⟩ (fun c1 => ?_) (fun c1 => ?_)
    · have e12 : i = 12 := by omega
      have hl := left_b hd h0 hA
      unfold sp_left at hl
      rw [e12] at hql hg ⊢
      refine z_aload_n hE 3 rfl rfl dX6_divide_97 ?_
      refine z_iload_n hE 1 rfl rfl dX6_divide_98 ?_
      refine z_callVp hE (c_X6_handOut l0 D0 cI0 cJ0 ad (us S 5 g) (w - sm (sp_quo (fun k => S 5 (100 + k)) w) 12) (by omega) (by rw [us_eq]; exact fun k h1 h2 => by rw [(hg k h1 h2).2]; have := quo_b hd h0 (by omega) h1 h2; omega)) (by decide) rfl rfl zm_X6_35 zi_yX6_handOut zs_yX6_handOut zn_RX6 zc_yX6_handOut (hy_X6_handOut) (Nat.le_of_ble_eq_true rfl) (Nat.le_of_ble_eq_true rfl) rfl rfl rfl (Nat.le_of_ble_eq_true rfl) dX6_divide_99 (fun M99 hM99 => ?_)
      obtain ⟨g3, rfl, hg3, hg4⟩ := hM99
      try simp only [us_eq, us_us]
      exact z_vret hE hR dX6_divide_102 rfl (by exact ⟨g3, rfl, fun k h1 h2 => by rw [hg3 k h1 h2]; unfold sp_gets; rw [if_neg (by omega)]; simp only [us_eq]; exact hnd_cg (fun j h3 h4 => (hg j h3 h4).1) (fun j h3 h4 => (hg j h3 h4).2) k h1 h2, fun q h1 => by rw [hg4 q h1]; simp only [us_eq]; exact hq q h1⟩)
    · have hk := quo_b hd h0 (by omega) h9.1 (show i < 12 by omega)
      refine z_iload_n hE 4 rfl rfl dX6_divide_38 ?_
      refine z_aload_n hE 3 rfl rfl dX6_divide_39 ?_
      refine gf_6_0 hE (by decide) zf_X6_9 dX6_divide_40 ?_
      refine z_iload hE 0 rfl dX6_divide_43 ?_
      refine al_24 hE (by decide) (by omega) (by omega) dX6_divide_45 ?_
      try simp only [us_eq, us_us]
      rw [hq _ (by omega)]
      refine z_imul hE dX6_divide_46 ?_
      refine z_istore hE (by decide) rfl dX6_divide_47 ?_
      refine z_aload_n hE 4 rfl rfl dX6_divide_49 ?_
      refine gf_6_1 hE (by decide) zf_X6_15 dX6_divide_50 ?_
      refine z_iload hE 1 rfl dX6_divide_53 ?_
      refine z_iload hE 0 rfl dX6_divide_55 ?_
      refine z_iload_n hE 3 rfl rfl dX6_divide_57 ?_
      refine z_callN hE (c_X7_quotient l0 D0 cI0 cJ0 ad (us S 5 g) (w * (S 5 (100 + i))) (sm (fun k => S 5 (100 + k)) 12) (⟨by omega, by omega⟩) (⟨by omega, by omega⟩) (by omega)) (List.mem_of_getElem? (i := 9) rfl) zt_yX7_quotient zn_RX7 zc_yX7_quotient (hy_X7_quotient) (Nat.le_of_ble_eq_true rfl) (Nat.le_of_ble_eq_true rfl) rfl rfl rfl (Nat.le_of_ble_eq_true rfl) dX6_divide_58 ?_
      try simp only [us_eq, us_us]
      refine as_25 hE (by decide) (by omega) (by omega) dX6_divide_61 ?_
      try simp only [us_eq, us_us]
      rw [show w * S 5 (100 + i) / sm (fun k => S 5 (100 + k)) 12 = sp_quo (fun k => S 5 (100 + k)) w i from rfl]
      refine z_aload_n hE 4 rfl rfl dX6_divide_62 ?_
      refine gf_6_2 hE (by decide) zf_X6_18 dX6_divide_63 ?_
      refine z_iload hE 1 rfl dX6_divide_66 ?_
      refine z_iload hE 0 rfl dX6_divide_68 ?_
      refine z_aload_n hE 4 rfl rfl dX6_divide_70 ?_
      refine gf_6_1 hE (by decide) zf_X6_15 dX6_divide_71 ?_
      refine z_iload hE 1 rfl dX6_divide_74 ?_
      refine al_25 hE (by decide) (by omega) (by omega) dX6_divide_76 ?_
      try simp only [us_eq, us_us]
      rw [up_eq]
      refine z_iload_n hE 3 rfl rfl dX6_divide_77 ?_
      refine z_imul hE dX6_divide_78 ?_
      refine z_isub hE dX6_divide_79 ?_
      refine as_26 hE (by decide) (by omega) (by omega) dX6_divide_80 ?_
      try simp only [us_eq, us_us]
      rw [show w * S 5 (100 + i) - sp_quo (fun k => S 5 (100 + k)) w i * sm (fun k => S 5 (100 + k)) 12 = sp_rst (fun k => S 5 (100 + k)) w i from rfl]
      refine z_iload_n hE 2 rfl rfl dX6_divide_81 ?_
      refine z_aload_n hE 4 rfl rfl dX6_divide_82 ?_
      refine gf_6_1 hE (by decide) zf_X6_15 dX6_divide_83 ?_
      refine z_iload hE 1 rfl dX6_divide_86 ?_
      refine al_25 hE (by decide) (by omega) (by omega) dX6_divide_88 ?_
      try simp only [us_eq, us_us]
      rw [up_ne (show 200 + i ≠ 300 + i by omega)]
      rw [up_eq]
      refine z_isub hE dX6_divide_89 ?_
      refine z_istore_n hE rfl (by decide) rfl dX6_divide_90 ?_
      refine z_iinc hE 2 rfl (by decide) rfl dX6_divide_91 ?_
      refine z_goto (tgt := 31) hE (d := dX6_divide_94) (ht := by decide) ?_
      refine z_L (L' := [(4, .int (i32 (i + 1))), (3, .int (i32 (w - sm (sp_quo (fun k => S 5 (100 + k)) w) (i + 1)))), (2, .int (i32 (sm (fun k => S 5 (100 + k)) 12))), (0, .ref (ad 5 23)), (1, .int (i32 w))]) [0, 1, 3, 4, 5] (by rw [show w - sm (sp_quo (fun k => S 5 (100 + k)) w) (i + 1) = (w - sm (sp_quo (fun k => S 5 (100 + k)) w) i) - (sp_quo (fun k => S 5 (100 + k)) w i) from by first | rfl | ((rw [sm_s h9.1]; omega))]; rfl) ?_
      exact ih (i + 1) (up (up g (200 + i) (sp_quo (fun k => S 5 (100 + k)) w i)) (300 + i) (sp_rst (fun k => S 5 (100 + k)) w i)) ⟨by omega, by omega⟩ hA hs (qs_1 rfl rfl h9.1 (by omega) hg) (fun q h1 => by rw [up_ne (by omega), up_ne (by omega)]; exact hq q h1) (by omega)
set_option maxHeartbeats 4000000 in
set_option maxRecDepth 100000 in
theorem c_X6_divide (l0 : Launch) (D0 : va_G) (cI0 cJ0 : ClassId) (ad : Nat → Nat → Nat) (S : zM) (w : Int) (h0 : 0 ≤ w ∧ w ≤ 1000) (hd : ∀ k : Int, 0 ≤ k → k < 12 → 0 ≤ S 5 (100 + k) ∧ S 5 (100 + k) ≤ 1000) : Ct l0 D0 cI0 cJ0 ad yX6_divide cX6_divide 6 none 2 45 [.ref (ad 5 23), .int (i32 w)] S none (fun X => ∃ g : Int → Int, X = us S 5 g ∧ (∀ k : Int, 0 ≤ k → k < 12 → g (200 + k) = sp_gets (fun k => S 5 (100 + k)) w k) ∧ ∀ q : Int, q < 200 → g q = S 5 q) := by
  refine Ct.of (by decide) (Nat.le_of_ble_eq_true rfl) (fun E hE hR => ?_)
  have hE : zG E l0 D0 cI0 cJ0 ad cX6_divide 6 RX6 2 45 := hE
  show Z E S 0 [(0, .ref (ad 5 23)), (1, .int (i32 w))] []
  have hs := sm_b (f := (fun k => S 5 (100 + k))) (n := 12) (a := 0) (b := 1000) (by omega) hd
  refine z_aload_n hE 0 rfl rfl dX6_divide_0 ?_
  refine z_callV hE (c_X6_sumOfDemands l0 D0 cI0 cJ0 ad S) (by decide) rfl rfl zm_X6_21 zi_yX6_sumOfDemands zs_yX6_sumOfDemands zn_RX6 zc_yX6_sumOfDemands (hy_X6_sumOfDemands) (Nat.le_of_ble_eq_true rfl) (Nat.le_of_ble_eq_true rfl) rfl rfl rfl (Nat.le_of_ble_eq_true rfl) dX6_divide_1 ?_
  refine z_istore_n hE rfl (by decide) rfl dX6_divide_4 ?_
  refine z_iload_n hE 0 rfl rfl dX6_divide_5 ?_
  refine z_iload_n hE 2 rfl rfl dX6_divide_6 ?_
  refine z_icmp_gt (tgt := 26) hE dX6_divide_7 (by decide) ⟨by omega, by omega⟩ ⟨by omega, by omega⟩ (fun c1 => ?_) (fun c1 => ?_)
  · refine z_iload_n hE 2 rfl rfl dX6_divide_26 ?_
    refine z_istore_n hE rfl (by decide) rfl dX6_divide_27 ?_
    refine z_iconst hE dX6_divide_28 ?_
    refine z_istore hE (by decide) rfl dX6_divide_29 ?_
    refine z_L (L' := [(4, .int (i32 0)), (3, .int (i32 (w - sm (sp_quo (fun k => S 5 (100 + k)) w) 0))), (2, .int (i32 (sm (fun k => S 5 (100 + k)) 12))), (0, .ref (ad 5 23)), (1, .int (i32 w))]) [0, 1, 2, 3, 4] (by rw [show w - sm (sp_quo (fun k => S 5 (100 + k)) w) 0 = w from by first | rfl | ((rw [sm_0]; omega)), show sm (fun k => S 5 (100 + k)) 12 = sm (fun k => (S 5) (100 + k)) 12 from by first | rfl | ((rw [sm_0]; omega))]; rfl) ?_
    rw [show S = us S 5 (S 5) from (us_id S 5).symm]
    exact lp_X6_divide hE S w h0 hd hR 13 0 (S 5) ⟨by omega, by omega⟩ (by omega) ⟨by omega, by omega⟩ (fun k h1 h2 => by omega) (fun q h1 => rfl) (by omega)
  · refine z_aload_n hE 1 rfl rfl dX6_divide_10 ?_
    refine gf_6_0 hE (by decide) zf_X6_9 dX6_divide_11 ?_
    refine z_iconst hE dX6_divide_14 ?_
    refine z_aload_n hE 1 rfl rfl dX6_divide_15 ?_
    refine gf_6_1 hE (by decide) zf_X6_15 dX6_divide_16 ?_
    refine z_iconst hE dX6_divide_19 ?_
    refine z_bipush (a := 12) hE (by decide) dX6_divide_20 ?_
    refine ac_24 hE zm_X6_25 (by decide) (Nat.le_of_ble_eq_true rfl) dX6_divide_22 ?_
    exact z_vret hE hR dX6_divide_25 rfl (by exact ⟨_, rfl, fun k h1 h2 => by unfold sp_gets; rw [if_pos (by omega), if_pos (by omega)]; show S 5 (200 + k - 100) = S 5 (100 + k); rw [show 200 + k - 100 = 100 + k by omega], fun q h1 => if_neg (by omega)⟩)
end
section
theorem dX4_takeFromSeller_0 : decode cX4_takeFromSeller 0 = .ok (.aload_n 0, 1) := by decide +kernel
theorem dX4_takeFromSeller_1 : decode cX4_takeFromSeller 1 = .ok (.getfield 35, 3) := by decide +kernel
theorem dX4_takeFromSeller_4 : decode cX4_takeFromSeller 4 = .ok (.getfield 105, 3) := by decide +kernel
theorem dX4_takeFromSeller_7 : decode cX4_takeFromSeller 7 = .ok (.iload_n 1, 1) := by decide +kernel
theorem dX4_takeFromSeller_8 : decode cX4_takeFromSeller 8 = .ok (.iaload, 1) := by decide +kernel
theorem dX4_takeFromSeller_9 : decode cX4_takeFromSeller 9 = .ok (.istore 5, 2) := by decide +kernel
theorem dX4_takeFromSeller_11 : decode cX4_takeFromSeller 11 = .ok (.aload_n 0, 1) := by decide +kernel
theorem dX4_takeFromSeller_12 : decode cX4_takeFromSeller 12 = .ok (.getfield 12, 3) := by decide +kernel
theorem dX4_takeFromSeller_15 : decode cX4_takeFromSeller 15 = .ok (.getfield 72, 3) := by decide +kernel
theorem dX4_takeFromSeller_18 : decode cX4_takeFromSeller 18 = .ok (.iload 5, 2) := by decide +kernel
theorem dX4_takeFromSeller_20 : decode cX4_takeFromSeller 20 = .ok (.dup2, 1) := by decide +kernel
theorem dX4_takeFromSeller_21 : decode cX4_takeFromSeller 21 = .ok (.iaload, 1) := by decide +kernel
theorem dX4_takeFromSeller_22 : decode cX4_takeFromSeller 22 = .ok (.iload_n 3, 1) := by decide +kernel
theorem dX4_takeFromSeller_23 : decode cX4_takeFromSeller 23 = .ok (.isub, 1) := by decide +kernel
theorem dX4_takeFromSeller_24 : decode cX4_takeFromSeller 24 = .ok (.iastore, 1) := by decide +kernel
theorem dX4_takeFromSeller_25 : decode cX4_takeFromSeller 25 = .ok (.aload_n 0, 1) := by decide +kernel
theorem dX4_takeFromSeller_26 : decode cX4_takeFromSeller 26 = .ok (.getfield 12, 3) := by decide +kernel
theorem dX4_takeFromSeller_29 : decode cX4_takeFromSeller 29 = .ok (.getfield 190, 3) := by decide +kernel
theorem dX4_takeFromSeller_32 : decode cX4_takeFromSeller 32 = .ok (.iload 5, 2) := by decide +kernel
theorem dX4_takeFromSeller_34 : decode cX4_takeFromSeller 34 = .ok (.dup2, 1) := by decide +kernel
theorem dX4_takeFromSeller_35 : decode cX4_takeFromSeller 35 = .ok (.laload, 1) := by decide +kernel
theorem dX4_takeFromSeller_36 : decode cX4_takeFromSeller 36 = .ok (.iload 4, 2) := by decide +kernel
theorem dX4_takeFromSeller_38 : decode cX4_takeFromSeller 38 = .ok (.i2l, 1) := by decide +kernel
theorem dX4_takeFromSeller_39 : decode cX4_takeFromSeller 39 = .ok (.iload_n 3, 1) := by decide +kernel
theorem dX4_takeFromSeller_40 : decode cX4_takeFromSeller 40 = .ok (.i2l, 1) := by decide +kernel
theorem dX4_takeFromSeller_41 : decode cX4_takeFromSeller 41 = .ok (.lmul, 1) := by decide +kernel
theorem dX4_takeFromSeller_42 : decode cX4_takeFromSeller 42 = .ok (.ladd, 1) := by decide +kernel
theorem dX4_takeFromSeller_43 : decode cX4_takeFromSeller 43 = .ok (.lastore, 1) := by decide +kernel
theorem dX4_takeFromSeller_44 : decode cX4_takeFromSeller 44 = .ok (.aload_n 0, 1) := by decide +kernel
theorem dX4_takeFromSeller_45 : decode cX4_takeFromSeller 45 = .ok (.getfield 35, 3) := by decide +kernel
theorem dX4_takeFromSeller_48 : decode cX4_takeFromSeller 48 = .ok (.iload_n 1, 1) := by decide +kernel
theorem dX4_takeFromSeller_49 : decode cX4_takeFromSeller 49 = .ok (.iload_n 2, 1) := by decide +kernel
theorem dX4_takeFromSeller_50 : decode cX4_takeFromSeller 50 = .ok (.iload_n 3, 1) := by decide +kernel
theorem dX4_takeFromSeller_51 : decode cX4_takeFromSeller 51 = .ok (.invokevirtual 194, 3) := by decide +kernel
theorem dX4_takeFromSeller_54 : decode cX4_takeFromSeller 54 = .ok (.return_, 1) := by decide +kernel
theorem hy_X4_takeFromSeller : yX4_takeFromSeller.cls ≠ "java/lang/invoke/MethodHandle" ∧ yX4_takeFromSeller.cls ≠ "java/lang/invoke/VarHandle" ∧ (parseMethodDescriptor yX4_takeFromSeller.desc).map (fun d => d.parameters.length) = some 4 := ⟨by decide +kernel, by decide +kernel, by decide +kernel⟩
set_option maxHeartbeats 4000000 in
set_option maxRecDepth 100000 in
theorem c_X4_takeFromSeller (l0 : Launch) (D0 : va_G) (cI0 cJ0 : ClassId) (ad : Nat → Nat → Nat) (S : zM) (r : Nat) (hr : r < 5) (o : Int) (w : Int) (n : Int) (pr : Int) (h0 : 0 ≤ o ∧ o < 20) (h2 : 0 ≤ S r (55 + 22 * o) ∧ S r (55 + 22 * o) < 12) (h3 : 0 ≤ w ∧ w < 4) (h4 : -2147483648 ≤ n ∧ n < 2147483648) (h5 : -2147483648 ≤ pr ∧ pr < 2147483648) : Ct l0 D0 cI0 cJ0 ad yX4_takeFromSeller cX4_takeFromSeller 6 none 1 23 [.ref (ad r 0), .int (i32 o), .int (i32 w), .int (i32 n), .int (i32 pr)] S none (fun X => X = (us S r (sp_take (S r) o w n pr))) := by
  refine Ct.of (by decide) (Nat.le_of_ble_eq_true rfl) (fun E hE hR => ?_)
  have hE : zG E l0 D0 cI0 cJ0 ad cX4_takeFromSeller 6 RX4 1 23 := hE
  show Z E S 0 [(0, .ref (ad r 0)), (1, .int (i32 o)), (2, .int (i32 w)), (3, .int (i32 n)), (4, .int (i32 pr))] []
  refine z_aload_n hE 0 rfl rfl dX4_takeFromSeller_0 ?_
  refine gf_4_3 hE (ks_m hr (by decide)) zf_X4_35 dX4_takeFromSeller_1 ?_
  refine gf_3_1 hE (ks_m hr (by decide)) zf_X4_105 dX4_takeFromSeller_4 ?_
  refine z_iload_n hE 1 rfl rfl dX4_takeFromSeller_7 ?_
  refine al_9 hE (ks_m hr (by decide)) (by omega) (by omega) dX4_takeFromSeller_8 ?_
  refine z_istore hE (by decide) rfl dX4_takeFromSeller_9 ?_
  refine z_aload_n hE 1 rfl rfl dX4_takeFromSeller_11 ?_
  refine gf_4_0 hE (ks_m hr (by decide)) zf_X4_12 dX4_takeFromSeller_12 ?_
  refine gf_1_1 hE (ks_m hr (by decide)) zf_X4_72 dX4_takeFromSeller_15 ?_
  refine z_iload hE 0 rfl dX4_takeFromSeller_18 ?_
  refine z_dup2 hE rfl rfl dX4_takeFromSeller_20 ?_
  refine al_2 hE (ks_m hr (by decide)) (by omega) (by omega) dX4_takeFromSeller_21 ?_
  refine z_iload_n hE 4 rfl rfl dX4_takeFromSeller_22 ?_
  refine z_isub hE dX4_takeFromSeller_23 ?_
  refine as_2 hE (ks_m hr (by decide)) (by omega) (by omega) dX4_takeFromSeller_24 ?_
  refine z_aload_n hE 1 rfl rfl dX4_takeFromSeller_25 ?_
  refine gf_4_0 hE (ks_m hr (by decide)) zf_X4_12 dX4_takeFromSeller_26 ?_
  refine gf_1_3 hE (ks_m hr (by decide)) zf_X4_190 dX4_takeFromSeller_29 ?_
  refine z_iload hE 0 rfl dX4_takeFromSeller_32 ?_
  refine z_dup2 hE rfl rfl dX4_takeFromSeller_34 ?_
  refine al_4 hE (ks_m hr (by decide)) (by omega) (by omega) dX4_takeFromSeller_35 ?_
  try simp only [us_eq, us_us]
  rw [up_ne (show 21 + 3 * (S r (55 + 22 * o)) ≠ 19 + 3 * (S r (55 + 22 * o)) by omega)]
  refine z_iload hE 5 rfl dX4_takeFromSeller_36 ?_
  refine z_i2l hE ⟨by omega, by omega⟩ dX4_takeFromSeller_38 ?_
  refine z_iload_n hE 4 rfl rfl dX4_takeFromSeller_39 ?_
  refine z_i2l hE ⟨by omega, by omega⟩ dX4_takeFromSeller_40 ?_
  refine z_lmul hE dX4_takeFromSeller_41 ?_
  refine z_ladd hE dX4_takeFromSeller_42 ?_
  refine as_4 hE (ks_m hr (by decide)) (by omega) (by omega) dX4_takeFromSeller_43 ?_
  try simp only [us_eq, us_us]
  refine z_aload_n hE 1 rfl rfl dX4_takeFromSeller_44 ?_
  refine gf_4_3 hE (ks_m hr (by decide)) zf_X4_35 dX4_takeFromSeller_45 ?_
  refine z_iload_n hE 2 rfl rfl dX4_takeFromSeller_48 ?_
  refine z_iload_n hE 3 rfl rfl dX4_takeFromSeller_49 ?_
  refine z_iload_n hE 4 rfl rfl dX4_takeFromSeller_50 ?_
  refine z_callV hE (c_X3_recordSale l0 D0 cI0 cJ0 ad (us S r (up (up (S r) (19 + 3 * (S r (55 + 22 * o))) ((S r (19 + 3 * (S r (55 + 22 * o)))) - n)) (21 + 3 * (S r (55 + 22 * o))) ((S r (21 + 3 * (S r (55 + 22 * o)))) + (pr * n)))) r hr o w n (by omega) (by omega)) (ks_m hr (by decide)) rfl rfl zm_X4_194 zi_yX3_recordSale zs_yX3_recordSale zn_RX3 zc_yX3_recordSale (hy_X3_recordSale) (Nat.le_of_ble_eq_true rfl) (Nat.le_of_ble_eq_true rfl) rfl rfl rfl (Nat.le_of_ble_eq_true rfl) dX4_takeFromSeller_51 ?_
  try simp only [us_eq, us_us]
  exact z_vret hE hR dX4_takeFromSeller_54 rfl (by rw [uq_sub, uq_two (by omega)]; rfl)
theorem dX4_sellToMember_0 : decode cX4_sellToMember 0 = .ok (.aload_n 0, 1) := by decide +kernel
theorem dX4_sellToMember_1 : decode cX4_sellToMember 1 = .ok (.getfield 12, 3) := by decide +kernel
theorem dX4_sellToMember_4 : decode cX4_sellToMember 4 = .ok (.getfield 72, 3) := by decide +kernel
theorem dX4_sellToMember_7 : decode cX4_sellToMember 7 = .ok (.iload_n 3, 1) := by decide +kernel
theorem dX4_sellToMember_8 : decode cX4_sellToMember 8 = .ok (.dup2, 1) := by decide +kernel
theorem dX4_sellToMember_9 : decode cX4_sellToMember 9 = .ok (.iaload, 1) := by decide +kernel
theorem dX4_sellToMember_10 : decode cX4_sellToMember 10 = .ok (.iload 4, 2) := by decide +kernel
theorem dX4_sellToMember_12 : decode cX4_sellToMember 12 = .ok (.iadd, 1) := by decide +kernel
theorem dX4_sellToMember_13 : decode cX4_sellToMember 13 = .ok (.iastore, 1) := by decide +kernel
theorem dX4_sellToMember_14 : decode cX4_sellToMember 14 = .ok (.aload_n 0, 1) := by decide +kernel
theorem dX4_sellToMember_15 : decode cX4_sellToMember 15 = .ok (.getfield 12, 3) := by decide +kernel
theorem dX4_sellToMember_18 : decode cX4_sellToMember 18 = .ok (.getfield 190, 3) := by decide +kernel
theorem dX4_sellToMember_21 : decode cX4_sellToMember 21 = .ok (.iload_n 3, 1) := by decide +kernel
theorem dX4_sellToMember_22 : decode cX4_sellToMember 22 = .ok (.dup2, 1) := by decide +kernel
theorem dX4_sellToMember_23 : decode cX4_sellToMember 23 = .ok (.laload, 1) := by decide +kernel
theorem dX4_sellToMember_24 : decode cX4_sellToMember 24 = .ok (.iload 5, 2) := by decide +kernel
theorem dX4_sellToMember_26 : decode cX4_sellToMember 26 = .ok (.i2l, 1) := by decide +kernel
theorem dX4_sellToMember_27 : decode cX4_sellToMember 27 = .ok (.iload 4, 2) := by decide +kernel
theorem dX4_sellToMember_29 : decode cX4_sellToMember 29 = .ok (.i2l, 1) := by decide +kernel
theorem dX4_sellToMember_30 : decode cX4_sellToMember 30 = .ok (.lmul, 1) := by decide +kernel
theorem dX4_sellToMember_31 : decode cX4_sellToMember 31 = .ok (.lsub, 1) := by decide +kernel
theorem dX4_sellToMember_32 : decode cX4_sellToMember 32 = .ok (.lastore, 1) := by decide +kernel
theorem dX4_sellToMember_33 : decode cX4_sellToMember 33 = .ok (.aload_n 0, 1) := by decide +kernel
theorem dX4_sellToMember_34 : decode cX4_sellToMember 34 = .ok (.iload_n 1, 1) := by decide +kernel
theorem dX4_sellToMember_35 : decode cX4_sellToMember 35 = .ok (.iload_n 2, 1) := by decide +kernel
theorem dX4_sellToMember_36 : decode cX4_sellToMember 36 = .ok (.iload 4, 2) := by decide +kernel
theorem dX4_sellToMember_38 : decode cX4_sellToMember 38 = .ok (.iload 5, 2) := by decide +kernel
theorem dX4_sellToMember_40 : decode cX4_sellToMember 40 = .ok (.invokevirtual 180, 3) := by decide +kernel
theorem dX4_sellToMember_43 : decode cX4_sellToMember 43 = .ok (.return_, 1) := by decide +kernel
theorem hy_X4_sellToMember : yX4_sellToMember.cls ≠ "java/lang/invoke/MethodHandle" ∧ yX4_sellToMember.cls ≠ "java/lang/invoke/VarHandle" ∧ (parseMethodDescriptor yX4_sellToMember.desc).map (fun d => d.parameters.length) = some 5 := ⟨by decide +kernel, by decide +kernel, by decide +kernel⟩
set_option maxHeartbeats 4000000 in
set_option maxRecDepth 100000 in
theorem c_X4_sellToMember (l0 : Launch) (D0 : va_G) (cI0 cJ0 : ClassId) (ad : Nat → Nat → Nat) (S : zM) (r : Nat) (hr : r < 5) (o : Int) (w : Int) (m : Int) (n : Int) (pr : Int) (h0 : 0 ≤ o ∧ o < 20) (h2 : 0 ≤ S r (55 + 22 * o) ∧ S r (55 + 22 * o) < 12) (h3 : 0 ≤ w ∧ w < 4) (h6 : 0 ≤ m ∧ m < 12) (h4 : -2147483648 ≤ n ∧ n < 2147483648) (h5 : -2147483648 ≤ pr ∧ pr < 2147483648) : Ct l0 D0 cI0 cJ0 ad yX4_sellToMember cX4_sellToMember 6 none 2 48 [.ref (ad r 0), .int (i32 o), .int (i32 w), .int (i32 m), .int (i32 n), .int (i32 pr)] S none (fun X => X = (us S r (sp_sell (S r) o w m n pr))) := by
  refine Ct.of (by decide) (Nat.le_of_ble_eq_true rfl) (fun E hE hR => ?_)
  have hE : zG E l0 D0 cI0 cJ0 ad cX4_sellToMember 6 RX4 2 48 := hE
  show Z E S 0 [(0, .ref (ad r 0)), (1, .int (i32 o)), (2, .int (i32 w)), (3, .int (i32 m)), (4, .int (i32 n)), (5, .int (i32 pr))] []
  refine z_aload_n hE 0 rfl rfl dX4_sellToMember_0 ?_
  refine gf_4_0 hE (ks_m hr (by decide)) zf_X4_12 dX4_sellToMember_1 ?_
  refine gf_1_1 hE (ks_m hr (by decide)) zf_X4_72 dX4_sellToMember_4 ?_
  refine z_iload_n hE 3 rfl rfl dX4_sellToMember_7 ?_
  refine z_dup2 hE rfl rfl dX4_sellToMember_8 ?_
  refine al_2 hE (ks_m hr (by decide)) (by omega) (by omega) dX4_sellToMember_9 ?_
  refine z_iload hE 4 rfl dX4_sellToMember_10 ?_
  refine z_iadd hE dX4_sellToMember_12 ?_
  refine as_2 hE (ks_m hr (by decide)) (by omega) (by omega) dX4_sellToMember_13 ?_
  refine z_aload_n hE 0 rfl rfl dX4_sellToMember_14 ?_
  refine gf_4_0 hE (ks_m hr (by decide)) zf_X4_12 dX4_sellToMember_15 ?_
  refine gf_1_3 hE (ks_m hr (by decide)) zf_X4_190 dX4_sellToMember_18 ?_
  refine z_iload_n hE 3 rfl rfl dX4_sellToMember_21 ?_
  refine z_dup2 hE rfl rfl dX4_sellToMember_22 ?_
  refine al_4 hE (ks_m hr (by decide)) (by omega) (by omega) dX4_sellToMember_23 ?_
  try simp only [us_eq, us_us]
  rw [up_ne (show 21 + 3 * m ≠ 19 + 3 * m by omega)]
  refine z_iload hE 5 rfl dX4_sellToMember_24 ?_
  refine z_i2l hE ⟨by omega, by omega⟩ dX4_sellToMember_26 ?_
  refine z_iload hE 4 rfl dX4_sellToMember_27 ?_
  refine z_i2l hE ⟨by omega, by omega⟩ dX4_sellToMember_29 ?_
  refine z_lmul hE dX4_sellToMember_30 ?_
  refine z_lsub hE dX4_sellToMember_31 ?_
  refine as_4 hE (ks_m hr (by decide)) (by omega) (by omega) dX4_sellToMember_32 ?_
  try simp only [us_eq, us_us]
  refine z_aload_n hE 0 rfl rfl dX4_sellToMember_33 ?_
  refine z_iload_n hE 1 rfl rfl dX4_sellToMember_34 ?_
  refine z_iload_n hE 2 rfl rfl dX4_sellToMember_35 ?_
  refine z_iload hE 4 rfl dX4_sellToMember_36 ?_
  refine z_iload hE 5 rfl dX4_sellToMember_38 ?_
  refine z_callV hE (c_X4_takeFromSeller l0 D0 cI0 cJ0 ad (us S r (up (up (S r) (19 + 3 * m) ((S r (19 + 3 * m)) + n)) (21 + 3 * m) ((S r (21 + 3 * m)) - (pr * n)))) r hr o w n pr (by omega) (by rw [us_eq, up_ne (by omega), up_ne (by omega)]; exact h2) (by omega) (by omega) (by omega)) (ks_m hr (by decide)) rfl rfl zm_X4_180 zi_yX4_takeFromSeller zs_yX4_takeFromSeller zn_RX4 zc_yX4_takeFromSeller (hy_X4_takeFromSeller) (Nat.le_of_ble_eq_true rfl) (Nat.le_of_ble_eq_true rfl) rfl rfl rfl (Nat.le_of_ble_eq_true rfl) dX4_sellToMember_40 ?_
  try simp only [us_eq, us_us]
  exact z_vret hE hR dX4_sellToMember_43 rfl (by show us S r (sp_take (up (uq (S r) (19 + 3 * m) n) (21 + 3 * m) (S r (21 + 3 * m) - pr * n)) o w n pr) = _; rw [Int.sub_eq_add_neg, uq_two (by omega)]; rfl)
theorem dX4_sellToTreasury_0 : decode cX4_sellToTreasury 0 = .ok (.aload_n 0, 1) := by decide +kernel
theorem dX4_sellToTreasury_1 : decode cX4_sellToTreasury 1 = .ok (.getfield 21, 3) := by decide +kernel
theorem dX4_sellToTreasury_4 : decode cX4_sellToTreasury 4 = .ok (.getfield 177, 3) := by decide +kernel
theorem dX4_sellToTreasury_7 : decode cX4_sellToTreasury 7 = .ok (.aload_n 0, 1) := by decide +kernel
theorem dX4_sellToTreasury_8 : decode cX4_sellToTreasury 8 = .ok (.getfield 46, 3) := by decide +kernel
theorem dX4_sellToTreasury_11 : decode cX4_sellToTreasury 11 = .ok (.isub, 1) := by decide +kernel
theorem dX4_sellToTreasury_12 : decode cX4_sellToTreasury 12 = .ok (.iconst 0, 1) := by decide +kernel
theorem dX4_sellToTreasury_13 : decode cX4_sellToTreasury 13 = .ok (.invokestatic 93, 3) := by decide +kernel
theorem dX4_sellToTreasury_16 : decode cX4_sellToTreasury 16 = .ok (.istore_n 2, 1) := by decide +kernel
theorem dX4_sellToTreasury_17 : decode cX4_sellToTreasury 17 = .ok (.aload_n 0, 1) := by decide +kernel
theorem dX4_sellToTreasury_18 : decode cX4_sellToTreasury 18 = .ok (.getfield 35, 3) := by decide +kernel
theorem dX4_sellToTreasury_21 : decode cX4_sellToTreasury 21 = .ok (.getfield 137, 3) := by decide +kernel
theorem dX4_sellToTreasury_24 : decode cX4_sellToTreasury 24 = .ok (.iload_n 1, 1) := by decide +kernel
theorem dX4_sellToTreasury_25 : decode cX4_sellToTreasury 25 = .ok (.iaload, 1) := by decide +kernel
theorem dX4_sellToTreasury_26 : decode cX4_sellToTreasury 26 = .ok (.iload_n 2, 1) := by decide +kernel
theorem dX4_sellToTreasury_27 : decode cX4_sellToTreasury 27 = .ok (.invokestatic 161, 3) := by decide +kernel
theorem dX4_sellToTreasury_30 : decode cX4_sellToTreasury 30 = .ok (.istore_n 3, 1) := by decide +kernel
theorem dX4_sellToTreasury_31 : decode cX4_sellToTreasury 31 = .ok (.aload_n 0, 1) := by decide +kernel
theorem dX4_sellToTreasury_32 : decode cX4_sellToTreasury 32 = .ok (.dup, 1) := by decide +kernel
theorem dX4_sellToTreasury_33 : decode cX4_sellToTreasury 33 = .ok (.getfield 46, 3) := by decide +kernel
theorem dX4_sellToTreasury_36 : decode cX4_sellToTreasury 36 = .ok (.iload_n 3, 1) := by decide +kernel
theorem dX4_sellToTreasury_37 : decode cX4_sellToTreasury 37 = .ok (.iadd, 1) := by decide +kernel
theorem dX4_sellToTreasury_38 : decode cX4_sellToTreasury 38 = .ok (.putfield 46, 3) := by decide +kernel
theorem dX4_sellToTreasury_41 : decode cX4_sellToTreasury 41 = .ok (.aload_n 0, 1) := by decide +kernel
theorem dX4_sellToTreasury_42 : decode cX4_sellToTreasury 42 = .ok (.iload_n 1, 1) := by decide +kernel
theorem dX4_sellToTreasury_43 : decode cX4_sellToTreasury 43 = .ok (.iconst 2, 1) := by decide +kernel
theorem dX4_sellToTreasury_44 : decode cX4_sellToTreasury 44 = .ok (.iload_n 3, 1) := by decide +kernel
theorem dX4_sellToTreasury_45 : decode cX4_sellToTreasury 45 = .ok (.aload_n 0, 1) := by decide +kernel
theorem dX4_sellToTreasury_46 : decode cX4_sellToTreasury 46 = .ok (.getfield 28, 3) := by decide +kernel
theorem dX4_sellToTreasury_49 : decode cX4_sellToTreasury 49 = .ok (.getfield 170, 3) := by decide +kernel
theorem dX4_sellToTreasury_52 : decode cX4_sellToTreasury 52 = .ok (.invokevirtual 180, 3) := by decide +kernel
theorem dX4_sellToTreasury_55 : decode cX4_sellToTreasury 55 = .ok (.return_, 1) := by decide +kernel
theorem hy_X4_sellToTreasury : yX4_sellToTreasury.cls ≠ "java/lang/invoke/MethodHandle" ∧ yX4_sellToTreasury.cls ≠ "java/lang/invoke/VarHandle" ∧ (parseMethodDescriptor yX4_sellToTreasury.desc).map (fun d => d.parameters.length) = some 1 := ⟨by decide +kernel, by decide +kernel, by decide +kernel⟩
set_option maxHeartbeats 4000000 in
set_option maxRecDepth 100000 in
theorem c_X4_sellToTreasury (l0 : Launch) (D0 : va_G) (cI0 cJ0 : ClassId) (ad : Nat → Nat → Nat) (S : zM) (r : Nat) (hr : r < 5) (o : Int) (hI : Inv0 (S r)) (h1 : 0 ≤ o ∧ o < S r 14) : Ct l0 D0 cI0 cJ0 ad yX4_sellToTreasury cX4_sellToTreasury 4 none 2 48 [.ref (ad r 0), .int (i32 o)] S none (fun X => X = (us S r (sp_tre (S r) o))) := by
  refine Ct.of (by decide) (Nat.le_of_ble_eq_true rfl) (fun E hE hR => ?_)
  have hE : zG E l0 D0 cI0 cJ0 ad cX4_sellToTreasury 4 RX4 2 48 := hE
  show Z E S 0 [(0, .ref (ad r 0)), (1, .int (i32 o))] []
  have hA := inA hI
  unfold InvA at hA
  have ho := inO hI o h1.1 h1.2
  have ht := inTr hI
  refine z_aload_n hE 0 rfl rfl dX4_sellToTreasury_0 ?_
  refine gf_4_1 hE (ks_m hr (by decide)) zf_X4_21 dX4_sellToTreasury_1 ?_
  refine gf_5_1 hE (ks_m hr (by decide)) zf_X4_177 dX4_sellToTreasury_4 ?_
  refine z_aload_n hE 0 rfl rfl dX4_sellToTreasury_7 ?_
  refine gf_4_5 hE (ks_m hr (by decide)) zf_X4_46 dX4_sellToTreasury_8 ?_
  refine z_isub hE dX4_sellToTreasury_11 ?_
  refine z_iconst hE dX4_sellToTreasury_12 ?_
  refine z_max hE zm_X4_93 (by decide) (Nat.le_of_ble_eq_true rfl) ⟨by omega, by omega⟩ ⟨by omega, by omega⟩ dX4_sellToTreasury_13 ?_
  refine z_istore_n hE rfl (by decide) rfl dX4_sellToTreasury_16 ?_
  refine z_aload_n hE 1 rfl rfl dX4_sellToTreasury_17 ?_
  refine gf_4_3 hE (ks_m hr (by decide)) zf_X4_35 dX4_sellToTreasury_18 ?_
  refine gf_3_4 hE (ks_m hr (by decide)) zf_X4_137 dX4_sellToTreasury_21 ?_
  refine z_iload_n hE 2 rfl rfl dX4_sellToTreasury_24 ?_
  refine al_12 hE (ks_m hr (by decide)) (by omega) (by omega) dX4_sellToTreasury_25 ?_
  refine z_iload_n hE 0 rfl rfl dX4_sellToTreasury_26 ?_
  refine z_min hE zm_X4_161 (by decide) (Nat.le_of_ble_eq_true rfl) ⟨by omega, by omega⟩ ⟨by omega, by omega⟩ dX4_sellToTreasury_27 ?_
  refine z_istore_n hE rfl (by decide) rfl dX4_sellToTreasury_30 ?_
  refine z_aload_n hE 2 rfl rfl dX4_sellToTreasury_31 ?_
  refine z_dup hE rfl dX4_sellToTreasury_32 ?_
  refine gf_4_5 hE (ks_m hr (by decide)) zf_X4_46 dX4_sellToTreasury_33 ?_
  refine z_iload_n hE 0 rfl rfl dX4_sellToTreasury_36 ?_
  refine z_iadd hE dX4_sellToTreasury_37 ?_
  refine pf_4_5 hE (ks_m hr (by decide)) zf_X4_46 dX4_sellToTreasury_38 ?_
  refine z_aload_n hE 2 rfl rfl dX4_sellToTreasury_41 ?_
  refine z_iload_n hE 3 rfl rfl dX4_sellToTreasury_42 ?_
  refine z_iconst hE dX4_sellToTreasury_43 ?_
  refine z_iload_n hE 0 rfl rfl dX4_sellToTreasury_44 ?_
  refine z_aload_n hE 2 rfl rfl dX4_sellToTreasury_45 ?_
  refine gf_4_2 hE (ks_m hr (by decide)) zf_X4_28 dX4_sellToTreasury_46 ?_
  refine gf_0_2 hE (ks_m hr (by decide)) zf_X4_170 dX4_sellToTreasury_49 ?_
  try simp only [us_eq, us_us]
  rw [up_ne (show 6 ≠ 2 by omega)]
  refine z_callV hE (c_X4_takeFromSeller l0 D0 cI0 cJ0 ad (us S r (up (S r) 2 ((S r 2) + (min (S r (57 + 22 * o)) (max ((S r 3) - (S r 2)) 0))))) r hr o 2 (min (S r (57 + 22 * o)) (max ((S r 3) - (S r 2)) 0)) (S r 6) (by omega) (by rw [us_eq, up_ne (by omega)]; omega) (by omega) (by omega) (by omega)) (ks_m hr (by decide)) rfl rfl zm_X4_180 zi_yX4_takeFromSeller zs_yX4_takeFromSeller zn_RX4 zc_yX4_takeFromSeller (hy_X4_takeFromSeller) (Nat.le_of_ble_eq_true rfl) (Nat.le_of_ble_eq_true rfl) rfl rfl rfl (Nat.le_of_ble_eq_true rfl) dX4_sellToTreasury_52 ?_
  try simp only [us_eq, us_us]
  exact z_vret hE hR dX4_sellToTreasury_55 rfl (by rfl)
theorem dX4_sellToBuyer_0 : decode cX4_sellToBuyer 0 = .ok (.aload_n 0, 1) := by decide +kernel
theorem dX4_sellToBuyer_1 : decode cX4_sellToBuyer 1 = .ok (.getfield 35, 3) := by decide +kernel
theorem dX4_sellToBuyer_4 : decode cX4_sellToBuyer 4 = .ok (.getfield 184, 3) := by decide +kernel
theorem dX4_sellToBuyer_7 : decode cX4_sellToBuyer 7 = .ok (.iload_n 1, 1) := by decide +kernel
theorem dX4_sellToBuyer_8 : decode cX4_sellToBuyer 8 = .ok (.iaload, 1) := by decide +kernel
theorem dX4_sellToBuyer_9 : decode cX4_sellToBuyer 9 = .ok (.istore_n 2, 1) := by decide +kernel
theorem dX4_sellToBuyer_10 : decode cX4_sellToBuyer 10 = .ok (.aload_n 0, 1) := by decide +kernel
theorem dX4_sellToBuyer_11 : decode cX4_sellToBuyer 11 = .ok (.getfield 35, 3) := by decide +kernel
theorem dX4_sellToBuyer_14 : decode cX4_sellToBuyer 14 = .ok (.getfield 137, 3) := by decide +kernel
theorem dX4_sellToBuyer_17 : decode cX4_sellToBuyer 17 = .ok (.iload_n 1, 1) := by decide +kernel
theorem dX4_sellToBuyer_18 : decode cX4_sellToBuyer 18 = .ok (.iaload, 1) := by decide +kernel
theorem dX4_sellToBuyer_19 : decode cX4_sellToBuyer 19 = .ok (.aload_n 0, 1) := by decide +kernel
theorem dX4_sellToBuyer_20 : decode cX4_sellToBuyer 20 = .ok (.iload_n 2, 1) := by decide +kernel
theorem dX4_sellToBuyer_21 : decode cX4_sellToBuyer 21 = .ok (.invokevirtual 158, 3) := by decide +kernel
theorem dX4_sellToBuyer_24 : decode cX4_sellToBuyer 24 = .ok (.invokestatic 161, 3) := by decide +kernel
theorem dX4_sellToBuyer_27 : decode cX4_sellToBuyer 27 = .ok (.istore_n 3, 1) := by decide +kernel
theorem dX4_sellToBuyer_28 : decode cX4_sellToBuyer 28 = .ok (.aload_n 0, 1) := by decide +kernel
theorem dX4_sellToBuyer_29 : decode cX4_sellToBuyer 29 = .ok (.iload_n 1, 1) := by decide +kernel
theorem dX4_sellToBuyer_30 : decode cX4_sellToBuyer 30 = .ok (.iconst 3, 1) := by decide +kernel
theorem dX4_sellToBuyer_31 : decode cX4_sellToBuyer 31 = .ok (.iload_n 2, 1) := by decide +kernel
theorem dX4_sellToBuyer_32 : decode cX4_sellToBuyer 32 = .ok (.iload_n 3, 1) := by decide +kernel
theorem dX4_sellToBuyer_33 : decode cX4_sellToBuyer 33 = .ok (.aload_n 0, 1) := by decide +kernel
theorem dX4_sellToBuyer_34 : decode cX4_sellToBuyer 34 = .ok (.getfield 35, 3) := by decide +kernel
theorem dX4_sellToBuyer_37 : decode cX4_sellToBuyer 37 = .ok (.getfield 187, 3) := by decide +kernel
theorem dX4_sellToBuyer_40 : decode cX4_sellToBuyer 40 = .ok (.iload_n 1, 1) := by decide +kernel
theorem dX4_sellToBuyer_41 : decode cX4_sellToBuyer 41 = .ok (.iaload, 1) := by decide +kernel
theorem dX4_sellToBuyer_42 : decode cX4_sellToBuyer 42 = .ok (.invokevirtual 173, 3) := by decide +kernel
theorem dX4_sellToBuyer_45 : decode cX4_sellToBuyer 45 = .ok (.return_, 1) := by decide +kernel
theorem hy_X4_sellToBuyer : yX4_sellToBuyer.cls ≠ "java/lang/invoke/MethodHandle" ∧ yX4_sellToBuyer.cls ≠ "java/lang/invoke/VarHandle" ∧ (parseMethodDescriptor yX4_sellToBuyer.desc).map (fun d => d.parameters.length) = some 1 := ⟨by decide +kernel, by decide +kernel, by decide +kernel⟩
set_option maxHeartbeats 4000000 in
set_option maxRecDepth 100000 in
theorem c_X4_sellToBuyer (l0 : Launch) (D0 : va_G) (cI0 cJ0 : ClassId) (ad : Nat → Nat → Nat) (S : zM) (r : Nat) (hr : r < 5) (o : Int) (hI : Inv0 (S r)) (h1 : 0 ≤ o ∧ o < S r 14) : Ct l0 D0 cI0 cJ0 ad yX4_sellToBuyer cX4_sellToBuyer 4 none 3 73 [.ref (ad r 0), .int (i32 o)] S none (fun X => X = (us S r (sp_toB (S r) o))) := by
  refine Ct.of (by decide) (Nat.le_of_ble_eq_true rfl) (fun E hE hR => ?_)
  have hE : zG E l0 D0 cI0 cJ0 ad cX4_sellToBuyer 4 RX4 3 73 := hE
  show Z E S 0 [(0, .ref (ad r 0)), (1, .int (i32 o))] []
  have hA := inA hI
  unfold InvA at hA
  have ho := inO hI o h1.1 h1.2
  have hro := room_b hI (m := S r (56 + 22 * o)) (by omega) (by omega)
  refine z_aload_n hE 0 rfl rfl dX4_sellToBuyer_0 ?_
  refine gf_4_3 hE (ks_m hr (by decide)) zf_X4_35 dX4_sellToBuyer_1 ?_
  refine gf_3_2 hE (ks_m hr (by decide)) zf_X4_184 dX4_sellToBuyer_4 ?_
  refine z_iload_n hE 1 rfl rfl dX4_sellToBuyer_7 ?_
  refine al_10 hE (ks_m hr (by decide)) (by omega) (by omega) dX4_sellToBuyer_8 ?_
  refine z_istore_n hE rfl (by decide) rfl dX4_sellToBuyer_9 ?_
  refine z_aload_n hE 1 rfl rfl dX4_sellToBuyer_10 ?_
  refine gf_4_3 hE (ks_m hr (by decide)) zf_X4_35 dX4_sellToBuyer_11 ?_
  refine gf_3_4 hE (ks_m hr (by decide)) zf_X4_137 dX4_sellToBuyer_14 ?_
  refine z_iload_n hE 2 rfl rfl dX4_sellToBuyer_17 ?_
  refine al_12 hE (ks_m hr (by decide)) (by omega) (by omega) dX4_sellToBuyer_18 ?_
  refine z_aload_n hE 1 rfl rfl dX4_sellToBuyer_19 ?_
  refine z_iload_n hE 0 rfl rfl dX4_sellToBuyer_20 ?_
  refine z_callV hE (c_X4_roomOf l0 D0 cI0 cJ0 ad S r hr (S r (56 + 22 * o)) hI (by omega)) (ks_m hr (by decide)) rfl rfl zm_X4_158 zi_yX4_roomOf zs_yX4_roomOf zn_RX4 zc_yX4_roomOf (hy_X4_roomOf) (Nat.le_of_ble_eq_true rfl) (Nat.le_of_ble_eq_true rfl) rfl rfl rfl (Nat.le_of_ble_eq_true rfl) dX4_sellToBuyer_21 ?_
  refine z_min hE zm_X4_161 (by decide) (Nat.le_of_ble_eq_true rfl) ⟨by omega, by omega⟩ ⟨by omega, by omega⟩ dX4_sellToBuyer_24 ?_
  refine z_istore_n hE rfl (by decide) rfl dX4_sellToBuyer_27 ?_
  refine z_aload_n hE 2 rfl rfl dX4_sellToBuyer_28 ?_
  refine z_iload_n hE 3 rfl rfl dX4_sellToBuyer_29 ?_
  refine z_iconst hE dX4_sellToBuyer_30 ?_
  refine z_iload_n hE 1 rfl rfl dX4_sellToBuyer_31 ?_
  refine z_iload_n hE 0 rfl rfl dX4_sellToBuyer_32 ?_
  refine z_aload_n hE 2 rfl rfl dX4_sellToBuyer_33 ?_
  refine gf_4_3 hE (ks_m hr (by decide)) zf_X4_35 dX4_sellToBuyer_34 ?_
  refine gf_3_3 hE (ks_m hr (by decide)) zf_X4_187 dX4_sellToBuyer_37 ?_
  refine z_iload_n hE 3 rfl rfl dX4_sellToBuyer_40 ?_
  refine al_11 hE (ks_m hr (by decide)) (by omega) (by omega) dX4_sellToBuyer_41 ?_
  refine z_callV hE (c_X4_sellToMember l0 D0 cI0 cJ0 ad S r hr o 3 (S r (56 + 22 * o)) (min (S r (57 + 22 * o)) (sp_room ((S r)) (S r (56 + 22 * o)))) (S r (58 + 22 * o)) (by omega) (by omega) (by omega) (by omega) (by omega) (by omega)) (ks_m hr (by decide)) rfl rfl zm_X4_173 zi_yX4_sellToMember zs_yX4_sellToMember zn_RX4 zc_yX4_sellToMember (hy_X4_sellToMember) (Nat.le_of_ble_eq_true rfl) (Nat.le_of_ble_eq_true rfl) rfl rfl rfl (Nat.le_of_ble_eq_true rfl) dX4_sellToBuyer_42 ?_
  exact z_vret hE hR dX4_sellToBuyer_45 rfl (by rfl)
theorem sell_ne {s : Int → Int} {o w m n pr q : Int} (h1 : ∀ x : Int, q ≠ 19 + 3 * x) (h2 : ∀ x : Int, q ≠ 21 + 3 * x) (h3 : q ≠ 57 + 22 * o) (h4 : q ≠ 61 + 22 * o + w) : sp_sell s o w m n pr q = s q := by
  unfold sp_sell sp_take sp_buy
  rw [uq_ne h4, uq_ne h3, uq_ne (h2 _), uq_ne (h1 _), uq_ne (h2 _), uq_ne (h1 _)]
/-- a place outside the members' shares and accounts and outside the offer's remains and sales -/
theorem sell_keep {s : Int → Int} {o w m n pr q : Int} (hs : 0 ≤ s (55 + 22 * o) ∧ s (55 + 22 * o) < 12) (hm : 0 ≤ m ∧ m < 12) (ho : 0 ≤ o) (h1 : q < 19 ∨ 55 ≤ q ∨ (q - 19) % 3 = 1) (h3 : q ≠ 57 + 22 * o) (h4 : q ≠ 61 + 22 * o + w) : sp_sell s o w m n pr q = s q := by
  unfold sp_sell sp_take
  have e : sp_buy s m n pr (55 + 22 * o) = s (55 + 22 * o) := by
    unfold sp_buy
    rw [uq_ne (by omega), uq_ne (by omega)]
  rw [uq_ne h4, uq_ne h3, e, uq_ne (by omega), uq_ne (by omega)]
  unfold sp_buy
  rw [uq_ne (by omega), uq_ne (by omega)]
theorem sells_keep {g : Int → Int} {o st : Int} {s : Int → Int} (hs : 0 ≤ s (55 + 22 * o) ∧ s (55 + 22 * o) < 12) (ho : 0 ≤ o) (hst : 0 ≤ st ∧ st < 4) : ∀ {n : Nat} {q : Int}, n ≤ 12 → (q < 19 ∨ 55 ≤ q ∨ (q - 19) % 3 = 1) → q ≠ 57 + 22 * o → q ≠ 61 + 22 * o + st → sp_sells g o st s n q = s q
  | 0, _, _, _, _, _ => rfl
  | n + 1, q, hn, h1, h3, h4 => by
    show sp_sell _ o st n (g n) _ q = s q
    have ih : sp_sells g o st s n (55 + 22 * o) = s (55 + 22 * o) := sells_keep hs ho hst (by omega) (by omega) (by omega) (by omega)
    rw [sell_keep (by rw [ih]; exact hs) (by omega) ho h1 h3 h4]
    exact sells_keep hs ho hst (by omega) h1 h3 h4
theorem sells_s {g : Int → Int} {o st i : Int} {s : Int → Int} (h : 0 ≤ i) : sp_sells g o st s (i + 1).toNat = sp_sell (sp_sells g o st s i.toNat) o st i (g i) (sp_sells g o st s i.toNat 6) := by
  rw [show (i + 1).toNat = i.toNat + 1 by omega]
  show sp_sell (sp_sells g o st s i.toNat) o st (i.toNat : Int) (g (i.toNat : Int)) (sp_sells g o st s i.toNat 6) = _
  rw [Int.toNat_of_nonneg h]
theorem gd_1 {g d : Int → Int} {i v : Int} (hv : v = d i) (h0 : 0 ≤ i) (hi : i < 12) (hg : ∀ k : Int, 0 ≤ k → k < i → g (100 + k) = d k) : ∀ k : Int, 0 ≤ k → k < i + 1 → up g (100 + i) v (100 + k) = d k := by
  intro k h1 h2
  by_cases e : k = i
  · rw [e, up_eq]; exact hv
  · rw [up_ne (by omega)]; exact hg k h1 (by omega)
theorem sells_cg {g g2 : Int → Int} {o st : Int} {s : Int → Int} : ∀ {n : Nat}, n ≤ 12 → (∀ k : Int, 0 ≤ k → k < 12 → g k = g2 k) → sp_sells g o st s n = sp_sells g2 o st s n
  | 0, _, _ => rfl
  | n + 1, hn, h => by
    show sp_sell _ o st n (g n) _ = sp_sell _ o st n (g2 n) _
    rw [sells_cg (n := n) (by omega) h, h n (by omega) (by omega)]
theorem gets_cg {d d2 : Int → Int} {w : Int} (h : ∀ k : Int, 0 ≤ k → k < 12 → d k = d2 k) : ∀ k : Int, 0 ≤ k → k < 12 → sp_gets d w k = sp_gets d2 w k := by
  intro k h0 h1
  have e : sm d 12 = sm d2 12 := sm_cg h
  have hq : ∀ k : Int, 0 ≤ k → k < 12 → sp_quo d w k = sp_quo d2 w k := fun k a b => by unfold sp_quo; rw [h k a b, e]
  have hl : sp_left d w = sp_left d2 w := by unfold sp_left; rw [sm_cg hq]
  unfold sp_gets
  rw [e]
  split
  · exact h k h0 h1
  · rw [hl]
    exact hnd_cg hq (fun k a b => by unfold sp_rst; rw [h k a b, e]) k h0 h1
theorem gets_b {d : Int → Int} {w : Int} (hd : ∀ k : Int, 0 ≤ k → k < 12 → 0 ≤ d k ∧ d k ≤ 1000) (hw : 0 ≤ w ∧ w ≤ 1000) : ∀ k : Int, 0 ≤ k → k < 12 → 0 ≤ sp_gets d w k ∧ sp_gets d w k ≤ 1001000 := by
  intro k h0 h1
  unfold sp_gets
  split
  · have := hd k h0 h1; omega
  · rename_i hA
    have hl := left_b hd hw (by omega)
    have key : ∀ (n : Nat) (g r : Int → Int) (a : Int), (∀ k : Int, 0 ≤ k → k < 12 → 0 ≤ g k ∧ g k ≤ a) → ∀ k : Int, 0 ≤ k → k < 12 → 0 ≤ hnd (-1) n g r k ∧ hnd (-1) n g r k ≤ a + n := by
      intro n
      induction n with
      | zero => intro g r a h k h0 h1; have := h k h0 h1; show 0 ≤ g k ∧ g k ≤ _; omega
      | succ n ih =>
        intro g r a h k h0 h1
        have hb := bst_b r 11
        have h3 := h _ hb.1 (by omega)
        have := ih (up g (bst r 11) (g (bst r 11) + 1)) (up r (bst r 11) (-1)) (a + 1) (fun k h0 h1 => by
          have := h k h0 h1
          unfold up; split <;> omega) k h0 h1
        show 0 ≤ hnd (-1) n _ _ k ∧ hnd (-1) n _ _ k ≤ _
        omega
    have := key (sp_left d w).toNat (sp_quo d w) (sp_rst d w) 1000000 (fun k a b => (quo_b hd hw (by omega) a b).2.1) k h0 h1
    omega
theorem dX4_sellToClaimants_0 : decode cX4_sellToClaimants 0 = .ok (.iconst 0, 1) := by decide +kernel
theorem dX4_sellToClaimants_1 : decode cX4_sellToClaimants 1 = .ok (.istore 4, 2) := by decide +kernel
theorem dX4_sellToClaimants_3 : decode cX4_sellToClaimants 3 = .ok (.iload 4, 2) := by decide +kernel
theorem dX4_sellToClaimants_5 : decode cX4_sellToClaimants 5 = .ok (.bipush 12, 2) := by decide +kernel
theorem dX4_sellToClaimants_7 : decode cX4_sellToClaimants 7 = .ok (.if_icmp .ge 35, 3) := by decide +kernel
theorem dX4_sellToClaimants_10 : decode cX4_sellToClaimants 10 = .ok (.aload_n 3, 1) := by decide +kernel
theorem dX4_sellToClaimants_11 : decode cX4_sellToClaimants 11 = .ok (.getfield 150, 3) := by decide +kernel
theorem dX4_sellToClaimants_14 : decode cX4_sellToClaimants 14 = .ok (.iload 4, 2) := by decide +kernel
theorem dX4_sellToClaimants_16 : decode cX4_sellToClaimants 16 = .ok (.aload_n 0, 1) := by decide +kernel
theorem dX4_sellToClaimants_17 : decode cX4_sellToClaimants 17 = .ok (.getfield 35, 3) := by decide +kernel
theorem dX4_sellToClaimants_20 : decode cX4_sellToClaimants 20 = .ok (.iload_n 1, 1) := by decide +kernel
theorem dX4_sellToClaimants_21 : decode cX4_sellToClaimants 21 = .ok (.iload 4, 2) := by decide +kernel
theorem dX4_sellToClaimants_23 : decode cX4_sellToClaimants 23 = .ok (.invokevirtual 155, 3) := by decide +kernel
theorem dX4_sellToClaimants_26 : decode cX4_sellToClaimants 26 = .ok (.aload_n 0, 1) := by decide +kernel
theorem dX4_sellToClaimants_27 : decode cX4_sellToClaimants 27 = .ok (.iload 4, 2) := by decide +kernel
theorem dX4_sellToClaimants_29 : decode cX4_sellToClaimants 29 = .ok (.invokevirtual 158, 3) := by decide +kernel
theorem dX4_sellToClaimants_32 : decode cX4_sellToClaimants 32 = .ok (.invokestatic 161, 3) := by decide +kernel
theorem dX4_sellToClaimants_35 : decode cX4_sellToClaimants 35 = .ok (.iastore, 1) := by decide +kernel
theorem dX4_sellToClaimants_36 : decode cX4_sellToClaimants 36 = .ok (.iinc 4 1, 3) := by decide +kernel
theorem dX4_sellToClaimants_39 : decode cX4_sellToClaimants 39 = .ok (.goto (-36), 3) := by decide +kernel
theorem dX4_sellToClaimants_42 : decode cX4_sellToClaimants 42 = .ok (.aload_n 3, 1) := by decide +kernel
theorem dX4_sellToClaimants_43 : decode cX4_sellToClaimants 43 = .ok (.aload_n 0, 1) := by decide +kernel
theorem dX4_sellToClaimants_44 : decode cX4_sellToClaimants 44 = .ok (.getfield 35, 3) := by decide +kernel
theorem dX4_sellToClaimants_47 : decode cX4_sellToClaimants 47 = .ok (.getfield 137, 3) := by decide +kernel
theorem dX4_sellToClaimants_50 : decode cX4_sellToClaimants 50 = .ok (.iload_n 1, 1) := by decide +kernel
theorem dX4_sellToClaimants_51 : decode cX4_sellToClaimants 51 = .ok (.iaload, 1) := by decide +kernel
theorem dX4_sellToClaimants_52 : decode cX4_sellToClaimants 52 = .ok (.invokevirtual 164, 3) := by decide +kernel
theorem dX4_sellToClaimants_55 : decode cX4_sellToClaimants 55 = .ok (.iconst 0, 1) := by decide +kernel
theorem dX4_sellToClaimants_56 : decode cX4_sellToClaimants 56 = .ok (.istore 4, 2) := by decide +kernel
theorem dX4_sellToClaimants_58 : decode cX4_sellToClaimants 58 = .ok (.iload 4, 2) := by decide +kernel
theorem dX4_sellToClaimants_60 : decode cX4_sellToClaimants 60 = .ok (.bipush 12, 2) := by decide +kernel
theorem dX4_sellToClaimants_62 : decode cX4_sellToClaimants 62 = .ok (.if_icmp .ge 31, 3) := by decide +kernel
theorem dX4_sellToClaimants_65 : decode cX4_sellToClaimants 65 = .ok (.aload_n 0, 1) := by decide +kernel
theorem dX4_sellToClaimants_66 : decode cX4_sellToClaimants 66 = .ok (.iload_n 1, 1) := by decide +kernel
theorem dX4_sellToClaimants_67 : decode cX4_sellToClaimants 67 = .ok (.iload_n 2, 1) := by decide +kernel
theorem dX4_sellToClaimants_68 : decode cX4_sellToClaimants 68 = .ok (.iload 4, 2) := by decide +kernel
theorem dX4_sellToClaimants_70 : decode cX4_sellToClaimants 70 = .ok (.aload_n 3, 1) := by decide +kernel
theorem dX4_sellToClaimants_71 : decode cX4_sellToClaimants 71 = .ok (.getfield 167, 3) := by decide +kernel
theorem dX4_sellToClaimants_74 : decode cX4_sellToClaimants 74 = .ok (.iload 4, 2) := by decide +kernel
theorem dX4_sellToClaimants_76 : decode cX4_sellToClaimants 76 = .ok (.iaload, 1) := by decide +kernel
theorem dX4_sellToClaimants_77 : decode cX4_sellToClaimants 77 = .ok (.aload_n 0, 1) := by decide +kernel
theorem dX4_sellToClaimants_78 : decode cX4_sellToClaimants 78 = .ok (.getfield 28, 3) := by decide +kernel
theorem dX4_sellToClaimants_81 : decode cX4_sellToClaimants 81 = .ok (.getfield 170, 3) := by decide +kernel
theorem dX4_sellToClaimants_84 : decode cX4_sellToClaimants 84 = .ok (.invokevirtual 173, 3) := by decide +kernel
theorem dX4_sellToClaimants_87 : decode cX4_sellToClaimants 87 = .ok (.iinc 4 1, 3) := by decide +kernel
theorem dX4_sellToClaimants_90 : decode cX4_sellToClaimants 90 = .ok (.goto (-32), 3) := by decide +kernel
theorem dX4_sellToClaimants_93 : decode cX4_sellToClaimants 93 = .ok (.return_, 1) := by decide +kernel
theorem hy_X4_sellToClaimants : yX4_sellToClaimants.cls ≠ "java/lang/invoke/MethodHandle" ∧ yX4_sellToClaimants.cls ≠ "java/lang/invoke/VarHandle" ∧ (parseMethodDescriptor yX4_sellToClaimants.desc).map (fun d => d.parameters.length) = some 3 := ⟨by decide +kernel, by decide +kernel, by decide +kernel⟩
set_option maxHeartbeats 4000000 in
set_option maxRecDepth 100000 in
theorem lp_X4_sellToClaimants_b {E : zE} {l0 : Launch} {D0 : va_G} {cI0 cJ0 : ClassId} {ad : Nat → Nat → Nat} (hE : zG E l0 D0 cI0 cJ0 ad cX4_sellToClaimants 5 RX4 3 73) (S : zM) (r : Nat) (hr : r < 5) (o : Int) (st : Int) (hI : Inv0 (S r)) (h1 : 0 ≤ o ∧ o < S r 14) (h2 : 0 ≤ st ∧ st < 2) (hR : zR E none none (fun X => ∃ g : Int → Int, X = us (us S 5 g) r (sp_clm (S r) o st) ∧ ∀ q : Int, q < 100 → g q = S 5 q)) : ∀ (fuel : Nat) (i : Int) (g : Int → Int) (h9 : 0 ≤ i ∧ i ≤ 12) (hg : ∀ k : Int, 0 ≤ k → k < 12 → g (200 + k) = sp_gets (sp_dem (S r) o) (S r (57 + 22 * o)) k) (hq : ∀ q : Int, q < 100 → g q = S 5 q), (12 - i).toNat < fuel → Z E (us (us S 5 g) r (sp_sells (sp_gets (sp_dem (S r) o) (S r (57 + 22 * o))) o st (S r) i.toNat)) 58 [(4, .int (i32 i)), (0, .ref (ad r 0)), (1, .int (i32 o)), (2, .int (i32 st)), (3, .ref (ad 5 23))] [] := by
  intro fuel
  induction fuel with
  | zero => intro _ _ _ _ _ hz; omega
  | succ fuel ih =>
    intro i g h9 hg hq hz
    have hA := inA hI
    unfold InvA at hA
    have ho := inO hI o h1.1 h1.2
    have h5 : r ≠ 5 := by omega
    have h5b : 5 ≠ r := by omega
    refine z_iload hE 0 rfl dX4_sellToClaimants_58 ?_
    refine z_bipush (a := 12) hE (by decide) dX4_sellToClaimants_60 ?_
    refine z_icmp_ge (tgt := 93) hE dX4_sellToClaimants_62 (by decide) ⟨by omega, by omega⟩ ⟨by omega, by omega⟩ (fun c1 => ?_) (fun c1 => ?_)
    · exact z_vret hE hR dX4_sellToClaimants_93 rfl (by exact ⟨g, by rw [show i = 12 by omega]; rfl, hq⟩)
    · have hk := fun q => sells_keep (g := sp_gets (sp_dem (S r) o) (S r (57 + 22 * o))) (o := o) (st := st) (s := S r) ⟨by omega, by omega⟩ (by omega) ⟨by omega, by omega⟩ (n := i.toNat) (q := q) (by omega)
      have hgb := gets_b (d := sp_dem (S r) o) (w := S r (57 + 22 * o)) (fun k a b => dem_b hI (by omega) (by omega) a b) ⟨by omega, by omega⟩ i h9.1 (by omega)
      refine z_aload_n hE 1 rfl rfl dX4_sellToClaimants_65 ?_
      refine z_iload_n hE 2 rfl rfl dX4_sellToClaimants_66 ?_
      refine z_iload_n hE 3 rfl rfl dX4_sellToClaimants_67 ?_
      refine z_iload hE 0 rfl dX4_sellToClaimants_68 ?_
      refine z_aload_n hE 4 rfl rfl dX4_sellToClaimants_70 ?_
      refine gf_6_1 hE (by decide) zf_X4_167 dX4_sellToClaimants_71 ?_
      refine z_iload hE 0 rfl dX4_sellToClaimants_74 ?_
      refine al_25 hE (by decide) (by omega) (by omega) dX4_sellToClaimants_76 ?_
      try simp only [us_eq, us_us, us_ne h5, us_ne h5b, us_in h5b]
      rw [hg i h9.1 (by omega)]
      refine z_aload_n hE 1 rfl rfl dX4_sellToClaimants_77 ?_
      refine gf_4_2 hE (ks_m hr (by decide)) zf_X4_28 dX4_sellToClaimants_78 ?_
      refine gf_0_2 hE (ks_m hr (by decide)) zf_X4_170 dX4_sellToClaimants_81 ?_
      try simp only [us_eq, us_us, us_ne h5, us_ne h5b, us_in h5b]
      rw [hk 6 (by omega) (by omega) (by omega)]
      refine z_callV hE (c_X4_sellToMember l0 D0 cI0 cJ0 ad (us (us S 5 g) r (sp_sells (sp_gets (sp_dem (S r) o) (S r (57 + 22 * o))) o st (S r) i.toNat)) r hr o st i (sp_gets (sp_dem (S r) o) (S r (57 + 22 * o)) i) (S r 6) (by omega) (by rw [us_eq, hk _ (by omega) (by omega) (by omega)]; omega) (by omega) (by omega) (by omega) (by omega)) (ks_m hr (by decide)) rfl rfl zm_X4_173 zi_yX4_sellToMember zs_yX4_sellToMember zn_RX4 zc_yX4_sellToMember (hy_X4_sellToMember) (Nat.le_of_ble_eq_true rfl) (Nat.le_of_ble_eq_true rfl) rfl rfl rfl (Nat.le_of_ble_eq_true rfl) dX4_sellToClaimants_84 ?_
      try simp only [us_eq, us_us, us_ne h5, us_ne h5b, us_in h5b]
      refine z_iinc hE 0 rfl (by decide) rfl dX4_sellToClaimants_87 ?_
      refine z_goto (tgt := 58) hE (d := dX4_sellToClaimants_90) (ht := by decide) ?_
      refine z_L (L' := [(4, .int (i32 (i + 1))), (0, .ref (ad r 0)), (1, .int (i32 o)), (2, .int (i32 st)), (3, .ref (ad 5 23))]) [0, 1, 2, 3, 4] (by rfl) ?_
      rw [← hk 6 (by omega) (by omega) (by omega), ← sells_s h9.1]
      exact ih (i + 1) g ⟨by omega, by omega⟩ hg hq (by omega)
set_option maxHeartbeats 4000000 in
set_option maxRecDepth 100000 in
theorem lp_X4_sellToClaimants_a {E : zE} {l0 : Launch} {D0 : va_G} {cI0 cJ0 : ClassId} {ad : Nat → Nat → Nat} (hE : zG E l0 D0 cI0 cJ0 ad cX4_sellToClaimants 5 RX4 3 73) (S : zM) (r : Nat) (hr : r < 5) (o : Int) (st : Int) (hI : Inv0 (S r)) (h1 : 0 ≤ o ∧ o < S r 14) (h2 : 0 ≤ st ∧ st < 2) (hR : zR E none none (fun X => ∃ g : Int → Int, X = us (us S 5 g) r (sp_clm (S r) o st) ∧ ∀ q : Int, q < 100 → g q = S 5 q)) : ∀ (fuel : Nat) (i : Int) (g : Int → Int) (h9 : 0 ≤ i ∧ i ≤ 12) (hg : ∀ k : Int, 0 ≤ k → k < i → g (100 + k) = sp_dem (S r) o k) (hq : ∀ q : Int, q < 100 → g q = S 5 q), (12 - i).toNat < fuel → Z E (us S 5 g) 3 [(4, .int (i32 i)), (0, .ref (ad r 0)), (1, .int (i32 o)), (2, .int (i32 st)), (3, .ref (ad 5 23))] [] := by
  intro fuel
  induction fuel with
  | zero => intro _ _ _ _ _ hz; omega
  | succ fuel ih =>
    intro i g h9 hg hq hz
    have hA := inA hI
    unfold InvA at hA
    have ho := inO hI o h1.1 h1.2
    have h5 : r ≠ 5 := by omega
    have h5b : 5 ≠ r := by omega
    refine z_iload hE 0 rfl dX4_sellToClaimants_3 ?_
    refine z_bipush (a := 12) hE (by decide) dX4_sellToClaimants_5 ?_
    refine z_icmp_ge (tgt := 42) hE dX4_sellToClaimants_7 (by decide) ⟨by omega, by omega⟩ ⟨by omega, by omega⟩ (fun c1 => ?_) (fun c1 => ?_)
    · refine z_aload_n hE 4 rfl rfl dX4_sellToClaimants_42 ?_
      refine z_aload_n hE 1 rfl rfl dX4_sellToClaimants_43 ?_
      refine gf_4_3 hE (ks_m hr (by decide)) zf_X4_35 dX4_sellToClaimants_44 ?_
      refine gf_3_4 hE (ks_m hr (by decide)) zf_X4_137 dX4_sellToClaimants_47 ?_
      refine z_iload_n hE 2 rfl rfl dX4_sellToClaimants_50 ?_
      refine al_12 hE (ks_m hr (by decide)) (by omega) (by omega) dX4_sellToClaimants_51 ?_
      try simp only [us_eq, us_us, us_ne h5, us_ne h5b, us_in h5b]
      refine z_callVp hE (c_X6_divide l0 D0 cI0 cJ0 ad (us S 5 g) (S r (57 + 22 * o)) (by omega) (by rw [us_eq]; exact fun k a b => by rw [hg k a (by omega)]; exact dem_b hI (by omega) (by omega) a b)) (by decide) rfl rfl zm_X4_164 zi_yX6_divide zs_yX6_divide zn_RX6 zc_yX6_divide (hy_X6_divide) (Nat.le_of_ble_eq_true rfl) (Nat.le_of_ble_eq_true rfl) rfl rfl rfl (Nat.le_of_ble_eq_true rfl) dX4_sellToClaimants_52 (fun M52 hM52 => ?_)
      obtain ⟨g3, rfl, hg3, hg4⟩ := hM52
      try simp only [us_eq, us_us, us_ne h5, us_ne h5b, us_in h5b]
      try simp only [us_eq] at hg3 hg4
      refine z_iconst hE dX4_sellToClaimants_55 ?_
      refine z_istore hE (by decide) rfl dX4_sellToClaimants_56 ?_
      refine z_L (L' := [(4, .int (i32 0)), (0, .ref (ad r 0)), (1, .int (i32 o)), (2, .int (i32 st)), (3, .ref (ad 5 23))]) [0, 1, 2, 3, 4] (by rfl) ?_
      rw [show us S 5 g3 = us (us S 5 g3) r (sp_sells (sp_gets (sp_dem (S r) o) (S r (57 + 22 * o))) o st (S r) (0 : Int).toNat) from by (show _ = us (us S 5 g3) r (S r); rw [show S r = us S 5 g3 r from (us_ne h5).symm, us_id])]
      exact lp_X4_sellToClaimants_b hE S r hr o st hI h1 h2 hR 13 0 g3 ⟨by omega, by omega⟩ (fun k h1 h2 => by rw [hg3 k h1 h2]; exact gets_cg (fun j h3 h4 => by rw [hg j h3 (by omega)]) k h1 h2) (fun q h1 => by rw [hg4 q (by omega)]; exact hq q h1) (by omega)
    · have hc := inC hI o i (by omega) (by omega) h9.1 (by omega)
      have hro := room_b hI h9.1 (show i < 12 by omega)
      refine z_aload_n hE 4 rfl rfl dX4_sellToClaimants_10 ?_
      refine gf_6_0 hE (by decide) zf_X4_150 dX4_sellToClaimants_11 ?_
      refine z_iload hE 0 rfl dX4_sellToClaimants_14 ?_
      refine z_aload_n hE 1 rfl rfl dX4_sellToClaimants_16 ?_
      refine gf_4_3 hE (ks_m hr (by decide)) zf_X4_35 dX4_sellToClaimants_17 ?_
      refine z_iload_n hE 2 rfl rfl dX4_sellToClaimants_20 ?_
      refine z_iload hE 0 rfl dX4_sellToClaimants_21 ?_
      refine z_callV hE (c_X3_claimBy l0 D0 cI0 cJ0 ad (us S 5 g) r hr o i (by omega) (by omega)) (ks_m hr (by decide)) rfl rfl zm_X4_155 zi_yX3_claimBy zs_yX3_claimBy zn_RX3 zc_yX3_claimBy (hy_X3_claimBy) (Nat.le_of_ble_eq_true rfl) (Nat.le_of_ble_eq_true rfl) rfl rfl rfl (Nat.le_of_ble_eq_true rfl) dX4_sellToClaimants_23 ?_
      try simp only [us_eq, us_us, us_ne h5, us_ne h5b, us_in h5b]
      refine z_aload_n hE 1 rfl rfl dX4_sellToClaimants_26 ?_
      refine z_iload hE 0 rfl dX4_sellToClaimants_27 ?_
      refine z_callV hE (c_X4_roomOf l0 D0 cI0 cJ0 ad (us S 5 g) r hr i (by rw [us_ne h5]; exact hI) (by omega)) (ks_m hr (by decide)) rfl rfl zm_X4_158 zi_yX4_roomOf zs_yX4_roomOf zn_RX4 zc_yX4_roomOf (hy_X4_roomOf) (Nat.le_of_ble_eq_true rfl) (Nat.le_of_ble_eq_true rfl) rfl rfl rfl (Nat.le_of_ble_eq_true rfl) dX4_sellToClaimants_29 ?_
      try simp only [us_eq, us_us, us_ne h5, us_ne h5b, us_in h5b]
      refine z_min hE zm_X4_161 (by decide) (Nat.le_of_ble_eq_true rfl) ⟨by omega, by omega⟩ ⟨by omega, by omega⟩ dX4_sellToClaimants_32 ?_
      refine as_24 hE (by decide) (by omega) (by omega) dX4_sellToClaimants_35 ?_
      try simp only [us_eq, us_us, us_ne h5, us_ne h5b, us_in h5b]
      rw [show min (S r (65 + 22 * o + i)) (sp_room (S r) i) = sp_dem (S r) o i from rfl]
      refine z_iinc hE 0 rfl (by decide) rfl dX4_sellToClaimants_36 ?_
      refine z_goto (tgt := 3) hE (d := dX4_sellToClaimants_39) (ht := by decide) ?_
      refine z_L (L' := [(4, .int (i32 (i + 1))), (0, .ref (ad r 0)), (1, .int (i32 o)), (2, .int (i32 st)), (3, .ref (ad 5 23))]) [0, 1, 2, 3, 4] (by rfl) ?_
      exact ih (i + 1) (up g (100 + i) (sp_dem (S r) o i)) ⟨by omega, by omega⟩ (gd_1 rfl h9.1 (by omega) hg) (fun q h1 => by rw [up_ne (by omega)]; exact hq q h1) (by omega)
set_option maxHeartbeats 4000000 in
set_option maxRecDepth 100000 in
theorem c_X4_sellToClaimants (l0 : Launch) (D0 : va_G) (cI0 cJ0 : ClassId) (ad : Nat → Nat → Nat) (S : zM) (r : Nat) (hr : r < 5) (o : Int) (st : Int) (hI : Inv0 (S r)) (h1 : 0 ≤ o ∧ o < S r 14) (h2 : 0 ≤ st ∧ st < 2) : Ct l0 D0 cI0 cJ0 ad yX4_sellToClaimants cX4_sellToClaimants 5 none 3 73 [.ref (ad r 0), .int (i32 o), .int (i32 st), .ref (ad 5 23)] S none (fun X => ∃ g : Int → Int, X = us (us S 5 g) r (sp_clm (S r) o st) ∧ ∀ q : Int, q < 100 → g q = S 5 q) := by
  refine Ct.of (by decide) (Nat.le_of_ble_eq_true rfl) (fun E hE hR => ?_)
  have hE : zG E l0 D0 cI0 cJ0 ad cX4_sellToClaimants 5 RX4 3 73 := hE
  show Z E S 0 [(0, .ref (ad r 0)), (1, .int (i32 o)), (2, .int (i32 st)), (3, .ref (ad 5 23))] []
  have hA := inA hI
  unfold InvA at hA
  have ho := inO hI o h1.1 h1.2
  have h5 : r ≠ 5 := by omega
  have h5b : 5 ≠ r := by omega
  refine z_iconst hE dX4_sellToClaimants_0 ?_
  refine z_istore hE (by decide) rfl dX4_sellToClaimants_1 ?_
  refine z_L (L' := [(4, .int (i32 0)), (0, .ref (ad r 0)), (1, .int (i32 o)), (2, .int (i32 st)), (3, .ref (ad 5 23))]) [0, 1, 2, 3, 4] (by rfl) ?_
  rw [show S = us S 5 (S 5) from (us_id S 5).symm]
  exact lp_X4_sellToClaimants_a hE S r hr o st hI h1 h2 hR 13 0 (S 5) ⟨by omega, by omega⟩ (fun k h1 h2 => by omega) (fun q h1 => rfl) (by omega)
end
section
/-! WHAT SALES AND STAGES KEEP -/
theorem uq_at (s : Int → Int) (k v q : Int) : uq s k v q = s q + (if q = k then v else 0) := by
  unfold uq up
  by_cases e : q = k
  · rw [if_pos e, if_pos e, e]
  · rw [if_neg e, if_neg e, Int.add_zero]
/-- a state that differs in days, accounts and sales alone keeps what holds -/
theorem inv0_cg {s t : Int → Int} (h : Inv0 s) (hz : ∀ o w : Int, s 14 ≤ o → o < 20 → 0 ≤ w → w < 4 → t (61 + 22 * o + w) = 0) (e : ∀ q : Int, 0 ≤ q → q < 645 → q ≠ 18 → ¬ (19 ≤ q ∧ q < 55 ∧ (q - 19) % 3 = 2) → ¬ (55 ≤ q ∧ q < 495 ∧ 5 ≤ (q - 55) % 22 ∧ (q - 55) % 22 < 10) → t q = s q) : Inv0 t := by
  have hA := inA h
  unfold InvA at hA
  have e0 := e 0 (by omega) (by omega) (by omega) (by omega) (by omega)
  have e14 := e 14 (by omega) (by omega) (by omega) (by omega) (by omega)
  have e15 := e 15 (by omega) (by omega) (by omega) (by omega) (by omega)
  have hr : ∀ m k : Int, 0 ≤ k → k < s 14 → sp_ro t m k = sp_ro s m k := fun m k h0 h1 => by
    unfold sp_ro
    rw [e (59 + 22 * k) (by omega) (by omega) (by omega) (by omega) (by omega), e (55 + 22 * k) (by omega) (by omega) (by omega) (by omega) (by omega), e (57 + 22 * k) (by omega) (by omega) (by omega) (by omega) (by omega)]
  refine ⟨?_, ?_, ?_, ?_, ?_, ?_, ?_, ?_, ?_, ?_⟩
  · unfold InvA
    rw [e0, e14, e15, e 1 (by omega) (by omega) (by omega) (by omega) (by omega), e 2 (by omega) (by omega) (by omega) (by omega) (by omega), e 3 (by omega) (by omega) (by omega) (by omega) (by omega), e 4 (by omega) (by omega) (by omega) (by omega) (by omega), e 5 (by omega) (by omega) (by omega) (by omega) (by omega), e 6 (by omega) (by omega) (by omega) (by omega) (by omega), e 7 (by omega) (by omega) (by omega) (by omega) (by omega), e 8 (by omega) (by omega) (by omega) (by omega) (by omega), e 9 (by omega) (by omega) (by omega) (by omega) (by omega), e 13 (by omega) (by omega) (by omega) (by omega) (by omega), e 16 (by omega) (by omega) (by omega) (by omega) (by omega), e 17 (by omega) (by omega) (by omega) (by omega) (by omega)]
    exact hA
  · intro k h0 h1
    rw [e (10 + k) (by omega) (by omega) (by omega) (by omega) (by omega)]
    exact inS h k h0 h1
  · intro m h0 h1
    rw [e0, e (19 + 3 * m) (by omega) (by omega) (by omega) (by omega) (by omega), e (20 + 3 * m) (by omega) (by omega) (by omega) (by omega) (by omega)]
    exact inMm h m h0 h1
  · have h1 : sp_all t = sp_all s := by
      unfold sp_all
      rw [e0, e 2 (by omega) (by omega) (by omega) (by omega) (by omega), sm_cg fun k h0 h1 => e (19 + 3 * k) (by omega) (by omega) (by omega) (by omega) (by omega)]
    rw [h1]
    exact (inT h).2
  · intro o h0 h1
    rw [e14] at h1
    rw [e0, e (55 + 22 * o) (by omega) (by omega) (by omega) (by omega) (by omega), e (56 + 22 * o) (by omega) (by omega) (by omega) (by omega) (by omega), e (57 + 22 * o) (by omega) (by omega) (by omega) (by omega) (by omega), e (58 + 22 * o) (by omega) (by omega) (by omega) (by omega) (by omega), e (59 + 22 * o) (by omega) (by omega) (by omega) (by omega) (by omega)]
    exact inO h o h0 h1
  · intro o w h0 h1 h2 h3
    rw [e14] at h0
    exact hz o w h0 h1 h2 h3
  · intro o k h0 h1 h2 h3
    rw [e0, e (65 + 22 * o + k) (by omega) (by omega) (by omega) (by omega) (by omega)]
    exact inC h o k h0 h1 h2 h3
  · intro q h0 h1
    rw [e15] at h1
    rw [e (497 + 15 * q) (by omega) (by omega) (by omega) (by omega) (by omega), e (495 + 15 * q) (by omega) (by omega) (by omega) (by omega) (by omega), e (496 + 15 * q) (by omega) (by omega) (by omega) (by omega) (by omega)]
    exact inQ h q h0 h1
  · intro q k h0 h1 h2 h3
    rw [e15, e (498 + 15 * q + k) (by omega) (by omega) (by omega) (by omega) (by omega)]
    exact inV h q k h0 h1 h2 h3
  · intro m h0 h1
    have h2 : sp_rem t m = sp_rem s m := by
      unfold sp_rem
      rw [e14]
      exact sm_cg fun k h3 h4 => hr m k h3 h4
    rw [h2, e (19 + 3 * m) (by omega) (by omega) (by omega) (by omega) (by omega)]
    exact inB h m h0 h1
/-- n shares of the open offer o go: c x of them to member x, t to the treasury -/
theorem inv_move {s s' c : Int → Int} {o n t : Int} (h : Inv0 s) (h0 : 0 ≤ o) (h1 : o < s 14) (hop : s (59 + 22 * o) ≠ 3) (hn : 0 ≤ n) (hn2 : n ≤ s (57 + 22 * o)) (ht : 0 ≤ t) (hc : ∀ x : Int, 0 ≤ x → x < 12 → 0 ≤ c x ∧ (s 0 ≤ x → c x = 0)) (hsum : t + sm c (s 0) = n)
    (hsh : ∀ x : Int, 0 ≤ x → x < 12 → s' (19 + 3 * x) = s (19 + 3 * x) + c x - (if x = s (55 + 22 * o) then n else 0)) (h2 : s' 2 = s 2 + t) (hre : s' (57 + 22 * o) = s (57 + 22 * o) - n)
    (e : ∀ q : Int, 0 ≤ q → q < 645 → q ≠ 2 → q ≠ 57 + 22 * o → ¬ (19 ≤ q ∧ q < 55 ∧ (q - 19) % 3 ≠ 1) → ¬ (q - 61 - 22 * o ≥ 0 ∧ q - 61 - 22 * o < 4) → s' q = s q) : Inv0 s' := by
  have hA := inA h
  unfold InvA at hA
  have ho := inO h o h0 h1
  have e0 := e 0 (by omega) (by omega) (by omega) (by omega) (by omega) (by omega)
  have e14 := e 14 (by omega) (by omega) (by omega) (by omega) (by omega) (by omega)
  have e15 := e 15 (by omega) (by omega) (by omega) (by omega) (by omega) (by omega)
  have hro : ∀ m k : Int, 0 ≤ k → k < s 14 → sp_ro s' m k = up (sp_ro s m) o (sp_ro s m o - (if m = s (55 + 22 * o) then n else 0)) k := fun m k h3 h4 => by
    by_cases ek : k = o
    · subst ek
      rw [up_eq]
      unfold sp_ro
      rw [e (59 + 22 * k) (by omega) (by omega) (by omega) (by omega) (by omega) (by omega), e (55 + 22 * k) (by omega) (by omega) (by omega) (by omega) (by omega) (by omega), hre]
      by_cases em : s (55 + 22 * k) = m
      · rw [if_pos ⟨hop, em⟩, if_pos ⟨hop, em⟩, if_pos em.symm]
      · rw [if_neg (fun q => em q.2), if_neg (fun q => em q.2), if_neg (fun q => em q.symm)]; omega
    · rw [up_ne ek]
      unfold sp_ro
      rw [e (59 + 22 * k) (by omega) (by omega) (by omega) (by omega) (by omega) (by omega), e (55 + 22 * k) (by omega) (by omega) (by omega) (by omega) (by omega) (by omega), e (57 + 22 * k) (by omega) (by omega) (by omega) (by omega) (by omega) (by omega)]
  have hrem : ∀ m : Int, sp_rem s' m = sp_rem s m - (if m = s (55 + 22 * o) then n else 0) := fun m => by
    unfold sp_rem
    rw [e14, sm_cg (hro m), sm_up _ h0 h1]
    omega
  have hse : s (57 + 22 * o) ≤ sp_rem s (s (55 + 22 * o)) := by
    have h3 := sm_mem (f := sp_ro s (s (55 + 22 * o))) h0 h1 (fun k a b => (ro_b h _ a b).1)
    have h4 : sp_ro s (s (55 + 22 * o)) o = s (57 + 22 * o) := if_pos ⟨hop, rfl⟩
    unfold sp_rem
    omega
  have hB := inB h (s (55 + 22 * o)) (by omega) (by omega)
  refine ⟨?_, ?_, ?_, ?_, ?_, ?_, ?_, ?_, ?_, ?_⟩
  · unfold InvA
    rw [e0, e14, e15, h2, e 1 (by omega) (by omega) (by omega) (by omega) (by omega) (by omega), e 3 (by omega) (by omega) (by omega) (by omega) (by omega) (by omega), e 4 (by omega) (by omega) (by omega) (by omega) (by omega) (by omega), e 5 (by omega) (by omega) (by omega) (by omega) (by omega) (by omega), e 6 (by omega) (by omega) (by omega) (by omega) (by omega) (by omega), e 7 (by omega) (by omega) (by omega) (by omega) (by omega) (by omega), e 8 (by omega) (by omega) (by omega) (by omega) (by omega) (by omega), e 9 (by omega) (by omega) (by omega) (by omega) (by omega) (by omega), e 13 (by omega) (by omega) (by omega) (by omega) (by omega) (by omega), e 16 (by omega) (by omega) (by omega) (by omega) (by omega) (by omega), e 17 (by omega) (by omega) (by omega) (by omega) (by omega) (by omega)]
    omega
  · intro k h3 h4
    rw [e (10 + k) (by omega) (by omega) (by omega) (by omega) (by omega) (by omega)]
    exact inS h k h3 h4
  · intro m h3 h4
    have hm := inMm h m h3 h4
    have hcm := hc m h3 h4
    rw [e0, hsh m h3 h4, e (20 + 3 * m) (by omega) (by omega) (by omega) (by omega) (by omega) (by omega)]
    refine ⟨?_, hm.2.1, hm.2.2.1, fun a => ?_⟩
    · by_cases em : m = s (55 + 22 * o)
      · rw [if_pos em]
        rw [← em] at hB hse
        omega
      · rw [if_neg em]; omega
    · rw [if_neg (by omega), hm.2.2.2 a, hcm.2 a]; rfl
  · have h3 : sp_all s' = sp_all s := by
      unfold sp_all
      rw [e0, h2]
      have h4 : sm (fun k => s' (19 + 3 * k)) (s 0) = sm (fun k => s (19 + 3 * k)) (s 0) + sm c (s 0) - n := by
        have h5 : ∀ j : Nat, (j : Int) ≤ s 0 → smN (fun k => s' (19 + 3 * k)) j = smN (fun k => s (19 + 3 * k)) j + smN c j - (if s (55 + 22 * o) < j then n else 0) := by
          intro j
          induction j with
          | zero => intro _; simp only [smN]; rw [if_neg (by omega)]; rfl
          | succ j ih =>
            intro hj
            show smN _ j + s' (19 + 3 * j) = smN _ j + s (19 + 3 * j) + (smN c j + c j) - _
            rw [ih (by omega), hsh j (by omega) (by omega)]
            by_cases ej : (j : Int) = s (55 + 22 * o)
            · rw [if_pos ej, if_neg (by omega), if_pos (by omega)]; omega
            · rw [if_neg ej]
              by_cases el : s (55 + 22 * o) < j
              · rw [if_pos el, if_pos (by omega)]; omega
              · rw [if_neg el, if_neg (by omega)]; omega
        have h6 := h5 (s 0).toNat (by omega)
        rw [if_pos (by omega)] at h6
        exact h6
      rw [h4]; omega
    rw [h3]
    exact (inT h).2
  · intro x h3 h4
    rw [e14] at h4
    have hx := inO h x h3 h4
    rw [e0, e (55 + 22 * x) (by omega) (by omega) (by omega) (by omega) (by omega) (by omega), e (56 + 22 * x) (by omega) (by omega) (by omega) (by omega) (by omega) (by omega), e (58 + 22 * x) (by omega) (by omega) (by omega) (by omega) (by omega) (by omega), e (59 + 22 * x) (by omega) (by omega) (by omega) (by omega) (by omega) (by omega)]
    by_cases ex : x = o
    · subst ex
      rw [hre]
      omega
    · rw [e (57 + 22 * x) (by omega) (by omega) (by omega) (by omega) (by omega) (by omega)]
      exact hx
  · intro x w h3 h4 h5 h6
    rw [e14] at h3
    rw [e (61 + 22 * x + w) (by omega) (by omega) (by omega) (by omega) (by omega) (by omega)]
    exact inZ h x w h3 h4 h5 h6
  · intro x k h3 h4 h5 h6
    rw [e0, e (65 + 22 * x + k) (by omega) (by omega) (by omega) (by omega) (by omega) (by omega)]
    exact inC h x k h3 h4 h5 h6
  · intro q h3 h4
    rw [e15] at h4
    rw [e (497 + 15 * q) (by omega) (by omega) (by omega) (by omega) (by omega) (by omega), e (495 + 15 * q) (by omega) (by omega) (by omega) (by omega) (by omega) (by omega), e (496 + 15 * q) (by omega) (by omega) (by omega) (by omega) (by omega) (by omega)]
    exact inQ h q h3 h4
  · intro q k h3 h4 h5 h6
    rw [e15, e (498 + 15 * q + k) (by omega) (by omega) (by omega) (by omega) (by omega) (by omega)]
    exact inV h q k h3 h4 h5 h6
  · intro m h3 h4
    have := inB h m h3 h4
    have hcm := hc m h3 h4
    rw [hrem, hsh m h3 h4]
    omega
theorem take_at {s : Int → Int} {o w n pr q : Int} : sp_take s o w n pr q = s q + (if q = 19 + 3 * s (55 + 22 * o) then -n else 0) + (if q = 21 + 3 * s (55 + 22 * o) then pr * n else 0) + (if q = 57 + 22 * o then -n else 0) + (if q = 61 + 22 * o + w then n else 0) := by
  unfold sp_take
  rw [uq_at, uq_at, uq_at, uq_at]
theorem sell_at {s : Int → Int} {o w m n pr q : Int} (hm : 0 ≤ m ∧ m < 12) (ho : 0 ≤ o) : sp_sell s o w m n pr q = s q + (if q = 19 + 3 * m then n else 0) + (if q = 21 + 3 * m then -(pr * n) else 0) + (if q = 19 + 3 * s (55 + 22 * o) then -n else 0) + (if q = 21 + 3 * s (55 + 22 * o) then pr * n else 0) + (if q = 57 + 22 * o then -n else 0) + (if q = 61 + 22 * o + w then n else 0) := by
  have e : sp_buy s m n pr (55 + 22 * o) = s (55 + 22 * o) := by
    unfold sp_buy
    rw [uq_ne (by omega), uq_ne (by omega)]
  unfold sp_sell
  rw [take_at, e]
  unfold sp_buy
  rw [uq_at, uq_at]
theorem sm_one {m n : Int} {k : Int} (h0 : 0 ≤ m) (h1 : m < k) : sm (fun x => if x = m then n else 0) k = n := by
  have h := sm_up (fun _ => 0) (i := m) (v := n) h0 h1
  have h2 : sm (fun _ : Int => (0 : Int)) k = 0 := by
    have := sm_b (f := fun _ : Int => (0 : Int)) (n := k) (a := 0) (b := 0) (by omega) (fun _ _ _ => ⟨Int.le_refl 0, Int.le_refl 0⟩)
    omega
  have h3 : sm (up (fun _ : Int => (0 : Int)) m n) k = sm (fun x => if x = m then n else 0) k := sm_cg fun x _ _ => rfl
  omega
theorem inv_sell {s : Int → Int} {o w m n pr : Int} (h : Inv0 s) (h0 : 0 ≤ o) (h1 : o < s 14) (hop : s (59 + 22 * o) ≠ 3) (hn : 0 ≤ n) (hn2 : n ≤ s (57 + 22 * o)) (hm : 0 ≤ m) (hm2 : m < s 0) (hw : 0 ≤ w ∧ w < 4) : Inv0 (sp_sell s o w m n pr) := by
  have hA := inA h
  unfold InvA at hA
  have ho := inO h o h0 h1
  refine inv_move (c := fun x => if x = m then n else 0) (t := 0) h h0 h1 hop hn hn2 (Int.le_refl 0) (fun x h3 h4 => ?_) (by rw [sm_one hm hm2]; omega) (fun x h3 h4 => ?_) ?_ ?_ (fun q h3 h4 h5 h6 h7 h8 => ?_)
  · constructor
    · split <;> omega
    · intro h5; rw [if_neg (by omega)]
  · rw [sell_at ⟨hm, by omega⟩ h0]
    rw [if_neg (show ¬ (19 + 3 * x = 21 + 3 * m) by omega), if_neg (show ¬ (19 + 3 * x = 21 + 3 * s (55 + 22 * o)) by omega), if_neg (show ¬ (19 + 3 * x = 57 + 22 * o) by omega), if_neg (show ¬ (19 + 3 * x = 61 + 22 * o + w) by omega)]
    by_cases e1 : x = m <;> by_cases e2 : x = s (55 + 22 * o)
    · rw [if_pos (by omega), if_pos (by omega), if_pos e1, if_pos e2]; omega
    · rw [if_pos (by omega), if_neg (by omega), if_pos e1, if_neg e2]; omega
    · rw [if_neg (by omega), if_pos (by omega), if_neg e1, if_pos e2]; omega
    · rw [if_neg (by omega), if_neg (by omega), if_neg e1, if_neg e2]; omega
  · rw [sell_keep ⟨by omega, by omega⟩ ⟨hm, by omega⟩ h0 (by omega) (by omega) (by omega)]; omega
  · rw [sell_at ⟨hm, by omega⟩ h0]
    rw [if_neg (by omega), if_neg (by omega), if_neg (by omega), if_neg (by omega), if_pos rfl, if_neg (by omega)]; omega
  · exact sell_keep ⟨by omega, by omega⟩ ⟨hm, by omega⟩ h0 (by omega) h6 (by omega)
theorem take_keep {s : Int → Int} {o w n pr q : Int} (hs : 0 ≤ s (55 + 22 * o) ∧ s (55 + 22 * o) < 12) (h1 : q < 19 ∨ 55 ≤ q ∨ (q - 19) % 3 = 1) (h3 : q ≠ 57 + 22 * o) (h4 : q ≠ 61 + 22 * o + w) : sp_take s o w n pr q = s q := by
  rw [take_at, if_neg (by omega), if_neg (by omega), if_neg h3, if_neg h4]; omega
theorem tre_keep {s : Int → Int} {o q : Int} (hs : 0 ≤ s (55 + 22 * o) ∧ s (55 + 22 * o) < 12) (h0 : 0 ≤ o) (h1 : q < 19 ∨ 55 ≤ q ∨ (q - 19) % 3 = 1) (h2 : q ≠ 2) (h3 : q ≠ 57 + 22 * o) (h4 : q ≠ 63 + 22 * o) : sp_tre s o q = s q := by
  have e : uq s 2 (sp_tn s o) (55 + 22 * o) = s (55 + 22 * o) := uq_ne (by omega)
  unfold sp_tre
  rw [take_keep (by rw [e]; exact hs) h1 h3 (by omega), uq_ne h2]
theorem inv_tre {s : Int → Int} {o : Int} (h : Inv0 s) (h0 : 0 ≤ o) (h1 : o < s 14) (hop : s (59 + 22 * o) ≠ 3) : Inv0 (sp_tre s o) := by
  have hA := inA h
  unfold InvA at hA
  have ho := inO h o h0 h1
  have hn : 0 ≤ sp_tn s o ∧ sp_tn s o ≤ s (57 + 22 * o) := by unfold sp_tn; omega
  have e : uq s 2 (sp_tn s o) (55 + 22 * o) = s (55 + 22 * o) := uq_ne (by omega)
  refine inv_move (c := fun _ => 0) (t := sp_tn s o) h h0 h1 hop hn.1 hn.2 hn.1 (fun x h3 h4 => ⟨Int.le_refl 0, fun _ => rfl⟩) ?_ (fun x h3 h4 => ?_) ?_ ?_ (fun q h3 h4 h5 h6 h7 h8 => ?_)
  · have := sm_b (f := fun _ : Int => (0 : Int)) (n := s 0) (a := 0) (b := 0) (by omega) (fun _ _ _ => ⟨Int.le_refl 0, Int.le_refl 0⟩)
    omega
  · unfold sp_tre
    rw [take_at, e, uq_ne (by omega), if_neg (show ¬ (19 + 3 * x = 21 + 3 * s (55 + 22 * o)) by omega), if_neg (show ¬ (19 + 3 * x = 57 + 22 * o) by omega), if_neg (show ¬ (19 + 3 * x = 61 + 22 * o + 2) by omega)]
    by_cases e2 : x = s (55 + 22 * o)
    · rw [if_pos (by omega), if_pos e2]; omega
    · rw [if_neg (by omega), if_neg e2]; omega
  · unfold sp_tre
    rw [take_keep (by rw [e]; omega) (by omega) (by omega) (by omega), uq_eq]
  · unfold sp_tre
    rw [take_at, e, uq_ne (by omega), if_neg (by omega), if_neg (by omega), if_pos rfl, if_neg (by omega)]; omega
  · exact tre_keep (by omega) h0 (by omega) h5 h6 (by omega)
theorem begin_ne {s : Int → Int} {o st len q : Int} (h1 : q ≠ 59 + 22 * o) (h2 : q ≠ 60 + 22 * o) (h3 : q ≠ 645 + o) (h4 : ¬ (65 + 22 * o ≤ q ∧ q < 77 + 22 * o)) : sp_begin s o st len q = s q := by
  unfold sp_begin
  rw [if_neg h1, if_neg h2, if_neg h3, if_neg h4]
theorem inv_begin {s : Int → Int} {o st len : Int} (h : Inv0 s) (h0 : 0 ≤ o) (h1 : o < s 14) (hst : 0 ≤ st ∧ st ≤ 3) (hop : st = 3 ∨ s (59 + 22 * o) ≠ 3) : Inv0 (sp_begin s o st len) := by
  have hA := inA h
  unfold InvA at hA
  have ho := inO h o h0 h1
  have e : ∀ q : Int, q < 645 → q ≠ 59 + 22 * o → q ≠ 60 + 22 * o → ¬ (65 + 22 * o ≤ q ∧ q < 77 + 22 * o) → sp_begin s o st len q = s q := fun q a b c d => begin_ne b c (by omega) d
  have e0 := e 0 (by omega) (by omega) (by omega) (by omega)
  have e14 := e 14 (by omega) (by omega) (by omega) (by omega)
  have e15 := e 15 (by omega) (by omega) (by omega) (by omega)
  have est : sp_begin s o st len (59 + 22 * o) = st := if_pos rfl
  have hro : ∀ m k : Int, 0 ≤ k → k < s 14 → sp_ro (sp_begin s o st len) m k ≤ sp_ro s m k := fun m k h3 h4 => by
    have hk := inO h k h3 h4
    unfold sp_ro
    rw [e (55 + 22 * k) (by omega) (by omega) (by omega) (by omega), e (57 + 22 * k) (by omega) (by omega) (by omega) (by omega)]
    by_cases ek : k = o
    · subst ek
      rw [est]
      rcases hop with q | q
      · rw [if_neg (by omega)]; split <;> omega
      · by_cases q2 : s (55 + 22 * k) = m
        · rw [if_pos (show s (59 + 22 * k) ≠ 3 ∧ s (55 + 22 * k) = m from ⟨q, q2⟩)]; split <;> omega
        · rw [if_neg (fun z => q2 z.2), if_neg (fun z => q2 z.2)]; omega
    · rw [e (59 + 22 * k) (by omega) (by omega) (by omega) (by omega)]; omega
  have hle : ∀ m : Int, sp_rem (sp_begin s o st len) m ≤ sp_rem s m := fun m => by
    unfold sp_rem
    rw [e14]
    have key : ∀ j : Nat, (j : Int) ≤ s 14 → smN (sp_ro (sp_begin s o st len) m) j ≤ smN (sp_ro s m) j := by
      intro j
      induction j with
      | zero => intro _; exact Int.le_refl _
      | succ j ih =>
        intro hj
        have h3 := ih (by omega)
        have h4 := hro m j (by omega) (by omega)
        show smN _ j + _ ≤ smN _ j + _
        omega
    exact key _ (by omega)
  refine ⟨?_, ?_, ?_, ?_, ?_, ?_, ?_, ?_, ?_, ?_⟩
  · unfold InvA
    rw [e0, e14, e15, e 1 (by omega) (by omega) (by omega) (by omega), e 2 (by omega) (by omega) (by omega) (by omega), e 3 (by omega) (by omega) (by omega) (by omega), e 4 (by omega) (by omega) (by omega) (by omega), e 5 (by omega) (by omega) (by omega) (by omega), e 6 (by omega) (by omega) (by omega) (by omega), e 7 (by omega) (by omega) (by omega) (by omega), e 8 (by omega) (by omega) (by omega) (by omega), e 9 (by omega) (by omega) (by omega) (by omega), e 13 (by omega) (by omega) (by omega) (by omega), e 16 (by omega) (by omega) (by omega) (by omega), e 17 (by omega) (by omega) (by omega) (by omega)]
    exact hA
  · intro k h3 h4
    rw [e (10 + k) (by omega) (by omega) (by omega) (by omega)]
    exact inS h k h3 h4
  · intro m h3 h4
    rw [e0, e (19 + 3 * m) (by omega) (by omega) (by omega) (by omega), e (20 + 3 * m) (by omega) (by omega) (by omega) (by omega)]
    exact inMm h m h3 h4
  · have h3 : sp_all (sp_begin s o st len) = sp_all s := by
      unfold sp_all
      rw [e0, e 2 (by omega) (by omega) (by omega) (by omega), sm_cg fun k a b => e (19 + 3 * k) (by omega) (by omega) (by omega) (by omega)]
    rw [h3]
    exact (inT h).2
  · intro x h3 h4
    rw [e14] at h4
    have hx := inO h x h3 h4
    rw [e0, e (55 + 22 * x) (by omega) (by omega) (by omega) (by omega), e (56 + 22 * x) (by omega) (by omega) (by omega) (by omega), e (57 + 22 * x) (by omega) (by omega) (by omega) (by omega), e (58 + 22 * x) (by omega) (by omega) (by omega) (by omega)]
    by_cases ex : x = o
    · subst ex
      rw [est]; omega
    · rw [e (59 + 22 * x) (by omega) (by omega) (by omega) (by omega)]; exact hx
  · intro x w h3 h4 h5 h6
    rw [e14] at h3
    rw [e (61 + 22 * x + w) (by omega) (by omega) (by omega) (by omega)]
    exact inZ h x w h3 h4 h5 h6
  · intro x k h3 h4 h5 h6
    have hc := inC h x k h3 h4 h5 h6
    by_cases ex : x = o
    · subst ex
      have : sp_begin s x st len (65 + 22 * x + k) = 0 := by
        unfold sp_begin
        rw [if_neg (by omega), if_neg (by omega), if_neg (by omega), if_pos (by omega)]
      rw [this, e0]; omega
    · rw [e0, e (65 + 22 * x + k) (by omega) (by omega) (by omega) (by omega)]
      exact hc
  · intro q h3 h4
    rw [e15] at h4
    rw [e (497 + 15 * q) (by omega) (by omega) (by omega) (by omega), e (495 + 15 * q) (by omega) (by omega) (by omega) (by omega), e (496 + 15 * q) (by omega) (by omega) (by omega) (by omega)]
    exact inQ h q h3 h4
  · intro q k h3 h4 h5 h6
    rw [e15, e (498 + 15 * q + k) (by omega) (by omega) (by omega) (by omega)]
    exact inV h q k h3 h4 h5 h6
  · intro m h3 h4
    have h5 := inB h m h3 h4
    have h6 := hle m
    rw [e (19 + 3 * m) (by omega) (by omega) (by omega) (by omega)]
    omega
end
section
/-! THE DIVISION, AND A DAY -/
theorem bst_max (f : Int → Int) : ∀ (n : Nat) (k : Int), 0 ≤ k → k ≤ n → f k ≤ f (bst f n)
  | 0, k, h0, h1 => by rw [show k = 0 by omega]; exact Int.le_refl _
  | n + 1, k, h0, h1 => by
    have ih := bst_max f n
    unfold bst
    split
    · rename_i h
      by_cases e : k = (n : Int) + 1
      · rw [e]; exact Int.le_refl _
      · have := ih k h0 (by omega); omega
    · rename_i h
      by_cases e : k = (n : Int) + 1
      · rw [e]; omega
      · exact ih k h0 (by omega)
theorem bst_pos {r t : Int → Int} : ∀ {n : Nat}, (∀ k : Int, 0 ≤ k → k ≤ n → max (r k) 0 = max (t k) 0) → (bst r n = bst t n ∧ 0 < r (bst r n)) ∨ (∀ k : Int, 0 ≤ k → k ≤ n → r k ≤ 0)
  | 0, h => by
    have h0 := h 0 (Int.le_refl 0) (by omega)
    by_cases e : 0 < r 0
    · exact Or.inl ⟨rfl, e⟩
    · exact Or.inr fun k h1 h2 => by rw [show k = 0 by omega]; omega
  | n + 1, h => by
    have hn := h ((n : Int) + 1) (by omega) (by omega)
    have b1 := bst_b r n
    have b2 := bst_b t n
    have hb1 := h (bst r n) b1.1 (by omega)
    have hb2 := h (bst t n) b2.1 (by omega)
    rcases bst_pos (n := n) (fun k h1 h2 => h k h1 (by omega)) with ⟨e, p⟩ | p
    · left
      unfold bst
      rw [← e]
      by_cases c : r (bst r n) < r ((n : Int) + 1)
      · rw [if_pos c, if_pos (by omega)]; exact ⟨rfl, by omega⟩
      · rw [if_neg c, if_neg (by omega)]; exact ⟨rfl, p⟩
    · by_cases c : 0 < r ((n : Int) + 1)
      · left
        have p1 := p (bst r n) b1.1 (by omega)
        have p2 := p (bst t n) b2.1 (by omega)
        unfold bst
        rw [if_pos (by omega), if_pos (by omega)]
        exact ⟨rfl, c⟩
      · right
        intro k h1 h2
        by_cases e : k = (n : Int) + 1
        · rw [e]; omega
        · exact p k h1 (by omega)
theorem hnd_sum {z : Int} : ∀ (n : Nat) (g r : Int → Int), sm (hnd z n g r) 12 = sm g 12 + n
  | 0, g, _ => by show sm g 12 = _; omega
  | n + 1, g, r => by
    have hb := bst_b r 11
    show sm (hnd z n (up g (bst r 11) (g (bst r 11) + 1)) (up r (bst r 11) z)) 12 = _
    rw [hnd_sum n, sm_up g hb.1 (by omega)]
    omega
theorem pos_up {r : Int → Int} {b z : Int} (h0 : 0 ≤ b) (h1 : b < 12) (hz : z ≤ 0) (hp : 0 < r b) : sm (fun k => max (up r b z k) 0) 12 = sm (fun k => max (r k) 0) 12 - r b := by
  have h := sm_up (fun k => max (r k) 0) (i := b) (v := 0) h0 h1
  have e : sm (fun k => max (up r b z k) 0) 12 = sm (up (fun k => max (r k) 0) b 0) 12 := sm_cg fun k _ _ => by
    unfold up
    by_cases c : k = b
    · rw [if_pos c, if_pos c]; omega
    · rw [if_neg c, if_neg c]
  rw [e, h]
  omega
theorem pos_ex {r : Int → Int} (h : 0 < sm (fun k => max (r k) 0) 12) : 0 < r (bst r 11) := by
  rcases Int.lt_or_le 0 (r (bst r 11)) with q | q
  · exact q
  · exfalso
    have h1 := sm_b (f := fun k => max (r k) 0) (n := 12) (a := 0) (b := 0) (by omega) (fun k h2 h3 => by
      have := bst_max r 11 k h2 (by omega)
      omega)
    omega
theorem hnd_zero {A z : Int} (hA : 0 < A) (hz : z ≤ 0) : ∀ (n : Nat) (g r : Int → Int), (∀ k : Int, 0 ≤ k → k < 12 → r k < A) → (n : Int) * A ≤ sm (fun k => max (r k) 0) 12 → ∀ k : Int, 0 ≤ k → k < 12 → r k ≤ 0 → hnd z n g r k = g k
  | 0, _, _, _, _, _, _, _, _ => rfl
  | n + 1, g, r, hr, hs, k, h0, h1, hk => by
    have hb := bst_b r 11
    have e : ((n + 1 : Nat) : Int) * A = n * A + A := by rw [show ((n + 1 : Nat) : Int) = (n : Int) + 1 from rfl, Int.add_mul, Int.one_mul]
    have hnA : 0 ≤ (n : Int) * A := Int.mul_nonneg (by omega) (by omega)
    have hp := pos_ex (r := r) (by omega)
    have hne : k ≠ bst r 11 := fun q => by rw [q] at hk; omega
    have hbA := hr _ hb.1 (by omega)
    show hnd z n (up g (bst r 11) (g (bst r 11) + 1)) (up r (bst r 11) z) k = g k
    rw [hnd_zero hA hz n _ _ (fun j h2 h3 => by
      unfold up; split
      · omega
      · exact hr j h2 h3) (by rw [pos_up hb.1 (by omega) hz hp]; omega) k h0 h1 (by rw [up_ne hne]; exact hk), up_ne hne]
theorem hnd_eq {A z y : Int} (hA : 0 < A) (hz : z ≤ 0) (hy : y ≤ 0) : ∀ (n : Nat) (g r t : Int → Int), (∀ k : Int, 0 ≤ k → k < 12 → r k < A) → (∀ k : Int, 0 ≤ k → k < 12 → max (r k) 0 = max (t k) 0) → (n : Int) * A ≤ sm (fun k => max (r k) 0) 12 → hnd z n g r = hnd y n g t
  | 0, _, _, _, _, _, _ => rfl
  | n + 1, g, r, t, hr, ht, hs => by
    have hb := bst_b r 11
    have e : ((n + 1 : Nat) : Int) * A = n * A + A := by rw [show ((n + 1 : Nat) : Int) = (n : Int) + 1 from rfl, Int.add_mul, Int.one_mul]
    have hnA : 0 ≤ (n : Int) * A := Int.mul_nonneg (by omega) (by omega)
    have hp := pos_ex (r := r) (by omega)
    have hbA := hr _ hb.1 (by omega)
    have eb : bst r 11 = bst t 11 := by
      rcases bst_pos (n := 11) (r := r) (t := t) (fun k h1 h2 => ht k h1 (by omega)) with ⟨q, _⟩ | q
      · exact q
      · have := q _ hb.1 (by omega); omega
    show hnd z n (up g (bst r 11) (g (bst r 11) + 1)) (up r (bst r 11) z) = hnd y n (up g (bst t 11) (g (bst t 11) + 1)) (up t (bst t 11) y)
    rw [← eb]
    exact hnd_eq hA hz hy n _ _ _ (fun j h2 h3 => by
      unfold up; split
      · omega
      · exact hr j h2 h3) (fun j h2 h3 => by
      have := ht j h2 h3
      unfold up; split <;> omega) (by rw [pos_up hb.1 (by omega) hz hp]; omega)
section GETS
variable {d : Int → Int} {w : Int}
theorem rst_pos (hd : ∀ k : Int, 0 ≤ k → k < 12 → 0 ≤ d k ∧ d k ≤ 1000) (hw : 0 ≤ w ∧ w ≤ 1000) (hA : w < sm d 12) : ((sp_left d w).toNat : Int) * sm d 12 ≤ sm (fun k => max (sp_rst d w k) 0) 12 := by
  have h := left_b hd hw hA
  have e : sm (fun k => max (sp_rst d w k) 0) 12 = sm (sp_rst d w) 12 := sm_cg fun k h1 h2 => by
    have := quo_b hd hw (by omega) h1 h2
    omega
  rw [e, Int.toNat_of_nonneg h.1, h.2.2]
  exact Int.le_refl _
theorem gets_sum (hd : ∀ k : Int, 0 ≤ k → k < 12 → 0 ≤ d k ∧ d k ≤ 1000) (hw : 0 ≤ w ∧ w ≤ 1000) : sm (sp_gets d w) 12 ≤ w := by
  unfold sp_gets
  split
  · assumption
  · rename_i hA
    have h := left_b hd hw (by omega)
    rw [hnd_sum, Int.toNat_of_nonneg h.1]
    unfold sp_left
    omega
theorem gets_zero (hd : ∀ k : Int, 0 ≤ k → k < 12 → 0 ≤ d k ∧ d k ≤ 1000) (hw : 0 ≤ w ∧ w ≤ 1000) {k : Int} (h0 : 0 ≤ k) (h1 : k < 12) (hk : d k = 0) : sp_gets d w k = 0 := by
  unfold sp_gets
  split
  · exact hk
  · rename_i hA
    have hq : sp_quo d w k = 0 := by unfold sp_quo; rw [hk, Int.mul_zero, Int.zero_ediv]
    have hr : sp_rst d w k = 0 := by
      have : sp_rst d w k = w * d k - sp_quo d w k * sm d 12 := rfl
      rw [this, hq, hk, Int.mul_zero, Int.zero_mul]; rfl
    rw [hnd_zero (A := sm d 12) (by omega) (by omega) _ _ _ (fun j h2 h3 => (quo_b hd hw (by omega) h2 h3).2.2.1.2) (rst_pos hd hw (by omega)) k h0 h1 (by omega), hq]
/-- the model's division: a used rest becomes 0 -/
theorem gets_0 (hd : ∀ k : Int, 0 ≤ k → k < 12 → 0 ≤ d k ∧ d k ≤ 1000) (hw : 0 ≤ w ∧ w ≤ 1000) (hA : w < sm d 12) : sp_gets d w = hnd 0 (sp_left d w).toNat (sp_quo d w) (sp_rst d w) := by
  unfold sp_gets
  rw [if_neg (by omega)]
  exact hnd_eq (A := sm d 12) (by omega) (by omega) (by omega) _ _ _ _ (fun j h2 h3 => (quo_b hd hw (by omega) h2 h3).2.2.1.2) (fun _ _ _ => rfl) (rst_pos hd hw hA)
end GETS
theorem sell_0 (s : Int → Int) (o w m pr : Int) : sp_sell s o w m 0 pr = s := by
  unfold sp_sell sp_take sp_buy
  simp only [Int.mul_zero, Int.neg_zero, uq_0]
theorem inv_sells {s g : Int → Int} {o st : Int} (h : Inv0 s) (h0 : 0 ≤ o) (h1 : o < s 14) (hop : s (59 + 22 * o) ≠ 3) (hst : 0 ≤ st ∧ st < 4) (hg : ∀ k : Int, 0 ≤ k → k < 12 → 0 ≤ g k ∧ (s 0 ≤ k → g k = 0)) : ∀ n : Nat, n ≤ 12 → smN g n ≤ s (57 + 22 * o) → Inv0 (sp_sells g o st s n) ∧ sp_sells g o st s n (57 + 22 * o) = s (57 + 22 * o) - smN g n := by
  have hA := inA h
  unfold InvA at hA
  have ho := inO h o h0 h1
  intro n
  induction n with
  | zero => intro _ _; exact ⟨h, by show s _ = _ - 0; omega⟩
  | succ n ih =>
    intro hn hs
    have hgn := hg n (by omega) (by omega)
    have hs2 : smN g (n + 1) = smN g n + g n := rfl
    obtain ⟨i1, i2⟩ := ih (by omega) (by omega)
    have kp : ∀ q : Int, (q < 19 ∨ 55 ≤ q ∨ (q - 19) % 3 = 1) → q ≠ 57 + 22 * o → q ≠ 61 + 22 * o + st → sp_sells g o st s n q = s q := fun q a b c => sells_keep ⟨by omega, by omega⟩ h0 hst (by omega) a b c
    have e14 := kp 14 (by omega) (by omega) (by omega)
    have e0 := kp 0 (by omega) (by omega) (by omega)
    have e59 := kp (59 + 22 * o) (by omega) (by omega) (by omega)
    have e55 := kp (55 + 22 * o) (by omega) (by omega) (by omega)
    have e : sp_sells g o st s (n + 1) = sp_sell (sp_sells g o st s n) o st n (g n) (sp_sells g o st s n 6) := rfl
    rw [e]
    by_cases z : g n = 0
    · rw [z, sell_0]
      exact ⟨i1, by omega⟩
    · have hm : (n : Int) < s 0 := by
        rcases Int.lt_or_le (n : Int) (s 0) with q | q
        · exact q
        · exact absurd (hgn.2 q) z
      refine ⟨inv_sell i1 h0 (by omega) (by omega) hgn.1 (by omega) (by omega) (by omega) hst, ?_⟩
      rw [sell_at ⟨by omega, by omega⟩ h0, if_neg (by omega), if_neg (by omega), if_neg (by omega), if_neg (by omega), if_pos rfl, if_neg (by omega)]
      omega
theorem dem_ok {s : Int → Int} (h : Inv0 s) {o : Int} (h0 : 0 ≤ o) (h1 : o < s 14) : (∀ k : Int, 0 ≤ k → k < 12 → 0 ≤ sp_dem s o k ∧ sp_dem s o k ≤ 1000) ∧ ∀ k : Int, 0 ≤ k → k < 12 → s 0 ≤ k → sp_dem s o k = 0 := by
  have hA := inA h
  unfold InvA at hA
  refine ⟨fun k a b => dem_b h h0 (by omega) a b, fun k a b c => ?_⟩
  have h2 := inC h o k h0 (by omega) a b
  have h3 := room_b h a b
  unfold sp_dem
  omega
theorem inv_clm {s : Int → Int} {o st : Int} (h : Inv0 s) (h0 : 0 ≤ o) (h1 : o < s 14) (hop : s (59 + 22 * o) ≠ 3) (hst : 0 ≤ st ∧ st < 4) : Inv0 (sp_clm s o st) := by
  have ho := inO h o h0 h1
  have hd := dem_ok h h0 h1
  have hw : 0 ≤ s (57 + 22 * o) ∧ s (57 + 22 * o) ≤ 1000 := by omega
  exact (inv_sells h h0 h1 hop hst (fun k a b => ⟨(gets_b hd.1 hw k a b).1, fun c => gets_zero hd.1 hw a b (hd.2 k a b c)⟩) 12 (Nat.le_refl 12) (gets_sum hd.1 hw)).1
theorem clm_keep {s : Int → Int} {o st q : Int} (hs : 0 ≤ s (55 + 22 * o) ∧ s (55 + 22 * o) < 12) (h0 : 0 ≤ o) (hst : 0 ≤ st ∧ st < 4) (h1 : q < 19 ∨ 55 ≤ q ∨ (q - 19) % 3 = 1) (h3 : q ≠ 57 + 22 * o) (h4 : q ≠ 61 + 22 * o + st) : sp_clm s o st q = s q := sells_keep hs h0 hst (Nat.le_refl 12) h1 h3 h4
theorem inv_toB {s : Int → Int} {o : Int} (h : Inv0 s) (h0 : 0 ≤ o) (h1 : o < s 14) (hop : s (59 + 22 * o) ≠ 3) : Inv0 (sp_toB s o) := by
  have hA := inA h
  unfold InvA at hA
  have ho := inO h o h0 h1
  have hr := room_b h (m := s (56 + 22 * o)) (by omega) (by omega)
  have hn : 0 ≤ sp_bn s o ∧ sp_bn s o ≤ s (57 + 22 * o) := by unfold sp_bn; omega
  exact inv_sell h h0 h1 hop hn.1 hn.2 (by omega) (by omega) ⟨by omega, by omega⟩
/-- what a stage's end leaves as it was -/
theorem mid_keep {s : Int → Int} (h : Inv0 s) {o q : Int} (h0 : 0 ≤ o) (h1 : o < s 14) (hop : s (59 + 22 * o) ≠ 3) (ha : q < 19 ∨ 55 ≤ q ∨ (q - 19) % 3 = 1) (h2 : q ≠ 2) (h3 : q ≠ 57 + 22 * o) (h4 : ¬ (61 + 22 * o ≤ q ∧ q < 65 + 22 * o)) : sp_mid s o q = s q := by
  have hA := inA h
  unfold InvA at hA
  have ho := inO h o h0 h1
  unfold sp_mid
  split
  · have e55 : sp_tre s o (55 + 22 * o) = s (55 + 22 * o) := tre_keep ⟨by omega, by omega⟩ h0 (by omega) (by omega) (by omega) (by omega)
    have e56 : sp_tre s o (56 + 22 * o) = s (56 + 22 * o) := tre_keep ⟨by omega, by omega⟩ h0 (by omega) (by omega) (by omega) (by omega)
    unfold sp_toB
    rw [sell_keep (by rw [e55]; exact ⟨by omega, by omega⟩) (by rw [e56]; exact ⟨by omega, by omega⟩) h0 ha h3 (by omega)]
    exact tre_keep ⟨by omega, by omega⟩ h0 ha h2 h3 (by omega)
  · exact clm_keep ⟨by omega, by omega⟩ h0 ⟨by omega, by omega⟩ ha h3 (by omega)
theorem inv_mid {s : Int → Int} (h : Inv0 s) {o : Int} (h0 : 0 ≤ o) (h1 : o < s 14) (hop : s (59 + 22 * o) ≠ 3) : Inv0 (sp_mid s o) := by
  have hA := inA h
  unfold InvA at hA
  have ho := inO h o h0 h1
  unfold sp_mid
  split
  · have e14 : sp_tre s o 14 = s 14 := tre_keep ⟨by omega, by omega⟩ h0 (by omega) (by omega) (by omega) (by omega)
    have e59 : sp_tre s o (59 + 22 * o) = s (59 + 22 * o) := tre_keep ⟨by omega, by omega⟩ h0 (by omega) (by omega) (by omega) (by omega)
    exact inv_toB (inv_tre h h0 h1 hop) h0 (by omega) (by omega)
  · exact inv_clm h h0 h1 hop ⟨by omega, by omega⟩
theorem inv_end {s : Int → Int} (h : Inv0 s) {o : Int} (h0 : 0 ≤ o) (h1 : o < s 14) (hop : s (59 + 22 * o) ≠ 3) : Inv0 (sp_end s o) := by
  have hA := inA h
  unfold InvA at hA
  have ho := inO h o h0 h1
  have hi := inv_mid h h0 h1 hop
  have e14 := mid_keep h (q := 14) h0 h1 hop (by omega) (by omega) (by omega) (by omega)
  have e59 := mid_keep h (q := 59 + 22 * o) h0 h1 hop (by omega) (by omega) (by omega) (by omega)
  unfold sp_end
  split
  · exact inv_begin hi h0 (by omega) ⟨by omega, by omega⟩ (Or.inl rfl)
  · rename_i hc
    exact inv_begin hi h0 (by omega) ⟨by omega, by omega⟩ (Or.inr (by omega))
theorem end_keep {s : Int → Int} (h : Inv0 s) {o q : Int} (h0 : 0 ≤ o) (h1 : o < s 14) (hop : s (59 + 22 * o) ≠ 3) (ha : q < 19 ∨ 55 ≤ q ∨ (q - 19) % 3 = 1) (h2 : q ≠ 2) (h3 : ¬ (57 + 22 * o ≤ q ∧ q < 77 + 22 * o)) (h4 : q ≠ 645 + o) : sp_end s o q = s q := by
  unfold sp_end
  split <;> rw [begin_ne (by omega) (by omega) h4 (by omega), mid_keep h h0 h1 hop ha h2 (by omega) (by omega)]
theorem tick_ne {s : Int → Int} {o q : Int} (h1 : q ≠ 645 + o) (h2 : q ≠ 60 + 22 * o) : sp_tick s o q = s q := by
  unfold sp_tick
  rw [uq_ne h2, uq_ne h1]
theorem inv_tick {s : Int → Int} (h : Inv0 s) {o : Int} (h0 : 0 ≤ o) (h1 : o < 20) : Inv0 (sp_tick s o) := by
  have hA := inA h
  unfold InvA at hA
  refine inv0_cg h (fun x w h2 h3 h4 h5 => ?_) (fun q h2 h3 h4 h5 h6 => tick_ne (by omega) (by omega))
  rw [tick_ne (by omega) (by omega)]
  exact inZ h x w h2 h3 h4 h5
theorem inv_off {s : Int → Int} (h : Inv0 s) (hD : InvD s) {o : Int} (h0 : 0 ≤ o) (h1 : o < s 14) : Inv0 (sp_off s o) ∧ InvD (sp_off s o) ∧ sp_off s o 14 = s 14 := by
  have hA := inA h
  unfold InvA at hA
  unfold sp_off
  split
  · rename_i hop
    have hd := hD o h0 h1 hop
    have ht := inv_tick h h0 (show o < 20 by omega)
    have t14 : sp_tick s o 14 = s 14 := tick_ne (by omega) (by omega)
    have t13 : sp_tick s o 13 = s 13 := tick_ne (by omega) (by omega)
    have t59 : sp_tick s o (59 + 22 * o) = s (59 + 22 * o) := tick_ne (by omega) (by omega)
    have tl : sp_tick s o (645 + o) = s (645 + o) - 1 := by unfold sp_tick; rw [uq_ne (by omega), uq_eq]; omega
    have tl2 : sp_tick s o (60 + 22 * o) = s (60 + 22 * o) - 1 := by unfold sp_tick; rw [uq_eq, uq_ne (by omega)]; omega
    split
    · rename_i hl
      have e := fun q => @end_keep _ ht o q h0 (by omega) (by omega)
      refine ⟨inv_end ht h0 (by omega) (by omega), fun x h2 h3 h4 => ?_, by rw [e 14 (by omega) (by omega) (by omega) (by omega), t14]⟩
      rw [e 14 (by omega) (by omega) (by omega) (by omega), t14] at h3
      by_cases ex : x = o
      · subst ex
        have m13 := mid_keep ht (q := 13) h0 (by omega) (by omega) (by omega) (by omega) (by omega) (by omega)
        revert h4
        unfold sp_end
        split
        · intro h4; exact absurd (show sp_begin _ x 3 0 (59 + 22 * x) = 3 from if_pos rfl) h4
        · intro _
          have b1 : sp_begin (sp_mid (sp_tick s x) x) x (sp_tick s x (59 + 22 * x) + 1) (sp_mid (sp_tick s x) x 13) (645 + x) = sp_mid (sp_tick s x) x 13 := by
            unfold sp_begin; rw [if_neg (by omega), if_neg (by omega), if_pos rfl]
          have b2 : sp_begin (sp_mid (sp_tick s x) x) x (sp_tick s x (59 + 22 * x) + 1) (sp_mid (sp_tick s x) x 13) (60 + 22 * x) = sp_mid (sp_tick s x) x 13 := by
            unfold sp_begin; rw [if_neg (by omega), if_pos rfl]
          rw [b1, b2]
          omega
      · rw [e (59 + 22 * x) (by omega) (by omega) (by omega) (by omega), tick_ne (by omega) (by omega)] at h4
        rw [e (645 + x) (by omega) (by omega) (by omega) (by omega), e (60 + 22 * x) (by omega) (by omega) (by omega) (by omega), tick_ne (by omega) (by omega), tick_ne (by omega) (by omega)]
        exact hD x h2 h3 h4
    · rename_i hl
      refine ⟨ht, fun x h2 h3 h4 => ?_, t14⟩
      rw [t14] at h3
      rw [tick_ne (by omega) (by omega)] at h4
      by_cases ex : x = o
      · subst ex; omega
      · rw [tick_ne (by omega) (by omega), tick_ne (by omega) (by omega)]
        exact hD x h2 h3 h4
  · exact ⟨h, hD, rfl⟩
theorem inv_dayS {s : Int → Int} (h : Inv0 s) (hD : InvD s) : ∀ n : Nat, (n : Int) ≤ s 14 → Inv0 (sp_dayS s n) ∧ InvD (sp_dayS s n) ∧ sp_dayS s n 14 = s 14
  | 0, _ => ⟨h, hD, rfl⟩
  | n + 1, hn => by
    obtain ⟨a, b, c⟩ := inv_dayS h hD n (by omega)
    have := inv_off a b (o := n) (by omega) (by omega)
    exact ⟨this.1, this.2.1, this.2.2.trans c⟩
theorem inv_670 {s : Int → Int} (h : Inv0 s) (hD : InvD s) (v : Int) : Inv0 (uq s 670 v) ∧ InvD (uq s 670 v) ∧ uq s 670 v 14 = s 14 := by
  have hA := inA h
  unfold InvA at hA
  have e14 : uq s 670 v 14 = s 14 := uq_ne (by omega)
  refine ⟨inv0_cg h (fun x w h2 h3 h4 h5 => ?_) (fun q h2 h3 h4 h5 h6 => uq_ne (by omega)), fun x h2 h3 h4 => ?_, e14⟩
  · rw [uq_ne (by omega)]; exact inZ h x w h2 h3 h4 h5
  · rw [e14] at h3
    rw [uq_ne (by omega)] at h4
    rw [uq_ne (by omega), uq_ne (by omega)]
    exact hD x h2 h3 h4
theorem inv_day {s : Int → Int} (h : Inv0 s) (hD : InvD s) : Inv0 (sp_day s) ∧ InvD (sp_day s) ∧ sp_day s 14 = s 14 := by
  have hA := inA h
  unfold InvA at hA
  have h1 := inv_670 h hD 1
  have h2 := inv_dayS h1.1 h1.2.1 (s 14).toNat (by omega)
  exact ⟨h2.1, h2.2.1, h2.2.2.trans h1.2.2⟩
theorem inv_days {s : Int → Int} (h : Inv0 s) (hD : InvD s) : ∀ n : Nat, Inv0 (sp_days s n) ∧ InvD (sp_days s n) ∧ sp_days s n 14 = s 14
  | 0 => ⟨h, hD, rfl⟩
  | n + 1 => by
    obtain ⟨a, b, c⟩ := inv_days h hD n
    have := inv_day a b
    exact ⟨this.1, this.2.1, this.2.2.trans c⟩
end
section
theorem dX4_endStage_0 : decode cX4_endStage 0 = .ok (.aload_n 0, 1) := by decide +kernel
theorem dX4_endStage_1 : decode cX4_endStage 1 = .ok (.getfield 35, 3) := by decide +kernel
theorem dX4_endStage_4 : decode cX4_endStage 4 = .ok (.getfield 108, 3) := by decide +kernel
theorem dX4_endStage_7 : decode cX4_endStage 7 = .ok (.iload_n 1, 1) := by decide +kernel
theorem dX4_endStage_8 : decode cX4_endStage 8 = .ok (.iaload, 1) := by decide +kernel
theorem dX4_endStage_9 : decode cX4_endStage 9 = .ok (.istore_n 3, 1) := by decide +kernel
theorem dX4_endStage_10 : decode cX4_endStage 10 = .ok (.iload_n 3, 1) := by decide +kernel
theorem dX4_endStage_11 : decode cX4_endStage 11 = .ok (.iconst 2, 1) := by decide +kernel
theorem dX4_endStage_12 : decode cX4_endStage 12 = .ok (.if_icmp .ne 16, 3) := by decide +kernel
theorem dX4_endStage_15 : decode cX4_endStage 15 = .ok (.aload_n 0, 1) := by decide +kernel
theorem dX4_endStage_16 : decode cX4_endStage 16 = .ok (.iload_n 1, 1) := by decide +kernel
theorem dX4_endStage_17 : decode cX4_endStage 17 = .ok (.invokevirtual 126, 3) := by decide +kernel
theorem dX4_endStage_20 : decode cX4_endStage 20 = .ok (.aload_n 0, 1) := by decide +kernel
theorem dX4_endStage_21 : decode cX4_endStage 21 = .ok (.iload_n 1, 1) := by decide +kernel
theorem dX4_endStage_22 : decode cX4_endStage 22 = .ok (.invokevirtual 130, 3) := by decide +kernel
theorem dX4_endStage_25 : decode cX4_endStage 25 = .ok (.goto 10, 3) := by decide +kernel
theorem dX4_endStage_28 : decode cX4_endStage 28 = .ok (.aload_n 0, 1) := by decide +kernel
theorem dX4_endStage_29 : decode cX4_endStage 29 = .ok (.iload_n 1, 1) := by decide +kernel
theorem dX4_endStage_30 : decode cX4_endStage 30 = .ok (.iload_n 3, 1) := by decide +kernel
theorem dX4_endStage_31 : decode cX4_endStage 31 = .ok (.aload_n 2, 1) := by decide +kernel
theorem dX4_endStage_32 : decode cX4_endStage 32 = .ok (.invokevirtual 133, 3) := by decide +kernel
theorem dX4_endStage_35 : decode cX4_endStage 35 = .ok (.iload_n 3, 1) := by decide +kernel
theorem dX4_endStage_36 : decode cX4_endStage 36 = .ok (.iconst 2, 1) := by decide +kernel
theorem dX4_endStage_37 : decode cX4_endStage 37 = .ok (.if_icmp .eq 15, 3) := by decide +kernel
theorem dX4_endStage_40 : decode cX4_endStage 40 = .ok (.aload_n 0, 1) := by decide +kernel
theorem dX4_endStage_41 : decode cX4_endStage 41 = .ok (.getfield 35, 3) := by decide +kernel
theorem dX4_endStage_44 : decode cX4_endStage 44 = .ok (.getfield 137, 3) := by decide +kernel
theorem dX4_endStage_47 : decode cX4_endStage 47 = .ok (.iload_n 1, 1) := by decide +kernel
theorem dX4_endStage_48 : decode cX4_endStage 48 = .ok (.iaload, 1) := by decide +kernel
theorem dX4_endStage_49 : decode cX4_endStage 49 = .ok (.ifCond .gt 14, 3) := by decide +kernel
theorem dX4_endStage_52 : decode cX4_endStage 52 = .ok (.aload_n 0, 1) := by decide +kernel
theorem dX4_endStage_53 : decode cX4_endStage 53 = .ok (.getfield 35, 3) := by decide +kernel
theorem dX4_endStage_56 : decode cX4_endStage 56 = .ok (.iload_n 1, 1) := by decide +kernel
theorem dX4_endStage_57 : decode cX4_endStage 57 = .ok (.invokevirtual 140, 3) := by decide +kernel
theorem dX4_endStage_60 : decode cX4_endStage 60 = .ok (.goto 21, 3) := by decide +kernel
theorem dX4_endStage_63 : decode cX4_endStage 63 = .ok (.aload_n 0, 1) := by decide +kernel
theorem dX4_endStage_64 : decode cX4_endStage 64 = .ok (.getfield 35, 3) := by decide +kernel
theorem dX4_endStage_67 : decode cX4_endStage 67 = .ok (.iload_n 1, 1) := by decide +kernel
theorem dX4_endStage_68 : decode cX4_endStage 68 = .ok (.iload_n 3, 1) := by decide +kernel
theorem dX4_endStage_69 : decode cX4_endStage 69 = .ok (.iconst 1, 1) := by decide +kernel
theorem dX4_endStage_70 : decode cX4_endStage 70 = .ok (.iadd, 1) := by decide +kernel
theorem dX4_endStage_71 : decode cX4_endStage 71 = .ok (.aload_n 0, 1) := by decide +kernel
theorem dX4_endStage_72 : decode cX4_endStage 72 = .ok (.getfield 21, 3) := by decide +kernel
theorem dX4_endStage_75 : decode cX4_endStage 75 = .ok (.getfield 143, 3) := by decide +kernel
theorem dX4_endStage_78 : decode cX4_endStage 78 = .ok (.invokevirtual 146, 3) := by decide +kernel
theorem dX4_endStage_81 : decode cX4_endStage 81 = .ok (.return_, 1) := by decide +kernel
theorem hy_X4_endStage : yX4_endStage.cls ≠ "java/lang/invoke/MethodHandle" ∧ yX4_endStage.cls ≠ "java/lang/invoke/VarHandle" ∧ (parseMethodDescriptor yX4_endStage.desc).map (fun d => d.parameters.length) = some 2 := ⟨by decide +kernel, by decide +kernel, by decide +kernel⟩
set_option maxHeartbeats 4000000 in
set_option maxRecDepth 100000 in
theorem c_X4_endStage (l0 : Launch) (D0 : va_G) (cI0 cJ0 : ClassId) (ad : Nat → Nat → Nat) (S : zM) (r : Nat) (hr : r < 5) (o : Int) (hI : Inv0 (S r)) (h1 : 0 ≤ o ∧ o < S r 14) (h2 : S r (59 + 22 * o) ≠ 3) : Ct l0 D0 cI0 cJ0 ad yX4_endStage cX4_endStage 4 none 4 97 [.ref (ad r 0), .int (i32 o), .ref (ad 5 23)] S none (fun X => ∃ g : Int → Int, X = us (us S 5 g) r (sp_end (S r) o) ∧ ∀ q : Int, q < 100 → g q = S 5 q) := by
  refine Ct.of (by decide) (Nat.le_of_ble_eq_true rfl) (fun E hE hR => ?_)
  have hE : zG E l0 D0 cI0 cJ0 ad cX4_endStage 4 RX4 4 97 := hE
  show Z E S 0 [(0, .ref (ad r 0)), (1, .int (i32 o)), (2, .ref (ad 5 23))] []
  have hA := inA hI
  unfold InvA at hA
  have ho := inO hI o h1.1 h1.2
  have h5 : r ≠ 5 := by omega
  have h5b : 5 ≠ r := by omega
  have hmi := inv_mid hI h1.1 h1.2 h2
  have m14 := mid_keep hI (q := 14) h1.1 h1.2 h2 (by omega) (by omega) (by omega) (by omega)
  have m13 := mid_keep hI (q := 13) h1.1 h1.2 h2 (by omega) (by omega) (by omega) (by omega)
  have hmo := inO hmi o h1.1 (by omega)
  refine z_aload_n hE 0 rfl rfl dX4_endStage_0 ?_
  refine gf_4_3 hE (ks_m hr (by decide)) zf_X4_35 dX4_endStage_1 ?_
  refine gf_3_5 hE (ks_m hr (by decide)) zf_X4_108 dX4_endStage_4 ?_
  refine z_iload_n hE 1 rfl rfl dX4_endStage_7 ?_
  refine al_13 hE (ks_m hr (by decide)) (by omega) (by omega) dX4_endStage_8 ?_
  refine z_istore_n hE rfl (by decide) rfl dX4_endStage_9 ?_
  refine z_iload_n hE 0 rfl rfl dX4_endStage_10 ?_
  refine z_iconst hE dX4_endStage_11 ?_
  refine z_icmp_ne (tgt := 28) hE dX4_endStage_12 (by decide) ⟨by omega, by omega⟩ ⟨by omega, by omega⟩ (fun c1 => ?_) (fun c1 => ?_)
  · refine z_aload_n hE 1 rfl rfl dX4_endStage_28 ?_
    refine z_iload_n hE 2 rfl rfl dX4_endStage_29 ?_
    refine z_iload_n hE 0 rfl rfl dX4_endStage_30 ?_
    refine z_aload_n hE 3 rfl rfl dX4_endStage_31 ?_
    refine z_callVp hE (c_X4_sellToClaimants l0 D0 cI0 cJ0 ad S r hr o (S r (59 + 22 * o)) hI (by omega) (⟨by omega, by omega⟩)) (ks_m hr (by decide)) rfl rfl zm_X4_133 zi_yX4_sellToClaimants zs_yX4_sellToClaimants zn_RX4 zc_yX4_sellToClaimants (hy_X4_sellToClaimants) (Nat.le_of_ble_eq_true rfl) (Nat.le_of_ble_eq_true rfl) rfl rfl rfl (Nat.le_of_ble_eq_true rfl) dX4_endStage_32 (fun M32 hM32 => ?_)
    obtain ⟨g3, rfl, hg4⟩ := hM32
    try simp only [us_eq] at hg4
    have em : sp_clm (S r) o (S r (59 + 22 * o)) = sp_mid (S r) o := by unfold sp_mid; rw [if_neg (by omega)]
    rw [em]
    refine z_iload_n hE 0 rfl rfl dX4_endStage_35 ?_
    refine z_iconst hE dX4_endStage_36 ?_
    refine z_icmp_eq (tgt := 52) hE dX4_endStage_37 (by decide) ⟨by omega, by omega⟩ ⟨by omega, by omega⟩ (fun c2 => ?_) (fun c2 => ?_)
    · refine z_aload_n hE 1 rfl rfl dX4_endStage_52 ?_
      refine gf_4_3 hE (ks_m hr (by decide)) zf_X4_35 dX4_endStage_53 ?_
      refine z_iload_n hE 2 rfl rfl dX4_endStage_56 ?_
      refine z_callV hE (c_X3_close l0 D0 cI0 cJ0 ad (us (us S 5 g3) r (sp_mid (S r) o)) r hr o (by omega)) (ks_m hr (by decide)) rfl rfl zm_X4_140 zi_yX3_close zs_yX3_close zn_RX3 zc_yX3_close (hy_X3_close) (Nat.le_of_ble_eq_true rfl) (Nat.le_of_ble_eq_true rfl) rfl rfl rfl (Nat.le_of_ble_eq_true rfl) dX4_endStage_57 ?_
      try simp only [us_eq, us_us, us_ne h5, us_ne h5b, us_in h5b]
      refine z_goto (tgt := 81) hE (d := dX4_endStage_60) (ht := by decide) ?_
      exact z_vret hE hR dX4_endStage_81 rfl (by first | (exfalso; omega) | (refine ⟨g3, ?_, hg4⟩; unfold sp_end; first | rw [if_pos (by omega)] | rw [if_neg (by omega)]) | (refine ⟨S 5, ?_, fun q h => rfl⟩; rw [us_id]; unfold sp_end; rw [if_pos (by omega)]))
    · refine z_aload_n hE 1 rfl rfl dX4_endStage_40 ?_
      refine gf_4_3 hE (ks_m hr (by decide)) zf_X4_35 dX4_endStage_41 ?_
      refine gf_3_4 hE (ks_m hr (by decide)) zf_X4_137 dX4_endStage_44 ?_
      refine z_iload_n hE 2 rfl rfl dX4_endStage_47 ?_
      refine al_12 hE (ks_m hr (by decide)) (by omega) (by omega) dX4_endStage_48 ?_
      try simp only [us_eq, us_us, us_ne h5, us_ne h5b, us_in h5b]
      refine z_if_gt (tgt := 63) hE dX4_endStage_49 (by decide) ⟨by omega, by omega⟩ (fun c3 => ?_) (fun c3 => ?_)
      · refine z_aload_n hE 1 rfl rfl dX4_endStage_63 ?_
        refine gf_4_3 hE (ks_m hr (by decide)) zf_X4_35 dX4_endStage_64 ?_
        refine z_iload_n hE 2 rfl rfl dX4_endStage_67 ?_
        refine z_iload_n hE 0 rfl rfl dX4_endStage_68 ?_
        refine z_iconst hE dX4_endStage_69 ?_
        refine z_iadd hE dX4_endStage_70 ?_
        refine z_aload_n hE 1 rfl rfl dX4_endStage_71 ?_
        refine gf_4_1 hE (ks_m hr (by decide)) zf_X4_21 dX4_endStage_72 ?_
        refine gf_5_4 hE (ks_m hr (by decide)) zf_X4_143 dX4_endStage_75 ?_
        try simp only [us_eq, us_us, us_ne h5, us_ne h5b, us_in h5b]
        refine z_callV hE (c_X3_beginStage l0 D0 cI0 cJ0 ad (us (us S 5 g3) r (sp_mid (S r) o)) r hr o ((S r (59 + 22 * o)) + 1) ((sp_mid (S r) o) 13) (by omega)) (ks_m hr (by decide)) rfl rfl zm_X4_146 zi_yX3_beginStage zs_yX3_beginStage zn_RX3 zc_yX3_beginStage (hy_X3_beginStage) (Nat.le_of_ble_eq_true rfl) (Nat.le_of_ble_eq_true rfl) rfl rfl rfl (Nat.le_of_ble_eq_true rfl) dX4_endStage_78 ?_
        try simp only [us_eq, us_us, us_ne h5, us_ne h5b, us_in h5b]
        exact z_vret hE hR dX4_endStage_81 rfl (by first | (exfalso; omega) | (refine ⟨g3, ?_, hg4⟩; unfold sp_end; first | rw [if_pos (by omega)] | rw [if_neg (by omega)]) | (refine ⟨S 5, ?_, fun q h => rfl⟩; rw [us_id]; unfold sp_end; rw [if_pos (by omega)]))
      · refine z_aload_n hE 1 rfl rfl dX4_endStage_52 ?_
        refine gf_4_3 hE (ks_m hr (by decide)) zf_X4_35 dX4_endStage_53 ?_
        refine z_iload_n hE 2 rfl rfl dX4_endStage_56 ?_
        refine z_callV hE (c_X3_close l0 D0 cI0 cJ0 ad (us (us S 5 g3) r (sp_mid (S r) o)) r hr o (by omega)) (ks_m hr (by decide)) rfl rfl zm_X4_140 zi_yX3_close zs_yX3_close zn_RX3 zc_yX3_close (hy_X3_close) (Nat.le_of_ble_eq_true rfl) (Nat.le_of_ble_eq_true rfl) rfl rfl rfl (Nat.le_of_ble_eq_true rfl) dX4_endStage_57 ?_
        try simp only [us_eq, us_us, us_ne h5, us_ne h5b, us_in h5b]
        refine z_goto (tgt := 81) hE (d := dX4_endStage_60) (ht := by decide) ?_
        exact z_vret hE hR dX4_endStage_81 rfl (by first | (exfalso; omega) | (refine ⟨g3, ?_, hg4⟩; unfold sp_end; first | rw [if_pos (by omega)] | rw [if_neg (by omega)]) | (refine ⟨S 5, ?_, fun q h => rfl⟩; rw [us_id]; unfold sp_end; rw [if_pos (by omega)]))
  · refine z_aload_n hE 1 rfl rfl dX4_endStage_15 ?_
    refine z_iload_n hE 2 rfl rfl dX4_endStage_16 ?_
    have hti := inv_tre hI h1.1 h1.2 h2
    have t14 : sp_tre (S r) o 14 = S r 14 := tre_keep ⟨by omega, by omega⟩ h1.1 (by omega) (by omega) (by omega) (by omega)
    refine z_callV hE (c_X4_sellToTreasury l0 D0 cI0 cJ0 ad S r hr o hI (by omega)) (ks_m hr (by decide)) rfl rfl zm_X4_126 zi_yX4_sellToTreasury zs_yX4_sellToTreasury zn_RX4 zc_yX4_sellToTreasury (hy_X4_sellToTreasury) (Nat.le_of_ble_eq_true rfl) (Nat.le_of_ble_eq_true rfl) rfl rfl rfl (Nat.le_of_ble_eq_true rfl) dX4_endStage_17 ?_
    refine z_aload_n hE 1 rfl rfl dX4_endStage_20 ?_
    refine z_iload_n hE 2 rfl rfl dX4_endStage_21 ?_
    refine z_callV hE (c_X4_sellToBuyer l0 D0 cI0 cJ0 ad (us S r (sp_tre ((S r)) o)) r hr o (by rw [us_eq]; exact hti) (by rw [us_eq, t14]; exact h1)) (ks_m hr (by decide)) rfl rfl zm_X4_130 zi_yX4_sellToBuyer zs_yX4_sellToBuyer zn_RX4 zc_yX4_sellToBuyer (hy_X4_sellToBuyer) (Nat.le_of_ble_eq_true rfl) (Nat.le_of_ble_eq_true rfl) rfl rfl rfl (Nat.le_of_ble_eq_true rfl) dX4_endStage_22 ?_
    try simp only [us_eq, us_us, us_ne h5, us_ne h5b, us_in h5b]
    have em : sp_toB (sp_tre (S r) o) o = sp_mid (S r) o := by unfold sp_mid; rw [if_pos (by omega)]
    rw [em]
    refine z_goto (tgt := 35) hE (d := dX4_endStage_25) (ht := by decide) ?_
    refine z_iload_n hE 0 rfl rfl dX4_endStage_35 ?_
    refine z_iconst hE dX4_endStage_36 ?_
    refine z_icmp_eq (tgt := 52) hE dX4_endStage_37 (by decide) ⟨by omega, by omega⟩ ⟨by omega, by omega⟩ (fun c4 => ?_) (fun c4 => ?_)
    · refine z_aload_n hE 1 rfl rfl dX4_endStage_52 ?_
      refine gf_4_3 hE (ks_m hr (by decide)) zf_X4_35 dX4_endStage_53 ?_
      refine z_iload_n hE 2 rfl rfl dX4_endStage_56 ?_
      refine z_callV hE (c_X3_close l0 D0 cI0 cJ0 ad (us S r (sp_mid (S r) o)) r hr o (by omega)) (ks_m hr (by decide)) rfl rfl zm_X4_140 zi_yX3_close zs_yX3_close zn_RX3 zc_yX3_close (hy_X3_close) (Nat.le_of_ble_eq_true rfl) (Nat.le_of_ble_eq_true rfl) rfl rfl rfl (Nat.le_of_ble_eq_true rfl) dX4_endStage_57 ?_
      try simp only [us_eq, us_us, us_ne h5, us_ne h5b, us_in h5b]
      refine z_goto (tgt := 81) hE (d := dX4_endStage_60) (ht := by decide) ?_
      exact z_vret hE hR dX4_endStage_81 rfl (by first | (exfalso; omega) | (refine ⟨g3, ?_, hg4⟩; unfold sp_end; first | rw [if_pos (by omega)] | rw [if_neg (by omega)]) | (refine ⟨S 5, ?_, fun q h => rfl⟩; rw [us_id]; unfold sp_end; rw [if_pos (by omega)]))
    · refine z_aload_n hE 1 rfl rfl dX4_endStage_40 ?_
      refine gf_4_3 hE (ks_m hr (by decide)) zf_X4_35 dX4_endStage_41 ?_
      refine gf_3_4 hE (ks_m hr (by decide)) zf_X4_137 dX4_endStage_44 ?_
      refine z_iload_n hE 2 rfl rfl dX4_endStage_47 ?_
      refine al_12 hE (ks_m hr (by decide)) (by omega) (by omega) dX4_endStage_48 ?_
      try simp only [us_eq, us_us, us_ne h5, us_ne h5b, us_in h5b]
      refine z_if_gt (tgt := 63) hE dX4_endStage_49 (by decide) ⟨by omega, by omega⟩ (fun c5 => ?_) (fun c5 => ?_)
      · refine z_aload_n hE 1 rfl rfl dX4_endStage_63 ?_
        refine gf_4_3 hE (ks_m hr (by decide)) zf_X4_35 dX4_endStage_64 ?_
        refine z_iload_n hE 2 rfl rfl dX4_endStage_67 ?_
        refine z_iload_n hE 0 rfl rfl dX4_endStage_68 ?_
        refine z_iconst hE dX4_endStage_69 ?_
        refine z_iadd hE dX4_endStage_70 ?_
        refine z_aload_n hE 1 rfl rfl dX4_endStage_71 ?_
        refine gf_4_1 hE (ks_m hr (by decide)) zf_X4_21 dX4_endStage_72 ?_
        refine gf_5_4 hE (ks_m hr (by decide)) zf_X4_143 dX4_endStage_75 ?_
        try simp only [us_eq, us_us, us_ne h5, us_ne h5b, us_in h5b]
        refine z_callV hE (c_X3_beginStage l0 D0 cI0 cJ0 ad (us S r (sp_mid (S r) o)) r hr o ((S r (59 + 22 * o)) + 1) ((sp_mid (S r) o) 13) (by omega)) (ks_m hr (by decide)) rfl rfl zm_X4_146 zi_yX3_beginStage zs_yX3_beginStage zn_RX3 zc_yX3_beginStage (hy_X3_beginStage) (Nat.le_of_ble_eq_true rfl) (Nat.le_of_ble_eq_true rfl) rfl rfl rfl (Nat.le_of_ble_eq_true rfl) dX4_endStage_78 ?_
        try simp only [us_eq, us_us, us_ne h5, us_ne h5b, us_in h5b]
        exact z_vret hE hR dX4_endStage_81 rfl (by first | (exfalso; omega) | (refine ⟨g3, ?_, hg4⟩; unfold sp_end; first | rw [if_pos (by omega)] | rw [if_neg (by omega)]) | (refine ⟨S 5, ?_, fun q h => rfl⟩; rw [us_id]; unfold sp_end; rw [if_pos (by omega)]))
      · refine z_aload_n hE 1 rfl rfl dX4_endStage_52 ?_
        refine gf_4_3 hE (ks_m hr (by decide)) zf_X4_35 dX4_endStage_53 ?_
        refine z_iload_n hE 2 rfl rfl dX4_endStage_56 ?_
        refine z_callV hE (c_X3_close l0 D0 cI0 cJ0 ad (us S r (sp_mid (S r) o)) r hr o (by omega)) (ks_m hr (by decide)) rfl rfl zm_X4_140 zi_yX3_close zs_yX3_close zn_RX3 zc_yX3_close (hy_X3_close) (Nat.le_of_ble_eq_true rfl) (Nat.le_of_ble_eq_true rfl) rfl rfl rfl (Nat.le_of_ble_eq_true rfl) dX4_endStage_57 ?_
        try simp only [us_eq, us_us, us_ne h5, us_ne h5b, us_in h5b]
        refine z_goto (tgt := 81) hE (d := dX4_endStage_60) (ht := by decide) ?_
        exact z_vret hE hR dX4_endStage_81 rfl (by first | (exfalso; omega) | (refine ⟨g3, ?_, hg4⟩; unfold sp_end; first | rw [if_pos (by omega)] | rw [if_neg (by omega)]) | (refine ⟨S 5, ?_, fun q h => rfl⟩; rw [us_id]; unfold sp_end; rw [if_pos (by omega)]))
theorem dayS_s {s : Int → Int} {i : Int} (h : 0 ≤ i) : sp_dayS s (i + 1).toNat = sp_off (sp_dayS s i.toNat) i := by
  rw [show (i + 1).toNat = i.toNat + 1 by omega]
  show sp_off _ (i.toNat : Int) = _
  rw [Int.toNat_of_nonneg h]
theorem dayC_s {s : Int → Int} {i : Int} (h : 0 ≤ i) : sp_dayC s (i + 1).toNat = sp_dayC s i.toNat + sp_offC (sp_dayS s i.toNat) i := by
  rw [show (i + 1).toNat = i.toNat + 1 by omega]
  show _ + sp_offC _ (i.toNat : Int) = _
  rw [Int.toNat_of_nonneg h]
theorem end_stage {s : Int → Int} (h : Inv0 s) {o : Int} (h0 : 0 ≤ o) (h1 : o < s 14) (hop : s (59 + 22 * o) ≠ 3) : (sp_end s o (59 + 22 * o) = 3 ↔ sp_shut s o) := by
  have ho := inO h o h0 h1
  unfold sp_end
  by_cases c : sp_shut s o
  · rw [if_pos c]; exact ⟨fun _ => c, fun _ => if_pos rfl⟩
  · rw [if_neg c]
    refine ⟨fun q => ?_, fun q => absurd q c⟩
    have e : sp_begin (sp_mid s o) o (s (59 + 22 * o) + 1) (sp_mid s o 13) (59 + 22 * o) = s (59 + 22 * o) + 1 := if_pos rfl
    rw [e] at q
    exact absurd (Or.inl (by omega)) c
theorem dayC_b {s : Int → Int} : ∀ n : Nat, 0 ≤ sp_dayC s n ∧ sp_dayC s n ≤ n
  | 0 => by unfold sp_dayC; omega
  | n + 1 => by
    have := dayC_b (s := s) n
    have h2 : 0 ≤ sp_offC (sp_dayS s n) n ∧ sp_offC (sp_dayS s n) n ≤ 1 := by unfold sp_offC; split <;> omega
    unfold sp_dayC
    omega
theorem off_A {s : Int → Int} {i : Int} (h : ¬ s (59 + 22 * i) ≠ 3) : sp_off s i = s ∧ sp_offC s i = 0 := by
  constructor
  · unfold sp_off; rw [if_neg h]
  · unfold sp_offC; rw [if_neg (fun q => h q.1.1)]
theorem off_B {s : Int → Int} {i : Int} (h : s (59 + 22 * i) ≠ 3) (h2 : ¬ s (645 + i) - 1 ≤ 0) : sp_off s i = sp_tick s i ∧ sp_offC s i = 0 := by
  constructor
  · unfold sp_off; rw [if_pos h, if_neg h2]
  · unfold sp_offC; rw [if_neg (fun q => h2 q.1.2)]
theorem off_C {s : Int → Int} {i : Int} (hI : Inv0 (sp_tick s i)) (h0 : 0 ≤ i) (h1 : i < sp_tick s i 14) (ht : sp_tick s i (59 + 22 * i) ≠ 3) (h : s (59 + 22 * i) ≠ 3) (h2 : s (645 + i) - 1 ≤ 0) (h3 : sp_end (sp_tick s i) i (59 + 22 * i) ≠ 3) : sp_off s i = sp_end (sp_tick s i) i ∧ sp_offC s i = 0 := by
  constructor
  · unfold sp_off; rw [if_pos h, if_pos h2]
  · unfold sp_offC; rw [if_neg (fun q => h3 ((end_stage hI h0 h1 ht).mpr q.2))]
theorem off_D {s : Int → Int} {i : Int} (hI : Inv0 (sp_tick s i)) (h0 : 0 ≤ i) (h1 : i < sp_tick s i 14) (ht : sp_tick s i (59 + 22 * i) ≠ 3) (h : s (59 + 22 * i) ≠ 3) (h2 : s (645 + i) - 1 ≤ 0) (h3 : ¬ sp_end (sp_tick s i) i (59 + 22 * i) ≠ 3) : sp_off s i = sp_end (sp_tick s i) i ∧ sp_offC s i = 1 := by
  constructor
  · unfold sp_off; rw [if_pos h, if_pos h2]
  · unfold sp_offC; rw [if_pos ⟨⟨h, h2⟩, (end_stage hI h0 h1 ht).mp (Classical.not_not.mp h3)⟩]
theorem dX4_runDay_0 : decode cX4_runDay 0 = .ok (.aload_n 0, 1) := by decide +kernel
theorem dX4_runDay_1 : decode cX4_runDay 1 = .ok (.dup, 1) := by decide +kernel
theorem dX4_runDay_2 : decode cX4_runDay 2 = .ok (.getfield 50, 3) := by decide +kernel
theorem dX4_runDay_5 : decode cX4_runDay 5 = .ok (.iconst 1, 1) := by decide +kernel
theorem dX4_runDay_6 : decode cX4_runDay 6 = .ok (.iadd, 1) := by decide +kernel
theorem dX4_runDay_7 : decode cX4_runDay 7 = .ok (.putfield 50, 3) := by decide +kernel
theorem dX4_runDay_10 : decode cX4_runDay 10 = .ok (.iconst 0, 1) := by decide +kernel
theorem dX4_runDay_11 : decode cX4_runDay 11 = .ok (.istore_n 2, 1) := by decide +kernel
theorem dX4_runDay_12 : decode cX4_runDay 12 = .ok (.iconst 0, 1) := by decide +kernel
theorem dX4_runDay_13 : decode cX4_runDay 13 = .ok (.istore_n 3, 1) := by decide +kernel
theorem dX4_runDay_14 : decode cX4_runDay 14 = .ok (.iload_n 3, 1) := by decide +kernel
theorem dX4_runDay_15 : decode cX4_runDay 15 = .ok (.aload_n 0, 1) := by decide +kernel
theorem dX4_runDay_16 : decode cX4_runDay 16 = .ok (.getfield 35, 3) := by decide +kernel
theorem dX4_runDay_19 : decode cX4_runDay 19 = .ok (.getfield 115, 3) := by decide +kernel
theorem dX4_runDay_22 : decode cX4_runDay 22 = .ok (.if_icmp .ge 56, 3) := by decide +kernel
theorem dX4_runDay_25 : decode cX4_runDay 25 = .ok (.aload_n 0, 1) := by decide +kernel
theorem dX4_runDay_26 : decode cX4_runDay 26 = .ok (.getfield 35, 3) := by decide +kernel
theorem dX4_runDay_29 : decode cX4_runDay 29 = .ok (.iload_n 3, 1) := by decide +kernel
theorem dX4_runDay_30 : decode cX4_runDay 30 = .ok (.invokevirtual 116, 3) := by decide +kernel
theorem dX4_runDay_33 : decode cX4_runDay 33 = .ok (.ifCond .eq 39, 3) := by decide +kernel
theorem dX4_runDay_36 : decode cX4_runDay 36 = .ok (.aload_n 0, 1) := by decide +kernel
theorem dX4_runDay_37 : decode cX4_runDay 37 = .ok (.getfield 35, 3) := by decide +kernel
theorem dX4_runDay_40 : decode cX4_runDay 40 = .ok (.iload_n 3, 1) := by decide +kernel
theorem dX4_runDay_41 : decode cX4_runDay 41 = .ok (.invokevirtual 119, 3) := by decide +kernel
theorem dX4_runDay_44 : decode cX4_runDay 44 = .ok (.ifCond .eq 28, 3) := by decide +kernel
theorem dX4_runDay_47 : decode cX4_runDay 47 = .ok (.aload_n 0, 1) := by decide +kernel
theorem dX4_runDay_48 : decode cX4_runDay 48 = .ok (.iload_n 3, 1) := by decide +kernel
theorem dX4_runDay_49 : decode cX4_runDay 49 = .ok (.aload_n 1, 1) := by decide +kernel
theorem dX4_runDay_50 : decode cX4_runDay 50 = .ok (.invokevirtual 122, 3) := by decide +kernel
theorem dX4_runDay_53 : decode cX4_runDay 53 = .ok (.iload_n 2, 1) := by decide +kernel
theorem dX4_runDay_54 : decode cX4_runDay 54 = .ok (.aload_n 0, 1) := by decide +kernel
theorem dX4_runDay_55 : decode cX4_runDay 55 = .ok (.getfield 35, 3) := by decide +kernel
theorem dX4_runDay_58 : decode cX4_runDay 58 = .ok (.iload_n 3, 1) := by decide +kernel
theorem dX4_runDay_59 : decode cX4_runDay 59 = .ok (.invokevirtual 116, 3) := by decide +kernel
theorem dX4_runDay_62 : decode cX4_runDay 62 = .ok (.ifCond .eq 7, 3) := by decide +kernel
theorem dX4_runDay_65 : decode cX4_runDay 65 = .ok (.iconst 0, 1) := by decide +kernel
theorem dX4_runDay_66 : decode cX4_runDay 66 = .ok (.goto 4, 3) := by decide +kernel
theorem dX4_runDay_69 : decode cX4_runDay 69 = .ok (.iconst 1, 1) := by decide +kernel
theorem dX4_runDay_70 : decode cX4_runDay 70 = .ok (.iadd, 1) := by decide +kernel
theorem dX4_runDay_71 : decode cX4_runDay 71 = .ok (.istore_n 2, 1) := by decide +kernel
theorem dX4_runDay_72 : decode cX4_runDay 72 = .ok (.iinc 3 1, 3) := by decide +kernel
theorem dX4_runDay_75 : decode cX4_runDay 75 = .ok (.goto (-61), 3) := by decide +kernel
theorem dX4_runDay_78 : decode cX4_runDay 78 = .ok (.iload_n 2, 1) := by decide +kernel
theorem dX4_runDay_79 : decode cX4_runDay 79 = .ok (.ireturn, 1) := by decide +kernel
theorem hy_X4_runDay : yX4_runDay.cls ≠ "java/lang/invoke/MethodHandle" ∧ yX4_runDay.cls ≠ "java/lang/invoke/VarHandle" ∧ (parseMethodDescriptor yX4_runDay.desc).map (fun d => d.parameters.length) = some 1 := ⟨by decide +kernel, by decide +kernel, by decide +kernel⟩
set_option maxHeartbeats 4000000 in
set_option maxRecDepth 100000 in
theorem lp_X4_runDay {E : zE} {l0 : Launch} {D0 : va_G} {cI0 cJ0 : ClassId} {ad : Nat → Nat → Nat} (hE : zG E l0 D0 cI0 cJ0 ad cX4_runDay 4 RX4 5 120) (S : zM) (r : Nat) (hr : r < 5) (hI : Inv0 (S r)) (hD : InvD (S r)) (hR : zR E (some .int) (some (.int (i32 (sp_dayN (S r))))) (fun X => ∃ g : Int → Int, X = us (us S 5 g) r (sp_day (S r)) ∧ ∀ q : Int, q < 100 → g q = S 5 q)) : ∀ (fuel : Nat) (i : Int) (g : Int → Int) (h9 : 0 ≤ i ∧ i ≤ S r 14) (hq : ∀ q : Int, q < 100 → g q = S 5 q), (S r 14 - i).toNat < fuel → Z E (us (us S 5 g) r (sp_dayS (uq (S r) 670 1) i.toNat)) 14 [(3, .int (i32 i)), (2, .int (i32 (sp_dayC (uq (S r) 670 1) i.toNat))), (0, .ref (ad r 0)), (1, .ref (ad 5 23))] [] := by
  intro fuel
  induction fuel with
  | zero => intro _ _ _ _ hz; omega
  | succ fuel ih =>
    intro i g h9 hq hz
    have hA := inA hI
    unfold InvA at hA
    have h5 : r ≠ 5 := by omega
    have h5b : 5 ≠ r := by omega
    have hu := inv_670 hI hD 1
    have hd := inv_dayS hu.1 hu.2.1 i.toNat (by omega)
    rw [hu.2.2] at hd
    have hdc := dayC_b (s := uq (S r) 670 1) i.toNat
    generalize hs1 : sp_dayS (uq (S r) 670 1) i.toNat = s1 at hd ⊢
    refine z_iload_n hE 0 rfl rfl dX4_runDay_14 ?_
    refine z_aload_n hE 2 rfl rfl dX4_runDay_15 ?_
    refine gf_4_3 hE (ks_m hr (by decide)) zf_X4_35 dX4_runDay_16 ?_
    refine gf_3_0 hE (ks_m hr (by decide)) zf_X4_115 dX4_runDay_19 ?_
    try simp only [us_eq, us_us, us_ne h5, us_ne h5b, us_in h5b]
    rw [hd.2.2]
    refine z_icmp_ge (tgt := 78) hE dX4_runDay_22 (by decide) ⟨by omega, by omega⟩ ⟨by omega, by omega⟩ (fun c1 => ?_) (fun c1 => ?_)
    · refine z_iload_n hE 1 rfl rfl dX4_runDay_78 ?_
      exact z_iret hE hR dX4_runDay_79 (congrArg (fun x => some (Value.int (i32 x))) (by unfold sp_dayN; rw [show i = S r 14 by omega])) (by exact ⟨g, by rw [← hs1, show i = S r 14 by omega]; rfl, hq⟩)
    · have hox := inO hd.1 i h9.1 (by omega)
      refine z_aload_n hE 2 rfl rfl dX4_runDay_25 ?_
      refine gf_4_3 hE (ks_m hr (by decide)) zf_X4_35 dX4_runDay_26 ?_
      refine z_iload_n hE 0 rfl rfl dX4_runDay_29 ?_
      refine z_callV hE (c_X3_isOpen l0 D0 cI0 cJ0 ad (us (us S 5 g) r s1) r hr i (by omega) (by rw [us_eq]; omega)) (ks_m hr (by decide)) rfl rfl zm_X4_116 zi_yX3_isOpen zs_yX3_isOpen zn_RX3 zc_yX3_isOpen (hy_X3_isOpen) (Nat.le_of_ble_eq_true rfl) (Nat.le_of_ble_eq_true rfl) rfl rfl rfl (Nat.le_of_ble_eq_true rfl) dX4_runDay_30 ?_
      try simp only [us_eq, us_us, us_ne h5, us_ne h5b, us_in h5b]
      refine z_ifb_eq (tgt := 72) hE dX4_runDay_33 (by decide) (fun co => ?_) (fun co => ?_)
      · have hoc : sp_off s1 i = s1 ∧ sp_offC s1 i = 0 := off_A co
        refine z_iinc hE 0 rfl (by decide) rfl dX4_runDay_72 ?_
        refine z_goto (tgt := 14) hE (d := dX4_runDay_75) (ht := by decide) ?_
        refine z_L (L' := [(3, .int (i32 (i + 1))), (2, .int (i32 (sp_dayC (uq (S r) 670 1) (i + 1).toNat))), (0, .ref (ad r 0)), (1, .ref (ad 5 23))]) [0, 1, 2, 3] (by rw [show sp_dayC (uq (S r) 670 1) (i + 1).toNat = sp_dayC (uq (S r) 670 1) i.toNat from by first | rfl | ((rw [dayC_s h9.1, hs1, hoc.2]) <;> omega)]; rfl) ?_
        rw [← hoc.1, ← hs1, ← dayS_s h9.1]
        exact ih (i + 1) g ⟨by omega, by omega⟩ hq (by omega)
      · have hdl := hd.2.1 i h9.1 (by omega) co
        refine z_aload_n hE 2 rfl rfl dX4_runDay_36 ?_
        refine gf_4_3 hE (ks_m hr (by decide)) zf_X4_35 dX4_runDay_37 ?_
        refine z_iload_n hE 0 rfl rfl dX4_runDay_40 ?_
        refine z_callV hE (c_X3_losesLastDay l0 D0 cI0 cJ0 ad (us (us S 5 g) r s1) r hr i (by omega) (by rw [us_eq]; omega)) (ks_m hr (by decide)) rfl rfl zm_X4_119 zi_yX3_losesLastDay zs_yX3_losesLastDay zn_RX3 zc_yX3_losesLastDay (hy_X3_losesLastDay) (Nat.le_of_ble_eq_true rfl) (Nat.le_of_ble_eq_true rfl) rfl rfl rfl (Nat.le_of_ble_eq_true rfl) dX4_runDay_41 ?_
        try simp only [us_eq, us_us, us_ne h5, us_ne h5b, us_in h5b]
        try simp only [us_eq, us_us, us_ne h5, us_ne h5b, us_in h5b]
        refine z_ifb_eq (tgt := 72) hE dX4_runDay_44 (by decide) (fun cl => ?_) (fun cl => ?_)
        · have hoc : sp_off s1 i = sp_tick (s1) i ∧ sp_offC s1 i = 0 := off_B co cl
          refine z_iinc hE 0 rfl (by decide) rfl dX4_runDay_72 ?_
          refine z_goto (tgt := 14) hE (d := dX4_runDay_75) (ht := by decide) ?_
          refine z_L (L' := [(3, .int (i32 (i + 1))), (2, .int (i32 (sp_dayC (uq (S r) 670 1) (i + 1).toNat))), (0, .ref (ad r 0)), (1, .ref (ad 5 23))]) [0, 1, 2, 3] (by rw [show sp_dayC (uq (S r) 670 1) (i + 1).toNat = sp_dayC (uq (S r) 670 1) i.toNat from by first | rfl | ((rw [dayC_s h9.1, hs1, hoc.2]) <;> omega)]; rfl) ?_
          rw [← hoc.1, ← hs1, ← dayS_s h9.1]
          exact ih (i + 1) g ⟨by omega, by omega⟩ hq (by omega)
        · have ht := inv_tick hd.1 h9.1 (by omega)
          have t14 : sp_tick s1 i 14 = s1 14 := tick_ne (by omega) (by omega)
          have t59 : sp_tick s1 i (59 + 22 * i) = s1 (59 + 22 * i) := tick_ne (by omega) (by omega)
          have hen := inv_end ht h9.1 (by omega) (by omega)
          have e14 := end_keep ht (q := 14) h9.1 (by omega) (by omega) (by omega) (by omega) (by omega) (by omega)
          have heo := inO hen i h9.1 (by omega)
          refine z_aload_n hE 2 rfl rfl dX4_runDay_47 ?_
          refine z_iload_n hE 0 rfl rfl dX4_runDay_48 ?_
          refine z_aload_n hE 3 rfl rfl dX4_runDay_49 ?_
          refine z_callVp hE (c_X4_endStage l0 D0 cI0 cJ0 ad (us (us S 5 g) r (sp_tick (s1) i)) r hr i (by rw [us_eq]; exact ht) (by rw [us_eq]; omega) (by rw [us_eq]; omega)) (ks_m hr (by decide)) rfl rfl zm_X4_122 zi_yX4_endStage zs_yX4_endStage zn_RX4 zc_yX4_endStage (hy_X4_endStage) (Nat.le_of_ble_eq_true rfl) (Nat.le_of_ble_eq_true rfl) rfl rfl rfl (Nat.le_of_ble_eq_true rfl) dX4_runDay_50 (fun M50 hM50 => ?_)
          obtain ⟨g50, rfl, hg50⟩ := hM50
          try simp only [us_eq, us_us, us_ne h5, us_ne h5b, us_in h5b]
          try simp only [us_eq, us_ne h5, us_ne h5b] at hg50
          refine z_iload_n hE 1 rfl rfl dX4_runDay_53 ?_
          refine z_aload_n hE 2 rfl rfl dX4_runDay_54 ?_
          refine gf_4_3 hE (ks_m hr (by decide)) zf_X4_35 dX4_runDay_55 ?_
          refine z_iload_n hE 0 rfl rfl dX4_runDay_58 ?_
          refine z_callV hE (c_X3_isOpen l0 D0 cI0 cJ0 ad (us (us S 5 g50) r (sp_end (sp_tick (s1) i) i)) r hr i (by omega) (by rw [us_eq]; omega)) (ks_m hr (by decide)) rfl rfl zm_X4_116 zi_yX3_isOpen zs_yX3_isOpen zn_RX3 zc_yX3_isOpen (hy_X3_isOpen) (Nat.le_of_ble_eq_true rfl) (Nat.le_of_ble_eq_true rfl) rfl rfl rfl (Nat.le_of_ble_eq_true rfl) dX4_runDay_59 ?_
          try simp only [us_eq, us_us, us_ne h5, us_ne h5b, us_in h5b]
          refine z_ifb_eq (tgt := 69) hE dX4_runDay_62 (by decide) (fun ce => ?_) (fun ce => ?_)
          · refine z_iconst hE dX4_runDay_69 ?_
            refine z_iadd hE dX4_runDay_70 ?_
            refine z_istore_n hE rfl (by decide) rfl dX4_runDay_71 ?_
            have hoc : sp_off s1 i = sp_end (sp_tick (s1) i) i ∧ sp_offC s1 i = 1 := off_D ht h9.1 (by omega) (by omega) co cl ce
            refine z_iinc hE 1 rfl (by decide) rfl dX4_runDay_72 ?_
            refine z_goto (tgt := 14) hE (d := dX4_runDay_75) (ht := by decide) ?_
            refine z_L (L' := [(3, .int (i32 (i + 1))), (2, .int (i32 (sp_dayC (uq (S r) 670 1) (i + 1).toNat))), (0, .ref (ad r 0)), (1, .ref (ad 5 23))]) [0, 1, 2, 3] (by rw [show sp_dayC (uq (S r) 670 1) (i + 1).toNat = (sp_dayC (uq (S r) 670 1) i.toNat) + 1 from by first | rfl | ((rw [dayC_s h9.1, hs1, hoc.2]) <;> omega)]; rfl) ?_
            rw [← hoc.1, ← hs1, ← dayS_s h9.1]
            exact ih (i + 1) g50 ⟨by omega, by omega⟩ (fun q h1 => (hg50 q h1).trans (hq q h1)) (by omega)
          · refine z_iconst hE dX4_runDay_65 ?_
            refine z_goto (tgt := 70) hE (d := dX4_runDay_66) (ht := by decide) ?_
            refine z_iadd hE dX4_runDay_70 ?_
            refine z_istore_n hE rfl (by decide) rfl dX4_runDay_71 ?_
            have hoc : sp_off s1 i = sp_end (sp_tick (s1) i) i ∧ sp_offC s1 i = 0 := off_C ht h9.1 (by omega) (by omega) co cl ce
            refine z_iinc hE 1 rfl (by decide) rfl dX4_runDay_72 ?_
            refine z_goto (tgt := 14) hE (d := dX4_runDay_75) (ht := by decide) ?_
            refine z_L (L' := [(3, .int (i32 (i + 1))), (2, .int (i32 (sp_dayC (uq (S r) 670 1) (i + 1).toNat))), (0, .ref (ad r 0)), (1, .ref (ad 5 23))]) [0, 1, 2, 3] (by rw [show sp_dayC (uq (S r) 670 1) (i + 1).toNat = (sp_dayC (uq (S r) 670 1) i.toNat) + 0 from by first | rfl | ((rw [dayC_s h9.1, hs1, hoc.2]) <;> omega)]; rfl) ?_
            rw [← hoc.1, ← hs1, ← dayS_s h9.1]
            exact ih (i + 1) g50 ⟨by omega, by omega⟩ (fun q h1 => (hg50 q h1).trans (hq q h1)) (by omega)
set_option maxHeartbeats 4000000 in
set_option maxRecDepth 100000 in
theorem c_X4_runDay (l0 : Launch) (D0 : va_G) (cI0 cJ0 : ClassId) (ad : Nat → Nat → Nat) (S : zM) (r : Nat) (hr : r < 5) (hI : Inv0 (S r)) (hD : InvD (S r)) : Ct l0 D0 cI0 cJ0 ad yX4_runDay cX4_runDay 4 (some .int) 5 120 [.ref (ad r 0), .ref (ad 5 23)] S (some (.int (i32 (sp_dayN (S r))))) (fun X => ∃ g : Int → Int, X = us (us S 5 g) r (sp_day (S r)) ∧ ∀ q : Int, q < 100 → g q = S 5 q) := by
  refine Ct.of (by decide) (Nat.le_of_ble_eq_true rfl) (fun E hE hR => ?_)
  have hE : zG E l0 D0 cI0 cJ0 ad cX4_runDay 4 RX4 5 120 := hE
  show Z E S 0 [(0, .ref (ad r 0)), (1, .ref (ad 5 23))] []
  have hA := inA hI
  unfold InvA at hA
  have h5 : r ≠ 5 := by omega
  have h5b : 5 ≠ r := by omega
  have hu := inv_670 hI hD 1
  refine z_aload_n hE 0 rfl rfl dX4_runDay_0 ?_
  refine z_dup hE rfl dX4_runDay_1 ?_
  refine gf_4_6 hE (ks_m hr (by decide)) zf_X4_50 dX4_runDay_2 ?_
  refine z_iconst hE dX4_runDay_5 ?_
  refine z_iadd hE dX4_runDay_6 ?_
  refine pf_4_6 hE (ks_m hr (by decide)) zf_X4_50 dX4_runDay_7 ?_
  refine z_iconst hE dX4_runDay_10 ?_
  refine z_istore_n hE rfl (by decide) rfl dX4_runDay_11 ?_
  refine z_iconst hE dX4_runDay_12 ?_
  refine z_istore_n hE rfl (by decide) rfl dX4_runDay_13 ?_
  refine z_L (L' := [(3, .int (i32 (0 : Int))), (2, .int (i32 (sp_dayC (uq (S r) 670 1) ((0 : Int)).toNat))), (0, .ref (ad r 0)), (1, .ref (ad 5 23))]) [0, 1, 2, 3] (by rw [show sp_dayC (uq (S r) 670 1) ((0 : Int)).toNat = 0 from by first | rfl | (rfl)]; rfl) ?_
  rw [show us S r (up (S r) 670 (S r 670 + 1)) = us (us S 5 (S 5)) r (sp_dayS (uq (S r) 670 1) (0 : Int).toNat) from by rw [us_id]; rfl]
  exact lp_X4_runDay hE S r hr hI hD hR 21 ((0 : Int)) (S 5) ⟨by omega, by omega⟩ (fun q h1 => rfl) (by omega)
end
section
/-! WHAT THE CALLS ANSWER AND DO -/
abbrev isM (s : Int → Int) (m : Int) : Prop := 0 ≤ m ∧ m < s 0
abbrev isO (s : Int → Int) (o : Int) : Prop := 0 ≤ o ∧ o < s 14
abbrev isQ (s : Int → Int) (q : Int) : Prop := 0 ≤ q ∧ q < s 15
abbrev ok_join (s : Int → Int) : Prop := s 0 < 12
def rv_join (s : Int → Int) : Int := if s 0 < 12 then s 0 else -2000000003
def nx_join (s : Int → Int) : Int → Int := up s 0 (s 0 + 1)
abbrev ok_issue (s : Int → Int) (m n : Int) : Prop := (isM s m ∧ 1 ≤ n ∧ n ≤ 1000) ∧ sp_all s + n ≤ 10000
def rv_issue (s : Int → Int) (m n : Int) : Int := if isM s m ∧ 1 ≤ n ∧ n ≤ 1000 then (if sp_all s + n ≤ 10000 then sp_all s + n else -2000000003) else -2000000001
def nx_issue (s : Int → Int) (m n : Int) : Int → Int := uq (uq s (19 + 3 * m) n) (21 + 3 * m) (-(s 6 * n))
abbrev ok_setMilk (s : Int → Int) (m v : Int) : Prop := isM s m ∧ 0 ≤ v ∧ v ≤ 1000000
def rv_setMilk (s : Int → Int) (m v : Int) : Int := if isM s m ∧ 0 ≤ v ∧ v ≤ 1000000 then s (20 + 3 * m) else -2000000001
def nx_setMilk (s : Int → Int) (m v : Int) : Int → Int := up s (20 + 3 * m) v
abbrev ok_setLitersPerShare (v : Int) : Prop := 100 ≤ v ∧ v ≤ 10000
def rv_setLitersPerShare (s : Int → Int) (v : Int) : Int := if 100 ≤ v ∧ v ≤ 10000 then s 1 else -2000000001
def nx_setLitersPerShare (s : Int → Int) (v : Int) : Int → Int := up s 1 v
abbrev ok_setTreasuryLimit (v : Int) : Prop := 0 ≤ v ∧ v ≤ 1000
def rv_setTreasuryLimit (s : Int → Int) (v : Int) : Int := if 0 ≤ v ∧ v ≤ 1000 then s 3 else -2000000001
def nx_setTreasuryLimit (s : Int → Int) (v : Int) : Int → Int := up s 3 v
abbrev ok_setBooks (a b : Int) : Prop := (0 ≤ a ∧ a ≤ 100000000) ∧ 0 ≤ b ∧ b ≤ 100000000
def rv_setBooks (s : Int → Int) (a b : Int) : Int := if (0 ≤ a ∧ a ≤ 100000000) ∧ 0 ≤ b ∧ b ≤ 100000000 then s 7 - s 8 else -2000000001
def nx_setBooks (s : Int → Int) (a b : Int) : Int → Int := up (up s 7 a) 8 b
abbrev ok_addSurplus (a : Int) : Prop := -1000000 ≤ a ∧ a ≤ 1000000
def rv_addSurplus (s : Int → Int) (a : Int) : Int := if -1000000 ≤ a ∧ a ≤ 1000000 then (if 3 ≤ s 9 then 3 else s 9 + 1) else -2000000001
def nx_addSurplus (s : Int → Int) (a : Int) : Int → Int := sp_rec s a
abbrev ok_valuate (s : Int → Int) : Prop := 0 < sp_all s
def rv_valuate (s : Int → Int) : Int := if 0 < sp_all s then max (sp_val s (sp_all s)) (s 5) else -2000000002
def nx_valuate (s : Int → Int) : Int → Int := up s 6 (max (sp_val s (sp_all s)) (s 5))
abbrev o1_offer (s : Int → Int) (se bu n pr : Int) : Prop := (isM s se ∧ isM s bu ∧ se ≠ bu) ∧ (1 ≤ n ∧ n ≤ 1000) ∧ 1 ≤ pr ∧ pr ≤ 100000
abbrev o2_offer (s : Int → Int) (se n pr : Int) : Prop := n ≤ sp_free s se ∧ s 5 ≤ pr
abbrev ok_offer (s : Int → Int) (se bu n pr : Int) : Prop := o1_offer s se bu n pr ∧ o2_offer s se n pr ∧ s 14 < 20
def rv_offer (s : Int → Int) (se bu n pr : Int) : Int := if o1_offer s se bu n pr then (if o2_offer s se n pr then (if s 14 < 20 then s 14 else -2000000003) else -2000000002) else -2000000001
abbrev o1_claim (s : Int → Int) (o m n : Int) : Prop := isO s o ∧ isM s m ∧ 1 ≤ n ∧ n ≤ 1000
abbrev ok_claim (s : Int → Int) (o m n : Int) : Prop := o1_claim s o m n ∧ sp_can s o m
def nx_claim (s : Int → Int) (o m n : Int) : Int → Int := up s (65 + 22 * o + m) n
def rv_claim (s : Int → Int) (o m n : Int) : Int := if o1_claim s o m n then (if sp_can s o m then sm (fun k => nx_claim s o m n (65 + 22 * o + k)) 12 else -2000000002) else -2000000001
abbrev ok_withdraw (s : Int → Int) (o : Int) : Prop := isO s o ∧ s (59 + 22 * o) ≠ 3
def rv_withdraw (s : Int → Int) (o : Int) : Int := if isO s o then (if s (59 + 22 * o) ≠ 3 then s (57 + 22 * o) else -2000000002) else -2000000001
def nx_withdraw (s : Int → Int) (o : Int) : Int → Int := sp_begin s o 3 0
abbrev ok_passDays (d : Int) : Prop := 1 ≤ d ∧ d ≤ 60
def rv_passDays (s : Int → Int) (d : Int) : Int := if 1 ≤ d ∧ d ≤ 60 then sp_daysN s d.toNat else -2000000001
def nx_passDays (s : Int → Int) (d : Int) : Int → Int := uq (sp_days s d.toNat) 18 d
abbrev ok_setVoting (a b : Int) : Prop := (0 ≤ a ∧ a ≤ 3) ∧ 0 ≤ b ∧ b ≤ 100
def rv_setVoting (s : Int → Int) (a b : Int) : Int := if (0 ≤ a ∧ a ≤ 3) ∧ 0 ≤ b ∧ b ≤ 100 then s 16 else -2000000001
def nx_setVoting (s : Int → Int) (a b : Int) : Int → Int := up (up s 16 a) 17 b
abbrev o1_propose (k v : Int) : Prop := (k = 0 ∧ 1 ≤ v ∧ v ≤ 1000) ∨ (k = 1 ∧ 5 ≤ v ∧ v ≤ 100) ∨ (k = 2 ∧ 1 ≤ v ∧ v ≤ 10) ∨ (k = 3 ∧ 1 ≤ v ∧ v ≤ 1000) ∨ (k = 4 ∧ 1 ≤ v ∧ v ≤ 100)
abbrev ok_propose (s : Int → Int) (k v : Int) : Prop := o1_propose k v ∧ s 15 < 10
def rv_propose (s : Int → Int) (k v : Int) : Int := if o1_propose k v then (if s 15 < 10 then s 15 else -2000000003) else -2000000001
abbrev o1_vote (s : Int → Int) (q m y : Int) : Prop := isQ s q ∧ isM s m ∧ 0 ≤ y ∧ y ≤ 1
abbrev ok_vote (s : Int → Int) (q m y : Int) : Prop := o1_vote s q m y ∧ s (497 + 15 * q) = 0
def nx_vote (s : Int → Int) (q m y : Int) : Int → Int := up s (498 + 15 * q + m) (if y = 1 then 1 else 2)
def rv_vote (s : Int → Int) (q m y : Int) : Int := if o1_vote s q m y then (if s (497 + 15 * q) = 0 then sp_cnt (nx_vote s q m y) q else -2000000002) else -2000000001
abbrev ok_closeMotion (s : Int → Int) (q : Int) : Prop := isQ s q ∧ s (497 + 15 * q) = 0
def rv_closeMotion (s : Int → Int) (q : Int) : Int := if isQ s q then (if s (497 + 15 * q) = 0 then zbo (sp_pass s q) else -2000000002) else -2000000001
def rv_shares (s : Int → Int) (m : Int) : Int := if isM s m then s (19 + 3 * m) else -2000000001
def rv_account (s : Int → Int) (m : Int) : Int := if isM s m then s (21 + 3 * m) else -2000000001
def rv_requirement (s : Int → Int) (m : Int) : Int := if isM s m then sp_req s m else -2000000001
def rv_freeShares (s : Int → Int) (m : Int) : Int := if isM s m then sp_free s m else -2000000001
def rv_room (s : Int → Int) (m : Int) : Int := if isM s m then sp_room s m else -2000000001
def rv_stage (s : Int → Int) (o : Int) : Int := if isO s o then s (59 + 22 * o) else -2000000001
def rv_remaining (s : Int → Int) (o : Int) : Int := if isO s o then s (57 + 22 * o) else -2000000001
def rv_daysLeft (s : Int → Int) (o : Int) : Int := if isO s o then (if s (59 + 22 * o) ≠ 3 then s (645 + o) else -2000000004) else -2000000001
def rv_sold (s : Int → Int) (o w : Int) : Int := if isO s o ∧ 0 ≤ w ∧ w ≤ 3 then s (61 + 22 * o + w) else -2000000001
def rv_claimOf (s : Int → Int) (o m : Int) : Int := if isO s o ∧ isM s m then s (65 + 22 * o + m) else -2000000001
def rv_votes (s : Int → Int) (m : Int) : Int := if isM s m then sp_votes s m else -2000000001
def rv_motionState (s : Int → Int) (q : Int) : Int := if isQ s q then s (497 + 15 * q) else -2000000001
def rv_votesFor (s : Int → Int) (q : Int) : Int := if isQ s q then sp_sum s q 1 else -2000000001
/-! the invariant is kept -/
theorem inv_sc {s t : Int → Int} (h : Inv s) (hA : InvA t) (hS : InvS t) (e : ∀ q : Int, (q = 0 ∨ q = 2 ∨ q = 14 ∨ q = 15 ∨ q = 18 ∨ 19 ≤ q) → t q = s q) : Inv t := by
  obtain ⟨h0, hD, h18⟩ := h
  have e0 := e 0 (by omega)
  have e14 := e 14 (by omega)
  have e15 := e 15 (by omega)
  have h2 : ∀ m : Int, sp_rem t m = sp_rem s m := fun m => by
    unfold sp_rem
    rw [e14]
    exact sm_cg fun k a b => by unfold sp_ro; rw [e _ (by omega), e _ (by omega), e _ (by omega)]
  refine ⟨⟨hA, hS, fun m a b => ?_, ?_, fun o a b => ?_, fun o w a b c d => ?_, fun o k a b c d => ?_, fun q a b => ?_, fun q k a b c d => ?_, fun m a b => ?_⟩, fun o a b c => ?_, by rw [e 18 (by omega), e 670 (by omega)]; exact h18⟩
  · rw [e0, e _ (by omega), e _ (by omega)]; exact inMm h0 m a b
  · have : sp_all t = sp_all s := by
      unfold sp_all
      rw [e0, e 2 (by omega), sm_cg fun k a b => e (19 + 3 * k) (by omega)]
    rw [this]; exact (inT h0).2
  · rw [e14] at b
    rw [e0, e _ (by omega), e _ (by omega), e _ (by omega), e _ (by omega), e _ (by omega)]; exact inO h0 o a b
  · rw [e14] at a
    have := inA h0
    unfold InvA at this
    rw [e _ (by omega)]; exact inZ h0 o w a b c d
  · rw [e0, e _ (by omega)]; exact inC h0 o k a b c d
  · rw [e15] at b
    rw [e _ (by omega), e _ (by omega), e _ (by omega)]; exact inQ h0 q a b
  · rw [e15, e _ (by omega)]; exact inV h0 q k a b c d
  · rw [h2, e _ (by omega)]; exact inB h0 m a b
  · rw [e14] at b
    rw [e _ (by omega)] at c
    rw [e _ (by omega), e _ (by omega)]; exact hD o a b c
theorem inv_put {s : Int → Int} (h : Inv s) {q v : Int} (hq : q = 1 ∨ q = 3 ∨ q = 4 ∨ q = 5 ∨ q = 6 ∨ q = 7 ∨ q = 8 ∨ q = 13 ∨ q = 16 ∨ q = 17) (hA : InvA (up s q v)) : Inv (up s q v) :=
  inv_sc h hA (fun k a b => by rw [up_ne (by omega)]; exact inS h.1 k a b) (fun x hx => up_ne (by omega))
theorem invA_put {s : Int → Int} (h : InvA s) {q v : Int} (hq : (q = 1 ∧ 100 ≤ v ∧ v ≤ 10000) ∨ (q = 3 ∧ 0 ≤ v ∧ v ≤ 1000) ∨ (q = 4 ∧ 5 ≤ v ∧ v ≤ 100) ∨ (q = 5 ∧ 1 ≤ v ∧ v ≤ 1000) ∨ (q = 6 ∧ 1 ≤ v ∧ v ≤ 100000000) ∨ (q = 7 ∧ 0 ≤ v ∧ v ≤ 100000000) ∨ (q = 8 ∧ 0 ≤ v ∧ v ≤ 100000000) ∨ (q = 13 ∧ 1 ≤ v ∧ v ≤ 10) ∨ (q = 16 ∧ 0 ≤ v ∧ v ≤ 3) ∨ (q = 17 ∧ 0 ≤ v ∧ v ≤ 100)) : InvA (up s q v) := by
  unfold InvA at h ⊢
  rcases hq with ⟨rfl, a⟩ | ⟨rfl, a⟩ | ⟨rfl, a⟩ | ⟨rfl, a⟩ | ⟨rfl, a⟩ | ⟨rfl, a⟩ | ⟨rfl, a⟩ | ⟨rfl, a⟩ | ⟨rfl, a⟩ | ⟨rfl, a⟩ <;> simp [up] <;> omega
theorem inv_setLitersPerShare {s : Int → Int} (h : Inv s) {v : Int} (hv : ok_setLitersPerShare v) : Inv (nx_setLitersPerShare s v) := inv_put h (by omega) (invA_put (inA h.1) (by omega))
theorem inv_setTreasuryLimit {s : Int → Int} (h : Inv s) {v : Int} (hv : ok_setTreasuryLimit v) : Inv (nx_setTreasuryLimit s v) := inv_put h (by omega) (invA_put (inA h.1) (by omega))
theorem inv_setBooks {s : Int → Int} (h : Inv s) {a b : Int} (hv : ok_setBooks a b) : Inv (nx_setBooks s a b) := by
  have h1 : Inv (up s 7 a) := inv_put h (by omega) (invA_put (inA h.1) (by omega))
  exact inv_put h1 (by omega) (invA_put (inA h1.1) (by omega))
theorem inv_setVoting {s : Int → Int} (h : Inv s) {a b : Int} (hv : ok_setVoting a b) : Inv (nx_setVoting s a b) := by
  have h1 : Inv (up s 16 a) := inv_put h (by omega) (invA_put (inA h.1) (by omega))
  exact inv_put h1 (by omega) (invA_put (inA h1.1) (by omega))
theorem val_b {s : Int → Int} (h : Inv0 s) {all : Int} (ha : 1 ≤ all) : sp_val s all ≤ 100000000 ∧ -100000000 ≤ sp_val s all := by
  have hA := inA h
  unfold InvA at hA
  have hm := mean_b h
  have e1 := ediv_b (a := s 7 - s 8) (b := all) (M := 100000000) ha (by omega) (by omega)
  have e2 := ediv_b (a := 10 * sp_mean s) (b := all) (M := 10000000) ha (by omega) (by omega)
  unfold sp_val
  omega
theorem inv_valuate {s : Int → Int} (h : Inv s) (hv : ok_valuate s) : Inv (nx_valuate s) := by
  have hA := inA h.1
  have hb := val_b h.1 (all := sp_all s) (by omega)
  refine inv_put h (by omega) (invA_put hA ?_)
  unfold InvA at hA
  omega
theorem inv_addSurplus {s : Int → Int} (h : Inv s) {a : Int} (hv : ok_addSurplus a) : Inv (nx_addSurplus s a) := by
  have hA := inA h.1
  have hS := inS h.1
  have s0 : -1000000 ≤ s 10 ∧ s 10 ≤ 1000000 := hS 0 (by omega) (by omega)
  have s1 : -1000000 ≤ s 11 ∧ s 11 ≤ 1000000 := hS 1 (by omega) (by omega)
  have s2 : -1000000 ≤ s 12 ∧ s 12 ≤ 1000000 := hS 2 (by omega) (by omega)
  unfold nx_addSurplus sp_rec
  unfold InvA at hA
  split
  · refine inv_sc h ?_ (fun k k0 k1 => ?_) (fun q hq => ?_)
    · unfold InvA; simp [up]; omega
    · rcases (show k = 0 ∨ k = 1 ∨ k = 2 by omega) with rfl | rfl | rfl <;> simp [up] <;> omega
    · rw [up_ne (by omega), up_ne (by omega), up_ne (by omega), up_ne (by omega), up_ne (by omega)]
  · refine inv_sc h ?_ (fun k k0 k1 => ?_) (fun q hq => ?_)
    · unfold InvA
      rw [up_ne (by omega), up_ne (by omega), up_ne (by omega), up_ne (by omega), up_ne (by omega), up_ne (by omega), up_ne (by omega), up_ne (by omega), up_ne (by omega), up_ne (by omega), up_ne (by omega), up_ne (by omega), up_ne (by omega), up_ne (by omega), up_ne (by omega), up_ne (by omega), up_ne (by omega), up_ne (by omega), up_eq, up_ne (by omega), up_ne (by omega), up_ne (by omega), up_ne (by omega), up_ne (by omega), up_ne (by omega), up_ne (by omega), up_ne (by omega), up_ne (by omega), up_ne (by omega)]
      omega
    · rw [up_ne (by omega)]
      by_cases e : k = s 9
      · rw [e, up_eq]; omega
      · rw [up_ne (by omega)]; exact hS k k0 k1
    · rw [up_ne (by omega), up_ne (by omega)]
theorem inv_join {s : Int → Int} (h : Inv s) (hv : ok_join s) : Inv (nx_join s) := by
  obtain ⟨h0, hD, h18⟩ := h
  have hA := inA h0
  have e : ∀ q : Int, q ≠ 0 → nx_join s q = s q := fun q hq => up_ne hq
  have e0 : nx_join s 0 = s 0 + 1 := up_eq
  have h2 : ∀ m : Int, sp_rem (nx_join s) m = sp_rem s m := fun m => by
    unfold sp_rem
    rw [e 14 (by omega)]
    exact sm_cg fun k a b => by unfold sp_ro; rw [e _ (by omega), e _ (by omega), e _ (by omega)]
  have hA' := hA
  unfold InvA at hA
  refine ⟨⟨?_, fun k a b => ?_, fun m a b => ?_, ?_, fun o a b => ?_, fun o w a b c d => ?_, fun o k a b c d => ?_, fun q a b => ?_, fun q k a b c d => ?_, fun m a b => ?_⟩, fun o a b c => ?_, by rw [e 18 (by omega), e 670 (by omega)]; exact h18⟩
  · unfold InvA nx_join; simp [up]; omega
  · rw [e _ (by omega)]; exact inS h0 k a b
  · have := inMm h0 m a b
    rw [e0, e _ (by omega), e _ (by omega)]; exact ⟨this.1, this.2.1, this.2.2.1, fun z => this.2.2.2 (by omega)⟩
  · have : sp_all (nx_join s) = sp_all s := by
      unfold sp_all
      rw [e0, e 2 (by omega), sm_s hA.1.1, e _ (by omega), (inMm h0 (s 0) (by omega) (by omega)).2.2.2 (Int.le_refl _), sm_cg fun k a b => e (19 + 3 * k) (by omega)]
      omega
    rw [this]; exact (inT h0).2
  · rw [e 14 (by omega)] at b
    have := inO h0 o a b
    rw [e0, e _ (by omega), e _ (by omega), e _ (by omega), e _ (by omega), e _ (by omega)]; omega
  · rw [e 14 (by omega)] at a
    rw [e _ (by omega)]; exact inZ h0 o w a b c d
  · have := inC h0 o k a b c d
    rw [e0, e _ (by omega)]; exact ⟨this.1, this.2.1, fun z => this.2.2 (by omega)⟩
  · rw [e 15 (by omega)] at b
    rw [e _ (by omega), e _ (by omega), e _ (by omega)]; exact inQ h0 q a b
  · rw [e 15 (by omega), e _ (by omega)]; exact inV h0 q k a b c d
  · rw [h2, e _ (by omega)]; exact inB h0 m a b
  · rw [e 14 (by omega)] at b
    rw [e _ (by omega)] at c
    rw [e _ (by omega), e _ (by omega)]; exact hD o a b c
end
section
/-- only shares, milk and accounts changed -/
theorem inv_mem {s t : Int → Int} (h : Inv s) (hM : ∀ m : Int, 0 ≤ m → m < 12 → s (19 + 3 * m) ≤ t (19 + 3 * m) ∧ 0 ≤ t (20 + 3 * m) ∧ t (20 + 3 * m) ≤ 1000000 ∧ (s 0 ≤ m → t (19 + 3 * m) = 0)) (hT : sp_all t ≤ 10000) (e : ∀ q : Int, (q < 19 ∨ 55 ≤ q) → t q = s q) : Inv t := by
  obtain ⟨h0, hD, h18⟩ := h
  have e0 := e 0 (by omega)
  have e14 := e 14 (by omega)
  have e15 := e 15 (by omega)
  have hA := inA h0
  have h2 : ∀ m : Int, sp_rem t m = sp_rem s m := fun m => by
    unfold sp_rem
    rw [e14]
    exact sm_cg fun k a b => by unfold sp_ro; rw [e _ (by omega), e _ (by omega), e _ (by omega)]
  refine ⟨⟨?_, fun k a b => ?_, fun m a b => ?_, hT, fun o a b => ?_, fun o w a b c d => ?_, fun o k a b c d => ?_, fun q a b => ?_, fun q k a b c d => ?_, fun m a b => ?_⟩, fun o a b c => ?_, by rw [e 18 (by omega), e 670 (by omega)]; exact h18⟩
  · unfold InvA at hA ⊢
    rw [e 0 (by omega), e 1 (by omega), e 2 (by omega), e 3 (by omega), e 4 (by omega), e 5 (by omega), e 6 (by omega), e 7 (by omega), e 8 (by omega), e 9 (by omega), e 13 (by omega), e 14 (by omega), e 15 (by omega), e 16 (by omega), e 17 (by omega)]
    exact hA
  · rw [e _ (by omega)]; exact inS h0 k a b
  · have h3 := hM m a b
    have h4 := inMm h0 m a b
    rw [e0]; exact ⟨by omega, h3.2.1, h3.2.2.1, h3.2.2.2⟩
  · rw [e14] at b
    rw [e0, e _ (by omega), e _ (by omega), e _ (by omega), e _ (by omega), e _ (by omega)]; exact inO h0 o a b
  · rw [e14] at a
    unfold InvA at hA
    rw [e _ (by omega)]; exact inZ h0 o w a b c d
  · rw [e0, e _ (by omega)]; exact inC h0 o k a b c d
  · rw [e15] at b
    rw [e _ (by omega), e _ (by omega), e _ (by omega)]; exact inQ h0 q a b
  · rw [e15, e _ (by omega)]; exact inV h0 q k a b c d
  · have h3 := hM m a b
    have h4 := inB h0 m a b
    rw [h2]; omega
  · rw [e14] at b
    rw [e _ (by omega)] at c
    rw [e _ (by omega), e _ (by omega)]; exact hD o a b c
theorem all_cg {s t : Int → Int} (e0 : t 0 = s 0) (e2 : t 2 = s 2) (e : ∀ k : Int, 0 ≤ k → k < s 0 → t (19 + 3 * k) = s (19 + 3 * k)) : sp_all t = sp_all s := by
  unfold sp_all
  rw [e0, e2, sm_cg e]
theorem inv_setMilk {s : Int → Int} (h : Inv s) {m v : Int} (hv : ok_setMilk s m v) : Inv (nx_setMilk s m v) := by
  have hA := inA h.1
  unfold InvA at hA
  refine inv_mem h (fun x a b => ?_) ?_ (fun q hq => up_ne (by omega))
  · have h4 := inMm h.1 x a b
    have e1 : nx_setMilk s m v (19 + 3 * x) = s (19 + 3 * x) := up_ne (by omega)
    rw [e1]
    by_cases c : x = m
    · subst c
      have e2 : nx_setMilk s x v (20 + 3 * x) = v := up_eq
      rw [e2]; exact ⟨Int.le_refl _, by omega, by omega, h4.2.2.2⟩
    · have e2 : nx_setMilk s m v (20 + 3 * x) = s (20 + 3 * x) := up_ne (by omega)
      rw [e2]; exact ⟨Int.le_refl _, h4.2.1, h4.2.2.1, h4.2.2.2⟩
  · unfold nx_setMilk
    rw [all_cg (s := s) (t := up s (20 + 3 * m) v) (up_ne (by omega)) (up_ne (by omega)) (fun k a b => up_ne (by omega))]
    exact (inT h.1).2
theorem all_issue {s : Int → Int} {m n : Int} (hm : isM s m) : sp_all (nx_issue s m n) = sp_all s + n := by
  have e : ∀ q : Int, q < 19 → nx_issue s m n q = s q := fun q hq => by unfold nx_issue; rw [uq_ne (by omega), uq_ne (by omega)]
  unfold sp_all
  rw [e 0 (by omega), e 2 (by omega)]
  have h1 : sm (fun k => nx_issue s m n (19 + 3 * k)) (s 0) = sm (up (fun k => s (19 + 3 * k)) m (s (19 + 3 * m) + n)) (s 0) := sm_cg fun k a b => by
    unfold nx_issue
    rw [uq_ne (by omega), uq_at]
    unfold up
    by_cases c : k = m
    · rw [if_pos (by omega), if_pos c, c]
    · rw [if_neg (by omega), if_neg c, Int.add_zero]
  rw [h1, sm_up _ hm.1 hm.2]
  omega
theorem inv_issue {s : Int → Int} (h : Inv s) {m n : Int} (hv : ok_issue s m n) : Inv (nx_issue s m n) := by
  have hA := inA h.1
  unfold InvA at hA
  refine inv_mem h (fun x a b => ?_) (by rw [all_issue hv.1.1]; exact hv.2) (fun q hq => by unfold nx_issue; rw [uq_ne (by omega), uq_ne (by omega)])
  have h4 := inMm h.1 x a b
  have e2 : nx_issue s m n (20 + 3 * x) = s (20 + 3 * x) := by unfold nx_issue; rw [uq_ne (by omega), uq_ne (by omega)]
  have e1 : nx_issue s m n (19 + 3 * x) = s (19 + 3 * x) + (if 19 + 3 * x = 19 + 3 * m then n else 0) := by unfold nx_issue; rw [uq_ne (by omega), uq_at]
  rw [e1, e2]
  refine ⟨?_, h4.2.1, h4.2.2.1, fun z => ?_⟩
  · split <;> omega
  · rw [if_neg (by omega), h4.2.2.2 z]; rfl
/-- places above the members and below the days changed: offers and motions -/
theorem inv_om {s t : Int → Int} (h : Inv s) (e : ∀ q : Int, (q < 14 ∨ (16 ≤ q ∧ q < 55) ∨ 665 ≤ q) → t q = s q) (hA : 0 ≤ t 14 ∧ t 14 ≤ 20 ∧ 0 ≤ t 15 ∧ t 15 ≤ 10) (hO : InvO t) (hZ : InvZ t) (hC : InvC t) (hQ : InvQ t) (hV : InvV t) (hB : ∀ m : Int, 0 ≤ m → m < 12 → sp_rem t m ≤ s (19 + 3 * m)) (hD : InvD t) : Inv t := by
  obtain ⟨h0, -, h18⟩ := h
  have hA0 := inA h0
  refine ⟨⟨?_, fun k a b => ?_, fun m a b => ?_, ?_, hO, hZ, hC, hQ, hV, fun m a b => ?_⟩, hD, by rw [e 18 (by omega), e 670 (by omega)]; exact h18⟩
  · unfold InvA at hA0 ⊢
    rw [e 0 (by omega), e 1 (by omega), e 2 (by omega), e 3 (by omega), e 4 (by omega), e 5 (by omega), e 6 (by omega), e 7 (by omega), e 8 (by omega), e 9 (by omega), e 13 (by omega), e 16 (by omega), e 17 (by omega)]
    omega
  · rw [e _ (by omega)]; exact inS h0 k a b
  · rw [e 0 (by omega), e _ (by omega), e _ (by omega)]; exact inMm h0 m a b
  · unfold InvA at hA0
    rw [all_cg (s := s) (e 0 (by omega)) (e 2 (by omega)) (fun k a b => e _ (by omega))]; exact (inT h0).2
  · rw [e _ (by omega)]; exact hB m a b
theorem inv_claim {s : Int → Int} (h : Inv s) {o m n : Int} (hv : ok_claim s o m n) : Inv (nx_claim s o m n) := by
  have hA := inA h.1
  unfold InvA at hA
  obtain ⟨⟨ho, hm, hn⟩, hc⟩ := hv
  have e : ∀ q : Int, q ≠ 65 + 22 * o + m → nx_claim s o m n q = s q := fun q hq => up_ne hq
  refine inv_om h (fun q hq => e q (by omega)) ?_ (fun x a b => ?_) (fun x w a b c d => ?_) (fun x k a b c d => ?_) (fun q a b => ?_) (fun q k a b c d => ?_) (fun x a b => ?_) (fun x a b c => ?_)
  · rw [e 14 (by omega), e 15 (by omega)]; omega
  · rw [e 14 (by omega)] at b
    rw [e 0 (by omega), e _ (by omega), e _ (by omega), e _ (by omega), e _ (by omega), e _ (by omega)]; exact inO h.1 x a b
  · rw [e 14 (by omega)] at a
    rw [e _ (by omega)]; exact inZ h.1 x w a b c d
  · have h1 := inC h.1 x k a b c d
    rw [e 0 (by omega)]
    by_cases z : 65 + 22 * x + k = 65 + 22 * o + m
    · rw [z]
      have : nx_claim s o m n (65 + 22 * o + m) = n := up_eq
      rw [this]; exact ⟨by omega, by omega, fun y => by omega⟩
    · rw [e _ z]; exact h1
  · rw [e 15 (by omega)] at b
    rw [e _ (by omega), e _ (by omega), e _ (by omega)]; exact inQ h.1 q a b
  · rw [e 15 (by omega), e _ (by omega)]; exact inV h.1 q k a b c d
  · have : sp_rem (nx_claim s o m n) x = sp_rem s x := by
      unfold sp_rem
      rw [e 14 (by omega)]
      exact sm_cg fun k a b => by unfold sp_ro; rw [e _ (by omega), e _ (by omega), e _ (by omega)]
    rw [this]; exact inB h.1 x a b
  · rw [e 14 (by omega)] at b
    rw [e _ (by omega)] at c
    rw [e _ (by omega), e _ (by omega)]; exact h.2.1 x a b c
theorem inv_vote {s : Int → Int} (h : Inv s) {q m y : Int} (hv : ok_vote s q m y) : Inv (nx_vote s q m y) := by
  have hA := inA h.1
  unfold InvA at hA
  obtain ⟨⟨hq, hm, hn⟩, hc⟩ := hv
  have e : ∀ x : Int, x ≠ 498 + 15 * q + m → nx_vote s q m y x = s x := fun x hx => up_ne hx
  refine inv_om h (fun x hx => e x (by omega)) ?_ (fun x a b => ?_) (fun x w a b c d => ?_) (fun x k a b c d => ?_) (fun x a b => ?_) (fun x k a b c d => ?_) (fun x a b => ?_) (fun x a b c => ?_)
  · rw [e 14 (by omega), e 15 (by omega)]; omega
  · rw [e 14 (by omega)] at b
    rw [e 0 (by omega), e _ (by omega), e _ (by omega), e _ (by omega), e _ (by omega), e _ (by omega)]; exact inO h.1 x a b
  · rw [e 14 (by omega)] at a
    rw [e _ (by omega)]; exact inZ h.1 x w a b c d
  · rw [e 0 (by omega), e _ (by omega)]; exact inC h.1 x k a b c d
  · rw [e 15 (by omega)] at b
    rw [e _ (by omega), e _ (by omega), e _ (by omega)]; exact inQ h.1 x a b
  · rw [e 15 (by omega)]
    by_cases z : 498 + 15 * x + k = 498 + 15 * q + m
    · rw [z]
      have : nx_vote s q m y (498 + 15 * q + m) = if y = 1 then 1 else 2 := up_eq
      rw [this]; refine ⟨?_, ?_, fun w => by omega⟩ <;> split <;> omega
    · rw [e _ z]; exact inV h.1 x k a b c d
  · have : sp_rem (nx_vote s q m y) x = sp_rem s x := by
      unfold sp_rem
      rw [e 14 (by omega)]
      exact sm_cg fun k a b => by unfold sp_ro; rw [e _ (by omega), e _ (by omega), e _ (by omega)]
    rw [this]; exact inB h.1 x a b
  · rw [e 14 (by omega)] at b
    rw [e _ (by omega)] at c
    rw [e _ (by omega), e _ (by omega)]; exact h.2.1 x a b c
theorem inv_propose {s : Int → Int} (h : Inv s) {k v : Int} (hv : ok_propose s k v) : Inv (sp_prop s k v) := by
  have hA := inA h.1
  unfold InvA at hA
  obtain ⟨hk, h15⟩ := hv
  have e15 : sp_prop s k v 15 = s 15 + 1 := by unfold sp_prop; rw [up_ne (by omega), up_ne (by omega), up_ne (by omega), up_eq]
  have e : ∀ x : Int, x ≠ 15 → ¬ (495 + 15 * s 15 ≤ x ∧ x ≤ 497 + 15 * s 15) → sp_prop s k v x = s x := fun x hx hy => by unfold sp_prop; rw [up_ne (by omega), up_ne (by omega), up_ne (by omega), up_ne hx]
  have k0 : sp_prop s k v (495 + 15 * s 15) = k := by unfold sp_prop; rw [up_ne (by omega), up_ne (by omega), up_eq]
  have k1 : sp_prop s k v (496 + 15 * s 15) = v := by unfold sp_prop; rw [up_ne (by omega), up_eq]
  have k2 : sp_prop s k v (497 + 15 * s 15) = 0 := by unfold sp_prop; rw [up_eq]
  refine inv_om h (fun x hx => e x (by omega) (by omega)) ?_ (fun x a b => ?_) (fun x w a b c d => ?_) (fun x k a b c d => ?_) (fun x a b => ?_) (fun x k a b c d => ?_) (fun x a b => ?_) (fun x a b c => ?_)
  · rw [e 14 (by omega) (by omega), e15]; omega
  · rw [e 14 (by omega) (by omega)] at b
    rw [e 0 (by omega) (by omega), e _ (by omega) (by omega), e _ (by omega) (by omega), e _ (by omega) (by omega), e _ (by omega) (by omega), e _ (by omega) (by omega)]; exact inO h.1 x a b
  · rw [e 14 (by omega) (by omega)] at a
    rw [e _ (by omega) (by omega)]; exact inZ h.1 x w a b c d
  · rw [e 0 (by omega) (by omega), e _ (by omega) (by omega)]; exact inC h.1 x k a b c d
  · rw [e15] at b
    by_cases z : x = s 15
    · rw [z, k0, k1, k2]; exact ⟨by omega, hk⟩
    · rw [e _ (by omega) (by omega), e _ (by omega) (by omega), e _ (by omega) (by omega)]; exact inQ h.1 x a (by omega)
  · have := inV h.1 x k a b c d
    rw [e15, e _ (by omega) (by omega)]; exact ⟨this.1, this.2.1, fun z => this.2.2 (by omega)⟩
  · have : sp_rem (sp_prop s k v) x = sp_rem s x := by
      unfold sp_rem
      rw [e 14 (by omega) (by omega)]
      exact sm_cg fun k a b => by unfold sp_ro; rw [e _ (by omega) (by omega), e _ (by omega) (by omega), e _ (by omega) (by omega)]
    rw [this]; exact inB h.1 x a b
  · rw [e 14 (by omega) (by omega)] at b
    rw [e _ (by omega) (by omega)] at c
    rw [e _ (by omega) (by omega), e _ (by omega) (by omega)]; exact h.2.1 x a b c
theorem inv_offer {s : Int → Int} (h : Inv s) {se bu n pr : Int} (hv : ok_offer s se bu n pr) : Inv (sp_offer s se bu n pr) := by
  have hA := inA h.1
  unfold InvA at hA
  obtain ⟨⟨⟨hse, hbu, hne⟩, hn, hpr⟩, ⟨hfr, hpa⟩, h14⟩ := hv
  have hT := inTr h.1
  have e14 : sp_offer s se bu n pr 14 = s 14 + 1 := by unfold sp_offer; rw [begin_ne (by omega) (by omega) (by omega) (by omega), up_ne (by omega), up_ne (by omega), up_ne (by omega), up_ne (by omega), up_eq]
  have e : ∀ x : Int, x ≠ 14 → ¬ (55 + 22 * s 14 ≤ x ∧ x < 61 + 22 * s 14) → ¬ (65 + 22 * s 14 ≤ x ∧ x < 77 + 22 * s 14) → x ≠ 645 + s 14 → sp_offer s se bu n pr x = s x := fun x hx hy hz hw => by
    unfold sp_offer; rw [begin_ne (by omega) (by omega) hw hz, up_ne (by omega), up_ne (by omega), up_ne (by omega), up_ne (by omega), up_ne hx]
  have k0 : sp_offer s se bu n pr (55 + 22 * s 14) = se := by unfold sp_offer; rw [begin_ne (by omega) (by omega) (by omega) (by omega), up_ne (by omega), up_ne (by omega), up_ne (by omega), up_eq]
  have k1 : sp_offer s se bu n pr (56 + 22 * s 14) = bu := by unfold sp_offer; rw [begin_ne (by omega) (by omega) (by omega) (by omega), up_ne (by omega), up_ne (by omega), up_eq]
  have k2 : sp_offer s se bu n pr (57 + 22 * s 14) = n := by unfold sp_offer; rw [begin_ne (by omega) (by omega) (by omega) (by omega), up_ne (by omega), up_eq]
  have k3 : sp_offer s se bu n pr (58 + 22 * s 14) = pr := by unfold sp_offer; rw [begin_ne (by omega) (by omega) (by omega) (by omega), up_eq]
  have k4 : sp_offer s se bu n pr (59 + 22 * s 14) = 0 := by unfold sp_offer sp_begin; rw [if_pos rfl]
  have k5 : sp_offer s se bu n pr (60 + 22 * s 14) = s 13 := by unfold sp_offer sp_begin; rw [if_neg (by omega), if_pos rfl, up_ne (by omega), up_ne (by omega), up_ne (by omega), up_ne (by omega), up_ne (by omega)]
  have k6 : sp_offer s se bu n pr (645 + s 14) = s 13 := by unfold sp_offer sp_begin; rw [if_neg (by omega), if_neg (by omega), if_pos rfl]
  have kc : ∀ x : Int, 65 + 22 * s 14 ≤ x → x < 77 + 22 * s 14 → sp_offer s se bu n pr x = 0 := fun x hx hy => by unfold sp_offer sp_begin; rw [if_neg (by omega), if_neg (by omega), if_neg (by omega), if_pos ⟨hx, hy⟩]
  refine inv_om h (fun x hx => e x (by omega) (by omega) (by omega) (by omega)) ?_ (fun x a b => ?_) (fun x w a b c d => ?_) (fun x k a b c d => ?_) (fun x a b => ?_) (fun x k a b c d => ?_) (fun x a b => ?_) (fun x a b c => ?_)
  · rw [e14, e 15 (by omega) (by omega) (by omega) (by omega)]; omega
  · rw [e14] at b
    rw [e 0 (by omega) (by omega) (by omega) (by omega)]
    by_cases z : x = s 14
    · rw [z, k0, k1, k2, k3, k4]; omega
    · rw [e _ (by omega) (by omega) (by omega) (by omega), e _ (by omega) (by omega) (by omega) (by omega), e _ (by omega) (by omega) (by omega) (by omega), e _ (by omega) (by omega) (by omega) (by omega), e _ (by omega) (by omega) (by omega) (by omega)]
      exact inO h.1 x a (by omega)
  · rw [e14] at a
    rw [e _ (by omega) (by omega) (by omega) (by omega)]; exact inZ h.1 x w (by omega) b c d
  · rw [e 0 (by omega) (by omega) (by omega) (by omega)]
    have := inC h.1 x k a b c d
    by_cases z : x = s 14
    · rw [z, kc _ (by omega) (by omega)]; exact ⟨by omega, by omega, fun _ => rfl⟩
    · rw [e _ (by omega) (by omega) (by omega) (by omega)]; exact this
  · rw [e 15 (by omega) (by omega) (by omega) (by omega)] at b
    rw [e _ (by omega) (by omega) (by omega) (by omega), e _ (by omega) (by omega) (by omega) (by omega), e _ (by omega) (by omega) (by omega) (by omega)]; exact inQ h.1 x a b
  · rw [e 15 (by omega) (by omega) (by omega) (by omega), e _ (by omega) (by omega) (by omega) (by omega)]; exact inV h.1 x k a b c d
  · have hr : sp_rem (sp_offer s se bu n pr) x = sp_rem s x + (if se = x then n else 0) := by
      unfold sp_rem
      rw [e14, sm_s (by omega)]
      congr 1
      · exact sm_cg fun k a b => by unfold sp_ro; rw [e _ (by omega) (by omega) (by omega) (by omega), e _ (by omega) (by omega) (by omega) (by omega), e _ (by omega) (by omega) (by omega) (by omega)]
      · unfold sp_ro
        rw [k0, k2, k4]
        by_cases z : se = x
        · rw [if_pos ⟨by omega, z⟩, if_pos z]
        · rw [if_neg (fun y => z y.2), if_neg z]
    have hb := inB h.1 x a b
    rw [hr]
    by_cases z : se = x
    · have hq := req_b h.1 (m := se) (by omega) (by omega)
      unfold sp_free at hfr
      rw [if_pos z]
      rw [← z] at hb ⊢
      omega
    · rw [if_neg z]; omega
  · rw [e14] at b
    by_cases z : x = s 14
    · rw [z, k5, k6]; omega
    · rw [e _ (by omega) (by omega) (by omega) (by omega)] at c
      rw [e _ (by omega) (by omega) (by omega) (by omega), e _ (by omega) (by omega) (by omega) (by omega)]
      exact h.2.1 x a (by omega) c
theorem inv_withdraw {s : Int → Int} (h : Inv s) {o : Int} (hv : ok_withdraw s o) : Inv (nx_withdraw s o) := by
  have hA := inA h.1
  unfold InvA at hA
  have e14 : sp_begin s o 3 0 14 = s 14 := begin_ne (by omega) (by omega) (by omega) (by omega)
  refine ⟨inv_begin h.1 hv.1.1 hv.1.2 ⟨by omega, by omega⟩ (Or.inl rfl), fun x a b c => ?_, ?_⟩
  · unfold nx_withdraw at b c ⊢
    rw [e14] at b
    by_cases z : x = o
    · rw [z] at c
      exact absurd (show sp_begin s o 3 0 (59 + 22 * o) = 3 from if_pos rfl) c
    · rw [begin_ne (by omega) (by omega) (by omega) (by omega)] at c
      rw [begin_ne (by omega) (by omega) (by omega) (by omega), begin_ne (by omega) (by omega) (by omega) (by omega)]
      exact h.2.1 x a b c
  · unfold nx_withdraw
    rw [begin_ne (by omega) (by omega) (by omega) (by omega), begin_ne (by omega) (by omega) (by omega) (by omega)]; exact h.2.2
theorem off_hi {s : Int → Int} (h : Inv0 s) {o : Int} (h0 : 0 ≤ o) (h1 : o < s 14) {q : Int} (hq : q = 18 ∨ q = 670) : sp_off s o q = s q := by
  have hA := inA h
  unfold InvA at hA
  have t14 : sp_tick s o 14 = s 14 := tick_ne (by omega) (by omega)
  have t59 : sp_tick s o (59 + 22 * o) = s (59 + 22 * o) := tick_ne (by omega) (by omega)
  unfold sp_off
  split
  · split
    · rw [end_keep (inv_tick h h0 (by omega)) h0 (by omega) (by omega) (by omega) (by omega) (by omega) (by omega), tick_ne (by omega) (by omega)]
    · exact tick_ne (by omega) (by omega)
  · rfl
theorem dayS_hi {s : Int → Int} (h : Inv0 s) (hD : InvD s) {q : Int} (hq : q = 18 ∨ q = 670) : ∀ n : Nat, (n : Int) ≤ s 14 → sp_dayS s n q = s q
  | 0, _ => rfl
  | n + 1, hn => by
    obtain ⟨a, b, c⟩ := inv_dayS h hD n (by omega)
    show sp_off (sp_dayS s n) n q = s q
    rw [off_hi a (by omega) (by omega) hq]
    exact dayS_hi h hD hq n (by omega)
theorem day_hi {s : Int → Int} (h : Inv0 s) (hD : InvD s) : sp_day s 18 = s 18 ∧ sp_day s 670 = s 670 + 1 := by
  have hA := inA h
  unfold InvA at hA
  have h1 := inv_670 h hD 1
  unfold sp_day
  rw [dayS_hi h1.1 h1.2.1 (Or.inl rfl) _ (by omega), dayS_hi h1.1 h1.2.1 (Or.inr rfl) _ (by omega), uq_ne (by omega), uq_eq]
  exact ⟨rfl, rfl⟩
theorem days_hi {s : Int → Int} (h : Inv0 s) (hD : InvD s) : ∀ n : Nat, sp_days s n 18 = s 18 ∧ sp_days s n 670 = s 670 + n
  | 0 => ⟨rfl, by show s 670 = _; omega⟩
  | n + 1 => by
    obtain ⟨a, b, c⟩ := inv_days h hD n
    have h1 := days_hi h hD n
    have h2 := day_hi a b
    show sp_day (sp_days s n) 18 = _ ∧ sp_day (sp_days s n) 670 = _
    omega
theorem inv_passDays {s : Int → Int} (h : Inv s) {d : Int} (hv : ok_passDays d) : Inv (nx_passDays s d) := by
  obtain ⟨a, b, c⟩ := inv_days h.1 h.2.1 d.toNat
  have h1 := days_hi h.1 h.2.1 d.toNat
  have hA := inA a
  unfold InvA at hA
  have e14 : nx_passDays s d 14 = sp_days s d.toNat 14 := uq_ne (by omega)
  refine ⟨inv0_cg a (fun x w h2 h3 h4 h5 => ?_) (fun q h2 h3 h4 h5 h6 => uq_ne h4), fun x h2 h3 h4 => ?_, ?_⟩
  · unfold nx_passDays; rw [uq_ne (by omega)]; exact inZ a x w h2 h3 h4 h5
  · rw [e14] at h3
    unfold nx_passDays at h4 ⊢
    rw [uq_ne (by omega)] at h4
    rw [uq_ne (by omega), uq_ne (by omega)]
    exact b x h2 h3 h4
  · unfold nx_passDays
    rw [uq_eq, uq_ne (by omega)]
    have := h.2.2
    omega
theorem inv_does {s : Int → Int} (h : Inv s) {k v : Int} (hk : okKind k v) : Inv (sp_does s k v) := by
  have hA' := inA h.1
  have hA := hA'
  unfold InvA at hA
  have hT := inTr h.1
  unfold okKind at hk
  unfold sp_does
  split
  · exact inv_put h (by omega) (invA_put hA' (by omega))
  split
  · exact inv_put h (by omega) (invA_put hA' (by omega))
  split
  · exact inv_put h (by omega) (invA_put hA' (by omega))
  split
  · have hall : sp_all (uq s 2 (-(min v (s 2)))) = sp_all s - min v (s 2) := by
      unfold sp_all
      rw [uq_eq, uq_ne (by omega), sm_cg fun k a b => uq_ne (show 19 + 3 * k ≠ 2 by omega)]
      omega
    have e : ∀ q : Int, q ≠ 2 → uq s 2 (-(min v (s 2))) q = s q := fun q hq => uq_ne hq
    have hTT := inT h.1
    obtain ⟨h0, hD, h18⟩ := h
    refine ⟨⟨?_, fun k a b => ?_, fun m a b => ?_, by omega, fun o a b => ?_, fun o w a b c d => ?_, fun o k a b c d => ?_, fun q a b => ?_, fun q k a b c d => ?_, fun m a b => ?_⟩, fun o a b c => ?_, by rw [e 18 (by omega), e 670 (by omega)]; exact h18⟩
    · unfold InvA
      rw [uq_eq, e 0 (by omega), e 1 (by omega), e 3 (by omega), e 4 (by omega), e 5 (by omega), e 6 (by omega), e 7 (by omega), e 8 (by omega), e 9 (by omega), e 13 (by omega), e 14 (by omega), e 15 (by omega), e 16 (by omega), e 17 (by omega)]
      omega
    · rw [e _ (by omega)]; exact inS h0 k a b
    · rw [e 0 (by omega), e _ (by omega), e _ (by omega)]; exact inMm h0 m a b
    · rw [e 14 (by omega)] at b
      rw [e 0 (by omega), e _ (by omega), e _ (by omega), e _ (by omega), e _ (by omega), e _ (by omega)]; exact inO h0 o a b
    · rw [e 14 (by omega)] at a
      rw [e _ (by omega)]; exact inZ h0 o w a b c d
    · rw [e 0 (by omega), e _ (by omega)]; exact inC h0 o k a b c d
    · rw [e 15 (by omega)] at b
      rw [e _ (by omega), e _ (by omega), e _ (by omega)]; exact inQ h0 q a b
    · rw [e 15 (by omega), e _ (by omega)]; exact inV h0 q k a b c d
    · have : sp_rem (uq s 2 (-(min v (s 2)))) m = sp_rem s m := by
        unfold sp_rem
        rw [e 14 (by omega)]
        exact sm_cg fun k a b => by unfold sp_ro; rw [e _ (by omega), e _ (by omega), e _ (by omega)]
      rw [this, e _ (by omega)]; exact inB h0 m a b
    · rw [e 14 (by omega)] at b
      rw [e _ (by omega)] at c
      rw [e _ (by omega), e _ (by omega)]; exact hD o a b c
  · have e : ∀ q : Int, (q < 19 ∨ 55 ≤ q ∨ (q - 19) % 3 ≠ 2) → sp_divi v s (s 0).toNat q = s q := fun q hq => divi_ne fun x a b => by omega
    refine inv_mem h (fun m a b => ?_) ?_ (fun q hq => e q (by omega))
    · have := inMm h.1 m a b
      rw [e _ (by omega), e _ (by omega)]; exact ⟨Int.le_refl _, this.2.1, this.2.2.1, this.2.2.2⟩
    · rw [all_cg (s := s) (e 0 (by omega)) (e 2 (by omega)) (fun x a b => e _ (by omega))]; exact (inT h.1).2
theorem inv_state {s : Int → Int} (h : Inv s) {q x : Int} (hq : isQ s q) (hx : 0 ≤ x ∧ x ≤ 2) : Inv (up s (497 + 15 * q) x) := by
  have hA := inA h.1
  unfold InvA at hA
  have e : ∀ z : Int, z ≠ 497 + 15 * q → up s (497 + 15 * q) x z = s z := fun z hz => up_ne hz
  refine inv_om h (fun z hz => e z (by omega)) ?_ (fun z a b => ?_) (fun z w a b c d => ?_) (fun z k a b c d => ?_) (fun z a b => ?_) (fun z k a b c d => ?_) (fun z a b => ?_) (fun z a b c => ?_)
  · rw [e 14 (by omega), e 15 (by omega)]; omega
  · rw [e 14 (by omega)] at b
    rw [e 0 (by omega), e _ (by omega), e _ (by omega), e _ (by omega), e _ (by omega), e _ (by omega)]; exact inO h.1 z a b
  · rw [e 14 (by omega)] at a
    rw [e _ (by omega)]; exact inZ h.1 z w a b c d
  · rw [e 0 (by omega), e _ (by omega)]; exact inC h.1 z k a b c d
  · rw [e 15 (by omega)] at b
    have := inQ h.1 z a b
    rw [e (495 + 15 * z) (by omega), e (496 + 15 * z) (by omega)]
    by_cases y : z = q
    · rw [y, up_eq, ← y]; exact ⟨hx, this.2⟩
    · rw [e _ (by omega)]; exact this
  · rw [e 15 (by omega), e _ (by omega)]; exact inV h.1 z k a b c d
  · have : sp_rem (up s (497 + 15 * q) x) z = sp_rem s z := by
      unfold sp_rem
      rw [e 14 (by omega)]
      exact sm_cg fun k a b => by unfold sp_ro; rw [e _ (by omega), e _ (by omega), e _ (by omega)]
    rw [this]; exact inB h.1 z a b
  · rw [e 14 (by omega)] at b
    rw [e _ (by omega)] at c
    rw [e _ (by omega), e _ (by omega)]; exact h.2.1 z a b c
theorem inv_closeMotion {s : Int → Int} (h : Inv s) {q : Int} (hv : ok_closeMotion s q) : Inv (sp_clo s q) := by
  unfold sp_clo
  split
  · exact inv_does (inv_state h hv.1 ⟨by omega, by omega⟩) (inQ h.1 q hv.1.1 hv.1.2).2
  · exact inv_state h hv.1 ⟨by omega, by omega⟩
end
section
def kp5 (t : Int → Int) (n1 n2 n3 n4 : Int) : Int → Int := up (up (up (up (up t 5 n3) 4 n2) 3 n1) 2 n4) 0 (min (t 0 + 1) 4)
theorem kp5_1 {t : Int → Int} {n1 n2 n3 n4 : Int} : kp5 t n1 n2 n3 n4 1 = t 1 := by unfold kp5; rw [up_ne (by omega), up_ne (by omega), up_ne (by omega), up_ne (by omega), up_ne (by omega)]
theorem dX7_keepState_0 : decode cX7_keepState 0 = .ok (.aload_n 0, 1) := by decide +kernel
theorem dX7_keepState_1 : decode cX7_keepState 1 = .ok (.getfield 25, 3) := by decide +kernel
theorem dX7_keepState_4 : decode cX7_keepState 4 = .ok (.astore_n 1, 1) := by decide +kernel
theorem dX7_keepState_5 : decode cX7_keepState 5 = .ok (.aload_n 0, 1) := by decide +kernel
theorem dX7_keepState_6 : decode cX7_keepState 6 = .ok (.aload_n 0, 1) := by decide +kernel
theorem dX7_keepState_7 : decode cX7_keepState 7 = .ok (.getfield 22, 3) := by decide +kernel
theorem dX7_keepState_10 : decode cX7_keepState 10 = .ok (.putfield 25, 3) := by decide +kernel
theorem dX7_keepState_13 : decode cX7_keepState 13 = .ok (.aload_n 0, 1) := by decide +kernel
theorem dX7_keepState_14 : decode cX7_keepState 14 = .ok (.aload_n 0, 1) := by decide +kernel
theorem dX7_keepState_15 : decode cX7_keepState 15 = .ok (.getfield 19, 3) := by decide +kernel
theorem dX7_keepState_18 : decode cX7_keepState 18 = .ok (.putfield 22, 3) := by decide +kernel
theorem dX7_keepState_21 : decode cX7_keepState 21 = .ok (.aload_n 0, 1) := by decide +kernel
theorem dX7_keepState_22 : decode cX7_keepState 22 = .ok (.aload_n 0, 1) := by decide +kernel
theorem dX7_keepState_23 : decode cX7_keepState 23 = .ok (.getfield 16, 3) := by decide +kernel
theorem dX7_keepState_26 : decode cX7_keepState 26 = .ok (.putfield 19, 3) := by decide +kernel
theorem dX7_keepState_29 : decode cX7_keepState 29 = .ok (.aload_n 0, 1) := by decide +kernel
theorem dX7_keepState_30 : decode cX7_keepState 30 = .ok (.aload_n 1, 1) := by decide +kernel
theorem dX7_keepState_31 : decode cX7_keepState 31 = .ok (.putfield 16, 3) := by decide +kernel
theorem dX7_keepState_34 : decode cX7_keepState 34 = .ok (.aload_n 0, 1) := by decide +kernel
theorem dX7_keepState_35 : decode cX7_keepState 35 = .ok (.getfield 16, 3) := by decide +kernel
theorem dX7_keepState_38 : decode cX7_keepState 38 = .ok (.aload_n 0, 1) := by decide +kernel
theorem dX7_keepState_39 : decode cX7_keepState 39 = .ok (.getfield 10, 3) := by decide +kernel
theorem dX7_keepState_42 : decode cX7_keepState 42 = .ok (.invokevirtual 248, 3) := by decide +kernel
theorem dX7_keepState_45 : decode cX7_keepState 45 = .ok (.aload_n 0, 1) := by decide +kernel
theorem dX7_keepState_46 : decode cX7_keepState 46 = .ok (.aload_n 0, 1) := by decide +kernel
theorem dX7_keepState_47 : decode cX7_keepState 47 = .ok (.getfield 28, 3) := by decide +kernel
theorem dX7_keepState_50 : decode cX7_keepState 50 = .ok (.iconst 1, 1) := by decide +kernel
theorem dX7_keepState_51 : decode cX7_keepState 51 = .ok (.iadd, 1) := by decide +kernel
theorem dX7_keepState_52 : decode cX7_keepState 52 = .ok (.iconst 4, 1) := by decide +kernel
theorem dX7_keepState_53 : decode cX7_keepState 53 = .ok (.invokestatic 252, 3) := by decide +kernel
theorem dX7_keepState_56 : decode cX7_keepState 56 = .ok (.putfield 28, 3) := by decide +kernel
theorem dX7_keepState_59 : decode cX7_keepState 59 = .ok (.return_, 1) := by decide +kernel
theorem hy_X7_keepState : yX7_keepState.cls ≠ "java/lang/invoke/MethodHandle" ∧ yX7_keepState.cls ≠ "java/lang/invoke/VarHandle" ∧ (parseMethodDescriptor yX7_keepState.desc).map (fun d => d.parameters.length) = some 0 := ⟨by decide +kernel, by decide +kernel, by decide +kernel⟩
set_option maxHeartbeats 4000000 in
set_option maxRecDepth 100000 in
theorem c_X7_keepState (l0 : Launch) (D0 : va_G) (cI0 cJ0 : ClassId) (ad : Nat → Nat → Nat) (S : zM) (n0 : Nat) (n1 : Nat) (n2 : Nat) (n3 : Nat) (n4 : Nat) (hn0 : n0 < 5) (hn1 : n1 < 5) (hn2 : n2 < 5) (hn3 : n3 < 5) (hn4 : n4 < 5) (e0 : S 5 1 = (n0 : Int)) (e1 : S 5 2 = (n1 : Int)) (e2 : S 5 3 = (n2 : Int)) (e3 : S 5 4 = (n3 : Int)) (e4 : S 5 5 = (n4 : Int)) (h04 : n0 ≠ n4) (hst : 0 ≤ S 5 0 ∧ S 5 0 ≤ 4) : Ct l0 D0 cI0 cJ0 ad yX7_keepState cX7_keepState 2 none 3 68 [.ref (ad 5 22)] S none (fun X => X = (us (us S n4 (S n0)) 5 (kp5 (S 5) n1 n2 n3 n4))) := by
  refine Ct.of (by decide) (Nat.le_of_ble_eq_true rfl) (fun E hE hR => ?_)
  have hE : zG E l0 D0 cI0 cJ0 ad cX7_keepState 2 RX7 3 68 := hE
  show Z E S 0 [(0, .ref (ad 5 22))] []
  have h05 : n0 ≠ 5 := by omega
  have h50 : 5 ≠ n0 := by omega
  have h45 : n4 ≠ 5 := by omega
  have h54 : 5 ≠ n4 := by omega
  have h40 : n4 ≠ n0 := fun q => h04 q.symm
  refine z_aload_n hE 0 rfl rfl dX7_keepState_0 ?_
  refine gf_7_4 hE (by decide) zf_X7_25 dX7_keepState_1 ?_
  rw [show (S 5 5).toNat = n4 by omega]
  refine z_astore_n hE rfl (by decide) rfl dX7_keepState_4 ?_
  refine z_aload_n hE 1 rfl rfl dX7_keepState_5 ?_
  refine z_aload_n hE 1 rfl rfl dX7_keepState_6 ?_
  refine gf_7_3 hE (by decide) zf_X7_22 dX7_keepState_7 ?_
  rw [show (S 5 4).toNat = n3 by omega]
  refine pf_7_4 hE (by decide) zf_X7_25 dX7_keepState_10 ?_
  refine z_aload_n hE 1 rfl rfl dX7_keepState_13 ?_
  refine z_aload_n hE 1 rfl rfl dX7_keepState_14 ?_
  refine gf_7_2 hE (by decide) zf_X7_19 dX7_keepState_15 ?_
  try simp only [us_eq, us_us, us_ne h05, us_ne h50, us_ne h45, us_ne h54, us_ne h40, us_ne h04, us_in h45, us_in h54, us_in h05, us_in h50]
  rw [up_ne (show 3 ≠ 5 by omega)]
  rw [show (S 5 3).toNat = n2 by omega]
  refine pf_7_3 hE (by decide) zf_X7_22 dX7_keepState_18 ?_
  try simp only [us_eq, us_us, us_ne h05, us_ne h50, us_ne h45, us_ne h54, us_ne h40, us_ne h04, us_in h45, us_in h54, us_in h05, us_in h50]
  refine z_aload_n hE 1 rfl rfl dX7_keepState_21 ?_
  refine z_aload_n hE 1 rfl rfl dX7_keepState_22 ?_
  refine gf_7_1 hE (by decide) zf_X7_16 dX7_keepState_23 ?_
  try simp only [us_eq, us_us, us_ne h05, us_ne h50, us_ne h45, us_ne h54, us_ne h40, us_ne h04, us_in h45, us_in h54, us_in h05, us_in h50]
  rw [up_ne (show 2 ≠ 4 by omega)]
  rw [up_ne (show 2 ≠ 5 by omega)]
  rw [show (S 5 2).toNat = n1 by omega]
  refine pf_7_2 hE (by decide) zf_X7_19 dX7_keepState_26 ?_
  try simp only [us_eq, us_us, us_ne h05, us_ne h50, us_ne h45, us_ne h54, us_ne h40, us_ne h04, us_in h45, us_in h54, us_in h05, us_in h50]
  refine z_aload_n hE 1 rfl rfl dX7_keepState_29 ?_
  refine z_aload_n hE 0 rfl rfl dX7_keepState_30 ?_
  refine pf_7_1 hE (by decide) zf_X7_16 dX7_keepState_31 ?_
  try simp only [us_eq, us_us, us_ne h05, us_ne h50, us_ne h45, us_ne h54, us_ne h40, us_ne h04, us_in h45, us_in h54, us_in h05, us_in h50]
  refine z_aload_n hE 1 rfl rfl dX7_keepState_34 ?_
  refine gf_7_1 hE (by decide) zf_X7_16 dX7_keepState_35 ?_
  try simp only [us_eq, us_us, us_ne h05, us_ne h50, us_ne h45, us_ne h54, us_ne h40, us_ne h04, us_in h45, us_in h54, us_in h05, us_in h50]
  rw [up_eq]
  rw [show (n4 : Int).toNat = n4 by omega]
  refine z_aload_n hE 1 rfl rfl dX7_keepState_38 ?_
  refine gf_7_0 hE (by decide) zf_X7_10 dX7_keepState_39 ?_
  try simp only [us_eq, us_us, us_ne h05, us_ne h50, us_ne h45, us_ne h54, us_ne h40, us_ne h04, us_in h45, us_in h54, us_in h05, us_in h50]
  rw [up_ne (show 1 ≠ 2 by omega)]
  rw [up_ne (show 1 ≠ 3 by omega)]
  rw [up_ne (show 1 ≠ 4 by omega)]
  rw [up_ne (show 1 ≠ 5 by omega)]
  rw [show (S 5 1).toNat = n0 by omega]
  refine z_callV hE (c_X4_copyFrom l0 D0 cI0 cJ0 ad (us S 5 (up (up (up (up (S 5) 5 ((n3 : Int))) 4 ((n2 : Int))) 3 ((n1 : Int))) 2 ((n4 : Int)))) n4 hn4 n0 hn0 h04) (ks_m hn4 (by decide)) rfl rfl zm_X7_248 zi_yX4_copyFrom zs_yX4_copyFrom zn_RX4 zc_yX4_copyFrom (hy_X4_copyFrom) (Nat.le_of_ble_eq_true rfl) (Nat.le_of_ble_eq_true rfl) rfl rfl rfl (Nat.le_of_ble_eq_true rfl) dX7_keepState_42 ?_
  try simp only [us_eq, us_us, us_ne h05, us_ne h50, us_ne h45, us_ne h54, us_ne h40, us_ne h04, us_in h45, us_in h54, us_in h05, us_in h50]
  refine z_aload_n hE 1 rfl rfl dX7_keepState_45 ?_
  refine z_aload_n hE 1 rfl rfl dX7_keepState_46 ?_
  refine gf_7_5 hE (by decide) zf_X7_28 dX7_keepState_47 ?_
  try simp only [us_eq, us_us, us_ne h05, us_ne h50, us_ne h45, us_ne h54, us_ne h40, us_ne h04, us_in h45, us_in h54, us_in h05, us_in h50]
  rw [up_ne (show 0 ≠ 2 by omega)]
  rw [up_ne (show 0 ≠ 3 by omega)]
  rw [up_ne (show 0 ≠ 4 by omega)]
  rw [up_ne (show 0 ≠ 5 by omega)]
  refine z_iconst hE dX7_keepState_50 ?_
  refine z_iadd hE dX7_keepState_51 ?_
  refine z_iconst hE dX7_keepState_52 ?_
  refine z_min hE zm_X7_252 (by decide) (Nat.le_of_ble_eq_true rfl) ⟨by omega, by omega⟩ ⟨by omega, by omega⟩ dX7_keepState_53 ?_
  refine pf_7_5 hE (by decide) zf_X7_28 dX7_keepState_56 ?_
  try simp only [us_eq, us_us, us_ne h05, us_ne h50, us_ne h45, us_ne h54, us_ne h40, us_ne h04, us_in h45, us_in h54, us_in h05, us_in h50]
  exact z_vret hE hR dX7_keepState_59 rfl (by rfl)
end
