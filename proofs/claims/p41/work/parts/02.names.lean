/-! ===== BEGIN words of one list among another's, by their places ===== -/
theorem goodIn_r {big : List Cond} (ws : List Cond) (ps : List Nat) (hp : ws = ps.filterMap (fun i => big[i]?)) (h : ws.all goodWord = true) : GoodIn big ws := by
  intro w hw
  have h1 := List.all_eq_true.mp h w hw
  rw [hp] at hw
  obtain ⟨i, -, hi⟩ := List.mem_filterMap.mp hw
  have hm : w ∈ big := by first | exact List.mem_of_getElem? hi | exact List.getElem?_mem hi
  exact ⟨hm, good_of_word h1⟩
theorem goodIn_app {big a b : List Cond} (ha : GoodIn big a) (hb : GoodIn big b) : GoodIn big (a ++ b) := fun w h => (List.mem_append.mp h).elim (ha w) (hb w)
theorem goodIn_ca {big a b : List Cond} {c : Cond} (ha : GoodIn big (c :: a)) (hb : GoodIn big b) : GoodIn big (c :: (a ++ b)) := fun w h => (List.mem_cons.mp h).elim (fun e => ha w (List.mem_cons.mpr (Or.inl e))) (fun h => (List.mem_append.mp h).elim (fun h => ha w (List.mem_cons.mpr (Or.inr h))) (hb w))
theorem goodIn_sub {big ws : List Cond} (hm : ∀ w ∈ ws, w ∈ big) (h : ws.all goodWord = true) : GoodIn big ws := fun w hw => ⟨hm w hw, good_of_word (List.all_eq_true.mp h w hw)⟩
/-! ===== END ===== -/

/-! ===== BEGIN printed: names, fields, word lists, decode rows ===== -/
def RX0 : String := "DairyShares$Books"
def TX0 : u_T := fun k => match k with
  | 0 => ("DairyShares$Books", "assets", "I", false)
  | 1 => ("DairyShares$Books", "debts", "I", false)
  | 2 => ("DairyShares$Books", "price", "I", false)
  | 3 => ("DairyShares$Books", "surplusCount", "I", false)
  | _ => ("DairyShares$Books", "surpluses", "[I", true)
def tyX0 : Nat → FieldType := fun k => match k with
  | 0 => .int
  | 1 => .int
  | 2 => .int
  | 3 => .int
  | _ => .array .int
abbrev wsX00 : List Cond := u_ws RX0 TX0 5
theorem nmX0 : ∀ a, a < 5 → ∀ b, b < 5 → a ≠ b → (TX0 a).2.1 ≠ (TX0 b).2.1 := by decide +kernel
theorem tyX0_ok : ∀ k, k < 5 → parseFieldDescriptor (TX0 k).2.2.1 = some (tyX0 k) := by decide +kernel
abbrev cX0_init : ByteArray := prog_2_method_1_code
def yX0_init : MethodName := ⟨RX0, "<init>", "()V"⟩
abbrev cX0_copyFrom : ByteArray := prog_2_method_2_code
def yX0_copyFrom : MethodName := ⟨RX0, "copyFrom", "(LDairyShares$Books;)V"⟩
abbrev cX0_recordSurplus : ByteArray := prog_2_method_3_code
def yX0_recordSurplus : MethodName := ⟨RX0, "recordSurplus", "(I)V"⟩
abbrev cX0_meanSurplus : ByteArray := prog_2_method_4_code
def yX0_meanSurplus : MethodName := ⟨RX0, "meanSurplus", "()I"⟩
abbrev cX0_valueOfOne : ByteArray := prog_2_method_5_code
def yX0_valueOfOne : MethodName := ⟨RX0, "valueOfOne", "(I)I"⟩
def RX1 : String := "DairyShares$Members"
def TX1 : u_T := fun k => match k with
  | 0 => ("DairyShares$Members", "count", "I", false)
  | 1 => ("DairyShares$Members", "shares", "[I", true)
  | 2 => ("DairyShares$Members", "milk", "[I", true)
  | _ => ("DairyShares$Members", "account", "[J", true)
def tyX1 : Nat → FieldType := fun k => match k with
  | 0 => .int
  | 1 => .array .int
  | 2 => .array .int
  | _ => .array .long
abbrev wsX10 : List Cond := u_ws RX1 TX1 4
theorem nmX1 : ∀ a, a < 4 → ∀ b, b < 4 → a ≠ b → (TX1 a).2.1 ≠ (TX1 b).2.1 := by decide +kernel
theorem tyX1_ok : ∀ k, k < 4 → parseFieldDescriptor (TX1 k).2.2.1 = some (tyX1 k) := by decide +kernel
abbrev cX1_init : ByteArray := prog_3_method_1_code
def yX1_init : MethodName := ⟨RX1, "<init>", "()V"⟩
abbrev cX1_copyFrom : ByteArray := prog_3_method_2_code
def yX1_copyFrom : MethodName := ⟨RX1, "copyFrom", "(LDairyShares$Members;)V"⟩
abbrev cX1_has : ByteArray := prog_3_method_3_code
def yX1_has : MethodName := ⟨RX1, "has", "(I)Z"⟩
def RX2 : String := "DairyShares$Motions"
def TX2 : u_T := fun k => match k with
  | 0 => ("DairyShares$Motions", "count", "I", false)
  | 1 => ("DairyShares$Motions", "kind", "[I", true)
  | 2 => ("DairyShares$Motions", "value", "[I", true)
  | 3 => ("DairyShares$Motions", "state", "[I", true)
  | _ => ("DairyShares$Motions", "ballots", "[I", true)
def tyX2 : Nat → FieldType := fun k => match k with
  | 0 => .int
  | 1 => .array .int
  | 2 => .array .int
  | 3 => .array .int
  | _ => .array .int
abbrev wsX20 : List Cond := u_ws RX2 TX2 5
theorem nmX2 : ∀ a, a < 5 → ∀ b, b < 5 → a ≠ b → (TX2 a).2.1 ≠ (TX2 b).2.1 := by decide +kernel
theorem tyX2_ok : ∀ k, k < 5 → parseFieldDescriptor (TX2 k).2.2.1 = some (tyX2 k) := by decide +kernel
abbrev cX2_init : ByteArray := prog_4_method_1_code
def yX2_init : MethodName := ⟨RX2, "<init>", "()V"⟩
abbrev cX2_copyFrom : ByteArray := prog_4_method_2_code
def yX2_copyFrom : MethodName := ⟨RX2, "copyFrom", "(LDairyShares$Motions;)V"⟩
def RX3 : String := "DairyShares$Offers"
def TX3 : u_T := fun k => match k with
  | 0 => ("DairyShares$Offers", "count", "I", false)
  | 1 => ("DairyShares$Offers", "seller", "[I", true)
  | 2 => ("DairyShares$Offers", "buyer", "[I", true)
  | 3 => ("DairyShares$Offers", "offered", "[I", true)
  | 4 => ("DairyShares$Offers", "remaining", "[I", true)
  | 5 => ("DairyShares$Offers", "stage", "[I", true)
  | 6 => ("DairyShares$Offers", "daysLeft", "[I", true)
  | 7 => ("DairyShares$Offers", "sales", "[I", true)
  | _ => ("DairyShares$Offers", "claims", "[I", true)
def tyX3 : Nat → FieldType := fun k => match k with
  | 0 => .int
  | 1 => .array .int
  | 2 => .array .int
  | 3 => .array .int
  | 4 => .array .int
  | 5 => .array .int
  | 6 => .array .int
  | 7 => .array .int
  | _ => .array .int
abbrev wsX30 : List Cond := u_ws RX3 TX3 9
theorem nmX3 : ∀ a, a < 9 → ∀ b, b < 9 → a ≠ b → (TX3 a).2.1 ≠ (TX3 b).2.1 := by decide +kernel
theorem tyX3_ok : ∀ k, k < 9 → parseFieldDescriptor (TX3 k).2.2.1 = some (tyX3 k) := by decide +kernel
abbrev cX3_init : ByteArray := prog_5_method_1_code
def yX3_init : MethodName := ⟨RX3, "<init>", "()V"⟩
abbrev cX3_copyFrom : ByteArray := prog_5_method_2_code
def yX3_copyFrom : MethodName := ⟨RX3, "copyFrom", "(LDairyShares$Offers;)V"⟩
abbrev cX3_has : ByteArray := prog_5_method_3_code
def yX3_has : MethodName := ⟨RX3, "has", "(I)Z"⟩
abbrev cX3_isOpen : ByteArray := prog_5_method_4_code
def yX3_isOpen : MethodName := ⟨RX3, "isOpen", "(I)Z"⟩
abbrev cX3_add : ByteArray := prog_5_method_5_code
def yX3_add : MethodName := ⟨RX3, "add", "(IIII)I"⟩
abbrev cX3_beginStage : ByteArray := prog_5_method_6_code
def yX3_beginStage : MethodName := ⟨RX3, "beginStage", "(III)V"⟩
abbrev cX3_losesLastDay : ByteArray := prog_5_method_7_code
def yX3_losesLastDay : MethodName := ⟨RX3, "losesLastDay", "(I)Z"⟩
abbrev cX3_close : ByteArray := prog_5_method_8_code
def yX3_close : MethodName := ⟨RX3, "close", "(I)V"⟩
abbrev cX3_claimBy : ByteArray := prog_5_method_9_code
def yX3_claimBy : MethodName := ⟨RX3, "claimBy", "(II)I"⟩
abbrev cX3_setClaim : ByteArray := prog_5_method_10_code
def yX3_setClaim : MethodName := ⟨RX3, "setClaim", "(III)V"⟩
abbrev cX3_clearClaims : ByteArray := prog_5_method_11_code
def yX3_clearClaims : MethodName := ⟨RX3, "clearClaims", "(I)V"⟩
abbrev cX3_sumOfClaims : ByteArray := prog_5_method_12_code
def yX3_sumOfClaims : MethodName := ⟨RX3, "sumOfClaims", "(I)I"⟩
abbrev cX3_soldTo : ByteArray := prog_5_method_13_code
def yX3_soldTo : MethodName := ⟨RX3, "soldTo", "(II)I"⟩
abbrev cX3_recordSale : ByteArray := prog_5_method_14_code
def yX3_recordSale : MethodName := ⟨RX3, "recordSale", "(III)V"⟩
abbrev cX3_remainingOf : ByteArray := prog_5_method_15_code
def yX3_remainingOf : MethodName := ⟨RX3, "remainingOf", "(I)I"⟩
def RX4 : String := "DairyShares$Register"
def TX4 : u_T := fun k => match k with
  | 0 => ("DairyShares$Register", "members", "LDairyShares$Members;", true)
  | 1 => ("DairyShares$Register", "settings", "LDairyShares$Settings;", true)
  | 2 => ("DairyShares$Register", "books", "LDairyShares$Books;", true)
  | 3 => ("DairyShares$Register", "offers", "LDairyShares$Offers;", true)
  | 4 => ("DairyShares$Register", "motions", "LDairyShares$Motions;", true)
  | 5 => ("DairyShares$Register", "treasuryShares", "I", false)
  | _ => ("DairyShares$Register", "daysPassed", "I", false)
def tyX4 : Nat → FieldType := fun k => match k with
  | 0 => .object "DairyShares$Members"
  | 1 => .object "DairyShares$Settings"
  | 2 => .object "DairyShares$Books"
  | 3 => .object "DairyShares$Offers"
  | 4 => .object "DairyShares$Motions"
  | 5 => .int
  | _ => .int
abbrev wsX40 : List Cond := u_ws RX4 TX4 7
theorem nmX4 : ∀ a, a < 7 → ∀ b, b < 7 → a ≠ b → (TX4 a).2.1 ≠ (TX4 b).2.1 := by decide +kernel
theorem tyX4_ok : ∀ k, k < 7 → parseFieldDescriptor (TX4 k).2.2.1 = some (tyX4 k) := by decide +kernel
abbrev cX4_init : ByteArray := prog_6_method_1_code
def yX4_init : MethodName := ⟨RX4, "<init>", "()V"⟩
abbrev cX4_copyFrom : ByteArray := prog_6_method_2_code
def yX4_copyFrom : MethodName := ⟨RX4, "copyFrom", "(LDairyShares$Register;)V"⟩
abbrev cX4_countAllShares : ByteArray := prog_6_method_3_code
def yX4_countAllShares : MethodName := ⟨RX4, "countAllShares", "()I"⟩
abbrev cX4_requirementOf : ByteArray := prog_6_method_4_code
def yX4_requirementOf : MethodName := ⟨RX4, "requirementOf", "(I)I"⟩
abbrev cX4_freeSharesOf : ByteArray := prog_6_method_5_code
def yX4_freeSharesOf : MethodName := ⟨RX4, "freeSharesOf", "(I)I"⟩
abbrev cX4_roomOf : ByteArray := prog_6_method_6_code
def yX4_roomOf : MethodName := ⟨RX4, "roomOf", "(I)I"⟩
abbrev cX4_isNeedy : ByteArray := prog_6_method_7_code
def yX4_isNeedy : MethodName := ⟨RX4, "isNeedy", "(I)Z"⟩
abbrev cX4_canClaim : ByteArray := prog_6_method_8_code
def yX4_canClaim : MethodName := ⟨RX4, "canClaim", "(II)Z"⟩
abbrev cX4_runDay : ByteArray := prog_6_method_9_code
def yX4_runDay : MethodName := ⟨RX4, "runDay", "(LDairyShares$Split;)I"⟩
abbrev cX4_endStage : ByteArray := prog_6_method_10_code
def yX4_endStage : MethodName := ⟨RX4, "endStage", "(ILDairyShares$Split;)V"⟩
abbrev cX4_sellToClaimants : ByteArray := prog_6_method_11_code
def yX4_sellToClaimants : MethodName := ⟨RX4, "sellToClaimants", "(IILDairyShares$Split;)V"⟩
abbrev cX4_sellToTreasury : ByteArray := prog_6_method_12_code
def yX4_sellToTreasury : MethodName := ⟨RX4, "sellToTreasury", "(I)V"⟩
abbrev cX4_sellToBuyer : ByteArray := prog_6_method_13_code
def yX4_sellToBuyer : MethodName := ⟨RX4, "sellToBuyer", "(I)V"⟩
abbrev cX4_sellToMember : ByteArray := prog_6_method_14_code
def yX4_sellToMember : MethodName := ⟨RX4, "sellToMember", "(IIIII)V"⟩
abbrev cX4_takeFromSeller : ByteArray := prog_6_method_15_code
def yX4_takeFromSeller : MethodName := ⟨RX4, "takeFromSeller", "(IIII)V"⟩
def RX5 : String := "DairyShares$Settings"
def TX5 : u_T := fun k => match k with
  | 0 => ("DairyShares$Settings", "litersPerShare", "I", false)
  | 1 => ("DairyShares$Settings", "treasuryLimit", "I", false)
  | 2 => ("DairyShares$Settings", "parValue", "I", false)
  | 3 => ("DairyShares$Settings", "cap", "I", false)
  | 4 => ("DairyShares$Settings", "stageLength", "I", false)
  | 5 => ("DairyShares$Settings", "votingRule", "I", false)
  | _ => ("DairyShares$Settings", "quorum", "I", false)
def tyX5 : Nat → FieldType := fun k => match k with
  | 0 => .int
  | 1 => .int
  | 2 => .int
  | 3 => .int
  | 4 => .int
  | 5 => .int
  | _ => .int
abbrev wsX50 : List Cond := u_ws RX5 TX5 7
theorem nmX5 : ∀ a, a < 7 → ∀ b, b < 7 → a ≠ b → (TX5 a).2.1 ≠ (TX5 b).2.1 := by decide +kernel
theorem tyX5_ok : ∀ k, k < 7 → parseFieldDescriptor (TX5 k).2.2.1 = some (tyX5 k) := by decide +kernel
abbrev cX5_init : ByteArray := prog_7_method_1_code
def yX5_init : MethodName := ⟨RX5, "<init>", "()V"⟩
abbrev cX5_copyFrom : ByteArray := prog_7_method_2_code
def yX5_copyFrom : MethodName := ⟨RX5, "copyFrom", "(LDairyShares$Settings;)V"⟩
def RX6 : String := "DairyShares$Split"
def TX6 : u_T := fun k => match k with
  | 0 => ("DairyShares$Split", "demand", "[I", true)
  | 1 => ("DairyShares$Split", "part", "[I", true)
  | _ => ("DairyShares$Split", "remainder", "[I", true)
def tyX6 : Nat → FieldType := fun k => match k with
  | 0 => .array .int
  | 1 => .array .int
  | _ => .array .int
abbrev wsX60 : List Cond := u_ws RX6 TX6 3
theorem nmX6 : ∀ a, a < 3 → ∀ b, b < 3 → a ≠ b → (TX6 a).2.1 ≠ (TX6 b).2.1 := by decide +kernel
theorem tyX6_ok : ∀ k, k < 3 → parseFieldDescriptor (TX6 k).2.2.1 = some (tyX6 k) := by decide +kernel
abbrev cX6_init : ByteArray := prog_8_method_1_code
def yX6_init : MethodName := ⟨RX6, "<init>", "()V"⟩
abbrev cX6_divide : ByteArray := prog_8_method_2_code
def yX6_divide : MethodName := ⟨RX6, "divide", "(I)V"⟩
abbrev cX6_sumOfDemands : ByteArray := prog_8_method_3_code
def yX6_sumOfDemands : MethodName := ⟨RX6, "sumOfDemands", "()I"⟩
abbrev cX6_handOut : ByteArray := prog_8_method_4_code
def yX6_handOut : MethodName := ⟨RX6, "handOut", "(I)V"⟩
abbrev cX6_greatestRemainder : ByteArray := prog_8_method_5_code
def yX6_greatestRemainder : MethodName := ⟨RX6, "greatestRemainder", "()I"⟩
def RX7 : String := "DairyShares"
def TX7 : u_T := fun k => match k with
  | 0 => ("DairyShares", "now", "LDairyShares$Register;", false)
  | 1 => ("DairyShares", "newest", "LDairyShares$Register;", false)
  | 2 => ("DairyShares", "second", "LDairyShares$Register;", false)
  | 3 => ("DairyShares", "third", "LDairyShares$Register;", false)
  | 4 => ("DairyShares", "oldest", "LDairyShares$Register;", false)
  | 5 => ("DairyShares", "statesKept", "I", false)
  | _ => ("DairyShares", "split", "LDairyShares$Split;", true)
def tyX7 : Nat → FieldType := fun k => match k with
  | 0 => .object "DairyShares$Register"
  | 1 => .object "DairyShares$Register"
  | 2 => .object "DairyShares$Register"
  | 3 => .object "DairyShares$Register"
  | 4 => .object "DairyShares$Register"
  | 5 => .int
  | _ => .object "DairyShares$Split"
abbrev wsX70 : List Cond := u_ws RX7 TX7 7
theorem nmX7 : ∀ a, a < 7 → ∀ b, b < 7 → a ≠ b → (TX7 a).2.1 ≠ (TX7 b).2.1 := by decide +kernel
theorem tyX7_ok : ∀ k, k < 7 → parseFieldDescriptor (TX7 k).2.2.1 = some (tyX7 k) := by decide +kernel
abbrev cX7_init : ByteArray := prog_1_method_1_code
def yX7_init : MethodName := ⟨RX7, "<init>", "()V"⟩
abbrev cX7_join : ByteArray := prog_1_method_2_code
def yX7_join : MethodName := ⟨RX7, "join", "()I"⟩
abbrev cX7_issue : ByteArray := prog_1_method_3_code
def yX7_issue : MethodName := ⟨RX7, "issue", "(II)I"⟩
abbrev cX7_setMilk : ByteArray := prog_1_method_4_code
def yX7_setMilk : MethodName := ⟨RX7, "setMilk", "(II)I"⟩
abbrev cX7_setLitersPerShare : ByteArray := prog_1_method_5_code
def yX7_setLitersPerShare : MethodName := ⟨RX7, "setLitersPerShare", "(I)I"⟩
abbrev cX7_setTreasuryLimit : ByteArray := prog_1_method_6_code
def yX7_setTreasuryLimit : MethodName := ⟨RX7, "setTreasuryLimit", "(I)I"⟩
abbrev cX7_memberCount : ByteArray := prog_1_method_7_code
def yX7_memberCount : MethodName := ⟨RX7, "memberCount", "()I"⟩
abbrev cX7_shares : ByteArray := prog_1_method_8_code
def yX7_shares : MethodName := ⟨RX7, "shares", "(I)I"⟩
abbrev cX7_account : ByteArray := prog_1_method_9_code
def yX7_account : MethodName := ⟨RX7, "account", "(I)J"⟩
abbrev cX7_requirement : ByteArray := prog_1_method_10_code
def yX7_requirement : MethodName := ⟨RX7, "requirement", "(I)I"⟩
abbrev cX7_freeShares : ByteArray := prog_1_method_11_code
def yX7_freeShares : MethodName := ⟨RX7, "freeShares", "(I)I"⟩
abbrev cX7_room : ByteArray := prog_1_method_12_code
def yX7_room : MethodName := ⟨RX7, "room", "(I)I"⟩
abbrev cX7_allShares : ByteArray := prog_1_method_13_code
def yX7_allShares : MethodName := ⟨RX7, "allShares", "()I"⟩
abbrev cX7_treasury : ByteArray := prog_1_method_14_code
def yX7_treasury : MethodName := ⟨RX7, "treasury", "()I"⟩
abbrev cX7_setBooks : ByteArray := prog_1_method_15_code
def yX7_setBooks : MethodName := ⟨RX7, "setBooks", "(II)I"⟩
abbrev cX7_addSurplus : ByteArray := prog_1_method_16_code
def yX7_addSurplus : MethodName := ⟨RX7, "addSurplus", "(I)I"⟩
abbrev cX7_valuate : ByteArray := prog_1_method_17_code
def yX7_valuate : MethodName := ⟨RX7, "valuate", "()I"⟩
abbrev cX7_price : ByteArray := prog_1_method_18_code
def yX7_price : MethodName := ⟨RX7, "price", "()I"⟩
abbrev cX7_parValue : ByteArray := prog_1_method_19_code
def yX7_parValue : MethodName := ⟨RX7, "parValue", "()I"⟩
abbrev cX7_offer : ByteArray := prog_1_method_20_code
def yX7_offer : MethodName := ⟨RX7, "offer", "(IIII)I"⟩
abbrev cX7_claim : ByteArray := prog_1_method_21_code
def yX7_claim : MethodName := ⟨RX7, "claim", "(III)I"⟩
abbrev cX7_withdraw : ByteArray := prog_1_method_22_code
def yX7_withdraw : MethodName := ⟨RX7, "withdraw", "(I)I"⟩
abbrev cX7_passDays : ByteArray := prog_1_method_23_code
def yX7_passDays : MethodName := ⟨RX7, "passDays", "(I)I"⟩
abbrev cX7_offerCount : ByteArray := prog_1_method_24_code
def yX7_offerCount : MethodName := ⟨RX7, "offerCount", "()I"⟩
abbrev cX7_stage : ByteArray := prog_1_method_25_code
def yX7_stage : MethodName := ⟨RX7, "stage", "(I)I"⟩
abbrev cX7_remaining : ByteArray := prog_1_method_26_code
def yX7_remaining : MethodName := ⟨RX7, "remaining", "(I)I"⟩
abbrev cX7_daysLeft : ByteArray := prog_1_method_27_code
def yX7_daysLeft : MethodName := ⟨RX7, "daysLeft", "(I)I"⟩
abbrev cX7_sold : ByteArray := prog_1_method_28_code
def yX7_sold : MethodName := ⟨RX7, "sold", "(II)I"⟩
abbrev cX7_claimOf : ByteArray := prog_1_method_29_code
def yX7_claimOf : MethodName := ⟨RX7, "claimOf", "(II)I"⟩
abbrev cX7_day : ByteArray := prog_1_method_37_code
def yX7_day : MethodName := ⟨RX7, "day", "()I"⟩
abbrev cX7_historySize : ByteArray := prog_1_method_38_code
def yX7_historySize : MethodName := ⟨RX7, "historySize", "()I"⟩
abbrev cX7_undo : ByteArray := prog_1_method_39_code
def yX7_undo : MethodName := ⟨RX7, "undo", "()I"⟩
abbrev cX7_keepState : ByteArray := prog_1_method_40_code
def yX7_keepState : MethodName := ⟨RX7, "keepState", "()V"⟩
abbrev cX7_isWithin : ByteArray := prog_1_method_41_code
def yX7_isWithin : MethodName := ⟨RX7, "isWithin", "(III)Z"⟩
abbrev cX7_quotient : ByteArray := prog_1_method_43_code
def yX7_quotient : MethodName := ⟨RX7, "quotient", "(II)I"⟩
def RX8 : String := "DairySharesModel"
def TX8 : u_T := fun k => match k with
  | _ => ("", "", "", false)
def tyX8 : Nat → FieldType := fun k => match k with
  | _ => .int
abbrev wsX80 : List Cond := u_ws RX8 TX8 0
theorem nmX8 : ∀ a, a < 0 → ∀ b, b < 0 → a ≠ b → (TX8 a).2.1 ≠ (TX8 b).2.1 := by decide +kernel
theorem tyX8_ok : ∀ k, k < 0 → parseFieldDescriptor (TX8 k).2.2.1 = some (tyX8 k) := by decide +kernel
def RJ9 : String := "java/lang/Math"
def TJ9 : u_T := fun k => match k with
  | _ => ("", "", "", false)
def tyJ9 : Nat → FieldType := fun k => match k with
  | _ => .int
abbrev wsJ90 : List Cond := u_ws RJ9 TJ9 0
theorem nmJ9 : ∀ a, a < 0 → ∀ b, b < 0 → a ≠ b → (TJ9 a).2.1 ≠ (TJ9 b).2.1 := by decide +kernel
theorem tyJ9_ok : ∀ k, k < 0 → parseFieldDescriptor (TJ9 k).2.2.1 = some (tyJ9 k) := by decide +kernel
abbrev cJ9_floorDiv_7cf53 : ByteArray := prog_11_method_47_code
def yJ9_floorDiv_7cf53 : MethodName := ⟨RJ9, "floorDiv", "(II)I"⟩
abbrev cJ9_max_7cf53 : ByteArray := prog_11_method_65_code
def yJ9_max_7cf53 : MethodName := ⟨RJ9, "max", "(II)I"⟩
abbrev cJ9_min_7cf53 : ByteArray := prog_11_method_69_code
def yJ9_min_7cf53 : MethodName := ⟨RJ9, "min", "(II)I"⟩
def RJ10 : String := "java/lang/System"
def TJ10 : u_T := fun k => match k with
  | _ => ("", "", "", false)
def tyJ10 : Nat → FieldType := fun k => match k with
  | _ => .int
abbrev wsJ100 : List Cond := u_ws RJ10 TJ10 0
theorem nmJ10 : ∀ a, a < 0 → ∀ b, b < 0 → a ≠ b → (TJ10 a).2.1 ≠ (TJ10 b).2.1 := by decide +kernel
theorem tyJ10_ok : ∀ k, k < 0 → parseFieldDescriptor (TJ10 k).2.2.1 = some (tyJ10 k) := by decide +kernel
def RL : String := "DairySharesLaw"
abbrev cL_cell : ByteArray := method_2_code
def yL_cell : MethodName := ⟨RL, "cell", "([II)I"⟩
abbrev cL_begins : ByteArray := method_4_code
def yL_begins : MethodName := ⟨RL, "begins", "(LDairyShares;[II)Z"⟩
abbrev cL_accounts : ByteArray := method_5_code
def yL_accounts : MethodName := ⟨RL, "accounts", "(LDairyShares;)J"⟩
abbrev cL_offerHolds : ByteArray := method_6_code
def yL_offerHolds : MethodName := ⟨RL, "offerHolds", "(LDairyShares;II)Z"⟩
abbrev cL_holds : ByteArray := method_7_code
def yL_holds : MethodName := ⟨RL, "holds", "(LDairyShares;[I[I)Z"⟩
abbrev cL_passes : ByteArray := method_8_code
def yL_passes : MethodName := ⟨RL, "passes", "(LDairyShares;I)Z"⟩
abbrev cL_claims : ByteArray := method_9_code
def yL_claims : MethodName := ⟨RL, "claims", "(LDairyShares;IIII)Z"⟩
abbrev cL_valuates : ByteArray := method_10_code
def yL_valuates : MethodName := ⟨RL, "valuates", "(LDairyShares;)Z"⟩
abbrev cL_law : ByteArray := code
def yL_law : MethodName := ⟨RL, "law", "([I)Z"⟩
def wsL_law_r1 : List Cond := [Cond.classLink RL 15 RX7, Cond.instantiable RX7 7, Cond.initialized RX7, Cond.arrayClass .int, Cond.constant RL 94 (-2000000002), Cond.constant RL 113 (300000), Cond.constant RL 117 (100000), Cond.constant RL 121 (-100000000), Cond.constant RL 133 (-2000000001), Cond.constant RL 148 (-2000000003), Cond.constant RL 152 (1000001), Cond.methodLink RL 101 yX7_init, Cond.instanceMethod yX7_init, Cond.code yX7_init cX7_init 1 none, Cond.methodLink RX7 1 objectInit, Cond.instanceMethod objectInit, Cond.code objectInit ⟨#[0xb1]⟩ 1 none, Cond.classLink RX7 7 RX4, Cond.instantiable RX4 7, Cond.initialized RX4, Cond.fieldLink RX7 10 "DairyShares" "now" "LDairyShares$Register;", Cond.fieldLink RX7 16 "DairyShares" "newest" "LDairyShares$Register;", Cond.fieldLink RX7 19 "DairyShares" "second" "LDairyShares$Register;", Cond.fieldLink RX7 22 "DairyShares" "third" "LDairyShares$Register;"]
def wsL_law_r2 : List Cond := [Cond.fieldLink RX7 25 "DairyShares" "oldest" "LDairyShares$Register;", Cond.fieldLink RX7 28 "DairyShares" "statesKept" "I", Cond.classLink RX7 32 RX6, Cond.instantiable RX6 3, Cond.initialized RX6, Cond.fieldLink RX7 35 "DairyShares" "split" "LDairyShares$Split;", Cond.instanceMethod yX4_init, Cond.code yX4_init cX4_init 1 none, Cond.methodLink RX4 3 objectInit, Cond.classLink RX4 9 RX1, Cond.instantiable RX1 4, Cond.initialized RX1, Cond.fieldLink RX4 12 "DairyShares$Register" "members" "LDairyShares$Members;", Cond.classLink RX4 18 RX5, Cond.instantiable RX5 7, Cond.initialized RX5, Cond.fieldLink RX4 21 "DairyShares$Register" "settings" "LDairyShares$Settings;", Cond.classLink RX4 25 RX0, Cond.instantiable RX0 5, Cond.initialized RX0, Cond.fieldLink RX4 28 "DairyShares$Register" "books" "LDairyShares$Books;", Cond.classLink RX4 32 RX3, Cond.instantiable RX3 9, Cond.initialized RX3]
def wsL_law_r3 : List Cond := [Cond.fieldLink RX4 35 "DairyShares$Register" "offers" "LDairyShares$Offers;", Cond.classLink RX4 39 RX2, Cond.instantiable RX2 5, Cond.initialized RX2, Cond.fieldLink RX4 42 "DairyShares$Register" "motions" "LDairyShares$Motions;", Cond.fieldLink RX4 46 "DairyShares$Register" "treasuryShares" "I", Cond.fieldLink RX4 50 "DairyShares$Register" "daysPassed" "I", Cond.instanceMethod yX1_init, Cond.code yX1_init cX1_init 1 none, Cond.methodLink RX1 3 objectInit, Cond.fieldLink RX1 9 "DairyShares$Members" "count" "I", Cond.fieldLink RX1 15 "DairyShares$Members" "shares" "[I", Cond.fieldLink RX1 19 "DairyShares$Members" "milk" "[I", Cond.arrayClass .long, Cond.fieldLink RX1 22 "DairyShares$Members" "account" "[J", Cond.instanceMethod yX5_init, Cond.code yX5_init cX5_init 1 none, Cond.methodLink RX5 3 objectInit, Cond.fieldLink RX5 9 "DairyShares$Settings" "litersPerShare" "I", Cond.fieldLink RX5 15 "DairyShares$Settings" "treasuryLimit" "I", Cond.fieldLink RX5 18 "DairyShares$Settings" "parValue" "I", Cond.fieldLink RX5 21 "DairyShares$Settings" "cap" "I", Cond.fieldLink RX5 24 "DairyShares$Settings" "stageLength" "I", Cond.fieldLink RX5 27 "DairyShares$Settings" "votingRule" "I"]
def wsL_law_r4 : List Cond := [Cond.fieldLink RX5 30 "DairyShares$Settings" "quorum" "I", Cond.instanceMethod yX0_init, Cond.code yX0_init cX0_init 1 none, Cond.methodLink RX0 3 objectInit, Cond.fieldLink RX0 9 "DairyShares$Books" "assets" "I", Cond.fieldLink RX0 15 "DairyShares$Books" "debts" "I", Cond.fieldLink RX0 18 "DairyShares$Books" "price" "I", Cond.fieldLink RX0 21 "DairyShares$Books" "surplusCount" "I", Cond.fieldLink RX0 24 "DairyShares$Books" "surpluses" "[I", Cond.instanceMethod yX3_init, Cond.code yX3_init cX3_init 1 none, Cond.methodLink RX3 3 objectInit, Cond.fieldLink RX3 9 "DairyShares$Offers" "count" "I", Cond.fieldLink RX3 15 "DairyShares$Offers" "seller" "[I", Cond.fieldLink RX3 19 "DairyShares$Offers" "buyer" "[I", Cond.fieldLink RX3 22 "DairyShares$Offers" "offered" "[I", Cond.fieldLink RX3 25 "DairyShares$Offers" "remaining" "[I", Cond.fieldLink RX3 28 "DairyShares$Offers" "stage" "[I", Cond.fieldLink RX3 31 "DairyShares$Offers" "daysLeft" "[I", Cond.fieldLink RX3 34 "DairyShares$Offers" "sales" "[I", Cond.fieldLink RX3 37 "DairyShares$Offers" "claims" "[I", Cond.instanceMethod yX2_init, Cond.code yX2_init cX2_init 1 none, Cond.methodLink RX2 3 objectInit]
def wsL_law_r5 : List Cond := [Cond.fieldLink RX2 9 "DairyShares$Motions" "count" "I", Cond.fieldLink RX2 15 "DairyShares$Motions" "kind" "[I", Cond.fieldLink RX2 19 "DairyShares$Motions" "value" "[I", Cond.fieldLink RX2 22 "DairyShares$Motions" "state" "[I", Cond.fieldLink RX2 25 "DairyShares$Motions" "ballots" "[I", Cond.instanceMethod yX6_init, Cond.code yX6_init cX6_init 1 none, Cond.methodLink RX6 3 objectInit, Cond.fieldLink RX6 9 "DairyShares$Split" "demand" "[I", Cond.fieldLink RX6 15 "DairyShares$Split" "part" "[I", Cond.fieldLink RX6 18 "DairyShares$Split" "remainder" "[I", Cond.methodLink RL 95 yX7_valuate, Cond.instanceMethod yX7_valuate, Cond.selects RX7 yX7_valuate yX7_valuate, Cond.code yX7_valuate cX7_valuate 2 (some .int), Cond.constant RX7 128 (-2000000002), Cond.fieldLink RX7 73 "DairyShares$Register" "books" "LDairyShares$Books;", Cond.fieldLink RX7 86 "DairyShares$Register" "settings" "LDairyShares$Settings;", Cond.fieldLink RX7 132 "DairyShares$Settings" "parValue" "I", Cond.methodLink RX7 135 Lib.Math.max.name, Cond.static Lib.Math.max.name, Cond.initialized "java/lang/Math", Cond.code Lib.Math.max.name Lib.Math.max.code 2 (some .int), Cond.fieldLink RX7 77 "DairyShares$Books" "price" "I"]
def wsL_law_r6 : List Cond := [Cond.methodLink RX7 61 yX4_countAllShares, Cond.instanceMethod yX4_countAllShares, Cond.selects RX4 yX4_countAllShares yX4_countAllShares, Cond.code yX4_countAllShares cX4_countAllShares 3 (some .int), Cond.fieldLink RX4 69 "DairyShares$Members" "count" "I", Cond.fieldLink RX4 72 "DairyShares$Members" "shares" "[I", Cond.methodLink RX7 49 yX7_keepState, Cond.instanceMethod yX7_keepState, Cond.selects RX7 yX7_keepState yX7_keepState, Cond.code yX7_keepState cX7_keepState 2 none, Cond.methodLink RX7 252 Lib.Math.min.name, Cond.static Lib.Math.min.name, Cond.code Lib.Math.min.name Lib.Math.min.code 2 (some .int), Cond.methodLink RX7 248 yX4_copyFrom, Cond.instanceMethod yX4_copyFrom, Cond.selects RX4 yX4_copyFrom yX4_copyFrom, Cond.code yX4_copyFrom cX4_copyFrom 2 none, Cond.methodLink RX4 53 yX1_copyFrom, Cond.instanceMethod yX1_copyFrom, Cond.selects RX1 yX1_copyFrom yX1_copyFrom, Cond.code yX1_copyFrom cX1_copyFrom 2 none, Cond.methodLink RX1 26 arraycopyName, Cond.native arraycopyName, Cond.static arraycopyName]
def wsL_law_r7 : List Cond := [Cond.initialized "java/lang/System", Cond.methodLink RX4 57 yX5_copyFrom, Cond.instanceMethod yX5_copyFrom, Cond.selects RX5 yX5_copyFrom yX5_copyFrom, Cond.code yX5_copyFrom cX5_copyFrom 2 none, Cond.methodLink RX4 60 yX0_copyFrom, Cond.instanceMethod yX0_copyFrom, Cond.selects RX0 yX0_copyFrom yX0_copyFrom, Cond.code yX0_copyFrom cX0_copyFrom 2 none, Cond.methodLink RX0 28 arraycopyName, Cond.methodLink RX4 63 yX3_copyFrom, Cond.instanceMethod yX3_copyFrom, Cond.selects RX3 yX3_copyFrom yX3_copyFrom, Cond.code yX3_copyFrom cX3_copyFrom 2 none, Cond.methodLink RX3 40 arraycopyName, Cond.methodLink RX4 66 yX2_copyFrom, Cond.instanceMethod yX2_copyFrom, Cond.selects RX2 yX2_copyFrom yX2_copyFrom, Cond.code yX2_copyFrom cX2_copyFrom 2 none, Cond.methodLink RX2 28 arraycopyName, Cond.methodLink RX7 129 yX0_valueOfOne, Cond.instanceMethod yX0_valueOfOne, Cond.selects RX0 yX0_valueOfOne yX0_valueOfOne, Cond.code yX0_valueOfOne cX0_valueOfOne 4 (some .int)]
def wsL_law_r8 : List Cond := [Cond.static yX7_quotient, Cond.code yX7_quotient cX7_quotient 2 (some .int), Cond.methodLink RX7 255 yJ9_floorDiv_7cf53, Cond.static yJ9_floorDiv_7cf53, Cond.initialized RJ9, Cond.code yJ9_floorDiv_7cf53 cJ9_floorDiv_7cf53 3 (some .int), Cond.methodLink RX0 38 yX0_meanSurplus, Cond.instanceMethod yX0_meanSurplus, Cond.selects RX0 yX0_meanSurplus yX0_meanSurplus, Cond.code yX0_meanSurplus cX0_meanSurplus 3 (some .int), Cond.methodLink RL 102 yX7_undo, Cond.instanceMethod yX7_undo, Cond.selects RX7 yX7_undo yX7_undo, Cond.code yX7_undo cX7_undo 2 (some .int), Cond.methodLink RL 105 yL_begins, Cond.static yL_begins, Cond.initialized RL, Cond.code yL_begins cL_begins 6 (some .boolean), Cond.constant RL 24 (250000), Cond.methodLink RL 8 yL_cell, Cond.static yL_cell, Cond.code yL_cell cL_cell 2 (some .int), Cond.constant RL 7 (2147483647), Cond.methodLink RL 14 yX7_join]
def wsL_law_r9 : List Cond := [Cond.instanceMethod yX7_join, Cond.selects RX7 yX7_join yX7_join, Cond.code yX7_join cX7_join 1 (some .int), Cond.fieldLink RX7 39 "DairyShares$Register" "members" "LDairyShares$Members;", Cond.fieldLink RX7 43 "DairyShares$Members" "count" "I", Cond.constant RX7 48 (-2000000003), Cond.methodLink RL 20 yX7_issue, Cond.instanceMethod yX7_issue, Cond.selects RX7 yX7_issue yX7_issue, Cond.code yX7_issue cX7_issue 3 (some .int), Cond.constant RX7 60 (-2000000001), Cond.fieldLink RX7 65 "DairyShares$Members" "shares" "[I", Cond.fieldLink RX7 69 "DairyShares$Members" "account" "[J", Cond.methodLink RX7 52 yX1_has, Cond.instanceMethod yX1_has, Cond.selects RX1 yX1_has yX1_has, Cond.code yX1_has cX1_has 2 (some .boolean), Cond.methodLink RX7 56 yX7_isWithin, Cond.static yX7_isWithin, Cond.code yX7_isWithin cX7_isWithin 3 (some .boolean), Cond.methodLink RL 25 yX7_setMilk, Cond.instanceMethod yX7_setMilk, Cond.selects RX7 yX7_setMilk yX7_setMilk, Cond.code yX7_setMilk cX7_setMilk 4 (some .int)]
def wsL_law_r10 : List Cond := [Cond.constant RX7 82 (1000000), Cond.fieldLink RX7 83 "DairyShares$Members" "milk" "[I", Cond.methodLink RL 109 yL_holds, Cond.static yL_holds, Cond.code yL_holds cL_holds 8 (some .boolean), Cond.methodLink RL 52 yX7_treasury, Cond.instanceMethod yX7_treasury, Cond.selects RX7 yX7_treasury yX7_treasury, Cond.code yX7_treasury cX7_treasury 1 (some .int), Cond.fieldLink RX7 110 "DairyShares$Register" "treasuryShares" "I", Cond.methodLink RL 55 yX7_allShares, Cond.instanceMethod yX7_allShares, Cond.selects RX7 yX7_allShares yX7_allShares, Cond.code yX7_allShares cX7_allShares 1 (some .int), Cond.methodLink RL 28 yX7_memberCount, Cond.instanceMethod yX7_memberCount, Cond.selects RX7 yX7_memberCount yX7_memberCount, Cond.code yX7_memberCount cX7_memberCount 1 (some .int), Cond.methodLink RL 58 yX7_offerCount, Cond.instanceMethod yX7_offerCount, Cond.selects RX7 yX7_offerCount yX7_offerCount, Cond.code yX7_offerCount cX7_offerCount 1 (some .int), Cond.fieldLink RX7 142 "DairyShares$Register" "offers" "LDairyShares$Offers;", Cond.fieldLink RX7 146 "DairyShares$Offers" "count" "I"]
def wsL_law_r11 : List Cond := [Cond.methodLink RL 38 yX7_stage, Cond.instanceMethod yX7_stage, Cond.selects RX7 yX7_stage yX7_stage, Cond.code yX7_stage cX7_stage 2 (some .int), Cond.fieldLink RX7 184 "DairyShares$Offers" "stage" "[I", Cond.methodLink RX7 160 yX3_has, Cond.instanceMethod yX3_has, Cond.selects RX3 yX3_has yX3_has, Cond.code yX3_has cX3_has 2 (some .boolean), Cond.methodLink RL 42 yX7_remaining, Cond.instanceMethod yX7_remaining, Cond.selects RX7 yX7_remaining yX7_remaining, Cond.code yX7_remaining cX7_remaining 2 (some .int), Cond.fieldLink RX7 177 "DairyShares$Offers" "remaining" "[I", Cond.methodLink RL 61 yX7_shares, Cond.instanceMethod yX7_shares, Cond.selects RX7 yX7_shares yX7_shares, Cond.code yX7_shares cX7_shares 2 (some .int), Cond.methodLink RL 64 yX7_requirement, Cond.instanceMethod yX7_requirement, Cond.selects RX7 yX7_requirement yX7_requirement, Cond.code yX7_requirement cX7_requirement 2 (some .int), Cond.methodLink RX7 100 yX4_requirementOf, Cond.instanceMethod yX4_requirementOf]
def wsL_law_r12 : List Cond := [Cond.selects RX4 yX4_requirementOf yX4_requirementOf, Cond.code yX4_requirementOf cX4_requirementOf 3 (some .int), Cond.fieldLink RX4 76 "DairyShares$Settings" "litersPerShare" "I", Cond.fieldLink RX4 79 "DairyShares$Members" "milk" "[I", Cond.methodLink RL 67 yX7_room, Cond.instanceMethod yX7_room, Cond.selects RX7 yX7_room yX7_room, Cond.code yX7_room cX7_room 2 (some .int), Cond.methodLink RX7 107 yX4_roomOf, Cond.instanceMethod yX4_roomOf, Cond.selects RX4 yX4_roomOf yX4_roomOf, Cond.code yX4_roomOf cX4_roomOf 3 (some .int), Cond.fieldLink RX4 102 "DairyShares$Settings" "cap" "I", Cond.methodLink RX4 93 Lib.Math.max.name, Cond.methodLink RX4 98 yX4_countAllShares, Cond.methodLink RL 70 yX7_freeShares, Cond.instanceMethod yX7_freeShares, Cond.selects RX7 yX7_freeShares yX7_freeShares, Cond.code yX7_freeShares cX7_freeShares 2 (some .int), Cond.methodLink RX7 104 yX4_freeSharesOf, Cond.instanceMethod yX4_freeSharesOf, Cond.selects RX4 yX4_freeSharesOf yX4_freeSharesOf, Cond.code yX4_freeSharesOf cX4_freeSharesOf 3 (some .int), Cond.methodLink RX4 86 yX4_requirementOf]
def wsL_law_r13 : List Cond := [Cond.methodLink RX4 90 yX3_remainingOf, Cond.instanceMethod yX3_remainingOf, Cond.selects RX3 yX3_remainingOf yX3_remainingOf, Cond.code yX3_remainingOf cX3_remainingOf 4 (some .int), Cond.methodLink RX3 61 yX3_isOpen, Cond.instanceMethod yX3_isOpen, Cond.selects RX3 yX3_isOpen yX3_isOpen, Cond.code yX3_isOpen cX3_isOpen 2 (some .boolean), Cond.methodLink RL 73 yL_offerHolds, Cond.static yL_offerHolds, Cond.code yL_offerHolds cL_offerHolds 7 (some .boolean), Cond.constant RL 51 (-2000000004), Cond.methodLink RL 35 yX7_sold, Cond.instanceMethod yX7_sold, Cond.selects RX7 yX7_sold yX7_sold, Cond.code yX7_sold cX7_sold 3 (some .int), Cond.methodLink RX7 191 yX3_soldTo, Cond.instanceMethod yX3_soldTo, Cond.selects RX3 yX3_soldTo yX3_soldTo, Cond.code yX3_soldTo cX3_soldTo 3 (some .int), Cond.methodLink RL 45 yX7_claimOf, Cond.instanceMethod yX7_claimOf, Cond.selects RX7 yX7_claimOf yX7_claimOf, Cond.code yX7_claimOf cX7_claimOf 3 (some .int)]
def wsL_law_r14 : List Cond := [Cond.methodLink RX7 194 yX3_claimBy, Cond.instanceMethod yX3_claimBy, Cond.selects RX3 yX3_claimBy yX3_claimBy, Cond.code yX3_claimBy cX3_claimBy 3 (some .int), Cond.methodLink RL 48 yX7_daysLeft, Cond.instanceMethod yX7_daysLeft, Cond.selects RX7 yX7_daysLeft yX7_daysLeft, Cond.code yX7_daysLeft cX7_daysLeft 2 (some .int), Cond.fieldLink RX7 187 "DairyShares$Offers" "daysLeft" "[I", Cond.constant RX7 190 (-2000000004), Cond.methodLink RX7 171 yX3_isOpen, Cond.methodLink RL 31 yX7_account, Cond.instanceMethod yX7_account, Cond.selects RX7 yX7_account yX7_account, Cond.code yX7_account cX7_account 2 (some .long), Cond.constantLong RX7 98 (-2000000001), Cond.methodLink RL 84 yX7_price, Cond.instanceMethod yX7_price, Cond.selects RX7 yX7_price yX7_price, Cond.code yX7_price cX7_price 1 (some .int), Cond.methodLink RL 114 yX7_setLitersPerShare, Cond.instanceMethod yX7_setLitersPerShare, Cond.selects RX7 yX7_setLitersPerShare yX7_setLitersPerShare, Cond.code yX7_setLitersPerShare cX7_setLitersPerShare 3 (some .int)]
def wsL_law_r15 : List Cond := [Cond.fieldLink RX7 90 "DairyShares$Settings" "litersPerShare" "I", Cond.methodLink RL 118 yX7_setBooks, Cond.instanceMethod yX7_setBooks, Cond.selects RX7 yX7_setBooks yX7_setBooks, Cond.code yX7_setBooks cX7_setBooks 4 (some .int), Cond.constant RX7 113 (100000000), Cond.fieldLink RX7 114 "DairyShares$Books" "assets" "I", Cond.fieldLink RX7 117 "DairyShares$Books" "debts" "I", Cond.methodLink RL 122 yX7_addSurplus, Cond.instanceMethod yX7_addSurplus, Cond.selects RX7 yX7_addSurplus yX7_addSurplus, Cond.code yX7_addSurplus cX7_addSurplus 2 (some .int), Cond.constant RX7 120 (-1000000), Cond.fieldLink RX7 125 "DairyShares$Books" "surplusCount" "I", Cond.methodLink RX7 121 yX0_recordSurplus, Cond.instanceMethod yX0_recordSurplus, Cond.selects RX0 yX0_recordSurplus yX0_recordSurplus, Cond.code yX0_recordSurplus cX0_recordSurplus 2 none, Cond.methodLink RL 125 yL_valuates, Cond.static yL_valuates, Cond.code yL_valuates cL_valuates 2 (some .boolean), Cond.methodLink RL 98 yX7_parValue, Cond.instanceMethod yX7_parValue, Cond.selects RX7 yX7_parValue yX7_parValue]
def wsL_law_r16 : List Cond := [Cond.code yX7_parValue cX7_parValue 1 (some .int), Cond.methodLink RL 129 yL_claims, Cond.static yL_claims, Cond.code yL_claims cL_claims 10 (some .boolean), Cond.methodLink RL 90 yX7_claim, Cond.instanceMethod yX7_claim, Cond.selects RX7 yX7_claim yX7_claim, Cond.code yX7_claim cX7_claim 4 (some .int), Cond.methodLink RX7 161 yX4_canClaim, Cond.instanceMethod yX4_canClaim, Cond.selects RX4 yX4_canClaim yX4_canClaim, Cond.code yX4_canClaim cX4_canClaim 3 (some .boolean), Cond.fieldLink RX4 105 "DairyShares$Offers" "seller" "[I", Cond.fieldLink RX4 108 "DairyShares$Offers" "stage" "[I", Cond.methodLink RX4 111 yX4_isNeedy, Cond.instanceMethod yX4_isNeedy, Cond.selects RX4 yX4_isNeedy yX4_isNeedy, Cond.code yX4_isNeedy cX4_isNeedy 2 (some .boolean), Cond.methodLink RX7 165 yX3_setClaim, Cond.instanceMethod yX3_setClaim, Cond.selects RX3 yX3_setClaim yX3_setClaim, Cond.code yX3_setClaim cX3_setClaim 4 none, Cond.methodLink RX7 168 yX3_sumOfClaims, Cond.instanceMethod yX3_sumOfClaims]
def wsL_law_r17 : List Cond := [Cond.selects RX3 yX3_sumOfClaims yX3_sumOfClaims, Cond.code yX3_sumOfClaims cX3_sumOfClaims 4 (some .int), Cond.methodLink RX3 57 yX3_claimBy, Cond.methodLink RL 134 yX7_withdraw, Cond.instanceMethod yX7_withdraw, Cond.selects RX7 yX7_withdraw yX7_withdraw, Cond.code yX7_withdraw cX7_withdraw 2 (some .int), Cond.methodLink RX7 174 yX3_close, Cond.instanceMethod yX3_close, Cond.selects RX3 yX3_close yX3_close, Cond.code yX3_close cX3_close 2 none, Cond.methodLink RX3 50 yX3_beginStage, Cond.instanceMethod yX3_beginStage, Cond.selects RX3 yX3_beginStage yX3_beginStage, Cond.code yX3_beginStage cX3_beginStage 4 none, Cond.methodLink RX3 46 yX3_clearClaims, Cond.instanceMethod yX3_clearClaims, Cond.selects RX3 yX3_clearClaims yX3_clearClaims, Cond.code yX3_clearClaims cX3_clearClaims 3 none, Cond.methodLink RX3 54 yX3_setClaim, Cond.methodLink RL 137 yX7_setTreasuryLimit, Cond.instanceMethod yX7_setTreasuryLimit, Cond.selects RX7 yX7_setTreasuryLimit yX7_setTreasuryLimit, Cond.code yX7_setTreasuryLimit cX7_setTreasuryLimit 3 (some .int)]
def wsL_law_r18 : List Cond := [Cond.fieldLink RX7 95 "DairyShares$Settings" "treasuryLimit" "I", Cond.methodLink RL 140 yL_passes, Cond.static yL_passes, Cond.code yL_passes cL_passes 12 (some .boolean), Cond.methodLink RL 77 yL_accounts, Cond.static yL_accounts, Cond.code yL_accounts cL_accounts 4 (some .long), Cond.methodLink RL 81 yX7_day, Cond.instanceMethod yX7_day, Cond.selects RX7 yX7_day yX7_day, Cond.code yX7_day cX7_day 1 (some .int), Cond.fieldLink RX7 245 "DairyShares$Register" "daysPassed" "I", Cond.methodLink RL 87 yX7_passDays, Cond.instanceMethod yX7_passDays, Cond.selects RX7 yX7_passDays yX7_passDays, Cond.code yX7_passDays cX7_passDays 4 (some .int), Cond.methodLink RX7 180 yX4_runDay, Cond.instanceMethod yX4_runDay, Cond.selects RX4 yX4_runDay yX4_runDay, Cond.code yX4_runDay cX4_runDay 4 (some .int), Cond.fieldLink RX4 115 "DairyShares$Offers" "count" "I", Cond.methodLink RX4 116 yX3_isOpen, Cond.methodLink RX4 119 yX3_losesLastDay, Cond.instanceMethod yX3_losesLastDay]
def wsL_law_r19 : List Cond := [Cond.selects RX3 yX3_losesLastDay yX3_losesLastDay, Cond.code yX3_losesLastDay cX3_losesLastDay 2 (some .boolean), Cond.methodLink RX4 122 yX4_endStage, Cond.instanceMethod yX4_endStage, Cond.selects RX4 yX4_endStage yX4_endStage, Cond.code yX4_endStage cX4_endStage 4 none, Cond.fieldLink RX4 137 "DairyShares$Offers" "remaining" "[I", Cond.fieldLink RX4 143 "DairyShares$Settings" "stageLength" "I", Cond.methodLink RX4 126 yX4_sellToTreasury, Cond.instanceMethod yX4_sellToTreasury, Cond.selects RX4 yX4_sellToTreasury yX4_sellToTreasury, Cond.code yX4_sellToTreasury cX4_sellToTreasury 4 none, Cond.fieldLink RX4 177 "DairyShares$Settings" "treasuryLimit" "I", Cond.methodLink RX4 161 Lib.Math.min.name, Cond.fieldLink RX4 170 "DairyShares$Books" "price" "I", Cond.methodLink RX4 180 yX4_takeFromSeller, Cond.instanceMethod yX4_takeFromSeller, Cond.selects RX4 yX4_takeFromSeller yX4_takeFromSeller, Cond.code yX4_takeFromSeller cX4_takeFromSeller 6 none, Cond.fieldLink RX4 190 "DairyShares$Members" "account" "[J", Cond.methodLink RX4 194 yX3_recordSale, Cond.instanceMethod yX3_recordSale, Cond.selects RX3 yX3_recordSale yX3_recordSale, Cond.code yX3_recordSale cX3_recordSale 4 none]
def wsL_law_r20 : List Cond := [Cond.methodLink RX4 130 yX4_sellToBuyer, Cond.instanceMethod yX4_sellToBuyer, Cond.selects RX4 yX4_sellToBuyer yX4_sellToBuyer, Cond.code yX4_sellToBuyer cX4_sellToBuyer 4 none, Cond.fieldLink RX4 184 "DairyShares$Offers" "buyer" "[I", Cond.fieldLink RX4 187 "DairyShares$Offers" "offered" "[I", Cond.methodLink RX4 158 yX4_roomOf, Cond.methodLink RX4 173 yX4_sellToMember, Cond.instanceMethod yX4_sellToMember, Cond.selects RX4 yX4_sellToMember yX4_sellToMember, Cond.code yX4_sellToMember cX4_sellToMember 6 none, Cond.methodLink RX4 133 yX4_sellToClaimants, Cond.instanceMethod yX4_sellToClaimants, Cond.selects RX4 yX4_sellToClaimants yX4_sellToClaimants, Cond.code yX4_sellToClaimants cX4_sellToClaimants 5 none, Cond.fieldLink RX4 150 "DairyShares$Split" "demand" "[I", Cond.fieldLink RX4 167 "DairyShares$Split" "part" "[I", Cond.methodLink RX4 155 yX3_claimBy, Cond.methodLink RX4 164 yX6_divide, Cond.instanceMethod yX6_divide, Cond.selects RX6 yX6_divide yX6_divide, Cond.code yX6_divide cX6_divide 6 none, Cond.methodLink RX6 25 arraycopyName, Cond.methodLink RX6 21 yX6_sumOfDemands]
def wsL_law_r21 : List Cond := [Cond.instanceMethod yX6_sumOfDemands, Cond.selects RX6 yX6_sumOfDemands yX6_sumOfDemands, Cond.code yX6_sumOfDemands cX6_sumOfDemands 3 (some .int), Cond.methodLink RX6 35 yX6_handOut, Cond.instanceMethod yX6_handOut, Cond.selects RX6 yX6_handOut yX6_handOut, Cond.code yX6_handOut cX6_handOut 4 none, Cond.methodLink RX6 39 yX6_greatestRemainder, Cond.instanceMethod yX6_greatestRemainder, Cond.selects RX6 yX6_greatestRemainder yX6_greatestRemainder, Cond.code yX6_greatestRemainder cX6_greatestRemainder 3 (some .int), Cond.methodLink RX4 140 yX3_close, Cond.methodLink RX4 146 yX3_beginStage, Cond.methodLink RL 144 yX7_offer, Cond.instanceMethod yX7_offer, Cond.selects RX7 yX7_offer yX7_offer, Cond.code yX7_offer cX7_offer 6 (some .int), Cond.constant RX7 141 (100000), Cond.fieldLink RX7 153 "DairyShares$Settings" "stageLength" "I", Cond.methodLink RX7 149 yX3_add, Cond.instanceMethod yX3_add, Cond.selects RX3 yX3_add yX3_add, Cond.code yX3_add cX3_add 6 (some .int), Cond.methodLink RX7 156 yX3_beginStage]
def wsL_law_r22 : List Cond := [Cond.methodLink RL 149 yX7_historySize, Cond.instanceMethod yX7_historySize, Cond.selects RX7 yX7_historySize yX7_historySize, Cond.code yX7_historySize cX7_historySize 1 (some .int)]
def wsL_law : List Cond := (wsL_law_r1 ++ (wsL_law_r2 ++ (wsL_law_r3 ++ (wsL_law_r4 ++ (wsL_law_r5 ++ (wsL_law_r6 ++ (wsL_law_r7 ++ (wsL_law_r8 ++ (wsL_law_r9 ++ (wsL_law_r10 ++ (wsL_law_r11 ++ (wsL_law_r12 ++ (wsL_law_r13 ++ (wsL_law_r14 ++ (wsL_law_r15 ++ (wsL_law_r16 ++ (wsL_law_r17 ++ (wsL_law_r18 ++ (wsL_law_r19 ++ (wsL_law_r20 ++ (wsL_law_r21 ++ wsL_law_r22))))))))))))))))))))) ++ wsX70 ++ wsX40 ++ wsX60 ++ wsX10 ++ wsX50 ++ wsX00 ++ wsX30 ++ wsX20 ++ ([] : List Cond)
set_option maxRecDepth 20000 in
theorem inlX0 : ∀ w ∈ wsX00, w ∈ wsL_law := fun _ h => List.mem_append_left _ (List.mem_append_left _ (List.mem_append_left _ (List.mem_append_right _ h)))
theorem inlX1 : ∀ w ∈ wsX10, w ∈ wsL_law := fun _ h => List.mem_append_left _ (List.mem_append_left _ (List.mem_append_left _ (List.mem_append_left _ (List.mem_append_left _ (List.mem_append_right _ h)))))
theorem inlX2 : ∀ w ∈ wsX20, w ∈ wsL_law := fun _ h => List.mem_append_left _ (List.mem_append_right _ h)
theorem inlX3 : ∀ w ∈ wsX30, w ∈ wsL_law := fun _ h => List.mem_append_left _ (List.mem_append_left _ (List.mem_append_right _ h))
theorem inlX4 : ∀ w ∈ wsX40, w ∈ wsL_law := fun _ h => List.mem_append_left _ (List.mem_append_left _ (List.mem_append_left _ (List.mem_append_left _ (List.mem_append_left _ (List.mem_append_left _ (List.mem_append_left _ (List.mem_append_right _ h)))))))
theorem inlX5 : ∀ w ∈ wsX50, w ∈ wsL_law := fun _ h => List.mem_append_left _ (List.mem_append_left _ (List.mem_append_left _ (List.mem_append_left _ (List.mem_append_right _ h))))
theorem inlX6 : ∀ w ∈ wsX60, w ∈ wsL_law := fun _ h => List.mem_append_left _ (List.mem_append_left _ (List.mem_append_left _ (List.mem_append_left _ (List.mem_append_left _ (List.mem_append_left _ (List.mem_append_right _ h))))))
theorem inlX7 : ∀ w ∈ wsX70, w ∈ wsL_law := fun _ h => List.mem_append_left _ (List.mem_append_left _ (List.mem_append_left _ (List.mem_append_left _ (List.mem_append_left _ (List.mem_append_left _ (List.mem_append_left _ (List.mem_append_left _ (List.mem_append_right _ h))))))))
abbrev vwCl : List vw_C := [(RX0, TX0, 5), (RX1, TX1, 4), (RX2, TX2, 5), (RX3, TX3, 9), (RX4, TX4, 7), (RX5, TX5, 7), (RX6, TX6, 3), (RX7, TX7, 7)]
/-! the words of the tables, a theorem each -/
theorem zr_1 : ∀ w ∈ wsL_law_r1, w ∈ wsL_law := fun _ h => (List.mem_append_left _ (List.mem_append_left _ (List.mem_append_left _ (List.mem_append_left _ (List.mem_append_left _ (List.mem_append_left _ (List.mem_append_left _ (List.mem_append_left _ (List.mem_append_left _ (List.mem_append_left _ h))))))))))
theorem zr_2 : ∀ w ∈ wsL_law_r2, w ∈ wsL_law := fun _ h => (List.mem_append_left _ (List.mem_append_left _ (List.mem_append_left _ (List.mem_append_left _ (List.mem_append_left _ (List.mem_append_left _ (List.mem_append_left _ (List.mem_append_left _ (List.mem_append_left _ (List.mem_append_right _ (List.mem_append_left _ h)))))))))))
theorem zr_3 : ∀ w ∈ wsL_law_r3, w ∈ wsL_law := fun _ h => (List.mem_append_left _ (List.mem_append_left _ (List.mem_append_left _ (List.mem_append_left _ (List.mem_append_left _ (List.mem_append_left _ (List.mem_append_left _ (List.mem_append_left _ (List.mem_append_left _ (List.mem_append_right _ (List.mem_append_right _ (List.mem_append_left _ h))))))))))))
theorem zr_4 : ∀ w ∈ wsL_law_r4, w ∈ wsL_law := fun _ h => (List.mem_append_left _ (List.mem_append_left _ (List.mem_append_left _ (List.mem_append_left _ (List.mem_append_left _ (List.mem_append_left _ (List.mem_append_left _ (List.mem_append_left _ (List.mem_append_left _ (List.mem_append_right _ (List.mem_append_right _ (List.mem_append_right _ (List.mem_append_left _ h)))))))))))))
theorem zr_5 : ∀ w ∈ wsL_law_r5, w ∈ wsL_law := fun _ h => (List.mem_append_left _ (List.mem_append_left _ (List.mem_append_left _ (List.mem_append_left _ (List.mem_append_left _ (List.mem_append_left _ (List.mem_append_left _ (List.mem_append_left _ (List.mem_append_left _ (List.mem_append_right _ (List.mem_append_right _ (List.mem_append_right _ (List.mem_append_right _ (List.mem_append_left _ h))))))))))))))
theorem zr_6 : ∀ w ∈ wsL_law_r6, w ∈ wsL_law := fun _ h => (List.mem_append_left _ (List.mem_append_left _ (List.mem_append_left _ (List.mem_append_left _ (List.mem_append_left _ (List.mem_append_left _ (List.mem_append_left _ (List.mem_append_left _ (List.mem_append_left _ (List.mem_append_right _ (List.mem_append_right _ (List.mem_append_right _ (List.mem_append_right _ (List.mem_append_right _ (List.mem_append_left _ h)))))))))))))))
theorem zr_7 : ∀ w ∈ wsL_law_r7, w ∈ wsL_law := fun _ h => (List.mem_append_left _ (List.mem_append_left _ (List.mem_append_left _ (List.mem_append_left _ (List.mem_append_left _ (List.mem_append_left _ (List.mem_append_left _ (List.mem_append_left _ (List.mem_append_left _ (List.mem_append_right _ (List.mem_append_right _ (List.mem_append_right _ (List.mem_append_right _ (List.mem_append_right _ (List.mem_append_right _ (List.mem_append_left _ h))))))))))))))))
theorem zr_8 : ∀ w ∈ wsL_law_r8, w ∈ wsL_law := fun _ h => (List.mem_append_left _ (List.mem_append_left _ (List.mem_append_left _ (List.mem_append_left _ (List.mem_append_left _ (List.mem_append_left _ (List.mem_append_left _ (List.mem_append_left _ (List.mem_append_left _ (List.mem_append_right _ (List.mem_append_right _ (List.mem_append_right _ (List.mem_append_right _ (List.mem_append_right _ (List.mem_append_right _ (List.mem_append_right _ (List.mem_append_left _ h)))))))))))))))))
theorem zr_9 : ∀ w ∈ wsL_law_r9, w ∈ wsL_law := fun _ h => (List.mem_append_left _ (List.mem_append_left _ (List.mem_append_left _ (List.mem_append_left _ (List.mem_append_left _ (List.mem_append_left _ (List.mem_append_left _ (List.mem_append_left _ (List.mem_append_left _ (List.mem_append_right _ (List.mem_append_right _ (List.mem_append_right _ (List.mem_append_right _ (List.mem_append_right _ (List.mem_append_right _ (List.mem_append_right _ (List.mem_append_right _ (List.mem_append_left _ h))))))))))))))))))
theorem zr_10 : ∀ w ∈ wsL_law_r10, w ∈ wsL_law := fun _ h => (List.mem_append_left _ (List.mem_append_left _ (List.mem_append_left _ (List.mem_append_left _ (List.mem_append_left _ (List.mem_append_left _ (List.mem_append_left _ (List.mem_append_left _ (List.mem_append_left _ (List.mem_append_right _ (List.mem_append_right _ (List.mem_append_right _ (List.mem_append_right _ (List.mem_append_right _ (List.mem_append_right _ (List.mem_append_right _ (List.mem_append_right _ (List.mem_append_right _ (List.mem_append_left _ h)))))))))))))))))))
theorem zr_11 : ∀ w ∈ wsL_law_r11, w ∈ wsL_law := fun _ h => (List.mem_append_left _ (List.mem_append_left _ (List.mem_append_left _ (List.mem_append_left _ (List.mem_append_left _ (List.mem_append_left _ (List.mem_append_left _ (List.mem_append_left _ (List.mem_append_left _ (List.mem_append_right _ (List.mem_append_right _ (List.mem_append_right _ (List.mem_append_right _ (List.mem_append_right _ (List.mem_append_right _ (List.mem_append_right _ (List.mem_append_right _ (List.mem_append_right _ (List.mem_append_right _ (List.mem_append_left _ h))))))))))))))))))))
theorem zr_12 : ∀ w ∈ wsL_law_r12, w ∈ wsL_law := fun _ h => (List.mem_append_left _ (List.mem_append_left _ (List.mem_append_left _ (List.mem_append_left _ (List.mem_append_left _ (List.mem_append_left _ (List.mem_append_left _ (List.mem_append_left _ (List.mem_append_left _ (List.mem_append_right _ (List.mem_append_right _ (List.mem_append_right _ (List.mem_append_right _ (List.mem_append_right _ (List.mem_append_right _ (List.mem_append_right _ (List.mem_append_right _ (List.mem_append_right _ (List.mem_append_right _ (List.mem_append_right _ (List.mem_append_left _ h)))))))))))))))))))))
theorem zr_13 : ∀ w ∈ wsL_law_r13, w ∈ wsL_law := fun _ h => (List.mem_append_left _ (List.mem_append_left _ (List.mem_append_left _ (List.mem_append_left _ (List.mem_append_left _ (List.mem_append_left _ (List.mem_append_left _ (List.mem_append_left _ (List.mem_append_left _ (List.mem_append_right _ (List.mem_append_right _ (List.mem_append_right _ (List.mem_append_right _ (List.mem_append_right _ (List.mem_append_right _ (List.mem_append_right _ (List.mem_append_right _ (List.mem_append_right _ (List.mem_append_right _ (List.mem_append_right _ (List.mem_append_right _ (List.mem_append_left _ h))))))))))))))))))))))
theorem zr_14 : ∀ w ∈ wsL_law_r14, w ∈ wsL_law := fun _ h => (List.mem_append_left _ (List.mem_append_left _ (List.mem_append_left _ (List.mem_append_left _ (List.mem_append_left _ (List.mem_append_left _ (List.mem_append_left _ (List.mem_append_left _ (List.mem_append_left _ (List.mem_append_right _ (List.mem_append_right _ (List.mem_append_right _ (List.mem_append_right _ (List.mem_append_right _ (List.mem_append_right _ (List.mem_append_right _ (List.mem_append_right _ (List.mem_append_right _ (List.mem_append_right _ (List.mem_append_right _ (List.mem_append_right _ (List.mem_append_right _ (List.mem_append_left _ h)))))))))))))))))))))))
theorem zr_15 : ∀ w ∈ wsL_law_r15, w ∈ wsL_law := fun _ h => (List.mem_append_left _ (List.mem_append_left _ (List.mem_append_left _ (List.mem_append_left _ (List.mem_append_left _ (List.mem_append_left _ (List.mem_append_left _ (List.mem_append_left _ (List.mem_append_left _ (List.mem_append_right _ (List.mem_append_right _ (List.mem_append_right _ (List.mem_append_right _ (List.mem_append_right _ (List.mem_append_right _ (List.mem_append_right _ (List.mem_append_right _ (List.mem_append_right _ (List.mem_append_right _ (List.mem_append_right _ (List.mem_append_right _ (List.mem_append_right _ (List.mem_append_right _ (List.mem_append_left _ h))))))))))))))))))))))))
theorem zr_16 : ∀ w ∈ wsL_law_r16, w ∈ wsL_law := fun _ h => (List.mem_append_left _ (List.mem_append_left _ (List.mem_append_left _ (List.mem_append_left _ (List.mem_append_left _ (List.mem_append_left _ (List.mem_append_left _ (List.mem_append_left _ (List.mem_append_left _ (List.mem_append_right _ (List.mem_append_right _ (List.mem_append_right _ (List.mem_append_right _ (List.mem_append_right _ (List.mem_append_right _ (List.mem_append_right _ (List.mem_append_right _ (List.mem_append_right _ (List.mem_append_right _ (List.mem_append_right _ (List.mem_append_right _ (List.mem_append_right _ (List.mem_append_right _ (List.mem_append_right _ (List.mem_append_left _ h)))))))))))))))))))))))))
theorem zr_17 : ∀ w ∈ wsL_law_r17, w ∈ wsL_law := fun _ h => (List.mem_append_left _ (List.mem_append_left _ (List.mem_append_left _ (List.mem_append_left _ (List.mem_append_left _ (List.mem_append_left _ (List.mem_append_left _ (List.mem_append_left _ (List.mem_append_left _ (List.mem_append_right _ (List.mem_append_right _ (List.mem_append_right _ (List.mem_append_right _ (List.mem_append_right _ (List.mem_append_right _ (List.mem_append_right _ (List.mem_append_right _ (List.mem_append_right _ (List.mem_append_right _ (List.mem_append_right _ (List.mem_append_right _ (List.mem_append_right _ (List.mem_append_right _ (List.mem_append_right _ (List.mem_append_right _ (List.mem_append_left _ h))))))))))))))))))))))))))
theorem zr_18 : ∀ w ∈ wsL_law_r18, w ∈ wsL_law := fun _ h => (List.mem_append_left _ (List.mem_append_left _ (List.mem_append_left _ (List.mem_append_left _ (List.mem_append_left _ (List.mem_append_left _ (List.mem_append_left _ (List.mem_append_left _ (List.mem_append_left _ (List.mem_append_right _ (List.mem_append_right _ (List.mem_append_right _ (List.mem_append_right _ (List.mem_append_right _ (List.mem_append_right _ (List.mem_append_right _ (List.mem_append_right _ (List.mem_append_right _ (List.mem_append_right _ (List.mem_append_right _ (List.mem_append_right _ (List.mem_append_right _ (List.mem_append_right _ (List.mem_append_right _ (List.mem_append_right _ (List.mem_append_right _ (List.mem_append_left _ h)))))))))))))))))))))))))))
theorem zr_19 : ∀ w ∈ wsL_law_r19, w ∈ wsL_law := fun _ h => (List.mem_append_left _ (List.mem_append_left _ (List.mem_append_left _ (List.mem_append_left _ (List.mem_append_left _ (List.mem_append_left _ (List.mem_append_left _ (List.mem_append_left _ (List.mem_append_left _ (List.mem_append_right _ (List.mem_append_right _ (List.mem_append_right _ (List.mem_append_right _ (List.mem_append_right _ (List.mem_append_right _ (List.mem_append_right _ (List.mem_append_right _ (List.mem_append_right _ (List.mem_append_right _ (List.mem_append_right _ (List.mem_append_right _ (List.mem_append_right _ (List.mem_append_right _ (List.mem_append_right _ (List.mem_append_right _ (List.mem_append_right _ (List.mem_append_right _ (List.mem_append_left _ h))))))))))))))))))))))))))))
theorem zr_20 : ∀ w ∈ wsL_law_r20, w ∈ wsL_law := fun _ h => (List.mem_append_left _ (List.mem_append_left _ (List.mem_append_left _ (List.mem_append_left _ (List.mem_append_left _ (List.mem_append_left _ (List.mem_append_left _ (List.mem_append_left _ (List.mem_append_left _ (List.mem_append_right _ (List.mem_append_right _ (List.mem_append_right _ (List.mem_append_right _ (List.mem_append_right _ (List.mem_append_right _ (List.mem_append_right _ (List.mem_append_right _ (List.mem_append_right _ (List.mem_append_right _ (List.mem_append_right _ (List.mem_append_right _ (List.mem_append_right _ (List.mem_append_right _ (List.mem_append_right _ (List.mem_append_right _ (List.mem_append_right _ (List.mem_append_right _ (List.mem_append_right _ (List.mem_append_left _ h)))))))))))))))))))))))))))))
theorem zr_21 : ∀ w ∈ wsL_law_r21, w ∈ wsL_law := fun _ h => (List.mem_append_left _ (List.mem_append_left _ (List.mem_append_left _ (List.mem_append_left _ (List.mem_append_left _ (List.mem_append_left _ (List.mem_append_left _ (List.mem_append_left _ (List.mem_append_left _ (List.mem_append_right _ (List.mem_append_right _ (List.mem_append_right _ (List.mem_append_right _ (List.mem_append_right _ (List.mem_append_right _ (List.mem_append_right _ (List.mem_append_right _ (List.mem_append_right _ (List.mem_append_right _ (List.mem_append_right _ (List.mem_append_right _ (List.mem_append_right _ (List.mem_append_right _ (List.mem_append_right _ (List.mem_append_right _ (List.mem_append_right _ (List.mem_append_right _ (List.mem_append_right _ (List.mem_append_right _ (List.mem_append_left _ h))))))))))))))))))))))))))))))
theorem zr_22 : ∀ w ∈ wsL_law_r22, w ∈ wsL_law := fun _ h => (List.mem_append_left _ (List.mem_append_left _ (List.mem_append_left _ (List.mem_append_left _ (List.mem_append_left _ (List.mem_append_left _ (List.mem_append_left _ (List.mem_append_left _ (List.mem_append_left _ (List.mem_append_right _ (List.mem_append_right _ (List.mem_append_right _ (List.mem_append_right _ (List.mem_append_right _ (List.mem_append_right _ (List.mem_append_right _ (List.mem_append_right _ (List.mem_append_right _ (List.mem_append_right _ (List.mem_append_right _ (List.mem_append_right _ (List.mem_append_right _ (List.mem_append_right _ (List.mem_append_right _ (List.mem_append_right _ (List.mem_append_right _ (List.mem_append_right _ (List.mem_append_right _ (List.mem_append_right _ (List.mem_append_right _ h))))))))))))))))))))))))))))))
theorem zy_L_15 : Cond.classLink RL 15 RX7 ∈ wsL_law := zr_1 _ (List.mem_of_getElem? (i := 0) rfl)
theorem zb_RX7 : Cond.instantiable RX7 7 ∈ wsL_law := zr_1 _ (List.mem_of_getElem? (i := 1) rfl)
theorem zn_RX7 : Cond.initialized RX7 ∈ wsL_law := zr_1 _ (List.mem_of_getElem? (i := 2) rfl)
theorem za_int : Cond.arrayClass .int ∈ wsL_law := zr_1 _ (List.mem_of_getElem? (i := 3) rfl)
theorem zk_L_94 : Cond.constant RL 94 (-2000000002) ∈ wsL_law := zr_1 _ (List.mem_of_getElem? (i := 4) rfl)
theorem zk_L_113 : Cond.constant RL 113 (300000) ∈ wsL_law := zr_1 _ (List.mem_of_getElem? (i := 5) rfl)
theorem zk_L_117 : Cond.constant RL 117 (100000) ∈ wsL_law := zr_1 _ (List.mem_of_getElem? (i := 6) rfl)
theorem zk_L_121 : Cond.constant RL 121 (-100000000) ∈ wsL_law := zr_1 _ (List.mem_of_getElem? (i := 7) rfl)
theorem zk_L_133 : Cond.constant RL 133 (-2000000001) ∈ wsL_law := zr_1 _ (List.mem_of_getElem? (i := 8) rfl)
theorem zk_L_148 : Cond.constant RL 148 (-2000000003) ∈ wsL_law := zr_1 _ (List.mem_of_getElem? (i := 9) rfl)
theorem zk_L_152 : Cond.constant RL 152 (1000001) ∈ wsL_law := zr_1 _ (List.mem_of_getElem? (i := 10) rfl)
theorem zm_L_101 : Cond.methodLink RL 101 yX7_init ∈ wsL_law := zr_1 _ (List.mem_of_getElem? (i := 11) rfl)
theorem zi_yX7_init : Cond.instanceMethod yX7_init ∈ wsL_law := zr_1 _ (List.mem_of_getElem? (i := 12) rfl)
theorem zc_yX7_init : Cond.code yX7_init cX7_init 1 none ∈ wsL_law := zr_1 _ (List.mem_of_getElem? (i := 13) rfl)
theorem zm_X7_1 : Cond.methodLink RX7 1 objectInit ∈ wsL_law := zr_1 _ (List.mem_of_getElem? (i := 14) rfl)
theorem zi_objectInit : Cond.instanceMethod objectInit ∈ wsL_law := zr_1 _ (List.mem_of_getElem? (i := 15) rfl)
theorem zc_objectInit : Cond.code objectInit ⟨#[0xb1]⟩ 1 none ∈ wsL_law := zr_1 _ (List.mem_of_getElem? (i := 16) rfl)
theorem zy_X7_7 : Cond.classLink RX7 7 RX4 ∈ wsL_law := zr_1 _ (List.mem_of_getElem? (i := 17) rfl)
theorem zb_RX4 : Cond.instantiable RX4 7 ∈ wsL_law := zr_1 _ (List.mem_of_getElem? (i := 18) rfl)
theorem zn_RX4 : Cond.initialized RX4 ∈ wsL_law := zr_1 _ (List.mem_of_getElem? (i := 19) rfl)
theorem zf_X7_10 : Cond.fieldLink RX7 10 "DairyShares" "now" "LDairyShares$Register;" ∈ wsL_law := zr_1 _ (List.mem_of_getElem? (i := 20) rfl)
theorem zf_X7_16 : Cond.fieldLink RX7 16 "DairyShares" "newest" "LDairyShares$Register;" ∈ wsL_law := zr_1 _ (List.mem_of_getElem? (i := 21) rfl)
theorem zf_X7_19 : Cond.fieldLink RX7 19 "DairyShares" "second" "LDairyShares$Register;" ∈ wsL_law := zr_1 _ (List.mem_of_getElem? (i := 22) rfl)
theorem zf_X7_22 : Cond.fieldLink RX7 22 "DairyShares" "third" "LDairyShares$Register;" ∈ wsL_law := zr_1 _ (List.mem_of_getElem? (i := 23) rfl)
theorem zf_X7_25 : Cond.fieldLink RX7 25 "DairyShares" "oldest" "LDairyShares$Register;" ∈ wsL_law := zr_2 _ (List.mem_of_getElem? (i := 0) rfl)
theorem zf_X7_28 : Cond.fieldLink RX7 28 "DairyShares" "statesKept" "I" ∈ wsL_law := zr_2 _ (List.mem_of_getElem? (i := 1) rfl)
theorem zy_X7_32 : Cond.classLink RX7 32 RX6 ∈ wsL_law := zr_2 _ (List.mem_of_getElem? (i := 2) rfl)
theorem zb_RX6 : Cond.instantiable RX6 3 ∈ wsL_law := zr_2 _ (List.mem_of_getElem? (i := 3) rfl)
theorem zn_RX6 : Cond.initialized RX6 ∈ wsL_law := zr_2 _ (List.mem_of_getElem? (i := 4) rfl)
theorem zf_X7_35 : Cond.fieldLink RX7 35 "DairyShares" "split" "LDairyShares$Split;" ∈ wsL_law := zr_2 _ (List.mem_of_getElem? (i := 5) rfl)
theorem zi_yX4_init : Cond.instanceMethod yX4_init ∈ wsL_law := zr_2 _ (List.mem_of_getElem? (i := 6) rfl)
theorem zc_yX4_init : Cond.code yX4_init cX4_init 1 none ∈ wsL_law := zr_2 _ (List.mem_of_getElem? (i := 7) rfl)
theorem zm_X4_3 : Cond.methodLink RX4 3 objectInit ∈ wsL_law := zr_2 _ (List.mem_of_getElem? (i := 8) rfl)
theorem zy_X4_9 : Cond.classLink RX4 9 RX1 ∈ wsL_law := zr_2 _ (List.mem_of_getElem? (i := 9) rfl)
theorem zb_RX1 : Cond.instantiable RX1 4 ∈ wsL_law := zr_2 _ (List.mem_of_getElem? (i := 10) rfl)
theorem zn_RX1 : Cond.initialized RX1 ∈ wsL_law := zr_2 _ (List.mem_of_getElem? (i := 11) rfl)
theorem zf_X4_12 : Cond.fieldLink RX4 12 "DairyShares$Register" "members" "LDairyShares$Members;" ∈ wsL_law := zr_2 _ (List.mem_of_getElem? (i := 12) rfl)
theorem zy_X4_18 : Cond.classLink RX4 18 RX5 ∈ wsL_law := zr_2 _ (List.mem_of_getElem? (i := 13) rfl)
theorem zb_RX5 : Cond.instantiable RX5 7 ∈ wsL_law := zr_2 _ (List.mem_of_getElem? (i := 14) rfl)
theorem zn_RX5 : Cond.initialized RX5 ∈ wsL_law := zr_2 _ (List.mem_of_getElem? (i := 15) rfl)
theorem zf_X4_21 : Cond.fieldLink RX4 21 "DairyShares$Register" "settings" "LDairyShares$Settings;" ∈ wsL_law := zr_2 _ (List.mem_of_getElem? (i := 16) rfl)
theorem zy_X4_25 : Cond.classLink RX4 25 RX0 ∈ wsL_law := zr_2 _ (List.mem_of_getElem? (i := 17) rfl)
theorem zb_RX0 : Cond.instantiable RX0 5 ∈ wsL_law := zr_2 _ (List.mem_of_getElem? (i := 18) rfl)
theorem zn_RX0 : Cond.initialized RX0 ∈ wsL_law := zr_2 _ (List.mem_of_getElem? (i := 19) rfl)
theorem zf_X4_28 : Cond.fieldLink RX4 28 "DairyShares$Register" "books" "LDairyShares$Books;" ∈ wsL_law := zr_2 _ (List.mem_of_getElem? (i := 20) rfl)
theorem zy_X4_32 : Cond.classLink RX4 32 RX3 ∈ wsL_law := zr_2 _ (List.mem_of_getElem? (i := 21) rfl)
theorem zb_RX3 : Cond.instantiable RX3 9 ∈ wsL_law := zr_2 _ (List.mem_of_getElem? (i := 22) rfl)
theorem zn_RX3 : Cond.initialized RX3 ∈ wsL_law := zr_2 _ (List.mem_of_getElem? (i := 23) rfl)
theorem zf_X4_35 : Cond.fieldLink RX4 35 "DairyShares$Register" "offers" "LDairyShares$Offers;" ∈ wsL_law := zr_3 _ (List.mem_of_getElem? (i := 0) rfl)
theorem zy_X4_39 : Cond.classLink RX4 39 RX2 ∈ wsL_law := zr_3 _ (List.mem_of_getElem? (i := 1) rfl)
theorem zb_RX2 : Cond.instantiable RX2 5 ∈ wsL_law := zr_3 _ (List.mem_of_getElem? (i := 2) rfl)
theorem zn_RX2 : Cond.initialized RX2 ∈ wsL_law := zr_3 _ (List.mem_of_getElem? (i := 3) rfl)
theorem zf_X4_42 : Cond.fieldLink RX4 42 "DairyShares$Register" "motions" "LDairyShares$Motions;" ∈ wsL_law := zr_3 _ (List.mem_of_getElem? (i := 4) rfl)
theorem zf_X4_46 : Cond.fieldLink RX4 46 "DairyShares$Register" "treasuryShares" "I" ∈ wsL_law := zr_3 _ (List.mem_of_getElem? (i := 5) rfl)
theorem zf_X4_50 : Cond.fieldLink RX4 50 "DairyShares$Register" "daysPassed" "I" ∈ wsL_law := zr_3 _ (List.mem_of_getElem? (i := 6) rfl)
theorem zi_yX1_init : Cond.instanceMethod yX1_init ∈ wsL_law := zr_3 _ (List.mem_of_getElem? (i := 7) rfl)
theorem zc_yX1_init : Cond.code yX1_init cX1_init 1 none ∈ wsL_law := zr_3 _ (List.mem_of_getElem? (i := 8) rfl)
theorem zm_X1_3 : Cond.methodLink RX1 3 objectInit ∈ wsL_law := zr_3 _ (List.mem_of_getElem? (i := 9) rfl)
theorem zf_X1_9 : Cond.fieldLink RX1 9 "DairyShares$Members" "count" "I" ∈ wsL_law := zr_3 _ (List.mem_of_getElem? (i := 10) rfl)
theorem zf_X1_15 : Cond.fieldLink RX1 15 "DairyShares$Members" "shares" "[I" ∈ wsL_law := zr_3 _ (List.mem_of_getElem? (i := 11) rfl)
theorem zf_X1_19 : Cond.fieldLink RX1 19 "DairyShares$Members" "milk" "[I" ∈ wsL_law := zr_3 _ (List.mem_of_getElem? (i := 12) rfl)
theorem za_long : Cond.arrayClass .long ∈ wsL_law := zr_3 _ (List.mem_of_getElem? (i := 13) rfl)
theorem zf_X1_22 : Cond.fieldLink RX1 22 "DairyShares$Members" "account" "[J" ∈ wsL_law := zr_3 _ (List.mem_of_getElem? (i := 14) rfl)
theorem zi_yX5_init : Cond.instanceMethod yX5_init ∈ wsL_law := zr_3 _ (List.mem_of_getElem? (i := 15) rfl)
theorem zc_yX5_init : Cond.code yX5_init cX5_init 1 none ∈ wsL_law := zr_3 _ (List.mem_of_getElem? (i := 16) rfl)
theorem zm_X5_3 : Cond.methodLink RX5 3 objectInit ∈ wsL_law := zr_3 _ (List.mem_of_getElem? (i := 17) rfl)
theorem zf_X5_9 : Cond.fieldLink RX5 9 "DairyShares$Settings" "litersPerShare" "I" ∈ wsL_law := zr_3 _ (List.mem_of_getElem? (i := 18) rfl)
theorem zf_X5_15 : Cond.fieldLink RX5 15 "DairyShares$Settings" "treasuryLimit" "I" ∈ wsL_law := zr_3 _ (List.mem_of_getElem? (i := 19) rfl)
theorem zf_X5_18 : Cond.fieldLink RX5 18 "DairyShares$Settings" "parValue" "I" ∈ wsL_law := zr_3 _ (List.mem_of_getElem? (i := 20) rfl)
theorem zf_X5_21 : Cond.fieldLink RX5 21 "DairyShares$Settings" "cap" "I" ∈ wsL_law := zr_3 _ (List.mem_of_getElem? (i := 21) rfl)
theorem zf_X5_24 : Cond.fieldLink RX5 24 "DairyShares$Settings" "stageLength" "I" ∈ wsL_law := zr_3 _ (List.mem_of_getElem? (i := 22) rfl)
theorem zf_X5_27 : Cond.fieldLink RX5 27 "DairyShares$Settings" "votingRule" "I" ∈ wsL_law := zr_3 _ (List.mem_of_getElem? (i := 23) rfl)
theorem zf_X5_30 : Cond.fieldLink RX5 30 "DairyShares$Settings" "quorum" "I" ∈ wsL_law := zr_4 _ (List.mem_of_getElem? (i := 0) rfl)
theorem zi_yX0_init : Cond.instanceMethod yX0_init ∈ wsL_law := zr_4 _ (List.mem_of_getElem? (i := 1) rfl)
theorem zc_yX0_init : Cond.code yX0_init cX0_init 1 none ∈ wsL_law := zr_4 _ (List.mem_of_getElem? (i := 2) rfl)
theorem zm_X0_3 : Cond.methodLink RX0 3 objectInit ∈ wsL_law := zr_4 _ (List.mem_of_getElem? (i := 3) rfl)
theorem zf_X0_9 : Cond.fieldLink RX0 9 "DairyShares$Books" "assets" "I" ∈ wsL_law := zr_4 _ (List.mem_of_getElem? (i := 4) rfl)
theorem zf_X0_15 : Cond.fieldLink RX0 15 "DairyShares$Books" "debts" "I" ∈ wsL_law := zr_4 _ (List.mem_of_getElem? (i := 5) rfl)
theorem zf_X0_18 : Cond.fieldLink RX0 18 "DairyShares$Books" "price" "I" ∈ wsL_law := zr_4 _ (List.mem_of_getElem? (i := 6) rfl)
theorem zf_X0_21 : Cond.fieldLink RX0 21 "DairyShares$Books" "surplusCount" "I" ∈ wsL_law := zr_4 _ (List.mem_of_getElem? (i := 7) rfl)
theorem zf_X0_24 : Cond.fieldLink RX0 24 "DairyShares$Books" "surpluses" "[I" ∈ wsL_law := zr_4 _ (List.mem_of_getElem? (i := 8) rfl)
theorem zi_yX3_init : Cond.instanceMethod yX3_init ∈ wsL_law := zr_4 _ (List.mem_of_getElem? (i := 9) rfl)
theorem zc_yX3_init : Cond.code yX3_init cX3_init 1 none ∈ wsL_law := zr_4 _ (List.mem_of_getElem? (i := 10) rfl)
theorem zm_X3_3 : Cond.methodLink RX3 3 objectInit ∈ wsL_law := zr_4 _ (List.mem_of_getElem? (i := 11) rfl)
theorem zf_X3_9 : Cond.fieldLink RX3 9 "DairyShares$Offers" "count" "I" ∈ wsL_law := zr_4 _ (List.mem_of_getElem? (i := 12) rfl)
theorem zf_X3_15 : Cond.fieldLink RX3 15 "DairyShares$Offers" "seller" "[I" ∈ wsL_law := zr_4 _ (List.mem_of_getElem? (i := 13) rfl)
theorem zf_X3_19 : Cond.fieldLink RX3 19 "DairyShares$Offers" "buyer" "[I" ∈ wsL_law := zr_4 _ (List.mem_of_getElem? (i := 14) rfl)
theorem zf_X3_22 : Cond.fieldLink RX3 22 "DairyShares$Offers" "offered" "[I" ∈ wsL_law := zr_4 _ (List.mem_of_getElem? (i := 15) rfl)
theorem zf_X3_25 : Cond.fieldLink RX3 25 "DairyShares$Offers" "remaining" "[I" ∈ wsL_law := zr_4 _ (List.mem_of_getElem? (i := 16) rfl)
theorem zf_X3_28 : Cond.fieldLink RX3 28 "DairyShares$Offers" "stage" "[I" ∈ wsL_law := zr_4 _ (List.mem_of_getElem? (i := 17) rfl)
theorem zf_X3_31 : Cond.fieldLink RX3 31 "DairyShares$Offers" "daysLeft" "[I" ∈ wsL_law := zr_4 _ (List.mem_of_getElem? (i := 18) rfl)
theorem zf_X3_34 : Cond.fieldLink RX3 34 "DairyShares$Offers" "sales" "[I" ∈ wsL_law := zr_4 _ (List.mem_of_getElem? (i := 19) rfl)
theorem zf_X3_37 : Cond.fieldLink RX3 37 "DairyShares$Offers" "claims" "[I" ∈ wsL_law := zr_4 _ (List.mem_of_getElem? (i := 20) rfl)
theorem zi_yX2_init : Cond.instanceMethod yX2_init ∈ wsL_law := zr_4 _ (List.mem_of_getElem? (i := 21) rfl)
theorem zc_yX2_init : Cond.code yX2_init cX2_init 1 none ∈ wsL_law := zr_4 _ (List.mem_of_getElem? (i := 22) rfl)
theorem zm_X2_3 : Cond.methodLink RX2 3 objectInit ∈ wsL_law := zr_4 _ (List.mem_of_getElem? (i := 23) rfl)
theorem zf_X2_9 : Cond.fieldLink RX2 9 "DairyShares$Motions" "count" "I" ∈ wsL_law := zr_5 _ (List.mem_of_getElem? (i := 0) rfl)
theorem zf_X2_15 : Cond.fieldLink RX2 15 "DairyShares$Motions" "kind" "[I" ∈ wsL_law := zr_5 _ (List.mem_of_getElem? (i := 1) rfl)
theorem zf_X2_19 : Cond.fieldLink RX2 19 "DairyShares$Motions" "value" "[I" ∈ wsL_law := zr_5 _ (List.mem_of_getElem? (i := 2) rfl)
theorem zf_X2_22 : Cond.fieldLink RX2 22 "DairyShares$Motions" "state" "[I" ∈ wsL_law := zr_5 _ (List.mem_of_getElem? (i := 3) rfl)
theorem zf_X2_25 : Cond.fieldLink RX2 25 "DairyShares$Motions" "ballots" "[I" ∈ wsL_law := zr_5 _ (List.mem_of_getElem? (i := 4) rfl)
theorem zi_yX6_init : Cond.instanceMethod yX6_init ∈ wsL_law := zr_5 _ (List.mem_of_getElem? (i := 5) rfl)
theorem zc_yX6_init : Cond.code yX6_init cX6_init 1 none ∈ wsL_law := zr_5 _ (List.mem_of_getElem? (i := 6) rfl)
theorem zm_X6_3 : Cond.methodLink RX6 3 objectInit ∈ wsL_law := zr_5 _ (List.mem_of_getElem? (i := 7) rfl)
theorem zf_X6_9 : Cond.fieldLink RX6 9 "DairyShares$Split" "demand" "[I" ∈ wsL_law := zr_5 _ (List.mem_of_getElem? (i := 8) rfl)
theorem zf_X6_15 : Cond.fieldLink RX6 15 "DairyShares$Split" "part" "[I" ∈ wsL_law := zr_5 _ (List.mem_of_getElem? (i := 9) rfl)
theorem zf_X6_18 : Cond.fieldLink RX6 18 "DairyShares$Split" "remainder" "[I" ∈ wsL_law := zr_5 _ (List.mem_of_getElem? (i := 10) rfl)
theorem zm_L_95 : Cond.methodLink RL 95 yX7_valuate ∈ wsL_law := zr_5 _ (List.mem_of_getElem? (i := 11) rfl)
theorem zi_yX7_valuate : Cond.instanceMethod yX7_valuate ∈ wsL_law := zr_5 _ (List.mem_of_getElem? (i := 12) rfl)
theorem zs_yX7_valuate : Cond.selects RX7 yX7_valuate yX7_valuate ∈ wsL_law := zr_5 _ (List.mem_of_getElem? (i := 13) rfl)
theorem zc_yX7_valuate : Cond.code yX7_valuate cX7_valuate 2 (some .int) ∈ wsL_law := zr_5 _ (List.mem_of_getElem? (i := 14) rfl)
theorem zk_X7_128 : Cond.constant RX7 128 (-2000000002) ∈ wsL_law := zr_5 _ (List.mem_of_getElem? (i := 15) rfl)
theorem zf_X7_73 : Cond.fieldLink RX7 73 "DairyShares$Register" "books" "LDairyShares$Books;" ∈ wsL_law := zr_5 _ (List.mem_of_getElem? (i := 16) rfl)
theorem zf_X7_86 : Cond.fieldLink RX7 86 "DairyShares$Register" "settings" "LDairyShares$Settings;" ∈ wsL_law := zr_5 _ (List.mem_of_getElem? (i := 17) rfl)
theorem zf_X7_132 : Cond.fieldLink RX7 132 "DairyShares$Settings" "parValue" "I" ∈ wsL_law := zr_5 _ (List.mem_of_getElem? (i := 18) rfl)
theorem zm_X7_135 : Cond.methodLink RX7 135 Lib.Math.max.name ∈ wsL_law := zr_5 _ (List.mem_of_getElem? (i := 19) rfl)
theorem zt_J9_max_name : Cond.static Lib.Math.max.name ∈ wsL_law := zr_5 _ (List.mem_of_getElem? (i := 20) rfl)
theorem zn_java_lang_Math : Cond.initialized "java/lang/Math" ∈ wsL_law := zr_5 _ (List.mem_of_getElem? (i := 21) rfl)
theorem zc_J9_max_name : Cond.code Lib.Math.max.name Lib.Math.max.code 2 (some .int) ∈ wsL_law := zr_5 _ (List.mem_of_getElem? (i := 22) rfl)
theorem zf_X7_77 : Cond.fieldLink RX7 77 "DairyShares$Books" "price" "I" ∈ wsL_law := zr_5 _ (List.mem_of_getElem? (i := 23) rfl)
theorem zm_X7_61 : Cond.methodLink RX7 61 yX4_countAllShares ∈ wsL_law := zr_6 _ (List.mem_of_getElem? (i := 0) rfl)
theorem zi_yX4_countAllShares : Cond.instanceMethod yX4_countAllShares ∈ wsL_law := zr_6 _ (List.mem_of_getElem? (i := 1) rfl)
theorem zs_yX4_countAllShares : Cond.selects RX4 yX4_countAllShares yX4_countAllShares ∈ wsL_law := zr_6 _ (List.mem_of_getElem? (i := 2) rfl)
theorem zc_yX4_countAllShares : Cond.code yX4_countAllShares cX4_countAllShares 3 (some .int) ∈ wsL_law := zr_6 _ (List.mem_of_getElem? (i := 3) rfl)
theorem zf_X4_69 : Cond.fieldLink RX4 69 "DairyShares$Members" "count" "I" ∈ wsL_law := zr_6 _ (List.mem_of_getElem? (i := 4) rfl)
theorem zf_X4_72 : Cond.fieldLink RX4 72 "DairyShares$Members" "shares" "[I" ∈ wsL_law := zr_6 _ (List.mem_of_getElem? (i := 5) rfl)
theorem zm_X7_49 : Cond.methodLink RX7 49 yX7_keepState ∈ wsL_law := zr_6 _ (List.mem_of_getElem? (i := 6) rfl)
theorem zi_yX7_keepState : Cond.instanceMethod yX7_keepState ∈ wsL_law := zr_6 _ (List.mem_of_getElem? (i := 7) rfl)
theorem zs_yX7_keepState : Cond.selects RX7 yX7_keepState yX7_keepState ∈ wsL_law := zr_6 _ (List.mem_of_getElem? (i := 8) rfl)
theorem zc_yX7_keepState : Cond.code yX7_keepState cX7_keepState 2 none ∈ wsL_law := zr_6 _ (List.mem_of_getElem? (i := 9) rfl)
theorem zm_X7_252 : Cond.methodLink RX7 252 Lib.Math.min.name ∈ wsL_law := zr_6 _ (List.mem_of_getElem? (i := 10) rfl)
theorem zt_J9_min_name : Cond.static Lib.Math.min.name ∈ wsL_law := zr_6 _ (List.mem_of_getElem? (i := 11) rfl)
theorem zc_J9_min_name : Cond.code Lib.Math.min.name Lib.Math.min.code 2 (some .int) ∈ wsL_law := zr_6 _ (List.mem_of_getElem? (i := 12) rfl)
theorem zm_X7_248 : Cond.methodLink RX7 248 yX4_copyFrom ∈ wsL_law := zr_6 _ (List.mem_of_getElem? (i := 13) rfl)
theorem zi_yX4_copyFrom : Cond.instanceMethod yX4_copyFrom ∈ wsL_law := zr_6 _ (List.mem_of_getElem? (i := 14) rfl)
theorem zs_yX4_copyFrom : Cond.selects RX4 yX4_copyFrom yX4_copyFrom ∈ wsL_law := zr_6 _ (List.mem_of_getElem? (i := 15) rfl)
theorem zc_yX4_copyFrom : Cond.code yX4_copyFrom cX4_copyFrom 2 none ∈ wsL_law := zr_6 _ (List.mem_of_getElem? (i := 16) rfl)
theorem zm_X4_53 : Cond.methodLink RX4 53 yX1_copyFrom ∈ wsL_law := zr_6 _ (List.mem_of_getElem? (i := 17) rfl)
theorem zi_yX1_copyFrom : Cond.instanceMethod yX1_copyFrom ∈ wsL_law := zr_6 _ (List.mem_of_getElem? (i := 18) rfl)
theorem zs_yX1_copyFrom : Cond.selects RX1 yX1_copyFrom yX1_copyFrom ∈ wsL_law := zr_6 _ (List.mem_of_getElem? (i := 19) rfl)
theorem zc_yX1_copyFrom : Cond.code yX1_copyFrom cX1_copyFrom 2 none ∈ wsL_law := zr_6 _ (List.mem_of_getElem? (i := 20) rfl)
theorem zm_X1_26 : Cond.methodLink RX1 26 arraycopyName ∈ wsL_law := zr_6 _ (List.mem_of_getElem? (i := 21) rfl)
theorem zv_arraycopyName : Cond.native arraycopyName ∈ wsL_law := zr_6 _ (List.mem_of_getElem? (i := 22) rfl)
theorem zt_arraycopyName : Cond.static arraycopyName ∈ wsL_law := zr_6 _ (List.mem_of_getElem? (i := 23) rfl)
theorem zn_java_lang_System : Cond.initialized "java/lang/System" ∈ wsL_law := zr_7 _ (List.mem_of_getElem? (i := 0) rfl)
theorem zm_X4_57 : Cond.methodLink RX4 57 yX5_copyFrom ∈ wsL_law := zr_7 _ (List.mem_of_getElem? (i := 1) rfl)
theorem zi_yX5_copyFrom : Cond.instanceMethod yX5_copyFrom ∈ wsL_law := zr_7 _ (List.mem_of_getElem? (i := 2) rfl)
theorem zs_yX5_copyFrom : Cond.selects RX5 yX5_copyFrom yX5_copyFrom ∈ wsL_law := zr_7 _ (List.mem_of_getElem? (i := 3) rfl)
theorem zc_yX5_copyFrom : Cond.code yX5_copyFrom cX5_copyFrom 2 none ∈ wsL_law := zr_7 _ (List.mem_of_getElem? (i := 4) rfl)
theorem zm_X4_60 : Cond.methodLink RX4 60 yX0_copyFrom ∈ wsL_law := zr_7 _ (List.mem_of_getElem? (i := 5) rfl)
theorem zi_yX0_copyFrom : Cond.instanceMethod yX0_copyFrom ∈ wsL_law := zr_7 _ (List.mem_of_getElem? (i := 6) rfl)
theorem zs_yX0_copyFrom : Cond.selects RX0 yX0_copyFrom yX0_copyFrom ∈ wsL_law := zr_7 _ (List.mem_of_getElem? (i := 7) rfl)
theorem zc_yX0_copyFrom : Cond.code yX0_copyFrom cX0_copyFrom 2 none ∈ wsL_law := zr_7 _ (List.mem_of_getElem? (i := 8) rfl)
theorem zm_X0_28 : Cond.methodLink RX0 28 arraycopyName ∈ wsL_law := zr_7 _ (List.mem_of_getElem? (i := 9) rfl)
theorem zm_X4_63 : Cond.methodLink RX4 63 yX3_copyFrom ∈ wsL_law := zr_7 _ (List.mem_of_getElem? (i := 10) rfl)
theorem zi_yX3_copyFrom : Cond.instanceMethod yX3_copyFrom ∈ wsL_law := zr_7 _ (List.mem_of_getElem? (i := 11) rfl)
theorem zs_yX3_copyFrom : Cond.selects RX3 yX3_copyFrom yX3_copyFrom ∈ wsL_law := zr_7 _ (List.mem_of_getElem? (i := 12) rfl)
theorem zc_yX3_copyFrom : Cond.code yX3_copyFrom cX3_copyFrom 2 none ∈ wsL_law := zr_7 _ (List.mem_of_getElem? (i := 13) rfl)
theorem zm_X3_40 : Cond.methodLink RX3 40 arraycopyName ∈ wsL_law := zr_7 _ (List.mem_of_getElem? (i := 14) rfl)
theorem zm_X4_66 : Cond.methodLink RX4 66 yX2_copyFrom ∈ wsL_law := zr_7 _ (List.mem_of_getElem? (i := 15) rfl)
theorem zi_yX2_copyFrom : Cond.instanceMethod yX2_copyFrom ∈ wsL_law := zr_7 _ (List.mem_of_getElem? (i := 16) rfl)
theorem zs_yX2_copyFrom : Cond.selects RX2 yX2_copyFrom yX2_copyFrom ∈ wsL_law := zr_7 _ (List.mem_of_getElem? (i := 17) rfl)
theorem zc_yX2_copyFrom : Cond.code yX2_copyFrom cX2_copyFrom 2 none ∈ wsL_law := zr_7 _ (List.mem_of_getElem? (i := 18) rfl)
theorem zm_X2_28 : Cond.methodLink RX2 28 arraycopyName ∈ wsL_law := zr_7 _ (List.mem_of_getElem? (i := 19) rfl)
theorem zm_X7_129 : Cond.methodLink RX7 129 yX0_valueOfOne ∈ wsL_law := zr_7 _ (List.mem_of_getElem? (i := 20) rfl)
theorem zi_yX0_valueOfOne : Cond.instanceMethod yX0_valueOfOne ∈ wsL_law := zr_7 _ (List.mem_of_getElem? (i := 21) rfl)
theorem zs_yX0_valueOfOne : Cond.selects RX0 yX0_valueOfOne yX0_valueOfOne ∈ wsL_law := zr_7 _ (List.mem_of_getElem? (i := 22) rfl)
theorem zc_yX0_valueOfOne : Cond.code yX0_valueOfOne cX0_valueOfOne 4 (some .int) ∈ wsL_law := zr_7 _ (List.mem_of_getElem? (i := 23) rfl)
theorem zt_yX7_quotient : Cond.static yX7_quotient ∈ wsL_law := zr_8 _ (List.mem_of_getElem? (i := 0) rfl)
theorem zc_yX7_quotient : Cond.code yX7_quotient cX7_quotient 2 (some .int) ∈ wsL_law := zr_8 _ (List.mem_of_getElem? (i := 1) rfl)
theorem zm_X7_255 : Cond.methodLink RX7 255 yJ9_floorDiv_7cf53 ∈ wsL_law := zr_8 _ (List.mem_of_getElem? (i := 2) rfl)
theorem zt_yJ9_floorDiv_7cf53 : Cond.static yJ9_floorDiv_7cf53 ∈ wsL_law := zr_8 _ (List.mem_of_getElem? (i := 3) rfl)
theorem zn_RJ9 : Cond.initialized RJ9 ∈ wsL_law := zr_8 _ (List.mem_of_getElem? (i := 4) rfl)
theorem zc_yJ9_floorDiv_7cf53 : Cond.code yJ9_floorDiv_7cf53 cJ9_floorDiv_7cf53 3 (some .int) ∈ wsL_law := zr_8 _ (List.mem_of_getElem? (i := 5) rfl)
theorem zm_X0_38 : Cond.methodLink RX0 38 yX0_meanSurplus ∈ wsL_law := zr_8 _ (List.mem_of_getElem? (i := 6) rfl)
theorem zi_yX0_meanSurplus : Cond.instanceMethod yX0_meanSurplus ∈ wsL_law := zr_8 _ (List.mem_of_getElem? (i := 7) rfl)
theorem zs_yX0_meanSurplus : Cond.selects RX0 yX0_meanSurplus yX0_meanSurplus ∈ wsL_law := zr_8 _ (List.mem_of_getElem? (i := 8) rfl)
theorem zc_yX0_meanSurplus : Cond.code yX0_meanSurplus cX0_meanSurplus 3 (some .int) ∈ wsL_law := zr_8 _ (List.mem_of_getElem? (i := 9) rfl)
theorem zm_L_102 : Cond.methodLink RL 102 yX7_undo ∈ wsL_law := zr_8 _ (List.mem_of_getElem? (i := 10) rfl)
theorem zi_yX7_undo : Cond.instanceMethod yX7_undo ∈ wsL_law := zr_8 _ (List.mem_of_getElem? (i := 11) rfl)
theorem zs_yX7_undo : Cond.selects RX7 yX7_undo yX7_undo ∈ wsL_law := zr_8 _ (List.mem_of_getElem? (i := 12) rfl)
theorem zc_yX7_undo : Cond.code yX7_undo cX7_undo 2 (some .int) ∈ wsL_law := zr_8 _ (List.mem_of_getElem? (i := 13) rfl)
theorem zm_L_105 : Cond.methodLink RL 105 yL_begins ∈ wsL_law := zr_8 _ (List.mem_of_getElem? (i := 14) rfl)
theorem zt_yL_begins : Cond.static yL_begins ∈ wsL_law := zr_8 _ (List.mem_of_getElem? (i := 15) rfl)
theorem zn_RL : Cond.initialized RL ∈ wsL_law := zr_8 _ (List.mem_of_getElem? (i := 16) rfl)
theorem zc_yL_begins : Cond.code yL_begins cL_begins 6 (some .boolean) ∈ wsL_law := zr_8 _ (List.mem_of_getElem? (i := 17) rfl)
theorem zk_L_24 : Cond.constant RL 24 (250000) ∈ wsL_law := zr_8 _ (List.mem_of_getElem? (i := 18) rfl)
theorem zm_L_8 : Cond.methodLink RL 8 yL_cell ∈ wsL_law := zr_8 _ (List.mem_of_getElem? (i := 19) rfl)
theorem zt_yL_cell : Cond.static yL_cell ∈ wsL_law := zr_8 _ (List.mem_of_getElem? (i := 20) rfl)
theorem zc_yL_cell : Cond.code yL_cell cL_cell 2 (some .int) ∈ wsL_law := zr_8 _ (List.mem_of_getElem? (i := 21) rfl)
theorem zk_L_7 : Cond.constant RL 7 (2147483647) ∈ wsL_law := zr_8 _ (List.mem_of_getElem? (i := 22) rfl)
theorem zm_L_14 : Cond.methodLink RL 14 yX7_join ∈ wsL_law := zr_8 _ (List.mem_of_getElem? (i := 23) rfl)
theorem zi_yX7_join : Cond.instanceMethod yX7_join ∈ wsL_law := zr_9 _ (List.mem_of_getElem? (i := 0) rfl)
theorem zs_yX7_join : Cond.selects RX7 yX7_join yX7_join ∈ wsL_law := zr_9 _ (List.mem_of_getElem? (i := 1) rfl)
theorem zc_yX7_join : Cond.code yX7_join cX7_join 1 (some .int) ∈ wsL_law := zr_9 _ (List.mem_of_getElem? (i := 2) rfl)
theorem zf_X7_39 : Cond.fieldLink RX7 39 "DairyShares$Register" "members" "LDairyShares$Members;" ∈ wsL_law := zr_9 _ (List.mem_of_getElem? (i := 3) rfl)
theorem zf_X7_43 : Cond.fieldLink RX7 43 "DairyShares$Members" "count" "I" ∈ wsL_law := zr_9 _ (List.mem_of_getElem? (i := 4) rfl)
theorem zk_X7_48 : Cond.constant RX7 48 (-2000000003) ∈ wsL_law := zr_9 _ (List.mem_of_getElem? (i := 5) rfl)
theorem zm_L_20 : Cond.methodLink RL 20 yX7_issue ∈ wsL_law := zr_9 _ (List.mem_of_getElem? (i := 6) rfl)
theorem zi_yX7_issue : Cond.instanceMethod yX7_issue ∈ wsL_law := zr_9 _ (List.mem_of_getElem? (i := 7) rfl)
theorem zs_yX7_issue : Cond.selects RX7 yX7_issue yX7_issue ∈ wsL_law := zr_9 _ (List.mem_of_getElem? (i := 8) rfl)
theorem zc_yX7_issue : Cond.code yX7_issue cX7_issue 3 (some .int) ∈ wsL_law := zr_9 _ (List.mem_of_getElem? (i := 9) rfl)
theorem zk_X7_60 : Cond.constant RX7 60 (-2000000001) ∈ wsL_law := zr_9 _ (List.mem_of_getElem? (i := 10) rfl)
theorem zf_X7_65 : Cond.fieldLink RX7 65 "DairyShares$Members" "shares" "[I" ∈ wsL_law := zr_9 _ (List.mem_of_getElem? (i := 11) rfl)
theorem zf_X7_69 : Cond.fieldLink RX7 69 "DairyShares$Members" "account" "[J" ∈ wsL_law := zr_9 _ (List.mem_of_getElem? (i := 12) rfl)
theorem zm_X7_52 : Cond.methodLink RX7 52 yX1_has ∈ wsL_law := zr_9 _ (List.mem_of_getElem? (i := 13) rfl)
theorem zi_yX1_has : Cond.instanceMethod yX1_has ∈ wsL_law := zr_9 _ (List.mem_of_getElem? (i := 14) rfl)
theorem zs_yX1_has : Cond.selects RX1 yX1_has yX1_has ∈ wsL_law := zr_9 _ (List.mem_of_getElem? (i := 15) rfl)
theorem zc_yX1_has : Cond.code yX1_has cX1_has 2 (some .boolean) ∈ wsL_law := zr_9 _ (List.mem_of_getElem? (i := 16) rfl)
theorem zm_X7_56 : Cond.methodLink RX7 56 yX7_isWithin ∈ wsL_law := zr_9 _ (List.mem_of_getElem? (i := 17) rfl)
theorem zt_yX7_isWithin : Cond.static yX7_isWithin ∈ wsL_law := zr_9 _ (List.mem_of_getElem? (i := 18) rfl)
theorem zc_yX7_isWithin : Cond.code yX7_isWithin cX7_isWithin 3 (some .boolean) ∈ wsL_law := zr_9 _ (List.mem_of_getElem? (i := 19) rfl)
theorem zm_L_25 : Cond.methodLink RL 25 yX7_setMilk ∈ wsL_law := zr_9 _ (List.mem_of_getElem? (i := 20) rfl)
theorem zi_yX7_setMilk : Cond.instanceMethod yX7_setMilk ∈ wsL_law := zr_9 _ (List.mem_of_getElem? (i := 21) rfl)
theorem zs_yX7_setMilk : Cond.selects RX7 yX7_setMilk yX7_setMilk ∈ wsL_law := zr_9 _ (List.mem_of_getElem? (i := 22) rfl)
theorem zc_yX7_setMilk : Cond.code yX7_setMilk cX7_setMilk 4 (some .int) ∈ wsL_law := zr_9 _ (List.mem_of_getElem? (i := 23) rfl)
theorem zk_X7_82 : Cond.constant RX7 82 (1000000) ∈ wsL_law := zr_10 _ (List.mem_of_getElem? (i := 0) rfl)
theorem zf_X7_83 : Cond.fieldLink RX7 83 "DairyShares$Members" "milk" "[I" ∈ wsL_law := zr_10 _ (List.mem_of_getElem? (i := 1) rfl)
theorem zm_L_109 : Cond.methodLink RL 109 yL_holds ∈ wsL_law := zr_10 _ (List.mem_of_getElem? (i := 2) rfl)
theorem zt_yL_holds : Cond.static yL_holds ∈ wsL_law := zr_10 _ (List.mem_of_getElem? (i := 3) rfl)
theorem zc_yL_holds : Cond.code yL_holds cL_holds 8 (some .boolean) ∈ wsL_law := zr_10 _ (List.mem_of_getElem? (i := 4) rfl)
theorem zm_L_52 : Cond.methodLink RL 52 yX7_treasury ∈ wsL_law := zr_10 _ (List.mem_of_getElem? (i := 5) rfl)
theorem zi_yX7_treasury : Cond.instanceMethod yX7_treasury ∈ wsL_law := zr_10 _ (List.mem_of_getElem? (i := 6) rfl)
theorem zs_yX7_treasury : Cond.selects RX7 yX7_treasury yX7_treasury ∈ wsL_law := zr_10 _ (List.mem_of_getElem? (i := 7) rfl)
theorem zc_yX7_treasury : Cond.code yX7_treasury cX7_treasury 1 (some .int) ∈ wsL_law := zr_10 _ (List.mem_of_getElem? (i := 8) rfl)
theorem zf_X7_110 : Cond.fieldLink RX7 110 "DairyShares$Register" "treasuryShares" "I" ∈ wsL_law := zr_10 _ (List.mem_of_getElem? (i := 9) rfl)
theorem zm_L_55 : Cond.methodLink RL 55 yX7_allShares ∈ wsL_law := zr_10 _ (List.mem_of_getElem? (i := 10) rfl)
theorem zi_yX7_allShares : Cond.instanceMethod yX7_allShares ∈ wsL_law := zr_10 _ (List.mem_of_getElem? (i := 11) rfl)
theorem zs_yX7_allShares : Cond.selects RX7 yX7_allShares yX7_allShares ∈ wsL_law := zr_10 _ (List.mem_of_getElem? (i := 12) rfl)
theorem zc_yX7_allShares : Cond.code yX7_allShares cX7_allShares 1 (some .int) ∈ wsL_law := zr_10 _ (List.mem_of_getElem? (i := 13) rfl)
theorem zm_L_28 : Cond.methodLink RL 28 yX7_memberCount ∈ wsL_law := zr_10 _ (List.mem_of_getElem? (i := 14) rfl)
theorem zi_yX7_memberCount : Cond.instanceMethod yX7_memberCount ∈ wsL_law := zr_10 _ (List.mem_of_getElem? (i := 15) rfl)
theorem zs_yX7_memberCount : Cond.selects RX7 yX7_memberCount yX7_memberCount ∈ wsL_law := zr_10 _ (List.mem_of_getElem? (i := 16) rfl)
theorem zc_yX7_memberCount : Cond.code yX7_memberCount cX7_memberCount 1 (some .int) ∈ wsL_law := zr_10 _ (List.mem_of_getElem? (i := 17) rfl)
theorem zm_L_58 : Cond.methodLink RL 58 yX7_offerCount ∈ wsL_law := zr_10 _ (List.mem_of_getElem? (i := 18) rfl)
theorem zi_yX7_offerCount : Cond.instanceMethod yX7_offerCount ∈ wsL_law := zr_10 _ (List.mem_of_getElem? (i := 19) rfl)
theorem zs_yX7_offerCount : Cond.selects RX7 yX7_offerCount yX7_offerCount ∈ wsL_law := zr_10 _ (List.mem_of_getElem? (i := 20) rfl)
theorem zc_yX7_offerCount : Cond.code yX7_offerCount cX7_offerCount 1 (some .int) ∈ wsL_law := zr_10 _ (List.mem_of_getElem? (i := 21) rfl)
theorem zf_X7_142 : Cond.fieldLink RX7 142 "DairyShares$Register" "offers" "LDairyShares$Offers;" ∈ wsL_law := zr_10 _ (List.mem_of_getElem? (i := 22) rfl)
theorem zf_X7_146 : Cond.fieldLink RX7 146 "DairyShares$Offers" "count" "I" ∈ wsL_law := zr_10 _ (List.mem_of_getElem? (i := 23) rfl)
theorem zm_L_38 : Cond.methodLink RL 38 yX7_stage ∈ wsL_law := zr_11 _ (List.mem_of_getElem? (i := 0) rfl)
theorem zi_yX7_stage : Cond.instanceMethod yX7_stage ∈ wsL_law := zr_11 _ (List.mem_of_getElem? (i := 1) rfl)
theorem zs_yX7_stage : Cond.selects RX7 yX7_stage yX7_stage ∈ wsL_law := zr_11 _ (List.mem_of_getElem? (i := 2) rfl)
theorem zc_yX7_stage : Cond.code yX7_stage cX7_stage 2 (some .int) ∈ wsL_law := zr_11 _ (List.mem_of_getElem? (i := 3) rfl)
theorem zf_X7_184 : Cond.fieldLink RX7 184 "DairyShares$Offers" "stage" "[I" ∈ wsL_law := zr_11 _ (List.mem_of_getElem? (i := 4) rfl)
theorem zm_X7_160 : Cond.methodLink RX7 160 yX3_has ∈ wsL_law := zr_11 _ (List.mem_of_getElem? (i := 5) rfl)
theorem zi_yX3_has : Cond.instanceMethod yX3_has ∈ wsL_law := zr_11 _ (List.mem_of_getElem? (i := 6) rfl)
theorem zs_yX3_has : Cond.selects RX3 yX3_has yX3_has ∈ wsL_law := zr_11 _ (List.mem_of_getElem? (i := 7) rfl)
theorem zc_yX3_has : Cond.code yX3_has cX3_has 2 (some .boolean) ∈ wsL_law := zr_11 _ (List.mem_of_getElem? (i := 8) rfl)
theorem zm_L_42 : Cond.methodLink RL 42 yX7_remaining ∈ wsL_law := zr_11 _ (List.mem_of_getElem? (i := 9) rfl)
theorem zi_yX7_remaining : Cond.instanceMethod yX7_remaining ∈ wsL_law := zr_11 _ (List.mem_of_getElem? (i := 10) rfl)
theorem zs_yX7_remaining : Cond.selects RX7 yX7_remaining yX7_remaining ∈ wsL_law := zr_11 _ (List.mem_of_getElem? (i := 11) rfl)
theorem zc_yX7_remaining : Cond.code yX7_remaining cX7_remaining 2 (some .int) ∈ wsL_law := zr_11 _ (List.mem_of_getElem? (i := 12) rfl)
theorem zf_X7_177 : Cond.fieldLink RX7 177 "DairyShares$Offers" "remaining" "[I" ∈ wsL_law := zr_11 _ (List.mem_of_getElem? (i := 13) rfl)
theorem zm_L_61 : Cond.methodLink RL 61 yX7_shares ∈ wsL_law := zr_11 _ (List.mem_of_getElem? (i := 14) rfl)
theorem zi_yX7_shares : Cond.instanceMethod yX7_shares ∈ wsL_law := zr_11 _ (List.mem_of_getElem? (i := 15) rfl)
theorem zs_yX7_shares : Cond.selects RX7 yX7_shares yX7_shares ∈ wsL_law := zr_11 _ (List.mem_of_getElem? (i := 16) rfl)
theorem zc_yX7_shares : Cond.code yX7_shares cX7_shares 2 (some .int) ∈ wsL_law := zr_11 _ (List.mem_of_getElem? (i := 17) rfl)
theorem zm_L_64 : Cond.methodLink RL 64 yX7_requirement ∈ wsL_law := zr_11 _ (List.mem_of_getElem? (i := 18) rfl)
theorem zi_yX7_requirement : Cond.instanceMethod yX7_requirement ∈ wsL_law := zr_11 _ (List.mem_of_getElem? (i := 19) rfl)
theorem zs_yX7_requirement : Cond.selects RX7 yX7_requirement yX7_requirement ∈ wsL_law := zr_11 _ (List.mem_of_getElem? (i := 20) rfl)
theorem zc_yX7_requirement : Cond.code yX7_requirement cX7_requirement 2 (some .int) ∈ wsL_law := zr_11 _ (List.mem_of_getElem? (i := 21) rfl)
theorem zm_X7_100 : Cond.methodLink RX7 100 yX4_requirementOf ∈ wsL_law := zr_11 _ (List.mem_of_getElem? (i := 22) rfl)
theorem zi_yX4_requirementOf : Cond.instanceMethod yX4_requirementOf ∈ wsL_law := zr_11 _ (List.mem_of_getElem? (i := 23) rfl)
theorem zs_yX4_requirementOf : Cond.selects RX4 yX4_requirementOf yX4_requirementOf ∈ wsL_law := zr_12 _ (List.mem_of_getElem? (i := 0) rfl)
theorem zc_yX4_requirementOf : Cond.code yX4_requirementOf cX4_requirementOf 3 (some .int) ∈ wsL_law := zr_12 _ (List.mem_of_getElem? (i := 1) rfl)
theorem zf_X4_76 : Cond.fieldLink RX4 76 "DairyShares$Settings" "litersPerShare" "I" ∈ wsL_law := zr_12 _ (List.mem_of_getElem? (i := 2) rfl)
theorem zf_X4_79 : Cond.fieldLink RX4 79 "DairyShares$Members" "milk" "[I" ∈ wsL_law := zr_12 _ (List.mem_of_getElem? (i := 3) rfl)
theorem zm_L_67 : Cond.methodLink RL 67 yX7_room ∈ wsL_law := zr_12 _ (List.mem_of_getElem? (i := 4) rfl)
theorem zi_yX7_room : Cond.instanceMethod yX7_room ∈ wsL_law := zr_12 _ (List.mem_of_getElem? (i := 5) rfl)
theorem zs_yX7_room : Cond.selects RX7 yX7_room yX7_room ∈ wsL_law := zr_12 _ (List.mem_of_getElem? (i := 6) rfl)
theorem zc_yX7_room : Cond.code yX7_room cX7_room 2 (some .int) ∈ wsL_law := zr_12 _ (List.mem_of_getElem? (i := 7) rfl)
theorem zm_X7_107 : Cond.methodLink RX7 107 yX4_roomOf ∈ wsL_law := zr_12 _ (List.mem_of_getElem? (i := 8) rfl)
theorem zi_yX4_roomOf : Cond.instanceMethod yX4_roomOf ∈ wsL_law := zr_12 _ (List.mem_of_getElem? (i := 9) rfl)
theorem zs_yX4_roomOf : Cond.selects RX4 yX4_roomOf yX4_roomOf ∈ wsL_law := zr_12 _ (List.mem_of_getElem? (i := 10) rfl)
theorem zc_yX4_roomOf : Cond.code yX4_roomOf cX4_roomOf 3 (some .int) ∈ wsL_law := zr_12 _ (List.mem_of_getElem? (i := 11) rfl)
theorem zf_X4_102 : Cond.fieldLink RX4 102 "DairyShares$Settings" "cap" "I" ∈ wsL_law := zr_12 _ (List.mem_of_getElem? (i := 12) rfl)
theorem zm_X4_93 : Cond.methodLink RX4 93 Lib.Math.max.name ∈ wsL_law := zr_12 _ (List.mem_of_getElem? (i := 13) rfl)
theorem zm_X4_98 : Cond.methodLink RX4 98 yX4_countAllShares ∈ wsL_law := zr_12 _ (List.mem_of_getElem? (i := 14) rfl)
theorem zm_L_70 : Cond.methodLink RL 70 yX7_freeShares ∈ wsL_law := zr_12 _ (List.mem_of_getElem? (i := 15) rfl)
theorem zi_yX7_freeShares : Cond.instanceMethod yX7_freeShares ∈ wsL_law := zr_12 _ (List.mem_of_getElem? (i := 16) rfl)
theorem zs_yX7_freeShares : Cond.selects RX7 yX7_freeShares yX7_freeShares ∈ wsL_law := zr_12 _ (List.mem_of_getElem? (i := 17) rfl)
theorem zc_yX7_freeShares : Cond.code yX7_freeShares cX7_freeShares 2 (some .int) ∈ wsL_law := zr_12 _ (List.mem_of_getElem? (i := 18) rfl)
theorem zm_X7_104 : Cond.methodLink RX7 104 yX4_freeSharesOf ∈ wsL_law := zr_12 _ (List.mem_of_getElem? (i := 19) rfl)
theorem zi_yX4_freeSharesOf : Cond.instanceMethod yX4_freeSharesOf ∈ wsL_law := zr_12 _ (List.mem_of_getElem? (i := 20) rfl)
theorem zs_yX4_freeSharesOf : Cond.selects RX4 yX4_freeSharesOf yX4_freeSharesOf ∈ wsL_law := zr_12 _ (List.mem_of_getElem? (i := 21) rfl)
theorem zc_yX4_freeSharesOf : Cond.code yX4_freeSharesOf cX4_freeSharesOf 3 (some .int) ∈ wsL_law := zr_12 _ (List.mem_of_getElem? (i := 22) rfl)
theorem zm_X4_86 : Cond.methodLink RX4 86 yX4_requirementOf ∈ wsL_law := zr_12 _ (List.mem_of_getElem? (i := 23) rfl)
theorem zm_X4_90 : Cond.methodLink RX4 90 yX3_remainingOf ∈ wsL_law := zr_13 _ (List.mem_of_getElem? (i := 0) rfl)
theorem zi_yX3_remainingOf : Cond.instanceMethod yX3_remainingOf ∈ wsL_law := zr_13 _ (List.mem_of_getElem? (i := 1) rfl)
theorem zs_yX3_remainingOf : Cond.selects RX3 yX3_remainingOf yX3_remainingOf ∈ wsL_law := zr_13 _ (List.mem_of_getElem? (i := 2) rfl)
theorem zc_yX3_remainingOf : Cond.code yX3_remainingOf cX3_remainingOf 4 (some .int) ∈ wsL_law := zr_13 _ (List.mem_of_getElem? (i := 3) rfl)
theorem zm_X3_61 : Cond.methodLink RX3 61 yX3_isOpen ∈ wsL_law := zr_13 _ (List.mem_of_getElem? (i := 4) rfl)
theorem zi_yX3_isOpen : Cond.instanceMethod yX3_isOpen ∈ wsL_law := zr_13 _ (List.mem_of_getElem? (i := 5) rfl)
theorem zs_yX3_isOpen : Cond.selects RX3 yX3_isOpen yX3_isOpen ∈ wsL_law := zr_13 _ (List.mem_of_getElem? (i := 6) rfl)
theorem zc_yX3_isOpen : Cond.code yX3_isOpen cX3_isOpen 2 (some .boolean) ∈ wsL_law := zr_13 _ (List.mem_of_getElem? (i := 7) rfl)
theorem zm_L_73 : Cond.methodLink RL 73 yL_offerHolds ∈ wsL_law := zr_13 _ (List.mem_of_getElem? (i := 8) rfl)
theorem zt_yL_offerHolds : Cond.static yL_offerHolds ∈ wsL_law := zr_13 _ (List.mem_of_getElem? (i := 9) rfl)
theorem zc_yL_offerHolds : Cond.code yL_offerHolds cL_offerHolds 7 (some .boolean) ∈ wsL_law := zr_13 _ (List.mem_of_getElem? (i := 10) rfl)
theorem zk_L_51 : Cond.constant RL 51 (-2000000004) ∈ wsL_law := zr_13 _ (List.mem_of_getElem? (i := 11) rfl)
theorem zm_L_35 : Cond.methodLink RL 35 yX7_sold ∈ wsL_law := zr_13 _ (List.mem_of_getElem? (i := 12) rfl)
theorem zi_yX7_sold : Cond.instanceMethod yX7_sold ∈ wsL_law := zr_13 _ (List.mem_of_getElem? (i := 13) rfl)
theorem zs_yX7_sold : Cond.selects RX7 yX7_sold yX7_sold ∈ wsL_law := zr_13 _ (List.mem_of_getElem? (i := 14) rfl)
theorem zc_yX7_sold : Cond.code yX7_sold cX7_sold 3 (some .int) ∈ wsL_law := zr_13 _ (List.mem_of_getElem? (i := 15) rfl)
theorem zm_X7_191 : Cond.methodLink RX7 191 yX3_soldTo ∈ wsL_law := zr_13 _ (List.mem_of_getElem? (i := 16) rfl)
theorem zi_yX3_soldTo : Cond.instanceMethod yX3_soldTo ∈ wsL_law := zr_13 _ (List.mem_of_getElem? (i := 17) rfl)
theorem zs_yX3_soldTo : Cond.selects RX3 yX3_soldTo yX3_soldTo ∈ wsL_law := zr_13 _ (List.mem_of_getElem? (i := 18) rfl)
theorem zc_yX3_soldTo : Cond.code yX3_soldTo cX3_soldTo 3 (some .int) ∈ wsL_law := zr_13 _ (List.mem_of_getElem? (i := 19) rfl)
theorem zm_L_45 : Cond.methodLink RL 45 yX7_claimOf ∈ wsL_law := zr_13 _ (List.mem_of_getElem? (i := 20) rfl)
theorem zi_yX7_claimOf : Cond.instanceMethod yX7_claimOf ∈ wsL_law := zr_13 _ (List.mem_of_getElem? (i := 21) rfl)
theorem zs_yX7_claimOf : Cond.selects RX7 yX7_claimOf yX7_claimOf ∈ wsL_law := zr_13 _ (List.mem_of_getElem? (i := 22) rfl)
theorem zc_yX7_claimOf : Cond.code yX7_claimOf cX7_claimOf 3 (some .int) ∈ wsL_law := zr_13 _ (List.mem_of_getElem? (i := 23) rfl)
theorem zm_X7_194 : Cond.methodLink RX7 194 yX3_claimBy ∈ wsL_law := zr_14 _ (List.mem_of_getElem? (i := 0) rfl)
theorem zi_yX3_claimBy : Cond.instanceMethod yX3_claimBy ∈ wsL_law := zr_14 _ (List.mem_of_getElem? (i := 1) rfl)
theorem zs_yX3_claimBy : Cond.selects RX3 yX3_claimBy yX3_claimBy ∈ wsL_law := zr_14 _ (List.mem_of_getElem? (i := 2) rfl)
theorem zc_yX3_claimBy : Cond.code yX3_claimBy cX3_claimBy 3 (some .int) ∈ wsL_law := zr_14 _ (List.mem_of_getElem? (i := 3) rfl)
theorem zm_L_48 : Cond.methodLink RL 48 yX7_daysLeft ∈ wsL_law := zr_14 _ (List.mem_of_getElem? (i := 4) rfl)
theorem zi_yX7_daysLeft : Cond.instanceMethod yX7_daysLeft ∈ wsL_law := zr_14 _ (List.mem_of_getElem? (i := 5) rfl)
theorem zs_yX7_daysLeft : Cond.selects RX7 yX7_daysLeft yX7_daysLeft ∈ wsL_law := zr_14 _ (List.mem_of_getElem? (i := 6) rfl)
theorem zc_yX7_daysLeft : Cond.code yX7_daysLeft cX7_daysLeft 2 (some .int) ∈ wsL_law := zr_14 _ (List.mem_of_getElem? (i := 7) rfl)
theorem zf_X7_187 : Cond.fieldLink RX7 187 "DairyShares$Offers" "daysLeft" "[I" ∈ wsL_law := zr_14 _ (List.mem_of_getElem? (i := 8) rfl)
theorem zk_X7_190 : Cond.constant RX7 190 (-2000000004) ∈ wsL_law := zr_14 _ (List.mem_of_getElem? (i := 9) rfl)
theorem zm_X7_171 : Cond.methodLink RX7 171 yX3_isOpen ∈ wsL_law := zr_14 _ (List.mem_of_getElem? (i := 10) rfl)
theorem zm_L_31 : Cond.methodLink RL 31 yX7_account ∈ wsL_law := zr_14 _ (List.mem_of_getElem? (i := 11) rfl)
theorem zi_yX7_account : Cond.instanceMethod yX7_account ∈ wsL_law := zr_14 _ (List.mem_of_getElem? (i := 12) rfl)
theorem zs_yX7_account : Cond.selects RX7 yX7_account yX7_account ∈ wsL_law := zr_14 _ (List.mem_of_getElem? (i := 13) rfl)
theorem zc_yX7_account : Cond.code yX7_account cX7_account 2 (some .long) ∈ wsL_law := zr_14 _ (List.mem_of_getElem? (i := 14) rfl)
theorem zl_X7_98 : Cond.constantLong RX7 98 (-2000000001) ∈ wsL_law := zr_14 _ (List.mem_of_getElem? (i := 15) rfl)
theorem zm_L_84 : Cond.methodLink RL 84 yX7_price ∈ wsL_law := zr_14 _ (List.mem_of_getElem? (i := 16) rfl)
theorem zi_yX7_price : Cond.instanceMethod yX7_price ∈ wsL_law := zr_14 _ (List.mem_of_getElem? (i := 17) rfl)
theorem zs_yX7_price : Cond.selects RX7 yX7_price yX7_price ∈ wsL_law := zr_14 _ (List.mem_of_getElem? (i := 18) rfl)
theorem zc_yX7_price : Cond.code yX7_price cX7_price 1 (some .int) ∈ wsL_law := zr_14 _ (List.mem_of_getElem? (i := 19) rfl)
theorem zm_L_114 : Cond.methodLink RL 114 yX7_setLitersPerShare ∈ wsL_law := zr_14 _ (List.mem_of_getElem? (i := 20) rfl)
theorem zi_yX7_setLitersPerShare : Cond.instanceMethod yX7_setLitersPerShare ∈ wsL_law := zr_14 _ (List.mem_of_getElem? (i := 21) rfl)
theorem zs_yX7_setLitersPerShare : Cond.selects RX7 yX7_setLitersPerShare yX7_setLitersPerShare ∈ wsL_law := zr_14 _ (List.mem_of_getElem? (i := 22) rfl)
theorem zc_yX7_setLitersPerShare : Cond.code yX7_setLitersPerShare cX7_setLitersPerShare 3 (some .int) ∈ wsL_law := zr_14 _ (List.mem_of_getElem? (i := 23) rfl)
theorem zf_X7_90 : Cond.fieldLink RX7 90 "DairyShares$Settings" "litersPerShare" "I" ∈ wsL_law := zr_15 _ (List.mem_of_getElem? (i := 0) rfl)
theorem zm_L_118 : Cond.methodLink RL 118 yX7_setBooks ∈ wsL_law := zr_15 _ (List.mem_of_getElem? (i := 1) rfl)
theorem zi_yX7_setBooks : Cond.instanceMethod yX7_setBooks ∈ wsL_law := zr_15 _ (List.mem_of_getElem? (i := 2) rfl)
theorem zs_yX7_setBooks : Cond.selects RX7 yX7_setBooks yX7_setBooks ∈ wsL_law := zr_15 _ (List.mem_of_getElem? (i := 3) rfl)
theorem zc_yX7_setBooks : Cond.code yX7_setBooks cX7_setBooks 4 (some .int) ∈ wsL_law := zr_15 _ (List.mem_of_getElem? (i := 4) rfl)
theorem zk_X7_113 : Cond.constant RX7 113 (100000000) ∈ wsL_law := zr_15 _ (List.mem_of_getElem? (i := 5) rfl)
theorem zf_X7_114 : Cond.fieldLink RX7 114 "DairyShares$Books" "assets" "I" ∈ wsL_law := zr_15 _ (List.mem_of_getElem? (i := 6) rfl)
theorem zf_X7_117 : Cond.fieldLink RX7 117 "DairyShares$Books" "debts" "I" ∈ wsL_law := zr_15 _ (List.mem_of_getElem? (i := 7) rfl)
theorem zm_L_122 : Cond.methodLink RL 122 yX7_addSurplus ∈ wsL_law := zr_15 _ (List.mem_of_getElem? (i := 8) rfl)
theorem zi_yX7_addSurplus : Cond.instanceMethod yX7_addSurplus ∈ wsL_law := zr_15 _ (List.mem_of_getElem? (i := 9) rfl)
theorem zs_yX7_addSurplus : Cond.selects RX7 yX7_addSurplus yX7_addSurplus ∈ wsL_law := zr_15 _ (List.mem_of_getElem? (i := 10) rfl)
theorem zc_yX7_addSurplus : Cond.code yX7_addSurplus cX7_addSurplus 2 (some .int) ∈ wsL_law := zr_15 _ (List.mem_of_getElem? (i := 11) rfl)
theorem zk_X7_120 : Cond.constant RX7 120 (-1000000) ∈ wsL_law := zr_15 _ (List.mem_of_getElem? (i := 12) rfl)
theorem zf_X7_125 : Cond.fieldLink RX7 125 "DairyShares$Books" "surplusCount" "I" ∈ wsL_law := zr_15 _ (List.mem_of_getElem? (i := 13) rfl)
theorem zm_X7_121 : Cond.methodLink RX7 121 yX0_recordSurplus ∈ wsL_law := zr_15 _ (List.mem_of_getElem? (i := 14) rfl)
theorem zi_yX0_recordSurplus : Cond.instanceMethod yX0_recordSurplus ∈ wsL_law := zr_15 _ (List.mem_of_getElem? (i := 15) rfl)
theorem zs_yX0_recordSurplus : Cond.selects RX0 yX0_recordSurplus yX0_recordSurplus ∈ wsL_law := zr_15 _ (List.mem_of_getElem? (i := 16) rfl)
theorem zc_yX0_recordSurplus : Cond.code yX0_recordSurplus cX0_recordSurplus 2 none ∈ wsL_law := zr_15 _ (List.mem_of_getElem? (i := 17) rfl)
theorem zm_L_125 : Cond.methodLink RL 125 yL_valuates ∈ wsL_law := zr_15 _ (List.mem_of_getElem? (i := 18) rfl)
theorem zt_yL_valuates : Cond.static yL_valuates ∈ wsL_law := zr_15 _ (List.mem_of_getElem? (i := 19) rfl)
theorem zc_yL_valuates : Cond.code yL_valuates cL_valuates 2 (some .boolean) ∈ wsL_law := zr_15 _ (List.mem_of_getElem? (i := 20) rfl)
theorem zm_L_98 : Cond.methodLink RL 98 yX7_parValue ∈ wsL_law := zr_15 _ (List.mem_of_getElem? (i := 21) rfl)
theorem zi_yX7_parValue : Cond.instanceMethod yX7_parValue ∈ wsL_law := zr_15 _ (List.mem_of_getElem? (i := 22) rfl)
theorem zs_yX7_parValue : Cond.selects RX7 yX7_parValue yX7_parValue ∈ wsL_law := zr_15 _ (List.mem_of_getElem? (i := 23) rfl)
theorem zc_yX7_parValue : Cond.code yX7_parValue cX7_parValue 1 (some .int) ∈ wsL_law := zr_16 _ (List.mem_of_getElem? (i := 0) rfl)
theorem zm_L_129 : Cond.methodLink RL 129 yL_claims ∈ wsL_law := zr_16 _ (List.mem_of_getElem? (i := 1) rfl)
theorem zt_yL_claims : Cond.static yL_claims ∈ wsL_law := zr_16 _ (List.mem_of_getElem? (i := 2) rfl)
theorem zc_yL_claims : Cond.code yL_claims cL_claims 10 (some .boolean) ∈ wsL_law := zr_16 _ (List.mem_of_getElem? (i := 3) rfl)
theorem zm_L_90 : Cond.methodLink RL 90 yX7_claim ∈ wsL_law := zr_16 _ (List.mem_of_getElem? (i := 4) rfl)
theorem zi_yX7_claim : Cond.instanceMethod yX7_claim ∈ wsL_law := zr_16 _ (List.mem_of_getElem? (i := 5) rfl)
theorem zs_yX7_claim : Cond.selects RX7 yX7_claim yX7_claim ∈ wsL_law := zr_16 _ (List.mem_of_getElem? (i := 6) rfl)
theorem zc_yX7_claim : Cond.code yX7_claim cX7_claim 4 (some .int) ∈ wsL_law := zr_16 _ (List.mem_of_getElem? (i := 7) rfl)
theorem zm_X7_161 : Cond.methodLink RX7 161 yX4_canClaim ∈ wsL_law := zr_16 _ (List.mem_of_getElem? (i := 8) rfl)
theorem zi_yX4_canClaim : Cond.instanceMethod yX4_canClaim ∈ wsL_law := zr_16 _ (List.mem_of_getElem? (i := 9) rfl)
theorem zs_yX4_canClaim : Cond.selects RX4 yX4_canClaim yX4_canClaim ∈ wsL_law := zr_16 _ (List.mem_of_getElem? (i := 10) rfl)
theorem zc_yX4_canClaim : Cond.code yX4_canClaim cX4_canClaim 3 (some .boolean) ∈ wsL_law := zr_16 _ (List.mem_of_getElem? (i := 11) rfl)
theorem zf_X4_105 : Cond.fieldLink RX4 105 "DairyShares$Offers" "seller" "[I" ∈ wsL_law := zr_16 _ (List.mem_of_getElem? (i := 12) rfl)
theorem zf_X4_108 : Cond.fieldLink RX4 108 "DairyShares$Offers" "stage" "[I" ∈ wsL_law := zr_16 _ (List.mem_of_getElem? (i := 13) rfl)
theorem zm_X4_111 : Cond.methodLink RX4 111 yX4_isNeedy ∈ wsL_law := zr_16 _ (List.mem_of_getElem? (i := 14) rfl)
theorem zi_yX4_isNeedy : Cond.instanceMethod yX4_isNeedy ∈ wsL_law := zr_16 _ (List.mem_of_getElem? (i := 15) rfl)
theorem zs_yX4_isNeedy : Cond.selects RX4 yX4_isNeedy yX4_isNeedy ∈ wsL_law := zr_16 _ (List.mem_of_getElem? (i := 16) rfl)
theorem zc_yX4_isNeedy : Cond.code yX4_isNeedy cX4_isNeedy 2 (some .boolean) ∈ wsL_law := zr_16 _ (List.mem_of_getElem? (i := 17) rfl)
theorem zm_X7_165 : Cond.methodLink RX7 165 yX3_setClaim ∈ wsL_law := zr_16 _ (List.mem_of_getElem? (i := 18) rfl)
theorem zi_yX3_setClaim : Cond.instanceMethod yX3_setClaim ∈ wsL_law := zr_16 _ (List.mem_of_getElem? (i := 19) rfl)
theorem zs_yX3_setClaim : Cond.selects RX3 yX3_setClaim yX3_setClaim ∈ wsL_law := zr_16 _ (List.mem_of_getElem? (i := 20) rfl)
theorem zc_yX3_setClaim : Cond.code yX3_setClaim cX3_setClaim 4 none ∈ wsL_law := zr_16 _ (List.mem_of_getElem? (i := 21) rfl)
theorem zm_X7_168 : Cond.methodLink RX7 168 yX3_sumOfClaims ∈ wsL_law := zr_16 _ (List.mem_of_getElem? (i := 22) rfl)
theorem zi_yX3_sumOfClaims : Cond.instanceMethod yX3_sumOfClaims ∈ wsL_law := zr_16 _ (List.mem_of_getElem? (i := 23) rfl)
theorem zs_yX3_sumOfClaims : Cond.selects RX3 yX3_sumOfClaims yX3_sumOfClaims ∈ wsL_law := zr_17 _ (List.mem_of_getElem? (i := 0) rfl)
theorem zc_yX3_sumOfClaims : Cond.code yX3_sumOfClaims cX3_sumOfClaims 4 (some .int) ∈ wsL_law := zr_17 _ (List.mem_of_getElem? (i := 1) rfl)
theorem zm_X3_57 : Cond.methodLink RX3 57 yX3_claimBy ∈ wsL_law := zr_17 _ (List.mem_of_getElem? (i := 2) rfl)
theorem zm_L_134 : Cond.methodLink RL 134 yX7_withdraw ∈ wsL_law := zr_17 _ (List.mem_of_getElem? (i := 3) rfl)
theorem zi_yX7_withdraw : Cond.instanceMethod yX7_withdraw ∈ wsL_law := zr_17 _ (List.mem_of_getElem? (i := 4) rfl)
theorem zs_yX7_withdraw : Cond.selects RX7 yX7_withdraw yX7_withdraw ∈ wsL_law := zr_17 _ (List.mem_of_getElem? (i := 5) rfl)
theorem zc_yX7_withdraw : Cond.code yX7_withdraw cX7_withdraw 2 (some .int) ∈ wsL_law := zr_17 _ (List.mem_of_getElem? (i := 6) rfl)
theorem zm_X7_174 : Cond.methodLink RX7 174 yX3_close ∈ wsL_law := zr_17 _ (List.mem_of_getElem? (i := 7) rfl)
theorem zi_yX3_close : Cond.instanceMethod yX3_close ∈ wsL_law := zr_17 _ (List.mem_of_getElem? (i := 8) rfl)
theorem zs_yX3_close : Cond.selects RX3 yX3_close yX3_close ∈ wsL_law := zr_17 _ (List.mem_of_getElem? (i := 9) rfl)
theorem zc_yX3_close : Cond.code yX3_close cX3_close 2 none ∈ wsL_law := zr_17 _ (List.mem_of_getElem? (i := 10) rfl)
theorem zm_X3_50 : Cond.methodLink RX3 50 yX3_beginStage ∈ wsL_law := zr_17 _ (List.mem_of_getElem? (i := 11) rfl)
theorem zi_yX3_beginStage : Cond.instanceMethod yX3_beginStage ∈ wsL_law := zr_17 _ (List.mem_of_getElem? (i := 12) rfl)
theorem zs_yX3_beginStage : Cond.selects RX3 yX3_beginStage yX3_beginStage ∈ wsL_law := zr_17 _ (List.mem_of_getElem? (i := 13) rfl)
theorem zc_yX3_beginStage : Cond.code yX3_beginStage cX3_beginStage 4 none ∈ wsL_law := zr_17 _ (List.mem_of_getElem? (i := 14) rfl)
theorem zm_X3_46 : Cond.methodLink RX3 46 yX3_clearClaims ∈ wsL_law := zr_17 _ (List.mem_of_getElem? (i := 15) rfl)
theorem zi_yX3_clearClaims : Cond.instanceMethod yX3_clearClaims ∈ wsL_law := zr_17 _ (List.mem_of_getElem? (i := 16) rfl)
theorem zs_yX3_clearClaims : Cond.selects RX3 yX3_clearClaims yX3_clearClaims ∈ wsL_law := zr_17 _ (List.mem_of_getElem? (i := 17) rfl)
theorem zc_yX3_clearClaims : Cond.code yX3_clearClaims cX3_clearClaims 3 none ∈ wsL_law := zr_17 _ (List.mem_of_getElem? (i := 18) rfl)
theorem zm_X3_54 : Cond.methodLink RX3 54 yX3_setClaim ∈ wsL_law := zr_17 _ (List.mem_of_getElem? (i := 19) rfl)
theorem zm_L_137 : Cond.methodLink RL 137 yX7_setTreasuryLimit ∈ wsL_law := zr_17 _ (List.mem_of_getElem? (i := 20) rfl)
theorem zi_yX7_setTreasuryLimit : Cond.instanceMethod yX7_setTreasuryLimit ∈ wsL_law := zr_17 _ (List.mem_of_getElem? (i := 21) rfl)
theorem zs_yX7_setTreasuryLimit : Cond.selects RX7 yX7_setTreasuryLimit yX7_setTreasuryLimit ∈ wsL_law := zr_17 _ (List.mem_of_getElem? (i := 22) rfl)
theorem zc_yX7_setTreasuryLimit : Cond.code yX7_setTreasuryLimit cX7_setTreasuryLimit 3 (some .int) ∈ wsL_law := zr_17 _ (List.mem_of_getElem? (i := 23) rfl)
theorem zf_X7_95 : Cond.fieldLink RX7 95 "DairyShares$Settings" "treasuryLimit" "I" ∈ wsL_law := zr_18 _ (List.mem_of_getElem? (i := 0) rfl)
theorem zm_L_140 : Cond.methodLink RL 140 yL_passes ∈ wsL_law := zr_18 _ (List.mem_of_getElem? (i := 1) rfl)
theorem zt_yL_passes : Cond.static yL_passes ∈ wsL_law := zr_18 _ (List.mem_of_getElem? (i := 2) rfl)
theorem zc_yL_passes : Cond.code yL_passes cL_passes 12 (some .boolean) ∈ wsL_law := zr_18 _ (List.mem_of_getElem? (i := 3) rfl)
theorem zm_L_77 : Cond.methodLink RL 77 yL_accounts ∈ wsL_law := zr_18 _ (List.mem_of_getElem? (i := 4) rfl)
theorem zt_yL_accounts : Cond.static yL_accounts ∈ wsL_law := zr_18 _ (List.mem_of_getElem? (i := 5) rfl)
theorem zc_yL_accounts : Cond.code yL_accounts cL_accounts 4 (some .long) ∈ wsL_law := zr_18 _ (List.mem_of_getElem? (i := 6) rfl)
theorem zm_L_81 : Cond.methodLink RL 81 yX7_day ∈ wsL_law := zr_18 _ (List.mem_of_getElem? (i := 7) rfl)
theorem zi_yX7_day : Cond.instanceMethod yX7_day ∈ wsL_law := zr_18 _ (List.mem_of_getElem? (i := 8) rfl)
theorem zs_yX7_day : Cond.selects RX7 yX7_day yX7_day ∈ wsL_law := zr_18 _ (List.mem_of_getElem? (i := 9) rfl)
theorem zc_yX7_day : Cond.code yX7_day cX7_day 1 (some .int) ∈ wsL_law := zr_18 _ (List.mem_of_getElem? (i := 10) rfl)
theorem zf_X7_245 : Cond.fieldLink RX7 245 "DairyShares$Register" "daysPassed" "I" ∈ wsL_law := zr_18 _ (List.mem_of_getElem? (i := 11) rfl)
theorem zm_L_87 : Cond.methodLink RL 87 yX7_passDays ∈ wsL_law := zr_18 _ (List.mem_of_getElem? (i := 12) rfl)
theorem zi_yX7_passDays : Cond.instanceMethod yX7_passDays ∈ wsL_law := zr_18 _ (List.mem_of_getElem? (i := 13) rfl)
theorem zs_yX7_passDays : Cond.selects RX7 yX7_passDays yX7_passDays ∈ wsL_law := zr_18 _ (List.mem_of_getElem? (i := 14) rfl)
theorem zc_yX7_passDays : Cond.code yX7_passDays cX7_passDays 4 (some .int) ∈ wsL_law := zr_18 _ (List.mem_of_getElem? (i := 15) rfl)
theorem zm_X7_180 : Cond.methodLink RX7 180 yX4_runDay ∈ wsL_law := zr_18 _ (List.mem_of_getElem? (i := 16) rfl)
theorem zi_yX4_runDay : Cond.instanceMethod yX4_runDay ∈ wsL_law := zr_18 _ (List.mem_of_getElem? (i := 17) rfl)
theorem zs_yX4_runDay : Cond.selects RX4 yX4_runDay yX4_runDay ∈ wsL_law := zr_18 _ (List.mem_of_getElem? (i := 18) rfl)
theorem zc_yX4_runDay : Cond.code yX4_runDay cX4_runDay 4 (some .int) ∈ wsL_law := zr_18 _ (List.mem_of_getElem? (i := 19) rfl)
theorem zf_X4_115 : Cond.fieldLink RX4 115 "DairyShares$Offers" "count" "I" ∈ wsL_law := zr_18 _ (List.mem_of_getElem? (i := 20) rfl)
theorem zm_X4_116 : Cond.methodLink RX4 116 yX3_isOpen ∈ wsL_law := zr_18 _ (List.mem_of_getElem? (i := 21) rfl)
theorem zm_X4_119 : Cond.methodLink RX4 119 yX3_losesLastDay ∈ wsL_law := zr_18 _ (List.mem_of_getElem? (i := 22) rfl)
theorem zi_yX3_losesLastDay : Cond.instanceMethod yX3_losesLastDay ∈ wsL_law := zr_18 _ (List.mem_of_getElem? (i := 23) rfl)
theorem zs_yX3_losesLastDay : Cond.selects RX3 yX3_losesLastDay yX3_losesLastDay ∈ wsL_law := zr_19 _ (List.mem_of_getElem? (i := 0) rfl)
theorem zc_yX3_losesLastDay : Cond.code yX3_losesLastDay cX3_losesLastDay 2 (some .boolean) ∈ wsL_law := zr_19 _ (List.mem_of_getElem? (i := 1) rfl)
theorem zm_X4_122 : Cond.methodLink RX4 122 yX4_endStage ∈ wsL_law := zr_19 _ (List.mem_of_getElem? (i := 2) rfl)
theorem zi_yX4_endStage : Cond.instanceMethod yX4_endStage ∈ wsL_law := zr_19 _ (List.mem_of_getElem? (i := 3) rfl)
theorem zs_yX4_endStage : Cond.selects RX4 yX4_endStage yX4_endStage ∈ wsL_law := zr_19 _ (List.mem_of_getElem? (i := 4) rfl)
theorem zc_yX4_endStage : Cond.code yX4_endStage cX4_endStage 4 none ∈ wsL_law := zr_19 _ (List.mem_of_getElem? (i := 5) rfl)
theorem zf_X4_137 : Cond.fieldLink RX4 137 "DairyShares$Offers" "remaining" "[I" ∈ wsL_law := zr_19 _ (List.mem_of_getElem? (i := 6) rfl)
theorem zf_X4_143 : Cond.fieldLink RX4 143 "DairyShares$Settings" "stageLength" "I" ∈ wsL_law := zr_19 _ (List.mem_of_getElem? (i := 7) rfl)
theorem zm_X4_126 : Cond.methodLink RX4 126 yX4_sellToTreasury ∈ wsL_law := zr_19 _ (List.mem_of_getElem? (i := 8) rfl)
theorem zi_yX4_sellToTreasury : Cond.instanceMethod yX4_sellToTreasury ∈ wsL_law := zr_19 _ (List.mem_of_getElem? (i := 9) rfl)
theorem zs_yX4_sellToTreasury : Cond.selects RX4 yX4_sellToTreasury yX4_sellToTreasury ∈ wsL_law := zr_19 _ (List.mem_of_getElem? (i := 10) rfl)
theorem zc_yX4_sellToTreasury : Cond.code yX4_sellToTreasury cX4_sellToTreasury 4 none ∈ wsL_law := zr_19 _ (List.mem_of_getElem? (i := 11) rfl)
theorem zf_X4_177 : Cond.fieldLink RX4 177 "DairyShares$Settings" "treasuryLimit" "I" ∈ wsL_law := zr_19 _ (List.mem_of_getElem? (i := 12) rfl)
theorem zm_X4_161 : Cond.methodLink RX4 161 Lib.Math.min.name ∈ wsL_law := zr_19 _ (List.mem_of_getElem? (i := 13) rfl)
theorem zf_X4_170 : Cond.fieldLink RX4 170 "DairyShares$Books" "price" "I" ∈ wsL_law := zr_19 _ (List.mem_of_getElem? (i := 14) rfl)
theorem zm_X4_180 : Cond.methodLink RX4 180 yX4_takeFromSeller ∈ wsL_law := zr_19 _ (List.mem_of_getElem? (i := 15) rfl)
theorem zi_yX4_takeFromSeller : Cond.instanceMethod yX4_takeFromSeller ∈ wsL_law := zr_19 _ (List.mem_of_getElem? (i := 16) rfl)
theorem zs_yX4_takeFromSeller : Cond.selects RX4 yX4_takeFromSeller yX4_takeFromSeller ∈ wsL_law := zr_19 _ (List.mem_of_getElem? (i := 17) rfl)
theorem zc_yX4_takeFromSeller : Cond.code yX4_takeFromSeller cX4_takeFromSeller 6 none ∈ wsL_law := zr_19 _ (List.mem_of_getElem? (i := 18) rfl)
theorem zf_X4_190 : Cond.fieldLink RX4 190 "DairyShares$Members" "account" "[J" ∈ wsL_law := zr_19 _ (List.mem_of_getElem? (i := 19) rfl)
theorem zm_X4_194 : Cond.methodLink RX4 194 yX3_recordSale ∈ wsL_law := zr_19 _ (List.mem_of_getElem? (i := 20) rfl)
theorem zi_yX3_recordSale : Cond.instanceMethod yX3_recordSale ∈ wsL_law := zr_19 _ (List.mem_of_getElem? (i := 21) rfl)
theorem zs_yX3_recordSale : Cond.selects RX3 yX3_recordSale yX3_recordSale ∈ wsL_law := zr_19 _ (List.mem_of_getElem? (i := 22) rfl)
theorem zc_yX3_recordSale : Cond.code yX3_recordSale cX3_recordSale 4 none ∈ wsL_law := zr_19 _ (List.mem_of_getElem? (i := 23) rfl)
theorem zm_X4_130 : Cond.methodLink RX4 130 yX4_sellToBuyer ∈ wsL_law := zr_20 _ (List.mem_of_getElem? (i := 0) rfl)
theorem zi_yX4_sellToBuyer : Cond.instanceMethod yX4_sellToBuyer ∈ wsL_law := zr_20 _ (List.mem_of_getElem? (i := 1) rfl)
theorem zs_yX4_sellToBuyer : Cond.selects RX4 yX4_sellToBuyer yX4_sellToBuyer ∈ wsL_law := zr_20 _ (List.mem_of_getElem? (i := 2) rfl)
theorem zc_yX4_sellToBuyer : Cond.code yX4_sellToBuyer cX4_sellToBuyer 4 none ∈ wsL_law := zr_20 _ (List.mem_of_getElem? (i := 3) rfl)
theorem zf_X4_184 : Cond.fieldLink RX4 184 "DairyShares$Offers" "buyer" "[I" ∈ wsL_law := zr_20 _ (List.mem_of_getElem? (i := 4) rfl)
theorem zf_X4_187 : Cond.fieldLink RX4 187 "DairyShares$Offers" "offered" "[I" ∈ wsL_law := zr_20 _ (List.mem_of_getElem? (i := 5) rfl)
theorem zm_X4_158 : Cond.methodLink RX4 158 yX4_roomOf ∈ wsL_law := zr_20 _ (List.mem_of_getElem? (i := 6) rfl)
theorem zm_X4_173 : Cond.methodLink RX4 173 yX4_sellToMember ∈ wsL_law := zr_20 _ (List.mem_of_getElem? (i := 7) rfl)
theorem zi_yX4_sellToMember : Cond.instanceMethod yX4_sellToMember ∈ wsL_law := zr_20 _ (List.mem_of_getElem? (i := 8) rfl)
theorem zs_yX4_sellToMember : Cond.selects RX4 yX4_sellToMember yX4_sellToMember ∈ wsL_law := zr_20 _ (List.mem_of_getElem? (i := 9) rfl)
theorem zc_yX4_sellToMember : Cond.code yX4_sellToMember cX4_sellToMember 6 none ∈ wsL_law := zr_20 _ (List.mem_of_getElem? (i := 10) rfl)
theorem zm_X4_133 : Cond.methodLink RX4 133 yX4_sellToClaimants ∈ wsL_law := zr_20 _ (List.mem_of_getElem? (i := 11) rfl)
theorem zi_yX4_sellToClaimants : Cond.instanceMethod yX4_sellToClaimants ∈ wsL_law := zr_20 _ (List.mem_of_getElem? (i := 12) rfl)
theorem zs_yX4_sellToClaimants : Cond.selects RX4 yX4_sellToClaimants yX4_sellToClaimants ∈ wsL_law := zr_20 _ (List.mem_of_getElem? (i := 13) rfl)
theorem zc_yX4_sellToClaimants : Cond.code yX4_sellToClaimants cX4_sellToClaimants 5 none ∈ wsL_law := zr_20 _ (List.mem_of_getElem? (i := 14) rfl)
theorem zf_X4_150 : Cond.fieldLink RX4 150 "DairyShares$Split" "demand" "[I" ∈ wsL_law := zr_20 _ (List.mem_of_getElem? (i := 15) rfl)
theorem zf_X4_167 : Cond.fieldLink RX4 167 "DairyShares$Split" "part" "[I" ∈ wsL_law := zr_20 _ (List.mem_of_getElem? (i := 16) rfl)
theorem zm_X4_155 : Cond.methodLink RX4 155 yX3_claimBy ∈ wsL_law := zr_20 _ (List.mem_of_getElem? (i := 17) rfl)
theorem zm_X4_164 : Cond.methodLink RX4 164 yX6_divide ∈ wsL_law := zr_20 _ (List.mem_of_getElem? (i := 18) rfl)
theorem zi_yX6_divide : Cond.instanceMethod yX6_divide ∈ wsL_law := zr_20 _ (List.mem_of_getElem? (i := 19) rfl)
theorem zs_yX6_divide : Cond.selects RX6 yX6_divide yX6_divide ∈ wsL_law := zr_20 _ (List.mem_of_getElem? (i := 20) rfl)
theorem zc_yX6_divide : Cond.code yX6_divide cX6_divide 6 none ∈ wsL_law := zr_20 _ (List.mem_of_getElem? (i := 21) rfl)
theorem zm_X6_25 : Cond.methodLink RX6 25 arraycopyName ∈ wsL_law := zr_20 _ (List.mem_of_getElem? (i := 22) rfl)
theorem zm_X6_21 : Cond.methodLink RX6 21 yX6_sumOfDemands ∈ wsL_law := zr_20 _ (List.mem_of_getElem? (i := 23) rfl)
theorem zi_yX6_sumOfDemands : Cond.instanceMethod yX6_sumOfDemands ∈ wsL_law := zr_21 _ (List.mem_of_getElem? (i := 0) rfl)
theorem zs_yX6_sumOfDemands : Cond.selects RX6 yX6_sumOfDemands yX6_sumOfDemands ∈ wsL_law := zr_21 _ (List.mem_of_getElem? (i := 1) rfl)
theorem zc_yX6_sumOfDemands : Cond.code yX6_sumOfDemands cX6_sumOfDemands 3 (some .int) ∈ wsL_law := zr_21 _ (List.mem_of_getElem? (i := 2) rfl)
theorem zm_X6_35 : Cond.methodLink RX6 35 yX6_handOut ∈ wsL_law := zr_21 _ (List.mem_of_getElem? (i := 3) rfl)
theorem zi_yX6_handOut : Cond.instanceMethod yX6_handOut ∈ wsL_law := zr_21 _ (List.mem_of_getElem? (i := 4) rfl)
theorem zs_yX6_handOut : Cond.selects RX6 yX6_handOut yX6_handOut ∈ wsL_law := zr_21 _ (List.mem_of_getElem? (i := 5) rfl)
theorem zc_yX6_handOut : Cond.code yX6_handOut cX6_handOut 4 none ∈ wsL_law := zr_21 _ (List.mem_of_getElem? (i := 6) rfl)
theorem zm_X6_39 : Cond.methodLink RX6 39 yX6_greatestRemainder ∈ wsL_law := zr_21 _ (List.mem_of_getElem? (i := 7) rfl)
theorem zi_yX6_greatestRemainder : Cond.instanceMethod yX6_greatestRemainder ∈ wsL_law := zr_21 _ (List.mem_of_getElem? (i := 8) rfl)
theorem zs_yX6_greatestRemainder : Cond.selects RX6 yX6_greatestRemainder yX6_greatestRemainder ∈ wsL_law := zr_21 _ (List.mem_of_getElem? (i := 9) rfl)
theorem zc_yX6_greatestRemainder : Cond.code yX6_greatestRemainder cX6_greatestRemainder 3 (some .int) ∈ wsL_law := zr_21 _ (List.mem_of_getElem? (i := 10) rfl)
theorem zm_X4_140 : Cond.methodLink RX4 140 yX3_close ∈ wsL_law := zr_21 _ (List.mem_of_getElem? (i := 11) rfl)
theorem zm_X4_146 : Cond.methodLink RX4 146 yX3_beginStage ∈ wsL_law := zr_21 _ (List.mem_of_getElem? (i := 12) rfl)
theorem zm_L_144 : Cond.methodLink RL 144 yX7_offer ∈ wsL_law := zr_21 _ (List.mem_of_getElem? (i := 13) rfl)
theorem zi_yX7_offer : Cond.instanceMethod yX7_offer ∈ wsL_law := zr_21 _ (List.mem_of_getElem? (i := 14) rfl)
theorem zs_yX7_offer : Cond.selects RX7 yX7_offer yX7_offer ∈ wsL_law := zr_21 _ (List.mem_of_getElem? (i := 15) rfl)
theorem zc_yX7_offer : Cond.code yX7_offer cX7_offer 6 (some .int) ∈ wsL_law := zr_21 _ (List.mem_of_getElem? (i := 16) rfl)
theorem zk_X7_141 : Cond.constant RX7 141 (100000) ∈ wsL_law := zr_21 _ (List.mem_of_getElem? (i := 17) rfl)
theorem zf_X7_153 : Cond.fieldLink RX7 153 "DairyShares$Settings" "stageLength" "I" ∈ wsL_law := zr_21 _ (List.mem_of_getElem? (i := 18) rfl)
theorem zm_X7_149 : Cond.methodLink RX7 149 yX3_add ∈ wsL_law := zr_21 _ (List.mem_of_getElem? (i := 19) rfl)
theorem zi_yX3_add : Cond.instanceMethod yX3_add ∈ wsL_law := zr_21 _ (List.mem_of_getElem? (i := 20) rfl)
theorem zs_yX3_add : Cond.selects RX3 yX3_add yX3_add ∈ wsL_law := zr_21 _ (List.mem_of_getElem? (i := 21) rfl)
theorem zc_yX3_add : Cond.code yX3_add cX3_add 6 (some .int) ∈ wsL_law := zr_21 _ (List.mem_of_getElem? (i := 22) rfl)
theorem zm_X7_156 : Cond.methodLink RX7 156 yX3_beginStage ∈ wsL_law := zr_21 _ (List.mem_of_getElem? (i := 23) rfl)
theorem zm_L_149 : Cond.methodLink RL 149 yX7_historySize ∈ wsL_law := zr_22 _ (List.mem_of_getElem? (i := 0) rfl)
theorem zi_yX7_historySize : Cond.instanceMethod yX7_historySize ∈ wsL_law := zr_22 _ (List.mem_of_getElem? (i := 1) rfl)
theorem zs_yX7_historySize : Cond.selects RX7 yX7_historySize yX7_historySize ∈ wsL_law := zr_22 _ (List.mem_of_getElem? (i := 2) rfl)
theorem zc_yX7_historySize : Cond.code yX7_historySize cX7_historySize 1 (some .int) ∈ wsL_law := zr_22 _ (List.mem_of_getElem? (i := 3) rfl)
set_option maxRecDepth 100000 in
theorem zw_good : wsL_law.all goodWord = true := by decide +kernel
