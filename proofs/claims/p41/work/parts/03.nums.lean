/-! NUMBERS: every int and long of a walk is written as the image of an Int expression -/
def i32 (x : Int) : Int32 := Int32.ofInt x
def i64 (x : Int) : Int64 := Int64.ofInt x
def b32 (x : Int) : Prop := -2147483648 ≤ x ∧ x < 2147483648
def b64 (x : Int) : Prop := -9223372036854775808 ≤ x ∧ x < 9223372036854775808
theorem i32_add (a b : Int) : i32 a + i32 b = i32 (a + b) := (Int32.ofInt_add a b).symm
theorem i32_sub (a b : Int) : i32 a - i32 b = i32 (a - b) := (Int32.ofInt_sub a b).symm
theorem i32_mul (a b : Int) : i32 a * i32 b = i32 (a * b) := (Int32.ofInt_mul a b).symm
theorem i64_add (a b : Int) : i64 a + i64 b = i64 (a + b) := (Int64.ofInt_add a b).symm
theorem i64_sub (a b : Int) : i64 a - i64 b = i64 (a - b) := (Int64.ofInt_sub a b).symm
theorem i64_mul (a b : Int) : i64 a * i64 b = i64 (a * b) := (Int64.ofInt_mul a b).symm
theorem i32_I {a : Int} (h : b32 a) : (i32 a).toInt = a := Int32.toInt_ofInt_of_le (by have := h.1; omega) (by have := h.2; omega)
theorem i64_I {a : Int} (h : b64 a) : (i64 a).toInt = a := Int64.toInt_ofInt_of_le (by have := h.1; omega) (by have := h.2; omega)
theorem i32_of (x : Int32) : ∃ a : Int, x = i32 a ∧ b32 a := ⟨x.toInt, (Int32.ofInt_toInt x).symm, by have := Int32.le_toInt x; have := Int32.toInt_lt x; unfold b32; omega⟩
theorem i64_of (x : Int64) : ∃ a : Int, x = i64 a ∧ b64 a := ⟨x.toInt, (Int64.ofInt_toInt x).symm, by have := Int64.le_toInt x; have := Int64.toInt_lt x; unfold b64; omega⟩
theorem i32_lt {a b : Int} (ha : b32 a) (hb : b32 b) : i32 a < i32 b ↔ a < b := by rw [Int32.lt_iff_toInt_lt, i32_I ha, i32_I hb]
theorem i32_le {a b : Int} (ha : b32 a) (hb : b32 b) : i32 a ≤ i32 b ↔ a ≤ b := by rw [Int32.le_iff_toInt_le, i32_I ha, i32_I hb]
theorem i32_eq {a b : Int} (ha : b32 a) (hb : b32 b) : i32 a = i32 b ↔ a = b := by rw [← Int32.toInt_inj, i32_I ha, i32_I hb]
theorem i64_lt {a b : Int} (ha : b64 a) (hb : b64 b) : i64 a < i64 b ↔ a < b := by rw [Int64.lt_iff_toInt_lt, i64_I ha, i64_I hb]
theorem i64_le {a b : Int} (ha : b64 a) (hb : b64 b) : i64 a ≤ i64 b ↔ a ≤ b := by rw [Int64.le_iff_toInt_le, i64_I ha, i64_I hb]
theorem i64_eq {a b : Int} (ha : b64 a) (hb : b64 b) : i64 a = i64 b ↔ a = b := by rw [← Int64.toInt_inj, i64_I ha, i64_I hb]
theorem i32_0 : (0 : Int32) = i32 0 := rfl
theorem i64_0 : (0 : Int64) = i64 0 := rfl
theorem b32_0 : b32 0 := ⟨by omega, by omega⟩
theorem b64_0 : b64 0 := ⟨by omega, by omega⟩
theorem i32_l {a : Int} (h : b32 a) : (i32 a).toInt64 = i64 a := by
  rw [← Int64.toInt_inj, Int32.toInt_toInt64, i32_I h, i64_I ⟨by have := h.1; omega, by have := h.2; omega⟩]
theorem i64_i (a : Int) : (i64 a).toInt32 = i32 a := Int64.toInt32_ofInt
theorem i32_nat {a : Int} (h : 0 ≤ a) (h2 : b32 a) : (i32 a).toNatClampNeg = a.toNat := Int32.toNatClampNeg_ofInt_of_le (by have := h2.1; omega) (by have := h2.2; omega)
theorem i32_in {a : Int} {n : Nat} (h : 0 ≤ a) (h1 : a < n) (hb : b32 a) : vp_in (i32 a) n := by
  unfold vp_in
  rintro (q | q)
  · rw [i32_0, i32_lt hb b32_0] at q; omega
  · rw [i32_nat h hb] at q; omega
theorem i32_n {n : Nat} (h : n < 2147483648) : nI n = i32 n := by
  unfold nI i32; exact Int32.ofInt_eq_ofNat.symm
/-- quotients -/
theorem i32_div {a b : Int} (ha : b32 a) (hb : b32 b) (h0 : 0 < b) : i32 a / i32 b = i32 (a.tdiv b) := by
  have hq : b32 (a.tdiv b) := by
    have h1 : a.tdiv b ≤ a.natAbs := Int.le_trans (Int.le_natAbs) (by rw [Int.natAbs_tdiv]; exact Int.ofNat_le.mpr (Nat.div_le_self _ _))
    have h2 : -(a.natAbs : Int) ≤ a.tdiv b := by
      have h3 : (a.tdiv b).natAbs ≤ a.natAbs := by rw [Int.natAbs_tdiv]; exact Nat.div_le_self _ _
      omega
    have h5 : a = -2147483648 → a.tdiv b < 2147483648 := by
      intro e
      have h3 := Int.tdiv_nonneg (a := -a) (b := b) (by omega) (by omega)
      rw [Int.neg_tdiv] at h3
      omega
    have := ha.1; have := ha.2
    unfold b32
    constructor
    · omega
    · by_cases e : a = -2147483648
      · exact h5 e
      · omega
  rw [← Int32.toInt_inj, i32_I hq, Int32.toInt_div_of_ne_right _ _ (fun q => by
    have h1 : (i32 b).toInt = (-1 : Int32).toInt := by rw [q]
    rw [i32_I hb] at h1
    have h2 : (-1 : Int32).toInt = -1 := by decide
    omega), i32_I ha, i32_I hb]
theorem i64_div {a b : Int} (ha : b64 a) (hb : b64 b) (h0 : 0 < b) : i64 a / i64 b = i64 (a.tdiv b) := by
  have hq : b64 (a.tdiv b) := by
    have h1 : a.tdiv b ≤ a.natAbs := Int.le_trans (Int.le_natAbs) (by rw [Int.natAbs_tdiv]; exact Int.ofNat_le.mpr (Nat.div_le_self _ _))
    have h2 : -(a.natAbs : Int) ≤ a.tdiv b := by
      have h3 : (a.tdiv b).natAbs ≤ a.natAbs := by rw [Int.natAbs_tdiv]; exact Nat.div_le_self _ _
      omega
    have h5 : a = -9223372036854775808 → a.tdiv b < 9223372036854775808 := by
      intro e
      have h3 := Int.tdiv_nonneg (a := -a) (b := b) (by omega) (by omega)
      rw [Int.neg_tdiv] at h3
      omega
    have := ha.1; have := ha.2
    unfold b64
    constructor
    · omega
    · by_cases e : a = -9223372036854775808
      · exact h5 e
      · omega
  rw [← Int64.toInt_inj, i64_I hq, Int64.toInt_div_of_ne_right _ _ (fun q => by
    have h1 : (i64 b).toInt = (-1 : Int64).toInt := by rw [q]
    rw [i64_I hb] at h1
    have h2 : (-1 : Int64).toInt = -1 := by decide
    omega), i64_I ha, i64_I hb]
theorem zx_tdiv {a b : Int} (h : 0 ≤ a) : a.tdiv b = a / b := Int.tdiv_eq_ediv_of_nonneg h
theorem zx_mul {a b A B : Int} (h1 : 0 ≤ a) (h2 : a ≤ A) (h3 : 0 ≤ b) (h4 : b ≤ B) : 0 ≤ a * b ∧ a * b ≤ A * B := ⟨Int.mul_nonneg h1 h3, Int.mul_le_mul h2 h4 h3 (by omega)⟩
theorem zx_b32 {a : Int} (h1 : -2147483648 ≤ a) (h2 : a ≤ 2147483647) : b32 a := ⟨h1, by omega⟩
theorem zx_b64 {a : Int} (h1 : -9223372036854775808 ≤ a) (h2 : a ≤ 9223372036854775807) : b64 a := ⟨h1, by omega⟩
theorem zx_b64' {a : Int} (h : b32 a) : b64 a := ⟨by have := h.1; omega, by have := h.2; omega⟩
/-- truth values on the stack -/
abbrev zbo (P : Prop) [Decidable P] : Int := if P then 1 else 0
theorem zbo_b {P : Prop} [Decidable P] : b32 (zbo P) := by unfold zbo; split <;> exact ⟨by omega, by omega⟩
theorem zbo_t {P : Prop} [Decidable P] (h : P) : zbo P = 1 := if_pos h
theorem zbo_f {P : Prop} [Decidable P] (h : ¬ P) : zbo P = 0 := if_neg h
/-- functions changed at one place -/
def up {α : Type} (f : Int → α) (k : Int) (v : α) : Int → α := fun q => if q = k then v else f q
theorem up_eq {α : Type} {f : Int → α} {k : Int} {v : α} : up f k v k = v := if_pos rfl
theorem up_ne {α : Type} {f : Int → α} {k q : Int} {v : α} (h : q ≠ k) : up f k v q = f q := if_neg h
theorem up_up {α : Type} (f : Int → α) (k : Int) (v w : α) : up (up f k v) k w = up f k w := by
  funext q; unfold up; split <;> rfl
theorem up_sw {α : Type} (f : Int → α) {k j : Int} (h : k ≠ j) (v w : α) : up (up f k v) j w = up (up f j w) k v := by
  funext q; unfold up; by_cases a : q = j <;> by_cases b : q = k <;> simp [a, b] <;> omega
theorem up_id {α : Type} {f : Int → α} {k : Int} {v : α} (h : f k = v) : up f k v = f := by
  funext q; unfold up; split
  · rename_i e; rw [e, h]
  · rfl
/-- memories: S r q is the number at the place q of the block r -/
abbrev zM : Type := Nat → Int → Int
def us (S : zM) (r : Nat) (f : Int → Int) : zM := fun x => if x = r then f else S x
theorem us_eq {S : zM} {r : Nat} {f : Int → Int} : us S r f r = f := if_pos rfl
theorem us_ne {S : zM} {r x : Nat} {f : Int → Int} (h : x ≠ r) : us S r f x = S x := if_neg h
theorem us_us (S : zM) (r : Nat) (f g : Int → Int) : us (us S r f) r g = us S r g := by
  funext x; unfold us; split <;> rfl
theorem us_id (S : zM) (r : Nat) : us S r (S r) = S := by
  funext x; unfold us; split
  · rename_i e; rw [e]
  · rfl
theorem us_in {S : zM} {r x : Nat} (h : x ≠ r) (f g k : Int → Int) : us (us (us S r f) x g) r k = us (us S x g) r k := by
  funext y; unfold us
  by_cases a : y = r
  · simp [a]
  · simp [a]
