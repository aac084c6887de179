/-! THE LAW'S OWN ROWS -/
section LR
variable {E : zE} {l0 : Launch} {D0 : va_G} {cI0 cJ0 : ClassId} {ad : Nat → Nat → Nat} {cc : ByteArray} {nL0 fr lo : Nat} {own : String} {S : zM} {pc : Nat} {L : List (Nat × Value)} {st : List Value}
def zX (E : zE) (b n : Nat) (xs : Nat → Int32) : Prop := match E with
  | (_, _, _, _, s, _, _, _, _, _, _, A, _, _, _, _, _, _, _) => va_X b n xs s s.heap ∧ b < s.heap.size ∧ ¬ A b ∧ n ≤ 2560
theorem z_sld {b n : Nat} {xs : Nat → Int32} (hE : zG E l0 D0 cI0 cJ0 ad cc nL0 own fr lo) (hX : zX E b n xs) {i : Int} (h0 : 0 ≤ i) (h1 : i < n) (d : decode cc pc = .ok (.iaload, 1)) (kk : Z E S (pc + 1) L (.int (i32 (xs i.toNat).toInt) :: st)) : Z E S pc L (.int (i32 i) :: .ref b :: st) := by
  obtain ⟨p, l, e, R, s, m, args, below, meth, c, Q, A, D, cI, cJ, ad1, nL, cells, slots⟩ := E
  obtain ⟨⟨rfl, rfl, rfl, rfl, rfl, rfl⟩, hx, hb, hml, hown, hts, ⟨hf1, hf2, hf3, hf4⟩, hK, hD, hA, hN⟩ := hE
  obtain ⟨x1, x2, x3, x4⟩ := hX
  intro H locs ls hS hP hl
  have hb9 : b32 i := ⟨by omega, by omega⟩
  refine va_sld hx hb x1 x2 x3 hS (i32_in h0 h1 hb9) d ?_
  rw [i32_nat h0 hb9, show xs i.toNat = i32 (xs i.toNat).toInt from (Int32.ofInt_toInt _).symm]
  have e9 : (i32 (xs i.toNat).toInt).toInt = (xs i.toNat).toInt := congrArg Int32.toInt (Int32.ofInt_toInt _)
  exact kk H locs ls hS hP hl
theorem z_slen {b n : Nat} {xs : Nat → Int32} (hE : zG E l0 D0 cI0 cJ0 ad cc nL0 own fr lo) (hX : zX E b n xs) (d : decode cc pc = .ok (.arraylength, 1)) (kk : Z E S (pc + 1) L (.int (i32 n) :: st)) : Z E S pc L (.ref b :: st) := by
  obtain ⟨p, l, e, R, s, m, args, below, meth, c, Q, A, D, cI, cJ, ad1, nL, cells, slots⟩ := E
  obtain ⟨⟨rfl, rfl, rfl, rfl, rfl, rfl⟩, hx, hb, hml, hown, hts, ⟨hf1, hf2, hf3, hf4⟩, hK, hD, hA, hN⟩ := hE
  obtain ⟨x1, x2, x3, x4⟩ := hX
  intro H locs ls hS hP hl
  refine va_slen hx hb x1 x2 x3 hS d ?_
  rw [show Int32.ofNat n = i32 n from i32_n (by omega)]
  exact kk H locs ls hS hP hl
theorem z_iand (hE : zG E l0 D0 cI0 cJ0 ad cc nL0 own fr lo) {x y : Int32} (d : decode cc pc = .ok (.iand, 1)) (kk : ∀ t : Int, b32 t → Z E S (pc + 1) L (.int (i32 t) :: st)) : Z E S pc L (.int y :: .int x :: st) := by
  obtain ⟨p, l, e, R, s, m, args, below, meth, c, Q, A, D, cI, cJ, ad1, nL, cells, slots⟩ := E
  obtain ⟨⟨rfl, rfl, rfl, rfl, rfl, rfl⟩, hx, hb, hml, hown, hts, ⟨hf1, hf2, hf3, hf4⟩, hK, hD, hA, hN⟩ := hE
  intro H locs ls hS hP hl
  refine lv_iand hx hb d ?_
  obtain ⟨t, ht, hb9⟩ := i32_of (x &&& y)
  rw [ht]
  exact kk t hb9 H locs ls hS hP hl
theorem z_same (hE : zG E l0 D0 cI0 cJ0 ad cc nL0 own fr lo) {x : Int32} {off : Int} {tgt : Nat} (d : decode cc pc = .ok (.if_icmp .eq off, 3)) (ht : (pc : Int) + off = (tgt : Int)) (kk : Z E S tgt L st) : Z E S pc L (.int x :: .int x :: st) := by
  obtain ⟨p, l, e, R, s, m, args, below, meth, c, Q, A, D, cI, cJ, ad1, nL, cells, slots⟩ := E
  obtain ⟨⟨rfl, rfl, rfl, rfl, rfl, rfl⟩, hx, hb, hml, hown, hts, ⟨hf1, hf2, hf3, hf4⟩, hK, hD, hA, hN⟩ := hE
  intro H locs ls hS hP hl
  exact lv_icmp_eq hx hb d ht (fun _ => kk H locs ls hS hP hl) (fun q => absurd rfl q)
theorem z_lsame (hE : zG E l0 D0 cI0 cJ0 ad cc nL0 own fr lo) {x : Int64} (d : decode cc pc = .ok (.lcmp, 1)) (kk : Z E S (pc + 1) L (.int (i32 0) :: st)) : Z E S pc L (.long x :: .long x :: st) := by
  obtain ⟨p, l, e, R, s, m, args, below, meth, c, Q, A, D, cI, cJ, ad1, nL, cells, slots⟩ := E
  obtain ⟨⟨rfl, rfl, rfl, rfl, rfl, rfl⟩, hx, hb, hml, hown, hts, ⟨hf1, hf2, hf3, hf4⟩, hK, hD, hA, hN⟩ := hE
  intro H locs ls hS hP hl
  refine W.lcmp hx hb d ?_
  have e : lg_cmp x x = i32 0 := by
    unfold lg_cmp
    rw [if_neg (Int64.lt_irrefl), if_pos rfl]; rfl
  rw [e]
  exact kk H locs ls hS hP hl
end LR
/-! THE TWO PROGRAMS' STATES AT THE LOOP'S HEAD -/
abbrev LJ (S : zM) (n0 n1 n2 n3 n4 : Nat) : Prop := (n0 < 5) ∧ (n1 < 5) ∧ (n2 < 5) ∧ (n3 < 5) ∧ (n4 < 5) ∧ (S 5 1 = (n0 : Int)) ∧ (S 5 2 = (n1 : Int)) ∧ (S 5 3 = (n2 : Int)) ∧ (S 5 4 = (n3 : Int)) ∧ (S 5 5 = (n4 : Int)) ∧ (n0 ≠ n1) ∧ (n0 ≠ n2) ∧ (n0 ≠ n3) ∧ (n0 ≠ n4) ∧ (n1 ≠ n2) ∧ (n1 ≠ n3) ∧ (n1 ≠ n4) ∧ (n2 ≠ n3) ∧ (n2 ≠ n4) ∧ (n3 ≠ n4) ∧ (0 ≤ S 5 0 ∧ S 5 0 ≤ 4) ∧ (S 6 0 = S 5 0) ∧ (S 7 = S n0) ∧ (Inv (S n0)) ∧ (0 < S 5 0 → Inv (S n1) ∧ ∀ q : Int, 0 ≤ q → q < 645 → S 8 (645 * (S 5 0 - 1) + q) = S n1 q) ∧ (1 < S 5 0 → Inv (S n2) ∧ ∀ q : Int, 0 ≤ q → q < 645 → S 8 (645 * (S 5 0 - 2) + q) = S n2 q) ∧ (2 < S 5 0 → Inv (S n3) ∧ ∀ q : Int, 0 ≤ q → q < 645 → S 8 (645 * (S 5 0 - 3) + q) = S n3 q) ∧ (3 < S 5 0 → Inv (S n4) ∧ ∀ q : Int, 0 ≤ q → q < 645 → S 8 (645 * (S 5 0 - 4) + q) = S n4 q)
theorem LJ.l0 {S : zM} {n0 n1 n2 n3 n4 : Nat} (h : LJ S n0 n1 n2 n3 n4) : n0 < 5 := h.1
theorem LJ.l1 {S : zM} {n0 n1 n2 n3 n4 : Nat} (h : LJ S n0 n1 n2 n3 n4) : n1 < 5 := h.2.1
theorem LJ.l2 {S : zM} {n0 n1 n2 n3 n4 : Nat} (h : LJ S n0 n1 n2 n3 n4) : n2 < 5 := h.2.2.1
theorem LJ.l3 {S : zM} {n0 n1 n2 n3 n4 : Nat} (h : LJ S n0 n1 n2 n3 n4) : n3 < 5 := h.2.2.2.1
theorem LJ.l4 {S : zM} {n0 n1 n2 n3 n4 : Nat} (h : LJ S n0 n1 n2 n3 n4) : n4 < 5 := h.2.2.2.2.1
theorem LJ.e0 {S : zM} {n0 n1 n2 n3 n4 : Nat} (h : LJ S n0 n1 n2 n3 n4) : S 5 1 = (n0 : Int) := h.2.2.2.2.2.1
theorem LJ.e1 {S : zM} {n0 n1 n2 n3 n4 : Nat} (h : LJ S n0 n1 n2 n3 n4) : S 5 2 = (n1 : Int) := h.2.2.2.2.2.2.1
theorem LJ.e2 {S : zM} {n0 n1 n2 n3 n4 : Nat} (h : LJ S n0 n1 n2 n3 n4) : S 5 3 = (n2 : Int) := h.2.2.2.2.2.2.2.1
theorem LJ.e3 {S : zM} {n0 n1 n2 n3 n4 : Nat} (h : LJ S n0 n1 n2 n3 n4) : S 5 4 = (n3 : Int) := h.2.2.2.2.2.2.2.2.1
theorem LJ.e4 {S : zM} {n0 n1 n2 n3 n4 : Nat} (h : LJ S n0 n1 n2 n3 n4) : S 5 5 = (n4 : Int) := h.2.2.2.2.2.2.2.2.2.1
theorem LJ.d01 {S : zM} {n0 n1 n2 n3 n4 : Nat} (h : LJ S n0 n1 n2 n3 n4) : n0 ≠ n1 := h.2.2.2.2.2.2.2.2.2.2.1
theorem LJ.d02 {S : zM} {n0 n1 n2 n3 n4 : Nat} (h : LJ S n0 n1 n2 n3 n4) : n0 ≠ n2 := h.2.2.2.2.2.2.2.2.2.2.2.1
theorem LJ.d03 {S : zM} {n0 n1 n2 n3 n4 : Nat} (h : LJ S n0 n1 n2 n3 n4) : n0 ≠ n3 := h.2.2.2.2.2.2.2.2.2.2.2.2.1
theorem LJ.d04 {S : zM} {n0 n1 n2 n3 n4 : Nat} (h : LJ S n0 n1 n2 n3 n4) : n0 ≠ n4 := h.2.2.2.2.2.2.2.2.2.2.2.2.2.1
theorem LJ.d12 {S : zM} {n0 n1 n2 n3 n4 : Nat} (h : LJ S n0 n1 n2 n3 n4) : n1 ≠ n2 := h.2.2.2.2.2.2.2.2.2.2.2.2.2.2.1
theorem LJ.d13 {S : zM} {n0 n1 n2 n3 n4 : Nat} (h : LJ S n0 n1 n2 n3 n4) : n1 ≠ n3 := h.2.2.2.2.2.2.2.2.2.2.2.2.2.2.2.1
theorem LJ.d14 {S : zM} {n0 n1 n2 n3 n4 : Nat} (h : LJ S n0 n1 n2 n3 n4) : n1 ≠ n4 := h.2.2.2.2.2.2.2.2.2.2.2.2.2.2.2.2.1
theorem LJ.d23 {S : zM} {n0 n1 n2 n3 n4 : Nat} (h : LJ S n0 n1 n2 n3 n4) : n2 ≠ n3 := h.2.2.2.2.2.2.2.2.2.2.2.2.2.2.2.2.2.1
theorem LJ.d24 {S : zM} {n0 n1 n2 n3 n4 : Nat} (h : LJ S n0 n1 n2 n3 n4) : n2 ≠ n4 := h.2.2.2.2.2.2.2.2.2.2.2.2.2.2.2.2.2.2.1
theorem LJ.d34 {S : zM} {n0 n1 n2 n3 n4 : Nat} (h : LJ S n0 n1 n2 n3 n4) : n3 ≠ n4 := h.2.2.2.2.2.2.2.2.2.2.2.2.2.2.2.2.2.2.2.1
theorem LJ.hst {S : zM} {n0 n1 n2 n3 n4 : Nat} (h : LJ S n0 n1 n2 n3 n4) : 0 ≤ S 5 0 ∧ S 5 0 ≤ 4 := h.2.2.2.2.2.2.2.2.2.2.2.2.2.2.2.2.2.2.2.2.1
theorem LJ.h6 {S : zM} {n0 n1 n2 n3 n4 : Nat} (h : LJ S n0 n1 n2 n3 n4) : S 6 0 = S 5 0 := h.2.2.2.2.2.2.2.2.2.2.2.2.2.2.2.2.2.2.2.2.2.1
theorem LJ.h7 {S : zM} {n0 n1 n2 n3 n4 : Nat} (h : LJ S n0 n1 n2 n3 n4) : S 7 = S n0 := h.2.2.2.2.2.2.2.2.2.2.2.2.2.2.2.2.2.2.2.2.2.2.1
theorem LJ.hI {S : zM} {n0 n1 n2 n3 n4 : Nat} (h : LJ S n0 n1 n2 n3 n4) : Inv (S n0) := h.2.2.2.2.2.2.2.2.2.2.2.2.2.2.2.2.2.2.2.2.2.2.2.1
theorem LJ.p1 {S : zM} {n0 n1 n2 n3 n4 : Nat} (h : LJ S n0 n1 n2 n3 n4) : 0 < S 5 0 → Inv (S n1) ∧ ∀ q : Int, 0 ≤ q → q < 645 → S 8 (645 * (S 5 0 - 1) + q) = S n1 q := h.2.2.2.2.2.2.2.2.2.2.2.2.2.2.2.2.2.2.2.2.2.2.2.2.1
theorem LJ.p2 {S : zM} {n0 n1 n2 n3 n4 : Nat} (h : LJ S n0 n1 n2 n3 n4) : 1 < S 5 0 → Inv (S n2) ∧ ∀ q : Int, 0 ≤ q → q < 645 → S 8 (645 * (S 5 0 - 2) + q) = S n2 q := h.2.2.2.2.2.2.2.2.2.2.2.2.2.2.2.2.2.2.2.2.2.2.2.2.2.1
theorem LJ.p3 {S : zM} {n0 n1 n2 n3 n4 : Nat} (h : LJ S n0 n1 n2 n3 n4) : 2 < S 5 0 → Inv (S n3) ∧ ∀ q : Int, 0 ≤ q → q < 645 → S 8 (645 * (S 5 0 - 3) + q) = S n3 q := h.2.2.2.2.2.2.2.2.2.2.2.2.2.2.2.2.2.2.2.2.2.2.2.2.2.2.1
theorem LJ.p4 {S : zM} {n0 n1 n2 n3 n4 : Nat} (h : LJ S n0 n1 n2 n3 n4) : 3 < S 5 0 → Inv (S n4) ∧ ∀ q : Int, 0 ≤ q → q < 645 → S 8 (645 * (S 5 0 - 4) + q) = S n4 q := h.2.2.2.2.2.2.2.2.2.2.2.2.2.2.2.2.2.2.2.2.2.2.2.2.2.2.2
def LI (S : zM) : Prop := ∃ n0 n1 n2 n3 n4 : Nat, LJ S n0 n1 n2 n3 n4
theorem mp_new {p t : Int → Int} {n q : Int} (hn : 0 ≤ n ∧ n ≤ 4) (h0 : 0 ≤ q) (h1 : q < 645) : mp p t n (645 * min n 3 + q) = t q := by
  unfold mp pcy
  rw [if_pos (by omega), show 645 * min n 3 + q - 645 * min n 3 = q by omega]
theorem mp_old {p t : Int → Int} {n j k q : Int} (hn : 0 ≤ n ∧ n ≤ 4) (hj : 0 ≤ j ∧ j < min n 3) (hk : (n = 4 ∧ k = j + 1) ∨ (n < 4 ∧ k = j)) (h0 : 0 ≤ q) (h1 : q < 645) : mp p t n (645 * j + q) = p (645 * k + q) := by
  unfold mp pcy
  rw [if_neg (by omega)]
  rcases hk with ⟨a, b⟩ | ⟨a, b⟩
  · rw [if_pos a]
    unfold shf
    rw [if_pos (by omega), show 645 * j + q + 645 = 645 * k + q by omega]
  · rw [if_neg (by omega), b]
theorem lt5 {x : Nat} (h : x < 5) : x ≠ 5 ∧ x ≠ 6 ∧ x ≠ 7 ∧ x ≠ 8 ∧ 5 ≠ x := by omega
theorem mn_0 {n : Int} (h : 0 ≤ n ∧ n ≤ 4) : 0 ≤ min (n + 1) 4 ∧ min (n + 1) 4 ≤ 4 := by omega
theorem mn_1 {n : Int} (h : 0 ≤ n ∧ n ≤ 4) : min (n + 1) 4 - 1 = min n 3 := by omega
theorem mn_2 {n : Int} (h : 0 ≤ n ∧ n ≤ 4) {k : Int} (hk : 1 ≤ k ∧ k ≤ 3) (h2 : k < min (n + 1) 4) : k - 1 < n ∧ (0 ≤ min (n + 1) 4 - (k + 1) ∧ min (n + 1) 4 - (k + 1) < min n 3) ∧ ((n = 4 ∧ n - k = min (n + 1) 4 - (k + 1) + 1) ∨ (n < 4 ∧ n - k = min (n + 1) 4 - (k + 1))) := by omega
theorem la_go {S : zM} {n0 n1 n2 n3 n4 : Nat} (hJ : LJ S n0 n1 n2 n3 n4) {nx g t : Int → Int} (hnx : Inv nx) (hg : ∀ q : Int, q < 100 → g q = kp5 (S 5) n1 n2 n3 n4 q) (ht : t 0 = min (S 5 0 + 1) 4) :
    LJ (us (us (us (us (us (us S n4 (S n0)) 5 g) n0 nx) 8 (mp (S 8) (S n0) (S 5 0))) 6 t) 7 nx) n0 n4 n1 n2 n3 := by
  obtain ⟨l0, l1, l2, l3, l4, e0, e1, e2, e3, e4, d01, d02, d03, d04, d12, d13, d14, d23, d24, d34, hst, h6, h7, hI, p1, p2, p3, p4⟩ := hJ
  have g0 : g 0 = min (S 5 0 + 1) 4 := by rw [hg 0 (by omega)]; unfold kp5; exact up_eq
  have g1 : g 1 = (n0 : Int) := by rw [hg 1 (by omega), kp5_1]; exact e0
  have g2 : g 2 = (n4 : Int) := by rw [hg 2 (by omega)]; unfold kp5; rw [up_ne (by omega), up_eq]
  have g3 : g 3 = (n1 : Int) := by rw [hg 3 (by omega)]; unfold kp5; rw [up_ne (by omega), up_ne (by omega), up_eq]
  have g4 : g 4 = (n2 : Int) := by rw [hg 4 (by omega)]; unfold kp5; rw [up_ne (by omega), up_ne (by omega), up_ne (by omega), up_eq]
  have g5 : g 5 = (n3 : Int) := by rw [hg 5 (by omega)]; unfold kp5; rw [up_ne (by omega), up_ne (by omega), up_ne (by omega), up_ne (by omega), up_eq]
  generalize hS2 : us (us (us (us (us (us S n4 (S n0)) 5 g) n0 nx) 8 (mp (S 8) (S n0) (S 5 0))) 6 t) 7 nx = S2
  have b7 : S2 7 = nx := by rw [← hS2, us_eq]
  have b6 : S2 6 = t := by rw [← hS2, us_ne (by decide), us_eq]
  have b8 : S2 8 = mp (S 8) (S n0) (S 5 0) := by rw [← hS2, us_ne (by decide), us_ne (by decide), us_eq]
  have b5 : S2 5 = g := by rw [← hS2, us_ne (by decide), us_ne (by decide), us_ne (by decide), us_ne (lt5 l0).2.2.2.2, us_eq]
  have bx : ∀ x : Nat, x < 5 → S2 x = us (us (us S n4 (S n0)) 5 g) n0 nx x := fun x hx => by rw [← hS2, us_ne (lt5 hx).2.2.1, us_ne (lt5 hx).2.1, us_ne (lt5 hx).2.2.2.1]
  have c0 : S2 n0 = nx := by rw [bx n0 l0, us_eq]
  have c4 : S2 n4 = S n0 := by rw [bx n4 l4, us_ne (Ne.symm d04), us_ne (lt5 l4).1, us_eq]
  have c1 : S2 n1 = S n1 := by rw [bx n1 l1, us_ne (Ne.symm d01), us_ne (lt5 l1).1, us_ne d14]
  have c2 : S2 n2 = S n2 := by rw [bx n2 l2, us_ne (Ne.symm d02), us_ne (lt5 l2).1, us_ne d24]
  have c3 : S2 n3 = S n3 := by rw [bx n3 l3, us_ne (Ne.symm d03), us_ne (lt5 l3).1, us_ne d34]
  refine ⟨l0, l4, l1, l2, l3, by rw [b5]; exact g1, by rw [b5]; exact g2, by rw [b5]; exact g3, by rw [b5]; exact g4, by rw [b5]; exact g5, d04, d01, d02, d03, Ne.symm d14, Ne.symm d24, Ne.symm d34, d12, d13, d23, by rw [b5, g0]; exact mn_0 hst, by rw [b6, b5, ht, g0], by rw [b7, c0], by rw [c0]; exact hnx, fun h => ?_, fun h => ?_, fun h => ?_, fun h => ?_⟩
  · rw [c4, b8, b5, g0]
    refine ⟨hI, fun q h0 h1 => ?_⟩
    rw [mn_1 hst]
    exact mp_new hst h0 h1
  · rw [b5, g0] at h
    rw [c1, b8, b5, g0]
    have hm := mn_2 hst (k := 1) (by decide) h
    have hp := p1 hm.1
    refine ⟨hp.1, fun q h0 h1 => ?_⟩
    rw [show min (S 5 0 + 1) 4 - 2 = min (S 5 0 + 1) 4 - (1 + 1) from rfl, mp_old (k := S 5 0 - 1) hst hm.2.1 hm.2.2 h0 h1]
    exact hp.2 q h0 h1
  · rw [b5, g0] at h
    rw [c2, b8, b5, g0]
    have hm := mn_2 hst (k := 2) (by decide) h
    have hp := p2 hm.1
    refine ⟨hp.1, fun q h0 h1 => ?_⟩
    rw [show min (S 5 0 + 1) 4 - 3 = min (S 5 0 + 1) 4 - (2 + 1) from rfl, mp_old (k := S 5 0 - 2) hst hm.2.1 hm.2.2 h0 h1]
    exact hp.2 q h0 h1
  · rw [b5, g0] at h
    rw [c3, b8, b5, g0]
    have hm := mn_2 hst (k := 3) (by decide) h
    have hp := p3 hm.1
    refine ⟨hp.1, fun q h0 h1 => ?_⟩
    rw [show min (S 5 0 + 1) 4 - 4 = min (S 5 0 + 1) 4 - (3 + 1) from rfl, mp_old (k := S 5 0 - 3) hst hm.2.1 hm.2.2 h0 h1]
    exact hp.2 q h0 h1
theorem la_act {S X : zM} {n0 n1 n2 n3 n4 : Nat} (hJ : LJ S n0 n1 n2 n3 n4) {ok : Prop} [Decidable ok] {nx : Int → Int} (hnx : ok → Inv nx) (hX : X = if ok then us (us (us S n4 (S n0)) 5 (kp5 (S 5) n1 n2 n3 n4)) n0 nx else S) :
    X 7 = S n0 ∧ X 6 0 = S 5 0 ∧ ∀ X2 : zM, (X2 = if ok then us (us (us X 8 (mp (X 8) (S n0) (X 6 0))) 6 (up (X 6) 0 (min (X 6 0 + 1) 4))) 7 nx else X) → LI X2 := by
  by_cases c : ok
  · rw [if_pos c] at hX
    have e : ∀ x : Nat, 6 ≤ x → X x = S x := fun x hx => by
      have := hJ.l0
      have := hJ.l4
      rw [hX, us_ne (by omega), us_ne (by omega), us_ne (by omega)]
    have e7 := e 7 (by decide)
    have e6 := e 6 (by decide)
    have e8 := e 8 (by decide)
    refine ⟨by rw [e7]; exact hJ.h7, by rw [e6]; exact hJ.h6, fun X2 h2 => ?_⟩
    rw [if_pos c, e8, e6, hJ.h6] at h2
    rw [h2, hX]
    exact ⟨_, _, _, _, _, la_go hJ (hnx c) (fun _ _ => rfl) up_eq⟩
  · rw [if_neg c] at hX
    subst hX
    refine ⟨hJ.h7, hJ.h6, fun X2 h2 => ?_⟩
    rw [if_neg c] at h2
    rw [h2]
    exact ⟨_, _, _, _, _, hJ⟩
theorem la_days {S X : zM} {n0 n1 n2 n3 n4 : Nat} (hJ : LJ S n0 n1 n2 n3 n4) {ok : Prop} [Decidable ok] {nx : Int → Int} (hnx : ok → Inv nx) (hX : if ok then ∃ g : Int → Int, X = us (us (us S n4 (S n0)) 5 g) n0 nx ∧ ∀ q : Int, q < 100 → g q = kp5 (S 5) n1 n2 n3 n4 q else X = S) :
    X 7 = S n0 ∧ X 6 0 = S 5 0 ∧ ∀ X2 : zM, (if ok then ∃ g : Int → Int, X2 = us (us (us X 8 (mp (X 8) (S n0) (X 6 0))) 6 g) 7 nx ∧ ∀ q : Int, q < 100 → g q = (up (X 6) 0 (min (X 6 0 + 1) 4)) q else X2 = X) → LI X2 := by
  by_cases c : ok
  · rw [if_pos c] at hX
    obtain ⟨g, hX, hg⟩ := hX
    have e : ∀ x : Nat, 6 ≤ x → X x = S x := fun x hx => by
      have := hJ.l0
      have := hJ.l4
      rw [hX, us_ne (by omega), us_ne (by omega), us_ne (by omega)]
    have e7 := e 7 (by decide)
    have e6 := e 6 (by decide)
    have e8 := e 8 (by decide)
    refine ⟨by rw [e7]; exact hJ.h7, by rw [e6]; exact hJ.h6, fun X2 h2 => ?_⟩
    rw [if_pos c, e8, e6, hJ.h6] at h2
    obtain ⟨t, h2, ht⟩ := h2
    rw [h2, hX]
    exact ⟨_, _, _, _, _, la_go hJ (hnx c) hg (by rw [ht 0 (by omega)]; exact up_eq)⟩
  · rw [if_neg c] at hX
    subst hX
    refine ⟨hJ.h7, hJ.h6, fun X2 h2 => ?_⟩
    rw [if_neg c] at h2
    rw [h2]
    exact ⟨_, _, _, _, _, hJ⟩
theorem ud_0 {n : Int} (h : 0 ≤ n ∧ n ≤ 4) (c : 0 < n) : 0 ≤ n - 1 ∧ n - 1 ≤ 4 := by omega
theorem ud_1 {n k : Int} (h : k < n - 1) : k + 1 < n := by omega
theorem ud_2 {n : Int} (h : 0 ≤ n ∧ n ≤ 4) : ¬ 3 < n - 1 := by omega
theorem la_undo {S : zM} {n0 n1 n2 n3 n4 : Nat} (hJ : LJ S n0 n1 n2 n3 n4) (c : 0 < S 5 0) : (∀ q : Int, 0 ≤ q → q < 645 → unp (S 7) (S 8) (S 5 0 - 1) 645 q = S n1 q) ∧ LI (us (us (us S 5 (un5 (S 5) n0 n1 n2 n3 n4)) 6 (up (S 6) 0 (S 5 0 - 1))) 7 (S n1)) := by
  obtain ⟨l0, l1, l2, l3, l4, e0, e1, e2, e3, e4, d01, d02, d03, d04, d12, d13, d14, d23, d24, d34, hst, h6, h7, hI, p1, p2, p3, p4⟩ := hJ
  refine ⟨fun q h0 h1 => ?_, n1, n2, n3, n4, n0, ?_⟩
  · unfold unp
    rw [if_pos ⟨h0, h1⟩]
    exact (p1 c).2 q h0 h1
  generalize hS2 : us (us (us S 5 (un5 (S 5) n0 n1 n2 n3 n4)) 6 (up (S 6) 0 (S 5 0 - 1))) 7 (S n1) = S2
  have b7 : S2 7 = S n1 := by rw [← hS2, us_eq]
  have b6 : S2 6 = up (S 6) 0 (S 5 0 - 1) := by rw [← hS2, us_ne (by decide), us_eq]
  have b8 : S2 8 = S 8 := by rw [← hS2, us_ne (by decide), us_ne (by decide), us_ne (by decide)]
  have b5 : S2 5 = un5 (S 5) n0 n1 n2 n3 n4 := by rw [← hS2, us_ne (by decide), us_ne (by decide), us_eq]
  have bx : ∀ x : Nat, x < 5 → S2 x = S x := fun x hx => by rw [← hS2, us_ne (lt5 hx).2.2.1, us_ne (lt5 hx).2.1, us_ne (lt5 hx).1]
  have g0 : S2 5 0 = S 5 0 - 1 := by rw [b5]; unfold un5; exact up_eq
  have g1 : S2 5 1 = (n1 : Int) := by rw [b5]; unfold un5; simp [up]
  have g2 : S2 5 2 = (n2 : Int) := by rw [b5]; unfold un5; simp [up]
  have g3 : S2 5 3 = (n3 : Int) := by rw [b5]; unfold un5; simp [up]
  have g4 : S2 5 4 = (n4 : Int) := by rw [b5]; unfold un5; simp [up]
  have g5 : S2 5 5 = (n0 : Int) := by rw [b5]; unfold un5; simp [up]
  refine ⟨l1, l2, l3, l4, l0, g1, g2, g3, g4, g5, d12, d13, d14, Ne.symm d01, d23, d24, Ne.symm d02, d34, Ne.symm d03, Ne.symm d04, by rw [g0]; exact ud_0 hst c, by rw [b6, g0, up_eq], by rw [b7, bx n1 l1], by rw [bx n1 l1]; exact (p1 c).1, fun h => ?_, fun h => ?_, fun h => ?_, fun h => ?_⟩
  · rw [g0] at h ⊢
    rw [bx n2 l2, b8]
    have hp := p2 (ud_1 h)
    refine ⟨hp.1, fun q h0 h1 => ?_⟩
    rw [Int.sub_sub, show (1 : Int) + 1 = 2 from rfl]
    exact hp.2 q h0 h1
  · rw [g0] at h ⊢
    rw [bx n3 l3, b8]
    have hp := p3 (ud_1 h)
    refine ⟨hp.1, fun q h0 h1 => ?_⟩
    rw [Int.sub_sub, show (1 : Int) + 2 = 3 from rfl]
    exact hp.2 q h0 h1
  · rw [g0] at h ⊢
    rw [bx n4 l4, b8]
    have hp := p4 (ud_1 h)
    refine ⟨hp.1, fun q h0 h1 => ?_⟩
    rw [Int.sub_sub, show (1 : Int) + 3 = 4 from rfl]
    exact hp.2 q h0 h1
  · rw [g0] at h
    exact absurd h (ud_2 hst)
