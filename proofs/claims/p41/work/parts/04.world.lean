/-! THE WORLD: 117 cells, by keys (r, j): r 0..4 a register's 22 cells, 5 the system's own object and its Split, 6 the law's two rows (27 counts, places 100.., 28 sellers, places 200..). What a cell (r, j) holds is read off S r alone. -/
def ks : List (Nat × Nat) := ((List.range 5).flatMap fun r => (List.range 22).map fun j => (r, j)) ++ [(5, 22), (5, 23), (5, 24), (5, 25), (5, 26), (6, 27), (6, 28)]
theorem ks_nd : va_nd (ks.map fun q => 100 * q.1 + q.2) = true := by decide +kernel
theorem ks_one {i j : Nat} {q : Nat × Nat} (hi : ks[i]? = some q) (hj : ks[j]? = some q) : i = j :=
  va_nd_inj _ ks_nd i j (100 * q.1 + q.2) (by rw [List.getElem?_map, hi]; rfl) (by rw [List.getElem?_map, hj]; rfl)
theorem ks_m {r j : Nat} (hr : r < 5) (hj : j < 22) : (r, j) ∈ ks :=
  List.mem_append_left _ (List.mem_flatMap.mpr ⟨r, List.mem_range.mpr hr, List.mem_map.mpr ⟨j, List.mem_range.mpr hj, rfl⟩⟩)
def wl (ad : Nat → Nat → Nat) (E : Nat → Nat → va_E) : va_W := ks.map fun q => (ad q.1 q.2, E q.1 q.2)
def zup (E : Nat → Nat → va_E) (r j : Nat) (e : va_E) : Nat → Nat → va_E := fun r' j' => if r' = r ∧ j' = j then e else E r' j'
theorem wl_get {ad : Nat → Nat → Nat} {r j : Nat} (h : (r, j) ∈ ks) : ∃ p : Nat, ks[p]? = some (r, j) ∧ ∀ E : Nat → Nat → va_E, (wl ad E)[p]? = some (ad r j, E r j) := by
  obtain ⟨p, hp⟩ := List.getElem?_of_mem h
  exact ⟨p, hp, fun E => by unfold wl; rw [List.getElem?_map, hp]; rfl⟩
theorem wl_set {ad : Nat → Nat → Nat} {r j p : Nat} (hp : ks[p]? = some (r, j)) (E : Nat → Nat → va_E) (e : va_E) : (wl ad E).set p (ad r j, e) = wl ad (zup E r j e) := by
  apply List.ext_getElem?
  intro k
  unfold wl
  have hlt : p < (ks.map fun q => (ad q.1 q.2, E q.1 q.2)).length := by rw [List.length_map]; exact (List.getElem?_eq_some_iff.mp hp).1
  by_cases hk : k = p
  · subst hk
    rw [List.getElem?_set_self hlt, List.getElem?_map, hp]
    simp [zup]
  · rw [List.getElem?_set_ne (Ne.symm hk), List.getElem?_map, List.getElem?_map]
    cases hq : ks[k]? with
    | none => rfl
    | some q =>
      have hne : ¬ (q.1 = r ∧ q.2 = j) := by
        rintro ⟨h1, h2⟩
        exact hk (ks_one (q := (r, j)) (by rw [hq, ← h1, ← h2]) hp)
      simp [zup, hne]
theorem wl_congr {ad : Nat → Nat → Nat} {E E' : Nat → Nat → va_E} (h : ∀ q ∈ ks, E q.1 q.2 = E' q.1 q.2) : wl ad E = wl ad E' := by
  unfold wl
  exact List.map_congr_left fun q hq => by rw [h q hq]
theorem wl_D {A : Nat → Prop} {ad : Nat → Nat → Nat} {E E' : Nat → Nat → va_E} (h : va_D A (wl ad E)) : va_D A (wl ad E') := by
  have key : ∀ (k : Nat) (q : Nat × va_E), (wl ad E')[k]? = some q → ∃ q0, (wl ad E)[k]? = some q0 ∧ q0.1 = q.1 := by
    intro k q hk
    unfold wl at hk ⊢
    rw [List.getElem?_map] at hk ⊢
    cases hq : ks[k]? with
    | none => rw [hq] at hk; cases hk
    | some x => rw [hq] at hk; cases hk; exact ⟨_, rfl, rfl⟩
  refine ⟨fun i j x y hi hj hxy => ?_, fun k q hk => ?_⟩
  · obtain ⟨x0, h1, h2⟩ := key i x hi
    obtain ⟨y0, h3, h4⟩ := key j y hj
    exact h.1 i j x0 y0 h1 h3 (h2.trans (hxy.trans h4.symm))
  · obtain ⟨q0, h1, h2⟩ := key k q hk
    rw [← h2]
    exact h.2 k q0 h1
def zA (ad : Nat → Nat → Nat) : Nat → Prop := fun a => ∃ q ∈ ks, a = ad q.1 q.2
/-- rows of numbers: the first n places, out of the memory -/
def cz (n : Nat) (s : Int → Int) (off : Int → Int) : Nat → Int32 := fun k => if k < n then i32 (s (off k)) else 0
def cy (n : Nat) (s : Int → Int) (off : Int → Int) : Nat → Int64 := fun k => if k < n then i64 (s (off k)) else 0
theorem cz_at {n : Nat} {s off : Int → Int} {k : Nat} (h : k < n) : cz n s off k = i32 (s (off k)) := if_pos h
theorem cy_at {n : Nat} {s off : Int → Int} {k : Nat} (h : k < n) : cy n s off k = i64 (s (off k)) := if_pos h
theorem cz_cg {n : Nat} {s t off : Int → Int} (h : ∀ k : Nat, k < n → s (off k) = t (off k)) : cz n s off = cz n t off := by
  funext k; unfold cz; split
  · rename_i hk; rw [h k hk]
  · rfl
theorem cy_cg {n : Nat} {s t off : Int → Int} (h : ∀ k : Nat, k < n → s (off k) = t (off k)) : cy n s off = cy n t off := by
  funext k; unfold cy; split
  · rename_i hk; rw [h k hk]
  · rfl
theorem cz_up {n : Nat} {s off : Int → Int} {k : Nat} {v : Int} (hk : k < n) (h : ∀ i : Nat, i < n → off i = off k → i = k) : upd (cz n s off) k (i32 v) = cz n (up s (off k) v) off := by
  funext i
  by_cases hi : i = k
  · subst hi; rw [cz_at hk, up_eq]; exact pk_us
  · rw [pk_un hi]
    by_cases hn : i < n
    · rw [cz_at hn, cz_at hn, up_ne (fun e => hi (h i hn e))]
    · unfold cz; rw [if_neg hn, if_neg hn]
theorem cy_up {n : Nat} {s off : Int → Int} {k : Nat} {v : Int} (hk : k < n) (h : ∀ i : Nat, i < n → off i = off k → i = k) : vp_updL (cy n s off) k (i64 v) = cy n (up s (off k) v) off := by
  funext i
  by_cases hi : i = k
  · subst hi; rw [cy_at hk, up_eq]; exact pk_uLs
  · rw [pk_uLn hi]
    by_cases hn : i < n
    · rw [cy_at hn, cy_at hn, up_ne (fun e => hi (h i hn e))]
    · unfold cy; rw [if_neg hn, if_neg hn]
def of1 (a : Int) : Int → Int := fun k => a + k
def of3 (a : Int) : Int → Int := fun k => a + 3 * k
def of22 (a : Int) : Int → Int := fun k => a + 22 * k
def of15 (a : Int) : Int → Int := fun k => a + 15 * k
def ofS : Int → Int := fun k => 61 + 22 * (k / 4) + k % 4
def ofC : Int → Int := fun k => 65 + 22 * (k / 12) + k % 12
def ofB : Int → Int := fun k => 498 + 15 * (k / 12) + k % 12
/-- what a cell holds -/
def cf (cI cJ : ClassId) (ad : Nat → Nat → Nat) (S : zM) (r : Nat) : Nat → va_E
  | 0 => .inr (4, [.ref (ad r 1), .ref (ad r 5), .ref (ad r 6), .ref (ad r 8), .ref (ad r 17), .int (i32 (S r 2)), .int (i32 (S r 670))])
  | 1 => .inr (1, [.int (i32 (S r 0)), .ref (ad r 2), .ref (ad r 3), .ref (ad r 4)])
  | 2 => .inl (cI, 12, .inl (cz 12 (S r) (of3 19)))
  | 3 => .inl (cI, 12, .inl (cz 12 (S r) (of3 20)))
  | 4 => .inl (cJ, 12, .inr (.inl (cy 12 (S r) (of3 21))))
  | 5 => .inr (5, [.int (i32 (S r 1)), .int (i32 (S r 3)), .int (i32 (S r 5)), .int (i32 (S r 4)), .int (i32 (S r 13)), .int (i32 (S r 16)), .int (i32 (S r 17))])
  | 6 => .inr (0, [.int (i32 (S r 7)), .int (i32 (S r 8)), .int (i32 (S r 6)), .int (i32 (S r 9)), .ref (ad r 7)])
  | 7 => .inl (cI, 3, .inl (cz 3 (S r) (of1 10)))
  | 8 => .inr (3, [.int (i32 (S r 14)), .ref (ad r 9), .ref (ad r 10), .ref (ad r 11), .ref (ad r 12), .ref (ad r 13), .ref (ad r 14), .ref (ad r 15), .ref (ad r 16)])
  | 9 => .inl (cI, 20, .inl (cz 20 (S r) (of22 55)))
  | 10 => .inl (cI, 20, .inl (cz 20 (S r) (of22 56)))
  | 11 => .inl (cI, 20, .inl (cz 20 (S r) (of22 58)))
  | 12 => .inl (cI, 20, .inl (cz 20 (S r) (of22 57)))
  | 13 => .inl (cI, 20, .inl (cz 20 (S r) (of22 59)))
  | 14 => .inl (cI, 20, .inl (cz 20 (S r) (of1 645)))
  | 15 => .inl (cI, 80, .inl (cz 80 (S r) ofS))
  | 16 => .inl (cI, 240, .inl (cz 240 (S r) ofC))
  | 17 => .inr (2, [.int (i32 (S r 15)), .ref (ad r 18), .ref (ad r 19), .ref (ad r 20), .ref (ad r 21)])
  | 18 => .inl (cI, 10, .inl (cz 10 (S r) (of15 495)))
  | 19 => .inl (cI, 10, .inl (cz 10 (S r) (of15 496)))
  | 20 => .inl (cI, 10, .inl (cz 10 (S r) (of15 497)))
  | 21 => .inl (cI, 120, .inl (cz 120 (S r) ofB))
  | 22 => .inr (7, [.ref (ad (S r 1).toNat 0), .ref (ad (S r 2).toNat 0), .ref (ad (S r 3).toNat 0), .ref (ad (S r 4).toNat 0), .ref (ad (S r 5).toNat 0), .int (i32 (S r 0)), .ref (ad r 23)])
  | 23 => .inr (6, [.ref (ad r 24), .ref (ad r 25), .ref (ad r 26)])
  | 24 => .inl (cI, 12, .inl (cz 12 (S r) (of1 100)))
  | 25 => .inl (cI, 12, .inl (cz 12 (S r) (of1 200)))
  | 26 => .inl (cI, 12, .inl (cz 12 (S r) (of1 300)))
  | 27 => .inl (cI, 20, .inl (cz 20 (S r) (of1 100)))
  | 28 => .inl (cI, 20, .inl (cz 20 (S r) (of1 200)))
  | _ => .inr (0, [])
/-- which cell of a register a place of its memory is held by (99: by none) -/
def kyA (q : Int) : Nat :=
  if q < 19 then
    (if q < 0 then 99 else if q = 0 then 1 else if q = 1 then 5 else if q = 2 then 0 else if q < 6 then 5 else if q < 10 then 6 else if q < 13 then 7 else if q = 13 then 5 else if q = 14 then 8 else if q = 15 then 17 else if q < 18 then 5 else 99)
  else if q < 55 then (if (q - 19) % 3 = 0 then 2 else if (q - 19) % 3 = 1 then 3 else 4)
  else if q < 495 then
    (if (q - 55) % 22 < 4 then (if (q - 55) % 22 = 0 then 9 else if (q - 55) % 22 = 1 then 10 else if (q - 55) % 22 = 2 then 12 else 11)
     else if (q - 55) % 22 = 4 then 13 else if (q - 55) % 22 = 5 then 99 else if (q - 55) % 22 < 10 then 15 else 16)
  else if q < 645 then (if (q - 495) % 15 = 0 then 18 else if (q - 495) % 15 = 1 then 19 else if (q - 495) % 15 = 2 then 20 else 21)
  else if q < 665 then 14 else if q = 670 then 0 else 99
/-- the same of the blocks 5 and 6 -/
def kyB (q : Int) : Nat := if q < 0 then 99 else if q < 6 then 22 else if q < 100 then 99 else if q < 112 then 24 else if q < 200 then 99 else if q < 212 then 25 else if q < 300 then 99 else if q < 312 then 26 else 99
def kyC (q : Int) : Nat := if q < 100 then 99 else if q < 120 then 27 else if q < 200 then 99 else if q < 220 then 28 else 99
def kz (j : Nat) (q : Int) : Prop := if j < 22 then kyA q = j else if j < 27 then kyB q = j else kyC q = j
theorem kz_A {j : Nat} {q : Int} (h : j < 22) : kz j q ↔ kyA q = j := by unfold kz; rw [if_pos h]
theorem kz_B {j : Nat} {q : Int} (h : 22 ≤ j) (h2 : j < 27) : kz j q ↔ kyB q = j := by unfold kz; rw [if_neg (by omega), if_pos h2]
theorem kz_C {j : Nat} {q : Int} (h : 27 ≤ j) : kz j q ↔ kyC q = j := by unfold kz; rw [if_neg (by omega), if_neg (by omega)]
/-- two cells of one block share no place -/
theorem kz_one {r i j : Nat} {q : Int} (hi : (r, i) ∈ ks) (hj : (r, j) ∈ ks) (h1 : kz i q) (h2 : kz j q) : i = j := by
  have key : ∀ x ∈ ks, (x.1 < 5 ∧ x.2 < 22) ∨ (x.1 = 5 ∧ 22 ≤ x.2 ∧ x.2 < 27) ∨ (x.1 = 6 ∧ 27 ≤ x.2) := by decide +kernel
  rcases key _ hi with ⟨a1, a2⟩ | ⟨a1, a2, a3⟩ | ⟨a1, a2⟩ <;> rcases key _ hj with ⟨b1, b2⟩ | ⟨b1, b2, b3⟩ | ⟨b1, b2⟩ <;> simp only at a1 a2 b1 b2 <;> first | omega | skip
  · exact ((kz_A a2).mp h1).symm.trans ((kz_A b2).mp h2)
  · exact ((kz_B a2 a3).mp h1).symm.trans ((kz_B b2 b3).mp h2)
  · exact ((kz_C a2).mp h1).symm.trans ((kz_C b2).mp h2)
theorem kyA_0 {q : Int} (h : 10 ≤ q) (h2 : q < 13) : kyA q = 7 := by
  unfold kyA; rw [if_pos (by omega), if_neg (by omega), if_neg (by omega), if_neg (by omega), if_neg (by omega), if_neg (by omega), if_neg (by omega), if_pos h2]
theorem kyA_1 {q : Int} (h : 19 ≤ q) (h2 : q < 55) : kyA q = if (q - 19) % 3 = 0 then 2 else if (q - 19) % 3 = 1 then 3 else 4 := by
  unfold kyA; rw [if_neg (by omega), if_pos h2]
theorem kyA_2 {q : Int} (h : 55 ≤ q) (h2 : q < 495) : kyA q = if (q - 55) % 22 < 4 then (if (q - 55) % 22 = 0 then 9 else if (q - 55) % 22 = 1 then 10 else if (q - 55) % 22 = 2 then 12 else 11) else if (q - 55) % 22 = 4 then 13 else if (q - 55) % 22 = 5 then 99 else if (q - 55) % 22 < 10 then 15 else 16 := by
  unfold kyA; rw [if_neg (by omega), if_neg (by omega), if_pos h2]
theorem kyA_3 {q : Int} (h : 495 ≤ q) (h2 : q < 645) : kyA q = if (q - 495) % 15 = 0 then 18 else if (q - 495) % 15 = 1 then 19 else if (q - 495) % 15 = 2 then 20 else 21 := by
  unfold kyA; rw [if_neg (by omega), if_neg (by omega), if_neg (by omega), if_pos h2]
theorem kyA_4 {q : Int} (h : 645 ≤ q) (h2 : q < 665) : kyA q = 14 := by
  unfold kyA; rw [if_neg (by omega), if_neg (by omega), if_neg (by omega), if_neg (by omega), if_pos h2]
theorem kyA_5 {q : Int} (h : 665 ≤ q) (h2 : q ≠ 670) : kyA q = 99 := by
  unfold kyA; rw [if_neg (by omega), if_neg (by omega), if_neg (by omega), if_neg (by omega), if_neg (by omega), if_neg h2]
theorem ko_2 {k : Int} (h0 : 0 ≤ k) (h1 : k < 12) : kz 2 ((of3 19) k) := (kz_A (by decide)).mpr (by unfold of3; rw [kyA_1 (by omega) (by omega), if_pos (by omega)])
theorem ko_3 {k : Int} (h0 : 0 ≤ k) (h1 : k < 12) : kz 3 ((of3 20) k) := (kz_A (by decide)).mpr (by unfold of3; rw [kyA_1 (by omega) (by omega), if_neg (by omega), if_pos (by omega)])
theorem ko_4 {k : Int} (h0 : 0 ≤ k) (h1 : k < 12) : kz 4 ((of3 21) k) := (kz_A (by decide)).mpr (by unfold of3; rw [kyA_1 (by omega) (by omega), if_neg (by omega), if_neg (by omega)])
theorem ko_7 {k : Int} (h0 : 0 ≤ k) (h1 : k < 3) : kz 7 ((of1 10) k) := (kz_A (by decide)).mpr (kyA_0 (by unfold of1; omega) (by unfold of1; omega))
theorem ko_9 {k : Int} (h0 : 0 ≤ k) (h1 : k < 20) : kz 9 ((of22 55) k) := (kz_A (by decide)).mpr (by unfold of22; rw [kyA_2 (by omega) (by omega), if_pos (by omega), if_pos (by omega)])
theorem ko_10 {k : Int} (h0 : 0 ≤ k) (h1 : k < 20) : kz 10 ((of22 56) k) := (kz_A (by decide)).mpr (by unfold of22; rw [kyA_2 (by omega) (by omega), if_pos (by omega), if_neg (by omega), if_pos (by omega)])
theorem ko_11 {k : Int} (h0 : 0 ≤ k) (h1 : k < 20) : kz 11 ((of22 58) k) := (kz_A (by decide)).mpr (by unfold of22; rw [kyA_2 (by omega) (by omega), if_pos (by omega), if_neg (by omega), if_neg (by omega), if_neg (by omega)])
theorem ko_12 {k : Int} (h0 : 0 ≤ k) (h1 : k < 20) : kz 12 ((of22 57) k) := (kz_A (by decide)).mpr (by unfold of22; rw [kyA_2 (by omega) (by omega), if_pos (by omega), if_neg (by omega), if_neg (by omega), if_pos (by omega)])
theorem ko_13 {k : Int} (h0 : 0 ≤ k) (h1 : k < 20) : kz 13 ((of22 59) k) := (kz_A (by decide)).mpr (by unfold of22; rw [kyA_2 (by omega) (by omega), if_neg (by omega), if_pos (by omega)])
theorem ko_14 {k : Int} (h0 : 0 ≤ k) (h1 : k < 20) : kz 14 ((of1 645) k) := (kz_A (by decide)).mpr (kyA_4 (by unfold of1; omega) (by unfold of1; omega))
theorem ko_15 {k : Int} (h0 : 0 ≤ k) (h1 : k < 80) : kz 15 (ofS k) := (kz_A (by decide)).mpr (by unfold ofS; rw [kyA_2 (by omega) (by omega), if_neg (by omega), if_neg (by omega), if_neg (by omega), if_pos (by omega)])
theorem ko_16 {k : Int} (h0 : 0 ≤ k) (h1 : k < 240) : kz 16 (ofC k) := (kz_A (by decide)).mpr (by unfold ofC; rw [kyA_2 (by omega) (by omega), if_neg (by omega), if_neg (by omega), if_neg (by omega), if_neg (by omega)])
theorem ko_18 {k : Int} (h0 : 0 ≤ k) (h1 : k < 10) : kz 18 ((of15 495) k) := (kz_A (by decide)).mpr (by unfold of15; rw [kyA_3 (by omega) (by omega), if_pos (by omega)])
theorem ko_19 {k : Int} (h0 : 0 ≤ k) (h1 : k < 10) : kz 19 ((of15 496) k) := (kz_A (by decide)).mpr (by unfold of15; rw [kyA_3 (by omega) (by omega), if_neg (by omega), if_pos (by omega)])
theorem ko_20 {k : Int} (h0 : 0 ≤ k) (h1 : k < 10) : kz 20 ((of15 497) k) := (kz_A (by decide)).mpr (by unfold of15; rw [kyA_3 (by omega) (by omega), if_neg (by omega), if_neg (by omega), if_pos (by omega)])
theorem ko_21 {k : Int} (h0 : 0 ≤ k) (h1 : k < 120) : kz 21 (ofB k) := (kz_A (by decide)).mpr (by unfold ofB; rw [kyA_3 (by omega) (by omega), if_neg (by omega), if_neg (by omega), if_neg (by omega)])
theorem ko_24 {k : Int} (h0 : 0 ≤ k) (h1 : k < 12) : kz 24 ((of1 100) k) := (kz_B (by decide) (by decide)).mpr (by unfold of1 kyB; (repeat' split) <;> omega)
theorem ko_25 {k : Int} (h0 : 0 ≤ k) (h1 : k < 12) : kz 25 ((of1 200) k) := (kz_B (by decide) (by decide)).mpr (by unfold of1 kyB; (repeat' split) <;> omega)
theorem ko_26 {k : Int} (h0 : 0 ≤ k) (h1 : k < 12) : kz 26 ((of1 300) k) := (kz_B (by decide) (by decide)).mpr (by unfold of1 kyB; (repeat' split) <;> omega)
theorem ko_27 {k : Int} (h0 : 0 ≤ k) (h1 : k < 20) : kz 27 ((of1 100) k) := (kz_C (by decide)).mpr (by unfold of1 kyC; (repeat' split) <;> omega)
theorem ko_28 {k : Int} (h0 : 0 ≤ k) (h1 : k < 20) : kz 28 ((of1 200) k) := (kz_C (by decide)).mpr (by unfold of1 kyC; (repeat' split) <;> omega)
set_option maxHeartbeats 4000000 in
/-- a cell is read off its own places alone -/
theorem cf_cg {cI cJ : ClassId} {ad : Nat → Nat → Nat} {S T : zM} {r j : Nat} (h : ∀ q, kz j q → S r q = T r q) : cf cI cJ ad S r j = cf cI cJ ad T r j := by
  have hA : ∀ q, j < 22 → kyA q = j → S r q = T r q := fun q h1 h2 => h q ((kz_A h1).mpr h2)
  have hB : ∀ q, 22 ≤ j → j < 27 → kyB q = j → S r q = T r q := fun q h1 h2 h3 => h q ((kz_B h1 h2).mpr h3)
  have hC : ∀ q, 27 ≤ j → kyC q = j → S r q = T r q := fun q h1 h4 => h q ((kz_C h1).mpr h4)
  match j with
  | 0 => simp only [cf]; rw [hA 2 (by decide) (by decide), hA 670 (by decide) (by decide)]
  | 1 => simp only [cf]; rw [hA 0 (by decide) (by decide)]
  | 2 => simp only [cf]; rw [cz_cg fun k hk => h _ (ko_2 (by omega) (by omega))]
  | 3 => simp only [cf]; rw [cz_cg fun k hk => h _ (ko_3 (by omega) (by omega))]
  | 4 => simp only [cf]; rw [cy_cg fun k hk => h _ (ko_4 (by omega) (by omega))]
  | 5 => simp only [cf]; rw [hA 1 (by decide) (by decide), hA 3 (by decide) (by decide), hA 5 (by decide) (by decide), hA 4 (by decide) (by decide), hA 13 (by decide) (by decide), hA 16 (by decide) (by decide), hA 17 (by decide) (by decide)]
  | 6 => simp only [cf]; rw [hA 7 (by decide) (by decide), hA 8 (by decide) (by decide), hA 6 (by decide) (by decide), hA 9 (by decide) (by decide)]
  | 7 => simp only [cf]; rw [cz_cg fun k hk => h _ (ko_7 (by omega) (by omega))]
  | 8 => simp only [cf]; rw [hA 14 (by decide) (by decide)]
  | 9 => simp only [cf]; rw [cz_cg fun k hk => h _ (ko_9 (by omega) (by omega))]
  | 10 => simp only [cf]; rw [cz_cg fun k hk => h _ (ko_10 (by omega) (by omega))]
  | 11 => simp only [cf]; rw [cz_cg fun k hk => h _ (ko_11 (by omega) (by omega))]
  | 12 => simp only [cf]; rw [cz_cg fun k hk => h _ (ko_12 (by omega) (by omega))]
  | 13 => simp only [cf]; rw [cz_cg fun k hk => h _ (ko_13 (by omega) (by omega))]
  | 14 => simp only [cf]; rw [cz_cg fun k hk => h _ (ko_14 (by omega) (by omega))]
  | 15 => simp only [cf]; rw [cz_cg fun k hk => h _ (ko_15 (by omega) (by omega))]
  | 16 => simp only [cf]; rw [cz_cg fun k hk => h _ (ko_16 (by omega) (by omega))]
  | 17 => simp only [cf]; rw [hA 15 (by decide) (by decide)]
  | 18 => simp only [cf]; rw [cz_cg fun k hk => h _ (ko_18 (by omega) (by omega))]
  | 19 => simp only [cf]; rw [cz_cg fun k hk => h _ (ko_19 (by omega) (by omega))]
  | 20 => simp only [cf]; rw [cz_cg fun k hk => h _ (ko_20 (by omega) (by omega))]
  | 21 => simp only [cf]; rw [cz_cg fun k hk => h _ (ko_21 (by omega) (by omega))]
  | 22 => simp only [cf]; rw [hB 0 (by decide) (by decide) (by decide), hB 1 (by decide) (by decide) (by decide), hB 2 (by decide) (by decide) (by decide), hB 3 (by decide) (by decide) (by decide), hB 4 (by decide) (by decide) (by decide), hB 5 (by decide) (by decide) (by decide)]
  | 23 => rfl
  | 24 => simp only [cf]; rw [cz_cg fun k hk => h _ (ko_24 (by omega) (by omega))]
  | 25 => simp only [cf]; rw [cz_cg fun k hk => h _ (ko_25 (by omega) (by omega))]
  | 26 => simp only [cf]; rw [cz_cg fun k hk => h _ (ko_26 (by omega) (by omega))]
  | 27 => simp only [cf]; rw [cz_cg fun k hk => h _ (ko_27 (by omega) (by omega))]
  | 28 => simp only [cf]; rw [cz_cg fun k hk => h _ (ko_28 (by omega) (by omega))]
  | _ + 29 => rfl
/-- a cell is written: the memory at one place -/
theorem cf_put {cI cJ : ClassId} {ad : Nat → Nat → Nat} {S : zM} {r j : Nat} {e : va_E} (q : Int) (v : Int) (hk : (r, j) ∈ ks) (hq : kz j q) (he : e = cf cI cJ ad (us S r (up (S r) q v)) r j) : wl ad (zup (cf cI cJ ad S) r j e) = wl ad (cf cI cJ ad (us S r (up (S r) q v))) := by
  refine wl_congr fun x hx => ?_
  unfold zup
  split
  · rename_i h; rw [h.1, h.2]; exact he
  · rename_i h
    refine cf_cg fun z hz => ?_
    unfold us
    split
    · rename_i hr
      rw [hr, up_ne]
      intro e2
      exact h ⟨hr, kz_one (r := r) (by rw [← hr]; exact hx) hk (e2 ▸ hz) hq⟩
    · rfl
theorem kyA_i0 {q : Int} (h : kyA q = 0) : q = 2 ∨ q = 670 := by unfold kyA at h; (repeat' split at h) <;> omega
theorem kyA_i1 {q : Int} (h : kyA q = 1) : q = 0 := by unfold kyA at h; (repeat' split at h) <;> omega
theorem kyA_i5 {q : Int} (h : kyA q = 5) : q = 1 ∨ q = 3 ∨ q = 4 ∨ q = 5 ∨ q = 13 ∨ q = 16 ∨ q = 17 := by unfold kyA at h; (repeat' split at h) <;> omega
theorem kyA_i6 {q : Int} (h : kyA q = 6) : q = 6 ∨ q = 7 ∨ q = 8 ∨ q = 9 := by unfold kyA at h; (repeat' split at h) <;> omega
theorem kyA_i8 {q : Int} (h : kyA q = 8) : q = 14 := by unfold kyA at h; (repeat' split at h) <;> omega
theorem kyA_i17 {q : Int} (h : kyA q = 17) : q = 15 := by unfold kyA at h; (repeat' split at h) <;> omega
theorem kyA_le (q : Int) : kyA q ≤ 21 ∨ kyA q = 99 := by unfold kyA; (repeat' split) <;> omega
