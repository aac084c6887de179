/-! ROWS OF THE MEMORY -/
theorem cf_all {cI cJ : ClassId} {ad : Nat → Nat → Nat} {S : zM} {r j : Nat} {e : va_E} (g : Int → Int) (hk : (r, j) ∈ ks) (hg : ∀ q, ¬ kz j q → g q = S r q) (he : e = cf cI cJ ad (us S r g) r j) : wl ad (zup (cf cI cJ ad S) r j e) = wl ad (cf cI cJ ad (us S r g)) := by
  refine wl_congr fun x hx => ?_
  unfold zup
  split
  · rename_i h; rw [h.1, h.2]; exact he
  · rename_i h
    refine cf_cg fun z hz => ?_
    unfold us
    split
    · rename_i hr
      rw [hr, hg]
      intro e2
      exact h ⟨hr, kz_one (r := r) (by rw [← hr]; exact hx) hk hz e2⟩
    · rfl
section ZM
variable {E : zE} {l0 : Launch} {D0 : va_G} {cI0 cJ0 : ClassId} {ad : Nat → Nat → Nat} {cc : ByteArray} {nL0 fr lo : Nat} {own : String} {S : zM} {pc : Nat} {L : List (Nat × Value)} {st : List Value}
theorem z_get (hE : zG E l0 D0 cI0 cJ0 ad cc nL0 own fr lo) {r j ci index N : Nat} {C : String} {T : u_T} {fs : List Value} {v : Value} (hk : (r, j) ∈ ks) (hc : cf cI0 cJ0 ad S r j = .inr (ci, fs)) (hcl : vwCl[ci]? = some (C, T, N)) (hin : ∀ w ∈ u_ws C T N, w ∈ wsL_law) (k : Nat) (hkN : k < N) (hw : Cond.fieldLink own index (T k).1 (T k).2.1 (T k).2.2.1 ∈ wsL_law) (hv : fs[k]? = some v) (d : decode cc pc = .ok (.getfield index, 3)) (kk : Z E S (pc + 3) L (v :: st)) : Z E S pc L (.ref (ad r j) :: st) := by
  obtain ⟨p, l, e, R, s, m, args, below, meth, c, Q, A, D, cI, cJ, ad1, nL, cells, slots⟩ := E
  obtain ⟨⟨rfl, rfl, rfl, rfl, rfl, rfl⟩, hx, hb, hml, hown, hts, ⟨hf1, hf2, hf3, hf4⟩, hK, hD, hA, hN⟩ := hE
  intro H locs ls hS hP hl
  obtain ⟨q0, -, h2⟩ := wl_get (ad := ad1) hk
  exact va_get hx hb hts hin hown hK hP q0 ((h2 _).trans (by rw [hc])) hcl k hkN (hts _ hw) (fun _ h => h) hv d (kk H locs ls hS hP hl)
theorem z_put (hE : zG E l0 D0 cI0 cJ0 ad cc nL0 own fr lo) {r j ci index N : Nat} {C : String} {T : u_T} {fs : List Value} {v : Value} {ty : FieldType} {ty0 : Nat → FieldType} (q x : Int) (hk : (r, j) ∈ ks) (hq : kz j q) (hc : cf cI0 cJ0 ad S r j = .inr (ci, fs)) (hcl : vwCl[ci]? = some (C, T, N)) (hin : ∀ w ∈ u_ws C T N, w ∈ wsL_law) (hty : ∀ k, k < N → parseFieldDescriptor (T k).2.2.1 = some (ty0 k)) (hnm : ∀ a, a < N → ∀ b, b < N → a ≠ b → (T a).2.1 ≠ (T b).2.1) (k : Nat) (hkN : k < N) (hw : Cond.fieldLink own index (T k).1 (T k).2.1 (T k).2.2.1 ∈ wsL_law) (hfin : (T k).2.2.2 = false) (hd : parseFieldDescriptor (T k).2.2.1 = some ty) (hn : narrow ty v = v) (hfit : fits ty v = true) (hlen : k < fs.length) (he : .inr (ci, fs.set k v) = cf cI0 cJ0 ad (us S r (up (S r) q x)) r j) (d : decode cc pc = .ok (.putfield index, 3)) (kk : Z E (us S r (up (S r) q x)) (pc + 3) L st) : Z E S pc L (v :: .ref (ad r j) :: st) := by
  obtain ⟨p, l, e, R, s, m, args, below, meth, c, Q, A, D, cI, cJ, ad1, nL, cells, slots⟩ := E
  obtain ⟨⟨rfl, rfl, rfl, rfl, rfl, rfl⟩, hx, hb, hml, hown, hts, ⟨hf1, hf2, hf3, hf4⟩, hK, hD, hA, hN⟩ := hE
  intro H locs ls hS hP hl
  obtain ⟨q0, h1, h2⟩ := wl_get (ad := ad1) hk
  refine va_put hx hb hts hin ty0 hty hnm hown hK hP (wl_D hD) hS q0 ((h2 _).trans (by rw [hc])) hcl k hkN (hts _ hw) (fun _ h => h) hfin hd hn hfit hlen d (fun H1 locs1 hP1 hD1 hS1 => ?_)
  rw [wl_set h1, cf_put q x hk hq he] at hP1
  exact kk H1 locs1 ls hS1 hP1 hl
theorem z_iald (hE : zG E l0 D0 cI0 cJ0 ad cc nL0 own fr lo) {r j n : Nat} {off : Int → Int} {a x : Int} (hk : (r, j) ∈ ks) (hc : cf cI0 cJ0 ad S r j = .inl (cI0, n, .inl (cz n (S r) off))) (h0 : 0 ≤ a) (h1 : a < n) (hn : n < 100000) (hx0 : S r (off a) = x) (d : decode cc pc = .ok (.iaload, 1)) (kk : Z E S (pc + 1) L (.int (i32 x) :: st)) : Z E S pc L (.int (i32 a) :: .ref (ad r j) :: st) := by
  obtain ⟨p, l, e, R, s, m, args, below, meth, c, Q, A, D, cI, cJ, ad1, nL, cells, slots⟩ := E
  obtain ⟨⟨rfl, rfl, rfl, rfl, rfl, rfl⟩, hx, hb, hml, hown, hts, ⟨hf1, hf2, hf3, hf4⟩, hK, hD, hA, hN⟩ := hE
  intro H locs ls hS hP hl
  have hba : b32 a := ⟨by omega, by omega⟩
  obtain ⟨q0, -, h2⟩ := wl_get (ad := ad1) hk
  refine va_iald hx hb hK hP q0 0 ((h2 _).trans (by rw [hc])) rfl (i32_in h0 h1 hba) d ?_
  rw [i32_nat h0 hba, cz_at (by omega), Int.toNat_of_nonneg h0, hx0]
  exact kk H locs ls hS hP hl
theorem z_iast (hE : zG E l0 D0 cI0 cJ0 ad cc nL0 own fr lo) {r j n : Nat} {off : Int → Int} {a x : Int} (q : Int) (hk : (r, j) ∈ ks) (hc : ∀ S : zM, cf cI0 cJ0 ad S r j = .inl (cI0, n, .inl (cz n (S r) off))) (h0 : 0 ≤ a) (h1 : a < n) (hn : n < 100000) (hq : off a = q) (hkz : kz j (off a)) (hoff : ∀ i : Int, off i = off a → i = a) (d : decode cc pc = .ok (.iastore, 1)) (kk : Z E (us S r (up (S r) q x)) (pc + 1) L st) : Z E S pc L (.int (i32 x) :: .int (i32 a) :: .ref (ad r j) :: st) := by
  obtain ⟨p, l, e, R, s, m, args, below, meth, c, Q, A, D, cI, cJ, ad1, nL, cells, slots⟩ := E
  obtain ⟨⟨rfl, rfl, rfl, rfl, rfl, rfl⟩, hx, hb, hml, hown, hts, ⟨hf1, hf2, hf3, hf4⟩, hK, hD, hA, hN⟩ := hE
  intro H locs ls hS hP hl
  have hba : b32 a := ⟨by omega, by omega⟩
  obtain ⟨q0, hp, h2⟩ := wl_get (ad := ad1) hk
  refine va_iast hx hb hK hP (wl_D hD) hS q0 0 ((h2 _).trans (by rw [hc S])) rfl (i32_in h0 h1 hba) d (fun H1 locs1 hP1 hD1 hS1 => ?_)
  rw [wl_set hp, i32_nat h0 hba, cf_put q x hk (hq ▸ hkz) ?_] at hP1
  · exact kk H1 locs1 ls hS1 hP1 hl
  · rw [hc, us_eq, cz_up (by omega) (fun i hi e => by have := hoff i (by rw [e, Int.toNat_of_nonneg h0]); omega), Int.toNat_of_nonneg h0, hq]
theorem z_lald (hE : zG E l0 D0 cI0 cJ0 ad cc nL0 own fr lo) {r j n : Nat} {off : Int → Int} {a x : Int} (hk : (r, j) ∈ ks) (hc : cf cI0 cJ0 ad S r j = .inl (cJ0, n, .inr (.inl (cy n (S r) off)))) (h0 : 0 ≤ a) (h1 : a < n) (hn : n < 100000) (hx0 : S r (off a) = x) (d : decode cc pc = .ok (.laload, 1)) (kk : Z E S (pc + 1) L (.long (i64 x) :: st)) : Z E S pc L (.int (i32 a) :: .ref (ad r j) :: st) := by
  obtain ⟨p, l, e, R, s, m, args, below, meth, c, Q, A, D, cI, cJ, ad1, nL, cells, slots⟩ := E
  obtain ⟨⟨rfl, rfl, rfl, rfl, rfl, rfl⟩, hx, hb, hml, hown, hts, ⟨hf1, hf2, hf3, hf4⟩, hK, hD, hA, hN⟩ := hE
  intro H locs ls hS hP hl
  have hba : b32 a := ⟨by omega, by omega⟩
  obtain ⟨q0, -, h2⟩ := wl_get (ad := ad1) hk
  refine va_lald hx hb hK hP q0 1 ((h2 _).trans (by rw [hc])) rfl (i32_in h0 h1 hba) d ?_
  rw [i32_nat h0 hba, cy_at (by omega), Int.toNat_of_nonneg h0, hx0]
  exact kk H locs ls hS hP hl
theorem z_last (hE : zG E l0 D0 cI0 cJ0 ad cc nL0 own fr lo) {r j n : Nat} {off : Int → Int} {a x : Int} (q : Int) (hk : (r, j) ∈ ks) (hc : ∀ S : zM, cf cI0 cJ0 ad S r j = .inl (cJ0, n, .inr (.inl (cy n (S r) off)))) (h0 : 0 ≤ a) (h1 : a < n) (hn : n < 100000) (hq : off a = q) (hkz : kz j (off a)) (hoff : ∀ i : Int, off i = off a → i = a) (d : decode cc pc = .ok (.lastore, 1)) (kk : Z E (us S r (up (S r) q x)) (pc + 1) L st) : Z E S pc L (.long (i64 x) :: .int (i32 a) :: .ref (ad r j) :: st) := by
  obtain ⟨p, l, e, R, s, m, args, below, meth, c, Q, A, D, cI, cJ, ad1, nL, cells, slots⟩ := E
  obtain ⟨⟨rfl, rfl, rfl, rfl, rfl, rfl⟩, hx, hb, hml, hown, hts, ⟨hf1, hf2, hf3, hf4⟩, hK, hD, hA, hN⟩ := hE
  intro H locs ls hS hP hl
  have hba : b32 a := ⟨by omega, by omega⟩
  obtain ⟨q0, hp, h2⟩ := wl_get (ad := ad1) hk
  refine va_last hx hb hK hP (wl_D hD) hS q0 1 ((h2 _).trans (by rw [hc S])) rfl (i32_in h0 h1 hba) d (fun H1 locs1 hP1 hD1 hS1 => ?_)
  rw [wl_set hp, i32_nat h0 hba, cf_put q x hk (hq ▸ hkz) ?_] at hP1
  · exact kk H1 locs1 ls hS1 hP1 hl
  · rw [hc, us_eq, cy_up (by omega) (fun i hi e => by have := hoff i (by rw [e, Int.toNat_of_nonneg h0]); omega), Int.toNat_of_nonneg h0, hq]
end ZM
section ZF
variable {E : zE} {l0 : Launch} {D0 : va_G} {cI0 cJ0 : ClassId} {ad : Nat → Nat → Nat} {cc : ByteArray} {nL0 fr lo : Nat} {own : String} {S : zM} {pc : Nat} {L : List (Nat × Value)} {st : List Value}
theorem gf_4_0 (hE : zG E l0 D0 cI0 cJ0 ad cc nL0 own fr lo) {r index : Nat} (hk : (r, 0) ∈ ks) (hw : Cond.fieldLink own index (TX4 0).1 (TX4 0).2.1 (TX4 0).2.2.1 ∈ wsL_law) (d : decode cc pc = .ok (.getfield index, 3)) (kk : Z E S (pc + 3) L (.ref (ad r 1) :: st)) : Z E S pc L (.ref (ad r 0) :: st) := z_get (ci := 4) hE hk rfl rfl inlX4 0 (by decide) hw rfl d kk
theorem gf_4_1 (hE : zG E l0 D0 cI0 cJ0 ad cc nL0 own fr lo) {r index : Nat} (hk : (r, 0) ∈ ks) (hw : Cond.fieldLink own index (TX4 1).1 (TX4 1).2.1 (TX4 1).2.2.1 ∈ wsL_law) (d : decode cc pc = .ok (.getfield index, 3)) (kk : Z E S (pc + 3) L (.ref (ad r 5) :: st)) : Z E S pc L (.ref (ad r 0) :: st) := z_get (ci := 4) hE hk rfl rfl inlX4 1 (by decide) hw rfl d kk
theorem gf_4_2 (hE : zG E l0 D0 cI0 cJ0 ad cc nL0 own fr lo) {r index : Nat} (hk : (r, 0) ∈ ks) (hw : Cond.fieldLink own index (TX4 2).1 (TX4 2).2.1 (TX4 2).2.2.1 ∈ wsL_law) (d : decode cc pc = .ok (.getfield index, 3)) (kk : Z E S (pc + 3) L (.ref (ad r 6) :: st)) : Z E S pc L (.ref (ad r 0) :: st) := z_get (ci := 4) hE hk rfl rfl inlX4 2 (by decide) hw rfl d kk
theorem gf_4_3 (hE : zG E l0 D0 cI0 cJ0 ad cc nL0 own fr lo) {r index : Nat} (hk : (r, 0) ∈ ks) (hw : Cond.fieldLink own index (TX4 3).1 (TX4 3).2.1 (TX4 3).2.2.1 ∈ wsL_law) (d : decode cc pc = .ok (.getfield index, 3)) (kk : Z E S (pc + 3) L (.ref (ad r 8) :: st)) : Z E S pc L (.ref (ad r 0) :: st) := z_get (ci := 4) hE hk rfl rfl inlX4 3 (by decide) hw rfl d kk
theorem gf_4_4 (hE : zG E l0 D0 cI0 cJ0 ad cc nL0 own fr lo) {r index : Nat} (hk : (r, 0) ∈ ks) (hw : Cond.fieldLink own index (TX4 4).1 (TX4 4).2.1 (TX4 4).2.2.1 ∈ wsL_law) (d : decode cc pc = .ok (.getfield index, 3)) (kk : Z E S (pc + 3) L (.ref (ad r 17) :: st)) : Z E S pc L (.ref (ad r 0) :: st) := z_get (ci := 4) hE hk rfl rfl inlX4 4 (by decide) hw rfl d kk
theorem gf_4_5 (hE : zG E l0 D0 cI0 cJ0 ad cc nL0 own fr lo) {r index : Nat} (hk : (r, 0) ∈ ks) (hw : Cond.fieldLink own index (TX4 5).1 (TX4 5).2.1 (TX4 5).2.2.1 ∈ wsL_law) (d : decode cc pc = .ok (.getfield index, 3)) (kk : Z E S (pc + 3) L (.int (i32 (S r 2)) :: st)) : Z E S pc L (.ref (ad r 0) :: st) := z_get (ci := 4) hE hk rfl rfl inlX4 5 (by decide) hw rfl d kk
theorem pf_4_5 (hE : zG E l0 D0 cI0 cJ0 ad cc nL0 own fr lo) {r index : Nat} {x : Int} (hk : (r, 0) ∈ ks) (hw : Cond.fieldLink own index (TX4 5).1 (TX4 5).2.1 (TX4 5).2.2.1 ∈ wsL_law) (d : decode cc pc = .ok (.putfield index, 3)) (kk : Z E (us S r (up (S r) 2 x)) (pc + 3) L st) : Z E S pc L (.int (i32 x) :: .ref (ad r 0) :: st) := z_put (ci := 4) (ty := .int) hE 2 x hk ((kz_A (by decide)).mpr (by decide)) rfl rfl inlX4 tyX4_ok nmX4 5 (by decide) hw rfl (by decide +kernel) rfl rfl (Nat.le_of_ble_eq_true rfl) (by simp [cf, us, up]) d kk
theorem gf_4_6 (hE : zG E l0 D0 cI0 cJ0 ad cc nL0 own fr lo) {r index : Nat} (hk : (r, 0) ∈ ks) (hw : Cond.fieldLink own index (TX4 6).1 (TX4 6).2.1 (TX4 6).2.2.1 ∈ wsL_law) (d : decode cc pc = .ok (.getfield index, 3)) (kk : Z E S (pc + 3) L (.int (i32 (S r 670)) :: st)) : Z E S pc L (.ref (ad r 0) :: st) := z_get (ci := 4) hE hk rfl rfl inlX4 6 (by decide) hw rfl d kk
theorem pf_4_6 (hE : zG E l0 D0 cI0 cJ0 ad cc nL0 own fr lo) {r index : Nat} {x : Int} (hk : (r, 0) ∈ ks) (hw : Cond.fieldLink own index (TX4 6).1 (TX4 6).2.1 (TX4 6).2.2.1 ∈ wsL_law) (d : decode cc pc = .ok (.putfield index, 3)) (kk : Z E (us S r (up (S r) 670 x)) (pc + 3) L st) : Z E S pc L (.int (i32 x) :: .ref (ad r 0) :: st) := z_put (ci := 4) (ty := .int) hE 670 x hk ((kz_A (by decide)).mpr (by decide)) rfl rfl inlX4 tyX4_ok nmX4 6 (by decide) hw rfl (by decide +kernel) rfl rfl (Nat.le_of_ble_eq_true rfl) (by simp [cf, us, up]) d kk
theorem gf_1_0 (hE : zG E l0 D0 cI0 cJ0 ad cc nL0 own fr lo) {r index : Nat} (hk : (r, 1) ∈ ks) (hw : Cond.fieldLink own index (TX1 0).1 (TX1 0).2.1 (TX1 0).2.2.1 ∈ wsL_law) (d : decode cc pc = .ok (.getfield index, 3)) (kk : Z E S (pc + 3) L (.int (i32 (S r 0)) :: st)) : Z E S pc L (.ref (ad r 1) :: st) := z_get (ci := 1) hE hk rfl rfl inlX1 0 (by decide) hw rfl d kk
theorem pf_1_0 (hE : zG E l0 D0 cI0 cJ0 ad cc nL0 own fr lo) {r index : Nat} {x : Int} (hk : (r, 1) ∈ ks) (hw : Cond.fieldLink own index (TX1 0).1 (TX1 0).2.1 (TX1 0).2.2.1 ∈ wsL_law) (d : decode cc pc = .ok (.putfield index, 3)) (kk : Z E (us S r (up (S r) 0 x)) (pc + 3) L st) : Z E S pc L (.int (i32 x) :: .ref (ad r 1) :: st) := z_put (ci := 1) (ty := .int) hE 0 x hk ((kz_A (by decide)).mpr (by decide)) rfl rfl inlX1 tyX1_ok nmX1 0 (by decide) hw rfl (by decide +kernel) rfl rfl (Nat.le_of_ble_eq_true rfl) (by simp [cf, us, up]) d kk
theorem gf_1_1 (hE : zG E l0 D0 cI0 cJ0 ad cc nL0 own fr lo) {r index : Nat} (hk : (r, 1) ∈ ks) (hw : Cond.fieldLink own index (TX1 1).1 (TX1 1).2.1 (TX1 1).2.2.1 ∈ wsL_law) (d : decode cc pc = .ok (.getfield index, 3)) (kk : Z E S (pc + 3) L (.ref (ad r 2) :: st)) : Z E S pc L (.ref (ad r 1) :: st) := z_get (ci := 1) hE hk rfl rfl inlX1 1 (by decide) hw rfl d kk
theorem gf_1_2 (hE : zG E l0 D0 cI0 cJ0 ad cc nL0 own fr lo) {r index : Nat} (hk : (r, 1) ∈ ks) (hw : Cond.fieldLink own index (TX1 2).1 (TX1 2).2.1 (TX1 2).2.2.1 ∈ wsL_law) (d : decode cc pc = .ok (.getfield index, 3)) (kk : Z E S (pc + 3) L (.ref (ad r 3) :: st)) : Z E S pc L (.ref (ad r 1) :: st) := z_get (ci := 1) hE hk rfl rfl inlX1 2 (by decide) hw rfl d kk
theorem gf_1_3 (hE : zG E l0 D0 cI0 cJ0 ad cc nL0 own fr lo) {r index : Nat} (hk : (r, 1) ∈ ks) (hw : Cond.fieldLink own index (TX1 3).1 (TX1 3).2.1 (TX1 3).2.2.1 ∈ wsL_law) (d : decode cc pc = .ok (.getfield index, 3)) (kk : Z E S (pc + 3) L (.ref (ad r 4) :: st)) : Z E S pc L (.ref (ad r 1) :: st) := z_get (ci := 1) hE hk rfl rfl inlX1 3 (by decide) hw rfl d kk
theorem gf_5_0 (hE : zG E l0 D0 cI0 cJ0 ad cc nL0 own fr lo) {r index : Nat} (hk : (r, 5) ∈ ks) (hw : Cond.fieldLink own index (TX5 0).1 (TX5 0).2.1 (TX5 0).2.2.1 ∈ wsL_law) (d : decode cc pc = .ok (.getfield index, 3)) (kk : Z E S (pc + 3) L (.int (i32 (S r 1)) :: st)) : Z E S pc L (.ref (ad r 5) :: st) := z_get (ci := 5) hE hk rfl rfl inlX5 0 (by decide) hw rfl d kk
theorem pf_5_0 (hE : zG E l0 D0 cI0 cJ0 ad cc nL0 own fr lo) {r index : Nat} {x : Int} (hk : (r, 5) ∈ ks) (hw : Cond.fieldLink own index (TX5 0).1 (TX5 0).2.1 (TX5 0).2.2.1 ∈ wsL_law) (d : decode cc pc = .ok (.putfield index, 3)) (kk : Z E (us S r (up (S r) 1 x)) (pc + 3) L st) : Z E S pc L (.int (i32 x) :: .ref (ad r 5) :: st) := z_put (ci := 5) (ty := .int) hE 1 x hk ((kz_A (by decide)).mpr (by decide)) rfl rfl inlX5 tyX5_ok nmX5 0 (by decide) hw rfl (by decide +kernel) rfl rfl (Nat.le_of_ble_eq_true rfl) (by simp [cf, us, up]) d kk
theorem gf_5_1 (hE : zG E l0 D0 cI0 cJ0 ad cc nL0 own fr lo) {r index : Nat} (hk : (r, 5) ∈ ks) (hw : Cond.fieldLink own index (TX5 1).1 (TX5 1).2.1 (TX5 1).2.2.1 ∈ wsL_law) (d : decode cc pc = .ok (.getfield index, 3)) (kk : Z E S (pc + 3) L (.int (i32 (S r 3)) :: st)) : Z E S pc L (.ref (ad r 5) :: st) := z_get (ci := 5) hE hk rfl rfl inlX5 1 (by decide) hw rfl d kk
theorem pf_5_1 (hE : zG E l0 D0 cI0 cJ0 ad cc nL0 own fr lo) {r index : Nat} {x : Int} (hk : (r, 5) ∈ ks) (hw : Cond.fieldLink own index (TX5 1).1 (TX5 1).2.1 (TX5 1).2.2.1 ∈ wsL_law) (d : decode cc pc = .ok (.putfield index, 3)) (kk : Z E (us S r (up (S r) 3 x)) (pc + 3) L st) : Z E S pc L (.int (i32 x) :: .ref (ad r 5) :: st) := z_put (ci := 5) (ty := .int) hE 3 x hk ((kz_A (by decide)).mpr (by decide)) rfl rfl inlX5 tyX5_ok nmX5 1 (by decide) hw rfl (by decide +kernel) rfl rfl (Nat.le_of_ble_eq_true rfl) (by simp [cf, us, up]) d kk
theorem gf_5_2 (hE : zG E l0 D0 cI0 cJ0 ad cc nL0 own fr lo) {r index : Nat} (hk : (r, 5) ∈ ks) (hw : Cond.fieldLink own index (TX5 2).1 (TX5 2).2.1 (TX5 2).2.2.1 ∈ wsL_law) (d : decode cc pc = .ok (.getfield index, 3)) (kk : Z E S (pc + 3) L (.int (i32 (S r 5)) :: st)) : Z E S pc L (.ref (ad r 5) :: st) := z_get (ci := 5) hE hk rfl rfl inlX5 2 (by decide) hw rfl d kk
theorem pf_5_2 (hE : zG E l0 D0 cI0 cJ0 ad cc nL0 own fr lo) {r index : Nat} {x : Int} (hk : (r, 5) ∈ ks) (hw : Cond.fieldLink own index (TX5 2).1 (TX5 2).2.1 (TX5 2).2.2.1 ∈ wsL_law) (d : decode cc pc = .ok (.putfield index, 3)) (kk : Z E (us S r (up (S r) 5 x)) (pc + 3) L st) : Z E S pc L (.int (i32 x) :: .ref (ad r 5) :: st) := z_put (ci := 5) (ty := .int) hE 5 x hk ((kz_A (by decide)).mpr (by decide)) rfl rfl inlX5 tyX5_ok nmX5 2 (by decide) hw rfl (by decide +kernel) rfl rfl (Nat.le_of_ble_eq_true rfl) (by simp [cf, us, up]) d kk
theorem gf_5_3 (hE : zG E l0 D0 cI0 cJ0 ad cc nL0 own fr lo) {r index : Nat} (hk : (r, 5) ∈ ks) (hw : Cond.fieldLink own index (TX5 3).1 (TX5 3).2.1 (TX5 3).2.2.1 ∈ wsL_law) (d : decode cc pc = .ok (.getfield index, 3)) (kk : Z E S (pc + 3) L (.int (i32 (S r 4)) :: st)) : Z E S pc L (.ref (ad r 5) :: st) := z_get (ci := 5) hE hk rfl rfl inlX5 3 (by decide) hw rfl d kk
theorem pf_5_3 (hE : zG E l0 D0 cI0 cJ0 ad cc nL0 own fr lo) {r index : Nat} {x : Int} (hk : (r, 5) ∈ ks) (hw : Cond.fieldLink own index (TX5 3).1 (TX5 3).2.1 (TX5 3).2.2.1 ∈ wsL_law) (d : decode cc pc = .ok (.putfield index, 3)) (kk : Z E (us S r (up (S r) 4 x)) (pc + 3) L st) : Z E S pc L (.int (i32 x) :: .ref (ad r 5) :: st) := z_put (ci := 5) (ty := .int) hE 4 x hk ((kz_A (by decide)).mpr (by decide)) rfl rfl inlX5 tyX5_ok nmX5 3 (by decide) hw rfl (by decide +kernel) rfl rfl (Nat.le_of_ble_eq_true rfl) (by simp [cf, us, up]) d kk
theorem gf_5_4 (hE : zG E l0 D0 cI0 cJ0 ad cc nL0 own fr lo) {r index : Nat} (hk : (r, 5) ∈ ks) (hw : Cond.fieldLink own index (TX5 4).1 (TX5 4).2.1 (TX5 4).2.2.1 ∈ wsL_law) (d : decode cc pc = .ok (.getfield index, 3)) (kk : Z E S (pc + 3) L (.int (i32 (S r 13)) :: st)) : Z E S pc L (.ref (ad r 5) :: st) := z_get (ci := 5) hE hk rfl rfl inlX5 4 (by decide) hw rfl d kk
theorem pf_5_4 (hE : zG E l0 D0 cI0 cJ0 ad cc nL0 own fr lo) {r index : Nat} {x : Int} (hk : (r, 5) ∈ ks) (hw : Cond.fieldLink own index (TX5 4).1 (TX5 4).2.1 (TX5 4).2.2.1 ∈ wsL_law) (d : decode cc pc = .ok (.putfield index, 3)) (kk : Z E (us S r (up (S r) 13 x)) (pc + 3) L st) : Z E S pc L (.int (i32 x) :: .ref (ad r 5) :: st) := z_put (ci := 5) (ty := .int) hE 13 x hk ((kz_A (by decide)).mpr (by decide)) rfl rfl inlX5 tyX5_ok nmX5 4 (by decide) hw rfl (by decide +kernel) rfl rfl (Nat.le_of_ble_eq_true rfl) (by simp [cf, us, up]) d kk
theorem gf_5_5 (hE : zG E l0 D0 cI0 cJ0 ad cc nL0 own fr lo) {r index : Nat} (hk : (r, 5) ∈ ks) (hw : Cond.fieldLink own index (TX5 5).1 (TX5 5).2.1 (TX5 5).2.2.1 ∈ wsL_law) (d : decode cc pc = .ok (.getfield index, 3)) (kk : Z E S (pc + 3) L (.int (i32 (S r 16)) :: st)) : Z E S pc L (.ref (ad r 5) :: st) := z_get (ci := 5) hE hk rfl rfl inlX5 5 (by decide) hw rfl d kk
theorem pf_5_5 (hE : zG E l0 D0 cI0 cJ0 ad cc nL0 own fr lo) {r index : Nat} {x : Int} (hk : (r, 5) ∈ ks) (hw : Cond.fieldLink own index (TX5 5).1 (TX5 5).2.1 (TX5 5).2.2.1 ∈ wsL_law) (d : decode cc pc = .ok (.putfield index, 3)) (kk : Z E (us S r (up (S r) 16 x)) (pc + 3) L st) : Z E S pc L (.int (i32 x) :: .ref (ad r 5) :: st) := z_put (ci := 5) (ty := .int) hE 16 x hk ((kz_A (by decide)).mpr (by decide)) rfl rfl inlX5 tyX5_ok nmX5 5 (by decide) hw rfl (by decide +kernel) rfl rfl (Nat.le_of_ble_eq_true rfl) (by simp [cf, us, up]) d kk
theorem gf_5_6 (hE : zG E l0 D0 cI0 cJ0 ad cc nL0 own fr lo) {r index : Nat} (hk : (r, 5) ∈ ks) (hw : Cond.fieldLink own index (TX5 6).1 (TX5 6).2.1 (TX5 6).2.2.1 ∈ wsL_law) (d : decode cc pc = .ok (.getfield index, 3)) (kk : Z E S (pc + 3) L (.int (i32 (S r 17)) :: st)) : Z E S pc L (.ref (ad r 5) :: st) := z_get (ci := 5) hE hk rfl rfl inlX5 6 (by decide) hw rfl d kk
theorem pf_5_6 (hE : zG E l0 D0 cI0 cJ0 ad cc nL0 own fr lo) {r index : Nat} {x : Int} (hk : (r, 5) ∈ ks) (hw : Cond.fieldLink own index (TX5 6).1 (TX5 6).2.1 (TX5 6).2.2.1 ∈ wsL_law) (d : decode cc pc = .ok (.putfield index, 3)) (kk : Z E (us S r (up (S r) 17 x)) (pc + 3) L st) : Z E S pc L (.int (i32 x) :: .ref (ad r 5) :: st) := z_put (ci := 5) (ty := .int) hE 17 x hk ((kz_A (by decide)).mpr (by decide)) rfl rfl inlX5 tyX5_ok nmX5 6 (by decide) hw rfl (by decide +kernel) rfl rfl (Nat.le_of_ble_eq_true rfl) (by simp [cf, us, up]) d kk
theorem gf_0_0 (hE : zG E l0 D0 cI0 cJ0 ad cc nL0 own fr lo) {r index : Nat} (hk : (r, 6) ∈ ks) (hw : Cond.fieldLink own index (TX0 0).1 (TX0 0).2.1 (TX0 0).2.2.1 ∈ wsL_law) (d : decode cc pc = .ok (.getfield index, 3)) (kk : Z E S (pc + 3) L (.int (i32 (S r 7)) :: st)) : Z E S pc L (.ref (ad r 6) :: st) := z_get (ci := 0) hE hk rfl rfl inlX0 0 (by decide) hw rfl d kk
theorem pf_0_0 (hE : zG E l0 D0 cI0 cJ0 ad cc nL0 own fr lo) {r index : Nat} {x : Int} (hk : (r, 6) ∈ ks) (hw : Cond.fieldLink own index (TX0 0).1 (TX0 0).2.1 (TX0 0).2.2.1 ∈ wsL_law) (d : decode cc pc = .ok (.putfield index, 3)) (kk : Z E (us S r (up (S r) 7 x)) (pc + 3) L st) : Z E S pc L (.int (i32 x) :: .ref (ad r 6) :: st) := z_put (ci := 0) (ty := .int) hE 7 x hk ((kz_A (by decide)).mpr (by decide)) rfl rfl inlX0 tyX0_ok nmX0 0 (by decide) hw rfl (by decide +kernel) rfl rfl (Nat.le_of_ble_eq_true rfl) (by simp [cf, us, up]) d kk
theorem gf_0_1 (hE : zG E l0 D0 cI0 cJ0 ad cc nL0 own fr lo) {r index : Nat} (hk : (r, 6) ∈ ks) (hw : Cond.fieldLink own index (TX0 1).1 (TX0 1).2.1 (TX0 1).2.2.1 ∈ wsL_law) (d : decode cc pc = .ok (.getfield index, 3)) (kk : Z E S (pc + 3) L (.int (i32 (S r 8)) :: st)) : Z E S pc L (.ref (ad r 6) :: st) := z_get (ci := 0) hE hk rfl rfl inlX0 1 (by decide) hw rfl d kk
theorem pf_0_1 (hE : zG E l0 D0 cI0 cJ0 ad cc nL0 own fr lo) {r index : Nat} {x : Int} (hk : (r, 6) ∈ ks) (hw : Cond.fieldLink own index (TX0 1).1 (TX0 1).2.1 (TX0 1).2.2.1 ∈ wsL_law) (d : decode cc pc = .ok (.putfield index, 3)) (kk : Z E (us S r (up (S r) 8 x)) (pc + 3) L st) : Z E S pc L (.int (i32 x) :: .ref (ad r 6) :: st) := z_put (ci := 0) (ty := .int) hE 8 x hk ((kz_A (by decide)).mpr (by decide)) rfl rfl inlX0 tyX0_ok nmX0 1 (by decide) hw rfl (by decide +kernel) rfl rfl (Nat.le_of_ble_eq_true rfl) (by simp [cf, us, up]) d kk
theorem gf_0_2 (hE : zG E l0 D0 cI0 cJ0 ad cc nL0 own fr lo) {r index : Nat} (hk : (r, 6) ∈ ks) (hw : Cond.fieldLink own index (TX0 2).1 (TX0 2).2.1 (TX0 2).2.2.1 ∈ wsL_law) (d : decode cc pc = .ok (.getfield index, 3)) (kk : Z E S (pc + 3) L (.int (i32 (S r 6)) :: st)) : Z E S pc L (.ref (ad r 6) :: st) := z_get (ci := 0) hE hk rfl rfl inlX0 2 (by decide) hw rfl d kk
theorem pf_0_2 (hE : zG E l0 D0 cI0 cJ0 ad cc nL0 own fr lo) {r index : Nat} {x : Int} (hk : (r, 6) ∈ ks) (hw : Cond.fieldLink own index (TX0 2).1 (TX0 2).2.1 (TX0 2).2.2.1 ∈ wsL_law) (d : decode cc pc = .ok (.putfield index, 3)) (kk : Z E (us S r (up (S r) 6 x)) (pc + 3) L st) : Z E S pc L (.int (i32 x) :: .ref (ad r 6) :: st) := z_put (ci := 0) (ty := .int) hE 6 x hk ((kz_A (by decide)).mpr (by decide)) rfl rfl inlX0 tyX0_ok nmX0 2 (by decide) hw rfl (by decide +kernel) rfl rfl (Nat.le_of_ble_eq_true rfl) (by simp [cf, us, up]) d kk
theorem gf_0_3 (hE : zG E l0 D0 cI0 cJ0 ad cc nL0 own fr lo) {r index : Nat} (hk : (r, 6) ∈ ks) (hw : Cond.fieldLink own index (TX0 3).1 (TX0 3).2.1 (TX0 3).2.2.1 ∈ wsL_law) (d : decode cc pc = .ok (.getfield index, 3)) (kk : Z E S (pc + 3) L (.int (i32 (S r 9)) :: st)) : Z E S pc L (.ref (ad r 6) :: st) := z_get (ci := 0) hE hk rfl rfl inlX0 3 (by decide) hw rfl d kk
theorem pf_0_3 (hE : zG E l0 D0 cI0 cJ0 ad cc nL0 own fr lo) {r index : Nat} {x : Int} (hk : (r, 6) ∈ ks) (hw : Cond.fieldLink own index (TX0 3).1 (TX0 3).2.1 (TX0 3).2.2.1 ∈ wsL_law) (d : decode cc pc = .ok (.putfield index, 3)) (kk : Z E (us S r (up (S r) 9 x)) (pc + 3) L st) : Z E S pc L (.int (i32 x) :: .ref (ad r 6) :: st) := z_put (ci := 0) (ty := .int) hE 9 x hk ((kz_A (by decide)).mpr (by decide)) rfl rfl inlX0 tyX0_ok nmX0 3 (by decide) hw rfl (by decide +kernel) rfl rfl (Nat.le_of_ble_eq_true rfl) (by simp [cf, us, up]) d kk
theorem gf_0_4 (hE : zG E l0 D0 cI0 cJ0 ad cc nL0 own fr lo) {r index : Nat} (hk : (r, 6) ∈ ks) (hw : Cond.fieldLink own index (TX0 4).1 (TX0 4).2.1 (TX0 4).2.2.1 ∈ wsL_law) (d : decode cc pc = .ok (.getfield index, 3)) (kk : Z E S (pc + 3) L (.ref (ad r 7) :: st)) : Z E S pc L (.ref (ad r 6) :: st) := z_get (ci := 0) hE hk rfl rfl inlX0 4 (by decide) hw rfl d kk
theorem gf_3_0 (hE : zG E l0 D0 cI0 cJ0 ad cc nL0 own fr lo) {r index : Nat} (hk : (r, 8) ∈ ks) (hw : Cond.fieldLink own index (TX3 0).1 (TX3 0).2.1 (TX3 0).2.2.1 ∈ wsL_law) (d : decode cc pc = .ok (.getfield index, 3)) (kk : Z E S (pc + 3) L (.int (i32 (S r 14)) :: st)) : Z E S pc L (.ref (ad r 8) :: st) := z_get (ci := 3) hE hk rfl rfl inlX3 0 (by decide) hw rfl d kk
theorem pf_3_0 (hE : zG E l0 D0 cI0 cJ0 ad cc nL0 own fr lo) {r index : Nat} {x : Int} (hk : (r, 8) ∈ ks) (hw : Cond.fieldLink own index (TX3 0).1 (TX3 0).2.1 (TX3 0).2.2.1 ∈ wsL_law) (d : decode cc pc = .ok (.putfield index, 3)) (kk : Z E (us S r (up (S r) 14 x)) (pc + 3) L st) : Z E S pc L (.int (i32 x) :: .ref (ad r 8) :: st) := z_put (ci := 3) (ty := .int) hE 14 x hk ((kz_A (by decide)).mpr (by decide)) rfl rfl inlX3 tyX3_ok nmX3 0 (by decide) hw rfl (by decide +kernel) rfl rfl (Nat.le_of_ble_eq_true rfl) (by simp [cf, us, up]) d kk
theorem gf_3_1 (hE : zG E l0 D0 cI0 cJ0 ad cc nL0 own fr lo) {r index : Nat} (hk : (r, 8) ∈ ks) (hw : Cond.fieldLink own index (TX3 1).1 (TX3 1).2.1 (TX3 1).2.2.1 ∈ wsL_law) (d : decode cc pc = .ok (.getfield index, 3)) (kk : Z E S (pc + 3) L (.ref (ad r 9) :: st)) : Z E S pc L (.ref (ad r 8) :: st) := z_get (ci := 3) hE hk rfl rfl inlX3 1 (by decide) hw rfl d kk
theorem gf_3_2 (hE : zG E l0 D0 cI0 cJ0 ad cc nL0 own fr lo) {r index : Nat} (hk : (r, 8) ∈ ks) (hw : Cond.fieldLink own index (TX3 2).1 (TX3 2).2.1 (TX3 2).2.2.1 ∈ wsL_law) (d : decode cc pc = .ok (.getfield index, 3)) (kk : Z E S (pc + 3) L (.ref (ad r 10) :: st)) : Z E S pc L (.ref (ad r 8) :: st) := z_get (ci := 3) hE hk rfl rfl inlX3 2 (by decide) hw rfl d kk
theorem gf_3_3 (hE : zG E l0 D0 cI0 cJ0 ad cc nL0 own fr lo) {r index : Nat} (hk : (r, 8) ∈ ks) (hw : Cond.fieldLink own index (TX3 3).1 (TX3 3).2.1 (TX3 3).2.2.1 ∈ wsL_law) (d : decode cc pc = .ok (.getfield index, 3)) (kk : Z E S (pc + 3) L (.ref (ad r 11) :: st)) : Z E S pc L (.ref (ad r 8) :: st) := z_get (ci := 3) hE hk rfl rfl inlX3 3 (by decide) hw rfl d kk
theorem gf_3_4 (hE : zG E l0 D0 cI0 cJ0 ad cc nL0 own fr lo) {r index : Nat} (hk : (r, 8) ∈ ks) (hw : Cond.fieldLink own index (TX3 4).1 (TX3 4).2.1 (TX3 4).2.2.1 ∈ wsL_law) (d : decode cc pc = .ok (.getfield index, 3)) (kk : Z E S (pc + 3) L (.ref (ad r 12) :: st)) : Z E S pc L (.ref (ad r 8) :: st) := z_get (ci := 3) hE hk rfl rfl inlX3 4 (by decide) hw rfl d kk
theorem gf_3_5 (hE : zG E l0 D0 cI0 cJ0 ad cc nL0 own fr lo) {r index : Nat} (hk : (r, 8) ∈ ks) (hw : Cond.fieldLink own index (TX3 5).1 (TX3 5).2.1 (TX3 5).2.2.1 ∈ wsL_law) (d : decode cc pc = .ok (.getfield index, 3)) (kk : Z E S (pc + 3) L (.ref (ad r 13) :: st)) : Z E S pc L (.ref (ad r 8) :: st) := z_get (ci := 3) hE hk rfl rfl inlX3 5 (by decide) hw rfl d kk
theorem gf_3_6 (hE : zG E l0 D0 cI0 cJ0 ad cc nL0 own fr lo) {r index : Nat} (hk : (r, 8) ∈ ks) (hw : Cond.fieldLink own index (TX3 6).1 (TX3 6).2.1 (TX3 6).2.2.1 ∈ wsL_law) (d : decode cc pc = .ok (.getfield index, 3)) (kk : Z E S (pc + 3) L (.ref (ad r 14) :: st)) : Z E S pc L (.ref (ad r 8) :: st) := z_get (ci := 3) hE hk rfl rfl inlX3 6 (by decide) hw rfl d kk
theorem gf_3_7 (hE : zG E l0 D0 cI0 cJ0 ad cc nL0 own fr lo) {r index : Nat} (hk : (r, 8) ∈ ks) (hw : Cond.fieldLink own index (TX3 7).1 (TX3 7).2.1 (TX3 7).2.2.1 ∈ wsL_law) (d : decode cc pc = .ok (.getfield index, 3)) (kk : Z E S (pc + 3) L (.ref (ad r 15) :: st)) : Z E S pc L (.ref (ad r 8) :: st) := z_get (ci := 3) hE hk rfl rfl inlX3 7 (by decide) hw rfl d kk
theorem gf_3_8 (hE : zG E l0 D0 cI0 cJ0 ad cc nL0 own fr lo) {r index : Nat} (hk : (r, 8) ∈ ks) (hw : Cond.fieldLink own index (TX3 8).1 (TX3 8).2.1 (TX3 8).2.2.1 ∈ wsL_law) (d : decode cc pc = .ok (.getfield index, 3)) (kk : Z E S (pc + 3) L (.ref (ad r 16) :: st)) : Z E S pc L (.ref (ad r 8) :: st) := z_get (ci := 3) hE hk rfl rfl inlX3 8 (by decide) hw rfl d kk
theorem gf_2_0 (hE : zG E l0 D0 cI0 cJ0 ad cc nL0 own fr lo) {r index : Nat} (hk : (r, 17) ∈ ks) (hw : Cond.fieldLink own index (TX2 0).1 (TX2 0).2.1 (TX2 0).2.2.1 ∈ wsL_law) (d : decode cc pc = .ok (.getfield index, 3)) (kk : Z E S (pc + 3) L (.int (i32 (S r 15)) :: st)) : Z E S pc L (.ref (ad r 17) :: st) := z_get (ci := 2) hE hk rfl rfl inlX2 0 (by decide) hw rfl d kk
theorem pf_2_0 (hE : zG E l0 D0 cI0 cJ0 ad cc nL0 own fr lo) {r index : Nat} {x : Int} (hk : (r, 17) ∈ ks) (hw : Cond.fieldLink own index (TX2 0).1 (TX2 0).2.1 (TX2 0).2.2.1 ∈ wsL_law) (d : decode cc pc = .ok (.putfield index, 3)) (kk : Z E (us S r (up (S r) 15 x)) (pc + 3) L st) : Z E S pc L (.int (i32 x) :: .ref (ad r 17) :: st) := z_put (ci := 2) (ty := .int) hE 15 x hk ((kz_A (by decide)).mpr (by decide)) rfl rfl inlX2 tyX2_ok nmX2 0 (by decide) hw rfl (by decide +kernel) rfl rfl (Nat.le_of_ble_eq_true rfl) (by simp [cf, us, up]) d kk
theorem gf_2_1 (hE : zG E l0 D0 cI0 cJ0 ad cc nL0 own fr lo) {r index : Nat} (hk : (r, 17) ∈ ks) (hw : Cond.fieldLink own index (TX2 1).1 (TX2 1).2.1 (TX2 1).2.2.1 ∈ wsL_law) (d : decode cc pc = .ok (.getfield index, 3)) (kk : Z E S (pc + 3) L (.ref (ad r 18) :: st)) : Z E S pc L (.ref (ad r 17) :: st) := z_get (ci := 2) hE hk rfl rfl inlX2 1 (by decide) hw rfl d kk
theorem gf_2_2 (hE : zG E l0 D0 cI0 cJ0 ad cc nL0 own fr lo) {r index : Nat} (hk : (r, 17) ∈ ks) (hw : Cond.fieldLink own index (TX2 2).1 (TX2 2).2.1 (TX2 2).2.2.1 ∈ wsL_law) (d : decode cc pc = .ok (.getfield index, 3)) (kk : Z E S (pc + 3) L (.ref (ad r 19) :: st)) : Z E S pc L (.ref (ad r 17) :: st) := z_get (ci := 2) hE hk rfl rfl inlX2 2 (by decide) hw rfl d kk
theorem gf_2_3 (hE : zG E l0 D0 cI0 cJ0 ad cc nL0 own fr lo) {r index : Nat} (hk : (r, 17) ∈ ks) (hw : Cond.fieldLink own index (TX2 3).1 (TX2 3).2.1 (TX2 3).2.2.1 ∈ wsL_law) (d : decode cc pc = .ok (.getfield index, 3)) (kk : Z E S (pc + 3) L (.ref (ad r 20) :: st)) : Z E S pc L (.ref (ad r 17) :: st) := z_get (ci := 2) hE hk rfl rfl inlX2 3 (by decide) hw rfl d kk
theorem gf_2_4 (hE : zG E l0 D0 cI0 cJ0 ad cc nL0 own fr lo) {r index : Nat} (hk : (r, 17) ∈ ks) (hw : Cond.fieldLink own index (TX2 4).1 (TX2 4).2.1 (TX2 4).2.2.1 ∈ wsL_law) (d : decode cc pc = .ok (.getfield index, 3)) (kk : Z E S (pc + 3) L (.ref (ad r 21) :: st)) : Z E S pc L (.ref (ad r 17) :: st) := z_get (ci := 2) hE hk rfl rfl inlX2 4 (by decide) hw rfl d kk
theorem gf_7_0 (hE : zG E l0 D0 cI0 cJ0 ad cc nL0 own fr lo) {r index : Nat} (hk : (r, 22) ∈ ks) (hw : Cond.fieldLink own index (TX7 0).1 (TX7 0).2.1 (TX7 0).2.2.1 ∈ wsL_law) (d : decode cc pc = .ok (.getfield index, 3)) (kk : Z E S (pc + 3) L (.ref (ad (S r 1).toNat 0) :: st)) : Z E S pc L (.ref (ad r 22) :: st) := z_get (ci := 7) hE hk rfl rfl inlX7 0 (by decide) hw rfl d kk
theorem pf_7_0 (hE : zG E l0 D0 cI0 cJ0 ad cc nL0 own fr lo) {r index x : Nat} (hk : (r, 22) ∈ ks) (hw : Cond.fieldLink own index (TX7 0).1 (TX7 0).2.1 (TX7 0).2.2.1 ∈ wsL_law) (d : decode cc pc = .ok (.putfield index, 3)) (kk : Z E (us S r (up (S r) 1 (x : Int))) (pc + 3) L st) : Z E S pc L (.ref (ad x 0) :: .ref (ad r 22) :: st) := z_put (ci := 7) (ty := .object "DairyShares$Register") hE 1 x hk ((kz_B (by decide) (by decide)).mpr (by decide)) rfl rfl inlX7 tyX7_ok nmX7 0 (by decide) hw rfl (by decide +kernel) rfl rfl (Nat.le_of_ble_eq_true rfl) (by simp [cf, us, up]) d kk
theorem gf_7_1 (hE : zG E l0 D0 cI0 cJ0 ad cc nL0 own fr lo) {r index : Nat} (hk : (r, 22) ∈ ks) (hw : Cond.fieldLink own index (TX7 1).1 (TX7 1).2.1 (TX7 1).2.2.1 ∈ wsL_law) (d : decode cc pc = .ok (.getfield index, 3)) (kk : Z E S (pc + 3) L (.ref (ad (S r 2).toNat 0) :: st)) : Z E S pc L (.ref (ad r 22) :: st) := z_get (ci := 7) hE hk rfl rfl inlX7 1 (by decide) hw rfl d kk
theorem pf_7_1 (hE : zG E l0 D0 cI0 cJ0 ad cc nL0 own fr lo) {r index x : Nat} (hk : (r, 22) ∈ ks) (hw : Cond.fieldLink own index (TX7 1).1 (TX7 1).2.1 (TX7 1).2.2.1 ∈ wsL_law) (d : decode cc pc = .ok (.putfield index, 3)) (kk : Z E (us S r (up (S r) 2 (x : Int))) (pc + 3) L st) : Z E S pc L (.ref (ad x 0) :: .ref (ad r 22) :: st) := z_put (ci := 7) (ty := .object "DairyShares$Register") hE 2 x hk ((kz_B (by decide) (by decide)).mpr (by decide)) rfl rfl inlX7 tyX7_ok nmX7 1 (by decide) hw rfl (by decide +kernel) rfl rfl (Nat.le_of_ble_eq_true rfl) (by simp [cf, us, up]) d kk
theorem gf_7_2 (hE : zG E l0 D0 cI0 cJ0 ad cc nL0 own fr lo) {r index : Nat} (hk : (r, 22) ∈ ks) (hw : Cond.fieldLink own index (TX7 2).1 (TX7 2).2.1 (TX7 2).2.2.1 ∈ wsL_law) (d : decode cc pc = .ok (.getfield index, 3)) (kk : Z E S (pc + 3) L (.ref (ad (S r 3).toNat 0) :: st)) : Z E S pc L (.ref (ad r 22) :: st) := z_get (ci := 7) hE hk rfl rfl inlX7 2 (by decide) hw rfl d kk
theorem pf_7_2 (hE : zG E l0 D0 cI0 cJ0 ad cc nL0 own fr lo) {r index x : Nat} (hk : (r, 22) ∈ ks) (hw : Cond.fieldLink own index (TX7 2).1 (TX7 2).2.1 (TX7 2).2.2.1 ∈ wsL_law) (d : decode cc pc = .ok (.putfield index, 3)) (kk : Z E (us S r (up (S r) 3 (x : Int))) (pc + 3) L st) : Z E S pc L (.ref (ad x 0) :: .ref (ad r 22) :: st) := z_put (ci := 7) (ty := .object "DairyShares$Register") hE 3 x hk ((kz_B (by decide) (by decide)).mpr (by decide)) rfl rfl inlX7 tyX7_ok nmX7 2 (by decide) hw rfl (by decide +kernel) rfl rfl (Nat.le_of_ble_eq_true rfl) (by simp [cf, us, up]) d kk
theorem gf_7_3 (hE : zG E l0 D0 cI0 cJ0 ad cc nL0 own fr lo) {r index : Nat} (hk : (r, 22) ∈ ks) (hw : Cond.fieldLink own index (TX7 3).1 (TX7 3).2.1 (TX7 3).2.2.1 ∈ wsL_law) (d : decode cc pc = .ok (.getfield index, 3)) (kk : Z E S (pc + 3) L (.ref (ad (S r 4).toNat 0) :: st)) : Z E S pc L (.ref (ad r 22) :: st) := z_get (ci := 7) hE hk rfl rfl inlX7 3 (by decide) hw rfl d kk
theorem pf_7_3 (hE : zG E l0 D0 cI0 cJ0 ad cc nL0 own fr lo) {r index x : Nat} (hk : (r, 22) ∈ ks) (hw : Cond.fieldLink own index (TX7 3).1 (TX7 3).2.1 (TX7 3).2.2.1 ∈ wsL_law) (d : decode cc pc = .ok (.putfield index, 3)) (kk : Z E (us S r (up (S r) 4 (x : Int))) (pc + 3) L st) : Z E S pc L (.ref (ad x 0) :: .ref (ad r 22) :: st) := z_put (ci := 7) (ty := .object "DairyShares$Register") hE 4 x hk ((kz_B (by decide) (by decide)).mpr (by decide)) rfl rfl inlX7 tyX7_ok nmX7 3 (by decide) hw rfl (by decide +kernel) rfl rfl (Nat.le_of_ble_eq_true rfl) (by simp [cf, us, up]) d kk
theorem gf_7_4 (hE : zG E l0 D0 cI0 cJ0 ad cc nL0 own fr lo) {r index : Nat} (hk : (r, 22) ∈ ks) (hw : Cond.fieldLink own index (TX7 4).1 (TX7 4).2.1 (TX7 4).2.2.1 ∈ wsL_law) (d : decode cc pc = .ok (.getfield index, 3)) (kk : Z E S (pc + 3) L (.ref (ad (S r 5).toNat 0) :: st)) : Z E S pc L (.ref (ad r 22) :: st) := z_get (ci := 7) hE hk rfl rfl inlX7 4 (by decide) hw rfl d kk
theorem pf_7_4 (hE : zG E l0 D0 cI0 cJ0 ad cc nL0 own fr lo) {r index x : Nat} (hk : (r, 22) ∈ ks) (hw : Cond.fieldLink own index (TX7 4).1 (TX7 4).2.1 (TX7 4).2.2.1 ∈ wsL_law) (d : decode cc pc = .ok (.putfield index, 3)) (kk : Z E (us S r (up (S r) 5 (x : Int))) (pc + 3) L st) : Z E S pc L (.ref (ad x 0) :: .ref (ad r 22) :: st) := z_put (ci := 7) (ty := .object "DairyShares$Register") hE 5 x hk ((kz_B (by decide) (by decide)).mpr (by decide)) rfl rfl inlX7 tyX7_ok nmX7 4 (by decide) hw rfl (by decide +kernel) rfl rfl (Nat.le_of_ble_eq_true rfl) (by simp [cf, us, up]) d kk
theorem gf_7_5 (hE : zG E l0 D0 cI0 cJ0 ad cc nL0 own fr lo) {r index : Nat} (hk : (r, 22) ∈ ks) (hw : Cond.fieldLink own index (TX7 5).1 (TX7 5).2.1 (TX7 5).2.2.1 ∈ wsL_law) (d : decode cc pc = .ok (.getfield index, 3)) (kk : Z E S (pc + 3) L (.int (i32 (S r 0)) :: st)) : Z E S pc L (.ref (ad r 22) :: st) := z_get (ci := 7) hE hk rfl rfl inlX7 5 (by decide) hw rfl d kk
theorem pf_7_5 (hE : zG E l0 D0 cI0 cJ0 ad cc nL0 own fr lo) {r index : Nat} {x : Int} (hk : (r, 22) ∈ ks) (hw : Cond.fieldLink own index (TX7 5).1 (TX7 5).2.1 (TX7 5).2.2.1 ∈ wsL_law) (d : decode cc pc = .ok (.putfield index, 3)) (kk : Z E (us S r (up (S r) 0 x)) (pc + 3) L st) : Z E S pc L (.int (i32 x) :: .ref (ad r 22) :: st) := z_put (ci := 7) (ty := .int) hE 0 x hk ((kz_B (by decide) (by decide)).mpr (by decide)) rfl rfl inlX7 tyX7_ok nmX7 5 (by decide) hw rfl (by decide +kernel) rfl rfl (Nat.le_of_ble_eq_true rfl) (by simp [cf, us, up]) d kk
theorem gf_7_6 (hE : zG E l0 D0 cI0 cJ0 ad cc nL0 own fr lo) {r index : Nat} (hk : (r, 22) ∈ ks) (hw : Cond.fieldLink own index (TX7 6).1 (TX7 6).2.1 (TX7 6).2.2.1 ∈ wsL_law) (d : decode cc pc = .ok (.getfield index, 3)) (kk : Z E S (pc + 3) L (.ref (ad r 23) :: st)) : Z E S pc L (.ref (ad r 22) :: st) := z_get (ci := 7) hE hk rfl rfl inlX7 6 (by decide) hw rfl d kk
theorem gf_6_0 (hE : zG E l0 D0 cI0 cJ0 ad cc nL0 own fr lo) {r index : Nat} (hk : (r, 23) ∈ ks) (hw : Cond.fieldLink own index (TX6 0).1 (TX6 0).2.1 (TX6 0).2.2.1 ∈ wsL_law) (d : decode cc pc = .ok (.getfield index, 3)) (kk : Z E S (pc + 3) L (.ref (ad r 24) :: st)) : Z E S pc L (.ref (ad r 23) :: st) := z_get (ci := 6) hE hk rfl rfl inlX6 0 (by decide) hw rfl d kk
theorem gf_6_1 (hE : zG E l0 D0 cI0 cJ0 ad cc nL0 own fr lo) {r index : Nat} (hk : (r, 23) ∈ ks) (hw : Cond.fieldLink own index (TX6 1).1 (TX6 1).2.1 (TX6 1).2.2.1 ∈ wsL_law) (d : decode cc pc = .ok (.getfield index, 3)) (kk : Z E S (pc + 3) L (.ref (ad r 25) :: st)) : Z E S pc L (.ref (ad r 23) :: st) := z_get (ci := 6) hE hk rfl rfl inlX6 1 (by decide) hw rfl d kk
theorem gf_6_2 (hE : zG E l0 D0 cI0 cJ0 ad cc nL0 own fr lo) {r index : Nat} (hk : (r, 23) ∈ ks) (hw : Cond.fieldLink own index (TX6 2).1 (TX6 2).2.1 (TX6 2).2.2.1 ∈ wsL_law) (d : decode cc pc = .ok (.getfield index, 3)) (kk : Z E S (pc + 3) L (.ref (ad r 26) :: st)) : Z E S pc L (.ref (ad r 23) :: st) := z_get (ci := 6) hE hk rfl rfl inlX6 2 (by decide) hw rfl d kk
theorem al_2 (hE : zG E l0 D0 cI0 cJ0 ad cc nL0 own fr lo) {r : Nat} {a : Int} (hk : (r, 2) ∈ ks) (h0 : 0 ≤ a) (h1 : a < 12) (d : decode cc pc = .ok (.iaload, 1)) (kk : Z E S (pc + 1) L (.int (i32 (S r (19 + 3 * a))) :: st)) : Z E S pc L (.int (i32 a) :: .ref (ad r 2) :: st) := z_iald (n := 12) (off := (of3 19)) hE hk rfl h0 h1 (by decide) (by unfold of3; simp only [Int.zero_add]) d kk
theorem as_2 (hE : zG E l0 D0 cI0 cJ0 ad cc nL0 own fr lo) {r : Nat} {a x : Int} (hk : (r, 2) ∈ ks) (h0 : 0 ≤ a) (h1 : a < 12) (d : decode cc pc = .ok (.iastore, 1)) (kk : Z E (us S r (up (S r) (19 + 3 * a) x)) (pc + 1) L st) : Z E S pc L (.int (i32 x) :: .int (i32 a) :: .ref (ad r 2) :: st) := z_iast (n := 12) (off := (of3 19)) hE (19 + 3 * a) hk (fun _ => rfl) h0 h1 (by decide) (by unfold of3; simp only [Int.zero_add]) (ko_2 h0 h1) (fun i e => by unfold of3 at e; omega) d kk
theorem al_3 (hE : zG E l0 D0 cI0 cJ0 ad cc nL0 own fr lo) {r : Nat} {a : Int} (hk : (r, 3) ∈ ks) (h0 : 0 ≤ a) (h1 : a < 12) (d : decode cc pc = .ok (.iaload, 1)) (kk : Z E S (pc + 1) L (.int (i32 (S r (20 + 3 * a))) :: st)) : Z E S pc L (.int (i32 a) :: .ref (ad r 3) :: st) := z_iald (n := 12) (off := (of3 20)) hE hk rfl h0 h1 (by decide) (by unfold of3; simp only [Int.zero_add]) d kk
theorem as_3 (hE : zG E l0 D0 cI0 cJ0 ad cc nL0 own fr lo) {r : Nat} {a x : Int} (hk : (r, 3) ∈ ks) (h0 : 0 ≤ a) (h1 : a < 12) (d : decode cc pc = .ok (.iastore, 1)) (kk : Z E (us S r (up (S r) (20 + 3 * a) x)) (pc + 1) L st) : Z E S pc L (.int (i32 x) :: .int (i32 a) :: .ref (ad r 3) :: st) := z_iast (n := 12) (off := (of3 20)) hE (20 + 3 * a) hk (fun _ => rfl) h0 h1 (by decide) (by unfold of3; simp only [Int.zero_add]) (ko_3 h0 h1) (fun i e => by unfold of3 at e; omega) d kk
theorem al_4 (hE : zG E l0 D0 cI0 cJ0 ad cc nL0 own fr lo) {r : Nat} {a : Int} (hk : (r, 4) ∈ ks) (h0 : 0 ≤ a) (h1 : a < 12) (d : decode cc pc = .ok (.laload, 1)) (kk : Z E S (pc + 1) L (.long (i64 (S r (21 + 3 * a))) :: st)) : Z E S pc L (.int (i32 a) :: .ref (ad r 4) :: st) := z_lald (n := 12) (off := (of3 21)) hE hk rfl h0 h1 (by decide) (by unfold of3; simp only [Int.zero_add]) d kk
theorem as_4 (hE : zG E l0 D0 cI0 cJ0 ad cc nL0 own fr lo) {r : Nat} {a x : Int} (hk : (r, 4) ∈ ks) (h0 : 0 ≤ a) (h1 : a < 12) (d : decode cc pc = .ok (.lastore, 1)) (kk : Z E (us S r (up (S r) (21 + 3 * a) x)) (pc + 1) L st) : Z E S pc L (.long (i64 x) :: .int (i32 a) :: .ref (ad r 4) :: st) := z_last (n := 12) (off := (of3 21)) hE (21 + 3 * a) hk (fun _ => rfl) h0 h1 (by decide) (by unfold of3; simp only [Int.zero_add]) (ko_4 h0 h1) (fun i e => by unfold of3 at e; omega) d kk
theorem al_7 (hE : zG E l0 D0 cI0 cJ0 ad cc nL0 own fr lo) {r : Nat} {a : Int} (hk : (r, 7) ∈ ks) (h0 : 0 ≤ a) (h1 : a < 3) (d : decode cc pc = .ok (.iaload, 1)) (kk : Z E S (pc + 1) L (.int (i32 (S r (10 + a))) :: st)) : Z E S pc L (.int (i32 a) :: .ref (ad r 7) :: st) := z_iald (n := 3) (off := (of1 10)) hE hk rfl h0 h1 (by decide) (by unfold of1; simp only [Int.zero_add]) d kk
theorem as_7 (hE : zG E l0 D0 cI0 cJ0 ad cc nL0 own fr lo) {r : Nat} {a x : Int} (hk : (r, 7) ∈ ks) (h0 : 0 ≤ a) (h1 : a < 3) (d : decode cc pc = .ok (.iastore, 1)) (kk : Z E (us S r (up (S r) (10 + a) x)) (pc + 1) L st) : Z E S pc L (.int (i32 x) :: .int (i32 a) :: .ref (ad r 7) :: st) := z_iast (n := 3) (off := (of1 10)) hE (10 + a) hk (fun _ => rfl) h0 h1 (by decide) (by unfold of1; simp only [Int.zero_add]) (ko_7 h0 h1) (fun i e => by unfold of1 at e; omega) d kk
theorem al_9 (hE : zG E l0 D0 cI0 cJ0 ad cc nL0 own fr lo) {r : Nat} {a : Int} (hk : (r, 9) ∈ ks) (h0 : 0 ≤ a) (h1 : a < 20) (d : decode cc pc = .ok (.iaload, 1)) (kk : Z E S (pc + 1) L (.int (i32 (S r (55 + 22 * a))) :: st)) : Z E S pc L (.int (i32 a) :: .ref (ad r 9) :: st) := z_iald (n := 20) (off := (of22 55)) hE hk rfl h0 h1 (by decide) (by unfold of22; simp only [Int.zero_add]) d kk
theorem as_9 (hE : zG E l0 D0 cI0 cJ0 ad cc nL0 own fr lo) {r : Nat} {a x : Int} (hk : (r, 9) ∈ ks) (h0 : 0 ≤ a) (h1 : a < 20) (d : decode cc pc = .ok (.iastore, 1)) (kk : Z E (us S r (up (S r) (55 + 22 * a) x)) (pc + 1) L st) : Z E S pc L (.int (i32 x) :: .int (i32 a) :: .ref (ad r 9) :: st) := z_iast (n := 20) (off := (of22 55)) hE (55 + 22 * a) hk (fun _ => rfl) h0 h1 (by decide) (by unfold of22; simp only [Int.zero_add]) (ko_9 h0 h1) (fun i e => by unfold of22 at e; omega) d kk
theorem al_10 (hE : zG E l0 D0 cI0 cJ0 ad cc nL0 own fr lo) {r : Nat} {a : Int} (hk : (r, 10) ∈ ks) (h0 : 0 ≤ a) (h1 : a < 20) (d : decode cc pc = .ok (.iaload, 1)) (kk : Z E S (pc + 1) L (.int (i32 (S r (56 + 22 * a))) :: st)) : Z E S pc L (.int (i32 a) :: .ref (ad r 10) :: st) := z_iald (n := 20) (off := (of22 56)) hE hk rfl h0 h1 (by decide) (by unfold of22; simp only [Int.zero_add]) d kk
theorem as_10 (hE : zG E l0 D0 cI0 cJ0 ad cc nL0 own fr lo) {r : Nat} {a x : Int} (hk : (r, 10) ∈ ks) (h0 : 0 ≤ a) (h1 : a < 20) (d : decode cc pc = .ok (.iastore, 1)) (kk : Z E (us S r (up (S r) (56 + 22 * a) x)) (pc + 1) L st) : Z E S pc L (.int (i32 x) :: .int (i32 a) :: .ref (ad r 10) :: st) := z_iast (n := 20) (off := (of22 56)) hE (56 + 22 * a) hk (fun _ => rfl) h0 h1 (by decide) (by unfold of22; simp only [Int.zero_add]) (ko_10 h0 h1) (fun i e => by unfold of22 at e; omega) d kk
theorem al_11 (hE : zG E l0 D0 cI0 cJ0 ad cc nL0 own fr lo) {r : Nat} {a : Int} (hk : (r, 11) ∈ ks) (h0 : 0 ≤ a) (h1 : a < 20) (d : decode cc pc = .ok (.iaload, 1)) (kk : Z E S (pc + 1) L (.int (i32 (S r (58 + 22 * a))) :: st)) : Z E S pc L (.int (i32 a) :: .ref (ad r 11) :: st) := z_iald (n := 20) (off := (of22 58)) hE hk rfl h0 h1 (by decide) (by unfold of22; simp only [Int.zero_add]) d kk
theorem as_11 (hE : zG E l0 D0 cI0 cJ0 ad cc nL0 own fr lo) {r : Nat} {a x : Int} (hk : (r, 11) ∈ ks) (h0 : 0 ≤ a) (h1 : a < 20) (d : decode cc pc = .ok (.iastore, 1)) (kk : Z E (us S r (up (S r) (58 + 22 * a) x)) (pc + 1) L st) : Z E S pc L (.int (i32 x) :: .int (i32 a) :: .ref (ad r 11) :: st) := z_iast (n := 20) (off := (of22 58)) hE (58 + 22 * a) hk (fun _ => rfl) h0 h1 (by decide) (by unfold of22; simp only [Int.zero_add]) (ko_11 h0 h1) (fun i e => by unfold of22 at e; omega) d kk
theorem al_12 (hE : zG E l0 D0 cI0 cJ0 ad cc nL0 own fr lo) {r : Nat} {a : Int} (hk : (r, 12) ∈ ks) (h0 : 0 ≤ a) (h1 : a < 20) (d : decode cc pc = .ok (.iaload, 1)) (kk : Z E S (pc + 1) L (.int (i32 (S r (57 + 22 * a))) :: st)) : Z E S pc L (.int (i32 a) :: .ref (ad r 12) :: st) := z_iald (n := 20) (off := (of22 57)) hE hk rfl h0 h1 (by decide) (by unfold of22; simp only [Int.zero_add]) d kk
theorem as_12 (hE : zG E l0 D0 cI0 cJ0 ad cc nL0 own fr lo) {r : Nat} {a x : Int} (hk : (r, 12) ∈ ks) (h0 : 0 ≤ a) (h1 : a < 20) (d : decode cc pc = .ok (.iastore, 1)) (kk : Z E (us S r (up (S r) (57 + 22 * a) x)) (pc + 1) L st) : Z E S pc L (.int (i32 x) :: .int (i32 a) :: .ref (ad r 12) :: st) := z_iast (n := 20) (off := (of22 57)) hE (57 + 22 * a) hk (fun _ => rfl) h0 h1 (by decide) (by unfold of22; simp only [Int.zero_add]) (ko_12 h0 h1) (fun i e => by unfold of22 at e; omega) d kk
theorem al_13 (hE : zG E l0 D0 cI0 cJ0 ad cc nL0 own fr lo) {r : Nat} {a : Int} (hk : (r, 13) ∈ ks) (h0 : 0 ≤ a) (h1 : a < 20) (d : decode cc pc = .ok (.iaload, 1)) (kk : Z E S (pc + 1) L (.int (i32 (S r (59 + 22 * a))) :: st)) : Z E S pc L (.int (i32 a) :: .ref (ad r 13) :: st) := z_iald (n := 20) (off := (of22 59)) hE hk rfl h0 h1 (by decide) (by unfold of22; simp only [Int.zero_add]) d kk
theorem as_13 (hE : zG E l0 D0 cI0 cJ0 ad cc nL0 own fr lo) {r : Nat} {a x : Int} (hk : (r, 13) ∈ ks) (h0 : 0 ≤ a) (h1 : a < 20) (d : decode cc pc = .ok (.iastore, 1)) (kk : Z E (us S r (up (S r) (59 + 22 * a) x)) (pc + 1) L st) : Z E S pc L (.int (i32 x) :: .int (i32 a) :: .ref (ad r 13) :: st) := z_iast (n := 20) (off := (of22 59)) hE (59 + 22 * a) hk (fun _ => rfl) h0 h1 (by decide) (by unfold of22; simp only [Int.zero_add]) (ko_13 h0 h1) (fun i e => by unfold of22 at e; omega) d kk
theorem al_14 (hE : zG E l0 D0 cI0 cJ0 ad cc nL0 own fr lo) {r : Nat} {a : Int} (hk : (r, 14) ∈ ks) (h0 : 0 ≤ a) (h1 : a < 20) (d : decode cc pc = .ok (.iaload, 1)) (kk : Z E S (pc + 1) L (.int (i32 (S r (645 + a))) :: st)) : Z E S pc L (.int (i32 a) :: .ref (ad r 14) :: st) := z_iald (n := 20) (off := (of1 645)) hE hk rfl h0 h1 (by decide) (by unfold of1; simp only [Int.zero_add]) d kk
theorem as_14 (hE : zG E l0 D0 cI0 cJ0 ad cc nL0 own fr lo) {r : Nat} {a x : Int} (hk : (r, 14) ∈ ks) (h0 : 0 ≤ a) (h1 : a < 20) (d : decode cc pc = .ok (.iastore, 1)) (kk : Z E (us S r (up (S r) (645 + a) x)) (pc + 1) L st) : Z E S pc L (.int (i32 x) :: .int (i32 a) :: .ref (ad r 14) :: st) := z_iast (n := 20) (off := (of1 645)) hE (645 + a) hk (fun _ => rfl) h0 h1 (by decide) (by unfold of1; simp only [Int.zero_add]) (ko_14 h0 h1) (fun i e => by unfold of1 at e; omega) d kk
theorem al_15 (hE : zG E l0 D0 cI0 cJ0 ad cc nL0 own fr lo) {r : Nat} {a : Int} (q : Int) (hk : (r, 15) ∈ ks) (h0 : 0 ≤ a) (h1 : a < 80) (hq : ofS a = q) (d : decode cc pc = .ok (.iaload, 1)) (kk : Z E S (pc + 1) L (.int (i32 (S r q)) :: st)) : Z E S pc L (.int (i32 a) :: .ref (ad r 15) :: st) := z_iald (n := 80) (off := ofS) hE hk rfl h0 h1 (by decide) (by rw [hq]) d kk
theorem as_15 (hE : zG E l0 D0 cI0 cJ0 ad cc nL0 own fr lo) {r : Nat} {a x : Int} (q : Int) (hk : (r, 15) ∈ ks) (h0 : 0 ≤ a) (h1 : a < 80) (hq : ofS a = q) (d : decode cc pc = .ok (.iastore, 1)) (kk : Z E (us S r (up (S r) q x)) (pc + 1) L st) : Z E S pc L (.int (i32 x) :: .int (i32 a) :: .ref (ad r 15) :: st) := z_iast (n := 80) (off := ofS) hE q hk (fun _ => rfl) h0 h1 (by decide) hq (ko_15 h0 h1) (fun i e => by unfold ofS at e; omega) d kk
theorem al_16 (hE : zG E l0 D0 cI0 cJ0 ad cc nL0 own fr lo) {r : Nat} {a : Int} (q : Int) (hk : (r, 16) ∈ ks) (h0 : 0 ≤ a) (h1 : a < 240) (hq : ofC a = q) (d : decode cc pc = .ok (.iaload, 1)) (kk : Z E S (pc + 1) L (.int (i32 (S r q)) :: st)) : Z E S pc L (.int (i32 a) :: .ref (ad r 16) :: st) := z_iald (n := 240) (off := ofC) hE hk rfl h0 h1 (by decide) (by rw [hq]) d kk
theorem as_16 (hE : zG E l0 D0 cI0 cJ0 ad cc nL0 own fr lo) {r : Nat} {a x : Int} (q : Int) (hk : (r, 16) ∈ ks) (h0 : 0 ≤ a) (h1 : a < 240) (hq : ofC a = q) (d : decode cc pc = .ok (.iastore, 1)) (kk : Z E (us S r (up (S r) q x)) (pc + 1) L st) : Z E S pc L (.int (i32 x) :: .int (i32 a) :: .ref (ad r 16) :: st) := z_iast (n := 240) (off := ofC) hE q hk (fun _ => rfl) h0 h1 (by decide) hq (ko_16 h0 h1) (fun i e => by unfold ofC at e; omega) d kk
theorem al_18 (hE : zG E l0 D0 cI0 cJ0 ad cc nL0 own fr lo) {r : Nat} {a : Int} (hk : (r, 18) ∈ ks) (h0 : 0 ≤ a) (h1 : a < 10) (d : decode cc pc = .ok (.iaload, 1)) (kk : Z E S (pc + 1) L (.int (i32 (S r (495 + 15 * a))) :: st)) : Z E S pc L (.int (i32 a) :: .ref (ad r 18) :: st) := z_iald (n := 10) (off := (of15 495)) hE hk rfl h0 h1 (by decide) (by unfold of15; simp only [Int.zero_add]) d kk
theorem as_18 (hE : zG E l0 D0 cI0 cJ0 ad cc nL0 own fr lo) {r : Nat} {a x : Int} (hk : (r, 18) ∈ ks) (h0 : 0 ≤ a) (h1 : a < 10) (d : decode cc pc = .ok (.iastore, 1)) (kk : Z E (us S r (up (S r) (495 + 15 * a) x)) (pc + 1) L st) : Z E S pc L (.int (i32 x) :: .int (i32 a) :: .ref (ad r 18) :: st) := z_iast (n := 10) (off := (of15 495)) hE (495 + 15 * a) hk (fun _ => rfl) h0 h1 (by decide) (by unfold of15; simp only [Int.zero_add]) (ko_18 h0 h1) (fun i e => by unfold of15 at e; omega) d kk
theorem al_19 (hE : zG E l0 D0 cI0 cJ0 ad cc nL0 own fr lo) {r : Nat} {a : Int} (hk : (r, 19) ∈ ks) (h0 : 0 ≤ a) (h1 : a < 10) (d : decode cc pc = .ok (.iaload, 1)) (kk : Z E S (pc + 1) L (.int (i32 (S r (496 + 15 * a))) :: st)) : Z E S pc L (.int (i32 a) :: .ref (ad r 19) :: st) := z_iald (n := 10) (off := (of15 496)) hE hk rfl h0 h1 (by decide) (by unfold of15; simp only [Int.zero_add]) d kk
theorem as_19 (hE : zG E l0 D0 cI0 cJ0 ad cc nL0 own fr lo) {r : Nat} {a x : Int} (hk : (r, 19) ∈ ks) (h0 : 0 ≤ a) (h1 : a < 10) (d : decode cc pc = .ok (.iastore, 1)) (kk : Z E (us S r (up (S r) (496 + 15 * a) x)) (pc + 1) L st) : Z E S pc L (.int (i32 x) :: .int (i32 a) :: .ref (ad r 19) :: st) := z_iast (n := 10) (off := (of15 496)) hE (496 + 15 * a) hk (fun _ => rfl) h0 h1 (by decide) (by unfold of15; simp only [Int.zero_add]) (ko_19 h0 h1) (fun i e => by unfold of15 at e; omega) d kk
theorem al_20 (hE : zG E l0 D0 cI0 cJ0 ad cc nL0 own fr lo) {r : Nat} {a : Int} (hk : (r, 20) ∈ ks) (h0 : 0 ≤ a) (h1 : a < 10) (d : decode cc pc = .ok (.iaload, 1)) (kk : Z E S (pc + 1) L (.int (i32 (S r (497 + 15 * a))) :: st)) : Z E S pc L (.int (i32 a) :: .ref (ad r 20) :: st) := z_iald (n := 10) (off := (of15 497)) hE hk rfl h0 h1 (by decide) (by unfold of15; simp only [Int.zero_add]) d kk
theorem as_20 (hE : zG E l0 D0 cI0 cJ0 ad cc nL0 own fr lo) {r : Nat} {a x : Int} (hk : (r, 20) ∈ ks) (h0 : 0 ≤ a) (h1 : a < 10) (d : decode cc pc = .ok (.iastore, 1)) (kk : Z E (us S r (up (S r) (497 + 15 * a) x)) (pc + 1) L st) : Z E S pc L (.int (i32 x) :: .int (i32 a) :: .ref (ad r 20) :: st) := z_iast (n := 10) (off := (of15 497)) hE (497 + 15 * a) hk (fun _ => rfl) h0 h1 (by decide) (by unfold of15; simp only [Int.zero_add]) (ko_20 h0 h1) (fun i e => by unfold of15 at e; omega) d kk
theorem al_21 (hE : zG E l0 D0 cI0 cJ0 ad cc nL0 own fr lo) {r : Nat} {a : Int} (q : Int) (hk : (r, 21) ∈ ks) (h0 : 0 ≤ a) (h1 : a < 120) (hq : ofB a = q) (d : decode cc pc = .ok (.iaload, 1)) (kk : Z E S (pc + 1) L (.int (i32 (S r q)) :: st)) : Z E S pc L (.int (i32 a) :: .ref (ad r 21) :: st) := z_iald (n := 120) (off := ofB) hE hk rfl h0 h1 (by decide) (by rw [hq]) d kk
theorem as_21 (hE : zG E l0 D0 cI0 cJ0 ad cc nL0 own fr lo) {r : Nat} {a x : Int} (q : Int) (hk : (r, 21) ∈ ks) (h0 : 0 ≤ a) (h1 : a < 120) (hq : ofB a = q) (d : decode cc pc = .ok (.iastore, 1)) (kk : Z E (us S r (up (S r) q x)) (pc + 1) L st) : Z E S pc L (.int (i32 x) :: .int (i32 a) :: .ref (ad r 21) :: st) := z_iast (n := 120) (off := ofB) hE q hk (fun _ => rfl) h0 h1 (by decide) hq (ko_21 h0 h1) (fun i e => by unfold ofB at e; omega) d kk
theorem al_24 (hE : zG E l0 D0 cI0 cJ0 ad cc nL0 own fr lo) {r : Nat} {a : Int} (hk : (r, 24) ∈ ks) (h0 : 0 ≤ a) (h1 : a < 12) (d : decode cc pc = .ok (.iaload, 1)) (kk : Z E S (pc + 1) L (.int (i32 (S r (100 + a))) :: st)) : Z E S pc L (.int (i32 a) :: .ref (ad r 24) :: st) := z_iald (n := 12) (off := (of1 100)) hE hk rfl h0 h1 (by decide) (by unfold of1; simp only [Int.zero_add]) d kk
theorem as_24 (hE : zG E l0 D0 cI0 cJ0 ad cc nL0 own fr lo) {r : Nat} {a x : Int} (hk : (r, 24) ∈ ks) (h0 : 0 ≤ a) (h1 : a < 12) (d : decode cc pc = .ok (.iastore, 1)) (kk : Z E (us S r (up (S r) (100 + a) x)) (pc + 1) L st) : Z E S pc L (.int (i32 x) :: .int (i32 a) :: .ref (ad r 24) :: st) := z_iast (n := 12) (off := (of1 100)) hE (100 + a) hk (fun _ => rfl) h0 h1 (by decide) (by unfold of1; simp only [Int.zero_add]) (ko_24 h0 h1) (fun i e => by unfold of1 at e; omega) d kk
theorem al_25 (hE : zG E l0 D0 cI0 cJ0 ad cc nL0 own fr lo) {r : Nat} {a : Int} (hk : (r, 25) ∈ ks) (h0 : 0 ≤ a) (h1 : a < 12) (d : decode cc pc = .ok (.iaload, 1)) (kk : Z E S (pc + 1) L (.int (i32 (S r (200 + a))) :: st)) : Z E S pc L (.int (i32 a) :: .ref (ad r 25) :: st) := z_iald (n := 12) (off := (of1 200)) hE hk rfl h0 h1 (by decide) (by unfold of1; simp only [Int.zero_add]) d kk
theorem as_25 (hE : zG E l0 D0 cI0 cJ0 ad cc nL0 own fr lo) {r : Nat} {a x : Int} (hk : (r, 25) ∈ ks) (h0 : 0 ≤ a) (h1 : a < 12) (d : decode cc pc = .ok (.iastore, 1)) (kk : Z E (us S r (up (S r) (200 + a) x)) (pc + 1) L st) : Z E S pc L (.int (i32 x) :: .int (i32 a) :: .ref (ad r 25) :: st) := z_iast (n := 12) (off := (of1 200)) hE (200 + a) hk (fun _ => rfl) h0 h1 (by decide) (by unfold of1; simp only [Int.zero_add]) (ko_25 h0 h1) (fun i e => by unfold of1 at e; omega) d kk
theorem al_26 (hE : zG E l0 D0 cI0 cJ0 ad cc nL0 own fr lo) {r : Nat} {a : Int} (hk : (r, 26) ∈ ks) (h0 : 0 ≤ a) (h1 : a < 12) (d : decode cc pc = .ok (.iaload, 1)) (kk : Z E S (pc + 1) L (.int (i32 (S r (300 + a))) :: st)) : Z E S pc L (.int (i32 a) :: .ref (ad r 26) :: st) := z_iald (n := 12) (off := (of1 300)) hE hk rfl h0 h1 (by decide) (by unfold of1; simp only [Int.zero_add]) d kk
theorem as_26 (hE : zG E l0 D0 cI0 cJ0 ad cc nL0 own fr lo) {r : Nat} {a x : Int} (hk : (r, 26) ∈ ks) (h0 : 0 ≤ a) (h1 : a < 12) (d : decode cc pc = .ok (.iastore, 1)) (kk : Z E (us S r (up (S r) (300 + a) x)) (pc + 1) L st) : Z E S pc L (.int (i32 x) :: .int (i32 a) :: .ref (ad r 26) :: st) := z_iast (n := 12) (off := (of1 300)) hE (300 + a) hk (fun _ => rfl) h0 h1 (by decide) (by unfold of1; simp only [Int.zero_add]) (ko_26 h0 h1) (fun i e => by unfold of1 at e; omega) d kk
theorem al_27 (hE : zG E l0 D0 cI0 cJ0 ad cc nL0 own fr lo) {r : Nat} {a : Int} (hk : (r, 27) ∈ ks) (h0 : 0 ≤ a) (h1 : a < 20) (d : decode cc pc = .ok (.iaload, 1)) (kk : Z E S (pc + 1) L (.int (i32 (S r (100 + a))) :: st)) : Z E S pc L (.int (i32 a) :: .ref (ad r 27) :: st) := z_iald (n := 20) (off := (of1 100)) hE hk rfl h0 h1 (by decide) (by unfold of1; simp only [Int.zero_add]) d kk
theorem as_27 (hE : zG E l0 D0 cI0 cJ0 ad cc nL0 own fr lo) {r : Nat} {a x : Int} (hk : (r, 27) ∈ ks) (h0 : 0 ≤ a) (h1 : a < 20) (d : decode cc pc = .ok (.iastore, 1)) (kk : Z E (us S r (up (S r) (100 + a) x)) (pc + 1) L st) : Z E S pc L (.int (i32 x) :: .int (i32 a) :: .ref (ad r 27) :: st) := z_iast (n := 20) (off := (of1 100)) hE (100 + a) hk (fun _ => rfl) h0 h1 (by decide) (by unfold of1; simp only [Int.zero_add]) (ko_27 h0 h1) (fun i e => by unfold of1 at e; omega) d kk
theorem al_28 (hE : zG E l0 D0 cI0 cJ0 ad cc nL0 own fr lo) {r : Nat} {a : Int} (hk : (r, 28) ∈ ks) (h0 : 0 ≤ a) (h1 : a < 20) (d : decode cc pc = .ok (.iaload, 1)) (kk : Z E S (pc + 1) L (.int (i32 (S r (200 + a))) :: st)) : Z E S pc L (.int (i32 a) :: .ref (ad r 28) :: st) := z_iald (n := 20) (off := (of1 200)) hE hk rfl h0 h1 (by decide) (by unfold of1; simp only [Int.zero_add]) d kk
theorem as_28 (hE : zG E l0 D0 cI0 cJ0 ad cc nL0 own fr lo) {r : Nat} {a x : Int} (hk : (r, 28) ∈ ks) (h0 : 0 ≤ a) (h1 : a < 20) (d : decode cc pc = .ok (.iastore, 1)) (kk : Z E (us S r (up (S r) (200 + a) x)) (pc + 1) L st) : Z E S pc L (.int (i32 x) :: .int (i32 a) :: .ref (ad r 28) :: st) := z_iast (n := 20) (off := (of1 200)) hE (200 + a) hk (fun _ => rfl) h0 h1 (by decide) (by unfold of1; simp only [Int.zero_add]) (ko_28 h0 h1) (fun i e => by unfold of1 at e; omega) d kk
end ZF
section ZC
variable {E : zE} {l0 : Launch} {D0 : va_G} {cI0 cJ0 : ClassId} {ad : Nat → Nat → Nat} {cc : ByteArray} {nL0 fr lo : Nat} {own : String} {S : zM} {pc : Nat} {L : List (Nat × Value)} {st : List Value}
theorem ac_2 (hE : zG E l0 D0 cI0 cJ0 ad cc nL0 own fr lo) {r1 r2 index : Nat} (hk1 : (r1, 2) ∈ ks) (hk2 : (r2, 2) ∈ ks) (hw : Cond.methodLink own index arraycopyName ∈ wsL_law) (hfr : 1 ≤ fr) (hlo : (st.map fun v => v.category).sum + (nativeFrameWords "java/lang/System" "arraycopy" 5 + 11) ≤ lo) (d : decode cc pc = .ok (.invokestatic index, 3)) (kk : Z E (us S r2 (fun q => if kyA q = 2 then S r1 q else S r2 q)) (pc + 3) L st) : Z E S pc L (.int (i32 12) :: .int (i32 0) :: .ref (ad r2 2) :: .int (i32 0) :: .ref (ad r1 2) :: st) := by
  obtain ⟨p, l, e, R, s, m, args, below, meth, c, Q, A, D, cI, cJ, ad1, nL, cells, slots⟩ := E
  obtain ⟨⟨rfl, rfl, rfl, rfl, rfl, rfl⟩, hx, hb, hml, hown, hts, ⟨hf1, hf2, hf3, hf4⟩, hK, hD, hA, hN⟩ := hE
  intro H locs ls hS hP hl
  obtain ⟨q1, -, g1⟩ := wl_get (ad := ad1) hk1
  obtain ⟨q2, hp, g2⟩ := wl_get (ad := ad1) hk2
  have e0 : (i32 0).toNatClampNeg = 0 := rfl
  have en : (i32 12).toNatClampNeg = 12 := rfl
  refine va_copyi hx hb (hml.trans hl.1.symm) hown (hts _ hw) (hts _ zv_arraycopyName) (hts _ zt_arraycopyName) (hts _ zn_java_lang_System) hK hP (wl_D hD) hS q1 q2 0 0 (g1 _) (g2 _) rfl rfl rfl (by decide) (by decide) (by decide) (by decide) (by decide) (fun i hi => rfl) (by omega) (by omega) d (fun H1 locs1 hP1 hD1 hS1 => ?_)
  rw [wl_set hp, e0, en, cf_all (fun q => if kyA q = 2 then S r1 q else S r2 q) hk2 (fun q hq => if_neg (fun e => hq ((kz_A (by decide)).mpr e))) ?_] at hP1
  · exact kk H1 locs1 ls hS1 hP1 hl
  · have e9 : va_cpy (cz 12 (S r1) (of3 19)) (cz 12 (S r2) (of3 19)) 0 0 12 = cz 12 (fun q => if kyA q = 2 then S r1 q else S r2 q) (of3 19) := by
      funext k
      by_cases hk : k < 12
      · rw [pk_cpy_in (by omega) (by omega), cz_at hk, show 0 + (k - 0) = k by omega, cz_at hk, if_pos ((kz_A (by decide)).mp (ko_2 (by omega) (by omega)))]
      · rw [pk_cpy_out (by omega)]; unfold cz; rw [if_neg hk, if_neg hk]
    rw [e9]; simp only [cf, us_eq]
theorem ac_3 (hE : zG E l0 D0 cI0 cJ0 ad cc nL0 own fr lo) {r1 r2 index : Nat} (hk1 : (r1, 3) ∈ ks) (hk2 : (r2, 3) ∈ ks) (hw : Cond.methodLink own index arraycopyName ∈ wsL_law) (hfr : 1 ≤ fr) (hlo : (st.map fun v => v.category).sum + (nativeFrameWords "java/lang/System" "arraycopy" 5 + 11) ≤ lo) (d : decode cc pc = .ok (.invokestatic index, 3)) (kk : Z E (us S r2 (fun q => if kyA q = 3 then S r1 q else S r2 q)) (pc + 3) L st) : Z E S pc L (.int (i32 12) :: .int (i32 0) :: .ref (ad r2 3) :: .int (i32 0) :: .ref (ad r1 3) :: st) := by
  obtain ⟨p, l, e, R, s, m, args, below, meth, c, Q, A, D, cI, cJ, ad1, nL, cells, slots⟩ := E
  obtain ⟨⟨rfl, rfl, rfl, rfl, rfl, rfl⟩, hx, hb, hml, hown, hts, ⟨hf1, hf2, hf3, hf4⟩, hK, hD, hA, hN⟩ := hE
  intro H locs ls hS hP hl
  obtain ⟨q1, -, g1⟩ := wl_get (ad := ad1) hk1
  obtain ⟨q2, hp, g2⟩ := wl_get (ad := ad1) hk2
  have e0 : (i32 0).toNatClampNeg = 0 := rfl
  have en : (i32 12).toNatClampNeg = 12 := rfl
  refine va_copyi hx hb (hml.trans hl.1.symm) hown (hts _ hw) (hts _ zv_arraycopyName) (hts _ zt_arraycopyName) (hts _ zn_java_lang_System) hK hP (wl_D hD) hS q1 q2 0 0 (g1 _) (g2 _) rfl rfl rfl (by decide) (by decide) (by decide) (by decide) (by decide) (fun i hi => rfl) (by omega) (by omega) d (fun H1 locs1 hP1 hD1 hS1 => ?_)
  rw [wl_set hp, e0, en, cf_all (fun q => if kyA q = 3 then S r1 q else S r2 q) hk2 (fun q hq => if_neg (fun e => hq ((kz_A (by decide)).mpr e))) ?_] at hP1
  · exact kk H1 locs1 ls hS1 hP1 hl
  · have e9 : va_cpy (cz 12 (S r1) (of3 20)) (cz 12 (S r2) (of3 20)) 0 0 12 = cz 12 (fun q => if kyA q = 3 then S r1 q else S r2 q) (of3 20) := by
      funext k
      by_cases hk : k < 12
      · rw [pk_cpy_in (by omega) (by omega), cz_at hk, show 0 + (k - 0) = k by omega, cz_at hk, if_pos ((kz_A (by decide)).mp (ko_3 (by omega) (by omega)))]
      · rw [pk_cpy_out (by omega)]; unfold cz; rw [if_neg hk, if_neg hk]
    rw [e9]; simp only [cf, us_eq]
theorem ac_4 (hE : zG E l0 D0 cI0 cJ0 ad cc nL0 own fr lo) {r1 r2 index : Nat} (hk1 : (r1, 4) ∈ ks) (hk2 : (r2, 4) ∈ ks) (hw : Cond.methodLink own index arraycopyName ∈ wsL_law) (hfr : 1 ≤ fr) (hlo : (st.map fun v => v.category).sum + (nativeFrameWords "java/lang/System" "arraycopy" 5 + 11) ≤ lo) (d : decode cc pc = .ok (.invokestatic index, 3)) (kk : Z E (us S r2 (fun q => if kyA q = 4 then S r1 q else S r2 q)) (pc + 3) L st) : Z E S pc L (.int (i32 12) :: .int (i32 0) :: .ref (ad r2 4) :: .int (i32 0) :: .ref (ad r1 4) :: st) := by
  obtain ⟨p, l, e, R, s, m, args, below, meth, c, Q, A, D, cI, cJ, ad1, nL, cells, slots⟩ := E
  obtain ⟨⟨rfl, rfl, rfl, rfl, rfl, rfl⟩, hx, hb, hml, hown, hts, ⟨hf1, hf2, hf3, hf4⟩, hK, hD, hA, hN⟩ := hE
  intro H locs ls hS hP hl
  obtain ⟨q1, -, g1⟩ := wl_get (ad := ad1) hk1
  obtain ⟨q2, hp, g2⟩ := wl_get (ad := ad1) hk2
  have e0 : (i32 0).toNatClampNeg = 0 := rfl
  have en : (i32 12).toNatClampNeg = 12 := rfl
  refine va_copyl hx hb (hml.trans hl.1.symm) hown (hts _ hw) (hts _ zv_arraycopyName) (hts _ zt_arraycopyName) (hts _ zn_java_lang_System) hK hP (wl_D hD) hS q1 q2 1 1 (g1 _) (g2 _) rfl rfl rfl (by decide) (by decide) (by decide) (by decide) (by decide) (fun i hi => rfl) (by omega) (by omega) d (fun H1 locs1 hP1 hD1 hS1 => ?_)
  rw [wl_set hp, e0, en, cf_all (fun q => if kyA q = 4 then S r1 q else S r2 q) hk2 (fun q hq => if_neg (fun e => hq ((kz_A (by decide)).mpr e))) ?_] at hP1
  · exact kk H1 locs1 ls hS1 hP1 hl
  · have e9 : va_cpy (cy 12 (S r1) (of3 21)) (cy 12 (S r2) (of3 21)) 0 0 12 = cy 12 (fun q => if kyA q = 4 then S r1 q else S r2 q) (of3 21) := by
      funext k
      by_cases hk : k < 12
      · rw [pk_cpy_in (by omega) (by omega), cy_at hk, show 0 + (k - 0) = k by omega, cy_at hk, if_pos ((kz_A (by decide)).mp (ko_4 (by omega) (by omega)))]
      · rw [pk_cpy_out (by omega)]; unfold cy; rw [if_neg hk, if_neg hk]
    rw [e9]; simp only [cf, us_eq]
theorem ac_7 (hE : zG E l0 D0 cI0 cJ0 ad cc nL0 own fr lo) {r1 r2 index : Nat} (hk1 : (r1, 7) ∈ ks) (hk2 : (r2, 7) ∈ ks) (hw : Cond.methodLink own index arraycopyName ∈ wsL_law) (hfr : 1 ≤ fr) (hlo : (st.map fun v => v.category).sum + (nativeFrameWords "java/lang/System" "arraycopy" 5 + 11) ≤ lo) (d : decode cc pc = .ok (.invokestatic index, 3)) (kk : Z E (us S r2 (fun q => if kyA q = 7 then S r1 q else S r2 q)) (pc + 3) L st) : Z E S pc L (.int (i32 3) :: .int (i32 0) :: .ref (ad r2 7) :: .int (i32 0) :: .ref (ad r1 7) :: st) := by
  obtain ⟨p, l, e, R, s, m, args, below, meth, c, Q, A, D, cI, cJ, ad1, nL, cells, slots⟩ := E
  obtain ⟨⟨rfl, rfl, rfl, rfl, rfl, rfl⟩, hx, hb, hml, hown, hts, ⟨hf1, hf2, hf3, hf4⟩, hK, hD, hA, hN⟩ := hE
  intro H locs ls hS hP hl
  obtain ⟨q1, -, g1⟩ := wl_get (ad := ad1) hk1
  obtain ⟨q2, hp, g2⟩ := wl_get (ad := ad1) hk2
  have e0 : (i32 0).toNatClampNeg = 0 := rfl
  have en : (i32 3).toNatClampNeg = 3 := rfl
  refine va_copyi hx hb (hml.trans hl.1.symm) hown (hts _ hw) (hts _ zv_arraycopyName) (hts _ zt_arraycopyName) (hts _ zn_java_lang_System) hK hP (wl_D hD) hS q1 q2 0 0 (g1 _) (g2 _) rfl rfl rfl (by decide) (by decide) (by decide) (by decide) (by decide) (fun i hi => rfl) (by omega) (by omega) d (fun H1 locs1 hP1 hD1 hS1 => ?_)
  rw [wl_set hp, e0, en, cf_all (fun q => if kyA q = 7 then S r1 q else S r2 q) hk2 (fun q hq => if_neg (fun e => hq ((kz_A (by decide)).mpr e))) ?_] at hP1
  · exact kk H1 locs1 ls hS1 hP1 hl
  · have e9 : va_cpy (cz 3 (S r1) (of1 10)) (cz 3 (S r2) (of1 10)) 0 0 3 = cz 3 (fun q => if kyA q = 7 then S r1 q else S r2 q) (of1 10) := by
      funext k
      by_cases hk : k < 3
      · rw [pk_cpy_in (by omega) (by omega), cz_at hk, show 0 + (k - 0) = k by omega, cz_at hk, if_pos ((kz_A (by decide)).mp (ko_7 (by omega) (by omega)))]
      · rw [pk_cpy_out (by omega)]; unfold cz; rw [if_neg hk, if_neg hk]
    rw [e9]; simp only [cf, us_eq]
theorem ac_9 (hE : zG E l0 D0 cI0 cJ0 ad cc nL0 own fr lo) {r1 r2 index : Nat} (hk1 : (r1, 9) ∈ ks) (hk2 : (r2, 9) ∈ ks) (hw : Cond.methodLink own index arraycopyName ∈ wsL_law) (hfr : 1 ≤ fr) (hlo : (st.map fun v => v.category).sum + (nativeFrameWords "java/lang/System" "arraycopy" 5 + 11) ≤ lo) (d : decode cc pc = .ok (.invokestatic index, 3)) (kk : Z E (us S r2 (fun q => if kyA q = 9 then S r1 q else S r2 q)) (pc + 3) L st) : Z E S pc L (.int (i32 20) :: .int (i32 0) :: .ref (ad r2 9) :: .int (i32 0) :: .ref (ad r1 9) :: st) := by
  obtain ⟨p, l, e, R, s, m, args, below, meth, c, Q, A, D, cI, cJ, ad1, nL, cells, slots⟩ := E
  obtain ⟨⟨rfl, rfl, rfl, rfl, rfl, rfl⟩, hx, hb, hml, hown, hts, ⟨hf1, hf2, hf3, hf4⟩, hK, hD, hA, hN⟩ := hE
  intro H locs ls hS hP hl
  obtain ⟨q1, -, g1⟩ := wl_get (ad := ad1) hk1
  obtain ⟨q2, hp, g2⟩ := wl_get (ad := ad1) hk2
  have e0 : (i32 0).toNatClampNeg = 0 := rfl
  have en : (i32 20).toNatClampNeg = 20 := rfl
  refine va_copyi hx hb (hml.trans hl.1.symm) hown (hts _ hw) (hts _ zv_arraycopyName) (hts _ zt_arraycopyName) (hts _ zn_java_lang_System) hK hP (wl_D hD) hS q1 q2 0 0 (g1 _) (g2 _) rfl rfl rfl (by decide) (by decide) (by decide) (by decide) (by decide) (fun i hi => rfl) (by omega) (by omega) d (fun H1 locs1 hP1 hD1 hS1 => ?_)
  rw [wl_set hp, e0, en, cf_all (fun q => if kyA q = 9 then S r1 q else S r2 q) hk2 (fun q hq => if_neg (fun e => hq ((kz_A (by decide)).mpr e))) ?_] at hP1
  · exact kk H1 locs1 ls hS1 hP1 hl
  · have e9 : va_cpy (cz 20 (S r1) (of22 55)) (cz 20 (S r2) (of22 55)) 0 0 20 = cz 20 (fun q => if kyA q = 9 then S r1 q else S r2 q) (of22 55) := by
      funext k
      by_cases hk : k < 20
      · rw [pk_cpy_in (by omega) (by omega), cz_at hk, show 0 + (k - 0) = k by omega, cz_at hk, if_pos ((kz_A (by decide)).mp (ko_9 (by omega) (by omega)))]
      · rw [pk_cpy_out (by omega)]; unfold cz; rw [if_neg hk, if_neg hk]
    rw [e9]; simp only [cf, us_eq]
theorem ac_10 (hE : zG E l0 D0 cI0 cJ0 ad cc nL0 own fr lo) {r1 r2 index : Nat} (hk1 : (r1, 10) ∈ ks) (hk2 : (r2, 10) ∈ ks) (hw : Cond.methodLink own index arraycopyName ∈ wsL_law) (hfr : 1 ≤ fr) (hlo : (st.map fun v => v.category).sum + (nativeFrameWords "java/lang/System" "arraycopy" 5 + 11) ≤ lo) (d : decode cc pc = .ok (.invokestatic index, 3)) (kk : Z E (us S r2 (fun q => if kyA q = 10 then S r1 q else S r2 q)) (pc + 3) L st) : Z E S pc L (.int (i32 20) :: .int (i32 0) :: .ref (ad r2 10) :: .int (i32 0) :: .ref (ad r1 10) :: st) := by
  obtain ⟨p, l, e, R, s, m, args, below, meth, c, Q, A, D, cI, cJ, ad1, nL, cells, slots⟩ := E
  obtain ⟨⟨rfl, rfl, rfl, rfl, rfl, rfl⟩, hx, hb, hml, hown, hts, ⟨hf1, hf2, hf3, hf4⟩, hK, hD, hA, hN⟩ := hE
  intro H locs ls hS hP hl
  obtain ⟨q1, -, g1⟩ := wl_get (ad := ad1) hk1
  obtain ⟨q2, hp, g2⟩ := wl_get (ad := ad1) hk2
  have e0 : (i32 0).toNatClampNeg = 0 := rfl
  have en : (i32 20).toNatClampNeg = 20 := rfl
  refine va_copyi hx hb (hml.trans hl.1.symm) hown (hts _ hw) (hts _ zv_arraycopyName) (hts _ zt_arraycopyName) (hts _ zn_java_lang_System) hK hP (wl_D hD) hS q1 q2 0 0 (g1 _) (g2 _) rfl rfl rfl (by decide) (by decide) (by decide) (by decide) (by decide) (fun i hi => rfl) (by omega) (by omega) d (fun H1 locs1 hP1 hD1 hS1 => ?_)
  rw [wl_set hp, e0, en, cf_all (fun q => if kyA q = 10 then S r1 q else S r2 q) hk2 (fun q hq => if_neg (fun e => hq ((kz_A (by decide)).mpr e))) ?_] at hP1
  · exact kk H1 locs1 ls hS1 hP1 hl
  · have e9 : va_cpy (cz 20 (S r1) (of22 56)) (cz 20 (S r2) (of22 56)) 0 0 20 = cz 20 (fun q => if kyA q = 10 then S r1 q else S r2 q) (of22 56) := by
      funext k
      by_cases hk : k < 20
      · rw [pk_cpy_in (by omega) (by omega), cz_at hk, show 0 + (k - 0) = k by omega, cz_at hk, if_pos ((kz_A (by decide)).mp (ko_10 (by omega) (by omega)))]
      · rw [pk_cpy_out (by omega)]; unfold cz; rw [if_neg hk, if_neg hk]
    rw [e9]; simp only [cf, us_eq]
theorem ac_11 (hE : zG E l0 D0 cI0 cJ0 ad cc nL0 own fr lo) {r1 r2 index : Nat} (hk1 : (r1, 11) ∈ ks) (hk2 : (r2, 11) ∈ ks) (hw : Cond.methodLink own index arraycopyName ∈ wsL_law) (hfr : 1 ≤ fr) (hlo : (st.map fun v => v.category).sum + (nativeFrameWords "java/lang/System" "arraycopy" 5 + 11) ≤ lo) (d : decode cc pc = .ok (.invokestatic index, 3)) (kk : Z E (us S r2 (fun q => if kyA q = 11 then S r1 q else S r2 q)) (pc + 3) L st) : Z E S pc L (.int (i32 20) :: .int (i32 0) :: .ref (ad r2 11) :: .int (i32 0) :: .ref (ad r1 11) :: st) := by
  obtain ⟨p, l, e, R, s, m, args, below, meth, c, Q, A, D, cI, cJ, ad1, nL, cells, slots⟩ := E
  obtain ⟨⟨rfl, rfl, rfl, rfl, rfl, rfl⟩, hx, hb, hml, hown, hts, ⟨hf1, hf2, hf3, hf4⟩, hK, hD, hA, hN⟩ := hE
  intro H locs ls hS hP hl
  obtain ⟨q1, -, g1⟩ := wl_get (ad := ad1) hk1
  obtain ⟨q2, hp, g2⟩ := wl_get (ad := ad1) hk2
  have e0 : (i32 0).toNatClampNeg = 0 := rfl
  have en : (i32 20).toNatClampNeg = 20 := rfl
  refine va_copyi hx hb (hml.trans hl.1.symm) hown (hts _ hw) (hts _ zv_arraycopyName) (hts _ zt_arraycopyName) (hts _ zn_java_lang_System) hK hP (wl_D hD) hS q1 q2 0 0 (g1 _) (g2 _) rfl rfl rfl (by decide) (by decide) (by decide) (by decide) (by decide) (fun i hi => rfl) (by omega) (by omega) d (fun H1 locs1 hP1 hD1 hS1 => ?_)
  rw [wl_set hp, e0, en, cf_all (fun q => if kyA q = 11 then S r1 q else S r2 q) hk2 (fun q hq => if_neg (fun e => hq ((kz_A (by decide)).mpr e))) ?_] at hP1
  · exact kk H1 locs1 ls hS1 hP1 hl
  · have e9 : va_cpy (cz 20 (S r1) (of22 58)) (cz 20 (S r2) (of22 58)) 0 0 20 = cz 20 (fun q => if kyA q = 11 then S r1 q else S r2 q) (of22 58) := by
      funext k
      by_cases hk : k < 20
      · rw [pk_cpy_in (by omega) (by omega), cz_at hk, show 0 + (k - 0) = k by omega, cz_at hk, if_pos ((kz_A (by decide)).mp (ko_11 (by omega) (by omega)))]
      · rw [pk_cpy_out (by omega)]; unfold cz; rw [if_neg hk, if_neg hk]
    rw [e9]; simp only [cf, us_eq]
theorem ac_12 (hE : zG E l0 D0 cI0 cJ0 ad cc nL0 own fr lo) {r1 r2 index : Nat} (hk1 : (r1, 12) ∈ ks) (hk2 : (r2, 12) ∈ ks) (hw : Cond.methodLink own index arraycopyName ∈ wsL_law) (hfr : 1 ≤ fr) (hlo : (st.map fun v => v.category).sum + (nativeFrameWords "java/lang/System" "arraycopy" 5 + 11) ≤ lo) (d : decode cc pc = .ok (.invokestatic index, 3)) (kk : Z E (us S r2 (fun q => if kyA q = 12 then S r1 q else S r2 q)) (pc + 3) L st) : Z E S pc L (.int (i32 20) :: .int (i32 0) :: .ref (ad r2 12) :: .int (i32 0) :: .ref (ad r1 12) :: st) := by
  obtain ⟨p, l, e, R, s, m, args, below, meth, c, Q, A, D, cI, cJ, ad1, nL, cells, slots⟩ := E
  obtain ⟨⟨rfl, rfl, rfl, rfl, rfl, rfl⟩, hx, hb, hml, hown, hts, ⟨hf1, hf2, hf3, hf4⟩, hK, hD, hA, hN⟩ := hE
  intro H locs ls hS hP hl
  obtain ⟨q1, -, g1⟩ := wl_get (ad := ad1) hk1
  obtain ⟨q2, hp, g2⟩ := wl_get (ad := ad1) hk2
  have e0 : (i32 0).toNatClampNeg = 0 := rfl
  have en : (i32 20).toNatClampNeg = 20 := rfl
  refine va_copyi hx hb (hml.trans hl.1.symm) hown (hts _ hw) (hts _ zv_arraycopyName) (hts _ zt_arraycopyName) (hts _ zn_java_lang_System) hK hP (wl_D hD) hS q1 q2 0 0 (g1 _) (g2 _) rfl rfl rfl (by decide) (by decide) (by decide) (by decide) (by decide) (fun i hi => rfl) (by omega) (by omega) d (fun H1 locs1 hP1 hD1 hS1 => ?_)
  rw [wl_set hp, e0, en, cf_all (fun q => if kyA q = 12 then S r1 q else S r2 q) hk2 (fun q hq => if_neg (fun e => hq ((kz_A (by decide)).mpr e))) ?_] at hP1
  · exact kk H1 locs1 ls hS1 hP1 hl
  · have e9 : va_cpy (cz 20 (S r1) (of22 57)) (cz 20 (S r2) (of22 57)) 0 0 20 = cz 20 (fun q => if kyA q = 12 then S r1 q else S r2 q) (of22 57) := by
      funext k
      by_cases hk : k < 20
      · rw [pk_cpy_in (by omega) (by omega), cz_at hk, show 0 + (k - 0) = k by omega, cz_at hk, if_pos ((kz_A (by decide)).mp (ko_12 (by omega) (by omega)))]
      · rw [pk_cpy_out (by omega)]; unfold cz; rw [if_neg hk, if_neg hk]
    rw [e9]; simp only [cf, us_eq]
theorem ac_13 (hE : zG E l0 D0 cI0 cJ0 ad cc nL0 own fr lo) {r1 r2 index : Nat} (hk1 : (r1, 13) ∈ ks) (hk2 : (r2, 13) ∈ ks) (hw : Cond.methodLink own index arraycopyName ∈ wsL_law) (hfr : 1 ≤ fr) (hlo : (st.map fun v => v.category).sum + (nativeFrameWords "java/lang/System" "arraycopy" 5 + 11) ≤ lo) (d : decode cc pc = .ok (.invokestatic index, 3)) (kk : Z E (us S r2 (fun q => if kyA q = 13 then S r1 q else S r2 q)) (pc + 3) L st) : Z E S pc L (.int (i32 20) :: .int (i32 0) :: .ref (ad r2 13) :: .int (i32 0) :: .ref (ad r1 13) :: st) := by
  obtain ⟨p, l, e, R, s, m, args, below, meth, c, Q, A, D, cI, cJ, ad1, nL, cells, slots⟩ := E
  obtain ⟨⟨rfl, rfl, rfl, rfl, rfl, rfl⟩, hx, hb, hml, hown, hts, ⟨hf1, hf2, hf3, hf4⟩, hK, hD, hA, hN⟩ := hE
  intro H locs ls hS hP hl
  obtain ⟨q1, -, g1⟩ := wl_get (ad := ad1) hk1
  obtain ⟨q2, hp, g2⟩ := wl_get (ad := ad1) hk2
  have e0 : (i32 0).toNatClampNeg = 0 := rfl
  have en : (i32 20).toNatClampNeg = 20 := rfl
  refine va_copyi hx hb (hml.trans hl.1.symm) hown (hts _ hw) (hts _ zv_arraycopyName) (hts _ zt_arraycopyName) (hts _ zn_java_lang_System) hK hP (wl_D hD) hS q1 q2 0 0 (g1 _) (g2 _) rfl rfl rfl (by decide) (by decide) (by decide) (by decide) (by decide) (fun i hi => rfl) (by omega) (by omega) d (fun H1 locs1 hP1 hD1 hS1 => ?_)
  rw [wl_set hp, e0, en, cf_all (fun q => if kyA q = 13 then S r1 q else S r2 q) hk2 (fun q hq => if_neg (fun e => hq ((kz_A (by decide)).mpr e))) ?_] at hP1
  · exact kk H1 locs1 ls hS1 hP1 hl
  · have e9 : va_cpy (cz 20 (S r1) (of22 59)) (cz 20 (S r2) (of22 59)) 0 0 20 = cz 20 (fun q => if kyA q = 13 then S r1 q else S r2 q) (of22 59) := by
      funext k
      by_cases hk : k < 20
      · rw [pk_cpy_in (by omega) (by omega), cz_at hk, show 0 + (k - 0) = k by omega, cz_at hk, if_pos ((kz_A (by decide)).mp (ko_13 (by omega) (by omega)))]
      · rw [pk_cpy_out (by omega)]; unfold cz; rw [if_neg hk, if_neg hk]
    rw [e9]; simp only [cf, us_eq]
theorem ac_14 (hE : zG E l0 D0 cI0 cJ0 ad cc nL0 own fr lo) {r1 r2 index : Nat} (hk1 : (r1, 14) ∈ ks) (hk2 : (r2, 14) ∈ ks) (hw : Cond.methodLink own index arraycopyName ∈ wsL_law) (hfr : 1 ≤ fr) (hlo : (st.map fun v => v.category).sum + (nativeFrameWords "java/lang/System" "arraycopy" 5 + 11) ≤ lo) (d : decode cc pc = .ok (.invokestatic index, 3)) (kk : Z E (us S r2 (fun q => if kyA q = 14 then S r1 q else S r2 q)) (pc + 3) L st) : Z E S pc L (.int (i32 20) :: .int (i32 0) :: .ref (ad r2 14) :: .int (i32 0) :: .ref (ad r1 14) :: st) := by
  obtain ⟨p, l, e, R, s, m, args, below, meth, c, Q, A, D, cI, cJ, ad1, nL, cells, slots⟩ := E
  obtain ⟨⟨rfl, rfl, rfl, rfl, rfl, rfl⟩, hx, hb, hml, hown, hts, ⟨hf1, hf2, hf3, hf4⟩, hK, hD, hA, hN⟩ := hE
  intro H locs ls hS hP hl
  obtain ⟨q1, -, g1⟩ := wl_get (ad := ad1) hk1
  obtain ⟨q2, hp, g2⟩ := wl_get (ad := ad1) hk2
  have e0 : (i32 0).toNatClampNeg = 0 := rfl
  have en : (i32 20).toNatClampNeg = 20 := rfl
  refine va_copyi hx hb (hml.trans hl.1.symm) hown (hts _ hw) (hts _ zv_arraycopyName) (hts _ zt_arraycopyName) (hts _ zn_java_lang_System) hK hP (wl_D hD) hS q1 q2 0 0 (g1 _) (g2 _) rfl rfl rfl (by decide) (by decide) (by decide) (by decide) (by decide) (fun i hi => rfl) (by omega) (by omega) d (fun H1 locs1 hP1 hD1 hS1 => ?_)
  rw [wl_set hp, e0, en, cf_all (fun q => if kyA q = 14 then S r1 q else S r2 q) hk2 (fun q hq => if_neg (fun e => hq ((kz_A (by decide)).mpr e))) ?_] at hP1
  · exact kk H1 locs1 ls hS1 hP1 hl
  · have e9 : va_cpy (cz 20 (S r1) (of1 645)) (cz 20 (S r2) (of1 645)) 0 0 20 = cz 20 (fun q => if kyA q = 14 then S r1 q else S r2 q) (of1 645) := by
      funext k
      by_cases hk : k < 20
      · rw [pk_cpy_in (by omega) (by omega), cz_at hk, show 0 + (k - 0) = k by omega, cz_at hk, if_pos ((kz_A (by decide)).mp (ko_14 (by omega) (by omega)))]
      · rw [pk_cpy_out (by omega)]; unfold cz; rw [if_neg hk, if_neg hk]
    rw [e9]; simp only [cf, us_eq]
theorem ac_15 (hE : zG E l0 D0 cI0 cJ0 ad cc nL0 own fr lo) {r1 r2 index : Nat} (hk1 : (r1, 15) ∈ ks) (hk2 : (r2, 15) ∈ ks) (hw : Cond.methodLink own index arraycopyName ∈ wsL_law) (hfr : 1 ≤ fr) (hlo : (st.map fun v => v.category).sum + (nativeFrameWords "java/lang/System" "arraycopy" 5 + 11) ≤ lo) (d : decode cc pc = .ok (.invokestatic index, 3)) (kk : Z E (us S r2 (fun q => if kyA q = 15 then S r1 q else S r2 q)) (pc + 3) L st) : Z E S pc L (.int (i32 80) :: .int (i32 0) :: .ref (ad r2 15) :: .int (i32 0) :: .ref (ad r1 15) :: st) := by
  obtain ⟨p, l, e, R, s, m, args, below, meth, c, Q, A, D, cI, cJ, ad1, nL, cells, slots⟩ := E
  obtain ⟨⟨rfl, rfl, rfl, rfl, rfl, rfl⟩, hx, hb, hml, hown, hts, ⟨hf1, hf2, hf3, hf4⟩, hK, hD, hA, hN⟩ := hE
  intro H locs ls hS hP hl
  obtain ⟨q1, -, g1⟩ := wl_get (ad := ad1) hk1
  obtain ⟨q2, hp, g2⟩ := wl_get (ad := ad1) hk2
  have e0 : (i32 0).toNatClampNeg = 0 := rfl
  have en : (i32 80).toNatClampNeg = 80 := rfl
  refine va_copyi hx hb (hml.trans hl.1.symm) hown (hts _ hw) (hts _ zv_arraycopyName) (hts _ zt_arraycopyName) (hts _ zn_java_lang_System) hK hP (wl_D hD) hS q1 q2 0 0 (g1 _) (g2 _) rfl rfl rfl (by decide) (by decide) (by decide) (by decide) (by decide) (fun i hi => rfl) (by omega) (by omega) d (fun H1 locs1 hP1 hD1 hS1 => ?_)
  rw [wl_set hp, e0, en, cf_all (fun q => if kyA q = 15 then S r1 q else S r2 q) hk2 (fun q hq => if_neg (fun e => hq ((kz_A (by decide)).mpr e))) ?_] at hP1
  · exact kk H1 locs1 ls hS1 hP1 hl
  · have e9 : va_cpy (cz 80 (S r1) ofS) (cz 80 (S r2) ofS) 0 0 80 = cz 80 (fun q => if kyA q = 15 then S r1 q else S r2 q) ofS := by
      funext k
      by_cases hk : k < 80
      · rw [pk_cpy_in (by omega) (by omega), cz_at hk, show 0 + (k - 0) = k by omega, cz_at hk, if_pos ((kz_A (by decide)).mp (ko_15 (by omega) (by omega)))]
      · rw [pk_cpy_out (by omega)]; unfold cz; rw [if_neg hk, if_neg hk]
    rw [e9]; simp only [cf, us_eq]
theorem ac_16 (hE : zG E l0 D0 cI0 cJ0 ad cc nL0 own fr lo) {r1 r2 index : Nat} (hk1 : (r1, 16) ∈ ks) (hk2 : (r2, 16) ∈ ks) (hw : Cond.methodLink own index arraycopyName ∈ wsL_law) (hfr : 1 ≤ fr) (hlo : (st.map fun v => v.category).sum + (nativeFrameWords "java/lang/System" "arraycopy" 5 + 11) ≤ lo) (d : decode cc pc = .ok (.invokestatic index, 3)) (kk : Z E (us S r2 (fun q => if kyA q = 16 then S r1 q else S r2 q)) (pc + 3) L st) : Z E S pc L (.int (i32 240) :: .int (i32 0) :: .ref (ad r2 16) :: .int (i32 0) :: .ref (ad r1 16) :: st) := by
  obtain ⟨p, l, e, R, s, m, args, below, meth, c, Q, A, D, cI, cJ, ad1, nL, cells, slots⟩ := E
  obtain ⟨⟨rfl, rfl, rfl, rfl, rfl, rfl⟩, hx, hb, hml, hown, hts, ⟨hf1, hf2, hf3, hf4⟩, hK, hD, hA, hN⟩ := hE
  intro H locs ls hS hP hl
  obtain ⟨q1, -, g1⟩ := wl_get (ad := ad1) hk1
  obtain ⟨q2, hp, g2⟩ := wl_get (ad := ad1) hk2
  have e0 : (i32 0).toNatClampNeg = 0 := rfl
  have en : (i32 240).toNatClampNeg = 240 := rfl
  refine va_copyi hx hb (hml.trans hl.1.symm) hown (hts _ hw) (hts _ zv_arraycopyName) (hts _ zt_arraycopyName) (hts _ zn_java_lang_System) hK hP (wl_D hD) hS q1 q2 0 0 (g1 _) (g2 _) rfl rfl rfl (by decide) (by decide) (by decide) (by decide) (by decide) (fun i hi => rfl) (by omega) (by omega) d (fun H1 locs1 hP1 hD1 hS1 => ?_)
  rw [wl_set hp, e0, en, cf_all (fun q => if kyA q = 16 then S r1 q else S r2 q) hk2 (fun q hq => if_neg (fun e => hq ((kz_A (by decide)).mpr e))) ?_] at hP1
  · exact kk H1 locs1 ls hS1 hP1 hl
  · have e9 : va_cpy (cz 240 (S r1) ofC) (cz 240 (S r2) ofC) 0 0 240 = cz 240 (fun q => if kyA q = 16 then S r1 q else S r2 q) ofC := by
      funext k
      by_cases hk : k < 240
      · rw [pk_cpy_in (by omega) (by omega), cz_at hk, show 0 + (k - 0) = k by omega, cz_at hk, if_pos ((kz_A (by decide)).mp (ko_16 (by omega) (by omega)))]
      · rw [pk_cpy_out (by omega)]; unfold cz; rw [if_neg hk, if_neg hk]
    rw [e9]; simp only [cf, us_eq]
theorem ac_18 (hE : zG E l0 D0 cI0 cJ0 ad cc nL0 own fr lo) {r1 r2 index : Nat} (hk1 : (r1, 18) ∈ ks) (hk2 : (r2, 18) ∈ ks) (hw : Cond.methodLink own index arraycopyName ∈ wsL_law) (hfr : 1 ≤ fr) (hlo : (st.map fun v => v.category).sum + (nativeFrameWords "java/lang/System" "arraycopy" 5 + 11) ≤ lo) (d : decode cc pc = .ok (.invokestatic index, 3)) (kk : Z E (us S r2 (fun q => if kyA q = 18 then S r1 q else S r2 q)) (pc + 3) L st) : Z E S pc L (.int (i32 10) :: .int (i32 0) :: .ref (ad r2 18) :: .int (i32 0) :: .ref (ad r1 18) :: st) := by
  obtain ⟨p, l, e, R, s, m, args, below, meth, c, Q, A, D, cI, cJ, ad1, nL, cells, slots⟩ := E
  obtain ⟨⟨rfl, rfl, rfl, rfl, rfl, rfl⟩, hx, hb, hml, hown, hts, ⟨hf1, hf2, hf3, hf4⟩, hK, hD, hA, hN⟩ := hE
  intro H locs ls hS hP hl
  obtain ⟨q1, -, g1⟩ := wl_get (ad := ad1) hk1
  obtain ⟨q2, hp, g2⟩ := wl_get (ad := ad1) hk2
  have e0 : (i32 0).toNatClampNeg = 0 := rfl
  have en : (i32 10).toNatClampNeg = 10 := rfl
  refine va_copyi hx hb (hml.trans hl.1.symm) hown (hts _ hw) (hts _ zv_arraycopyName) (hts _ zt_arraycopyName) (hts _ zn_java_lang_System) hK hP (wl_D hD) hS q1 q2 0 0 (g1 _) (g2 _) rfl rfl rfl (by decide) (by decide) (by decide) (by decide) (by decide) (fun i hi => rfl) (by omega) (by omega) d (fun H1 locs1 hP1 hD1 hS1 => ?_)
  rw [wl_set hp, e0, en, cf_all (fun q => if kyA q = 18 then S r1 q else S r2 q) hk2 (fun q hq => if_neg (fun e => hq ((kz_A (by decide)).mpr e))) ?_] at hP1
  · exact kk H1 locs1 ls hS1 hP1 hl
  · have e9 : va_cpy (cz 10 (S r1) (of15 495)) (cz 10 (S r2) (of15 495)) 0 0 10 = cz 10 (fun q => if kyA q = 18 then S r1 q else S r2 q) (of15 495) := by
      funext k
      by_cases hk : k < 10
      · rw [pk_cpy_in (by omega) (by omega), cz_at hk, show 0 + (k - 0) = k by omega, cz_at hk, if_pos ((kz_A (by decide)).mp (ko_18 (by omega) (by omega)))]
      · rw [pk_cpy_out (by omega)]; unfold cz; rw [if_neg hk, if_neg hk]
    rw [e9]; simp only [cf, us_eq]
theorem ac_19 (hE : zG E l0 D0 cI0 cJ0 ad cc nL0 own fr lo) {r1 r2 index : Nat} (hk1 : (r1, 19) ∈ ks) (hk2 : (r2, 19) ∈ ks) (hw : Cond.methodLink own index arraycopyName ∈ wsL_law) (hfr : 1 ≤ fr) (hlo : (st.map fun v => v.category).sum + (nativeFrameWords "java/lang/System" "arraycopy" 5 + 11) ≤ lo) (d : decode cc pc = .ok (.invokestatic index, 3)) (kk : Z E (us S r2 (fun q => if kyA q = 19 then S r1 q else S r2 q)) (pc + 3) L st) : Z E S pc L (.int (i32 10) :: .int (i32 0) :: .ref (ad r2 19) :: .int (i32 0) :: .ref (ad r1 19) :: st) := by
  obtain ⟨p, l, e, R, s, m, args, below, meth, c, Q, A, D, cI, cJ, ad1, nL, cells, slots⟩ := E
  obtain ⟨⟨rfl, rfl, rfl, rfl, rfl, rfl⟩, hx, hb, hml, hown, hts, ⟨hf1, hf2, hf3, hf4⟩, hK, hD, hA, hN⟩ := hE
  intro H locs ls hS hP hl
  obtain ⟨q1, -, g1⟩ := wl_get (ad := ad1) hk1
  obtain ⟨q2, hp, g2⟩ := wl_get (ad := ad1) hk2
  have e0 : (i32 0).toNatClampNeg = 0 := rfl
  have en : (i32 10).toNatClampNeg = 10 := rfl
  refine va_copyi hx hb (hml.trans hl.1.symm) hown (hts _ hw) (hts _ zv_arraycopyName) (hts _ zt_arraycopyName) (hts _ zn_java_lang_System) hK hP (wl_D hD) hS q1 q2 0 0 (g1 _) (g2 _) rfl rfl rfl (by decide) (by decide) (by decide) (by decide) (by decide) (fun i hi => rfl) (by omega) (by omega) d (fun H1 locs1 hP1 hD1 hS1 => ?_)
  rw [wl_set hp, e0, en, cf_all (fun q => if kyA q = 19 then S r1 q else S r2 q) hk2 (fun q hq => if_neg (fun e => hq ((kz_A (by decide)).mpr e))) ?_] at hP1
  · exact kk H1 locs1 ls hS1 hP1 hl
  · have e9 : va_cpy (cz 10 (S r1) (of15 496)) (cz 10 (S r2) (of15 496)) 0 0 10 = cz 10 (fun q => if kyA q = 19 then S r1 q else S r2 q) (of15 496) := by
      funext k
      by_cases hk : k < 10
      · rw [pk_cpy_in (by omega) (by omega), cz_at hk, show 0 + (k - 0) = k by omega, cz_at hk, if_pos ((kz_A (by decide)).mp (ko_19 (by omega) (by omega)))]
      · rw [pk_cpy_out (by omega)]; unfold cz; rw [if_neg hk, if_neg hk]
    rw [e9]; simp only [cf, us_eq]
theorem ac_20 (hE : zG E l0 D0 cI0 cJ0 ad cc nL0 own fr lo) {r1 r2 index : Nat} (hk1 : (r1, 20) ∈ ks) (hk2 : (r2, 20) ∈ ks) (hw : Cond.methodLink own index arraycopyName ∈ wsL_law) (hfr : 1 ≤ fr) (hlo : (st.map fun v => v.category).sum + (nativeFrameWords "java/lang/System" "arraycopy" 5 + 11) ≤ lo) (d : decode cc pc = .ok (.invokestatic index, 3)) (kk : Z E (us S r2 (fun q => if kyA q = 20 then S r1 q else S r2 q)) (pc + 3) L st) : Z E S pc L (.int (i32 10) :: .int (i32 0) :: .ref (ad r2 20) :: .int (i32 0) :: .ref (ad r1 20) :: st) := by
  obtain ⟨p, l, e, R, s, m, args, below, meth, c, Q, A, D, cI, cJ, ad1, nL, cells, slots⟩ := E
  obtain ⟨⟨rfl, rfl, rfl, rfl, rfl, rfl⟩, hx, hb, hml, hown, hts, ⟨hf1, hf2, hf3, hf4⟩, hK, hD, hA, hN⟩ := hE
  intro H locs ls hS hP hl
  obtain ⟨q1, -, g1⟩ := wl_get (ad := ad1) hk1
  obtain ⟨q2, hp, g2⟩ := wl_get (ad := ad1) hk2
  have e0 : (i32 0).toNatClampNeg = 0 := rfl
  have en : (i32 10).toNatClampNeg = 10 := rfl
  refine va_copyi hx hb (hml.trans hl.1.symm) hown (hts _ hw) (hts _ zv_arraycopyName) (hts _ zt_arraycopyName) (hts _ zn_java_lang_System) hK hP (wl_D hD) hS q1 q2 0 0 (g1 _) (g2 _) rfl rfl rfl (by decide) (by decide) (by decide) (by decide) (by decide) (fun i hi => rfl) (by omega) (by omega) d (fun H1 locs1 hP1 hD1 hS1 => ?_)
  rw [wl_set hp, e0, en, cf_all (fun q => if kyA q = 20 then S r1 q else S r2 q) hk2 (fun q hq => if_neg (fun e => hq ((kz_A (by decide)).mpr e))) ?_] at hP1
  · exact kk H1 locs1 ls hS1 hP1 hl
  · have e9 : va_cpy (cz 10 (S r1) (of15 497)) (cz 10 (S r2) (of15 497)) 0 0 10 = cz 10 (fun q => if kyA q = 20 then S r1 q else S r2 q) (of15 497) := by
      funext k
      by_cases hk : k < 10
      · rw [pk_cpy_in (by omega) (by omega), cz_at hk, show 0 + (k - 0) = k by omega, cz_at hk, if_pos ((kz_A (by decide)).mp (ko_20 (by omega) (by omega)))]
      · rw [pk_cpy_out (by omega)]; unfold cz; rw [if_neg hk, if_neg hk]
    rw [e9]; simp only [cf, us_eq]
theorem ac_21 (hE : zG E l0 D0 cI0 cJ0 ad cc nL0 own fr lo) {r1 r2 index : Nat} (hk1 : (r1, 21) ∈ ks) (hk2 : (r2, 21) ∈ ks) (hw : Cond.methodLink own index arraycopyName ∈ wsL_law) (hfr : 1 ≤ fr) (hlo : (st.map fun v => v.category).sum + (nativeFrameWords "java/lang/System" "arraycopy" 5 + 11) ≤ lo) (d : decode cc pc = .ok (.invokestatic index, 3)) (kk : Z E (us S r2 (fun q => if kyA q = 21 then S r1 q else S r2 q)) (pc + 3) L st) : Z E S pc L (.int (i32 120) :: .int (i32 0) :: .ref (ad r2 21) :: .int (i32 0) :: .ref (ad r1 21) :: st) := by
  obtain ⟨p, l, e, R, s, m, args, below, meth, c, Q, A, D, cI, cJ, ad1, nL, cells, slots⟩ := E
  obtain ⟨⟨rfl, rfl, rfl, rfl, rfl, rfl⟩, hx, hb, hml, hown, hts, ⟨hf1, hf2, hf3, hf4⟩, hK, hD, hA, hN⟩ := hE
  intro H locs ls hS hP hl
  obtain ⟨q1, -, g1⟩ := wl_get (ad := ad1) hk1
  obtain ⟨q2, hp, g2⟩ := wl_get (ad := ad1) hk2
  have e0 : (i32 0).toNatClampNeg = 0 := rfl
  have en : (i32 120).toNatClampNeg = 120 := rfl
  refine va_copyi hx hb (hml.trans hl.1.symm) hown (hts _ hw) (hts _ zv_arraycopyName) (hts _ zt_arraycopyName) (hts _ zn_java_lang_System) hK hP (wl_D hD) hS q1 q2 0 0 (g1 _) (g2 _) rfl rfl rfl (by decide) (by decide) (by decide) (by decide) (by decide) (fun i hi => rfl) (by omega) (by omega) d (fun H1 locs1 hP1 hD1 hS1 => ?_)
  rw [wl_set hp, e0, en, cf_all (fun q => if kyA q = 21 then S r1 q else S r2 q) hk2 (fun q hq => if_neg (fun e => hq ((kz_A (by decide)).mpr e))) ?_] at hP1
  · exact kk H1 locs1 ls hS1 hP1 hl
  · have e9 : va_cpy (cz 120 (S r1) ofB) (cz 120 (S r2) ofB) 0 0 120 = cz 120 (fun q => if kyA q = 21 then S r1 q else S r2 q) ofB := by
      funext k
      by_cases hk : k < 120
      · rw [pk_cpy_in (by omega) (by omega), cz_at hk, show 0 + (k - 0) = k by omega, cz_at hk, if_pos ((kz_A (by decide)).mp (ko_21 (by omega) (by omega)))]
      · rw [pk_cpy_out (by omega)]; unfold cz; rw [if_neg hk, if_neg hk]
    rw [e9]; simp only [cf, us_eq]
theorem ac_7s (hE : zG E l0 D0 cI0 cJ0 ad cc nL0 own fr lo) {r index : Nat} (hk : (r, 7) ∈ ks) (hw : Cond.methodLink own index arraycopyName ∈ wsL_law) (hfr : 1 ≤ fr) (hlo : (st.map fun v => v.category).sum + (nativeFrameWords "java/lang/System" "arraycopy" 5 + 11) ≤ lo) (d : decode cc pc = .ok (.invokestatic index, 3)) (kk : Z E (us S r (up (up (S r) 10 (S r 11)) 11 (S r 12))) (pc + 3) L st) : Z E S pc L (.int (i32 2) :: .int (i32 0) :: .ref (ad r 7) :: .int (i32 1) :: .ref (ad r 7) :: st) := by
  obtain ⟨p, l, e, R, s, m, args, below, meth, c, Q, A, D, cI, cJ, ad1, nL, cells, slots⟩ := E
  obtain ⟨⟨rfl, rfl, rfl, rfl, rfl, rfl⟩, hx, hb, hml, hown, hts, ⟨hf1, hf2, hf3, hf4⟩, hK, hD, hA, hN⟩ := hE
  intro H locs ls hS hP hl
  obtain ⟨q2, hp, g2⟩ := wl_get (ad := ad1) hk
  have e0 : (i32 0).toNatClampNeg = 0 := rfl
  have e1 : (i32 1).toNatClampNeg = 1 := rfl
  have en : (i32 2).toNatClampNeg = 2 := rfl
  refine va_copyi hx hb (hml.trans hl.1.symm) hown (hts _ hw) (hts _ zv_arraycopyName) (hts _ zt_arraycopyName) (hts _ zn_java_lang_System) hK hP (wl_D hD) hS q2 q2 0 0 (g2 _) (g2 _) rfl rfl rfl (by decide) (by decide) (by decide) (by decide) (by decide) (fun i hi => rfl) (by omega) (by omega) d (fun H1 locs1 hP1 hD1 hS1 => ?_)
  rw [wl_set hp, e0, e1, en, cf_all (up (up (S r) 10 (S r 11)) 11 (S r 12)) hk (fun q hq => ?_) ?_] at hP1
  · exact kk H1 locs1 ls hS1 hP1 hl
  · have e9 : va_cpy (cz 3 (S r) (of1 10)) (cz 3 (S r) (of1 10)) 1 0 2 = cz 3 (up (up (S r) 10 (S r 11)) 11 (S r 12)) (of1 10) := by
      funext k
      match k with
      | 0 => simp [va_cpy, cz, of1, up]
      | 1 => simp [va_cpy, cz, of1, up]
      | 2 => simp [va_cpy, cz, of1, up]
      | k + 3 => simp only [va_cpy, cz]; rw [if_neg (by omega), if_neg (by omega), if_neg (by omega)]
    rw [e9]; simp only [cf, us_eq]
  · rw [up_ne (fun e => hq (by rw [e]; exact (kz_A (by decide)).mpr (by decide))), up_ne (fun e => hq (by rw [e]; exact (kz_A (by decide)).mpr (by decide)))]
theorem ac_24 (hE : zG E l0 D0 cI0 cJ0 ad cc nL0 own fr lo) {index : Nat} (hw : Cond.methodLink own index arraycopyName ∈ wsL_law) (hfr : 1 ≤ fr) (hlo : (st.map fun v => v.category).sum + (nativeFrameWords "java/lang/System" "arraycopy" 5 + 11) ≤ lo) (d : decode cc pc = .ok (.invokestatic index, 3)) (kk : Z E (us S 5 (fun q => if 200 ≤ q ∧ q < 212 then S 5 (q - 100) else S 5 q)) (pc + 3) L st) : Z E S pc L (.int (i32 12) :: .int (i32 0) :: .ref (ad 5 25) :: .int (i32 0) :: .ref (ad 5 24) :: st) := by
  obtain ⟨p, l, e, R, s, m, args, below, meth, c, Q, A, D, cI, cJ, ad1, nL, cells, slots⟩ := E
  obtain ⟨⟨rfl, rfl, rfl, rfl, rfl, rfl⟩, hx, hb, hml, hown, hts, ⟨hf1, hf2, hf3, hf4⟩, hK, hD, hA, hN⟩ := hE
  intro H locs ls hS hP hl
  obtain ⟨q1, -, g1⟩ := wl_get (ad := ad1) (r := 5) (j := 24) (by decide)
  obtain ⟨q2, hp, g2⟩ := wl_get (ad := ad1) (r := 5) (j := 25) (by decide)
  have e0 : (i32 0).toNatClampNeg = 0 := rfl
  have en : (i32 12).toNatClampNeg = 12 := rfl
  refine va_copyi hx hb (hml.trans hl.1.symm) hown (hts _ hw) (hts _ zv_arraycopyName) (hts _ zt_arraycopyName) (hts _ zn_java_lang_System) hK hP (wl_D hD) hS q1 q2 0 0 (g1 _) (g2 _) rfl rfl rfl (by decide) (by decide) (by decide) (by decide) (by decide) (fun i hi => rfl) (by omega) (by omega) d (fun H1 locs1 hP1 hD1 hS1 => ?_)
  rw [wl_set hp, e0, en, cf_all (fun q => if 200 ≤ q ∧ q < 212 then S 5 (q - 100) else S 5 q) (by decide) (fun q hq => if_neg (fun e => hq ((kz_B (by decide) (by decide)).mpr (by unfold kyB; (repeat' split) <;> omega)))) ?_] at hP1
  · exact kk H1 locs1 ls hS1 hP1 hl
  · have e9 : va_cpy (cz 12 (S 5) (of1 100)) (cz 12 (S 5) (of1 200)) 0 0 12 = cz 12 (fun q => if 200 ≤ q ∧ q < 212 then S 5 (q - 100) else S 5 q) (of1 200) := by
      funext k
      by_cases hk : k < 12
      · rw [pk_cpy_in (by omega) (by omega), cz_at (by omega), cz_at hk]
        have h9 : of1 100 ((0 + (k - 0) : Nat) : Int) = of1 200 k - 100 := by unfold of1; omega
        rw [h9, if_pos (by unfold of1; omega)]
      · rw [pk_cpy_out (by omega)]; unfold cz; rw [if_neg hk, if_neg hk]
    rw [e9]; simp only [cf, us_eq]
theorem z_max (hE : zG E l0 D0 cI0 cJ0 ad cc nL0 own fr lo) {index : Nat} {a b : Int} (hw : Cond.methodLink own index Lib.Math.max.name ∈ wsL_law) (hfr : 1 ≤ fr) (hlo : (st.map fun v => v.category).sum + 13 ≤ lo) (ha : b32 a) (hb2 : b32 b) (d : decode cc pc = .ok (.invokestatic index, 3)) (kk : Z E S (pc + 3) L (.int (i32 (max a b)) :: st)) : Z E S pc L (.int (i32 b) :: .int (i32 a) :: st) := by
  obtain ⟨p, l, e, R, s, m, args, below, meth, c, Q, A, D, cI, cJ, ad1, nL, cells, slots⟩ := E
  obtain ⟨⟨rfl, rfl, rfl, rfl, rfl, rfl⟩, hx, hb, hml, hown, hts, ⟨hf1, hf2, hf3, hf4⟩, hK, hD, hA, hN⟩ := hE
  intro H locs ls hS hP hl
  refine va_mmax hx hb (hml.trans hl.1.symm) hown (hts _ hw) (hts _ zt_J9_max_name) (hts _ zn_java_lang_Math) (hts _ zc_J9_max_name) (by omega) (by omega) hf3 hf4 d ?_
  have e9 : (if i32 a < i32 b then i32 b else i32 a) = i32 (max a b) := by
    by_cases h : a < b
    · rw [if_pos ((i32_lt ha hb2).mpr h)]; congr 1; omega
    · rw [if_neg (fun q => h ((i32_lt ha hb2).mp q))]; congr 1; omega
  rw [e9]
  exact kk H locs ls hS hP hl
theorem z_min (hE : zG E l0 D0 cI0 cJ0 ad cc nL0 own fr lo) {index : Nat} {a b : Int} (hw : Cond.methodLink own index Lib.Math.min.name ∈ wsL_law) (hfr : 1 ≤ fr) (hlo : (st.map fun v => v.category).sum + 13 ≤ lo) (ha : b32 a) (hb2 : b32 b) (d : decode cc pc = .ok (.invokestatic index, 3)) (kk : Z E S (pc + 3) L (.int (i32 (min a b)) :: st)) : Z E S pc L (.int (i32 b) :: .int (i32 a) :: st) := by
  obtain ⟨p, l, e, R, s, m, args, below, meth, c, Q, A, D, cI, cJ, ad1, nL, cells, slots⟩ := E
  obtain ⟨⟨rfl, rfl, rfl, rfl, rfl, rfl⟩, hx, hb, hml, hown, hts, ⟨hf1, hf2, hf3, hf4⟩, hK, hD, hA, hN⟩ := hE
  intro H locs ls hS hP hl
  refine va_mmin hx hb (hml.trans hl.1.symm) hown (hts _ hw) (hts _ zt_J9_min_name) (hts _ zn_java_lang_Math) (hts _ zc_J9_min_name) (by omega) (by omega) hf3 hf4 d ?_
  have e9 : (if i32 b < i32 a then i32 b else i32 a) = i32 (min a b) := by
    by_cases h : b < a
    · rw [if_pos ((i32_lt hb2 ha).mpr h)]; congr 1; omega
    · rw [if_neg (fun q => h ((i32_lt hb2 ha).mp q))]; congr 1; omega
  rw [e9]
  exact kk H locs ls hS hP hl
end ZC
/-! CALLS -/
theorem zw_in {ws : List Cond} (h : ∀ w ∈ ws, w ∈ wsL_law) : GoodIn wsL_law ws := fun w hw => ⟨h w hw, good_of_word (List.all_eq_true.mp zw_good w (h w hw))⟩
theorem nw_warm {s U : State} (hW : s.WarmedH U.vm) (h : ∀ w ∈ nw, va_Nw w s) : ∀ w ∈ nw, va_Nw w U := by
  intro w hw
  have h1 := h w hw
  simp only [nw, List.mem_cons, List.not_mem_nil, or_false] at hw
  rcases hw with rfl | rfl | rfl | rfl | rfl | rfl | rfl | rfl | rfl | rfl <;> exact va_Nw.warmM hW h1
theorem nw_same {u U : State} (hvm : u.vm = U.vm) (h : ∀ w ∈ nw, va_Nw w u) : ∀ w ∈ nw, va_Nw w U := by
  intro w hw
  have h1 := h w hw
  simp only [nw, List.mem_cons, List.not_mem_nil, or_false] at hw
  rcases hw with rfl | rfl | rfl | rfl | rfl | rfl | rfl | rfl | rfl | rfl <;> exact va_Nw.same rfl hvm h1
theorem zW_blind {D : va_G} {cI cJ : ClassId} {ad : Nat → Nat → Nat} {S : zM} {as : List Value} : FrameBlind (va_Pc as (fun U => zW D cI cJ ad S U)) := by
  intro a U g mk h
  obtain ⟨h0, h1, h2, h3, h4⟩ := h
  exact ⟨h0, h1, va_K.moved (u := U) (U := U.calling g mk a) (Vm.Alike.refl U.vm) h2, h3, nw_same (u := U) (U := U.calling g mk a) rfl h4⟩
theorem zW_pre {D : va_G} {cI cJ : ClassId} {ad : Nat → Nat → Nat} {S : zM} {A : Nat → Prop} {s : State} {H : Heap} (hP : va_P D vwCl (wl ad (cf cI cJ ad S)) H) (hK : va_K D vwCl [(cI, .int), (cJ, .long)] s) (hD : va_D A (wl ad fun _ _ => .inr (0, []))) (hN : ∀ w ∈ nw, va_Nw w s) (as : List Value) : ∀ U : State, U.heap = H → s.WarmedH U.vm → va_Pc as (fun U => zW D cI cJ ad S U) as.toArray U := by
  intro U hU hW
  refine ⟨rfl, by rw [hU]; exact hP, va_K.moved hW.alike hK, (wl_D hD).weaken (fun k q hq _ => ?_), nw_warm hW hN⟩
  unfold wl at hq
  rw [List.getElem?_map] at hq
  cases hx : ks[k]? with
  | none => rw [hx] at hq; cases hq
  | some x => rw [hx] at hq; cases hq; exact ⟨x, List.mem_of_getElem? hx, rfl⟩
section ZK
variable {E : zE} {l0 : Launch} {D0 : va_G} {cI0 cJ0 : ClassId} {ad : Nat → Nat → Nat} {cc : ByteArray} {nL0 fr lo : Nat} {own : String} {S : zM} {pc : Nat} {L : List (Nat × Value)} {st st1 st2 : List Value}
variable {y : MethodName} {cc2 : ByteArray} {nL2 fr2 lo2 index n : Nat} {ret2 : Option FieldType} {As : List Value} {rv : Option Value} {S2 : zM} {P2 : zM → Prop}
theorem z_callVp (hE : zG E l0 D0 cI0 cJ0 ad cc nL0 own fr lo) {r j ci N : Nat} {T : u_T} {fs : List Value} (hC : Ct l0 D0 cI0 cJ0 ad y cc2 nL2 ret2 fr2 lo2 (.ref (ad r j) :: As) S rv P2) (hk : (r, j) ∈ ks) (hc : cf cI0 cJ0 ad S r j = .inr (ci, fs)) (hcl : vwCl[ci]? = some (y.cls, T, N)) (w1 : Cond.methodLink own index y ∈ wsL_law) (w2 : Cond.instanceMethod y ∈ wsL_law) (w3 : Cond.selects y.cls y y ∈ wsL_law) (w4 : Cond.initialized y.cls ∈ wsL_law) (w5 : Cond.code y cc2 nL2 ret2 ∈ wsL_law) (hd : y.cls ≠ "java/lang/invoke/MethodHandle" ∧ y.cls ≠ "java/lang/invoke/VarHandle" ∧ (parseMethodDescriptor y.desc).map (fun d => d.parameters.length) = some n) (hfr : fr2 + 1 ≤ fr) (hlo : 8 + (nL2 + 11) + lo2 ≤ lo) (hAs : As.length = n) (hs : st1 = As.reverse ++ .ref (ad r j) :: st) (hs2 : rv.toList ++ st = st2) (hst : (st.map fun v => v.category).sum ≤ 8) (d : decode cc pc = .ok (.invokevirtual index, 3)) (kk : ∀ S2 : zM, P2 S2 → Z E S2 (pc + 3) L st2) : Z E S pc L st1 := by
  obtain ⟨p, l, e, R, s, m, args, below, meth, c, Q, A, D, cI, cJ, ad1, nL, cells, slots⟩ := E
  obtain ⟨⟨rfl, rfl, rfl, rfl, rfl, rfl⟩, hx, hb, hml, hown, hts, ⟨hf1, hf2, hf3, hf4⟩, hK, hD, hA, hN⟩ := hE
  intro H locs ls hS hP hl
  subst hs
  obtain ⟨q0, -, g1⟩ := wl_get (ad := ad1) hk
  have hG : GoodIn wsL_law (wsV own index y.cls y (Cond.code y cc2 nL2 ret2 :: wsL_law)) := zw_in fun w hw => by
    unfold wsV at hw
    rcases List.mem_append.mp hw with hw | hw
    · simp only [List.mem_cons, List.not_mem_nil, or_false] at hw
      rcases hw with rfl | rfl | rfl | rfl
      · exact w1
      · exact w2
      · exact w3
      · exact w4
    · rcases List.mem_cons.mp hw with rfl | hw
      · exact w5
      · exact hw
  have hr := va_runV (H := H) (locs := locs) (cells := cells) (slots := slots) (g := F0 m pc ls (As.reverse ++ .ref (ad1 r j) :: st)) (As := As) (rest := st) (R := R) (p := p) (l := l) (e := e) (below := below) (meth := meth) ⟨hx, hb, hml, hown, hts⟩ hC (cwV n hts hG rfl rfl rfl ⟨rfl, hd⟩ ⟨by rw [hf1]; exact hfr, by rw [hf2]; exact hlo⟩) ⟨zW_blind, va_recv hK hP hcl ((g1 _).trans (by rw [hc])), zW_pre hP hK hD hN _⟩ rfl hAs hl.1 rfl (lv_room hst) d ⟨hf3, hf4⟩
  intro T hT X
  obtain ⟨v, st₀, t, T', L', h0, X', hL', e1, e2, ⟨⟨hv, S2, hP2, hP1⟩, hz, hk⟩, stp⟩ := hr T hT X
  cases hv
  rw [h0] at hz hk
  subst hs2
  have hS1 : va_S A s.heap T'.heap (locs ++ L') := ⟨Nat.le_trans hS.1 (by rw [e1]; exact hz), fun q h1 h2 => by rw [e1, hk q (Nat.lt_of_lt_of_le h1 hS.1) (fun z => h2 (hA q z))]; exact hS.2.1 q h1 h2, fun q hq => by
    rcases List.mem_append.mp hq with h | h
    · exact hS.2.2 q h
    · exact hA _ (hL' q h)⟩
  obtain ⟨t2, a1, b1⟩ := kk S2 hP2 T'.heap (locs ++ L') ls hS1 (by rw [e1]; exact hP1) hl T' rfl X'
  exact ⟨t2, stp t2 a1, b1⟩
theorem z_callSp (hE : zG E l0 D0 cI0 cJ0 ad cc nL0 own fr lo) (hC : Ct l0 D0 cI0 cJ0 ad y cc2 nL2 ret2 fr2 lo2 As S rv P2) (w1 : Cond.methodLink own index y ∈ wsL_law) (w2 : Cond.static y ∈ wsL_law) (w4 : Cond.initialized y.cls ∈ wsL_law) (w5 : Cond.code y cc2 nL2 ret2 ∈ wsL_law) (hd : y.cls ≠ "java/lang/invoke/MethodHandle" ∧ y.cls ≠ "java/lang/invoke/VarHandle" ∧ (parseMethodDescriptor y.desc).map (fun d => d.parameters.length) = some n) (hfr : fr2 + 1 ≤ fr) (hlo : 8 + (nL2 + 11) + lo2 ≤ lo) (hAs : As.length = n) (hs : st1 = As.reverse ++ st) (hs2 : rv.toList ++ st = st2) (hst : (st.map fun v => v.category).sum ≤ 8) (d : decode cc pc = .ok (.invokestatic index, 3)) (kk : ∀ S2 : zM, P2 S2 → Z E S2 (pc + 3) L st2) : Z E S pc L st1 := by
  obtain ⟨p, l, e, R, s, m, args, below, meth, c, Q, A, D, cI, cJ, ad1, nL, cells, slots⟩ := E
  obtain ⟨⟨rfl, rfl, rfl, rfl, rfl, rfl⟩, hx, hb, hml, hown, hts, ⟨hf1, hf2, hf3, hf4⟩, hK, hD, hA, hN⟩ := hE
  intro H locs ls hS hP hl
  subst hs
  have hG : GoodIn wsL_law (va_wsS own index y (Cond.code y cc2 nL2 ret2 :: wsL_law)) := zw_in fun w hw => by
    unfold va_wsS at hw
    rcases List.mem_append.mp hw with hw | hw
    · simp only [List.mem_cons, List.not_mem_nil, or_false] at hw
      rcases hw with rfl | rfl | rfl
      · exact w1
      · exact w2
      · exact w4
    · rcases List.mem_cons.mp hw with rfl | hw
      · exact w5
      · exact hw
  have hr := va_runS (H := H) (locs := locs) (cells := cells) (slots := slots) (g := F0 m pc ls (As.reverse ++ st)) (As := As) (rest := st) (R := R) (p := p) (l := l) (e := e) (below := below) (meth := meth) ⟨hx, hb, hml, hown, hts⟩ hC (va_cwS n hts hG rfl rfl rfl hd ⟨by rw [hf1]; exact hfr, by rw [hf2]; exact hlo⟩) ⟨zW_blind, zW_pre hP hK hD hN _⟩ rfl hAs hl.1 rfl (lv_room hst) d ⟨hf3, hf4⟩
  intro T hT X
  obtain ⟨v, st₀, t, T', L', h0, X', hL', e1, e2, ⟨⟨hv, S2, hP2, hP1⟩, hz, hk⟩, stp⟩ := hr T hT X
  cases hv
  rw [h0] at hz hk
  subst hs2
  have hS1 : va_S A s.heap T'.heap (locs ++ L') := ⟨Nat.le_trans hS.1 (by rw [e1]; exact hz), fun q h1 h2 => by rw [e1, hk q (Nat.lt_of_lt_of_le h1 hS.1) (fun z => h2 (hA q z))]; exact hS.2.1 q h1 h2, fun q hq => by
    rcases List.mem_append.mp hq with h | h
    · exact hS.2.2 q h
    · exact hA _ (hL' q h)⟩
  obtain ⟨t2, a1, b1⟩ := kk S2 hP2 T'.heap (locs ++ L') ls hS1 (by rw [e1]; exact hP1) hl T' rfl X'
  exact ⟨t2, stp t2 a1, b1⟩
theorem z_callNp (hE : zG E l0 D0 cI0 cJ0 ad cc nL0 own fr lo) {host : String} (hC : Ct l0 D0 cI0 cJ0 ad y cc2 nL2 ret2 fr2 lo2 As S rv P2) (w1 : Cond.methodLinkNest own index y host ∈ nw) (w2 : Cond.static y ∈ wsL_law) (w4 : Cond.initialized y.cls ∈ wsL_law) (w5 : Cond.code y cc2 nL2 ret2 ∈ wsL_law) (hd : y.cls ≠ "java/lang/invoke/MethodHandle" ∧ y.cls ≠ "java/lang/invoke/VarHandle" ∧ (parseMethodDescriptor y.desc).map (fun d => d.parameters.length) = some n) (hfr : fr2 + 1 ≤ fr) (hlo : 8 + (nL2 + 11) + lo2 ≤ lo) (hAs : As.length = n) (hs : st1 = As.reverse ++ st) (hs2 : rv.toList ++ st = st2) (hst : (st.map fun v => v.category).sum ≤ 8) (d : decode cc pc = .ok (.invokestatic index, 3)) (kk : ∀ S2 : zM, P2 S2 → Z E S2 (pc + 3) L st2) : Z E S pc L st1 := by
  obtain ⟨p, l, e, R, s, m, args, below, meth, c, Q, A, D, cI, cJ, ad1, nL, cells, slots⟩ := E
  obtain ⟨⟨rfl, rfl, rfl, rfl, rfl, rfl⟩, hx, hb, hml, hown, hts, ⟨hf1, hf2, hf3, hf4⟩, hK, hD, hA, hN⟩ := hE
  intro H locs ls hS hP hl
  subst hs
  have hG : GoodIn wsL_law (Cond.code y cc2 nL2 ret2 :: wsL_law) := zw_in fun w hw => by
    rcases List.mem_cons.mp hw with rfl | hw
    · exact w5
    · exact hw
  have hr := va_runSN (H := H) (locs := locs) (cells := cells) (slots := slots) (g := F0 m pc ls (As.reverse ++ st)) (As := As) (rest := st) (R := R) (p := p) (l := l) (e := e) (below := below) (meth := meth) (Ts := wsL_law) (own := own) ⟨hx, hb, hml, hown, hts⟩ hC ⟨va_cnB n hts hG rfl rfl rfl (hN _ w1) (hts _ w4) hd ⟨by rw [hf1]; exact hfr, by rw [hf2]; exact hlo⟩, hts _ w2, trivial⟩ ⟨zW_blind, zW_pre hP hK hD hN _⟩ rfl hAs hl.1 rfl (lv_room hst) d ⟨hf3, hf4⟩
  intro T hT X
  obtain ⟨v, st₀, t, T', L', h0, X', hL', e1, e2, ⟨⟨hv, S2, hP2, hP1⟩, hz, hk⟩, stp⟩ := hr T hT X
  cases hv
  rw [h0] at hz hk
  subst hs2
  have hS1 : va_S A s.heap T'.heap (locs ++ L') := ⟨Nat.le_trans hS.1 (by rw [e1]; exact hz), fun q h1 h2 => by rw [e1, hk q (Nat.lt_of_lt_of_le h1 hS.1) (fun z => h2 (hA q z))]; exact hS.2.1 q h1 h2, fun q hq => by
    rcases List.mem_append.mp hq with h | h
    · exact hS.2.2 q h
    · exact hA _ (hL' q h)⟩
  obtain ⟨t2, a1, b1⟩ := kk S2 hP2 T'.heap (locs ++ L') ls hS1 (by rw [e1]; exact hP1) hl T' rfl X'
  exact ⟨t2, stp t2 a1, b1⟩
theorem z_callV (hE : zG E l0 D0 cI0 cJ0 ad cc nL0 own fr lo) {r j ci N : Nat} {T : u_T} {fs : List Value} (hC : Ct l0 D0 cI0 cJ0 ad y cc2 nL2 ret2 fr2 lo2 (.ref (ad r j) :: As) S rv (fun X => X = S2)) (hk : (r, j) ∈ ks) (hc : cf cI0 cJ0 ad S r j = .inr (ci, fs)) (hcl : vwCl[ci]? = some (y.cls, T, N)) (w1 : Cond.methodLink own index y ∈ wsL_law) (w2 : Cond.instanceMethod y ∈ wsL_law) (w3 : Cond.selects y.cls y y ∈ wsL_law) (w4 : Cond.initialized y.cls ∈ wsL_law) (w5 : Cond.code y cc2 nL2 ret2 ∈ wsL_law) (hd : y.cls ≠ "java/lang/invoke/MethodHandle" ∧ y.cls ≠ "java/lang/invoke/VarHandle" ∧ (parseMethodDescriptor y.desc).map (fun d => d.parameters.length) = some n) (hfr : fr2 + 1 ≤ fr) (hlo : 8 + (nL2 + 11) + lo2 ≤ lo) (hAs : As.length = n) (hs : st1 = As.reverse ++ .ref (ad r j) :: st) (hs2 : rv.toList ++ st = st2) (hst : (st.map fun v => v.category).sum ≤ 8) (d : decode cc pc = .ok (.invokevirtual index, 3)) (kk : Z E S2 (pc + 3) L st2) : Z E S pc L st1 := z_callVp hE hC hk hc hcl w1 w2 w3 w4 w5 hd hfr hlo hAs hs hs2 hst d (fun X hX => by rw [hX]; exact kk)
theorem z_callS (hE : zG E l0 D0 cI0 cJ0 ad cc nL0 own fr lo) (hC : Ct l0 D0 cI0 cJ0 ad y cc2 nL2 ret2 fr2 lo2 As S rv (fun X => X = S2)) (w1 : Cond.methodLink own index y ∈ wsL_law) (w2 : Cond.static y ∈ wsL_law) (w4 : Cond.initialized y.cls ∈ wsL_law) (w5 : Cond.code y cc2 nL2 ret2 ∈ wsL_law) (hd : y.cls ≠ "java/lang/invoke/MethodHandle" ∧ y.cls ≠ "java/lang/invoke/VarHandle" ∧ (parseMethodDescriptor y.desc).map (fun d => d.parameters.length) = some n) (hfr : fr2 + 1 ≤ fr) (hlo : 8 + (nL2 + 11) + lo2 ≤ lo) (hAs : As.length = n) (hs : st1 = As.reverse ++ st) (hs2 : rv.toList ++ st = st2) (hst : (st.map fun v => v.category).sum ≤ 8) (d : decode cc pc = .ok (.invokestatic index, 3)) (kk : Z E S2 (pc + 3) L st2) : Z E S pc L st1 := z_callSp hE hC w1 w2 w4 w5 hd hfr hlo hAs hs hs2 hst d (fun X hX => by rw [hX]; exact kk)
theorem z_callN (hE : zG E l0 D0 cI0 cJ0 ad cc nL0 own fr lo) {host : String} (hC : Ct l0 D0 cI0 cJ0 ad y cc2 nL2 ret2 fr2 lo2 As S rv (fun X => X = S2)) (w1 : Cond.methodLinkNest own index y host ∈ nw) (w2 : Cond.static y ∈ wsL_law) (w4 : Cond.initialized y.cls ∈ wsL_law) (w5 : Cond.code y cc2 nL2 ret2 ∈ wsL_law) (hd : y.cls ≠ "java/lang/invoke/MethodHandle" ∧ y.cls ≠ "java/lang/invoke/VarHandle" ∧ (parseMethodDescriptor y.desc).map (fun d => d.parameters.length) = some n) (hfr : fr2 + 1 ≤ fr) (hlo : 8 + (nL2 + 11) + lo2 ≤ lo) (hAs : As.length = n) (hs : st1 = As.reverse ++ st) (hs2 : rv.toList ++ st = st2) (hst : (st.map fun v => v.category).sum ≤ 8) (d : decode cc pc = .ok (.invokestatic index, 3)) (kk : Z E S2 (pc + 3) L st2) : Z E S pc L st1 := z_callNp hE hC w1 w2 w4 w5 hd hfr hlo hAs hs hs2 hst d (fun X hX => by rw [hX]; exact kk)
end ZK
