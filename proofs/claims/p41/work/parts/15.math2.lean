/-! THE DIVISION, AND A DAY -/
theorem bst_max (f : Int → Int) : ∀ (n : Nat) (k : Int), 0 ≤ k → k ≤ n → f k ≤ f (bst f n)
  | 0, k, h0, h1 => by rw [show k = 0 by omega]; exact Int.le_refl _
  | n + 1, k, h0, h1 => by
    have ih := bst_max f n
    unfold bst
    split
    · rename_i h
      by_cases e : k = (n : Int) + 1
      · rw [e]; exact Int.le_refl _
      · have := ih k h0 (by omega); omega
    · rename_i h
      by_cases e : k = (n : Int) + 1
      · rw [e]; omega
      · exact ih k h0 (by omega)
theorem bst_pos {r t : Int → Int} : ∀ {n : Nat}, (∀ k : Int, 0 ≤ k → k ≤ n → max (r k) 0 = max (t k) 0) → (bst r n = bst t n ∧ 0 < r (bst r n)) ∨ (∀ k : Int, 0 ≤ k → k ≤ n → r k ≤ 0)
  | 0, h => by
    have h0 := h 0 (Int.le_refl 0) (by omega)
    by_cases e : 0 < r 0
    · exact Or.inl ⟨rfl, e⟩
    · exact Or.inr fun k h1 h2 => by rw [show k = 0 by omega]; omega
  | n + 1, h => by
    have hn := h ((n : Int) + 1) (by omega) (by omega)
    have b1 := bst_b r n
    have b2 := bst_b t n
    have hb1 := h (bst r n) b1.1 (by omega)
    have hb2 := h (bst t n) b2.1 (by omega)
    rcases bst_pos (n := n) (fun k h1 h2 => h k h1 (by omega)) with ⟨e, p⟩ | p
    · left
      unfold bst
      rw [← e]
      by_cases c : r (bst r n) < r ((n : Int) + 1)
      · rw [if_pos c, if_pos (by omega)]; exact ⟨rfl, by omega⟩
      · rw [if_neg c, if_neg (by omega)]; exact ⟨rfl, p⟩
    · by_cases c : 0 < r ((n : Int) + 1)
      · left
        have p1 := p (bst r n) b1.1 (by omega)
        have p2 := p (bst t n) b2.1 (by omega)
        unfold bst
        rw [if_pos (by omega), if_pos (by omega)]
        exact ⟨rfl, c⟩
      · right
        intro k h1 h2
        by_cases e : k = (n : Int) + 1
        · rw [e]; omega
        · exact p k h1 (by omega)
theorem hnd_sum {z : Int} : ∀ (n : Nat) (g r : Int → Int), sm (hnd z n g r) 12 = sm g 12 + n
  | 0, g, _ => by show sm g 12 = _; omega
  | n + 1, g, r => by
    have hb := bst_b r 11
    show sm (hnd z n (up g (bst r 11) (g (bst r 11) + 1)) (up r (bst r 11) z)) 12 = _
    rw [hnd_sum n, sm_up g hb.1 (by omega)]
    omega
theorem pos_up {r : Int → Int} {b z : Int} (h0 : 0 ≤ b) (h1 : b < 12) (hz : z ≤ 0) (hp : 0 < r b) : sm (fun k => max (up r b z k) 0) 12 = sm (fun k => max (r k) 0) 12 - r b := by
  have h := sm_up (fun k => max (r k) 0) (i := b) (v := 0) h0 h1
  have e : sm (fun k => max (up r b z k) 0) 12 = sm (up (fun k => max (r k) 0) b 0) 12 := sm_cg fun k _ _ => by
    unfold up
    by_cases c : k = b
    · rw [if_pos c, if_pos c]; omega
    · rw [if_neg c, if_neg c]
  rw [e, h]
  omega
theorem pos_ex {r : Int → Int} (h : 0 < sm (fun k => max (r k) 0) 12) : 0 < r (bst r 11) := by
  rcases Int.lt_or_le 0 (r (bst r 11)) with q | q
  · exact q
  · exfalso
    have h1 := sm_b (f := fun k => max (r k) 0) (n := 12) (a := 0) (b := 0) (by omega) (fun k h2 h3 => by
      have := bst_max r 11 k h2 (by omega)
      omega)
    omega
theorem hnd_zero {A z : Int} (hA : 0 < A) (hz : z ≤ 0) : ∀ (n : Nat) (g r : Int → Int), (∀ k : Int, 0 ≤ k → k < 12 → r k < A) → (n : Int) * A ≤ sm (fun k => max (r k) 0) 12 → ∀ k : Int, 0 ≤ k → k < 12 → r k ≤ 0 → hnd z n g r k = g k
  | 0, _, _, _, _, _, _, _, _ => rfl
  | n + 1, g, r, hr, hs, k, h0, h1, hk => by
    have hb := bst_b r 11
    have e : ((n + 1 : Nat) : Int) * A = n * A + A := by rw [show ((n + 1 : Nat) : Int) = (n : Int) + 1 from rfl, Int.add_mul, Int.one_mul]
    have hnA : 0 ≤ (n : Int) * A := Int.mul_nonneg (by omega) (by omega)
    have hp := pos_ex (r := r) (by omega)
    have hne : k ≠ bst r 11 := fun q => by rw [q] at hk; omega
    have hbA := hr _ hb.1 (by omega)
    show hnd z n (up g (bst r 11) (g (bst r 11) + 1)) (up r (bst r 11) z) k = g k
    rw [hnd_zero hA hz n _ _ (fun j h2 h3 => by
      unfold up; split
      · omega
      · exact hr j h2 h3) (by rw [pos_up hb.1 (by omega) hz hp]; omega) k h0 h1 (by rw [up_ne hne]; exact hk), up_ne hne]
theorem hnd_eq {A z y : Int} (hA : 0 < A) (hz : z ≤ 0) (hy : y ≤ 0) : ∀ (n : Nat) (g r t : Int → Int), (∀ k : Int, 0 ≤ k → k < 12 → r k < A) → (∀ k : Int, 0 ≤ k → k < 12 → max (r k) 0 = max (t k) 0) → (n : Int) * A ≤ sm (fun k => max (r k) 0) 12 → hnd z n g r = hnd y n g t
  | 0, _, _, _, _, _, _ => rfl
  | n + 1, g, r, t, hr, ht, hs => by
    have hb := bst_b r 11
    have e : ((n + 1 : Nat) : Int) * A = n * A + A := by rw [show ((n + 1 : Nat) : Int) = (n : Int) + 1 from rfl, Int.add_mul, Int.one_mul]
    have hnA : 0 ≤ (n : Int) * A := Int.mul_nonneg (by omega) (by omega)
    have hp := pos_ex (r := r) (by omega)
    have hbA := hr _ hb.1 (by omega)
    have eb : bst r 11 = bst t 11 := by
      rcases bst_pos (n := 11) (r := r) (t := t) (fun k h1 h2 => ht k h1 (by omega)) with ⟨q, _⟩ | q
      · exact q
      · have := q _ hb.1 (by omega); omega
    show hnd z n (up g (bst r 11) (g (bst r 11) + 1)) (up r (bst r 11) z) = hnd y n (up g (bst t 11) (g (bst t 11) + 1)) (up t (bst t 11) y)
    rw [← eb]
    exact hnd_eq hA hz hy n _ _ _ (fun j h2 h3 => by
      unfold up; split
      · omega
      · exact hr j h2 h3) (fun j h2 h3 => by
      have := ht j h2 h3
      unfold up; split <;> omega) (by rw [pos_up hb.1 (by omega) hz hp]; omega)
section GETS
variable {d : Int → Int} {w : Int}
theorem rst_pos (hd : ∀ k : Int, 0 ≤ k → k < 12 → 0 ≤ d k ∧ d k ≤ 1000) (hw : 0 ≤ w ∧ w ≤ 1000) (hA : w < sm d 12) : ((sp_left d w).toNat : Int) * sm d 12 ≤ sm (fun k => max (sp_rst d w k) 0) 12 := by
  have h := left_b hd hw hA
  have e : sm (fun k => max (sp_rst d w k) 0) 12 = sm (sp_rst d w) 12 := sm_cg fun k h1 h2 => by
    have := quo_b hd hw (by omega) h1 h2
    omega
  rw [e, Int.toNat_of_nonneg h.1, h.2.2]
  exact Int.le_refl _
theorem gets_sum (hd : ∀ k : Int, 0 ≤ k → k < 12 → 0 ≤ d k ∧ d k ≤ 1000) (hw : 0 ≤ w ∧ w ≤ 1000) : sm (sp_gets d w) 12 ≤ w := by
  unfold sp_gets
  split
  · assumption
  · rename_i hA
    have h := left_b hd hw (by omega)
    rw [hnd_sum, Int.toNat_of_nonneg h.1]
    unfold sp_left
    omega
theorem gets_zero (hd : ∀ k : Int, 0 ≤ k → k < 12 → 0 ≤ d k ∧ d k ≤ 1000) (hw : 0 ≤ w ∧ w ≤ 1000) {k : Int} (h0 : 0 ≤ k) (h1 : k < 12) (hk : d k = 0) : sp_gets d w k = 0 := by
  unfold sp_gets
  split
  · exact hk
  · rename_i hA
    have hq : sp_quo d w k = 0 := by unfold sp_quo; rw [hk, Int.mul_zero, Int.zero_ediv]
    have hr : sp_rst d w k = 0 := by
      have : sp_rst d w k = w * d k - sp_quo d w k * sm d 12 := rfl
      rw [this, hq, hk, Int.mul_zero, Int.zero_mul]; rfl
    rw [hnd_zero (A := sm d 12) (by omega) (by omega) _ _ _ (fun j h2 h3 => (quo_b hd hw (by omega) h2 h3).2.2.1.2) (rst_pos hd hw (by omega)) k h0 h1 (by omega), hq]
/-- the model's division: a used rest becomes 0 -/
theorem gets_0 (hd : ∀ k : Int, 0 ≤ k → k < 12 → 0 ≤ d k ∧ d k ≤ 1000) (hw : 0 ≤ w ∧ w ≤ 1000) (hA : w < sm d 12) : sp_gets d w = hnd 0 (sp_left d w).toNat (sp_quo d w) (sp_rst d w) := by
  unfold sp_gets
  rw [if_neg (by omega)]
  exact hnd_eq (A := sm d 12) (by omega) (by omega) (by omega) _ _ _ _ (fun j h2 h3 => (quo_b hd hw (by omega) h2 h3).2.2.1.2) (fun _ _ _ => rfl) (rst_pos hd hw hA)
end GETS
theorem sell_0 (s : Int → Int) (o w m pr : Int) : sp_sell s o w m 0 pr = s := by
  unfold sp_sell sp_take sp_buy
  simp only [Int.mul_zero, Int.neg_zero, uq_0]
theorem inv_sells {s g : Int → Int} {o st : Int} (h : Inv0 s) (h0 : 0 ≤ o) (h1 : o < s 14) (hop : s (59 + 22 * o) ≠ 3) (hst : 0 ≤ st ∧ st < 4) (hg : ∀ k : Int, 0 ≤ k → k < 12 → 0 ≤ g k ∧ (s 0 ≤ k → g k = 0)) : ∀ n : Nat, n ≤ 12 → smN g n ≤ s (57 + 22 * o) → Inv0 (sp_sells g o st s n) ∧ sp_sells g o st s n (57 + 22 * o) = s (57 + 22 * o) - smN g n := by
  have hA := inA h
  unfold InvA at hA
  have ho := inO h o h0 h1
  intro n
  induction n with
  | zero => intro _ _; exact ⟨h, by show s _ = _ - 0; omega⟩
  | succ n ih =>
    intro hn hs
    have hgn := hg n (by omega) (by omega)
    have hs2 : smN g (n + 1) = smN g n + g n := rfl
    obtain ⟨i1, i2⟩ := ih (by omega) (by omega)
    have kp : ∀ q : Int, (q < 19 ∨ 55 ≤ q ∨ (q - 19) % 3 = 1) → q ≠ 57 + 22 * o → q ≠ 61 + 22 * o + st → sp_sells g o st s n q = s q := fun q a b c => sells_keep ⟨by omega, by omega⟩ h0 hst (by omega) a b c
    have e14 := kp 14 (by omega) (by omega) (by omega)
    have e0 := kp 0 (by omega) (by omega) (by omega)
    have e59 := kp (59 + 22 * o) (by omega) (by omega) (by omega)
    have e55 := kp (55 + 22 * o) (by omega) (by omega) (by omega)
    have e : sp_sells g o st s (n + 1) = sp_sell (sp_sells g o st s n) o st n (g n) (sp_sells g o st s n 6) := rfl
    rw [e]
    by_cases z : g n = 0
    · rw [z, sell_0]
      exact ⟨i1, by omega⟩
    · have hm : (n : Int) < s 0 := by
        rcases Int.lt_or_le (n : Int) (s 0) with q | q
        · exact q
        · exact absurd (hgn.2 q) z
      refine ⟨inv_sell i1 h0 (by omega) (by omega) hgn.1 (by omega) (by omega) (by omega) hst, ?_⟩
      rw [sell_at ⟨by omega, by omega⟩ h0, if_neg (by omega), if_neg (by omega), if_neg (by omega), if_neg (by omega), if_pos rfl, if_neg (by omega)]
      omega
theorem dem_ok {s : Int → Int} (h : Inv0 s) {o : Int} (h0 : 0 ≤ o) (h1 : o < s 14) : (∀ k : Int, 0 ≤ k → k < 12 → 0 ≤ sp_dem s o k ∧ sp_dem s o k ≤ 1000) ∧ ∀ k : Int, 0 ≤ k → k < 12 → s 0 ≤ k → sp_dem s o k = 0 := by
  have hA := inA h
  unfold InvA at hA
  refine ⟨fun k a b => dem_b h h0 (by omega) a b, fun k a b c => ?_⟩
  have h2 := inC h o k h0 (by omega) a b
  have h3 := room_b h a b
  unfold sp_dem
  omega
theorem inv_clm {s : Int → Int} {o st : Int} (h : Inv0 s) (h0 : 0 ≤ o) (h1 : o < s 14) (hop : s (59 + 22 * o) ≠ 3) (hst : 0 ≤ st ∧ st < 4) : Inv0 (sp_clm s o st) := by
  have ho := inO h o h0 h1
  have hd := dem_ok h h0 h1
  have hw : 0 ≤ s (57 + 22 * o) ∧ s (57 + 22 * o) ≤ 1000 := by omega
  exact (inv_sells h h0 h1 hop hst (fun k a b => ⟨(gets_b hd.1 hw k a b).1, fun c => gets_zero hd.1 hw a b (hd.2 k a b c)⟩) 12 (Nat.le_refl 12) (gets_sum hd.1 hw)).1
theorem clm_keep {s : Int → Int} {o st q : Int} (hs : 0 ≤ s (55 + 22 * o) ∧ s (55 + 22 * o) < 12) (h0 : 0 ≤ o) (hst : 0 ≤ st ∧ st < 4) (h1 : q < 19 ∨ 55 ≤ q ∨ (q - 19) % 3 = 1) (h3 : q ≠ 57 + 22 * o) (h4 : q ≠ 61 + 22 * o + st) : sp_clm s o st q = s q := sells_keep hs h0 hst (Nat.le_refl 12) h1 h3 h4
theorem inv_toB {s : Int → Int} {o : Int} (h : Inv0 s) (h0 : 0 ≤ o) (h1 : o < s 14) (hop : s (59 + 22 * o) ≠ 3) : Inv0 (sp_toB s o) := by
  have hA := inA h
  unfold InvA at hA
  have ho := inO h o h0 h1
  have hr := room_b h (m := s (56 + 22 * o)) (by omega) (by omega)
  have hn : 0 ≤ sp_bn s o ∧ sp_bn s o ≤ s (57 + 22 * o) := by unfold sp_bn; omega
  exact inv_sell h h0 h1 hop hn.1 hn.2 (by omega) (by omega) ⟨by omega, by omega⟩
/-- what a stage's end leaves as it was -/
theorem mid_keep {s : Int → Int} (h : Inv0 s) {o q : Int} (h0 : 0 ≤ o) (h1 : o < s 14) (hop : s (59 + 22 * o) ≠ 3) (ha : q < 19 ∨ 55 ≤ q ∨ (q - 19) % 3 = 1) (h2 : q ≠ 2) (h3 : q ≠ 57 + 22 * o) (h4 : ¬ (61 + 22 * o ≤ q ∧ q < 65 + 22 * o)) : sp_mid s o q = s q := by
  have hA := inA h
  unfold InvA at hA
  have ho := inO h o h0 h1
  unfold sp_mid
  split
  · have e55 : sp_tre s o (55 + 22 * o) = s (55 + 22 * o) := tre_keep ⟨by omega, by omega⟩ h0 (by omega) (by omega) (by omega) (by omega)
    have e56 : sp_tre s o (56 + 22 * o) = s (56 + 22 * o) := tre_keep ⟨by omega, by omega⟩ h0 (by omega) (by omega) (by omega) (by omega)
    unfold sp_toB
    rw [sell_keep (by rw [e55]; exact ⟨by omega, by omega⟩) (by rw [e56]; exact ⟨by omega, by omega⟩) h0 ha h3 (by omega)]
    exact tre_keep ⟨by omega, by omega⟩ h0 ha h2 h3 (by omega)
  · exact clm_keep ⟨by omega, by omega⟩ h0 ⟨by omega, by omega⟩ ha h3 (by omega)
theorem inv_mid {s : Int → Int} (h : Inv0 s) {o : Int} (h0 : 0 ≤ o) (h1 : o < s 14) (hop : s (59 + 22 * o) ≠ 3) : Inv0 (sp_mid s o) := by
  have hA := inA h
  unfold InvA at hA
  have ho := inO h o h0 h1
  unfold sp_mid
  split
  · have e14 : sp_tre s o 14 = s 14 := tre_keep ⟨by omega, by omega⟩ h0 (by omega) (by omega) (by omega) (by omega)
    have e59 : sp_tre s o (59 + 22 * o) = s (59 + 22 * o) := tre_keep ⟨by omega, by omega⟩ h0 (by omega) (by omega) (by omega) (by omega)
    exact inv_toB (inv_tre h h0 h1 hop) h0 (by omega) (by omega)
  · exact inv_clm h h0 h1 hop ⟨by omega, by omega⟩
theorem inv_end {s : Int → Int} (h : Inv0 s) {o : Int} (h0 : 0 ≤ o) (h1 : o < s 14) (hop : s (59 + 22 * o) ≠ 3) : Inv0 (sp_end s o) := by
  have hA := inA h
  unfold InvA at hA
  have ho := inO h o h0 h1
  have hi := inv_mid h h0 h1 hop
  have e14 := mid_keep h (q := 14) h0 h1 hop (by omega) (by omega) (by omega) (by omega)
  have e59 := mid_keep h (q := 59 + 22 * o) h0 h1 hop (by omega) (by omega) (by omega) (by omega)
  unfold sp_end
  split
  · exact inv_begin hi h0 (by omega) ⟨by omega, by omega⟩ (Or.inl rfl)
  · rename_i hc
    exact inv_begin hi h0 (by omega) ⟨by omega, by omega⟩ (Or.inr (by omega))
theorem end_keep {s : Int → Int} (h : Inv0 s) {o q : Int} (h0 : 0 ≤ o) (h1 : o < s 14) (hop : s (59 + 22 * o) ≠ 3) (ha : q < 19 ∨ 55 ≤ q ∨ (q - 19) % 3 = 1) (h2 : q ≠ 2) (h3 : ¬ (57 + 22 * o ≤ q ∧ q < 77 + 22 * o)) (h4 : q ≠ 645 + o) : sp_end s o q = s q := by
  unfold sp_end
  split <;> rw [begin_ne (by omega) (by omega) h4 (by omega), mid_keep h h0 h1 hop ha h2 (by omega) (by omega)]
theorem tick_ne {s : Int → Int} {o q : Int} (h1 : q ≠ 645 + o) (h2 : q ≠ 60 + 22 * o) : sp_tick s o q = s q := by
  unfold sp_tick
  rw [uq_ne h2, uq_ne h1]
theorem inv_tick {s : Int → Int} (h : Inv0 s) {o : Int} (h0 : 0 ≤ o) (h1 : o < 20) : Inv0 (sp_tick s o) := by
  have hA := inA h
  unfold InvA at hA
  refine inv0_cg h (fun x w h2 h3 h4 h5 => ?_) (fun q h2 h3 h4 h5 h6 => tick_ne (by omega) (by omega))
  rw [tick_ne (by omega) (by omega)]
  exact inZ h x w h2 h3 h4 h5
theorem inv_off {s : Int → Int} (h : Inv0 s) (hD : InvD s) {o : Int} (h0 : 0 ≤ o) (h1 : o < s 14) : Inv0 (sp_off s o) ∧ InvD (sp_off s o) ∧ sp_off s o 14 = s 14 := by
  have hA := inA h
  unfold InvA at hA
  unfold sp_off
  split
  · rename_i hop
    have hd := hD o h0 h1 hop
    have ht := inv_tick h h0 (show o < 20 by omega)
    have t14 : sp_tick s o 14 = s 14 := tick_ne (by omega) (by omega)
    have t13 : sp_tick s o 13 = s 13 := tick_ne (by omega) (by omega)
    have t59 : sp_tick s o (59 + 22 * o) = s (59 + 22 * o) := tick_ne (by omega) (by omega)
    have tl : sp_tick s o (645 + o) = s (645 + o) - 1 := by unfold sp_tick; rw [uq_ne (by omega), uq_eq]; omega
    have tl2 : sp_tick s o (60 + 22 * o) = s (60 + 22 * o) - 1 := by unfold sp_tick; rw [uq_eq, uq_ne (by omega)]; omega
    split
    · rename_i hl
      have e := fun q => @end_keep _ ht o q h0 (by omega) (by omega)
      refine ⟨inv_end ht h0 (by omega) (by omega), fun x h2 h3 h4 => ?_, by rw [e 14 (by omega) (by omega) (by omega) (by omega), t14]⟩
      rw [e 14 (by omega) (by omega) (by omega) (by omega), t14] at h3
      by_cases ex : x = o
      · subst ex
        have m13 := mid_keep ht (q := 13) h0 (by omega) (by omega) (by omega) (by omega) (by omega) (by omega)
        revert h4
        unfold sp_end
        split
        · intro h4; exact absurd (show sp_begin _ x 3 0 (59 + 22 * x) = 3 from if_pos rfl) h4
        · intro _
          have b1 : sp_begin (sp_mid (sp_tick s x) x) x (sp_tick s x (59 + 22 * x) + 1) (sp_mid (sp_tick s x) x 13) (645 + x) = sp_mid (sp_tick s x) x 13 := by
            unfold sp_begin; rw [if_neg (by omega), if_neg (by omega), if_pos rfl]
          have b2 : sp_begin (sp_mid (sp_tick s x) x) x (sp_tick s x (59 + 22 * x) + 1) (sp_mid (sp_tick s x) x 13) (60 + 22 * x) = sp_mid (sp_tick s x) x 13 := by
            unfold sp_begin; rw [if_neg (by omega), if_pos rfl]
          rw [b1, b2]
          omega
      · rw [e (59 + 22 * x) (by omega) (by omega) (by omega) (by omega), tick_ne (by omega) (by omega)] at h4
        rw [e (645 + x) (by omega) (by omega) (by omega) (by omega), e (60 + 22 * x) (by omega) (by omega) (by omega) (by omega), tick_ne (by omega) (by omega), tick_ne (by omega) (by omega)]
        exact hD x h2 h3 h4
    · rename_i hl
      refine ⟨ht, fun x h2 h3 h4 => ?_, t14⟩
      rw [t14] at h3
      rw [tick_ne (by omega) (by omega)] at h4
      by_cases ex : x = o
      · subst ex; omega
      · rw [tick_ne (by omega) (by omega), tick_ne (by omega) (by omega)]
        exact hD x h2 h3 h4
  · exact ⟨h, hD, rfl⟩
theorem inv_dayS {s : Int → Int} (h : Inv0 s) (hD : InvD s) : ∀ n : Nat, (n : Int) ≤ s 14 → Inv0 (sp_dayS s n) ∧ InvD (sp_dayS s n) ∧ sp_dayS s n 14 = s 14
  | 0, _ => ⟨h, hD, rfl⟩
  | n + 1, hn => by
    obtain ⟨a, b, c⟩ := inv_dayS h hD n (by omega)
    have := inv_off a b (o := n) (by omega) (by omega)
    exact ⟨this.1, this.2.1, this.2.2.trans c⟩
theorem inv_670 {s : Int → Int} (h : Inv0 s) (hD : InvD s) (v : Int) : Inv0 (uq s 670 v) ∧ InvD (uq s 670 v) ∧ uq s 670 v 14 = s 14 := by
  have hA := inA h
  unfold InvA at hA
  have e14 : uq s 670 v 14 = s 14 := uq_ne (by omega)
  refine ⟨inv0_cg h (fun x w h2 h3 h4 h5 => ?_) (fun q h2 h3 h4 h5 h6 => uq_ne (by omega)), fun x h2 h3 h4 => ?_, e14⟩
  · rw [uq_ne (by omega)]; exact inZ h x w h2 h3 h4 h5
  · rw [e14] at h3
    rw [uq_ne (by omega)] at h4
    rw [uq_ne (by omega), uq_ne (by omega)]
    exact hD x h2 h3 h4
theorem inv_day {s : Int → Int} (h : Inv0 s) (hD : InvD s) : Inv0 (sp_day s) ∧ InvD (sp_day s) ∧ sp_day s 14 = s 14 := by
  have hA := inA h
  unfold InvA at hA
  have h1 := inv_670 h hD 1
  have h2 := inv_dayS h1.1 h1.2.1 (s 14).toNat (by omega)
  exact ⟨h2.1, h2.2.1, h2.2.2.trans h1.2.2⟩
theorem inv_days {s : Int → Int} (h : Inv0 s) (hD : InvD s) : ∀ n : Nat, Inv0 (sp_days s n) ∧ InvD (sp_days s n) ∧ sp_days s n 14 = s 14
  | 0 => ⟨h, hD, rfl⟩
  | n + 1 => by
    obtain ⟨a, b, c⟩ := inv_days h hD n
    have := inv_day a b
    exact ⟨this.1, this.2.1, this.2.2.trans c⟩
