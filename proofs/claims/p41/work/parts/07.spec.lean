/-! THE STATE AS NUMBERS. s q: the number at the place q: 0 members, 1 liters, 2 treasury, 3 its limit, 4 cap, 5 par, 6 price, 7 assets, 8 debts, 9 surpluses, 10.. the surpluses, 13 stage length, 14 offers, 15 motions, 16 rule, 17 quorum, 18 day (the model's; the class's: 670), 19 + 3 m member m (shares, milk, account), 55 + 22 o offer o (seller, buyer, remains, offered, stage, days left (the model's; the class's: 645 + o), sold 4, claims 12), 495 + 15 q motion q (kind, value, state, ballots 12) -/
def smN (f : Int → Int) : Nat → Int
  | 0 => 0
  | n + 1 => smN f n + f n
/-- the sum of f over 0 .. n - 1 -/
def sm (f : Int → Int) (n : Int) : Int := smN f n.toNat
theorem sm_0 (f : Int → Int) : sm f 0 = 0 := rfl
theorem sm_s {f : Int → Int} {n : Int} (h : 0 ≤ n) : sm f (n + 1) = sm f n + f n := by
  unfold sm
  rw [show (n + 1).toNat = n.toNat + 1 by omega]
  show smN f n.toNat + f (n.toNat : Int) = _
  rw [Int.toNat_of_nonneg h]
theorem smN_cg {f g : Int → Int} : ∀ {n : Nat}, (∀ k : Int, 0 ≤ k → k < n → f k = g k) → smN f n = smN g n
  | 0, _ => rfl
  | n + 1, h => by
    show smN f n + f n = smN g n + g n
    rw [smN_cg (n := n) (fun k h1 h2 => h k h1 (by omega)), h n (by omega) (by omega)]
theorem sm_cg {f g : Int → Int} {n : Int} (h : ∀ k : Int, 0 ≤ k → k < n → f k = g k) : sm f n = sm g n := smN_cg fun k h1 h2 => h k h1 (by omega)
theorem sm_b {f : Int → Int} {n a b : Int} (hn : 0 ≤ n) (h : ∀ k : Int, 0 ≤ k → k < n → a ≤ f k ∧ f k ≤ b) : n * a ≤ sm f n ∧ sm f n ≤ n * b := by
  have key : ∀ m : Nat, (m : Int) ≤ n → (m : Int) * a ≤ smN f m ∧ smN f m ≤ (m : Int) * b := by
    intro m
    induction m with
    | zero => intro _; simp [smN]
    | succ m ih =>
      intro hm
      have h1 := ih (by omega)
      have h2 := h m (by omega) (by omega)
      show ((m + 1 : Nat) : Int) * a ≤ smN f m + f m ∧ smN f m + f m ≤ ((m + 1 : Nat) : Int) * b
      rw [show ((m + 1 : Nat) : Int) = (m : Int) + 1 from rfl, Int.add_mul, Int.add_mul, Int.one_mul, Int.one_mul]
      omega
  have := key n.toNat (by omega)
  rw [Int.toNat_of_nonneg hn] at this
  exact this
theorem smN_up (f : Int → Int) (i v : Int) : ∀ n : Nat, smN (up f i v) n = smN f n + (if 0 ≤ i ∧ i < n then v - f i else 0)
  | 0 => by show (0 : Int) = 0 + _; rw [if_neg (by omega)]; rfl
  | n + 1 => by
    show smN (up f i v) n + up f i v n = smN f n + f n + _
    rw [smN_up f i v n]
    by_cases h : i = n
    · subst h
      rw [up_eq, if_neg (by omega), if_pos (by omega)]; omega
    · rw [up_ne (Ne.symm h)]
      by_cases h2 : 0 ≤ i ∧ i < n
      · rw [if_pos h2, if_pos (by omega)]; omega
      · rw [if_neg h2, if_neg (by omega)]; omega
theorem sm_up (f : Int → Int) {i v n : Int} (h : 0 ≤ i) (h2 : i < n) : sm (up f i v) n = sm f n + v - f i := by
  unfold sm
  rw [smN_up, if_pos (by omega)]; omega
theorem sm_nn {f : Int → Int} {n : Int} (h0 : ∀ k : Int, 0 ≤ k → k < n → 0 ≤ f k) : 0 ≤ sm f n := by
  have key : ∀ m : Nat, (m : Int) ≤ n ∨ m = 0 → 0 ≤ smN f m := by
    intro m
    induction m with
    | zero => intro _; exact Int.le_refl 0
    | succ m ih =>
      intro hm
      have h5 := ih (by omega)
      have h6 := h0 m (by omega) (by omega)
      show 0 ≤ smN f m + f m
      omega
  exact key n.toNat (by omega)
theorem sm_mem {f : Int → Int} {n i : Int} (h : 0 ≤ i) (h2 : i < n) (h0 : ∀ k : Int, 0 ≤ k → k < n → 0 ≤ f k) : f i ≤ sm f n := by
  have h1 := sm_up f (v := 0) h h2
  have h4 : 0 ≤ sm (up f i 0) n := sm_nn fun k h5 h6 => by
    by_cases e : k = i
    · rw [e, up_eq]; omega
    · rw [up_ne e]; exact h0 k h5 h6
  omega
/-- a place grows by v -/
def uq (s : Int → Int) (k v : Int) : Int → Int := up s k (s k + v)
theorem uq_eq {s : Int → Int} {k v : Int} : uq s k v k = s k + v := up_eq
theorem uq_ne {s : Int → Int} {k v q : Int} (h : q ≠ k) : uq s k v q = s q := up_ne h
theorem uq_0 (s : Int → Int) (k : Int) : uq s k 0 = s := by unfold uq; rw [Int.add_zero]; exact up_id rfl
theorem uq_sw (s : Int → Int) (k j v w : Int) : uq (uq s k v) j w = uq (uq s j w) k v := by
  by_cases c : j = k
  · subst c
    unfold uq
    rw [up_eq, up_eq, up_up, up_up]
    congr 1; omega
  · unfold uq
    rw [up_ne c, up_ne (Ne.symm c)]
    exact up_sw s (Ne.symm c) _ _
theorem uq_sub (s : Int → Int) (k v : Int) : up s k (s k - v) = uq s k (-v) := by unfold uq; rw [Int.sub_eq_add_neg]
def sp_all (s : Int → Int) : Int := s 2 + sm (fun k => s (19 + 3 * k)) (s 0)
def sp_req (s : Int → Int) (m : Int) : Int := (s (20 + 3 * m) + s 1 - 1) / s 1
def sp_ro (s : Int → Int) (m : Int) : Int → Int := fun k => if s (59 + 22 * k) ≠ 3 ∧ s (55 + 22 * k) = m then s (57 + 22 * k) else 0
def sp_rem (s : Int → Int) (m : Int) : Int := sm (sp_ro s m) (s 14)
def sp_free (s : Int → Int) (m : Int) : Int := max (s (19 + 3 * m) - (sp_req s m + sp_rem s m)) 0
def sp_room (s : Int → Int) (m : Int) : Int := max (sp_all s * s 4 / 100 - s (19 + 3 * m)) 0
abbrev sp_needy (s : Int → Int) (m : Int) : Prop := s (19 + 3 * m) < sp_req s m
abbrev sp_can (s : Int → Int) (o m : Int) : Prop := s (55 + 22 * o) ≠ m ∧ ((s (59 + 22 * o) = 0 ∧ sp_needy s m) ∨ s (59 + 22 * o) = 1)
def sp_begin (s : Int → Int) (o st len : Int) : Int → Int := fun q => if q = 59 + 22 * o then st else if q = 60 + 22 * o then s 13 else if q = 645 + o then len else if 65 + 22 * o ≤ q ∧ q < 77 + 22 * o then 0 else s q
def sp_take (s : Int → Int) (o w n pr : Int) : Int → Int := uq (uq (uq (uq s (19 + 3 * s (55 + 22 * o)) (-n)) (21 + 3 * s (55 + 22 * o)) (pr * n)) (57 + 22 * o) (-n)) (61 + 22 * o + w) n
def sp_buy (s : Int → Int) (m n pr : Int) : Int → Int := uq (uq s (19 + 3 * m) n) (21 + 3 * m) (-(pr * n))
def sp_sell (s : Int → Int) (o w m n pr : Int) : Int → Int := sp_take (sp_buy s m n pr) o w n pr
def sp_tn (s : Int → Int) (o : Int) : Int := min (s (57 + 22 * o)) (max (s 3 - s 2) 0)
def sp_tre (s : Int → Int) (o : Int) : Int → Int := sp_take (uq s 2 (sp_tn s o)) o 2 (sp_tn s o) (s 6)
def sp_bn (s : Int → Int) (o : Int) : Int := min (s (57 + 22 * o)) (sp_room s (s (56 + 22 * o)))
def sp_toB (s : Int → Int) (o : Int) : Int → Int := sp_sell s o 3 (s (56 + 22 * o)) (sp_bn s o) (s (58 + 22 * o))
def sp_dem (s : Int → Int) (o : Int) : Int → Int := fun k => min (s (65 + 22 * o + k)) (sp_room s k)
/-- the first place of 0 .. n where f is greatest -/
def bst (f : Int → Int) : Nat → Int
  | 0 => 0
  | n + 1 => if f (bst f n) < f ((n : Int) + 1) then (n : Int) + 1 else bst f n
/-- one by one to the greatest rests; a rest that was used becomes z -/
def hnd (z : Int) : Nat → (Int → Int) → (Int → Int) → (Int → Int)
  | 0, g, _ => g
  | n + 1, g, r => hnd z n (up g (bst r 11) (g (bst r 11) + 1)) (up r (bst r 11) z)
def sp_quo (d : Int → Int) (w : Int) : Int → Int := fun k => w * d k / sm d 12
def sp_rst (d : Int → Int) (w : Int) : Int → Int := fun k => w * d k - w * d k / sm d 12 * sm d 12
def sp_left (d : Int → Int) (w : Int) : Int := w - sm (sp_quo d w) 12
def sp_gets (d : Int → Int) (w : Int) : Int → Int := if sm d 12 ≤ w then d else hnd (-1) (sp_left d w).toNat (sp_quo d w) (sp_rst d w)
def sp_sells (g : Int → Int) (o st : Int) (s : Int → Int) : Nat → (Int → Int)
  | 0 => s
  | k + 1 => sp_sell (sp_sells g o st s k) o st k (g k) (sp_sells g o st s k 6)
def sp_clm (s : Int → Int) (o st : Int) : Int → Int := sp_sells (sp_gets (sp_dem s o) (s (57 + 22 * o))) o st s 12
def sp_mid (s : Int → Int) (o : Int) : Int → Int := if s (59 + 22 * o) = 2 then sp_toB (sp_tre s o) o else sp_clm s o (s (59 + 22 * o))
abbrev sp_shut (s : Int → Int) (o : Int) : Prop := s (59 + 22 * o) = 2 ∨ sp_mid s o (57 + 22 * o) ≤ 0
def sp_end (s : Int → Int) (o : Int) : Int → Int := if sp_shut s o then sp_begin (sp_mid s o) o 3 0 else sp_begin (sp_mid s o) o (s (59 + 22 * o) + 1) (sp_mid s o 13)
def sp_tick (s : Int → Int) (o : Int) : Int → Int := uq (uq s (645 + o) (-1)) (60 + 22 * o) (-1)
abbrev sp_last (s : Int → Int) (o : Int) : Prop := s (59 + 22 * o) ≠ 3 ∧ s (645 + o) - 1 ≤ 0
def sp_off (s : Int → Int) (o : Int) : Int → Int := if s (59 + 22 * o) ≠ 3 then (if s (645 + o) - 1 ≤ 0 then sp_end (sp_tick s o) o else sp_tick s o) else s
def sp_offC (s : Int → Int) (o : Int) : Int := if sp_last s o ∧ sp_shut (sp_tick s o) o then 1 else 0
def sp_dayS (s : Int → Int) : Nat → (Int → Int)
  | 0 => s
  | k + 1 => sp_off (sp_dayS s k) k
def sp_dayC (s : Int → Int) : Nat → Int
  | 0 => 0
  | k + 1 => sp_dayC s k + sp_offC (sp_dayS s k) k
def sp_day (s : Int → Int) : Int → Int := sp_dayS (uq s 670 1) (s 14).toNat
def sp_dayN (s : Int → Int) : Int := sp_dayC (uq s 670 1) (s 14).toNat
def sp_days (s : Int → Int) : Nat → (Int → Int)
  | 0 => s
  | d + 1 => sp_day (sp_days s d)
def sp_daysN (s : Int → Int) : Nat → Int
  | 0 => 0
  | d + 1 => sp_daysN s d + sp_dayN (sp_days s d)
/-- the root: the loop of both programs, with fuel -/
def rtl : Nat → Int → Int → Int
  | 0, k, _ => k
  | f + 1, k, n => if (k + 1) * (k + 1) ≤ n then rtl f (k + 1) n else k
def sp_root (n : Int) : Int := rtl 10000 0 n
def sp_votes (s : Int → Int) (m : Int) : Int := if s (19 + 3 * m) ≤ 0 then 0 else if s 16 = 1 then s (19 + 3 * m) else if s 16 = 2 then s (20 + 3 * m) / 1000 + 1 else if s 16 = 3 then sp_root (s (19 + 3 * m)) else 1
def sp_vf (s : Int → Int) (q b : Int) : Int → Int := fun k => if s (498 + 15 * q + k) = b then sp_votes s k else 0
def sp_sum (s : Int → Int) (q b : Int) : Int := sm (sp_vf s q b) (s 0)
abbrev sp_pass (s : Int → Int) (q : Int) : Prop := (sp_sum s q 1 + sp_sum s q 2 + sp_sum s q 0) * s 17 ≤ (sp_sum s q 1 + sp_sum s q 2) * 100 ∧ sp_sum s q 1 + sp_sum s q 2 < 2 * sp_sum s q 1
def sp_divi (v : Int) (s : Int → Int) : Nat → (Int → Int)
  | 0 => s
  | k + 1 => uq (sp_divi v s k) (21 + 3 * k) (s (19 + 3 * k) * s 5 * v / 100)
def sp_does (s : Int → Int) (kind v : Int) : Int → Int := if kind = 0 then up s 5 v else if kind = 1 then up s 4 v else if kind = 2 then up s 13 v else if kind = 3 then uq s 2 (-(min v (s 2))) else sp_divi v s (s 0).toNat
def sp_clo (s : Int → Int) (q : Int) : Int → Int := if sp_pass s q then sp_does (up s (497 + 15 * q) 1) (s (495 + 15 * q)) (s (496 + 15 * q)) else up s (497 + 15 * q) 2
def sp_cnt (s : Int → Int) (q : Int) : Int := sm (fun k => if s (498 + 15 * q + k) ≠ 0 then 1 else 0) 12
def sp_mean (s : Int → Int) : Int := sm (fun k => s (10 + k)) (s 9) / s 9
def sp_val (s : Int → Int) (all : Int) : Int := (3 * ((s 7 - s 8) / all) + 2 * (10 * sp_mean s / all)) / 5
def sp_rec (s : Int → Int) (a : Int) : Int → Int := if 3 ≤ s 9 then up (up (up (up (up s 10 (s 11)) 11 (s 12)) 9 2) 12 a) 9 3 else up (up s (10 + s 9) a) 9 (s 9 + 1)
def sp_offer (s : Int → Int) (se bu n pr : Int) : Int → Int := sp_begin (up (up (up (up (up s 14 (s 14 + 1)) (55 + 22 * s 14) se) (56 + 22 * s 14) bu) (57 + 22 * s 14) n) (58 + 22 * s 14) pr) (s 14) 0 (s 13)
def sp_prop (s : Int → Int) (kd v : Int) : Int → Int := up (up (up (up s 15 (s 15 + 1)) (495 + 15 * s 15) kd) (496 + 15 * s 15) v) (497 + 15 * s 15) 0
