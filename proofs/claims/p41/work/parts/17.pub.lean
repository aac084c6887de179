/-! WHAT THE CALLS ANSWER AND DO -/
abbrev isM (s : Int → Int) (m : Int) : Prop := 0 ≤ m ∧ m < s 0
abbrev isO (s : Int → Int) (o : Int) : Prop := 0 ≤ o ∧ o < s 14
abbrev isQ (s : Int → Int) (q : Int) : Prop := 0 ≤ q ∧ q < s 15
abbrev ok_join (s : Int → Int) : Prop := s 0 < 12
def rv_join (s : Int → Int) : Int := if s 0 < 12 then s 0 else -2000000003
def nx_join (s : Int → Int) : Int → Int := up s 0 (s 0 + 1)
abbrev ok_issue (s : Int → Int) (m n : Int) : Prop := ((0 ≤ m ∧ m < s 0) ∧ 1 ≤ n ∧ n ≤ 1000) ∧ sp_all s + n ≤ 10000
def rv_issue (s : Int → Int) (m n : Int) : Int := if (0 ≤ m ∧ m < s 0) ∧ 1 ≤ n ∧ n ≤ 1000 then (if sp_all s + n ≤ 10000 then sp_all s + n else -2000000003) else -2000000001
def nx_issue (s : Int → Int) (m n : Int) : Int → Int := uq (uq s (19 + 3 * m) n) (21 + 3 * m) (-(s 6 * n))
abbrev ok_setMilk (s : Int → Int) (m v : Int) : Prop := (0 ≤ m ∧ m < s 0) ∧ 0 ≤ v ∧ v ≤ 1000000
def rv_setMilk (s : Int → Int) (m v : Int) : Int := if (0 ≤ m ∧ m < s 0) ∧ 0 ≤ v ∧ v ≤ 1000000 then s (20 + 3 * m) else -2000000001
def nx_setMilk (s : Int → Int) (m v : Int) : Int → Int := up s (20 + 3 * m) v
abbrev ok_setLitersPerShare (v : Int) : Prop := 100 ≤ v ∧ v ≤ 10000
def rv_setLitersPerShare (s : Int → Int) (v : Int) : Int := if 100 ≤ v ∧ v ≤ 10000 then s 1 else -2000000001
def nx_setLitersPerShare (s : Int → Int) (v : Int) : Int → Int := up s 1 v
abbrev ok_setTreasuryLimit (v : Int) : Prop := 0 ≤ v ∧ v ≤ 1000
def rv_setTreasuryLimit (s : Int → Int) (v : Int) : Int := if 0 ≤ v ∧ v ≤ 1000 then s 3 else -2000000001
def nx_setTreasuryLimit (s : Int → Int) (v : Int) : Int → Int := up s 3 v
abbrev ok_setBooks (a b : Int) : Prop := (0 ≤ a ∧ a ≤ 100000000) ∧ 0 ≤ b ∧ b ≤ 100000000
def rv_setBooks (s : Int → Int) (a b : Int) : Int := if (0 ≤ a ∧ a ≤ 100000000) ∧ 0 ≤ b ∧ b ≤ 100000000 then s 7 - s 8 else -2000000001
def nx_setBooks (s : Int → Int) (a b : Int) : Int → Int := up (up s 7 a) 8 b
abbrev ok_addSurplus (a : Int) : Prop := -1000000 ≤ a ∧ a ≤ 1000000
def rv_addSurplus (s : Int → Int) (a : Int) : Int := if -1000000 ≤ a ∧ a ≤ 1000000 then (if 3 ≤ s 9 then 3 else s 9 + 1) else -2000000001
def nx_addSurplus (s : Int → Int) (a : Int) : Int → Int := sp_rec s a
abbrev ok_valuate (s : Int → Int) : Prop := 0 < sp_all s
def rv_valuate (s : Int → Int) : Int := if 0 < sp_all s then max (sp_val s (sp_all s)) (s 5) else -2000000002
def nx_valuate (s : Int → Int) : Int → Int := up s 6 (max (sp_val s (sp_all s)) (s 5))
abbrev o1_offer (s : Int → Int) (se bu n pr : Int) : Prop := ((0 ≤ se ∧ se < s 0) ∧ (0 ≤ bu ∧ bu < s 0) ∧ se ≠ bu) ∧ (1 ≤ n ∧ n ≤ 1000) ∧ 1 ≤ pr ∧ pr ≤ 100000
abbrev o2_offer (s : Int → Int) (se n pr : Int) : Prop := n ≤ sp_free s se ∧ s 5 ≤ pr
abbrev ok_offer (s : Int → Int) (se bu n pr : Int) : Prop := (((0 ≤ se ∧ se < s 0) ∧ (0 ≤ bu ∧ bu < s 0) ∧ se ≠ bu) ∧ (1 ≤ n ∧ n ≤ 1000) ∧ 1 ≤ pr ∧ pr ≤ 100000) ∧ (n ≤ sp_free s se ∧ s 5 ≤ pr) ∧ s 14 < 20
def rv_offer (s : Int → Int) (se bu n pr : Int) : Int := if (((0 ≤ se ∧ se < s 0) ∧ (0 ≤ bu ∧ bu < s 0) ∧ se ≠ bu) ∧ (1 ≤ n ∧ n ≤ 1000) ∧ 1 ≤ pr ∧ pr ≤ 100000) then (if (n ≤ sp_free s se ∧ s 5 ≤ pr) then (if s 14 < 20 then s 14 else -2000000003) else -2000000002) else -2000000001
abbrev o1_claim (s : Int → Int) (o m n : Int) : Prop := (0 ≤ o ∧ o < s 14) ∧ (0 ≤ m ∧ m < s 0) ∧ 1 ≤ n ∧ n ≤ 1000
abbrev ok_claim (s : Int → Int) (o m n : Int) : Prop := ((0 ≤ o ∧ o < s 14) ∧ (0 ≤ m ∧ m < s 0) ∧ 1 ≤ n ∧ n ≤ 1000) ∧ sp_can s o m
def nx_claim (s : Int → Int) (o m n : Int) : Int → Int := up s (65 + 22 * o + m) n
def rv_claim (s : Int → Int) (o m n : Int) : Int := if ((0 ≤ o ∧ o < s 14) ∧ (0 ≤ m ∧ m < s 0) ∧ 1 ≤ n ∧ n ≤ 1000) then (if sp_can s o m then sm (fun k => nx_claim s o m n (65 + 22 * o + k)) 12 else -2000000002) else -2000000001
abbrev ok_withdraw (s : Int → Int) (o : Int) : Prop := (0 ≤ o ∧ o < s 14) ∧ s (59 + 22 * o) ≠ 3
def rv_withdraw (s : Int → Int) (o : Int) : Int := if (0 ≤ o ∧ o < s 14) then (if s (59 + 22 * o) ≠ 3 then s (57 + 22 * o) else -2000000002) else -2000000001
def nx_withdraw (s : Int → Int) (o : Int) : Int → Int := sp_begin s o 3 0
abbrev ok_passDays (d : Int) : Prop := 1 ≤ d ∧ d ≤ 60
def rv_passDays (s : Int → Int) (d : Int) : Int := if 1 ≤ d ∧ d ≤ 60 then sp_daysN s d.toNat else -2000000001
def nx_passDays (s : Int → Int) (d : Int) : Int → Int := uq (sp_days s d.toNat) 18 d
abbrev ok_setVoting (a b : Int) : Prop := (0 ≤ a ∧ a ≤ 3) ∧ 0 ≤ b ∧ b ≤ 100
def rv_setVoting (s : Int → Int) (a b : Int) : Int := if (0 ≤ a ∧ a ≤ 3) ∧ 0 ≤ b ∧ b ≤ 100 then s 16 else -2000000001
def nx_setVoting (s : Int → Int) (a b : Int) : Int → Int := up (up s 16 a) 17 b
abbrev o1_propose (k v : Int) : Prop := (k = 0 ∧ 1 ≤ v ∧ v ≤ 1000) ∨ (k = 1 ∧ 5 ≤ v ∧ v ≤ 100) ∨ (k = 2 ∧ 1 ≤ v ∧ v ≤ 10) ∨ (k = 3 ∧ 1 ≤ v ∧ v ≤ 1000) ∨ (k = 4 ∧ 1 ≤ v ∧ v ≤ 100)
abbrev ok_propose (s : Int → Int) (k v : Int) : Prop := ((k = 0 ∧ 1 ≤ v ∧ v ≤ 1000) ∨ (k = 1 ∧ 5 ≤ v ∧ v ≤ 100) ∨ (k = 2 ∧ 1 ≤ v ∧ v ≤ 10) ∨ (k = 3 ∧ 1 ≤ v ∧ v ≤ 1000) ∨ (k = 4 ∧ 1 ≤ v ∧ v ≤ 100)) ∧ s 15 < 10
def rv_propose (s : Int → Int) (k v : Int) : Int := if ((k = 0 ∧ 1 ≤ v ∧ v ≤ 1000) ∨ (k = 1 ∧ 5 ≤ v ∧ v ≤ 100) ∨ (k = 2 ∧ 1 ≤ v ∧ v ≤ 10) ∨ (k = 3 ∧ 1 ≤ v ∧ v ≤ 1000) ∨ (k = 4 ∧ 1 ≤ v ∧ v ≤ 100)) then (if s 15 < 10 then s 15 else -2000000003) else -2000000001
abbrev o1_vote (s : Int → Int) (q m y : Int) : Prop := (0 ≤ q ∧ q < s 15) ∧ (0 ≤ m ∧ m < s 0) ∧ 0 ≤ y ∧ y ≤ 1
abbrev ok_vote (s : Int → Int) (q m y : Int) : Prop := ((0 ≤ q ∧ q < s 15) ∧ (0 ≤ m ∧ m < s 0) ∧ 0 ≤ y ∧ y ≤ 1) ∧ s (497 + 15 * q) = 0
def nx_vote (s : Int → Int) (q m y : Int) : Int → Int := up s (498 + 15 * q + m) (if y = 1 then 1 else 2)
def rv_vote (s : Int → Int) (q m y : Int) : Int := if ((0 ≤ q ∧ q < s 15) ∧ (0 ≤ m ∧ m < s 0) ∧ 0 ≤ y ∧ y ≤ 1) then (if s (497 + 15 * q) = 0 then sp_cnt (nx_vote s q m y) q else -2000000002) else -2000000001
abbrev ok_closeMotion (s : Int → Int) (q : Int) : Prop := (0 ≤ q ∧ q < s 15) ∧ s (497 + 15 * q) = 0
def rv_closeMotion (s : Int → Int) (q : Int) : Int := if (0 ≤ q ∧ q < s 15) then (if s (497 + 15 * q) = 0 then zbo (sp_pass s q) else -2000000002) else -2000000001
def rv_shares (s : Int → Int) (m : Int) : Int := if (0 ≤ m ∧ m < s 0) then s (19 + 3 * m) else -2000000001
def rv_account (s : Int → Int) (m : Int) : Int := if (0 ≤ m ∧ m < s 0) then s (21 + 3 * m) else -2000000001
def rv_requirement (s : Int → Int) (m : Int) : Int := if (0 ≤ m ∧ m < s 0) then sp_req s m else -2000000001
def rv_freeShares (s : Int → Int) (m : Int) : Int := if (0 ≤ m ∧ m < s 0) then sp_free s m else -2000000001
def rv_room (s : Int → Int) (m : Int) : Int := if (0 ≤ m ∧ m < s 0) then sp_room s m else -2000000001
def rv_stage (s : Int → Int) (o : Int) : Int := if (0 ≤ o ∧ o < s 14) then s (59 + 22 * o) else -2000000001
def rv_remaining (s : Int → Int) (o : Int) : Int := if (0 ≤ o ∧ o < s 14) then s (57 + 22 * o) else -2000000001
def rv_daysLeft (s : Int → Int) (o : Int) : Int := if (0 ≤ o ∧ o < s 14) then (if s (59 + 22 * o) ≠ 3 then s (645 + o) else -2000000004) else -2000000001
def rv_sold (s : Int → Int) (o w : Int) : Int := if (0 ≤ o ∧ o < s 14) ∧ 0 ≤ w ∧ w ≤ 3 then s (61 + 22 * o + w) else -2000000001
def rv_claimOf (s : Int → Int) (o m : Int) : Int := if (0 ≤ o ∧ o < s 14) ∧ (0 ≤ m ∧ m < s 0) then s (65 + 22 * o + m) else -2000000001
def rv_votes (s : Int → Int) (m : Int) : Int := if (0 ≤ m ∧ m < s 0) then sp_votes s m else -2000000001
def rv_motionState (s : Int → Int) (q : Int) : Int := if (0 ≤ q ∧ q < s 15) then s (497 + 15 * q) else -2000000001
def rv_votesFor (s : Int → Int) (q : Int) : Int := if (0 ≤ q ∧ q < s 15) then sp_sum s q 1 else -2000000001
/-! the invariant is kept -/
theorem inv_sc {s t : Int → Int} (h : Inv s) (hA : InvA t) (hS : InvS t) (e : ∀ q : Int, (q = 0 ∨ q = 2 ∨ q = 14 ∨ q = 15 ∨ q = 18 ∨ 19 ≤ q) → t q = s q) : Inv t := by
  obtain ⟨h0, hD, h18⟩ := h
  have e0 := e 0 (by omega)
  have e14 := e 14 (by omega)
  have e15 := e 15 (by omega)
  have h2 : ∀ m : Int, sp_rem t m = sp_rem s m := fun m => by
    unfold sp_rem
    rw [e14]
    exact sm_cg fun k a b => by unfold sp_ro; rw [e _ (by omega), e _ (by omega), e _ (by omega)]
  refine ⟨⟨hA, hS, fun m a b => ?_, ?_, fun o a b => ?_, fun o w a b c d => ?_, fun o k a b c d => ?_, fun q a b => ?_, fun q k a b c d => ?_, fun m a b => ?_⟩, fun o a b c => ?_, by rw [e 18 (by omega), e 670 (by omega)]; exact h18⟩
  · rw [e0, e _ (by omega), e _ (by omega)]; exact inMm h0 m a b
  · have : sp_all t = sp_all s := by
      unfold sp_all
      rw [e0, e 2 (by omega), sm_cg fun k a b => e (19 + 3 * k) (by omega)]
    rw [this]; exact (inT h0).2
  · rw [e14] at b
    rw [e0, e _ (by omega), e _ (by omega), e _ (by omega), e _ (by omega), e _ (by omega)]; exact inO h0 o a b
  · rw [e14] at a
    have := inA h0
    unfold InvA at this
    rw [e _ (by omega)]; exact inZ h0 o w a b c d
  · rw [e0, e _ (by omega)]; exact inC h0 o k a b c d
  · rw [e15] at b
    rw [e _ (by omega), e _ (by omega), e _ (by omega)]; exact inQ h0 q a b
  · rw [e15, e _ (by omega)]; exact inV h0 q k a b c d
  · rw [h2, e _ (by omega)]; exact inB h0 m a b
  · rw [e14] at b
    rw [e _ (by omega)] at c
    rw [e _ (by omega), e _ (by omega)]; exact hD o a b c
theorem inv_put {s : Int → Int} (h : Inv s) {q v : Int} (hq : q = 1 ∨ q = 3 ∨ q = 4 ∨ q = 5 ∨ q = 6 ∨ q = 7 ∨ q = 8 ∨ q = 13 ∨ q = 16 ∨ q = 17) (hA : InvA (up s q v)) : Inv (up s q v) :=
  inv_sc h hA (fun k a b => by rw [up_ne (by omega)]; exact inS h.1 k a b) (fun x hx => up_ne (by omega))
theorem invA_put {s : Int → Int} (h : InvA s) {q v : Int} (hq : (q = 1 ∧ 100 ≤ v ∧ v ≤ 10000) ∨ (q = 3 ∧ 0 ≤ v ∧ v ≤ 1000) ∨ (q = 4 ∧ 5 ≤ v ∧ v ≤ 100) ∨ (q = 5 ∧ 1 ≤ v ∧ v ≤ 1000) ∨ (q = 6 ∧ 1 ≤ v ∧ v ≤ 100000000) ∨ (q = 7 ∧ 0 ≤ v ∧ v ≤ 100000000) ∨ (q = 8 ∧ 0 ≤ v ∧ v ≤ 100000000) ∨ (q = 13 ∧ 1 ≤ v ∧ v ≤ 10) ∨ (q = 16 ∧ 0 ≤ v ∧ v ≤ 3) ∨ (q = 17 ∧ 0 ≤ v ∧ v ≤ 100)) : InvA (up s q v) := by
  unfold InvA at h ⊢
  rcases hq with ⟨rfl, a⟩ | ⟨rfl, a⟩ | ⟨rfl, a⟩ | ⟨rfl, a⟩ | ⟨rfl, a⟩ | ⟨rfl, a⟩ | ⟨rfl, a⟩ | ⟨rfl, a⟩ | ⟨rfl, a⟩ | ⟨rfl, a⟩ <;> simp [up] <;> omega
theorem inv_setLitersPerShare {s : Int → Int} (h : Inv s) {v : Int} (hv : ok_setLitersPerShare v) : Inv (nx_setLitersPerShare s v) := inv_put h (by omega) (invA_put (inA h.1) (by omega))
theorem inv_setTreasuryLimit {s : Int → Int} (h : Inv s) {v : Int} (hv : ok_setTreasuryLimit v) : Inv (nx_setTreasuryLimit s v) := inv_put h (by omega) (invA_put (inA h.1) (by omega))
theorem inv_setBooks {s : Int → Int} (h : Inv s) {a b : Int} (hv : ok_setBooks a b) : Inv (nx_setBooks s a b) := by
  have h1 : Inv (up s 7 a) := inv_put h (by omega) (invA_put (inA h.1) (by omega))
  exact inv_put h1 (by omega) (invA_put (inA h1.1) (by omega))
theorem inv_setVoting {s : Int → Int} (h : Inv s) {a b : Int} (hv : ok_setVoting a b) : Inv (nx_setVoting s a b) := by
  have h1 : Inv (up s 16 a) := inv_put h (by omega) (invA_put (inA h.1) (by omega))
  exact inv_put h1 (by omega) (invA_put (inA h1.1) (by omega))
theorem val_b {s : Int → Int} (h : Inv0 s) {all : Int} (ha : 1 ≤ all) : sp_val s all ≤ 100000000 ∧ -100000000 ≤ sp_val s all := by
  have hA := inA h
  unfold InvA at hA
  have hm := mean_b h
  have e1 := ediv_b (a := s 7 - s 8) (b := all) (M := 100000000) ha (by omega) (by omega)
  have e2 := ediv_b (a := 10 * sp_mean s) (b := all) (M := 10000000) ha (by omega) (by omega)
  unfold sp_val
  omega
theorem inv_valuate {s : Int → Int} (h : Inv s) (hv : ok_valuate s) : Inv (nx_valuate s) := by
  have hA := inA h.1
  have hb := val_b h.1 (all := sp_all s) (by omega)
  refine inv_put h (by omega) (invA_put hA ?_)
  unfold InvA at hA
  omega
theorem inv_addSurplus {s : Int → Int} (h : Inv s) {a : Int} (hv : ok_addSurplus a) : Inv (nx_addSurplus s a) := by
  have hA := inA h.1
  have hS := inS h.1
  have s0 : -1000000 ≤ s 10 ∧ s 10 ≤ 1000000 := hS 0 (by omega) (by omega)
  have s1 : -1000000 ≤ s 11 ∧ s 11 ≤ 1000000 := hS 1 (by omega) (by omega)
  have s2 : -1000000 ≤ s 12 ∧ s 12 ≤ 1000000 := hS 2 (by omega) (by omega)
  unfold nx_addSurplus sp_rec
  unfold InvA at hA
  split
  · refine inv_sc h ?_ (fun k k0 k1 => ?_) (fun q hq => ?_)
    · unfold InvA; simp [up]; omega
    · rcases (show k = 0 ∨ k = 1 ∨ k = 2 by omega) with rfl | rfl | rfl <;> simp [up] <;> omega
    · rw [up_ne (by omega), up_ne (by omega), up_ne (by omega), up_ne (by omega), up_ne (by omega)]
  · refine inv_sc h ?_ (fun k k0 k1 => ?_) (fun q hq => ?_)
    · unfold InvA
      rw [up_ne (by omega), up_ne (by omega), up_ne (by omega), up_ne (by omega), up_ne (by omega), up_ne (by omega), up_ne (by omega), up_ne (by omega), up_ne (by omega), up_ne (by omega), up_ne (by omega), up_ne (by omega), up_ne (by omega), up_ne (by omega), up_ne (by omega), up_ne (by omega), up_ne (by omega), up_ne (by omega), up_eq, up_ne (by omega), up_ne (by omega), up_ne (by omega), up_ne (by omega), up_ne (by omega), up_ne (by omega), up_ne (by omega), up_ne (by omega), up_ne (by omega), up_ne (by omega)]
      omega
    · rw [up_ne (by omega)]
      by_cases e : k = s 9
      · rw [e, up_eq]; omega
      · rw [up_ne (by omega)]; exact hS k k0 k1
    · rw [up_ne (by omega), up_ne (by omega)]
theorem inv_join {s : Int → Int} (h : Inv s) (hv : ok_join s) : Inv (nx_join s) := by
  obtain ⟨h0, hD, h18⟩ := h
  have hA := inA h0
  have e : ∀ q : Int, q ≠ 0 → nx_join s q = s q := fun q hq => up_ne hq
  have e0 : nx_join s 0 = s 0 + 1 := up_eq
  have h2 : ∀ m : Int, sp_rem (nx_join s) m = sp_rem s m := fun m => by
    unfold sp_rem
    rw [e 14 (by omega)]
    exact sm_cg fun k a b => by unfold sp_ro; rw [e _ (by omega), e _ (by omega), e _ (by omega)]
  have hA' := hA
  unfold InvA at hA
  refine ⟨⟨?_, fun k a b => ?_, fun m a b => ?_, ?_, fun o a b => ?_, fun o w a b c d => ?_, fun o k a b c d => ?_, fun q a b => ?_, fun q k a b c d => ?_, fun m a b => ?_⟩, fun o a b c => ?_, by rw [e 18 (by omega), e 670 (by omega)]; exact h18⟩
  · unfold InvA nx_join; simp [up]; omega
  · rw [e _ (by omega)]; exact inS h0 k a b
  · have := inMm h0 m a b
    rw [e0, e _ (by omega), e _ (by omega)]; exact ⟨this.1, this.2.1, this.2.2.1, fun z => this.2.2.2 (by omega)⟩
  · have : sp_all (nx_join s) = sp_all s := by
      unfold sp_all
      rw [e0, e 2 (by omega), sm_s hA.1.1, e _ (by omega), (inMm h0 (s 0) (by omega) (by omega)).2.2.2 (Int.le_refl _), sm_cg fun k a b => e (19 + 3 * k) (by omega)]
      omega
    rw [this]; exact (inT h0).2
  · rw [e 14 (by omega)] at b
    have := inO h0 o a b
    rw [e0, e _ (by omega), e _ (by omega), e _ (by omega), e _ (by omega), e _ (by omega)]; omega
  · rw [e 14 (by omega)] at a
    rw [e _ (by omega)]; exact inZ h0 o w a b c d
  · have := inC h0 o k a b c d
    rw [e0, e _ (by omega)]; exact ⟨this.1, this.2.1, fun z => this.2.2 (by omega)⟩
  · rw [e 15 (by omega)] at b
    rw [e _ (by omega), e _ (by omega), e _ (by omega)]; exact inQ h0 q a b
  · rw [e 15 (by omega), e _ (by omega)]; exact inV h0 q k a b c d
  · rw [h2, e _ (by omega)]; exact inB h0 m a b
  · rw [e 14 (by omega)] at b
    rw [e _ (by omega)] at c
    rw [e _ (by omega), e _ (by omega)]; exact hD o a b c
