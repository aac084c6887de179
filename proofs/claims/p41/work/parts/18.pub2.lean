/-- only shares, milk and accounts changed -/
theorem inv_mem {s t : Int → Int} (h : Inv s) (hM : ∀ m : Int, 0 ≤ m → m < 12 → s (19 + 3 * m) ≤ t (19 + 3 * m) ∧ 0 ≤ t (20 + 3 * m) ∧ t (20 + 3 * m) ≤ 1000000 ∧ (s 0 ≤ m → t (19 + 3 * m) = 0)) (hT : sp_all t ≤ 10000) (e : ∀ q : Int, (q < 19 ∨ 55 ≤ q) → t q = s q) : Inv t := by
  obtain ⟨h0, hD, h18⟩ := h
  have e0 := e 0 (by omega)
  have e14 := e 14 (by omega)
  have e15 := e 15 (by omega)
  have hA := inA h0
  have h2 : ∀ m : Int, sp_rem t m = sp_rem s m := fun m => by
    unfold sp_rem
    rw [e14]
    exact sm_cg fun k a b => by unfold sp_ro; rw [e _ (by omega), e _ (by omega), e _ (by omega)]
  refine ⟨⟨?_, fun k a b => ?_, fun m a b => ?_, hT, fun o a b => ?_, fun o w a b c d => ?_, fun o k a b c d => ?_, fun q a b => ?_, fun q k a b c d => ?_, fun m a b => ?_⟩, fun o a b c => ?_, by rw [e 18 (by omega), e 670 (by omega)]; exact h18⟩
  · unfold InvA at hA ⊢
    rw [e 0 (by omega), e 1 (by omega), e 2 (by omega), e 3 (by omega), e 4 (by omega), e 5 (by omega), e 6 (by omega), e 7 (by omega), e 8 (by omega), e 9 (by omega), e 13 (by omega), e 14 (by omega), e 15 (by omega), e 16 (by omega), e 17 (by omega)]
    exact hA
  · rw [e _ (by omega)]; exact inS h0 k a b
  · have h3 := hM m a b
    have h4 := inMm h0 m a b
    rw [e0]; exact ⟨by omega, h3.2.1, h3.2.2.1, h3.2.2.2⟩
  · rw [e14] at b
    rw [e0, e _ (by omega), e _ (by omega), e _ (by omega), e _ (by omega), e _ (by omega)]; exact inO h0 o a b
  · rw [e14] at a
    unfold InvA at hA
    rw [e _ (by omega)]; exact inZ h0 o w a b c d
  · rw [e0, e _ (by omega)]; exact inC h0 o k a b c d
  · rw [e15] at b
    rw [e _ (by omega), e _ (by omega), e _ (by omega)]; exact inQ h0 q a b
  · rw [e15, e _ (by omega)]; exact inV h0 q k a b c d
  · have h3 := hM m a b
    have h4 := inB h0 m a b
    rw [h2]; omega
  · rw [e14] at b
    rw [e _ (by omega)] at c
    rw [e _ (by omega), e _ (by omega)]; exact hD o a b c
theorem all_cg {s t : Int → Int} (e0 : t 0 = s 0) (e2 : t 2 = s 2) (e : ∀ k : Int, 0 ≤ k → k < s 0 → t (19 + 3 * k) = s (19 + 3 * k)) : sp_all t = sp_all s := by
  unfold sp_all
  rw [e0, e2, sm_cg e]
theorem inv_setMilk {s : Int → Int} (h : Inv s) {m v : Int} (hv : ok_setMilk s m v) : Inv (nx_setMilk s m v) := by
  have hA := inA h.1
  unfold InvA at hA
  refine inv_mem h (fun x a b => ?_) ?_ (fun q hq => up_ne (by omega))
  · have h4 := inMm h.1 x a b
    have e1 : nx_setMilk s m v (19 + 3 * x) = s (19 + 3 * x) := up_ne (by omega)
    rw [e1]
    by_cases c : x = m
    · subst c
      have e2 : nx_setMilk s x v (20 + 3 * x) = v := up_eq
      rw [e2]; exact ⟨Int.le_refl _, by omega, by omega, h4.2.2.2⟩
    · have e2 : nx_setMilk s m v (20 + 3 * x) = s (20 + 3 * x) := up_ne (by omega)
      rw [e2]; exact ⟨Int.le_refl _, h4.2.1, h4.2.2.1, h4.2.2.2⟩
  · unfold nx_setMilk
    rw [all_cg (s := s) (t := up s (20 + 3 * m) v) (up_ne (by omega)) (up_ne (by omega)) (fun k a b => up_ne (by omega))]
    exact (inT h.1).2
theorem all_issue {s : Int → Int} {m n : Int} (hm : (0 ≤ m ∧ m < s 0)) : sp_all (nx_issue s m n) = sp_all s + n := by
  have e : ∀ q : Int, q < 19 → nx_issue s m n q = s q := fun q hq => by unfold nx_issue; rw [uq_ne (by omega), uq_ne (by omega)]
  unfold sp_all
  rw [e 0 (by omega), e 2 (by omega)]
  have h1 : sm (fun k => nx_issue s m n (19 + 3 * k)) (s 0) = sm (up (fun k => s (19 + 3 * k)) m (s (19 + 3 * m) + n)) (s 0) := sm_cg fun k a b => by
    unfold nx_issue
    rw [uq_ne (by omega), uq_at]
    unfold up
    by_cases c : k = m
    · rw [if_pos (by omega), if_pos c, c]
    · rw [if_neg (by omega), if_neg c, Int.add_zero]
  rw [h1, sm_up _ hm.1 hm.2]
  omega
theorem inv_issue {s : Int → Int} (h : Inv s) {m n : Int} (hv : ok_issue s m n) : Inv (nx_issue s m n) := by
  have hA := inA h.1
  unfold InvA at hA
  refine inv_mem h (fun x a b => ?_) (by rw [all_issue hv.1.1]; exact hv.2) (fun q hq => by unfold nx_issue; rw [uq_ne (by omega), uq_ne (by omega)])
  have h4 := inMm h.1 x a b
  have e2 : nx_issue s m n (20 + 3 * x) = s (20 + 3 * x) := by unfold nx_issue; rw [uq_ne (by omega), uq_ne (by omega)]
  have e1 : nx_issue s m n (19 + 3 * x) = s (19 + 3 * x) + (if 19 + 3 * x = 19 + 3 * m then n else 0) := by unfold nx_issue; rw [uq_ne (by omega), uq_at]
  rw [e1, e2]
  refine ⟨?_, h4.2.1, h4.2.2.1, fun z => ?_⟩
  · split <;> omega
  · rw [if_neg (by omega), h4.2.2.2 z]; rfl
/-- places above the members and below the days changed: offers and motions -/
theorem inv_om {s t : Int → Int} (h : Inv s) (e : ∀ q : Int, (q < 14 ∨ (16 ≤ q ∧ q < 55) ∨ 665 ≤ q) → t q = s q) (hA : 0 ≤ t 14 ∧ t 14 ≤ 20 ∧ 0 ≤ t 15 ∧ t 15 ≤ 10) (hO : InvO t) (hZ : InvZ t) (hC : InvC t) (hQ : InvQ t) (hV : InvV t) (hB : ∀ m : Int, 0 ≤ m → m < 12 → sp_rem t m ≤ s (19 + 3 * m)) (hD : InvD t) : Inv t := by
  obtain ⟨h0, -, h18⟩ := h
  have hA0 := inA h0
  refine ⟨⟨?_, fun k a b => ?_, fun m a b => ?_, ?_, hO, hZ, hC, hQ, hV, fun m a b => ?_⟩, hD, by rw [e 18 (by omega), e 670 (by omega)]; exact h18⟩
  · unfold InvA at hA0 ⊢
    rw [e 0 (by omega), e 1 (by omega), e 2 (by omega), e 3 (by omega), e 4 (by omega), e 5 (by omega), e 6 (by omega), e 7 (by omega), e 8 (by omega), e 9 (by omega), e 13 (by omega), e 16 (by omega), e 17 (by omega)]
    omega
  · rw [e _ (by omega)]; exact inS h0 k a b
  · rw [e 0 (by omega), e _ (by omega), e _ (by omega)]; exact inMm h0 m a b
  · unfold InvA at hA0
    rw [all_cg (s := s) (e 0 (by omega)) (e 2 (by omega)) (fun k a b => e _ (by omega))]; exact (inT h0).2
  · rw [e _ (by omega)]; exact hB m a b
theorem inv_claim {s : Int → Int} (h : Inv s) {o m n : Int} (hv : ok_claim s o m n) : Inv (nx_claim s o m n) := by
  have hA := inA h.1
  unfold InvA at hA
  obtain ⟨⟨ho, hm, hn⟩, hc⟩ := hv
  have e : ∀ q : Int, q ≠ 65 + 22 * o + m → nx_claim s o m n q = s q := fun q hq => up_ne hq
  refine inv_om h (fun q hq => e q (by omega)) ?_ (fun x a b => ?_) (fun x w a b c d => ?_) (fun x k a b c d => ?_) (fun q a b => ?_) (fun q k a b c d => ?_) (fun x a b => ?_) (fun x a b c => ?_)
  · rw [e 14 (by omega), e 15 (by omega)]; omega
  · rw [e 14 (by omega)] at b
    rw [e 0 (by omega), e _ (by omega), e _ (by omega), e _ (by omega), e _ (by omega), e _ (by omega)]; exact inO h.1 x a b
  · rw [e 14 (by omega)] at a
    rw [e _ (by omega)]; exact inZ h.1 x w a b c d
  · have h1 := inC h.1 x k a b c d
    rw [e 0 (by omega)]
    by_cases z : 65 + 22 * x + k = 65 + 22 * o + m
    · rw [z]
      have : nx_claim s o m n (65 + 22 * o + m) = n := up_eq
      rw [this]; exact ⟨by omega, by omega, fun y => by omega⟩
    · rw [e _ z]; exact h1
  · rw [e 15 (by omega)] at b
    rw [e _ (by omega), e _ (by omega), e _ (by omega)]; exact inQ h.1 q a b
  · rw [e 15 (by omega), e _ (by omega)]; exact inV h.1 q k a b c d
  · have : sp_rem (nx_claim s o m n) x = sp_rem s x := by
      unfold sp_rem
      rw [e 14 (by omega)]
      exact sm_cg fun k a b => by unfold sp_ro; rw [e _ (by omega), e _ (by omega), e _ (by omega)]
    rw [this]; exact inB h.1 x a b
  · rw [e 14 (by omega)] at b
    rw [e _ (by omega)] at c
    rw [e _ (by omega), e _ (by omega)]; exact h.2.1 x a b c
theorem inv_vote {s : Int → Int} (h : Inv s) {q m y : Int} (hv : ok_vote s q m y) : Inv (nx_vote s q m y) := by
  have hA := inA h.1
  unfold InvA at hA
  obtain ⟨⟨hq, hm, hn⟩, hc⟩ := hv
  have e : ∀ x : Int, x ≠ 498 + 15 * q + m → nx_vote s q m y x = s x := fun x hx => up_ne hx
  refine inv_om h (fun x hx => e x (by omega)) ?_ (fun x a b => ?_) (fun x w a b c d => ?_) (fun x k a b c d => ?_) (fun x a b => ?_) (fun x k a b c d => ?_) (fun x a b => ?_) (fun x a b c => ?_)
  · rw [e 14 (by omega), e 15 (by omega)]; omega
  · rw [e 14 (by omega)] at b
    rw [e 0 (by omega), e _ (by omega), e _ (by omega), e _ (by omega), e _ (by omega), e _ (by omega)]; exact inO h.1 x a b
  · rw [e 14 (by omega)] at a
    rw [e _ (by omega)]; exact inZ h.1 x w a b c d
  · rw [e 0 (by omega), e _ (by omega)]; exact inC h.1 x k a b c d
  · rw [e 15 (by omega)] at b
    rw [e _ (by omega), e _ (by omega), e _ (by omega)]; exact inQ h.1 x a b
  · rw [e 15 (by omega)]
    by_cases z : 498 + 15 * x + k = 498 + 15 * q + m
    · rw [z]
      have : nx_vote s q m y (498 + 15 * q + m) = if y = 1 then 1 else 2 := up_eq
      rw [this]; refine ⟨?_, ?_, fun w => by omega⟩ <;> split <;> omega
    · rw [e _ z]; exact inV h.1 x k a b c d
  · have : sp_rem (nx_vote s q m y) x = sp_rem s x := by
      unfold sp_rem
      rw [e 14 (by omega)]
      exact sm_cg fun k a b => by unfold sp_ro; rw [e _ (by omega), e _ (by omega), e _ (by omega)]
    rw [this]; exact inB h.1 x a b
  · rw [e 14 (by omega)] at b
    rw [e _ (by omega)] at c
    rw [e _ (by omega), e _ (by omega)]; exact h.2.1 x a b c
theorem inv_propose {s : Int → Int} (h : Inv s) {k v : Int} (hv : ok_propose s k v) : Inv (sp_prop s k v) := by
  have hA := inA h.1
  unfold InvA at hA
  obtain ⟨hk, h15⟩ := hv
  have e15 : sp_prop s k v 15 = s 15 + 1 := by unfold sp_prop; rw [up_ne (by omega), up_ne (by omega), up_ne (by omega), up_eq]
  have e : ∀ x : Int, x ≠ 15 → ¬ (495 + 15 * s 15 ≤ x ∧ x ≤ 497 + 15 * s 15) → sp_prop s k v x = s x := fun x hx hy => by unfold sp_prop; rw [up_ne (by omega), up_ne (by omega), up_ne (by omega), up_ne hx]
  have k0 : sp_prop s k v (495 + 15 * s 15) = k := by unfold sp_prop; rw [up_ne (by omega), up_ne (by omega), up_eq]
  have k1 : sp_prop s k v (496 + 15 * s 15) = v := by unfold sp_prop; rw [up_ne (by omega), up_eq]
  have k2 : sp_prop s k v (497 + 15 * s 15) = 0 := by unfold sp_prop; rw [up_eq]
  refine inv_om h (fun x hx => e x (by omega) (by omega)) ?_ (fun x a b => ?_) (fun x w a b c d => ?_) (fun x k a b c d => ?_) (fun x a b => ?_) (fun x k a b c d => ?_) (fun x a b => ?_) (fun x a b c => ?_)
  · rw [e 14 (by omega) (by omega), e15]; omega
  · rw [e 14 (by omega) (by omega)] at b
    rw [e 0 (by omega) (by omega), e _ (by omega) (by omega), e _ (by omega) (by omega), e _ (by omega) (by omega), e _ (by omega) (by omega), e _ (by omega) (by omega)]; exact inO h.1 x a b
  · rw [e 14 (by omega) (by omega)] at a
    rw [e _ (by omega) (by omega)]; exact inZ h.1 x w a b c d
  · rw [e 0 (by omega) (by omega), e _ (by omega) (by omega)]; exact inC h.1 x k a b c d
  · rw [e15] at b
    by_cases z : x = s 15
    · rw [z, k0, k1, k2]; exact ⟨by omega, hk⟩
    · rw [e _ (by omega) (by omega), e _ (by omega) (by omega), e _ (by omega) (by omega)]; exact inQ h.1 x a (by omega)
  · have := inV h.1 x k a b c d
    rw [e15, e _ (by omega) (by omega)]; exact ⟨this.1, this.2.1, fun z => this.2.2 (by omega)⟩
  · have : sp_rem (sp_prop s k v) x = sp_rem s x := by
      unfold sp_rem
      rw [e 14 (by omega) (by omega)]
      exact sm_cg fun k a b => by unfold sp_ro; rw [e _ (by omega) (by omega), e _ (by omega) (by omega), e _ (by omega) (by omega)]
    rw [this]; exact inB h.1 x a b
  · rw [e 14 (by omega) (by omega)] at b
    rw [e _ (by omega) (by omega)] at c
    rw [e _ (by omega) (by omega), e _ (by omega) (by omega)]; exact h.2.1 x a b c
theorem inv_offer {s : Int → Int} (h : Inv s) {se bu n pr : Int} (hv : ok_offer s se bu n pr) : Inv (sp_offer s se bu n pr) := by
  have hA := inA h.1
  unfold InvA at hA
  obtain ⟨⟨⟨hse, hbu, hne⟩, hn, hpr⟩, ⟨hfr, hpa⟩, h14⟩ := hv
  have hT := inTr h.1
  have e14 : sp_offer s se bu n pr 14 = s 14 + 1 := by unfold sp_offer; rw [begin_ne (by omega) (by omega) (by omega) (by omega), up_ne (by omega), up_ne (by omega), up_ne (by omega), up_ne (by omega), up_eq]
  have e : ∀ x : Int, x ≠ 14 → ¬ (55 + 22 * s 14 ≤ x ∧ x < 61 + 22 * s 14) → ¬ (65 + 22 * s 14 ≤ x ∧ x < 77 + 22 * s 14) → x ≠ 645 + s 14 → sp_offer s se bu n pr x = s x := fun x hx hy hz hw => by
    unfold sp_offer; rw [begin_ne (by omega) (by omega) hw hz, up_ne (by omega), up_ne (by omega), up_ne (by omega), up_ne (by omega), up_ne hx]
  have k0 : sp_offer s se bu n pr (55 + 22 * s 14) = se := by unfold sp_offer; rw [begin_ne (by omega) (by omega) (by omega) (by omega), up_ne (by omega), up_ne (by omega), up_ne (by omega), up_eq]
  have k1 : sp_offer s se bu n pr (56 + 22 * s 14) = bu := by unfold sp_offer; rw [begin_ne (by omega) (by omega) (by omega) (by omega), up_ne (by omega), up_ne (by omega), up_eq]
  have k2 : sp_offer s se bu n pr (57 + 22 * s 14) = n := by unfold sp_offer; rw [begin_ne (by omega) (by omega) (by omega) (by omega), up_ne (by omega), up_eq]
  have k3 : sp_offer s se bu n pr (58 + 22 * s 14) = pr := by unfold sp_offer; rw [begin_ne (by omega) (by omega) (by omega) (by omega), up_eq]
  have k4 : sp_offer s se bu n pr (59 + 22 * s 14) = 0 := by unfold sp_offer sp_begin; rw [if_pos rfl]
  have k5 : sp_offer s se bu n pr (60 + 22 * s 14) = s 13 := by unfold sp_offer sp_begin; rw [if_neg (by omega), if_pos rfl, up_ne (by omega), up_ne (by omega), up_ne (by omega), up_ne (by omega), up_ne (by omega)]
  have k6 : sp_offer s se bu n pr (645 + s 14) = s 13 := by unfold sp_offer sp_begin; rw [if_neg (by omega), if_neg (by omega), if_pos rfl]
  have kc : ∀ x : Int, 65 + 22 * s 14 ≤ x → x < 77 + 22 * s 14 → sp_offer s se bu n pr x = 0 := fun x hx hy => by unfold sp_offer sp_begin; rw [if_neg (by omega), if_neg (by omega), if_neg (by omega), if_pos ⟨hx, hy⟩]
  refine inv_om h (fun x hx => e x (by omega) (by omega) (by omega) (by omega)) ?_ (fun x a b => ?_) (fun x w a b c d => ?_) (fun x k a b c d => ?_) (fun x a b => ?_) (fun x k a b c d => ?_) (fun x a b => ?_) (fun x a b c => ?_)
  · rw [e14, e 15 (by omega) (by omega) (by omega) (by omega)]; omega
  · rw [e14] at b
    rw [e 0 (by omega) (by omega) (by omega) (by omega)]
    by_cases z : x = s 14
    · rw [z, k0, k1, k2, k3, k4]; omega
    · rw [e _ (by omega) (by omega) (by omega) (by omega), e _ (by omega) (by omega) (by omega) (by omega), e _ (by omega) (by omega) (by omega) (by omega), e _ (by omega) (by omega) (by omega) (by omega), e _ (by omega) (by omega) (by omega) (by omega)]
      exact inO h.1 x a (by omega)
  · rw [e14] at a
    rw [e _ (by omega) (by omega) (by omega) (by omega)]; exact inZ h.1 x w (by omega) b c d
  · rw [e 0 (by omega) (by omega) (by omega) (by omega)]
    have := inC h.1 x k a b c d
    by_cases z : x = s 14
    · rw [z, kc _ (by omega) (by omega)]; exact ⟨by omega, by omega, fun _ => rfl⟩
    · rw [e _ (by omega) (by omega) (by omega) (by omega)]; exact this
  · rw [e 15 (by omega) (by omega) (by omega) (by omega)] at b
    rw [e _ (by omega) (by omega) (by omega) (by omega), e _ (by omega) (by omega) (by omega) (by omega), e _ (by omega) (by omega) (by omega) (by omega)]; exact inQ h.1 x a b
  · rw [e 15 (by omega) (by omega) (by omega) (by omega), e _ (by omega) (by omega) (by omega) (by omega)]; exact inV h.1 x k a b c d
  · have hr : sp_rem (sp_offer s se bu n pr) x = sp_rem s x + (if se = x then n else 0) := by
      unfold sp_rem
      rw [e14, sm_s (by omega)]
      congr 1
      · exact sm_cg fun k a b => by unfold sp_ro; rw [e _ (by omega) (by omega) (by omega) (by omega), e _ (by omega) (by omega) (by omega) (by omega), e _ (by omega) (by omega) (by omega) (by omega)]
      · unfold sp_ro
        rw [k0, k2, k4]
        by_cases z : se = x
        · rw [if_pos ⟨by omega, z⟩, if_pos z]
        · rw [if_neg (fun y => z y.2), if_neg z]
    have hb := inB h.1 x a b
    rw [hr]
    by_cases z : se = x
    · have hq := req_b h.1 (m := se) (by omega) (by omega)
      unfold sp_free at hfr
      rw [if_pos z]
      rw [← z] at hb ⊢
      omega
    · rw [if_neg z]; omega
  · rw [e14] at b
    by_cases z : x = s 14
    · rw [z, k5, k6]; omega
    · rw [e _ (by omega) (by omega) (by omega) (by omega)] at c
      rw [e _ (by omega) (by omega) (by omega) (by omega), e _ (by omega) (by omega) (by omega) (by omega)]
      exact h.2.1 x a (by omega) c
theorem inv_withdraw {s : Int → Int} (h : Inv s) {o : Int} (hv : ok_withdraw s o) : Inv (nx_withdraw s o) := by
  have hA := inA h.1
  unfold InvA at hA
  have e14 : sp_begin s o 3 0 14 = s 14 := begin_ne (by omega) (by omega) (by omega) (by omega)
  refine ⟨inv_begin h.1 hv.1.1 hv.1.2 ⟨by omega, by omega⟩ (Or.inl rfl), fun x a b c => ?_, ?_⟩
  · unfold nx_withdraw at b c ⊢
    rw [e14] at b
    by_cases z : x = o
    · rw [z] at c
      exact absurd (show sp_begin s o 3 0 (59 + 22 * o) = 3 from if_pos rfl) c
    · rw [begin_ne (by omega) (by omega) (by omega) (by omega)] at c
      rw [begin_ne (by omega) (by omega) (by omega) (by omega), begin_ne (by omega) (by omega) (by omega) (by omega)]
      exact h.2.1 x a b c
  · unfold nx_withdraw
    rw [begin_ne (by omega) (by omega) (by omega) (by omega), begin_ne (by omega) (by omega) (by omega) (by omega)]; exact h.2.2
theorem off_hi {s : Int → Int} (h : Inv0 s) {o : Int} (h0 : 0 ≤ o) (h1 : o < s 14) {q : Int} (hq : q = 18 ∨ q = 670) : sp_off s o q = s q := by
  have hA := inA h
  unfold InvA at hA
  have t14 : sp_tick s o 14 = s 14 := tick_ne (by omega) (by omega)
  have t59 : sp_tick s o (59 + 22 * o) = s (59 + 22 * o) := tick_ne (by omega) (by omega)
  unfold sp_off
  split
  · split
    · rw [end_keep (inv_tick h h0 (by omega)) h0 (by omega) (by omega) (by omega) (by omega) (by omega) (by omega), tick_ne (by omega) (by omega)]
    · exact tick_ne (by omega) (by omega)
  · rfl
theorem dayS_hi {s : Int → Int} (h : Inv0 s) (hD : InvD s) {q : Int} (hq : q = 18 ∨ q = 670) : ∀ n : Nat, (n : Int) ≤ s 14 → sp_dayS s n q = s q
  | 0, _ => rfl
  | n + 1, hn => by
    obtain ⟨a, b, c⟩ := inv_dayS h hD n (by omega)
    show sp_off (sp_dayS s n) n q = s q
    rw [off_hi a (by omega) (by omega) hq]
    exact dayS_hi h hD hq n (by omega)
theorem day_hi {s : Int → Int} (h : Inv0 s) (hD : InvD s) : sp_day s 18 = s 18 ∧ sp_day s 670 = s 670 + 1 := by
  have hA := inA h
  unfold InvA at hA
  have h1 := inv_670 h hD 1
  unfold sp_day
  rw [dayS_hi h1.1 h1.2.1 (Or.inl rfl) _ (by omega), dayS_hi h1.1 h1.2.1 (Or.inr rfl) _ (by omega), uq_ne (by omega), uq_eq]
  exact ⟨rfl, rfl⟩
theorem days_hi {s : Int → Int} (h : Inv0 s) (hD : InvD s) : ∀ n : Nat, sp_days s n 18 = s 18 ∧ sp_days s n 670 = s 670 + n
  | 0 => ⟨rfl, by show s 670 = _; omega⟩
  | n + 1 => by
    obtain ⟨a, b, c⟩ := inv_days h hD n
    have h1 := days_hi h hD n
    have h2 := day_hi a b
    show sp_day (sp_days s n) 18 = _ ∧ sp_day (sp_days s n) 670 = _
    omega
theorem inv_passDays {s : Int → Int} (h : Inv s) {d : Int} (hv : ok_passDays d) : Inv (nx_passDays s d) := by
  obtain ⟨a, b, c⟩ := inv_days h.1 h.2.1 d.toNat
  have h1 := days_hi h.1 h.2.1 d.toNat
  have hA := inA a
  unfold InvA at hA
  have e14 : nx_passDays s d 14 = sp_days s d.toNat 14 := uq_ne (by omega)
  refine ⟨inv0_cg a (fun x w h2 h3 h4 h5 => ?_) (fun q h2 h3 h4 h5 h6 => uq_ne h4), fun x h2 h3 h4 => ?_, ?_⟩
  · unfold nx_passDays; rw [uq_ne (by omega)]; exact inZ a x w h2 h3 h4 h5
  · rw [e14] at h3
    unfold nx_passDays at h4 ⊢
    rw [uq_ne (by omega)] at h4
    rw [uq_ne (by omega), uq_ne (by omega)]
    exact b x h2 h3 h4
  · unfold nx_passDays
    rw [uq_eq, uq_ne (by omega)]
    have := h.2.2
    omega
theorem inv_does {s : Int → Int} (h : Inv s) {k v : Int} (hk : okKind k v) : Inv (sp_does s k v) := by
  have hA' := inA h.1
  have hA := hA'
  unfold InvA at hA
  have hT := inTr h.1
  unfold okKind at hk
  unfold sp_does
  split
  · exact inv_put h (by omega) (invA_put hA' (by omega))
  split
  · exact inv_put h (by omega) (invA_put hA' (by omega))
  split
  · exact inv_put h (by omega) (invA_put hA' (by omega))
  split
  · have hall : sp_all (uq s 2 (-(min v (s 2)))) = sp_all s - min v (s 2) := by
      unfold sp_all
      rw [uq_eq, uq_ne (by omega), sm_cg fun k a b => uq_ne (show 19 + 3 * k ≠ 2 by omega)]
      omega
    have e : ∀ q : Int, q ≠ 2 → uq s 2 (-(min v (s 2))) q = s q := fun q hq => uq_ne hq
    have hTT := inT h.1
    obtain ⟨h0, hD, h18⟩ := h
    refine ⟨⟨?_, fun k a b => ?_, fun m a b => ?_, by omega, fun o a b => ?_, fun o w a b c d => ?_, fun o k a b c d => ?_, fun q a b => ?_, fun q k a b c d => ?_, fun m a b => ?_⟩, fun o a b c => ?_, by rw [e 18 (by omega), e 670 (by omega)]; exact h18⟩
    · unfold InvA
      rw [uq_eq, e 0 (by omega), e 1 (by omega), e 3 (by omega), e 4 (by omega), e 5 (by omega), e 6 (by omega), e 7 (by omega), e 8 (by omega), e 9 (by omega), e 13 (by omega), e 14 (by omega), e 15 (by omega), e 16 (by omega), e 17 (by omega)]
      omega
    · rw [e _ (by omega)]; exact inS h0 k a b
    · rw [e 0 (by omega), e _ (by omega), e _ (by omega)]; exact inMm h0 m a b
    · rw [e 14 (by omega)] at b
      rw [e 0 (by omega), e _ (by omega), e _ (by omega), e _ (by omega), e _ (by omega), e _ (by omega)]; exact inO h0 o a b
    · rw [e 14 (by omega)] at a
      rw [e _ (by omega)]; exact inZ h0 o w a b c d
    · rw [e 0 (by omega), e _ (by omega)]; exact inC h0 o k a b c d
    · rw [e 15 (by omega)] at b
      rw [e _ (by omega), e _ (by omega), e _ (by omega)]; exact inQ h0 q a b
    · rw [e 15 (by omega), e _ (by omega)]; exact inV h0 q k a b c d
    · have : sp_rem (uq s 2 (-(min v (s 2)))) m = sp_rem s m := by
        unfold sp_rem
        rw [e 14 (by omega)]
        exact sm_cg fun k a b => by unfold sp_ro; rw [e _ (by omega), e _ (by omega), e _ (by omega)]
      rw [this, e _ (by omega)]; exact inB h0 m a b
    · rw [e 14 (by omega)] at b
      rw [e _ (by omega)] at c
      rw [e _ (by omega), e _ (by omega)]; exact hD o a b c
  · have e : ∀ q : Int, (q < 19 ∨ 55 ≤ q ∨ (q - 19) % 3 ≠ 2) → sp_divi v s (s 0).toNat q = s q := fun q hq => divi_ne fun x a b => by omega
    refine inv_mem h (fun m a b => ?_) ?_ (fun q hq => e q (by omega))
    · have := inMm h.1 m a b
      rw [e _ (by omega), e _ (by omega)]; exact ⟨Int.le_refl _, this.2.1, this.2.2.1, this.2.2.2⟩
    · rw [all_cg (s := s) (e 0 (by omega)) (e 2 (by omega)) (fun x a b => e _ (by omega))]; exact (inT h.1).2
theorem inv_state {s : Int → Int} (h : Inv s) {q x : Int} (hq : (0 ≤ q ∧ q < s 15)) (hx : 0 ≤ x ∧ x ≤ 2) : Inv (up s (497 + 15 * q) x) := by
  have hA := inA h.1
  unfold InvA at hA
  have e : ∀ z : Int, z ≠ 497 + 15 * q → up s (497 + 15 * q) x z = s z := fun z hz => up_ne hz
  refine inv_om h (fun z hz => e z (by omega)) ?_ (fun z a b => ?_) (fun z w a b c d => ?_) (fun z k a b c d => ?_) (fun z a b => ?_) (fun z k a b c d => ?_) (fun z a b => ?_) (fun z a b c => ?_)
  · rw [e 14 (by omega), e 15 (by omega)]; omega
  · rw [e 14 (by omega)] at b
    rw [e 0 (by omega), e _ (by omega), e _ (by omega), e _ (by omega), e _ (by omega), e _ (by omega)]; exact inO h.1 z a b
  · rw [e 14 (by omega)] at a
    rw [e _ (by omega)]; exact inZ h.1 z w a b c d
  · rw [e 0 (by omega), e _ (by omega)]; exact inC h.1 z k a b c d
  · rw [e 15 (by omega)] at b
    have := inQ h.1 z a b
    rw [e (495 + 15 * z) (by omega), e (496 + 15 * z) (by omega)]
    by_cases y : z = q
    · rw [y, up_eq, ← y]; exact ⟨hx, this.2⟩
    · rw [e _ (by omega)]; exact this
  · rw [e 15 (by omega), e _ (by omega)]; exact inV h.1 z k a b c d
  · have : sp_rem (up s (497 + 15 * q) x) z = sp_rem s z := by
      unfold sp_rem
      rw [e 14 (by omega)]
      exact sm_cg fun k a b => by unfold sp_ro; rw [e _ (by omega), e _ (by omega), e _ (by omega)]
    rw [this]; exact inB h.1 z a b
  · rw [e 14 (by omega)] at b
    rw [e _ (by omega)] at c
    rw [e _ (by omega), e _ (by omega)]; exact h.2.1 z a b c
theorem inv_closeMotion {s : Int → Int} (h : Inv s) {q : Int} (hv : ok_closeMotion s q) : Inv (sp_clo s q) := by
  unfold sp_clo
  split
  · exact inv_does (inv_state h hv.1 ⟨by omega, by omega⟩) (inQ h.1 q hv.1.1 hv.1.2).2
  · exact inv_state h hv.1 ⟨by omega, by omega⟩
