/-! WHAT SALES AND STAGES KEEP -/
theorem uq_at (s : Int → Int) (k v q : Int) : uq s k v q = s q + (if q = k then v else 0) := by
  unfold uq up
  by_cases e : q = k
  · rw [if_pos e, if_pos e, e]
  · rw [if_neg e, if_neg e, Int.add_zero]
/-- a state that differs in days, accounts and sales alone keeps what holds -/
theorem inv0_cg {s t : Int → Int} (h : Inv0 s) (hz : ∀ o w : Int, s 14 ≤ o → o < 20 → 0 ≤ w → w < 4 → t (61 + 22 * o + w) = 0) (e : ∀ q : Int, 0 ≤ q → q < 645 → q ≠ 18 → ¬ (19 ≤ q ∧ q < 55 ∧ (q - 19) % 3 = 2) → ¬ (55 ≤ q ∧ q < 495 ∧ 5 ≤ (q - 55) % 22 ∧ (q - 55) % 22 < 10) → t q = s q) : Inv0 t := by
  have hA := inA h
  unfold InvA at hA
  have e0 := e 0 (by omega) (by omega) (by omega) (by omega) (by omega)
  have e14 := e 14 (by omega) (by omega) (by omega) (by omega) (by omega)
  have e15 := e 15 (by omega) (by omega) (by omega) (by omega) (by omega)
  have hr : ∀ m k : Int, 0 ≤ k → k < s 14 → sp_ro t m k = sp_ro s m k := fun m k h0 h1 => by
    unfold sp_ro
    rw [e (59 + 22 * k) (by omega) (by omega) (by omega) (by omega) (by omega), e (55 + 22 * k) (by omega) (by omega) (by omega) (by omega) (by omega), e (57 + 22 * k) (by omega) (by omega) (by omega) (by omega) (by omega)]
  refine ⟨?_, ?_, ?_, ?_, ?_, ?_, ?_, ?_, ?_, ?_⟩
  · unfold InvA
    rw [e0, e14, e15, e 1 (by omega) (by omega) (by omega) (by omega) (by omega), e 2 (by omega) (by omega) (by omega) (by omega) (by omega), e 3 (by omega) (by omega) (by omega) (by omega) (by omega), e 4 (by omega) (by omega) (by omega) (by omega) (by omega), e 5 (by omega) (by omega) (by omega) (by omega) (by omega), e 6 (by omega) (by omega) (by omega) (by omega) (by omega), e 7 (by omega) (by omega) (by omega) (by omega) (by omega), e 8 (by omega) (by omega) (by omega) (by omega) (by omega), e 9 (by omega) (by omega) (by omega) (by omega) (by omega), e 13 (by omega) (by omega) (by omega) (by omega) (by omega), e 16 (by omega) (by omega) (by omega) (by omega) (by omega), e 17 (by omega) (by omega) (by omega) (by omega) (by omega)]
    exact hA
  · intro k h0 h1
    rw [e (10 + k) (by omega) (by omega) (by omega) (by omega) (by omega)]
    exact inS h k h0 h1
  · intro m h0 h1
    rw [e0, e (19 + 3 * m) (by omega) (by omega) (by omega) (by omega) (by omega), e (20 + 3 * m) (by omega) (by omega) (by omega) (by omega) (by omega)]
    exact inMm h m h0 h1
  · have h1 : sp_all t = sp_all s := by
      unfold sp_all
      rw [e0, e 2 (by omega) (by omega) (by omega) (by omega) (by omega), sm_cg fun k h0 h1 => e (19 + 3 * k) (by omega) (by omega) (by omega) (by omega) (by omega)]
    rw [h1]
    exact (inT h).2
  · intro o h0 h1
    rw [e14] at h1
    rw [e0, e (55 + 22 * o) (by omega) (by omega) (by omega) (by omega) (by omega), e (56 + 22 * o) (by omega) (by omega) (by omega) (by omega) (by omega), e (57 + 22 * o) (by omega) (by omega) (by omega) (by omega) (by omega), e (58 + 22 * o) (by omega) (by omega) (by omega) (by omega) (by omega), e (59 + 22 * o) (by omega) (by omega) (by omega) (by omega) (by omega)]
    exact inO h o h0 h1
  · intro o w h0 h1 h2 h3
    rw [e14] at h0
    exact hz o w h0 h1 h2 h3
  · intro o k h0 h1 h2 h3
    rw [e0, e (65 + 22 * o + k) (by omega) (by omega) (by omega) (by omega) (by omega)]
    exact inC h o k h0 h1 h2 h3
  · intro q h0 h1
    rw [e15] at h1
    rw [e (497 + 15 * q) (by omega) (by omega) (by omega) (by omega) (by omega), e (495 + 15 * q) (by omega) (by omega) (by omega) (by omega) (by omega), e (496 + 15 * q) (by omega) (by omega) (by omega) (by omega) (by omega)]
    exact inQ h q h0 h1
  · intro q k h0 h1 h2 h3
    rw [e15, e (498 + 15 * q + k) (by omega) (by omega) (by omega) (by omega) (by omega)]
    exact inV h q k h0 h1 h2 h3
  · intro m h0 h1
    have h2 : sp_rem t m = sp_rem s m := by
      unfold sp_rem
      rw [e14]
      exact sm_cg fun k h3 h4 => hr m k h3 h4
    rw [h2, e (19 + 3 * m) (by omega) (by omega) (by omega) (by omega) (by omega)]
    exact inB h m h0 h1
/-- n shares of the open offer o go: c x of them to member x, t to the treasury -/
theorem inv_move {s s' c : Int → Int} {o n t : Int} (h : Inv0 s) (h0 : 0 ≤ o) (h1 : o < s 14) (hop : s (59 + 22 * o) ≠ 3) (hn : 0 ≤ n) (hn2 : n ≤ s (57 + 22 * o)) (ht : 0 ≤ t) (hc : ∀ x : Int, 0 ≤ x → x < 12 → 0 ≤ c x ∧ (s 0 ≤ x → c x = 0)) (hsum : t + sm c (s 0) = n)
    (hsh : ∀ x : Int, 0 ≤ x → x < 12 → s' (19 + 3 * x) = s (19 + 3 * x) + c x - (if x = s (55 + 22 * o) then n else 0)) (h2 : s' 2 = s 2 + t) (hre : s' (57 + 22 * o) = s (57 + 22 * o) - n)
    (e : ∀ q : Int, 0 ≤ q → q < 645 → q ≠ 2 → q ≠ 57 + 22 * o → ¬ (19 ≤ q ∧ q < 55 ∧ (q - 19) % 3 ≠ 1) → ¬ (q - 61 - 22 * o ≥ 0 ∧ q - 61 - 22 * o < 4) → s' q = s q) : Inv0 s' := by
  have hA := inA h
  unfold InvA at hA
  have ho := inO h o h0 h1
  have e0 := e 0 (by omega) (by omega) (by omega) (by omega) (by omega) (by omega)
  have e14 := e 14 (by omega) (by omega) (by omega) (by omega) (by omega) (by omega)
  have e15 := e 15 (by omega) (by omega) (by omega) (by omega) (by omega) (by omega)
  have hro : ∀ m k : Int, 0 ≤ k → k < s 14 → sp_ro s' m k = up (sp_ro s m) o (sp_ro s m o - (if m = s (55 + 22 * o) then n else 0)) k := fun m k h3 h4 => by
    by_cases ek : k = o
    · subst ek
      rw [up_eq]
      unfold sp_ro
      rw [e (59 + 22 * k) (by omega) (by omega) (by omega) (by omega) (by omega) (by omega), e (55 + 22 * k) (by omega) (by omega) (by omega) (by omega) (by omega) (by omega), hre]
      by_cases em : s (55 + 22 * k) = m
      · rw [if_pos ⟨hop, em⟩, if_pos ⟨hop, em⟩, if_pos em.symm]
      · rw [if_neg (fun q => em q.2), if_neg (fun q => em q.2), if_neg (fun q => em q.symm)]; omega
    · rw [up_ne ek]
      unfold sp_ro
      rw [e (59 + 22 * k) (by omega) (by omega) (by omega) (by omega) (by omega) (by omega), e (55 + 22 * k) (by omega) (by omega) (by omega) (by omega) (by omega) (by omega), e (57 + 22 * k) (by omega) (by omega) (by omega) (by omega) (by omega) (by omega)]
  have hrem : ∀ m : Int, sp_rem s' m = sp_rem s m - (if m = s (55 + 22 * o) then n else 0) := fun m => by
    unfold sp_rem
    rw [e14, sm_cg (hro m), sm_up _ h0 h1]
    omega
  have hse : s (57 + 22 * o) ≤ sp_rem s (s (55 + 22 * o)) := by
    have h3 := sm_mem (f := sp_ro s (s (55 + 22 * o))) h0 h1 (fun k a b => (ro_b h _ a b).1)
    have h4 : sp_ro s (s (55 + 22 * o)) o = s (57 + 22 * o) := if_pos ⟨hop, rfl⟩
    unfold sp_rem
    omega
  have hB := inB h (s (55 + 22 * o)) (by omega) (by omega)
  refine ⟨?_, ?_, ?_, ?_, ?_, ?_, ?_, ?_, ?_, ?_⟩
  · unfold InvA
    rw [e0, e14, e15, h2, e 1 (by omega) (by omega) (by omega) (by omega) (by omega) (by omega), e 3 (by omega) (by omega) (by omega) (by omega) (by omega) (by omega), e 4 (by omega) (by omega) (by omega) (by omega) (by omega) (by omega), e 5 (by omega) (by omega) (by omega) (by omega) (by omega) (by omega), e 6 (by omega) (by omega) (by omega) (by omega) (by omega) (by omega), e 7 (by omega) (by omega) (by omega) (by omega) (by omega) (by omega), e 8 (by omega) (by omega) (by omega) (by omega) (by omega) (by omega), e 9 (by omega) (by omega) (by omega) (by omega) (by omega) (by omega), e 13 (by omega) (by omega) (by omega) (by omega) (by omega) (by omega), e 16 (by omega) (by omega) (by omega) (by omega) (by omega) (by omega), e 17 (by omega) (by omega) (by omega) (by omega) (by omega) (by omega)]
    omega
  · intro k h3 h4
    rw [e (10 + k) (by omega) (by omega) (by omega) (by omega) (by omega) (by omega)]
    exact inS h k h3 h4
  · intro m h3 h4
    have hm := inMm h m h3 h4
    have hcm := hc m h3 h4
    rw [e0, hsh m h3 h4, e (20 + 3 * m) (by omega) (by omega) (by omega) (by omega) (by omega) (by omega)]
    refine ⟨?_, hm.2.1, hm.2.2.1, fun a => ?_⟩
    · by_cases em : m = s (55 + 22 * o)
      · rw [if_pos em]
        rw [← em] at hB hse
        omega
      · rw [if_neg em]; omega
    · rw [if_neg (by omega), hm.2.2.2 a, hcm.2 a]; rfl
  · have h3 : sp_all s' = sp_all s := by
      unfold sp_all
      rw [e0, h2]
      have h4 : sm (fun k => s' (19 + 3 * k)) (s 0) = sm (fun k => s (19 + 3 * k)) (s 0) + sm c (s 0) - n := by
        have h5 : ∀ j : Nat, (j : Int) ≤ s 0 → smN (fun k => s' (19 + 3 * k)) j = smN (fun k => s (19 + 3 * k)) j + smN c j - (if s (55 + 22 * o) < j then n else 0) := by
          intro j
          induction j with
          | zero => intro _; simp only [smN]; rw [if_neg (by omega)]; rfl
          | succ j ih =>
            intro hj
            show smN _ j + s' (19 + 3 * j) = smN _ j + s (19 + 3 * j) + (smN c j + c j) - _
            rw [ih (by omega), hsh j (by omega) (by omega)]
            by_cases ej : (j : Int) = s (55 + 22 * o)
            · rw [if_pos ej, if_neg (by omega), if_pos (by omega)]; omega
            · rw [if_neg ej]
              by_cases el : s (55 + 22 * o) < j
              · rw [if_pos el, if_pos (by omega)]; omega
              · rw [if_neg el, if_neg (by omega)]; omega
        have h6 := h5 (s 0).toNat (by omega)
        rw [if_pos (by omega)] at h6
        exact h6
      rw [h4]; omega
    rw [h3]
    exact (inT h).2
  · intro x h3 h4
    rw [e14] at h4
    have hx := inO h x h3 h4
    rw [e0, e (55 + 22 * x) (by omega) (by omega) (by omega) (by omega) (by omega) (by omega), e (56 + 22 * x) (by omega) (by omega) (by omega) (by omega) (by omega) (by omega), e (58 + 22 * x) (by omega) (by omega) (by omega) (by omega) (by omega) (by omega), e (59 + 22 * x) (by omega) (by omega) (by omega) (by omega) (by omega) (by omega)]
    by_cases ex : x = o
    · subst ex
      rw [hre]
      omega
    · rw [e (57 + 22 * x) (by omega) (by omega) (by omega) (by omega) (by omega) (by omega)]
      exact hx
  · intro x w h3 h4 h5 h6
    rw [e14] at h3
    rw [e (61 + 22 * x + w) (by omega) (by omega) (by omega) (by omega) (by omega) (by omega)]
    exact inZ h x w h3 h4 h5 h6
  · intro x k h3 h4 h5 h6
    rw [e0, e (65 + 22 * x + k) (by omega) (by omega) (by omega) (by omega) (by omega) (by omega)]
    exact inC h x k h3 h4 h5 h6
  · intro q h3 h4
    rw [e15] at h4
    rw [e (497 + 15 * q) (by omega) (by omega) (by omega) (by omega) (by omega) (by omega), e (495 + 15 * q) (by omega) (by omega) (by omega) (by omega) (by omega) (by omega), e (496 + 15 * q) (by omega) (by omega) (by omega) (by omega) (by omega) (by omega)]
    exact inQ h q h3 h4
  · intro q k h3 h4 h5 h6
    rw [e15, e (498 + 15 * q + k) (by omega) (by omega) (by omega) (by omega) (by omega) (by omega)]
    exact inV h q k h3 h4 h5 h6
  · intro m h3 h4
    have := inB h m h3 h4
    have hcm := hc m h3 h4
    rw [hrem, hsh m h3 h4]
    omega
theorem take_at {s : Int → Int} {o w n pr q : Int} : sp_take s o w n pr q = s q + (if q = 19 + 3 * s (55 + 22 * o) then -n else 0) + (if q = 21 + 3 * s (55 + 22 * o) then pr * n else 0) + (if q = 57 + 22 * o then -n else 0) + (if q = 61 + 22 * o + w then n else 0) := by
  unfold sp_take
  rw [uq_at, uq_at, uq_at, uq_at]
theorem sell_at {s : Int → Int} {o w m n pr q : Int} (hm : 0 ≤ m ∧ m < 12) (ho : 0 ≤ o) : sp_sell s o w m n pr q = s q + (if q = 19 + 3 * m then n else 0) + (if q = 21 + 3 * m then -(pr * n) else 0) + (if q = 19 + 3 * s (55 + 22 * o) then -n else 0) + (if q = 21 + 3 * s (55 + 22 * o) then pr * n else 0) + (if q = 57 + 22 * o then -n else 0) + (if q = 61 + 22 * o + w then n else 0) := by
  have e : sp_buy s m n pr (55 + 22 * o) = s (55 + 22 * o) := by
    unfold sp_buy
    rw [uq_ne (by omega), uq_ne (by omega)]
  unfold sp_sell
  rw [take_at, e]
  unfold sp_buy
  rw [uq_at, uq_at]
theorem sm_one {m n : Int} {k : Int} (h0 : 0 ≤ m) (h1 : m < k) : sm (fun x => if x = m then n else 0) k = n := by
  have h := sm_up (fun _ => 0) (i := m) (v := n) h0 h1
  have h2 : sm (fun _ : Int => (0 : Int)) k = 0 := by
    have := sm_b (f := fun _ : Int => (0 : Int)) (n := k) (a := 0) (b := 0) (by omega) (fun _ _ _ => ⟨Int.le_refl 0, Int.le_refl 0⟩)
    omega
  have h3 : sm (up (fun _ : Int => (0 : Int)) m n) k = sm (fun x => if x = m then n else 0) k := sm_cg fun x _ _ => rfl
  omega
theorem inv_sell {s : Int → Int} {o w m n pr : Int} (h : Inv0 s) (h0 : 0 ≤ o) (h1 : o < s 14) (hop : s (59 + 22 * o) ≠ 3) (hn : 0 ≤ n) (hn2 : n ≤ s (57 + 22 * o)) (hm : 0 ≤ m) (hm2 : m < s 0) (hw : 0 ≤ w ∧ w < 4) : Inv0 (sp_sell s o w m n pr) := by
  have hA := inA h
  unfold InvA at hA
  have ho := inO h o h0 h1
  refine inv_move (c := fun x => if x = m then n else 0) (t := 0) h h0 h1 hop hn hn2 (Int.le_refl 0) (fun x h3 h4 => ?_) (by rw [sm_one hm hm2]; omega) (fun x h3 h4 => ?_) ?_ ?_ (fun q h3 h4 h5 h6 h7 h8 => ?_)
  · constructor
    · split <;> omega
    · intro h5; rw [if_neg (by omega)]
  · rw [sell_at ⟨hm, by omega⟩ h0]
    rw [if_neg (show ¬ (19 + 3 * x = 21 + 3 * m) by omega), if_neg (show ¬ (19 + 3 * x = 21 + 3 * s (55 + 22 * o)) by omega), if_neg (show ¬ (19 + 3 * x = 57 + 22 * o) by omega), if_neg (show ¬ (19 + 3 * x = 61 + 22 * o + w) by omega)]
    by_cases e1 : x = m <;> by_cases e2 : x = s (55 + 22 * o)
    · rw [if_pos (by omega), if_pos (by omega), if_pos e1, if_pos e2]; omega
    · rw [if_pos (by omega), if_neg (by omega), if_pos e1, if_neg e2]; omega
    · rw [if_neg (by omega), if_pos (by omega), if_neg e1, if_pos e2]; omega
    · rw [if_neg (by omega), if_neg (by omega), if_neg e1, if_neg e2]; omega
  · rw [sell_keep ⟨by omega, by omega⟩ ⟨hm, by omega⟩ h0 (by omega) (by omega) (by omega)]; omega
  · rw [sell_at ⟨hm, by omega⟩ h0]
    rw [if_neg (by omega), if_neg (by omega), if_neg (by omega), if_neg (by omega), if_pos rfl, if_neg (by omega)]; omega
  · exact sell_keep ⟨by omega, by omega⟩ ⟨hm, by omega⟩ h0 (by omega) h6 (by omega)
theorem take_keep {s : Int → Int} {o w n pr q : Int} (hs : 0 ≤ s (55 + 22 * o) ∧ s (55 + 22 * o) < 12) (h1 : q < 19 ∨ 55 ≤ q ∨ (q - 19) % 3 = 1) (h3 : q ≠ 57 + 22 * o) (h4 : q ≠ 61 + 22 * o + w) : sp_take s o w n pr q = s q := by
  rw [take_at, if_neg (by omega), if_neg (by omega), if_neg h3, if_neg h4]; omega
theorem tre_keep {s : Int → Int} {o q : Int} (hs : 0 ≤ s (55 + 22 * o) ∧ s (55 + 22 * o) < 12) (h0 : 0 ≤ o) (h1 : q < 19 ∨ 55 ≤ q ∨ (q - 19) % 3 = 1) (h2 : q ≠ 2) (h3 : q ≠ 57 + 22 * o) (h4 : q ≠ 63 + 22 * o) : sp_tre s o q = s q := by
  have e : uq s 2 (sp_tn s o) (55 + 22 * o) = s (55 + 22 * o) := uq_ne (by omega)
  unfold sp_tre
  rw [take_keep (by rw [e]; exact hs) h1 h3 (by omega), uq_ne h2]
theorem inv_tre {s : Int → Int} {o : Int} (h : Inv0 s) (h0 : 0 ≤ o) (h1 : o < s 14) (hop : s (59 + 22 * o) ≠ 3) : Inv0 (sp_tre s o) := by
  have hA := inA h
  unfold InvA at hA
  have ho := inO h o h0 h1
  have hn : 0 ≤ sp_tn s o ∧ sp_tn s o ≤ s (57 + 22 * o) := by unfold sp_tn; omega
  have e : uq s 2 (sp_tn s o) (55 + 22 * o) = s (55 + 22 * o) := uq_ne (by omega)
  refine inv_move (c := fun _ => 0) (t := sp_tn s o) h h0 h1 hop hn.1 hn.2 hn.1 (fun x h3 h4 => ⟨Int.le_refl 0, fun _ => rfl⟩) ?_ (fun x h3 h4 => ?_) ?_ ?_ (fun q h3 h4 h5 h6 h7 h8 => ?_)
  · have := sm_b (f := fun _ : Int => (0 : Int)) (n := s 0) (a := 0) (b := 0) (by omega) (fun _ _ _ => ⟨Int.le_refl 0, Int.le_refl 0⟩)
    omega
  · unfold sp_tre
    rw [take_at, e, uq_ne (by omega), if_neg (show ¬ (19 + 3 * x = 21 + 3 * s (55 + 22 * o)) by omega), if_neg (show ¬ (19 + 3 * x = 57 + 22 * o) by omega), if_neg (show ¬ (19 + 3 * x = 61 + 22 * o + 2) by omega)]
    by_cases e2 : x = s (55 + 22 * o)
    · rw [if_pos (by omega), if_pos e2]; omega
    · rw [if_neg (by omega), if_neg e2]; omega
  · unfold sp_tre
    rw [take_keep (by rw [e]; omega) (by omega) (by omega) (by omega), uq_eq]
  · unfold sp_tre
    rw [take_at, e, uq_ne (by omega), if_neg (by omega), if_neg (by omega), if_pos rfl, if_neg (by omega)]; omega
  · exact tre_keep (by omega) h0 (by omega) h5 h6 (by omega)
theorem begin_ne {s : Int → Int} {o st len q : Int} (h1 : q ≠ 59 + 22 * o) (h2 : q ≠ 60 + 22 * o) (h3 : q ≠ 645 + o) (h4 : ¬ (65 + 22 * o ≤ q ∧ q < 77 + 22 * o)) : sp_begin s o st len q = s q := by
  unfold sp_begin
  rw [if_neg h1, if_neg h2, if_neg h3, if_neg h4]
theorem inv_begin {s : Int → Int} {o st len : Int} (h : Inv0 s) (h0 : 0 ≤ o) (h1 : o < s 14) (hst : 0 ≤ st ∧ st ≤ 3) (hop : st = 3 ∨ s (59 + 22 * o) ≠ 3) : Inv0 (sp_begin s o st len) := by
  have hA := inA h
  unfold InvA at hA
  have ho := inO h o h0 h1
  have e : ∀ q : Int, q < 645 → q ≠ 59 + 22 * o → q ≠ 60 + 22 * o → ¬ (65 + 22 * o ≤ q ∧ q < 77 + 22 * o) → sp_begin s o st len q = s q := fun q a b c d => begin_ne b c (by omega) d
  have e0 := e 0 (by omega) (by omega) (by omega) (by omega)
  have e14 := e 14 (by omega) (by omega) (by omega) (by omega)
  have e15 := e 15 (by omega) (by omega) (by omega) (by omega)
  have est : sp_begin s o st len (59 + 22 * o) = st := if_pos rfl
  have hro : ∀ m k : Int, 0 ≤ k → k < s 14 → sp_ro (sp_begin s o st len) m k ≤ sp_ro s m k := fun m k h3 h4 => by
    have hk := inO h k h3 h4
    unfold sp_ro
    rw [e (55 + 22 * k) (by omega) (by omega) (by omega) (by omega), e (57 + 22 * k) (by omega) (by omega) (by omega) (by omega)]
    by_cases ek : k = o
    · subst ek
      rw [est]
      rcases hop with q | q
      · rw [if_neg (by omega)]; split <;> omega
      · by_cases q2 : s (55 + 22 * k) = m
        · rw [if_pos (show s (59 + 22 * k) ≠ 3 ∧ s (55 + 22 * k) = m from ⟨q, q2⟩)]; split <;> omega
        · rw [if_neg (fun z => q2 z.2), if_neg (fun z => q2 z.2)]; omega
    · rw [e (59 + 22 * k) (by omega) (by omega) (by omega) (by omega)]; omega
  have hle : ∀ m : Int, sp_rem (sp_begin s o st len) m ≤ sp_rem s m := fun m => by
    unfold sp_rem
    rw [e14]
    have key : ∀ j : Nat, (j : Int) ≤ s 14 → smN (sp_ro (sp_begin s o st len) m) j ≤ smN (sp_ro s m) j := by
      intro j
      induction j with
      | zero => intro _; exact Int.le_refl _
      | succ j ih =>
        intro hj
        have h3 := ih (by omega)
        have h4 := hro m j (by omega) (by omega)
        show smN _ j + _ ≤ smN _ j + _
        omega
    exact key _ (by omega)
  refine ⟨?_, ?_, ?_, ?_, ?_, ?_, ?_, ?_, ?_, ?_⟩
  · unfold InvA
    rw [e0, e14, e15, e 1 (by omega) (by omega) (by omega) (by omega), e 2 (by omega) (by omega) (by omega) (by omega), e 3 (by omega) (by omega) (by omega) (by omega), e 4 (by omega) (by omega) (by omega) (by omega), e 5 (by omega) (by omega) (by omega) (by omega), e 6 (by omega) (by omega) (by omega) (by omega), e 7 (by omega) (by omega) (by omega) (by omega), e 8 (by omega) (by omega) (by omega) (by omega), e 9 (by omega) (by omega) (by omega) (by omega), e 13 (by omega) (by omega) (by omega) (by omega), e 16 (by omega) (by omega) (by omega) (by omega), e 17 (by omega) (by omega) (by omega) (by omega)]
    exact hA
  · intro k h3 h4
    rw [e (10 + k) (by omega) (by omega) (by omega) (by omega)]
    exact inS h k h3 h4
  · intro m h3 h4
    rw [e0, e (19 + 3 * m) (by omega) (by omega) (by omega) (by omega), e (20 + 3 * m) (by omega) (by omega) (by omega) (by omega)]
    exact inMm h m h3 h4
  · have h3 : sp_all (sp_begin s o st len) = sp_all s := by
      unfold sp_all
      rw [e0, e 2 (by omega) (by omega) (by omega) (by omega), sm_cg fun k a b => e (19 + 3 * k) (by omega) (by omega) (by omega) (by omega)]
    rw [h3]
    exact (inT h).2
  · intro x h3 h4
    rw [e14] at h4
    have hx := inO h x h3 h4
    rw [e0, e (55 + 22 * x) (by omega) (by omega) (by omega) (by omega), e (56 + 22 * x) (by omega) (by omega) (by omega) (by omega), e (57 + 22 * x) (by omega) (by omega) (by omega) (by omega), e (58 + 22 * x) (by omega) (by omega) (by omega) (by omega)]
    by_cases ex : x = o
    · subst ex
      rw [est]; omega
    · rw [e (59 + 22 * x) (by omega) (by omega) (by omega) (by omega)]; exact hx
  · intro x w h3 h4 h5 h6
    rw [e14] at h3
    rw [e (61 + 22 * x + w) (by omega) (by omega) (by omega) (by omega)]
    exact inZ h x w h3 h4 h5 h6
  · intro x k h3 h4 h5 h6
    have hc := inC h x k h3 h4 h5 h6
    by_cases ex : x = o
    · subst ex
      have : sp_begin s x st len (65 + 22 * x + k) = 0 := by
        unfold sp_begin
        rw [if_neg (by omega), if_neg (by omega), if_neg (by omega), if_pos (by omega)]
      rw [this, e0]; omega
    · rw [e0, e (65 + 22 * x + k) (by omega) (by omega) (by omega) (by omega)]
      exact hc
  · intro q h3 h4
    rw [e15] at h4
    rw [e (497 + 15 * q) (by omega) (by omega) (by omega) (by omega), e (495 + 15 * q) (by omega) (by omega) (by omega) (by omega), e (496 + 15 * q) (by omega) (by omega) (by omega) (by omega)]
    exact inQ h q h3 h4
  · intro q k h3 h4 h5 h6
    rw [e15, e (498 + 15 * q + k) (by omega) (by omega) (by omega) (by omega)]
    exact inV h q k h3 h4 h5 h6
  · intro m h3 h4
    have h5 := inB h m h3 h4
    have h6 := hle m
    rw [e (19 + 3 * m) (by omega) (by omega) (by omega) (by omega)]
    omega
