/-! WHAT SALES AND DAYS KEEP, FOR THE LAW: all shares; the accounts together less the price of the treasury; what was offered -/
theorem u3_in {s : Int → Int} {a m v n q : Int} (h : 0 ≤ m) (h1 : m < n) (hq : q = a + 3 * m) : sm (fun k => uq s q v (a + 3 * k)) n = sm (fun k => s (a + 3 * k)) n + v := by
  subst hq
  have e : sm (fun k => uq s (a + 3 * m) v (a + 3 * k)) n = sm (up (fun k => s (a + 3 * k)) m (s (a + 3 * m) + v)) n := sm_cg fun k _ _ => by
    by_cases c : k = m
    · subst c; rw [uq_eq, up_eq]
    · rw [uq_ne (by omega), up_ne c]
  have e2 : sm (up (fun k => s (a + 3 * k)) m (s (a + 3 * m) + v)) n = sm (fun k => s (a + 3 * k)) n + (s (a + 3 * m) + v) - s (a + 3 * m) := sm_up _ h h1
  rw [e, e2]; omega
theorem u3_out {s : Int → Int} {a v n q : Int} (hq : ∀ k : Int, 0 ≤ k → k < n → q ≠ a + 3 * k) : sm (fun k => uq s q v (a + 3 * k)) n = sm (fun k => s (a + 3 * k)) n := sm_cg fun k h1 h2 => uq_ne (fun e => hq k h1 h2 e.symm)
theorem u1_in {s : Int → Int} {a w v n : Int} (h : 0 ≤ w) (h1 : w < n) : sm (fun k => uq s (a + w) v (a + k)) n = sm (fun k => s (a + k)) n + v := by
  have e : sm (fun k => uq s (a + w) v (a + k)) n = sm (up (fun k => s (a + k)) w (s (a + w) + v)) n := sm_cg fun k _ _ => by
    by_cases c : k = w
    · subst c; rw [uq_eq, up_eq]
    · rw [uq_ne (by omega), up_ne c]
  have e2 : sm (up (fun k => s (a + k)) w (s (a + w) + v)) n = sm (fun k => s (a + k)) n + (s (a + w) + v) - s (a + w) := sm_up _ h h1
  rw [e, e2]; omega
theorem u1_out {s : Int → Int} {a v n q : Int} (hq : ∀ k : Int, 0 ≤ k → k < n → q ≠ a + k) : sm (fun k => uq s q v (a + k)) n = sm (fun k => s (a + k)) n := sm_cg fun k h1 h2 => uq_ne (fun e => hq k h1 h2 e.symm)
def fr_acc (s : Int → Int) : Int := sm (fun k => s (21 + 3 * k)) (s 0)
def fr_w (s : Int → Int) : Int := fr_acc s - s 6 * s 2
def fr_is (s : Int → Int) : Int → Int := fun o => if s (59 + 22 * o) < 3 then 1 else 0
def fr_open (s : Int → Int) : Int := sm (fr_is s) (s 14)
def fr_tot (s : Int → Int) (o : Int) : Int := sm (fun w => s (61 + 22 * o + w)) 4 + s (57 + 22 * o)
def PO (s : Int → Int) (o : Int) : Prop := (∀ w : Int, 0 ≤ w → w < 4 → 0 ≤ s (61 + 22 * o + w)) ∧ (s (59 + 22 * o) ≠ 3 → 1 ≤ s (57 + 22 * o)) ∧ (2 ≤ s (59 + 22 * o) → ∀ k : Int, 0 ≤ k → k < 12 → s (65 + 22 * o + k) = 0)
theorem buy_f {s : Int → Int} {m n pr : Int} (h0 : 0 ≤ m) (h1 : m < s 0) : sp_all (sp_buy s m n pr) = sp_all s + n ∧ fr_acc (sp_buy s m n pr) = fr_acc s - pr * n := by
  have e0 : sp_buy s m n pr 0 = s 0 := by unfold sp_buy; rw [uq_ne (by omega), uq_ne (by omega)]
  have e2 : sp_buy s m n pr 2 = s 2 := by unfold sp_buy; rw [uq_ne (by omega), uq_ne (by omega)]
  constructor
  · unfold sp_all; rw [e0, e2]; unfold sp_buy; rw [u3_out (fun k a b => by omega), u3_in h0 h1 rfl]; omega
  · unfold fr_acc; rw [e0]; unfold sp_buy; rw [u3_in h0 h1 rfl, u3_out (fun k a b => by omega)]; omega
theorem take_f {s : Int → Int} {o w n pr : Int} (h : s 0 ≤ 12) (ho : 0 ≤ o) (hw : 0 ≤ w) (hs : 0 ≤ s (55 + 22 * o) ∧ s (55 + 22 * o) < s 0) : sp_all (sp_take s o w n pr) = sp_all s - n ∧ fr_acc (sp_take s o w n pr) = fr_acc s + pr * n := by
  have e0 : sp_take s o w n pr 0 = s 0 := take_keep ⟨hs.1, by omega⟩ (by omega) (by omega) (by omega)
  have e2 : sp_take s o w n pr 2 = s 2 := take_keep ⟨hs.1, by omega⟩ (by omega) (by omega) (by omega)
  constructor
  · unfold sp_all; rw [e0, e2]; unfold sp_take; rw [u3_out (fun k a b => by omega), u3_out (fun k a b => by omega), u3_out (fun k a b => by omega), u3_in hs.1 hs.2 rfl]; omega
  · unfold fr_acc; rw [e0]; unfold sp_take; rw [u3_out (fun k a b => by omega), u3_out (fun k a b => by omega), u3_in hs.1 hs.2 rfl, u3_out (fun k a b => by omega)]
/-- from s to t, a move of shares of the offer o -/
def FM (s t : Int → Int) (o : Int) : Prop := sp_all t = sp_all s ∧ fr_w t = fr_w s ∧ fr_tot t o = fr_tot s o ∧ ∀ w : Int, 0 ≤ w → w < 4 → s (61 + 22 * o + w) ≤ t (61 + 22 * o + w)
theorem FM.rf (s : Int → Int) (o : Int) : FM s s o := ⟨rfl, rfl, rfl, fun _ _ _ => Int.le_refl _⟩
theorem FM.tr {s t u : Int → Int} {o : Int} (h : FM s t o) (k : FM t u o) : FM s u o := ⟨k.1.trans h.1, k.2.1.trans h.2.1, k.2.2.1.trans h.2.2.1, fun w a b => Int.le_trans (h.2.2.2 w a b) (k.2.2.2 w a b)⟩
theorem take_t {s : Int → Int} {o w n pr : Int} (ho : 0 ≤ o) (hw : 0 ≤ w ∧ w < 4) (hs : 0 ≤ s (55 + 22 * o) ∧ s (55 + 22 * o) < 12) : fr_tot (sp_take s o w n pr) o = fr_tot s o := by
  have e : sp_take s o w n pr (57 + 22 * o) = s (57 + 22 * o) - n := by
    rw [take_at, if_neg (by omega), if_neg (by omega), if_pos rfl, if_neg (by omega)]; omega
  unfold fr_tot
  rw [e]
  unfold sp_take
  rw [u1_in hw.1 hw.2, u1_out (fun k a b => by omega), u1_out (fun k a b => by omega), u1_out (fun k a b => by omega)]
  omega
theorem take_s {s : Int → Int} {o w n pr x : Int} (ho : 0 ≤ o) (hn : 0 ≤ n) (hs : 0 ≤ s (55 + 22 * o) ∧ s (55 + 22 * o) < 12) (h0 : 0 ≤ x) (h1 : x < 4) : s (61 + 22 * o + x) ≤ sp_take s o w n pr (61 + 22 * o + x) := by
  rw [take_at, if_neg (by omega), if_neg (by omega), if_neg (by omega)]
  split <;> omega
theorem buy_ne {s : Int → Int} {m n pr q : Int} (hm : 0 ≤ m) (hm2 : m < 12) (hq : q < 19 ∨ 55 ≤ q) : sp_buy s m n pr q = s q := by
  unfold sp_buy; rw [uq_ne (by omega), uq_ne (by omega)]
theorem sell_f {s : Int → Int} {o w m n pr : Int} (h : s 0 ≤ 12) (ho : 0 ≤ o) (hw : 0 ≤ w ∧ w < 4) (hs : 0 ≤ s (55 + 22 * o) ∧ s (55 + 22 * o) < s 0) (hm : 0 ≤ m) (hm2 : m < s 0) (hn : 0 ≤ n) : FM s (sp_sell s o w m n pr) o := by
  have b := fun q => @buy_ne s m n pr q hm (by omega)
  have b55 := b (55 + 22 * o) (by omega)
  have b0 := b 0 (by omega)
  have hb := buy_f (s := s) (m := m) (n := n) (pr := pr) hm hm2
  have ht := take_f (s := sp_buy s m n pr) (o := o) (w := w) (n := n) (pr := pr) (by omega) ho hw.1 (by omega)
  have e2 : sp_sell s o w m n pr 2 = s 2 := sell_keep ⟨hs.1, by omega⟩ ⟨hm, by omega⟩ ho (by omega) (by omega) (by omega)
  have e6 : sp_sell s o w m n pr 6 = s 6 := sell_keep ⟨hs.1, by omega⟩ ⟨hm, by omega⟩ ho (by omega) (by omega) (by omega)
  refine ⟨?_, ?_, ?_, fun x h0 h1 => ?_⟩
  · unfold sp_sell; omega
  · unfold fr_w; rw [e2, e6]; unfold sp_sell; omega
  · unfold sp_sell
    rw [take_t ho hw (by omega)]
    unfold fr_tot
    rw [b _ (by omega), sm_cg fun k a c => b (61 + 22 * o + k) (by omega)]
  · have := take_s (s := sp_buy s m n pr) (o := o) (w := w) (n := n) (pr := pr) ho hn (by omega) h0 h1
    rw [b _ (by omega)] at this
    exact this
theorem tre_f {s : Int → Int} (h : Inv0 s) {o : Int} (h0 : 0 ≤ o) (h1 : o < s 14) : FM s (sp_tre s o) o := by
  have hA := inA h
  unfold InvA at hA
  have ho := inO h o h0 h1
  have hn : 0 ≤ sp_tn s o := by unfold sp_tn; omega
  have b55 : uq s 2 (sp_tn s o) (55 + 22 * o) = s (55 + 22 * o) := uq_ne (by omega)
  have b0 : uq s 2 (sp_tn s o) 0 = s 0 := uq_ne (by omega)
  have ha : sp_all (uq s 2 (sp_tn s o)) = sp_all s + sp_tn s o := by
    unfold sp_all
    rw [uq_eq, b0, sm_cg fun k a c => uq_ne (show 19 + 3 * k ≠ 2 by omega)]; omega
  have hc : fr_acc (uq s 2 (sp_tn s o)) = fr_acc s := by
    unfold fr_acc
    rw [b0, sm_cg fun k a c => uq_ne (show 21 + 3 * k ≠ 2 by omega)]
  have ht := take_f (s := uq s 2 (sp_tn s o)) (o := o) (w := 2) (n := sp_tn s o) (pr := s 6) (by omega) h0 (by omega) (by omega)
  have e2 : sp_tre s o 2 = s 2 + sp_tn s o := by
    unfold sp_tre
    rw [take_keep (by rw [b55]; exact ⟨by omega, by omega⟩) (by omega) (by omega) (by omega), uq_eq]
  have e6 : sp_tre s o 6 = s 6 := tre_keep ⟨by omega, by omega⟩ h0 (by omega) (by omega) (by omega) (by omega)
  refine ⟨?_, ?_, ?_, fun x a b => ?_⟩
  · unfold sp_tre; omega
  · unfold fr_w
    rw [e2, e6, Int.mul_add]
    unfold sp_tre; omega
  · unfold sp_tre
    rw [take_t h0 ⟨by omega, by omega⟩ (by omega)]
    unfold fr_tot
    rw [uq_ne (by omega), sm_cg fun k a c => uq_ne (show 61 + 22 * o + k ≠ 2 by omega)]
  · have := take_s (s := uq s 2 (sp_tn s o)) (o := o) (w := 2) (n := sp_tn s o) (pr := s 6) h0 hn (by omega) a b
    rw [uq_ne (by omega)] at this
    exact this
theorem sells_f {s g : Int → Int} {o st : Int} (h : Inv0 s) (h0 : 0 ≤ o) (h1 : o < s 14) (hst : 0 ≤ st ∧ st < 4) (hg : ∀ k : Int, 0 ≤ k → k < 12 → 0 ≤ g k ∧ (s 0 ≤ k → g k = 0)) : ∀ n : Nat, n ≤ 12 → FM s (sp_sells g o st s n) o := by
  have hA := inA h
  unfold InvA at hA
  have ho := inO h o h0 h1
  intro n
  induction n with
  | zero => intro _; exact FM.rf s o
  | succ n ih =>
    intro hn
    have hgn := hg n (by omega) (by omega)
    have kp : ∀ q : Int, (q < 19 ∨ 55 ≤ q ∨ (q - 19) % 3 = 1) → q ≠ 57 + 22 * o → q ≠ 61 + 22 * o + st → sp_sells g o st s n q = s q := fun q a b c => sells_keep ⟨by omega, by omega⟩ h0 hst (by omega) a b c
    have e0 := kp 0 (by omega) (by omega) (by omega)
    have e55 := kp (55 + 22 * o) (by omega) (by omega) (by omega)
    have e : sp_sells g o st s (n + 1) = sp_sell (sp_sells g o st s n) o st n (g n) (sp_sells g o st s n 6) := rfl
    rw [e]
    refine (ih (by omega)).tr ?_
    by_cases z : g n = 0
    · rw [z, sell_0]; exact FM.rf _ o
    · have hm : (n : Int) < s 0 := by
        rcases Int.lt_or_le (n : Int) (s 0) with q | q
        · exact q
        · exact absurd (hgn.2 q) z
      exact sell_f (by omega) h0 hst (by omega) (by omega) (by omega) hgn.1
theorem mid_f {s : Int → Int} (h : Inv0 s) {o : Int} (h0 : 0 ≤ o) (h1 : o < s 14) (hop : s (59 + 22 * o) ≠ 3) : FM s (sp_mid s o) o := by
  have hA := inA h
  unfold InvA at hA
  have ho := inO h o h0 h1
  unfold sp_mid
  split
  · refine (tre_f h h0 h1).tr ?_
    have hi := inv_tre h h0 h1 hop
    have e := fun q => @tre_keep s o q ⟨by omega, by omega⟩ h0
    have e0 := e 0 (by omega) (by omega) (by omega) (by omega)
    have e55 := e (55 + 22 * o) (by omega) (by omega) (by omega) (by omega)
    have e56 := e (56 + 22 * o) (by omega) (by omega) (by omega) (by omega)
    have e14 := e 14 (by omega) (by omega) (by omega) (by omega)
    have hr := room_b hi (m := sp_tre s o (56 + 22 * o)) (by omega) (by omega)
    have ho2 := inO hi o h0 (by omega)
    unfold sp_toB
    exact sell_f (by omega) h0 ⟨by omega, by omega⟩ (by omega) (by omega) (by omega) (by unfold sp_bn; omega)
  · have hd := dem_ok h h0 h1
    have hw : 0 ≤ s (57 + 22 * o) ∧ s (57 + 22 * o) ≤ 1000 := by omega
    exact sells_f h h0 h1 ⟨by omega, by omega⟩ (fun k a b => ⟨(gets_b hd.1 hw k a b).1, fun c => gets_zero hd.1 hw a b (hd.2 k a b c)⟩) 12 (Nat.le_refl 12)
/-- what is told of the places below 55 alone -/
theorem lo_cg {s t : Int → Int} (h : s 0 ≤ 12) (e : ∀ q : Int, q < 55 → t q = s q) : sp_all t = sp_all s ∧ fr_w t = fr_w s := by
  constructor
  · unfold sp_all; rw [e 0 (by omega), e 2 (by omega), sm_cg fun k a b => e (19 + 3 * k) (by omega)]
  · unfold fr_w fr_acc; rw [e 0 (by omega), e 2 (by omega), e 6 (by omega), sm_cg fun k a b => e (21 + 3 * k) (by omega)]
theorem po_cg {s t : Int → Int} {x : Int} (e : ∀ q : Int, 57 + 22 * x ≤ q → q < 77 + 22 * x → q ≠ 60 + 22 * x → t q = s q) : (PO s x → PO t x) ∧ fr_tot t x = fr_tot s x := by
  refine ⟨fun ⟨a, b, c⟩ => ⟨fun w h0 h1 => ?_, fun d => ?_, fun d k h0 h1 => ?_⟩, ?_⟩
  · rw [e _ (by omega) (by omega) (by omega)]; exact a w h0 h1
  · rw [e (59 + 22 * x) (by omega) (by omega) (by omega)] at d
    rw [e _ (by omega) (by omega) (by omega)]; exact b d
  · rw [e (59 + 22 * x) (by omega) (by omega) (by omega)] at d
    rw [e _ (by omega) (by omega) (by omega)]; exact c d k h0 h1
  · unfold fr_tot; rw [e _ (by omega) (by omega) (by omega), sm_cg fun w a b => e (61 + 22 * x + w) (by omega) (by omega) (by omega)]
/-- an offer's day -/
def OD (s t : Int → Int) (c : Int) : Prop := sp_all t = sp_all s ∧ fr_w t = fr_w s ∧ t 6 = s 6 ∧ t 0 = s 0 ∧ fr_open t = fr_open s - c ∧ ∀ x : Int, 0 ≤ x → x < s 14 → (PO s x → PO t x) ∧ fr_tot t x = fr_tot s x ∧ t (55 + 22 * x) = s (55 + 22 * x)
theorem OD.rf (s : Int → Int) : OD s s 0 := ⟨rfl, rfl, rfl, rfl, by omega, fun _ _ _ => ⟨id, rfl, rfl⟩⟩
theorem OD.tr {s t u : Int → Int} {c d : Int} (e : t 14 = s 14) (h : OD s t c) (k : OD t u d) : OD s u (c + d) := by
  obtain ⟨a1, a2, a3, a4, a5, a6⟩ := h
  obtain ⟨b1, b2, b3, b4, b5, b6⟩ := k
  refine ⟨b1.trans a1, b2.trans a2, b3.trans a3, b4.trans a4, by omega, fun x h0 h1 => ?_⟩
  obtain ⟨c1, c2, c3⟩ := a6 x h0 h1
  obtain ⟨d1, d2, d3⟩ := b6 x h0 (by omega)
  exact ⟨fun q => d1 (c1 q), d2.trans c2, d3.trans c3⟩
theorem OD.cg {s t : Int → Int} {o : Int} (h : s 0 ≤ 12) (hn : 0 ≤ s 14 ∧ s 14 ≤ 20) (h0 : 0 ≤ o) (e : ∀ q : Int, q < 645 → q ≠ 60 + 22 * o → q ≠ 18 → t q = s q) : OD s t 0 := by
  have e2 : sp_all t = sp_all s := by unfold sp_all; rw [e 0 (by omega) (by omega) (by omega), e 2 (by omega) (by omega) (by omega), sm_cg fun k a b => e (19 + 3 * k) (by omega) (by omega) (by omega)]
  have e3 : fr_w t = fr_w s := by unfold fr_w fr_acc; rw [e 0 (by omega) (by omega) (by omega), e 2 (by omega) (by omega) (by omega), e 6 (by omega) (by omega) (by omega), sm_cg fun k a b => e (21 + 3 * k) (by omega) (by omega) (by omega)]
  refine ⟨e2, e3, e 6 (by omega) (by omega) (by omega), e 0 (by omega) (by omega) (by omega), ?_, fun x h1 h2 => ⟨(po_cg fun q a b c => e q (by omega) (by omega) (by omega)).1, (po_cg fun q a b c => e q (by omega) (by omega) (by omega)).2, e _ (by omega) (by omega) (by omega)⟩⟩
  unfold fr_open
  rw [e 14 (by omega) (by omega) (by omega), sm_cg fun x a b => show fr_is t x = fr_is s x by unfold fr_is; rw [e _ (by omega) (by omega) (by omega)]]
  omega
theorem begin_od {s : Int → Int} (h : Inv0 s) {o st len c : Int} (h0 : 0 ≤ o) (h1 : o < s 14) (hop : s (59 + 22 * o) ≠ 3) (hs3 : st ≤ 3) (hst : st < 3 → 1 ≤ sp_mid s o (57 + 22 * o)) (hc : c = if st < 3 then 0 else 1) : OD s (sp_begin (sp_mid s o) o st len) c := by
  have hA := inA h
  unfold InvA at hA
  have ho := inO h o h0 h1
  have hm := mid_f h h0 h1 hop
  have mk := fun q => @mid_keep s h o q h0 h1 hop
  have bn := fun q => @begin_ne (sp_mid s o) o st len q
  have m0 := mk 0 (by omega) (by omega) (by omega) (by omega)
  have m14 := mk 14 (by omega) (by omega) (by omega) (by omega)
  have b0 := bn 0 (by omega) (by omega) (by omega) (by omega)
  have b14 := bn 14 (by omega) (by omega) (by omega) (by omega)
  have b59 : sp_begin (sp_mid s o) o st len (59 + 22 * o) = st := if_pos rfl
  have lo := lo_cg (s := sp_mid s o) (t := sp_begin (sp_mid s o) o st len) (by omega) (fun q hq => bn q (by omega) (by omega) (by omega) (by omega))
  refine ⟨lo.1.trans hm.1, lo.2.trans hm.2.1, (bn 6 (by omega) (by omega) (by omega) (by omega)).trans (mk 6 (by omega) (by omega) (by omega) (by omega)), b0.trans m0, ?_, fun x h2 h3 => ?_⟩
  · have hf : ∀ x : Int, 0 ≤ x → x < s 14 → fr_is (sp_begin (sp_mid s o) o st len) x = up (fr_is s) o (if st < 3 then 1 else 0) x := fun x h2 h3 => by
      by_cases z : x = o
      · subst z
        rw [up_eq]; unfold fr_is; rw [b59]
      · rw [up_ne z]; unfold fr_is
        rw [bn _ (by omega) (by omega) (by omega) (by omega), mk _ (by omega) (by omega) (by omega) (by omega)]
    have e1 : fr_is s o = 1 := if_pos (by omega)
    unfold fr_open
    rw [b14, m14, sm_cg hf, sm_up _ h0 h1, e1, hc]
    split <;> omega
  · by_cases z : x = o
    · subst z
      refine ⟨fun ⟨p1, p2, p3⟩ => ⟨fun w a b => ?_, fun a => ?_, fun a k b d => ?_⟩, ?_, ?_⟩
      · rw [bn _ (by omega) (by omega) (by omega) (by omega)]
        have := p1 w a b
        have := hm.2.2.2 w a b
        omega
      · rw [b59] at a
        rw [bn _ (by omega) (by omega) (by omega) (by omega)]
        exact hst (by omega)
      · unfold sp_begin
        rw [if_neg (by omega), if_neg (by omega), if_neg (by omega), if_pos (by omega)]
      · rw [← hm.2.2.1]
        unfold fr_tot
        rw [bn (57 + 22 * x) (by omega) (by omega) (by omega) (by omega), sm_cg fun w a b => bn (61 + 22 * x + w) (by omega) (by omega) (by omega) (by omega)]
      · rw [bn _ (by omega) (by omega) (by omega) (by omega), mk _ (by omega) (by omega) (by omega) (by omega)]
    · have e : ∀ q : Int, 55 + 22 * x ≤ q → q < 77 + 22 * x → sp_begin (sp_mid s o) o st len q = s q := fun q a b => by
        rw [bn _ (by omega) (by omega) (by omega) (by omega), mk _ (by omega) (by omega) (by omega) (by omega)]
      exact ⟨(po_cg fun q a b _ => e q (by omega) b).1, (po_cg fun q a b _ => e q (by omega) b).2, e _ (by omega) (by omega)⟩
theorem end_od {s : Int → Int} (h : Inv0 s) {o : Int} (h0 : 0 ≤ o) (h1 : o < s 14) (hop : s (59 + 22 * o) ≠ 3) : OD s (sp_end s o) (if sp_shut s o then 1 else 0) := by
  have ho := inO h o h0 h1
  unfold sp_end
  by_cases z : sp_shut s o
  · rw [if_pos z, if_pos z]
    exact begin_od h h0 h1 hop (by omega) (fun a => by omega) (by rw [if_neg (by omega)])
  · rw [if_neg z, if_neg z]
    have z1 : s (59 + 22 * o) ≠ 2 := fun q => z (Or.inl q)
    have z2 : ¬ sp_mid s o (57 + 22 * o) ≤ 0 := fun q => z (Or.inr q)
    exact begin_od h h0 h1 hop (by omega) (fun a => by omega) (by rw [if_pos (by omega)])
theorem off_od {s : Int → Int} (h : Inv0 s) {o : Int} (h0 : 0 ≤ o) (h1 : o < s 14) : OD s (sp_off s o) (sp_offC s o) := by
  have hA := inA h
  unfold InvA at hA
  by_cases co : s (59 + 22 * o) ≠ 3
  · have ht := inv_tick h h0 (show o < 20 by omega)
    have t14 : sp_tick s o 14 = s 14 := tick_ne (by omega) (by omega)
    have t59 : sp_tick s o (59 + 22 * o) = s (59 + 22 * o) := tick_ne (by omega) (by omega)
    have hk : OD s (sp_tick s o) 0 := OD.cg (by omega) (by omega) h0 (fun q a b _ => tick_ne (by omega) b)
    by_cases cl : s (645 + o) - 1 ≤ 0
    · have e : sp_off s o = sp_end (sp_tick s o) o := by unfold sp_off; rw [if_pos co, if_pos cl]
      have c : sp_offC s o = if sp_shut (sp_tick s o) o then 1 else 0 := by
        unfold sp_offC
        by_cases z : sp_shut (sp_tick s o) o
        · rw [if_pos z, if_pos ⟨⟨co, cl⟩, z⟩]
        · rw [if_neg z, if_neg (fun q => z q.2)]
      have key := OD.tr t14 hk (end_od ht h0 (by omega) (by omega))
      rw [Int.zero_add] at key
      rw [e, c]
      exact key
    · rw [(off_B co cl).1, (off_B co cl).2]; exact hk
  · rw [(off_A co).1, (off_A co).2]; exact OD.rf s
theorem dayS_od {s : Int → Int} (h : Inv0 s) (hD : InvD s) : ∀ n : Nat, (n : Int) ≤ s 14 → OD s (sp_dayS s n) (sp_dayC s n)
  | 0, _ => OD.rf s
  | n + 1, hn => by
    obtain ⟨a, b, c⟩ := inv_dayS h hD n (by omega)
    exact OD.tr c (dayS_od h hD n (by omega)) (off_od a (by omega) (by omega))
theorem day_od {s : Int → Int} (h : Inv0 s) (hD : InvD s) : OD s (sp_day s) (sp_dayN s) := by
  have hA := inA h
  unfold InvA at hA
  obtain ⟨a, b, c⟩ := inv_670 h hD 1
  have key := OD.tr c (OD.cg (s := s) (t := uq s 670 1) (o := 0) (by omega) (by omega) (by omega) (fun q x _ _ => uq_ne (by omega))) (dayS_od a b (s 14).toNat (by omega))
  rw [Int.zero_add] at key
  exact key
theorem days_od {s : Int → Int} (h : Inv0 s) (hD : InvD s) : ∀ n : Nat, OD s (sp_days s n) (sp_daysN s n)
  | 0 => OD.rf s
  | n + 1 => by
    obtain ⟨a, b, c⟩ := inv_days h hD n
    exact OD.tr c (days_od h hD n) (day_od a b)
theorem pass_od {s : Int → Int} (h : Inv s) (d : Int) : OD s (nx_passDays s d) (sp_daysN s d.toNat) ∧ nx_passDays s d 14 = s 14 ∧ nx_passDays s d 18 = s 18 + d := by
  obtain ⟨a, b, c⟩ := inv_days h.1 h.2.1 d.toNat
  have hA := inA a
  unfold InvA at hA
  have e14 : nx_passDays s d 14 = sp_days s d.toNat 14 := uq_ne (by omega)
  have key := OD.tr c (days_od h.1 h.2.1 d.toNat) (OD.cg (s := sp_days s d.toNat) (t := nx_passDays s d) (o := 0) (by omega) (by omega) (by omega) (fun q _ _ x => uq_ne x))
  rw [Int.add_zero] at key
  refine ⟨key, by omega, ?_⟩
  unfold nx_passDays
  rw [uq_eq, (days_hi h.1 h.2.1 d.toNat).1]
/-! WHAT THE LAW KEEPS IN MIND: of every offer its seller (t 200 ..) and its count (t 100 ..) -/
def PJ (s t : Int → Int) : Prop := s 0 = 4 ∧ ∀ f : Int, 0 ≤ f → f < s 14 → t (200 + f) = s (55 + 22 * f) ∧ t (100 + f) = fr_tot s f ∧ (1 ≤ t (100 + f) ∧ t (100 + f) ≤ 1000) ∧ PO s f
theorem pj_cg {s u t : Int → Int} (h : PJ s t) (hn : 0 ≤ s 14) (e : ∀ q : Int, q = 0 ∨ q = 14 ∨ 55 ≤ q → u q = s q) : PJ u t := by
  refine ⟨by rw [e 0 (by omega)]; exact h.1, fun f h0 h1 => ?_⟩
  rw [e 14 (by omega)] at h1
  obtain ⟨a, b, c, d⟩ := h.2 f h0 h1
  have k := po_cg (s := s) (t := u) (x := f) fun q x y z => e q (by omega)
  exact ⟨by rw [e _ (by omega)]; exact a, by rw [k.2]; exact b, c, k.1 d⟩
theorem pj_days {s t : Int → Int} (h : PJ s t) (hI : Inv s) (d : Int) : PJ (nx_passDays s d) t := by
  obtain ⟨⟨o1, o2, o3, o4, o5, o6⟩, e14, -⟩ := pass_od hI d
  refine ⟨by rw [o4]; exact h.1, fun f h0 h1 => ?_⟩
  rw [e14] at h1
  obtain ⟨a, b, c, p⟩ := h.2 f h0 h1
  obtain ⟨k1, k2, k3⟩ := o6 f h0 h1
  exact ⟨by rw [k3]; exact a, by rw [k2]; exact b, c, k1 p⟩
theorem pj_claim {s t : Int → Int} (h : PJ s t) (hI : Inv s) {o m n : Int} (hv : ok_claim s o m n) : PJ (nx_claim s o m n) t := by
  have hA := inA hI.1
  unfold InvA at hA
  obtain ⟨⟨ho, hm, hn⟩, hc⟩ := hv
  have e : ∀ q : Int, q ≠ 65 + 22 * o + m → nx_claim s o m n q = s q := fun q hq => up_ne hq
  refine ⟨by rw [e 0 (by omega)]; exact h.1, fun f h0 h1 => ?_⟩
  rw [e 14 (by omega)] at h1
  obtain ⟨a, b, c, p1, p2, p3⟩ := h.2 f h0 h1
  refine ⟨by rw [e _ (by omega)]; exact a, ?_, c, fun w x y => by rw [e _ (by omega)]; exact p1 w x y, fun x => ?_, fun x k y z => ?_⟩
  · rw [b]; unfold fr_tot; rw [e (57 + 22 * f) (by omega), sm_cg fun w x y => e (61 + 22 * f + w) (by omega)]
  · rw [e _ (by omega)] at x ⊢; exact p2 x
  · rw [e _ (by omega)] at x
    have hf : f ≠ o := fun q => by
      rw [q] at x
      rcases hc.2 with ⟨w, _⟩ | w <;> omega
    rw [e _ (by omega)]; exact p3 x k y z
theorem pj_withdraw {s t : Int → Int} (h : PJ s t) (hI : Inv s) {o : Int} (hv : ok_withdraw s o) : PJ (nx_withdraw s o) t := by
  have hA := inA hI.1
  unfold InvA at hA
  obtain ⟨ho, hc⟩ := hv
  have e : ∀ q : Int, q ≠ 59 + 22 * o → q ≠ 60 + 22 * o → q ≠ 645 + o → ¬ (65 + 22 * o ≤ q ∧ q < 77 + 22 * o) → nx_withdraw s o q = s q := fun q a b c d => begin_ne a b c d
  refine ⟨by rw [e 0 (by omega) (by omega) (by omega) (by omega)]; exact h.1, fun f h0 h1 => ?_⟩
  rw [e 14 (by omega) (by omega) (by omega) (by omega)] at h1
  obtain ⟨a, b, c, p1, p2, p3⟩ := h.2 f h0 h1
  refine ⟨by rw [e _ (by omega) (by omega) (by omega) (by omega)]; exact a, ?_, c, fun w x y => by rw [e _ (by omega) (by omega) (by omega) (by omega)]; exact p1 w x y, fun x => ?_, fun x k y z => ?_⟩
  · rw [b]; unfold fr_tot; rw [e (57 + 22 * f) (by omega) (by omega) (by omega) (by omega), sm_cg fun w x y => e (61 + 22 * f + w) (by omega) (by omega) (by omega) (by omega)]
  · by_cases z : f = o
    · subst z; exact absurd (show nx_withdraw s f (59 + 22 * f) = 3 from if_pos rfl) x
    · rw [e _ (by omega) (by omega) (by omega) (by omega)] at x ⊢; exact p2 x
  · by_cases z2 : f = o
    · subst z2
      show sp_begin s f 3 0 _ = 0
      unfold sp_begin
      rw [if_neg (by omega), if_neg (by omega), if_neg (by omega), if_pos (by omega)]
    · rw [e _ (by omega) (by omega) (by omega) (by omega)] at x
      rw [e _ (by omega) (by omega) (by omega) (by omega)]; exact p3 x k y z
theorem pj_offer {s t : Int → Int} (h : PJ s t) (hI : Inv s) {se bu n pr : Int} (hv : ok_offer s se bu n pr) : PJ (sp_offer s se bu n pr) (up (up t (100 + s 14) n) (200 + s 14) se) ∧ sp_offer s se bu n pr 14 = s 14 + 1 ∧ sp_offer s se bu n pr (59 + 22 * s 14) = 0 ∧ sp_all (sp_offer s se bu n pr) = sp_all s ∧ sp_free (sp_offer s se bu n pr) se = sp_free s se - n := by
  have hA := inA hI.1
  unfold InvA at hA
  obtain ⟨⟨⟨hse, hbu, hne⟩, hn, hpr⟩, ⟨hfr, hpa⟩, h14⟩ := hv
  have e14 : sp_offer s se bu n pr 14 = s 14 + 1 := by unfold sp_offer; rw [begin_ne (by omega) (by omega) (by omega) (by omega), up_ne (by omega), up_ne (by omega), up_ne (by omega), up_ne (by omega), up_eq]
  have e : ∀ x : Int, x ≠ 14 → ¬ (55 + 22 * s 14 ≤ x ∧ x < 61 + 22 * s 14) → ¬ (65 + 22 * s 14 ≤ x ∧ x < 77 + 22 * s 14) → x ≠ 645 + s 14 → sp_offer s se bu n pr x = s x := fun x hx hy hz hw => by
    unfold sp_offer; rw [begin_ne (by omega) (by omega) hw hz, up_ne (by omega), up_ne (by omega), up_ne (by omega), up_ne (by omega), up_ne hx]
  have k0 : sp_offer s se bu n pr (55 + 22 * s 14) = se := by unfold sp_offer; rw [begin_ne (by omega) (by omega) (by omega) (by omega), up_ne (by omega), up_ne (by omega), up_ne (by omega), up_eq]
  have k2 : sp_offer s se bu n pr (57 + 22 * s 14) = n := by unfold sp_offer; rw [begin_ne (by omega) (by omega) (by omega) (by omega), up_ne (by omega), up_eq]
  have k4 : sp_offer s se bu n pr (59 + 22 * s 14) = 0 := by unfold sp_offer sp_begin; rw [if_pos rfl]
  have z0 : ∀ w : Int, 0 ≤ w → w < 4 → sp_offer s se bu n pr (61 + 22 * s 14 + w) = 0 := fun w a b => by
    rw [e _ (by omega) (by omega) (by omega) (by omega)]; exact inZ hI.1 (s 14) w (by omega) (by omega) a b
  have hall : sp_all (sp_offer s se bu n pr) = sp_all s := all_cg (e 0 (by omega) (by omega) (by omega) (by omega)) (e 2 (by omega) (by omega) (by omega) (by omega)) (fun x a b => e _ (by omega) (by omega) (by omega) (by omega))
  refine ⟨⟨by rw [e 0 (by omega) (by omega) (by omega) (by omega)]; exact h.1, fun f h0 h1 => ?_⟩, e14, k4, hall, ?_⟩
  · rw [e14] at h1
    by_cases z : f = s 14
    · subst z
      refine ⟨by rw [up_eq, k0], ?_, by rw [up_ne (by omega), up_eq]; exact hn, fun w a b => ?_, fun _ => by rw [k2]; omega, fun x => by rw [k4] at x; omega⟩
      · rw [up_ne (by omega), up_eq]
        unfold fr_tot
        rw [k2, sm_cg z0]
        show n = sm (fun _ => 0) 4 + n
        rw [show sm (fun _ => 0) 4 = 0 from rfl, Int.zero_add]
      · rw [z0 w a b]; omega
    · obtain ⟨a, b, c, p⟩ := h.2 f h0 (by omega)
      have k := po_cg (s := s) (t := sp_offer s se bu n pr) (x := f) fun q x y z => e q (by omega) (by omega) (by omega) (by omega)
      refine ⟨?_, ?_, ?_, k.1 p⟩
      · rw [up_ne (by omega), up_ne (by omega), e _ (by omega) (by omega) (by omega) (by omega)]; exact a
      · rw [up_ne (by omega), up_ne (by omega), k.2]; exact b
      · rw [up_ne (by omega), up_ne (by omega)]; exact c
  · have hr : sp_rem (sp_offer s se bu n pr) se = sp_rem s se + n := by
      unfold sp_rem
      rw [e14, sm_s (by omega)]
      congr 1
      · exact sm_cg fun k a b => by unfold sp_ro; rw [e _ (by omega) (by omega) (by omega) (by omega), e _ (by omega) (by omega) (by omega) (by omega), e _ (by omega) (by omega) (by omega) (by omega)]
      · unfold sp_ro
        rw [k0, k2, k4, if_pos ⟨by omega, rfl⟩]
    have hq : sp_req (sp_offer s se bu n pr) se = sp_req s se := by
      unfold sp_req
      rw [e _ (by omega) (by omega) (by omega) (by omega), e _ (by omega) (by omega) (by omega) (by omega)]
    unfold sp_free at hfr ⊢
    rw [hr, hq, e _ (by omega) (by omega) (by omega) (by omega)]
    omega
