/-! WHAT HOLDS OF A STATE -/
def InvA (s : Int → Int) : Prop := (0 ≤ s 0 ∧ s 0 ≤ 12) ∧ (100 ≤ s 1 ∧ s 1 ≤ 10000) ∧ 0 ≤ s 2 ∧ (0 ≤ s 3 ∧ s 3 ≤ 1000) ∧ (5 ≤ s 4 ∧ s 4 ≤ 100) ∧ (1 ≤ s 5 ∧ s 5 ≤ 1000) ∧ (1 ≤ s 6 ∧ s 6 ≤ 100000000) ∧ (0 ≤ s 7 ∧ s 7 ≤ 100000000) ∧ (0 ≤ s 8 ∧ s 8 ≤ 100000000) ∧ (0 ≤ s 9 ∧ s 9 ≤ 3) ∧ (1 ≤ s 13 ∧ s 13 ≤ 10) ∧ (0 ≤ s 14 ∧ s 14 ≤ 20) ∧ (0 ≤ s 15 ∧ s 15 ≤ 10) ∧ (0 ≤ s 16 ∧ s 16 ≤ 3) ∧ (0 ≤ s 17 ∧ s 17 ≤ 100)
def InvS (s : Int → Int) : Prop := ∀ k : Int, 0 ≤ k → k < 3 → -1000000 ≤ s (10 + k) ∧ s (10 + k) ≤ 1000000
def InvM (s : Int → Int) : Prop := ∀ m : Int, 0 ≤ m → m < 12 → 0 ≤ s (19 + 3 * m) ∧ 0 ≤ s (20 + 3 * m) ∧ s (20 + 3 * m) ≤ 1000000 ∧ (s 0 ≤ m → s (19 + 3 * m) = 0)
def InvO (s : Int → Int) : Prop := ∀ o : Int, 0 ≤ o → o < s 14 → (0 ≤ s (55 + 22 * o) ∧ s (55 + 22 * o) < s 0) ∧ (0 ≤ s (56 + 22 * o) ∧ s (56 + 22 * o) < s 0) ∧ s (55 + 22 * o) ≠ s (56 + 22 * o) ∧ (0 ≤ s (57 + 22 * o) ∧ s (57 + 22 * o) ≤ 1000) ∧ (1 ≤ s (58 + 22 * o) ∧ s (58 + 22 * o) ≤ 100000) ∧ (0 ≤ s (59 + 22 * o) ∧ s (59 + 22 * o) ≤ 3)
def InvZ (s : Int → Int) : Prop := ∀ o w : Int, s 14 ≤ o → o < 20 → 0 ≤ w → w < 4 → s (61 + 22 * o + w) = 0
def InvC (s : Int → Int) : Prop := ∀ o k : Int, 0 ≤ o → o < 20 → 0 ≤ k → k < 12 → 0 ≤ s (65 + 22 * o + k) ∧ s (65 + 22 * o + k) ≤ 1000 ∧ (s 0 ≤ k → s (65 + 22 * o + k) = 0)
def okKind (k v : Int) : Prop := (k = 0 ∧ 1 ≤ v ∧ v ≤ 1000) ∨ (k = 1 ∧ 5 ≤ v ∧ v ≤ 100) ∨ (k = 2 ∧ 1 ≤ v ∧ v ≤ 10) ∨ (k = 3 ∧ 1 ≤ v ∧ v ≤ 1000) ∨ (k = 4 ∧ 1 ≤ v ∧ v ≤ 100)
def InvQ (s : Int → Int) : Prop := ∀ q : Int, 0 ≤ q → q < s 15 → (0 ≤ s (497 + 15 * q) ∧ s (497 + 15 * q) ≤ 2) ∧ okKind (s (495 + 15 * q)) (s (496 + 15 * q))
def InvV (s : Int → Int) : Prop := ∀ q k : Int, 0 ≤ q → q < 10 → 0 ≤ k → k < 12 → 0 ≤ s (498 + 15 * q + k) ∧ s (498 + 15 * q + k) ≤ 2 ∧ (s 15 ≤ q → s (498 + 15 * q + k) = 0)
def InvB (s : Int → Int) : Prop := ∀ m : Int, 0 ≤ m → m < 12 → sp_rem s m ≤ s (19 + 3 * m)
def InvD (s : Int → Int) : Prop := ∀ o : Int, 0 ≤ o → o < s 14 → s (59 + 22 * o) ≠ 3 → (1 ≤ s (645 + o) ∧ s (645 + o) ≤ 10) ∧ s (60 + 22 * o) = s (645 + o)
def Inv0 (s : Int → Int) : Prop := InvA s ∧ InvS s ∧ InvM s ∧ sp_all s ≤ 10000 ∧ InvO s ∧ InvZ s ∧ InvC s ∧ InvQ s ∧ InvV s ∧ InvB s
def Inv (s : Int → Int) : Prop := Inv0 s ∧ InvD s ∧ s 18 = s 670
theorem inA {s : Int → Int} (h : Inv0 s) : InvA s := h.1
theorem inS {s : Int → Int} (h : Inv0 s) : InvS s := h.2.1
theorem inMm {s : Int → Int} (h : Inv0 s) : InvM s := h.2.2.1
theorem inO {s : Int → Int} (h : Inv0 s) : InvO s := h.2.2.2.2.1
theorem inZ {s : Int → Int} (h : Inv0 s) : InvZ s := h.2.2.2.2.2.1
theorem inC {s : Int → Int} (h : Inv0 s) : InvC s := h.2.2.2.2.2.2.1
theorem inQ {s : Int → Int} (h : Inv0 s) : InvQ s := h.2.2.2.2.2.2.2.1
theorem inV {s : Int → Int} (h : Inv0 s) : InvV s := h.2.2.2.2.2.2.2.2.1
theorem inB {s : Int → Int} (h : Inv0 s) : InvB s := h.2.2.2.2.2.2.2.2.2
theorem inT {s : Int → Int} (h : Inv0 s) : 0 ≤ sp_all s ∧ sp_all s ≤ 10000 := by
  refine ⟨?_, h.2.2.2.1⟩
  have hA := inA h
  unfold InvA at hA
  have h1 : 0 ≤ sm (fun k => s (19 + 3 * k)) (s 0) := sm_nn fun k h1 h2 => (inMm h k h1 (by omega)).1
  unfold sp_all
  omega
theorem inM {s : Int → Int} (h : Inv0 s) {m : Int} (h0 : 0 ≤ m) (h1 : m < 12) : (0 ≤ s (19 + 3 * m) ∧ s (19 + 3 * m) ≤ 10000) ∧ (0 ≤ s (20 + 3 * m) ∧ s (20 + 3 * m) ≤ 1000000) := by
  have hm := inMm h m h0 h1
  have hA := inA h
  unfold InvA at hA
  have hT := inT h
  refine ⟨⟨hm.1, ?_⟩, hm.2.1, hm.2.2.1⟩
  by_cases e : m < s 0
  · have h2 := sm_mem (f := fun k => s (19 + 3 * k)) h0 e (fun k h1 h2 => (inMm h k h1 (by omega)).1)
    unfold sp_all at hT
    omega
  · have := hm.2.2.2 (by omega)
    omega
theorem inTr {s : Int → Int} (h : Inv0 s) : 0 ≤ s 2 ∧ s 2 ≤ 10000 := by
  have hA := inA h
  unfold InvA at hA
  have hT := inT h
  have h1 : 0 ≤ sm (fun k => s (19 + 3 * k)) (s 0) := sm_nn fun k h1 h2 => (inMm h k h1 (by omega)).1
  unfold sp_all at hT
  omega
/-- what remains of a seller's offers, over the first n, in bounds -/
theorem ro_b {s : Int → Int} (h : Inv0 s) (m : Int) {k : Int} (h1 : 0 ≤ k) (h2 : k < s 14) : 0 ≤ sp_ro s m k ∧ sp_ro s m k ≤ 1000 := by
  have := inO h k h1 h2
  unfold sp_ro
  split <;> omega
theorem rem_b {s : Int → Int} (h : Inv0 s) (m : Int) : 0 ≤ sp_rem s m ∧ sp_rem s m ≤ 20000 := by
  have hA := inA h
  unfold InvA at hA
  have h1 := sm_b (f := sp_ro s m) (n := s 14) (a := 0) (b := 1000) (by omega) (fun k h1 h2 => ro_b h m h1 h2)
  unfold sp_rem
  omega
theorem req_b {s : Int → Int} (h : Inv0 s) {m : Int} (h0 : 0 ≤ m) (h1 : m < 12) : 0 ≤ sp_req s m ∧ sp_req s m ≤ 1010000 := by
  have hA := inA h
  unfold InvA at hA
  have hm := inM h h0 h1
  unfold sp_req
  constructor
  · exact Int.ediv_nonneg (by omega) (by omega)
  · exact Int.le_trans (Int.ediv_le_self _ (by omega)) (by omega)
theorem room_b {s : Int → Int} (h : Inv0 s) {m : Int} (h0 : 0 ≤ m) (h1 : m < 12) : (0 ≤ sp_all s * s 4 ∧ sp_all s * s 4 ≤ 1000000) ∧ (0 ≤ sp_all s * s 4 / 100 ∧ sp_all s * s 4 / 100 ≤ 10000) ∧ 0 ≤ sp_room s m ∧ sp_room s m ≤ 10000 := by
  have hA := inA h
  unfold InvA at hA
  have hT := inT h
  have hm := inM h h0 h1
  have h2 := zx_mul (a := sp_all s) (b := s 4) (A := 10000) (B := 100) hT.1 hT.2 (by omega) (by omega)
  unfold sp_room
  omega
theorem rtl_b : ∀ (f : Nat) (k n : Int), 0 ≤ k → k * k ≤ n → n ≤ 10000 → 0 ≤ rtl f k n ∧ rtl f k n ≤ 100
  | 0, k, n, h0, h1, h2 => by
    unfold rtl
    refine ⟨h0, ?_⟩
    rcases Int.lt_or_le 100 k with q | q
    · have := Int.mul_le_mul (show (101 : Int) ≤ k by omega) (show (101 : Int) ≤ k by omega) (by omega) h0
      omega
    · exact q
  | f + 1, k, n, h0, h1, h2 => by
    unfold rtl
    split
    · rename_i h3
      exact rtl_b f (k + 1) n (by omega) h3 h2
    · refine ⟨h0, ?_⟩
      rcases Int.lt_or_le 100 k with q | q
      · have := Int.mul_le_mul (show (101 : Int) ≤ k by omega) (show (101 : Int) ≤ k by omega) (by omega) h0
        omega
      · exact q
theorem root_b {n : Int} (h : 0 ≤ n) (h2 : n ≤ 10000) : 0 ≤ sp_root n ∧ sp_root n ≤ 100 := rtl_b 10000 0 n (Int.le_refl 0) (by omega) h2
theorem votes_b {s : Int → Int} (h : Inv0 s) {m : Int} (h0 : 0 ≤ m) (h1 : m < 12) : 0 ≤ sp_votes s m ∧ sp_votes s m ≤ 10000 := by
  have hm := inM h h0 h1
  have hr := root_b hm.1.1 hm.1.2
  unfold sp_votes
  (repeat' split) <;> omega
theorem sum_b {s : Int → Int} (h : Inv0 s) (q b : Int) : 0 ≤ sp_sum s q b ∧ sp_sum s q b ≤ 120000 := by
  have hA := inA h
  unfold InvA at hA
  have h1 := sm_b (f := sp_vf s q b) (n := s 0) (a := 0) (b := 10000) (by omega) (fun k h1 h2 => by
    have := votes_b h h1 (show k < 12 by omega)
    unfold sp_vf
    split <;> omega)
  unfold sp_sum
  omega
theorem dem_b {s : Int → Int} (h : Inv0 s) {o k : Int} (h0 : 0 ≤ o) (h1 : o < 20) (h2 : 0 ≤ k) (h3 : k < 12) : 0 ≤ sp_dem s o k ∧ sp_dem s o k ≤ 1000 := by
  have hc := inC h o k h0 h1 h2 h3
  have hr := room_b h h2 h3
  unfold sp_dem
  omega
theorem mean_b {s : Int → Int} (h : Inv0 s) : -1000000 ≤ sp_mean s ∧ sp_mean s ≤ 1000000 := by
  have hA := inA h
  unfold InvA at hA
  have h1 := sm_b (f := fun k => s (10 + k)) (n := s 9) (a := -1000000) (b := 1000000) (by omega) (fun k h1 h2 => inS h k h1 (by omega))
  unfold sp_mean
  rcases (show s 9 = 0 ∨ s 9 = 1 ∨ s 9 = 2 ∨ s 9 = 3 by omega) with e | e | e | e <;> rw [e] at h1 ⊢ <;> omega
