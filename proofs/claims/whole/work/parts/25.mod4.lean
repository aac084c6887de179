theorem sells_A {s : Int → Int} {o w n pr : Int} : uq (uq (uq (uq (uq s (19 + 3 * s (55 + 22 * o)) (-n)) (21 + 3 * s (55 + 22 * o)) (n * pr)) 2 n) (57 + 22 * o) (-n)) (61 + 22 * o + w) n = sp_take (uq s 2 n) o w n pr := by
  unfold sp_take
  rw [uq_ne (show 55 + 22 * o ≠ 2 by omega), uq_sw _ (21 + 3 * s (55 + 22 * o)) 2, uq_sw _ (19 + 3 * s (55 + 22 * o)) 2, Int.mul_comm n pr]
theorem sells_B {s : Int → Int} {o w m n pr : Int} (ho : 0 ≤ o) (hm : 0 ≤ m ∧ m < 12) : uq (uq (uq (uq (uq (uq s (19 + 3 * s (55 + 22 * o)) (-n)) (21 + 3 * s (55 + 22 * o)) (n * pr)) (19 + 3 * m) n) (21 + 3 * m) (-(n * pr))) (57 + 22 * o) (-n)) (61 + 22 * o + w) n = sp_sell s o w m n pr := by
  unfold sp_sell sp_take
  have e : sp_buy s m n pr (55 + 22 * o) = s (55 + 22 * o) := by
    unfold sp_buy
    rw [uq_ne (by omega), uq_ne (by omega)]
  rw [e]
  unfold sp_buy
  rw [uq_sw _ (21 + 3 * s (55 + 22 * o)) (19 + 3 * m), uq_sw _ (19 + 3 * s (55 + 22 * o)) (19 + 3 * m), uq_sw _ (21 + 3 * s (55 + 22 * o)) (21 + 3 * m), uq_sw _ (19 + 3 * s (55 + 22 * o)) (21 + 3 * m), Int.mul_comm n pr]
/-- the model's way to hand out: it stops at a rest of 0 -/
def hn8 : Nat → (Int → Int) → (Int → Int) → (Int → Int)
  | 0, g, _ => g
  | n + 1, g, r => if 0 < r (bst r 11) then hn8 n (up g (bst r 11) (g (bst r 11) + 1)) (up r (bst r 11) 0) else g
theorem hn8_e {n : Nat} {g r : Int → Int} (h : n = 0 ∨ ¬ 0 < r (bst r 11)) : hn8 n g r = g := by
  cases n with
  | zero => rfl
  | succ n =>
    unfold hn8
    rcases h with h | h
    · cases h
    · rw [if_neg h]
theorem hn8_cg : ∀ {n : Nat} {g g2 r r2 : Int → Int}, (∀ k : Int, 0 ≤ k → k < 12 → g k = g2 k) → (∀ k : Int, 0 ≤ k → k < 12 → r k = r2 k) → ∀ k : Int, 0 ≤ k → k < 12 → hn8 n g r k = hn8 n g2 r2 k
  | 0, _, _, _, _, h, _, k, h0, h1 => h k h0 h1
  | n + 1, g, g2, r, r2, h, h2, k, h0, h1 => by
    have e : bst r 11 = bst r2 11 := bst_cg fun k h3 h4 => h2 k h3 (by omega)
    have hb := bst_b r2 11
    unfold hn8
    rw [e, h2 _ hb.1 (by omega)]
    split
    · refine hn8_cg (fun j h3 h4 => ?_) (fun j h3 h4 => ?_) k h0 h1
      · unfold up; split
        · rw [h _ hb.1 (by omega)]
        · exact h j h3 h4
      · unfold up; split
        · rfl
        · exact h2 j h3 h4
    · exact h k h0 h1
theorem hn8_eq {A : Int} (hA : 0 < A) : ∀ (n : Nat) (g r : Int → Int), (∀ k : Int, 0 ≤ k → k < 12 → r k < A) → (n : Int) * A ≤ sm (fun k => max (r k) 0) 12 → hn8 n g r = hnd 0 n g r
  | 0, _, _, _, _ => rfl
  | n + 1, g, r, hr, hs => by
    have hb := bst_b r 11
    have e : ((n + 1 : Nat) : Int) * A = n * A + A := by rw [show ((n + 1 : Nat) : Int) = (n : Int) + 1 from rfl, Int.add_mul, Int.one_mul]
    have hnA : 0 ≤ (n : Int) * A := Int.mul_nonneg (by omega) (by omega)
    have hp := pos_ex (r := r) (by omega)
    have hbA := hr _ hb.1 (by omega)
    unfold hn8 hnd
    rw [if_pos hp]
    exact hn8_eq hA n _ _ (fun j h2 h3 => by
      unfold up; split
      · omega
      · exact hr j h2 h3) (by rw [pos_up hb.1 (by omega) (Int.le_refl 0) hp]; omega)
theorem hn8_s {l : Int} {g r : Int → Int} (hl : 0 < l) (h : 0 < r (bst r 11)) : hn8 l.toNat g r = hn8 (l - 1).toNat (up g (bst r 11) (g (bst r 11) + 1)) (up r (bst r 11) 0) := by
  rw [show l.toNat = (l - 1).toNat + 1 by omega]
  show (if 0 < r (bst r 11) then _ else _) = _
  rw [if_pos h]
def pq8 (d : Int → Int) (w : Int) : Int → Int := fun k => if sm d 12 ≤ w then d k else sp_quo d w k
def pt8 (d : Int → Int) (w : Int) : Int → Int := fun k => if sm d 12 ≤ w then 0 else sp_rst d w k
theorem pq8_b {d : Int → Int} {w : Int} (hd : ∀ k : Int, 0 ≤ k → k < 12 → 0 ≤ d k ∧ d k ≤ 1000) (hw : 0 ≤ w ∧ w ≤ 1000) {k : Int} (h0 : 0 ≤ k) (h1 : k < 12) : (0 ≤ pq8 d w k ∧ pq8 d w k ≤ 1000000) ∧ 0 ≤ pt8 d w k ∧ pt8 d w k ≤ 12000 := by
  have hs := sm_b (f := d) (n := 12) (a := 0) (b := 1000) (by omega) hd
  have h2 := hd k h0 h1
  unfold pq8 pt8
  split
  · omega
  · have := quo_b hd hw (by omega) h0 h1
    omega
theorem pt8_go {d : Int → Int} {w : Int} (hd : ∀ k : Int, 0 ≤ k → k < 12 → 0 ≤ d k ∧ d k ≤ 1000) (hw : 0 ≤ w ∧ w ≤ 1000) : (0 ≤ w - sm (pq8 d w) 12 ∧ w - sm (pq8 d w) 12 ≤ 1000) ∧ ∀ k : Int, 0 ≤ k → k < 12 → hn8 (w - sm (pq8 d w) 12).toNat (pq8 d w) (pt8 d w) k = sp_gets d w k := by
  have hs := sm_b (f := d) (n := 12) (a := 0) (b := 1000) (by omega) hd
  by_cases c : sm d 12 ≤ w
  · have e1 : pq8 d w = d := by funext k; unfold pq8; rw [if_pos c]
    have e2 : pt8 d w = fun _ => 0 := by funext k; unfold pt8; rw [if_pos c]
    rw [e1, e2]
    refine ⟨by omega, fun k h0 h1 => ?_⟩
    unfold sp_gets
    rw [if_pos c, hn8_e (Or.inr (by omega))]
  · have e1 : pq8 d w = sp_quo d w := by funext k; unfold pq8; rw [if_neg c]
    have e2 : pt8 d w = sp_rst d w := by funext k; unfold pt8; rw [if_neg c]
    rw [e1, e2]
    have hl := left_b hd hw (by omega)
    unfold sp_left at hl
    refine ⟨by omega, fun k h0 h1 => ?_⟩
    rw [gets_0 hd hw (by omega)]
    rw [show w - sm (sp_quo d w) 12 = sp_left d w from rfl, hn8_eq (A := sm d 12) (by omega) _ _ _ (fun j h2 h3 => (quo_b hd hw (by omega) h2 h3).2.2.1.2) (rst_pos hd hw (by omega))]
theorem dX8_does_0 : decode cX8_does 0 = .ok (.aload_n 0, 1) := by decide +kernel
theorem dX8_does_1 : decode cX8_does 1 = .ok (.getfield 7, 3) := by decide +kernel
theorem dX8_does_4 : decode cX8_does 4 = .ok (.iload_n 1, 1) := by decide +kernel
theorem dX8_does_5 : decode cX8_does 5 = .ok (.iconst 1, 1) := by decide +kernel
theorem dX8_does_6 : decode cX8_does 6 = .ok (.invokestatic 152, 3) := by decide +kernel
theorem dX8_does_9 : decode cX8_does 9 = .ok (.laload, 1) := by decide +kernel
theorem dX8_does_10 : decode cX8_does 10 = .ok (.lstore_n 2, 1) := by decide +kernel
theorem dX8_does_11 : decode cX8_does 11 = .ok (.aload_n 0, 1) := by decide +kernel
theorem dX8_does_12 : decode cX8_does 12 = .ok (.getfield 7, 3) := by decide +kernel
theorem dX8_does_15 : decode cX8_does 15 = .ok (.iload_n 1, 1) := by decide +kernel
theorem dX8_does_16 : decode cX8_does 16 = .ok (.iconst 0, 1) := by decide +kernel
theorem dX8_does_17 : decode cX8_does 17 = .ok (.invokestatic 152, 3) := by decide +kernel
theorem dX8_does_20 : decode cX8_does 20 = .ok (.laload, 1) := by decide +kernel
theorem dX8_does_21 : decode cX8_does 21 = .ok (.l2i, 1) := by decide +kernel
theorem dX8_does_22 : decode cX8_does 22 = .ok (.tableswitch 83 0 3 #[30, 40, 50, 61], 30) := by decide +kernel
theorem dX8_does_52 : decode cX8_does 52 = .ok (.aload_n 0, 1) := by decide +kernel
theorem dX8_does_53 : decode cX8_does 53 = .ok (.getfield 7, 3) := by decide +kernel
theorem dX8_does_56 : decode cX8_does 56 = .ok (.iconst 5, 1) := by decide +kernel
theorem dX8_does_57 : decode cX8_does 57 = .ok (.lload_n 2, 1) := by decide +kernel
theorem dX8_does_58 : decode cX8_does 58 = .ok (.lastore, 1) := by decide +kernel
theorem dX8_does_59 : decode cX8_does 59 = .ok (.goto 106, 3) := by decide +kernel
theorem dX8_does_62 : decode cX8_does 62 = .ok (.aload_n 0, 1) := by decide +kernel
theorem dX8_does_63 : decode cX8_does 63 = .ok (.getfield 7, 3) := by decide +kernel
theorem dX8_does_66 : decode cX8_does 66 = .ok (.iconst 4, 1) := by decide +kernel
theorem dX8_does_67 : decode cX8_does 67 = .ok (.lload_n 2, 1) := by decide +kernel
theorem dX8_does_68 : decode cX8_does 68 = .ok (.lastore, 1) := by decide +kernel
theorem dX8_does_69 : decode cX8_does 69 = .ok (.goto 96, 3) := by decide +kernel
theorem dX8_does_72 : decode cX8_does 72 = .ok (.aload_n 0, 1) := by decide +kernel
theorem dX8_does_73 : decode cX8_does 73 = .ok (.getfield 7, 3) := by decide +kernel
theorem dX8_does_76 : decode cX8_does 76 = .ok (.bipush 13, 2) := by decide +kernel
theorem dX8_does_78 : decode cX8_does 78 = .ok (.lload_n 2, 1) := by decide +kernel
theorem dX8_does_79 : decode cX8_does 79 = .ok (.lastore, 1) := by decide +kernel
theorem dX8_does_80 : decode cX8_does 80 = .ok (.goto 85, 3) := by decide +kernel
theorem dX8_does_83 : decode cX8_does 83 = .ok (.aload_n 0, 1) := by decide +kernel
theorem dX8_does_84 : decode cX8_does 84 = .ok (.getfield 7, 3) := by decide +kernel
theorem dX8_does_87 : decode cX8_does 87 = .ok (.iconst 2, 1) := by decide +kernel
theorem dX8_does_88 : decode cX8_does 88 = .ok (.dup2, 1) := by decide +kernel
theorem dX8_does_89 : decode cX8_does 89 = .ok (.laload, 1) := by decide +kernel
theorem dX8_does_90 : decode cX8_does 90 = .ok (.lload_n 2, 1) := by decide +kernel
theorem dX8_does_91 : decode cX8_does 91 = .ok (.aload_n 0, 1) := by decide +kernel
theorem dX8_does_92 : decode cX8_does 92 = .ok (.getfield 7, 3) := by decide +kernel
theorem dX8_does_95 : decode cX8_does 95 = .ok (.iconst 2, 1) := by decide +kernel
theorem dX8_does_96 : decode cX8_does 96 = .ok (.laload, 1) := by decide +kernel
theorem dX8_does_97 : decode cX8_does 97 = .ok (.invokestatic 125, 3) := by decide +kernel
theorem dX8_does_100 : decode cX8_does 100 = .ok (.lsub, 1) := by decide +kernel
theorem dX8_does_101 : decode cX8_does 101 = .ok (.lastore, 1) := by decide +kernel
theorem dX8_does_102 : decode cX8_does 102 = .ok (.goto 63, 3) := by decide +kernel
theorem dX8_does_105 : decode cX8_does 105 = .ok (.iconst 0, 1) := by decide +kernel
theorem dX8_does_106 : decode cX8_does 106 = .ok (.istore 4, 2) := by decide +kernel
theorem dX8_does_108 : decode cX8_does 108 = .ok (.iload 4, 2) := by decide +kernel
theorem dX8_does_110 : decode cX8_does 110 = .ok (.i2l, 1) := by decide +kernel
theorem dX8_does_111 : decode cX8_does 111 = .ok (.aload_n 0, 1) := by decide +kernel
theorem dX8_does_112 : decode cX8_does 112 = .ok (.getfield 7, 3) := by decide +kernel
theorem dX8_does_115 : decode cX8_does 115 = .ok (.iconst 0, 1) := by decide +kernel
theorem dX8_does_116 : decode cX8_does 116 = .ok (.laload, 1) := by decide +kernel
theorem dX8_does_117 : decode cX8_does 117 = .ok (.lcmp, 1) := by decide +kernel
theorem dX8_does_118 : decode cX8_does 118 = .ok (.ifCond .ge 47, 3) := by decide +kernel
theorem dX8_does_121 : decode cX8_does 121 = .ok (.aload_n 0, 1) := by decide +kernel
theorem dX8_does_122 : decode cX8_does 122 = .ok (.getfield 7, 3) := by decide +kernel
theorem dX8_does_125 : decode cX8_does 125 = .ok (.iload 4, 2) := by decide +kernel
theorem dX8_does_127 : decode cX8_does 127 = .ok (.iconst 2, 1) := by decide +kernel
theorem dX8_does_128 : decode cX8_does 128 = .ok (.invokestatic 46, 3) := by decide +kernel
theorem dX8_does_131 : decode cX8_does 131 = .ok (.dup2, 1) := by decide +kernel
theorem dX8_does_132 : decode cX8_does 132 = .ok (.laload, 1) := by decide +kernel
theorem dX8_does_133 : decode cX8_does 133 = .ok (.aload_n 0, 1) := by decide +kernel
theorem dX8_does_134 : decode cX8_does 134 = .ok (.getfield 7, 3) := by decide +kernel
theorem dX8_does_137 : decode cX8_does 137 = .ok (.iload 4, 2) := by decide +kernel
theorem dX8_does_139 : decode cX8_does 139 = .ok (.iconst 0, 1) := by decide +kernel
theorem dX8_does_140 : decode cX8_does 140 = .ok (.invokestatic 46, 3) := by decide +kernel
theorem dX8_does_143 : decode cX8_does 143 = .ok (.laload, 1) := by decide +kernel
theorem dX8_does_144 : decode cX8_does 144 = .ok (.aload_n 0, 1) := by decide +kernel
theorem dX8_does_145 : decode cX8_does 145 = .ok (.getfield 7, 3) := by decide +kernel
theorem dX8_does_148 : decode cX8_does 148 = .ok (.iconst 5, 1) := by decide +kernel
theorem dX8_does_149 : decode cX8_does 149 = .ok (.laload, 1) := by decide +kernel
theorem dX8_does_150 : decode cX8_does 150 = .ok (.lmul, 1) := by decide +kernel
theorem dX8_does_151 : decode cX8_does 151 = .ok (.lload_n 2, 1) := by decide +kernel
theorem dX8_does_152 : decode cX8_does 152 = .ok (.lmul, 1) := by decide +kernel
theorem dX8_does_153 : decode cX8_does 153 = .ok (.ldc2_w 31, 3) := by decide +kernel
theorem dX8_does_156 : decode cX8_does 156 = .ok (.ldiv, 1) := by decide +kernel
theorem dX8_does_157 : decode cX8_does 157 = .ok (.ladd, 1) := by decide +kernel
theorem dX8_does_158 : decode cX8_does 158 = .ok (.lastore, 1) := by decide +kernel
theorem dX8_does_159 : decode cX8_does 159 = .ok (.iinc 4 1, 3) := by decide +kernel
theorem dX8_does_162 : decode cX8_does 162 = .ok (.goto (-54), 3) := by decide +kernel
theorem dX8_does_165 : decode cX8_does 165 = .ok (.return_, 1) := by decide +kernel
theorem hy_X8_does : yX8_does.cls ≠ "java/lang/invoke/MethodHandle" ∧ yX8_does.cls ≠ "java/lang/invoke/VarHandle" ∧ (parseMethodDescriptor yX8_does.desc).map (fun d => d.parameters.length) = some 1 := ⟨by decide +kernel, by decide +kernel, by decide +kernel⟩
set_option maxHeartbeats 4000000 in
set_option maxRecDepth 100000 in
theorem lp_X8_does {E : zE} {l0 : Launch} {D0 : va_G} {cI0 cJ0 : ClassId} {ad : Nat → Nat → Nat} (hE : zG E l0 D0 cI0 cJ0 ad cX8_does 5 RX8 1 23) (S : zM) (q : Int) (hI : Inv0 (S 7)) (h0 : 0 ≤ q ∧ q < 10) (hk : okKind (S 7 (495 + 15 * q)) (S 7 (496 + 15 * q))) (hR : zR E none none (fun X => X = (us S 7 (sp_does (S 7) (S 7 (495 + 15 * q)) (S 7 (496 + 15 * q)))))) : ∀ (fuel : Nat) (i : Int) (hx4 : S 7 (495 + 15 * q) = 4) (h9 : 0 ≤ i ∧ i ≤ S 7 0), (S 7 0 - i).toNat < fuel → Z E (us S 7 (sp_divi (S 7 (496 + 15 * q)) (S 7) i.toNat)) 108 [(4, .int (i32 i)), (2, .long (i64 (S 7 (496 + 15 * q)))), (0, .ref (ad 6 27)), (1, .int (i32 q))] [] := by
  intro fuel
  induction fuel with
  | zero => intro _ _ _ hz; omega
  | succ fuel ih =>
    intro i hx4 h9 hz
    have h67 : (6 : Nat) ≠ 7 := by decide
    have h76 : (7 : Nat) ≠ 6 := by decide
    have h68 : (6 : Nat) ≠ 8 := by decide
    have h86 : (8 : Nat) ≠ 6 := by decide
    have h78 : (7 : Nat) ≠ 8 := by decide
    have h87 : (8 : Nat) ≠ 7 := by decide
    have hA := inA hI
    unfold InvA at hA
    have hk9 := hk
    unfold okKind at hk9
    have ht := inTr hI
    refine z_iload hE 0 rfl dX8_does_108 ?_
    refine z_i2l hE ⟨by omega, by omega⟩ dX8_does_110 ?_
    refine z_aload_n hE 2 rfl rfl dX8_does_111 ?_
    refine gf_8_0 hE (by decide) zf_X8_7 dX8_does_112 ?_
    refine z_iconst hE dX8_does_115 ?_
    refine al_28 hE (by decide) (by omega) (by omega) dX8_does_116 ?_
    try simp only [us_eq, us_us, us_ne h67, us_ne h76, us_ne h68, us_ne h86, us_ne h78, us_ne h87, us_in h67, us_in h76]
    rw [divi_ne (fun k h1 h2 => by omega)]
    refine z_lcmp hE ⟨by omega, by omega⟩ ⟨by omega, by omega⟩ dX8_does_117 ?_
    refine z_ifl_ge (tgt := 165) hE dX8_does_118 (by decide) (fun c1 => ?_) (fun c1 => ?_)
    · exact z_vret hE hR dX8_does_165 rfl (by unfold sp_does; first | (rw [if_pos (by omega)]; done) | (rw [if_neg (by omega), if_pos (by omega)]; done) | (rw [if_neg (by omega), if_neg (by omega), if_pos (by omega)]; done) | (rw [if_neg (by omega), if_neg (by omega), if_neg (by omega), if_pos (by omega), uq_sub]; done) | (rw [if_neg (by omega), if_neg (by omega), if_neg (by omega), if_neg (by omega), show i = S 7 0 by omega]; done))
    · have hm := inM hI h9.1 (show i < 12 by omega)
      have hx := zx_mul (a := S 7 (19 + 3 * i)) (b := S 7 5) (A := 10000) (B := 1000) (by omega) (by omega) (by omega) (by omega)
      have hy := zx_mul (a := S 7 (19 + 3 * i) * S 7 5) (b := S 7 (496 + 15 * q)) (A := 10000000) (B := 100) (by omega) (by omega) (by omega) (by omega)
      refine z_aload_n hE 2 rfl rfl dX8_does_121 ?_
      refine gf_8_0 hE (by decide) zf_X8_7 dX8_does_122 ?_
      refine z_iload hE 0 rfl dX8_does_125 ?_
      refine z_iconst hE dX8_does_127 ?_
      refine z_callS hE (c_X8_m l0 D0 cI0 cJ0 ad (us S 7 (sp_divi (S 7 (496 + 15 * q)) (S 7) i.toNat)) i 2 (21 + 3 * i) (by first | omega | (simp only [us_eq, us_ne h67, us_ne h76, us_ne h68, us_ne h86, us_ne h78, us_ne h87]; omega))) zm_X8_46 zt_yX8_m zn_RX8 zc_yX8_m (hy_X8_m) (Nat.le_of_ble_eq_true rfl) (Nat.le_of_ble_eq_true rfl) rfl rfl rfl (Nat.le_of_ble_eq_true rfl) dX8_does_128 ?_
      try simp only [us_eq, us_us, us_ne h67, us_ne h76, us_ne h68, us_ne h86, us_ne h78, us_ne h87, us_in h67, us_in h76]
      refine z_dup2 hE rfl rfl dX8_does_131 ?_
      refine al_28 hE (by decide) (by omega) (by omega) dX8_does_132 ?_
      try simp only [us_eq, us_us, us_ne h67, us_ne h76, us_ne h68, us_ne h86, us_ne h78, us_ne h87, us_in h67, us_in h76]
      refine z_aload_n hE 2 rfl rfl dX8_does_133 ?_
      refine gf_8_0 hE (by decide) zf_X8_7 dX8_does_134 ?_
      refine z_iload hE 0 rfl dX8_does_137 ?_
      refine z_iconst hE dX8_does_139 ?_
      refine z_callS hE (c_X8_m l0 D0 cI0 cJ0 ad (us S 7 (sp_divi (S 7 (496 + 15 * q)) (S 7) i.toNat)) i 0 (19 + 3 * i) (by first | omega | (simp only [us_eq, us_ne h67, us_ne h76, us_ne h68, us_ne h86, us_ne h78, us_ne h87]; omega))) zm_X8_46 zt_yX8_m zn_RX8 zc_yX8_m (hy_X8_m) (Nat.le_of_ble_eq_true rfl) (Nat.le_of_ble_eq_true rfl) rfl rfl rfl (Nat.le_of_ble_eq_true rfl) dX8_does_140 ?_
      try simp only [us_eq, us_us, us_ne h67, us_ne h76, us_ne h68, us_ne h86, us_ne h78, us_ne h87, us_in h67, us_in h76]
      refine al_28 hE (by decide) (by omega) (by omega) dX8_does_143 ?_
      try simp only [us_eq, us_us, us_ne h67, us_ne h76, us_ne h68, us_ne h86, us_ne h78, us_ne h87, us_in h67, us_in h76]
      rw [divi_ne (fun k h1 h2 => by omega)]
      refine z_aload_n hE 2 rfl rfl dX8_does_144 ?_
      refine gf_8_0 hE (by decide) zf_X8_7 dX8_does_145 ?_
      refine z_iconst hE dX8_does_148 ?_
      refine al_28 hE (by decide) (by omega) (by omega) dX8_does_149 ?_
      try simp only [us_eq, us_us, us_ne h67, us_ne h76, us_ne h68, us_ne h86, us_ne h78, us_ne h87, us_in h67, us_in h76]
      rw [divi_ne (fun k h1 h2 => by omega)]
      refine z_lmul hE dX8_does_150 ?_
      refine z_lload_n hE 1 rfl rfl dX8_does_151 ?_
      refine z_lmul hE dX8_does_152 ?_
      refine z_ldc2 (a := 100) hE zl_X8_31 (by decide) dX8_does_153 ?_
      refine z_ldiv hE ⟨by omega, by omega⟩ ⟨by omega, by omega⟩ (by omega) dX8_does_156 ?_
      rw [zx_tdiv (show 0 ≤ ((S 7 (19 + 3 * i)) * (S 7 5)) * (S 7 (496 + 15 * q)) by omega)]
      refine z_ladd hE dX8_does_157 ?_
      refine as_28 hE (by decide) (by omega) (by omega) dX8_does_158 ?_
      try simp only [us_eq, us_us, us_ne h67, us_ne h76, us_ne h68, us_ne h86, us_ne h78, us_ne h87, us_in h67, us_in h76]
      refine z_iinc hE 0 rfl (by decide) rfl dX8_does_159 ?_
      refine z_goto (tgt := 108) hE (d := dX8_does_162) (ht := by decide) ?_
      refine z_L (L' := [(4, .int (i32 (i + 1))), (2, .long (i64 (S 7 (496 + 15 * q)))), (0, .ref (ad 6 27)), (1, .int (i32 q))]) [0, 1, 2, 3] (by rfl) ?_
      rw [show ∀ x, up (sp_divi (S 7 (496 + 15 * q)) (S 7) i.toNat) (21 + 3 * i) (sp_divi (S 7 (496 + 15 * q)) (S 7) i.toNat (21 + 3 * i) + x) = uq (sp_divi (S 7 (496 + 15 * q)) (S 7) i.toNat) (21 + 3 * i) x from fun _ => rfl, ← divi_s h9.1]
      exact ih (i + 1) hx4 ⟨by omega, by omega⟩ (by omega)
set_option maxHeartbeats 4000000 in
set_option maxRecDepth 100000 in
theorem c_X8_does (l0 : Launch) (D0 : va_G) (cI0 cJ0 : ClassId) (ad : Nat → Nat → Nat) (S : zM) (q : Int) (hI : Inv0 (S 7)) (h0 : 0 ≤ q ∧ q < 10) (hk : okKind (S 7 (495 + 15 * q)) (S 7 (496 + 15 * q))) : Ct l0 D0 cI0 cJ0 ad yX8_does cX8_does 5 none 1 23 [.ref (ad 6 27), .int (i32 q)] S none (fun X => X = (us S 7 (sp_does (S 7) (S 7 (495 + 15 * q)) (S 7 (496 + 15 * q))))) := by
  refine Ct.of (by decide) (Nat.le_of_ble_eq_true rfl) (fun E hE hR => ?_)
  have hE : zG E l0 D0 cI0 cJ0 ad cX8_does 5 RX8 1 23 := hE
  show Z E S 0 [(0, .ref (ad 6 27)), (1, .int (i32 q))] []
  have h67 : (6 : Nat) ≠ 7 := by decide
  have h76 : (7 : Nat) ≠ 6 := by decide
  have h68 : (6 : Nat) ≠ 8 := by decide
  have h86 : (8 : Nat) ≠ 6 := by decide
  have h78 : (7 : Nat) ≠ 8 := by decide
  have h87 : (8 : Nat) ≠ 7 := by decide
  have hA := inA hI
  unfold InvA at hA
  have hk9 := hk
  unfold okKind at hk9
  have ht := inTr hI
  refine z_aload_n hE 0 rfl rfl dX8_does_0 ?_
  refine gf_8_0 hE (by decide) zf_X8_7 dX8_does_1 ?_
  refine z_iload_n hE 1 rfl rfl dX8_does_4 ?_
  refine z_iconst hE dX8_does_5 ?_
  refine z_callS hE (c_X8_q l0 D0 cI0 cJ0 ad S q 1 (496 + 15 * q) (by omega)) zm_X8_152 zt_yX8_q zn_RX8 zc_yX8_q (hy_X8_q) (Nat.le_of_ble_eq_true rfl) (Nat.le_of_ble_eq_true rfl) rfl rfl rfl (Nat.le_of_ble_eq_true rfl) dX8_does_6 ?_
  refine al_28 hE (by decide) (by omega) (by omega) dX8_does_9 ?_
  refine z_lstore_n hE rfl (by decide) rfl dX8_does_10 ?_
  refine z_aload_n hE 1 rfl rfl dX8_does_11 ?_
  refine gf_8_0 hE (by decide) zf_X8_7 dX8_does_12 ?_
  refine z_iload_n hE 2 rfl rfl dX8_does_15 ?_
  refine z_iconst hE dX8_does_16 ?_
  refine z_callS hE (c_X8_q l0 D0 cI0 cJ0 ad S q 0 (495 + 15 * q) (by omega)) zm_X8_152 zt_yX8_q zn_RX8 zc_yX8_q (hy_X8_q) (Nat.le_of_ble_eq_true rfl) (Nat.le_of_ble_eq_true rfl) rfl rfl rfl (Nat.le_of_ble_eq_true rfl) dX8_does_17 ?_
  refine al_28 hE (by decide) (by omega) (by omega) dX8_does_20 ?_
  refine z_l2i hE dX8_does_21 ?_
  by_cases k22_0 : S 7 (((495 + 15 * q))) = 0
  · refine z_tIn (tgt := 52) hE 0 dX8_does_22 ⟨by omega, by omega⟩ k22_0 (by decide) (by decide) rfl (by decide) ?_
    refine z_aload_n hE 1 rfl rfl dX8_does_52 ?_
    refine gf_8_0 hE (by decide) zf_X8_7 dX8_does_53 ?_
    refine z_iconst hE dX8_does_56 ?_
    refine z_lload_n hE 0 rfl rfl dX8_does_57 ?_
    refine as_28 hE (by decide) (by omega) (by omega) dX8_does_58 ?_
    refine z_goto (tgt := 165) hE (d := dX8_does_59) (ht := by decide) ?_
    exact z_vret hE hR dX8_does_165 rfl (by unfold sp_does; first | (rw [if_pos (by omega)]; done) | (rw [if_neg (by omega), if_pos (by omega)]; done) | (rw [if_neg (by omega), if_neg (by omega), if_pos (by omega)]; done) | (rw [if_neg (by omega), if_neg (by omega), if_neg (by omega), if_pos (by omega), uq_sub]; done) | (rw [if_neg (by omega), if_neg (by omega), if_neg (by omega), if_neg (by omega), show i = S 7 0 by omega]; done))
  by_cases k22_1 : S 7 (((495 + 15 * q))) = 1
  · refine z_tIn (tgt := 62) hE 1 dX8_does_22 ⟨by omega, by omega⟩ k22_1 (by decide) (by decide) rfl (by decide) ?_
    refine z_aload_n hE 1 rfl rfl dX8_does_62 ?_
    refine gf_8_0 hE (by decide) zf_X8_7 dX8_does_63 ?_
    refine z_iconst hE dX8_does_66 ?_
    refine z_lload_n hE 0 rfl rfl dX8_does_67 ?_
    refine as_28 hE (by decide) (by omega) (by omega) dX8_does_68 ?_
    refine z_goto (tgt := 165) hE (d := dX8_does_69) (ht := by decide) ?_
    exact z_vret hE hR dX8_does_165 rfl (by unfold sp_does; first | (rw [if_pos (by omega)]; done) | (rw [if_neg (by omega), if_pos (by omega)]; done) | (rw [if_neg (by omega), if_neg (by omega), if_pos (by omega)]; done) | (rw [if_neg (by omega), if_neg (by omega), if_neg (by omega), if_pos (by omega), uq_sub]; done) | (rw [if_neg (by omega), if_neg (by omega), if_neg (by omega), if_neg (by omega), show i = S 7 0 by omega]; done))
  by_cases k22_2 : S 7 (((495 + 15 * q))) = 2
  · refine z_tIn (tgt := 72) hE 2 dX8_does_22 ⟨by omega, by omega⟩ k22_2 (by decide) (by decide) rfl (by decide) ?_
    refine z_aload_n hE 1 rfl rfl dX8_does_72 ?_
    refine gf_8_0 hE (by decide) zf_X8_7 dX8_does_73 ?_
    refine z_bipush (a := 13) hE (by decide) dX8_does_76 ?_
    refine z_lload_n hE 0 rfl rfl dX8_does_78 ?_
    refine as_28 hE (by decide) (by omega) (by omega) dX8_does_79 ?_
    refine z_goto (tgt := 165) hE (d := dX8_does_80) (ht := by decide) ?_
    exact z_vret hE hR dX8_does_165 rfl (by unfold sp_does; first | (rw [if_pos (by omega)]; done) | (rw [if_neg (by omega), if_pos (by omega)]; done) | (rw [if_neg (by omega), if_neg (by omega), if_pos (by omega)]; done) | (rw [if_neg (by omega), if_neg (by omega), if_neg (by omega), if_pos (by omega), uq_sub]; done) | (rw [if_neg (by omega), if_neg (by omega), if_neg (by omega), if_neg (by omega), show i = S 7 0 by omega]; done))
  by_cases k22_3 : S 7 (((495 + 15 * q))) = 3
  · refine z_tIn (tgt := 83) hE 3 dX8_does_22 ⟨by omega, by omega⟩ k22_3 (by decide) (by decide) rfl (by decide) ?_
    refine z_aload_n hE 1 rfl rfl dX8_does_83 ?_
    refine gf_8_0 hE (by decide) zf_X8_7 dX8_does_84 ?_
    refine z_iconst hE dX8_does_87 ?_
    refine z_dup2 hE rfl rfl dX8_does_88 ?_
    refine al_28 hE (by decide) (by omega) (by omega) dX8_does_89 ?_
    refine z_lload_n hE 0 rfl rfl dX8_does_90 ?_
    refine z_aload_n hE 1 rfl rfl dX8_does_91 ?_
    refine gf_8_0 hE (by decide) zf_X8_7 dX8_does_92 ?_
    refine z_iconst hE dX8_does_95 ?_
    refine al_28 hE (by decide) (by omega) (by omega) dX8_does_96 ?_
    refine z_callS hE (c_X8_least l0 D0 cI0 cJ0 ad S (S 7 (((496 + 15 * q)))) (S 7 2) (⟨by omega, by omega⟩) (⟨by omega, by omega⟩)) zm_X8_125 zt_yX8_least zn_RX8 zc_yX8_least (hy_X8_least) (Nat.le_of_ble_eq_true rfl) (Nat.le_of_ble_eq_true rfl) rfl rfl rfl (Nat.le_of_ble_eq_true rfl) dX8_does_97 ?_
    refine z_lsub hE dX8_does_100 ?_
    refine as_28 hE (by decide) (by omega) (by omega) dX8_does_101 ?_
    refine z_goto (tgt := 165) hE (d := dX8_does_102) (ht := by decide) ?_
    exact z_vret hE hR dX8_does_165 rfl (by unfold sp_does; first | (rw [if_pos (by omega)]; done) | (rw [if_neg (by omega), if_pos (by omega)]; done) | (rw [if_neg (by omega), if_neg (by omega), if_pos (by omega)]; done) | (rw [if_neg (by omega), if_neg (by omega), if_neg (by omega), if_pos (by omega), uq_sub]; done) | (rw [if_neg (by omega), if_neg (by omega), if_neg (by omega), if_neg (by omega), show i = S 7 0 by omega]; done))
  refine z_tOut (tgt := 105) hE dX8_does_22 ⟨by omega, by omega⟩ (by omega) (by decide) ?_
  refine z_iconst hE dX8_does_105 ?_
  refine z_istore hE (by decide) rfl dX8_does_106 ?_
  refine z_L (L' := [(4, .int (i32 (0 : Int))), (2, .long (i64 (S 7 (496 + 15 * q)))), (0, .ref (ad 6 27)), (1, .int (i32 q))]) [0, 1, 2, 3] (by rw [show S 7 (496 + 15 * q) = S 7 (((496 + 15 * q))) from by first | rfl | (omega)]; rfl) ?_
  rw [show S = us S 7 (sp_divi (S 7 (496 + 15 * q)) (S 7) (0 : Int).toNat) from (us_id S 7).symm]
  exact lp_X8_does hE S q hI h0 hk hR 13 ((0 : Int)) (by omega) ⟨by omega, by omega⟩ (by omega)
theorem dX8_closeMotion_0 : decode cX8_closeMotion 0 = .ok (.aload_n 0, 1) := by decide +kernel
theorem dX8_closeMotion_1 : decode cX8_closeMotion 1 = .ok (.iload_n 1, 1) := by decide +kernel
theorem dX8_closeMotion_2 : decode cX8_closeMotion 2 = .ok (.invokevirtual 155, 3) := by decide +kernel
theorem dX8_closeMotion_5 : decode cX8_closeMotion 5 = .ok (.ifCond .ne 6, 3) := by decide +kernel
theorem dX8_closeMotion_8 : decode cX8_closeMotion 8 = .ok (.ldc 68, 2) := by decide +kernel
theorem dX8_closeMotion_10 : decode cX8_closeMotion 10 = .ok (.ireturn, 1) := by decide +kernel
theorem dX8_closeMotion_11 : decode cX8_closeMotion 11 = .ok (.aload_n 0, 1) := by decide +kernel
theorem dX8_closeMotion_12 : decode cX8_closeMotion 12 = .ok (.getfield 7, 3) := by decide +kernel
theorem dX8_closeMotion_15 : decode cX8_closeMotion 15 = .ok (.iload_n 1, 1) := by decide +kernel
theorem dX8_closeMotion_16 : decode cX8_closeMotion 16 = .ok (.iconst 2, 1) := by decide +kernel
theorem dX8_closeMotion_17 : decode cX8_closeMotion 17 = .ok (.invokestatic 152, 3) := by decide +kernel
theorem dX8_closeMotion_20 : decode cX8_closeMotion 20 = .ok (.laload, 1) := by decide +kernel
theorem dX8_closeMotion_21 : decode cX8_closeMotion 21 = .ok (.lconst 0, 1) := by decide +kernel
theorem dX8_closeMotion_22 : decode cX8_closeMotion 22 = .ok (.lcmp, 1) := by decide +kernel
theorem dX8_closeMotion_23 : decode cX8_closeMotion 23 = .ok (.ifCond .eq 6, 3) := by decide +kernel
theorem dX8_closeMotion_26 : decode cX8_closeMotion 26 = .ok (.ldc 92, 2) := by decide +kernel
theorem dX8_closeMotion_28 : decode cX8_closeMotion 28 = .ok (.ireturn, 1) := by decide +kernel
theorem dX8_closeMotion_29 : decode cX8_closeMotion 29 = .ok (.aload_n 0, 1) := by decide +kernel
theorem dX8_closeMotion_30 : decode cX8_closeMotion 30 = .ok (.invokevirtual 43, 3) := by decide +kernel
theorem dX8_closeMotion_33 : decode cX8_closeMotion 33 = .ok (.aload_n 0, 1) := by decide +kernel
theorem dX8_closeMotion_34 : decode cX8_closeMotion 34 = .ok (.iload_n 1, 1) := by decide +kernel
theorem dX8_closeMotion_35 : decode cX8_closeMotion 35 = .ok (.lconst 1, 1) := by decide +kernel
theorem dX8_closeMotion_36 : decode cX8_closeMotion 36 = .ok (.invokevirtual 164, 3) := by decide +kernel
theorem dX8_closeMotion_39 : decode cX8_closeMotion 39 = .ok (.lstore_n 2, 1) := by decide +kernel
theorem dX8_closeMotion_40 : decode cX8_closeMotion 40 = .ok (.lload_n 2, 1) := by decide +kernel
theorem dX8_closeMotion_41 : decode cX8_closeMotion 41 = .ok (.aload_n 0, 1) := by decide +kernel
theorem dX8_closeMotion_42 : decode cX8_closeMotion 42 = .ok (.iload_n 1, 1) := by decide +kernel
theorem dX8_closeMotion_43 : decode cX8_closeMotion 43 = .ok (.ldc2_w 93, 3) := by decide +kernel
theorem dX8_closeMotion_46 : decode cX8_closeMotion 46 = .ok (.invokevirtual 164, 3) := by decide +kernel
theorem dX8_closeMotion_49 : decode cX8_closeMotion 49 = .ok (.ladd, 1) := by decide +kernel
theorem dX8_closeMotion_50 : decode cX8_closeMotion 50 = .ok (.lstore 4, 2) := by decide +kernel
theorem dX8_closeMotion_52 : decode cX8_closeMotion 52 = .ok (.lload 4, 2) := by decide +kernel
theorem dX8_closeMotion_54 : decode cX8_closeMotion 54 = .ok (.aload_n 0, 1) := by decide +kernel
theorem dX8_closeMotion_55 : decode cX8_closeMotion 55 = .ok (.iload_n 1, 1) := by decide +kernel
theorem dX8_closeMotion_56 : decode cX8_closeMotion 56 = .ok (.lconst 0, 1) := by decide +kernel
theorem dX8_closeMotion_57 : decode cX8_closeMotion 57 = .ok (.invokevirtual 164, 3) := by decide +kernel
theorem dX8_closeMotion_60 : decode cX8_closeMotion 60 = .ok (.ladd, 1) := by decide +kernel
theorem dX8_closeMotion_61 : decode cX8_closeMotion 61 = .ok (.lstore 6, 2) := by decide +kernel
theorem dX8_closeMotion_63 : decode cX8_closeMotion 63 = .ok (.lload 4, 2) := by decide +kernel
theorem dX8_closeMotion_65 : decode cX8_closeMotion 65 = .ok (.ldc2_w 31, 3) := by decide +kernel
theorem dX8_closeMotion_68 : decode cX8_closeMotion 68 = .ok (.lmul, 1) := by decide +kernel
theorem dX8_closeMotion_69 : decode cX8_closeMotion 69 = .ok (.lload 6, 2) := by decide +kernel
theorem dX8_closeMotion_71 : decode cX8_closeMotion 71 = .ok (.aload_n 0, 1) := by decide +kernel
theorem dX8_closeMotion_72 : decode cX8_closeMotion 72 = .ok (.getfield 7, 3) := by decide +kernel
theorem dX8_closeMotion_75 : decode cX8_closeMotion 75 = .ok (.bipush 17, 2) := by decide +kernel
theorem dX8_closeMotion_77 : decode cX8_closeMotion 77 = .ok (.laload, 1) := by decide +kernel
theorem dX8_closeMotion_78 : decode cX8_closeMotion 78 = .ok (.lmul, 1) := by decide +kernel
theorem dX8_closeMotion_79 : decode cX8_closeMotion 79 = .ok (.lcmp, 1) := by decide +kernel
theorem dX8_closeMotion_80 : decode cX8_closeMotion 80 = .ok (.ifCond .lt 18, 3) := by decide +kernel
theorem dX8_closeMotion_83 : decode cX8_closeMotion 83 = .ok (.ldc2_w 93, 3) := by decide +kernel
theorem dX8_closeMotion_86 : decode cX8_closeMotion 86 = .ok (.lload_n 2, 1) := by decide +kernel
theorem dX8_closeMotion_87 : decode cX8_closeMotion 87 = .ok (.lmul, 1) := by decide +kernel
theorem dX8_closeMotion_88 : decode cX8_closeMotion 88 = .ok (.lload 4, 2) := by decide +kernel
theorem dX8_closeMotion_90 : decode cX8_closeMotion 90 = .ok (.lcmp, 1) := by decide +kernel
theorem dX8_closeMotion_91 : decode cX8_closeMotion 91 = .ok (.ifCond .le 7, 3) := by decide +kernel
theorem dX8_closeMotion_94 : decode cX8_closeMotion 94 = .ok (.iconst 1, 1) := by decide +kernel
theorem dX8_closeMotion_95 : decode cX8_closeMotion 95 = .ok (.goto 4, 3) := by decide +kernel
theorem dX8_closeMotion_98 : decode cX8_closeMotion 98 = .ok (.iconst 0, 1) := by decide +kernel
theorem dX8_closeMotion_99 : decode cX8_closeMotion 99 = .ok (.istore 8, 2) := by decide +kernel
theorem dX8_closeMotion_101 : decode cX8_closeMotion 101 = .ok (.aload_n 0, 1) := by decide +kernel
theorem dX8_closeMotion_102 : decode cX8_closeMotion 102 = .ok (.getfield 7, 3) := by decide +kernel
theorem dX8_closeMotion_105 : decode cX8_closeMotion 105 = .ok (.iload_n 1, 1) := by decide +kernel
theorem dX8_closeMotion_106 : decode cX8_closeMotion 106 = .ok (.iconst 2, 1) := by decide +kernel
theorem dX8_closeMotion_107 : decode cX8_closeMotion 107 = .ok (.invokestatic 152, 3) := by decide +kernel
theorem dX8_closeMotion_110 : decode cX8_closeMotion 110 = .ok (.iload 8, 2) := by decide +kernel
theorem dX8_closeMotion_112 : decode cX8_closeMotion 112 = .ok (.ifCond .eq 7, 3) := by decide +kernel
theorem dX8_closeMotion_115 : decode cX8_closeMotion 115 = .ok (.lconst 1, 1) := by decide +kernel
theorem dX8_closeMotion_116 : decode cX8_closeMotion 116 = .ok (.goto 6, 3) := by decide +kernel
theorem dX8_closeMotion_119 : decode cX8_closeMotion 119 = .ok (.ldc2_w 93, 3) := by decide +kernel
theorem dX8_closeMotion_122 : decode cX8_closeMotion 122 = .ok (.lastore, 1) := by decide +kernel
theorem dX8_closeMotion_123 : decode cX8_closeMotion 123 = .ok (.iload 8, 2) := by decide +kernel
theorem dX8_closeMotion_125 : decode cX8_closeMotion 125 = .ok (.ifCond .eq 8, 3) := by decide +kernel
theorem dX8_closeMotion_128 : decode cX8_closeMotion 128 = .ok (.aload_n 0, 1) := by decide +kernel
theorem dX8_closeMotion_129 : decode cX8_closeMotion 129 = .ok (.iload_n 1, 1) := by decide +kernel
theorem dX8_closeMotion_130 : decode cX8_closeMotion 130 = .ok (.invokevirtual 168, 3) := by decide +kernel
theorem dX8_closeMotion_133 : decode cX8_closeMotion 133 = .ok (.iload 8, 2) := by decide +kernel
theorem dX8_closeMotion_135 : decode cX8_closeMotion 135 = .ok (.ifCond .eq 7, 3) := by decide +kernel
theorem dX8_closeMotion_138 : decode cX8_closeMotion 138 = .ok (.iconst 1, 1) := by decide +kernel
theorem dX8_closeMotion_139 : decode cX8_closeMotion 139 = .ok (.goto 4, 3) := by decide +kernel
theorem dX8_closeMotion_142 : decode cX8_closeMotion 142 = .ok (.iconst 0, 1) := by decide +kernel
theorem dX8_closeMotion_143 : decode cX8_closeMotion 143 = .ok (.ireturn, 1) := by decide +kernel
theorem hy_X8_closeMotion : yX8_closeMotion.cls ≠ "java/lang/invoke/MethodHandle" ∧ yX8_closeMotion.cls ≠ "java/lang/invoke/VarHandle" ∧ (parseMethodDescriptor yX8_closeMotion.desc).map (fun d => d.parameters.length) = some 1 := ⟨by decide +kernel, by decide +kernel, by decide +kernel⟩
set_option maxHeartbeats 4000000 in
set_option maxRecDepth 100000 in
theorem c_X8_closeMotion (l0 : Launch) (D0 : va_G) (cI0 cJ0 : ClassId) (ad : Nat → Nat → Nat) (S : zM) (q : Int) (h6 : 0 ≤ S 6 0 ∧ S 6 0 ≤ 4) (hI : Inv (S 7)) (bb_q : -2147483648 ≤ q ∧ q < 2147483648) : Ct l0 D0 cI0 cJ0 ad yX8_closeMotion cX8_closeMotion 9 (some .int) 3 72 [.ref (ad 6 27), .int (i32 q)] S (some (.int (i32 (rv_closeMotion (S 7) q)))) (fun X => X = if ok_closeMotion (S 7) q then us (us (us S 8 (mp (S 8) (S 7) (S 6 0))) 6 (up (S 6) 0 (min (S 6 0 + 1) 4))) 7 (sp_clo (S 7) q) else S) := by
  refine Ct.of (by decide) (Nat.le_of_ble_eq_true rfl) (fun E hE hR => ?_)
  have hE : zG E l0 D0 cI0 cJ0 ad cX8_closeMotion 9 RX8 3 72 := hE
  show Z E S 0 [(0, .ref (ad 6 27)), (1, .int (i32 q))] []
  have h67 : (6 : Nat) ≠ 7 := by decide
  have h76 : (7 : Nat) ≠ 6 := by decide
  have h68 : (6 : Nat) ≠ 8 := by decide
  have h86 : (8 : Nat) ≠ 6 := by decide
  have h78 : (7 : Nat) ≠ 8 := by decide
  have h87 : (8 : Nat) ≠ 7 := by decide
  have hI0 := hI.1
  have hA := inA hI0
  unfold InvA at hA
  refine z_aload_n hE 0 rfl rfl dX8_closeMotion_0 ?_
  refine z_iload_n hE 1 rfl rfl dX8_closeMotion_1 ?_
  refine z_callV hE (c_X8_isMotion l0 D0 cI0 cJ0 ad S q (by omega) (by omega)) (by decide) rfl rfl zm_X8_155 zi_yX8_isMotion zs_yX8_isMotion zn_RX8 zc_yX8_isMotion (hy_X8_isMotion) (Nat.le_of_ble_eq_true rfl) (Nat.le_of_ble_eq_true rfl) rfl rfl rfl (Nat.le_of_ble_eq_true rfl) dX8_closeMotion_2 ?_
  refine z_ifb_ne (tgt := 11) hE dX8_closeMotion_5 (by decide) (fun c1 => ?_) (fun c1 => ?_)
  · have hq9 := inQ hI0 q (by omega) (by omega)
    have his := inv_state hI (q := q) (x := 1) ⟨by omega, by omega⟩ ⟨by omega, by omega⟩
    have s0 := sum_b hI0 q 0
    have s1 := sum_b hI0 q 1
    have s2 := sum_b hI0 q 2
    have s3 := zx_mul (a := sp_sum (S 7) q 1 + sp_sum (S 7) q 2 + sp_sum (S 7) q 0) (b := S 7 17) (A := 360000) (B := 100) (by omega) (by omega) (by omega) (by omega)
    refine z_aload_n hE 0 rfl rfl dX8_closeMotion_11 ?_
    refine gf_8_0 hE (by decide) zf_X8_7 dX8_closeMotion_12 ?_
    refine z_iload_n hE 1 rfl rfl dX8_closeMotion_15 ?_
    refine z_iconst hE dX8_closeMotion_16 ?_
    refine z_callS hE (c_X8_q l0 D0 cI0 cJ0 ad S q 2 (497 + 15 * q) (by omega)) zm_X8_152 zt_yX8_q zn_RX8 zc_yX8_q (hy_X8_q) (Nat.le_of_ble_eq_true rfl) (Nat.le_of_ble_eq_true rfl) rfl rfl rfl (Nat.le_of_ble_eq_true rfl) dX8_closeMotion_17 ?_
    refine al_28 hE (by decide) (by omega) (by omega) dX8_closeMotion_20 ?_
    refine z_lconst (a := 0) hE rfl dX8_closeMotion_21 ?_
    refine z_lcmp hE ⟨by omega, by omega⟩ ⟨by omega, by omega⟩ dX8_closeMotion_22 ?_
    refine z_ifl_eq (tgt := 29) hE dX8_closeMotion_23 (by decide) (fun c2 => ?_) (fun c2 => ?_)
    · refine z_aload_n hE 0 rfl rfl dX8_closeMotion_29 ?_
      refine z_callV hE (c_X8_notes l0 D0 cI0 cJ0 ad S (by omega)) (by decide) rfl rfl zm_X8_43 zi_yX8_notes zs_yX8_notes zn_RX8 zc_yX8_notes (hy_X8_notes) (Nat.le_of_ble_eq_true rfl) (Nat.le_of_ble_eq_true rfl) rfl rfl rfl (Nat.le_of_ble_eq_true rfl) dX8_closeMotion_30 ?_
      try simp only [us_eq, us_us, us_ne h67, us_ne h76, us_ne h68, us_ne h86, us_ne h78, us_ne h87, us_in h67, us_in h76]
      refine z_aload_n hE 0 rfl rfl dX8_closeMotion_33 ?_
      refine z_iload_n hE 1 rfl rfl dX8_closeMotion_34 ?_
      refine z_lconst (a := 1) hE rfl dX8_closeMotion_35 ?_
      refine z_callV hE (c_X8_sum l0 D0 cI0 cJ0 ad (us (us S 8 (mp ((S 8)) ((S 7)) ((S 6) 0))) 6 (up ((S 6)) 0 (min ((S 6) 0 + 1) 4))) q 1 (by first | exact hI0 | (simp only [us_eq, us_ne h78, us_ne h76]; exact hI0)) (by first | omega | (simp only [us_eq, us_ne h67, us_ne h76, us_ne h68, us_ne h86, us_ne h78, us_ne h87]; omega)) (by first | omega | (simp only [us_eq, us_ne h67, us_ne h76, us_ne h68, us_ne h86, us_ne h78, us_ne h87]; omega))) (by decide) rfl rfl zm_X8_164 zi_yX8_sum zs_yX8_sum zn_RX8 zc_yX8_sum (hy_X8_sum) (Nat.le_of_ble_eq_true rfl) (Nat.le_of_ble_eq_true rfl) rfl rfl rfl (Nat.le_of_ble_eq_true rfl) dX8_closeMotion_36 ?_
      try simp only [us_eq, us_us, us_ne h67, us_ne h76, us_ne h68, us_ne h86, us_ne h78, us_ne h87, us_in h67, us_in h76]
      refine z_lstore_n hE rfl (by decide) rfl dX8_closeMotion_39 ?_
      refine z_lload_n hE 0 rfl rfl dX8_closeMotion_40 ?_
      refine z_aload_n hE 1 rfl rfl dX8_closeMotion_41 ?_
      refine z_iload_n hE 2 rfl rfl dX8_closeMotion_42 ?_
      refine z_ldc2 (a := 2) hE zl_X8_93 (by decide) dX8_closeMotion_43 ?_
      refine z_callV hE (c_X8_sum l0 D0 cI0 cJ0 ad (us (us S 8 (mp ((S 8)) ((S 7)) ((S 6) 0))) 6 (up ((S 6)) 0 (min ((S 6) 0 + 1) 4))) q 2 (by first | exact hI0 | (simp only [us_eq, us_ne h78, us_ne h76]; exact hI0)) (by first | omega | (simp only [us_eq, us_ne h67, us_ne h76, us_ne h68, us_ne h86, us_ne h78, us_ne h87]; omega)) (by first | omega | (simp only [us_eq, us_ne h67, us_ne h76, us_ne h68, us_ne h86, us_ne h78, us_ne h87]; omega))) (by decide) rfl rfl zm_X8_164 zi_yX8_sum zs_yX8_sum zn_RX8 zc_yX8_sum (hy_X8_sum) (Nat.le_of_ble_eq_true rfl) (Nat.le_of_ble_eq_true rfl) rfl rfl rfl (Nat.le_of_ble_eq_true rfl) dX8_closeMotion_46 ?_
      try simp only [us_eq, us_us, us_ne h67, us_ne h76, us_ne h68, us_ne h86, us_ne h78, us_ne h87, us_in h67, us_in h76]
      refine z_ladd hE dX8_closeMotion_49 ?_
      refine z_lstore hE (by decide) rfl dX8_closeMotion_50 ?_
      refine z_lload hE 0 rfl dX8_closeMotion_52 ?_
      refine z_aload_n hE 2 rfl rfl dX8_closeMotion_54 ?_
      refine z_iload_n hE 3 rfl rfl dX8_closeMotion_55 ?_
      refine z_lconst (a := 0) hE rfl dX8_closeMotion_56 ?_
      refine z_callV hE (c_X8_sum l0 D0 cI0 cJ0 ad (us (us S 8 (mp ((S 8)) ((S 7)) ((S 6) 0))) 6 (up ((S 6)) 0 (min ((S 6) 0 + 1) 4))) q 0 (by first | exact hI0 | (simp only [us_eq, us_ne h78, us_ne h76]; exact hI0)) (by first | omega | (simp only [us_eq, us_ne h67, us_ne h76, us_ne h68, us_ne h86, us_ne h78, us_ne h87]; omega)) (by first | omega | (simp only [us_eq, us_ne h67, us_ne h76, us_ne h68, us_ne h86, us_ne h78, us_ne h87]; omega))) (by decide) rfl rfl zm_X8_164 zi_yX8_sum zs_yX8_sum zn_RX8 zc_yX8_sum (hy_X8_sum) (Nat.le_of_ble_eq_true rfl) (Nat.le_of_ble_eq_true rfl) rfl rfl rfl (Nat.le_of_ble_eq_true rfl) dX8_closeMotion_57 ?_
      try simp only [us_eq, us_us, us_ne h67, us_ne h76, us_ne h68, us_ne h86, us_ne h78, us_ne h87, us_in h67, us_in h76]
      refine z_ladd hE dX8_closeMotion_60 ?_
      refine z_lstore hE (by decide) rfl dX8_closeMotion_61 ?_
      refine z_lload hE 1 rfl dX8_closeMotion_63 ?_
      refine z_ldc2 (a := 100) hE zl_X8_31 (by decide) dX8_closeMotion_65 ?_
      refine z_lmul hE dX8_closeMotion_68 ?_
      refine z_lload hE 0 rfl dX8_closeMotion_69 ?_
      refine z_aload_n hE 3 rfl rfl dX8_closeMotion_71 ?_
      refine gf_8_0 hE (by decide) zf_X8_7 dX8_closeMotion_72 ?_
      refine z_bipush (a := 17) hE (by decide) dX8_closeMotion_75 ?_
      refine al_28 hE (by decide) (by omega) (by omega) dX8_closeMotion_77 ?_
      try simp only [us_eq, us_us, us_ne h67, us_ne h76, us_ne h68, us_ne h86, us_ne h78, us_ne h87, us_in h67, us_in h76]
      refine z_lmul hE dX8_closeMotion_78 ?_
      refine z_lcmp hE ⟨by omega, by omega⟩ ⟨by omega, by omega⟩ dX8_closeMotion_79 ?_
      refine z_ifl_lt (tgt := 98) hE dX8_closeMotion_80 (by decide) (fun c3 => ?_) (fun c3 => ?_)
      · refine z_iconst hE dX8_closeMotion_98 ?_
        have hcp : ¬ sp_pass (S 7) q := fun h => by have := h.1; have := h.2; omega
        refine z_istore hE (by decide) rfl dX8_closeMotion_99 ?_
        refine z_aload_n hE 4 rfl rfl dX8_closeMotion_101 ?_
        refine gf_8_0 hE (by decide) zf_X8_7 dX8_closeMotion_102 ?_
        refine z_iload_n hE 5 rfl rfl dX8_closeMotion_105 ?_
        refine z_iconst hE dX8_closeMotion_106 ?_
        refine z_callS hE (c_X8_q l0 D0 cI0 cJ0 ad (us (us S 8 (mp ((S 8)) ((S 7)) ((S 6) 0))) 6 (up ((S 6)) 0 (min ((S 6) 0 + 1) 4))) q 2 (497 + 15 * q) (by first | omega | (simp only [us_eq, us_ne h67, us_ne h76, us_ne h68, us_ne h86, us_ne h78, us_ne h87]; omega))) zm_X8_152 zt_yX8_q zn_RX8 zc_yX8_q (hy_X8_q) (Nat.le_of_ble_eq_true rfl) (Nat.le_of_ble_eq_true rfl) rfl rfl rfl (Nat.le_of_ble_eq_true rfl) dX8_closeMotion_107 ?_
        try simp only [us_eq, us_us, us_ne h67, us_ne h76, us_ne h68, us_ne h86, us_ne h78, us_ne h87, us_in h67, us_in h76]
        refine z_iload hE 0 rfl dX8_closeMotion_110 ?_
        refine z_if_eq (tgt := 119) hE dX8_closeMotion_112 (by decide) ⟨by omega, by omega⟩ (fun c4 => ?_) (fun c4 => absurd (by decide) c4)
        refine z_ldc2 (a := 2) hE zl_X8_93 (by decide) dX8_closeMotion_119 ?_
        refine as_28 hE (by decide) (by omega) (by omega) dX8_closeMotion_122 ?_
        try simp only [us_eq, us_us, us_ne h67, us_ne h76, us_ne h68, us_ne h86, us_ne h78, us_ne h87, us_in h67, us_in h76]
        refine z_iload hE 0 rfl dX8_closeMotion_123 ?_
        refine z_if_eq (tgt := 133) hE dX8_closeMotion_125 (by decide) ⟨by omega, by omega⟩ (fun c5 => ?_) (fun c5 => absurd (by decide) c5)
        refine z_iload hE 0 rfl dX8_closeMotion_133 ?_
        refine z_if_eq (tgt := 142) hE dX8_closeMotion_135 (by decide) ⟨by omega, by omega⟩ (fun c6 => ?_) (fun c6 => absurd (by decide) c6)
        refine z_iconst hE dX8_closeMotion_142 ?_
        exact z_iret hE hR dX8_closeMotion_143 (congrArg (fun x => some (Value.int (i32 x))) (by unfold rv_closeMotion; first | (rw [if_pos (by omega), if_pos (by omega), zbo_t hcp]; done) | (rw [if_pos (by omega), if_pos (by omega), zbo_f hcp]; done) | (rw [if_pos (by omega), if_neg (by omega)]; done) | (rw [if_neg (by omega)]; done))) (by first | ((rw [if_pos (by omega)]) <;> (unfold sp_clo; first | (rw [if_pos hcp, up_ne (by omega), up_ne (by omega)]; done) | (rw [if_neg hcp]; done))) | (rw [if_neg (by omega)]))
      · refine z_ldc2 (a := 2) hE zl_X8_93 (by decide) dX8_closeMotion_83 ?_
        refine z_lload_n hE 2 rfl rfl dX8_closeMotion_86 ?_
        refine z_lmul hE dX8_closeMotion_87 ?_
        refine z_lload hE 1 rfl dX8_closeMotion_88 ?_
        refine z_lcmp hE ⟨by omega, by omega⟩ ⟨by omega, by omega⟩ dX8_closeMotion_90 ?_
        refine z_ifl_le (tgt := 98) hE dX8_closeMotion_91 (by decide) (fun c7 => ?_) (fun c7 => ?_)
        · refine z_iconst hE dX8_closeMotion_98 ?_
          have hcp : ¬ sp_pass (S 7) q := fun h => by have := h.1; have := h.2; omega
          refine z_istore hE (by decide) rfl dX8_closeMotion_99 ?_
          refine z_aload_n hE 4 rfl rfl dX8_closeMotion_101 ?_
          refine gf_8_0 hE (by decide) zf_X8_7 dX8_closeMotion_102 ?_
          refine z_iload_n hE 5 rfl rfl dX8_closeMotion_105 ?_
          refine z_iconst hE dX8_closeMotion_106 ?_
          refine z_callS hE (c_X8_q l0 D0 cI0 cJ0 ad (us (us S 8 (mp ((S 8)) ((S 7)) ((S 6) 0))) 6 (up ((S 6)) 0 (min ((S 6) 0 + 1) 4))) q 2 (497 + 15 * q) (by first | omega | (simp only [us_eq, us_ne h67, us_ne h76, us_ne h68, us_ne h86, us_ne h78, us_ne h87]; omega))) zm_X8_152 zt_yX8_q zn_RX8 zc_yX8_q (hy_X8_q) (Nat.le_of_ble_eq_true rfl) (Nat.le_of_ble_eq_true rfl) rfl rfl rfl (Nat.le_of_ble_eq_true rfl) dX8_closeMotion_107 ?_
          try simp only [us_eq, us_us, us_ne h67, us_ne h76, us_ne h68, us_ne h86, us_ne h78, us_ne h87, us_in h67, us_in h76]
          refine z_iload hE 0 rfl dX8_closeMotion_110 ?_
          refine z_if_eq (tgt := 119) hE dX8_closeMotion_112 (by decide) ⟨by omega, by omega⟩ (fun c8 => ?_) (fun c8 => absurd (by decide) c8)
          refine z_ldc2 (a := 2) hE zl_X8_93 (by decide) dX8_closeMotion_119 ?_
          refine as_28 hE (by decide) (by omega) (by omega) dX8_closeMotion_122 ?_
          try simp only [us_eq, us_us, us_ne h67, us_ne h76, us_ne h68, us_ne h86, us_ne h78, us_ne h87, us_in h67, us_in h76]
          refine z_iload hE 0 rfl dX8_closeMotion_123 ?_
          refine z_if_eq (tgt := 133) hE dX8_closeMotion_125 (by decide) ⟨by omega, by omega⟩ (fun c9 => ?_) (fun c9 => absurd (by decide) c9)
          refine z_iload hE 0 rfl dX8_closeMotion_133 ?_
          refine z_if_eq (tgt := 142) hE dX8_closeMotion_135 (by decide) ⟨by omega, by omega⟩ (fun c10 => ?_) (fun c10 => absurd (by decide) c10)
          refine z_iconst hE dX8_closeMotion_142 ?_
          exact z_iret hE hR dX8_closeMotion_143 (congrArg (fun x => some (Value.int (i32 x))) (by unfold rv_closeMotion; first | (rw [if_pos (by omega), if_pos (by omega), zbo_t hcp]; done) | (rw [if_pos (by omega), if_pos (by omega), zbo_f hcp]; done) | (rw [if_pos (by omega), if_neg (by omega)]; done) | (rw [if_neg (by omega)]; done))) (by first | ((rw [if_pos (by omega)]) <;> (unfold sp_clo; first | (rw [if_pos hcp, up_ne (by omega), up_ne (by omega)]; done) | (rw [if_neg hcp]; done))) | (rw [if_neg (by omega)]))
        · refine z_iconst hE dX8_closeMotion_94 ?_
          refine z_goto (tgt := 99) hE (d := dX8_closeMotion_95) (ht := by decide) ?_
          have hcp : sp_pass (S 7) q := ⟨by omega, by omega⟩
          refine z_istore hE (by decide) rfl dX8_closeMotion_99 ?_
          refine z_aload_n hE 4 rfl rfl dX8_closeMotion_101 ?_
          refine gf_8_0 hE (by decide) zf_X8_7 dX8_closeMotion_102 ?_
          refine z_iload_n hE 5 rfl rfl dX8_closeMotion_105 ?_
          refine z_iconst hE dX8_closeMotion_106 ?_
          refine z_callS hE (c_X8_q l0 D0 cI0 cJ0 ad (us (us S 8 (mp ((S 8)) ((S 7)) ((S 6) 0))) 6 (up ((S 6)) 0 (min ((S 6) 0 + 1) 4))) q 2 (497 + 15 * q) (by first | omega | (simp only [us_eq, us_ne h67, us_ne h76, us_ne h68, us_ne h86, us_ne h78, us_ne h87]; omega))) zm_X8_152 zt_yX8_q zn_RX8 zc_yX8_q (hy_X8_q) (Nat.le_of_ble_eq_true rfl) (Nat.le_of_ble_eq_true rfl) rfl rfl rfl (Nat.le_of_ble_eq_true rfl) dX8_closeMotion_107 ?_
          try simp only [us_eq, us_us, us_ne h67, us_ne h76, us_ne h68, us_ne h86, us_ne h78, us_ne h87, us_in h67, us_in h76]
          refine z_iload hE 0 rfl dX8_closeMotion_110 ?_
          refine z_if_eq (tgt := 119) hE dX8_closeMotion_112 (by decide) ⟨by omega, by omega⟩ (fun c11 => absurd c11 (by decide)) (fun c11 => ?_)
          refine z_lconst (a := 1) hE rfl dX8_closeMotion_115 ?_
          refine z_goto (tgt := 122) hE (d := dX8_closeMotion_116) (ht := by decide) ?_
          refine as_28 hE (by decide) (by omega) (by omega) dX8_closeMotion_122 ?_
          try simp only [us_eq, us_us, us_ne h67, us_ne h76, us_ne h68, us_ne h86, us_ne h78, us_ne h87, us_in h67, us_in h76]
          refine z_iload hE 0 rfl dX8_closeMotion_123 ?_
          refine z_if_eq (tgt := 133) hE dX8_closeMotion_125 (by decide) ⟨by omega, by omega⟩ (fun c12 => absurd c12 (by decide)) (fun c12 => ?_)
          have hkk : okKind (up (S 7) (497 + 15 * q) 1 (495 + 15 * q)) (up (S 7) (497 + 15 * q) 1 (496 + 15 * q)) := by rw [up_ne (by omega), up_ne (by omega)]; exact hq9.2
          refine z_aload_n hE 4 rfl rfl dX8_closeMotion_128 ?_
          refine z_iload_n hE 5 rfl rfl dX8_closeMotion_129 ?_
          refine z_callV hE (c_X8_does l0 D0 cI0 cJ0 ad (us (us (us S 8 (mp ((S 8)) ((S 7)) ((S 6) 0))) 6 (up ((S 6)) 0 (min ((S 6) 0 + 1) 4))) 7 (up (S 7) (((497 + 15 * q))) 1)) q (by rw [us_eq]; exact his.1) (by first | omega | (simp only [us_eq, us_ne h67, us_ne h76, us_ne h68, us_ne h86, us_ne h78, us_ne h87]; omega)) (by rw [us_eq]; exact hkk)) (by decide) rfl rfl zm_X8_168 zi_yX8_does zs_yX8_does zn_RX8 zc_yX8_does (hy_X8_does) (Nat.le_of_ble_eq_true rfl) (Nat.le_of_ble_eq_true rfl) rfl rfl rfl (Nat.le_of_ble_eq_true rfl) dX8_closeMotion_130 ?_
          try simp only [us_eq, us_us, us_ne h67, us_ne h76, us_ne h68, us_ne h86, us_ne h78, us_ne h87, us_in h67, us_in h76]
          refine z_iload hE 0 rfl dX8_closeMotion_133 ?_
          refine z_if_eq (tgt := 142) hE dX8_closeMotion_135 (by decide) ⟨by omega, by omega⟩ (fun c13 => absurd c13 (by decide)) (fun c13 => ?_)
          refine z_iconst hE dX8_closeMotion_138 ?_
          refine z_goto (tgt := 143) hE (d := dX8_closeMotion_139) (ht := by decide) ?_
          exact z_iret hE hR dX8_closeMotion_143 (congrArg (fun x => some (Value.int (i32 x))) (by unfold rv_closeMotion; first | (rw [if_pos (by omega), if_pos (by omega), zbo_t hcp]; done) | (rw [if_pos (by omega), if_pos (by omega), zbo_f hcp]; done) | (rw [if_pos (by omega), if_neg (by omega)]; done) | (rw [if_neg (by omega)]; done))) (by first | ((rw [if_pos (by omega)]) <;> (unfold sp_clo; first | (rw [if_pos hcp, up_ne (by omega), up_ne (by omega)]; done) | (rw [if_neg hcp]; done))) | (rw [if_neg (by omega)]))
    · refine z_ldc (a := -2000000002) hE zk_X8_92 (by decide) dX8_closeMotion_26 ?_
      exact z_iret hE hR dX8_closeMotion_28 (congrArg (fun x => some (Value.int (i32 x))) (by unfold rv_closeMotion; first | (rw [if_pos (by omega), if_pos (by omega), zbo_t hcp]; done) | (rw [if_pos (by omega), if_pos (by omega), zbo_f hcp]; done) | (rw [if_pos (by omega), if_neg (by omega)]; done) | (rw [if_neg (by omega)]; done))) (by first | ((rw [if_pos (by omega)]) <;> (unfold sp_clo; first | (rw [if_pos hcp, up_ne (by omega), up_ne (by omega)]; done) | (rw [if_neg hcp]; done))) | (rw [if_neg (by omega)]))
  · refine z_ldc (a := -2000000001) hE zk_X8_68 (by decide) dX8_closeMotion_8 ?_
    exact z_iret hE hR dX8_closeMotion_10 (congrArg (fun x => some (Value.int (i32 x))) (by unfold rv_closeMotion; first | (rw [if_pos (by omega), if_pos (by omega), zbo_t hcp]; done) | (rw [if_pos (by omega), if_pos (by omega), zbo_f hcp]; done) | (rw [if_pos (by omega), if_neg (by omega)]; done) | (rw [if_neg (by omega)]; done))) (by first | ((rw [if_pos (by omega)]) <;> (unfold sp_clo; first | (rw [if_pos hcp, up_ne (by omega), up_ne (by omega)]; done) | (rw [if_neg hcp]; done))) | (rw [if_neg (by omega)]))
theorem dX8_sells_0 : decode cX8_sells 0 = .ok (.aload_n 0, 1) := by decide +kernel
theorem dX8_sells_1 : decode cX8_sells 1 = .ok (.getfield 7, 3) := by decide +kernel
theorem dX8_sells_4 : decode cX8_sells 4 = .ok (.iload_n 1, 1) := by decide +kernel
theorem dX8_sells_5 : decode cX8_sells 5 = .ok (.iconst 0, 1) := by decide +kernel
theorem dX8_sells_6 : decode cX8_sells 6 = .ok (.invokestatic 54, 3) := by decide +kernel
theorem dX8_sells_9 : decode cX8_sells 9 = .ok (.laload, 1) := by decide +kernel
theorem dX8_sells_10 : decode cX8_sells 10 = .ok (.l2i, 1) := by decide +kernel
theorem dX8_sells_11 : decode cX8_sells 11 = .ok (.istore 8, 2) := by decide +kernel
theorem dX8_sells_13 : decode cX8_sells 13 = .ok (.aload_n 0, 1) := by decide +kernel
theorem dX8_sells_14 : decode cX8_sells 14 = .ok (.getfield 7, 3) := by decide +kernel
theorem dX8_sells_17 : decode cX8_sells 17 = .ok (.iload 8, 2) := by decide +kernel
theorem dX8_sells_19 : decode cX8_sells 19 = .ok (.iconst 0, 1) := by decide +kernel
theorem dX8_sells_20 : decode cX8_sells 20 = .ok (.invokestatic 46, 3) := by decide +kernel
theorem dX8_sells_23 : decode cX8_sells 23 = .ok (.dup2, 1) := by decide +kernel
theorem dX8_sells_24 : decode cX8_sells 24 = .ok (.laload, 1) := by decide +kernel
theorem dX8_sells_25 : decode cX8_sells 25 = .ok (.lload_n 3, 1) := by decide +kernel
theorem dX8_sells_26 : decode cX8_sells 26 = .ok (.lsub, 1) := by decide +kernel
theorem dX8_sells_27 : decode cX8_sells 27 = .ok (.lastore, 1) := by decide +kernel
theorem dX8_sells_28 : decode cX8_sells 28 = .ok (.aload_n 0, 1) := by decide +kernel
theorem dX8_sells_29 : decode cX8_sells 29 = .ok (.getfield 7, 3) := by decide +kernel
theorem dX8_sells_32 : decode cX8_sells 32 = .ok (.iload 8, 2) := by decide +kernel
theorem dX8_sells_34 : decode cX8_sells 34 = .ok (.iconst 2, 1) := by decide +kernel
theorem dX8_sells_35 : decode cX8_sells 35 = .ok (.invokestatic 46, 3) := by decide +kernel
theorem dX8_sells_38 : decode cX8_sells 38 = .ok (.dup2, 1) := by decide +kernel
theorem dX8_sells_39 : decode cX8_sells 39 = .ok (.laload, 1) := by decide +kernel
theorem dX8_sells_40 : decode cX8_sells 40 = .ok (.lload_n 3, 1) := by decide +kernel
theorem dX8_sells_41 : decode cX8_sells 41 = .ok (.lload 5, 2) := by decide +kernel
theorem dX8_sells_43 : decode cX8_sells 43 = .ok (.lmul, 1) := by decide +kernel
theorem dX8_sells_44 : decode cX8_sells 44 = .ok (.ladd, 1) := by decide +kernel
theorem dX8_sells_45 : decode cX8_sells 45 = .ok (.lastore, 1) := by decide +kernel
theorem dX8_sells_46 : decode cX8_sells 46 = .ok (.iload_n 2, 1) := by decide +kernel
theorem dX8_sells_47 : decode cX8_sells 47 = .ok (.ifCond .ge 16, 3) := by decide +kernel
theorem dX8_sells_50 : decode cX8_sells 50 = .ok (.aload_n 0, 1) := by decide +kernel
theorem dX8_sells_51 : decode cX8_sells 51 = .ok (.getfield 7, 3) := by decide +kernel
theorem dX8_sells_54 : decode cX8_sells 54 = .ok (.iconst 2, 1) := by decide +kernel
theorem dX8_sells_55 : decode cX8_sells 55 = .ok (.dup2, 1) := by decide +kernel
theorem dX8_sells_56 : decode cX8_sells 56 = .ok (.laload, 1) := by decide +kernel
theorem dX8_sells_57 : decode cX8_sells 57 = .ok (.lload_n 3, 1) := by decide +kernel
theorem dX8_sells_58 : decode cX8_sells 58 = .ok (.ladd, 1) := by decide +kernel
theorem dX8_sells_59 : decode cX8_sells 59 = .ok (.lastore, 1) := by decide +kernel
theorem dX8_sells_60 : decode cX8_sells 60 = .ok (.goto 34, 3) := by decide +kernel
theorem dX8_sells_63 : decode cX8_sells 63 = .ok (.aload_n 0, 1) := by decide +kernel
theorem dX8_sells_64 : decode cX8_sells 64 = .ok (.getfield 7, 3) := by decide +kernel
theorem dX8_sells_67 : decode cX8_sells 67 = .ok (.iload_n 2, 1) := by decide +kernel
theorem dX8_sells_68 : decode cX8_sells 68 = .ok (.iconst 0, 1) := by decide +kernel
theorem dX8_sells_69 : decode cX8_sells 69 = .ok (.invokestatic 46, 3) := by decide +kernel
theorem dX8_sells_72 : decode cX8_sells 72 = .ok (.dup2, 1) := by decide +kernel
theorem dX8_sells_73 : decode cX8_sells 73 = .ok (.laload, 1) := by decide +kernel
theorem dX8_sells_74 : decode cX8_sells 74 = .ok (.lload_n 3, 1) := by decide +kernel
theorem dX8_sells_75 : decode cX8_sells 75 = .ok (.ladd, 1) := by decide +kernel
theorem dX8_sells_76 : decode cX8_sells 76 = .ok (.lastore, 1) := by decide +kernel
theorem dX8_sells_77 : decode cX8_sells 77 = .ok (.aload_n 0, 1) := by decide +kernel
theorem dX8_sells_78 : decode cX8_sells 78 = .ok (.getfield 7, 3) := by decide +kernel
theorem dX8_sells_81 : decode cX8_sells 81 = .ok (.iload_n 2, 1) := by decide +kernel
theorem dX8_sells_82 : decode cX8_sells 82 = .ok (.iconst 2, 1) := by decide +kernel
theorem dX8_sells_83 : decode cX8_sells 83 = .ok (.invokestatic 46, 3) := by decide +kernel
theorem dX8_sells_86 : decode cX8_sells 86 = .ok (.dup2, 1) := by decide +kernel
theorem dX8_sells_87 : decode cX8_sells 87 = .ok (.laload, 1) := by decide +kernel
theorem dX8_sells_88 : decode cX8_sells 88 = .ok (.lload_n 3, 1) := by decide +kernel
theorem dX8_sells_89 : decode cX8_sells 89 = .ok (.lload 5, 2) := by decide +kernel
theorem dX8_sells_91 : decode cX8_sells 91 = .ok (.lmul, 1) := by decide +kernel
theorem dX8_sells_92 : decode cX8_sells 92 = .ok (.lsub, 1) := by decide +kernel
theorem dX8_sells_93 : decode cX8_sells 93 = .ok (.lastore, 1) := by decide +kernel
theorem dX8_sells_94 : decode cX8_sells 94 = .ok (.aload_n 0, 1) := by decide +kernel
theorem dX8_sells_95 : decode cX8_sells 95 = .ok (.getfield 7, 3) := by decide +kernel
theorem dX8_sells_98 : decode cX8_sells 98 = .ok (.iload_n 1, 1) := by decide +kernel
theorem dX8_sells_99 : decode cX8_sells 99 = .ok (.iconst 2, 1) := by decide +kernel
theorem dX8_sells_100 : decode cX8_sells 100 = .ok (.invokestatic 54, 3) := by decide +kernel
theorem dX8_sells_103 : decode cX8_sells 103 = .ok (.dup2, 1) := by decide +kernel
theorem dX8_sells_104 : decode cX8_sells 104 = .ok (.laload, 1) := by decide +kernel
theorem dX8_sells_105 : decode cX8_sells 105 = .ok (.lload_n 3, 1) := by decide +kernel
theorem dX8_sells_106 : decode cX8_sells 106 = .ok (.lsub, 1) := by decide +kernel
theorem dX8_sells_107 : decode cX8_sells 107 = .ok (.lastore, 1) := by decide +kernel
theorem dX8_sells_108 : decode cX8_sells 108 = .ok (.aload_n 0, 1) := by decide +kernel
theorem dX8_sells_109 : decode cX8_sells 109 = .ok (.getfield 7, 3) := by decide +kernel
theorem dX8_sells_112 : decode cX8_sells 112 = .ok (.iload_n 1, 1) := by decide +kernel
theorem dX8_sells_113 : decode cX8_sells 113 = .ok (.bipush 6, 2) := by decide +kernel
theorem dX8_sells_115 : decode cX8_sells 115 = .ok (.iload 7, 2) := by decide +kernel
theorem dX8_sells_117 : decode cX8_sells 117 = .ok (.iadd, 1) := by decide +kernel
theorem dX8_sells_118 : decode cX8_sells 118 = .ok (.invokestatic 54, 3) := by decide +kernel
theorem dX8_sells_121 : decode cX8_sells 121 = .ok (.dup2, 1) := by decide +kernel
theorem dX8_sells_122 : decode cX8_sells 122 = .ok (.laload, 1) := by decide +kernel
theorem dX8_sells_123 : decode cX8_sells 123 = .ok (.lload_n 3, 1) := by decide +kernel
theorem dX8_sells_124 : decode cX8_sells 124 = .ok (.ladd, 1) := by decide +kernel
theorem dX8_sells_125 : decode cX8_sells 125 = .ok (.lastore, 1) := by decide +kernel
theorem dX8_sells_126 : decode cX8_sells 126 = .ok (.return_, 1) := by decide +kernel
theorem hy_X8_sells : yX8_sells.cls ≠ "java/lang/invoke/MethodHandle" ∧ yX8_sells.cls ≠ "java/lang/invoke/VarHandle" ∧ (parseMethodDescriptor yX8_sells.desc).map (fun d => d.parameters.length) = some 5 := ⟨by decide +kernel, by decide +kernel, by decide +kernel⟩
set_option maxHeartbeats 4000000 in
set_option maxRecDepth 100000 in
theorem c_X8_sells (l0 : Launch) (D0 : va_G) (cI0 cJ0 : ClassId) (ad : Nat → Nat → Nat) (S : zM) (o : Int) (to : Int) (n : Int) (pr : Int) (w : Int) (h0 : 0 ≤ o ∧ o < 20) (h2 : 0 ≤ S 7 (55 + 22 * o) ∧ S 7 (55 + 22 * o) < 12) (h3 : 0 ≤ w ∧ w < 4) (h4 : -1 ≤ to ∧ to < 12) : Ct l0 D0 cI0 cJ0 ad yX8_sells cX8_sells 9 none 1 21 [.ref (ad 6 27), .int (i32 o), .int (i32 to), .long (i64 n), .long (i64 pr), .int (i32 w)] S none (fun X => X = (us S 7 (if to < 0 then sp_take (uq (S 7) 2 n) o w n pr else sp_sell (S 7) o w to n pr))) := by
  refine Ct.of (by decide) (Nat.le_of_ble_eq_true rfl) (fun E hE hR => ?_)
  have hE : zG E l0 D0 cI0 cJ0 ad cX8_sells 9 RX8 1 21 := hE
  show Z E S 0 [(0, .ref (ad 6 27)), (1, .int (i32 o)), (2, .int (i32 to)), (3, .long (i64 n)), (5, .long (i64 pr)), (7, .int (i32 w))] []
  have h67 : (6 : Nat) ≠ 7 := by decide
  have h76 : (7 : Nat) ≠ 6 := by decide
  have h68 : (6 : Nat) ≠ 8 := by decide
  have h86 : (8 : Nat) ≠ 6 := by decide
  have h78 : (7 : Nat) ≠ 8 := by decide
  have h87 : (8 : Nat) ≠ 7 := by decide
  refine z_aload_n hE 0 rfl rfl dX8_sells_0 ?_
  refine gf_8_0 hE (by decide) zf_X8_7 dX8_sells_1 ?_
  refine z_iload_n hE 1 rfl rfl dX8_sells_4 ?_
  refine z_iconst hE dX8_sells_5 ?_
  refine z_callS hE (c_X8_o l0 D0 cI0 cJ0 ad S o 0 (55 + 22 * o) (by omega)) zm_X8_54 zt_yX8_o zn_RX8 zc_yX8_o (hy_X8_o) (Nat.le_of_ble_eq_true rfl) (Nat.le_of_ble_eq_true rfl) rfl rfl rfl (Nat.le_of_ble_eq_true rfl) dX8_sells_6 ?_
  refine al_28 hE (by decide) (by omega) (by omega) dX8_sells_9 ?_
  refine z_l2i hE dX8_sells_10 ?_
  refine z_istore hE (by decide) rfl dX8_sells_11 ?_
  refine z_aload_n hE 1 rfl rfl dX8_sells_13 ?_
  refine gf_8_0 hE (by decide) zf_X8_7 dX8_sells_14 ?_
  refine z_iload hE 0 rfl dX8_sells_17 ?_
  refine z_iconst hE dX8_sells_19 ?_
  refine z_callS hE (c_X8_m l0 D0 cI0 cJ0 ad S (S 7 (((55 + 22 * o)))) 0 (19 + 3 * (S 7 (((55 + 22 * o))))) (by omega)) zm_X8_46 zt_yX8_m zn_RX8 zc_yX8_m (hy_X8_m) (Nat.le_of_ble_eq_true rfl) (Nat.le_of_ble_eq_true rfl) rfl rfl rfl (Nat.le_of_ble_eq_true rfl) dX8_sells_20 ?_
  refine z_dup2 hE rfl rfl dX8_sells_23 ?_
  refine al_28 hE (by decide) (by omega) (by omega) dX8_sells_24 ?_
  refine z_lload_n hE 4 rfl rfl dX8_sells_25 ?_
  refine z_lsub hE dX8_sells_26 ?_
  refine as_28 hE (by decide) (by omega) (by omega) dX8_sells_27 ?_
  rw [show up (S 7) (19 + 3 * (S 7 (((55 + 22 * o))))) ((S 7 (((19 + 3 * (S 7 (((55 + 22 * o)))))))) - n) = uq (S 7) (19 + 3 * (S 7 (((55 + 22 * o))))) (-n) from uq_sub _ _ _]
  refine z_aload_n hE 1 rfl rfl dX8_sells_28 ?_
  refine gf_8_0 hE (by decide) zf_X8_7 dX8_sells_29 ?_
  refine z_iload hE 0 rfl dX8_sells_32 ?_
  refine z_iconst hE dX8_sells_34 ?_
  refine z_callS hE (c_X8_m l0 D0 cI0 cJ0 ad (us S 7 (uq (S 7) (19 + 3 * (S 7 (((55 + 22 * o))))) (-n))) (S 7 (((55 + 22 * o)))) 2 (21 + 3 * (S 7 (((55 + 22 * o))))) (by first | omega | (simp only [us_eq, us_ne h67, us_ne h76, us_ne h68, us_ne h86, us_ne h78, us_ne h87]; omega))) zm_X8_46 zt_yX8_m zn_RX8 zc_yX8_m (hy_X8_m) (Nat.le_of_ble_eq_true rfl) (Nat.le_of_ble_eq_true rfl) rfl rfl rfl (Nat.le_of_ble_eq_true rfl) dX8_sells_35 ?_
  try simp only [us_eq, us_us, us_ne h67, us_ne h76, us_ne h68, us_ne h86, us_ne h78, us_ne h87, us_in h67, us_in h76]
  refine z_dup2 hE rfl rfl dX8_sells_38 ?_
  refine al_28 hE (by decide) (by omega) (by omega) dX8_sells_39 ?_
  try simp only [us_eq, us_us, us_ne h67, us_ne h76, us_ne h68, us_ne h86, us_ne h78, us_ne h87, us_in h67, us_in h76]
  refine z_lload_n hE 4 rfl rfl dX8_sells_40 ?_
  refine z_lload hE 5 rfl dX8_sells_41 ?_
  refine z_lmul hE dX8_sells_43 ?_
  refine z_ladd hE dX8_sells_44 ?_
  refine as_28 hE (by decide) (by omega) (by omega) dX8_sells_45 ?_
  try simp only [us_eq, us_us, us_ne h67, us_ne h76, us_ne h68, us_ne h86, us_ne h78, us_ne h87, us_in h67, us_in h76]
  rw [show up (uq (S 7) (19 + 3 * (S 7 (((55 + 22 * o))))) (-n)) (21 + 3 * (S 7 (((55 + 22 * o))))) (((uq (S 7) (19 + 3 * (S 7 (((55 + 22 * o))))) (-n)) (((21 + 3 * (S 7 (((55 + 22 * o)))))))) + (n * pr)) = uq (uq (S 7) (19 + 3 * (S 7 (((55 + 22 * o))))) (-n)) (21 + 3 * (S 7 (((55 + 22 * o))))) (n * pr) from rfl]
  refine z_iload_n hE 3 rfl rfl dX8_sells_46 ?_
  refine z_if_ge (tgt := 63) hE dX8_sells_47 (by decide) ⟨by omega, by omega⟩ (fun c1 => ?_) (fun c1 => ?_)
  · refine z_aload_n hE 1 rfl rfl dX8_sells_63 ?_
    refine gf_8_0 hE (by decide) zf_X8_7 dX8_sells_64 ?_
    refine z_iload_n hE 3 rfl rfl dX8_sells_67 ?_
    refine z_iconst hE dX8_sells_68 ?_
    refine z_callS hE (c_X8_m l0 D0 cI0 cJ0 ad (us S 7 (uq (uq (S 7) (19 + 3 * (S 7 (((55 + 22 * o))))) (-n)) (21 + 3 * (S 7 (((55 + 22 * o))))) (n * pr))) to 0 (19 + 3 * to) (by first | omega | (simp only [us_eq, us_ne h67, us_ne h76, us_ne h68, us_ne h86, us_ne h78, us_ne h87]; omega))) zm_X8_46 zt_yX8_m zn_RX8 zc_yX8_m (hy_X8_m) (Nat.le_of_ble_eq_true rfl) (Nat.le_of_ble_eq_true rfl) rfl rfl rfl (Nat.le_of_ble_eq_true rfl) dX8_sells_69 ?_
    try simp only [us_eq, us_us, us_ne h67, us_ne h76, us_ne h68, us_ne h86, us_ne h78, us_ne h87, us_in h67, us_in h76]
    refine z_dup2 hE rfl rfl dX8_sells_72 ?_
    refine al_28 hE (by decide) (by omega) (by omega) dX8_sells_73 ?_
    try simp only [us_eq, us_us, us_ne h67, us_ne h76, us_ne h68, us_ne h86, us_ne h78, us_ne h87, us_in h67, us_in h76]
    refine z_lload_n hE 4 rfl rfl dX8_sells_74 ?_
    refine z_ladd hE dX8_sells_75 ?_
    refine as_28 hE (by decide) (by omega) (by omega) dX8_sells_76 ?_
    try simp only [us_eq, us_us, us_ne h67, us_ne h76, us_ne h68, us_ne h86, us_ne h78, us_ne h87, us_in h67, us_in h76]
    rw [show up (uq (uq (S 7) (19 + 3 * (S 7 (((55 + 22 * o))))) (-n)) (21 + 3 * (S 7 (((55 + 22 * o))))) (n * pr)) (19 + 3 * to) (((uq (uq (S 7) (19 + 3 * (S 7 (((55 + 22 * o))))) (-n)) (21 + 3 * (S 7 (((55 + 22 * o))))) (n * pr)) (((19 + 3 * to)))) + n) = uq (uq (uq (S 7) (19 + 3 * (S 7 (((55 + 22 * o))))) (-n)) (21 + 3 * (S 7 (((55 + 22 * o))))) (n * pr)) (19 + 3 * to) n from rfl]
    refine z_aload_n hE 1 rfl rfl dX8_sells_77 ?_
    refine gf_8_0 hE (by decide) zf_X8_7 dX8_sells_78 ?_
    refine z_iload_n hE 3 rfl rfl dX8_sells_81 ?_
    refine z_iconst hE dX8_sells_82 ?_
    refine z_callS hE (c_X8_m l0 D0 cI0 cJ0 ad (us S 7 (uq (uq (uq (S 7) (19 + 3 * (S 7 (((55 + 22 * o))))) (-n)) (21 + 3 * (S 7 (((55 + 22 * o))))) (n * pr)) (19 + 3 * to) n)) to 2 (21 + 3 * to) (by first | omega | (simp only [us_eq, us_ne h67, us_ne h76, us_ne h68, us_ne h86, us_ne h78, us_ne h87]; omega))) zm_X8_46 zt_yX8_m zn_RX8 zc_yX8_m (hy_X8_m) (Nat.le_of_ble_eq_true rfl) (Nat.le_of_ble_eq_true rfl) rfl rfl rfl (Nat.le_of_ble_eq_true rfl) dX8_sells_83 ?_
    try simp only [us_eq, us_us, us_ne h67, us_ne h76, us_ne h68, us_ne h86, us_ne h78, us_ne h87, us_in h67, us_in h76]
    refine z_dup2 hE rfl rfl dX8_sells_86 ?_
    refine al_28 hE (by decide) (by omega) (by omega) dX8_sells_87 ?_
    try simp only [us_eq, us_us, us_ne h67, us_ne h76, us_ne h68, us_ne h86, us_ne h78, us_ne h87, us_in h67, us_in h76]
    refine z_lload_n hE 4 rfl rfl dX8_sells_88 ?_
    refine z_lload hE 5 rfl dX8_sells_89 ?_
    refine z_lmul hE dX8_sells_91 ?_
    refine z_lsub hE dX8_sells_92 ?_
    refine as_28 hE (by decide) (by omega) (by omega) dX8_sells_93 ?_
    try simp only [us_eq, us_us, us_ne h67, us_ne h76, us_ne h68, us_ne h86, us_ne h78, us_ne h87, us_in h67, us_in h76]
    rw [show up (uq (uq (uq (S 7) (19 + 3 * (S 7 (((55 + 22 * o))))) (-n)) (21 + 3 * (S 7 (((55 + 22 * o))))) (n * pr)) (19 + 3 * to) n) (21 + 3 * to) (((uq (uq (uq (S 7) (19 + 3 * (S 7 (((55 + 22 * o))))) (-n)) (21 + 3 * (S 7 (((55 + 22 * o))))) (n * pr)) (19 + 3 * to) n) (((21 + 3 * to)))) - (n * pr)) = uq (uq (uq (uq (S 7) (19 + 3 * (S 7 (((55 + 22 * o))))) (-n)) (21 + 3 * (S 7 (((55 + 22 * o))))) (n * pr)) (19 + 3 * to) n) (21 + 3 * to) (-(n * pr)) from uq_sub _ _ _]
    refine z_aload_n hE 1 rfl rfl dX8_sells_94 ?_
    refine gf_8_0 hE (by decide) zf_X8_7 dX8_sells_95 ?_
    refine z_iload_n hE 2 rfl rfl dX8_sells_98 ?_
    refine z_iconst hE dX8_sells_99 ?_
    refine z_callS hE (c_X8_o l0 D0 cI0 cJ0 ad (us S 7 (uq (uq (uq (uq (S 7) (19 + 3 * (S 7 (((55 + 22 * o))))) (-n)) (21 + 3 * (S 7 (((55 + 22 * o))))) (n * pr)) (19 + 3 * to) n) (21 + 3 * to) (-(n * pr)))) o 2 (57 + 22 * o) (by first | omega | (simp only [us_eq, us_ne h67, us_ne h76, us_ne h68, us_ne h86, us_ne h78, us_ne h87]; omega))) zm_X8_54 zt_yX8_o zn_RX8 zc_yX8_o (hy_X8_o) (Nat.le_of_ble_eq_true rfl) (Nat.le_of_ble_eq_true rfl) rfl rfl rfl (Nat.le_of_ble_eq_true rfl) dX8_sells_100 ?_
    try simp only [us_eq, us_us, us_ne h67, us_ne h76, us_ne h68, us_ne h86, us_ne h78, us_ne h87, us_in h67, us_in h76]
    refine z_dup2 hE rfl rfl dX8_sells_103 ?_
    refine al_28 hE (by decide) (by omega) (by omega) dX8_sells_104 ?_
    try simp only [us_eq, us_us, us_ne h67, us_ne h76, us_ne h68, us_ne h86, us_ne h78, us_ne h87, us_in h67, us_in h76]
    refine z_lload_n hE 4 rfl rfl dX8_sells_105 ?_
    refine z_lsub hE dX8_sells_106 ?_
    refine as_28 hE (by decide) (by omega) (by omega) dX8_sells_107 ?_
    try simp only [us_eq, us_us, us_ne h67, us_ne h76, us_ne h68, us_ne h86, us_ne h78, us_ne h87, us_in h67, us_in h76]
    rw [show up (uq (uq (uq (uq (S 7) (19 + 3 * (S 7 (((55 + 22 * o))))) (-n)) (21 + 3 * (S 7 (((55 + 22 * o))))) (n * pr)) (19 + 3 * to) n) (21 + 3 * to) (-(n * pr))) (57 + 22 * o) (((uq (uq (uq (uq (S 7) (19 + 3 * (S 7 (((55 + 22 * o))))) (-n)) (21 + 3 * (S 7 (((55 + 22 * o))))) (n * pr)) (19 + 3 * to) n) (21 + 3 * to) (-(n * pr))) (((57 + 22 * o)))) - n) = uq (uq (uq (uq (uq (S 7) (19 + 3 * (S 7 (((55 + 22 * o))))) (-n)) (21 + 3 * (S 7 (((55 + 22 * o))))) (n * pr)) (19 + 3 * to) n) (21 + 3 * to) (-(n * pr))) (57 + 22 * o) (-n) from uq_sub _ _ _]
    refine z_aload_n hE 1 rfl rfl dX8_sells_108 ?_
    refine gf_8_0 hE (by decide) zf_X8_7 dX8_sells_109 ?_
    refine z_iload_n hE 2 rfl rfl dX8_sells_112 ?_
    refine z_bipush (a := 6) hE (by decide) dX8_sells_113 ?_
    refine z_iload hE 6 rfl dX8_sells_115 ?_
    refine z_iadd hE dX8_sells_117 ?_
    refine z_callS hE (c_X8_o l0 D0 cI0 cJ0 ad (us S 7 (uq (uq (uq (uq (uq (S 7) (19 + 3 * (S 7 (((55 + 22 * o))))) (-n)) (21 + 3 * (S 7 (((55 + 22 * o))))) (n * pr)) (19 + 3 * to) n) (21 + 3 * to) (-(n * pr))) (57 + 22 * o) (-n))) o (6 + w) (61 + 22 * o + w) (by first | omega | (simp only [us_eq, us_ne h67, us_ne h76, us_ne h68, us_ne h86, us_ne h78, us_ne h87]; omega))) zm_X8_54 zt_yX8_o zn_RX8 zc_yX8_o (hy_X8_o) (Nat.le_of_ble_eq_true rfl) (Nat.le_of_ble_eq_true rfl) rfl rfl rfl (Nat.le_of_ble_eq_true rfl) dX8_sells_118 ?_
    try simp only [us_eq, us_us, us_ne h67, us_ne h76, us_ne h68, us_ne h86, us_ne h78, us_ne h87, us_in h67, us_in h76]
    refine z_dup2 hE rfl rfl dX8_sells_121 ?_
    refine al_28 hE (by decide) (by omega) (by omega) dX8_sells_122 ?_
    try simp only [us_eq, us_us, us_ne h67, us_ne h76, us_ne h68, us_ne h86, us_ne h78, us_ne h87, us_in h67, us_in h76]
    refine z_lload_n hE 4 rfl rfl dX8_sells_123 ?_
    refine z_ladd hE dX8_sells_124 ?_
    refine as_28 hE (by decide) (by omega) (by omega) dX8_sells_125 ?_
    try simp only [us_eq, us_us, us_ne h67, us_ne h76, us_ne h68, us_ne h86, us_ne h78, us_ne h87, us_in h67, us_in h76]
    rw [show up (uq (uq (uq (uq (uq (S 7) (19 + 3 * (S 7 (((55 + 22 * o))))) (-n)) (21 + 3 * (S 7 (((55 + 22 * o))))) (n * pr)) (19 + 3 * to) n) (21 + 3 * to) (-(n * pr))) (57 + 22 * o) (-n)) (61 + 22 * o + w) (((uq (uq (uq (uq (uq (S 7) (19 + 3 * (S 7 (((55 + 22 * o))))) (-n)) (21 + 3 * (S 7 (((55 + 22 * o))))) (n * pr)) (19 + 3 * to) n) (21 + 3 * to) (-(n * pr))) (57 + 22 * o) (-n)) (((61 + 22 * o + w)))) + n) = uq (uq (uq (uq (uq (uq (S 7) (19 + 3 * (S 7 (((55 + 22 * o))))) (-n)) (21 + 3 * (S 7 (((55 + 22 * o))))) (n * pr)) (19 + 3 * to) n) (21 + 3 * to) (-(n * pr))) (57 + 22 * o) (-n)) (61 + 22 * o + w) n from rfl]
    exact z_vret hE hR dX8_sells_126 rfl (by first | (rw [if_pos (by omega), sells_A]; done) | (rw [if_neg (by omega), sells_B h0.1 (by omega)]; done))
  · refine z_aload_n hE 1 rfl rfl dX8_sells_50 ?_
    refine gf_8_0 hE (by decide) zf_X8_7 dX8_sells_51 ?_
    refine z_iconst hE dX8_sells_54 ?_
    refine z_dup2 hE rfl rfl dX8_sells_55 ?_
    refine al_28 hE (by decide) (by omega) (by omega) dX8_sells_56 ?_
    try simp only [us_eq, us_us, us_ne h67, us_ne h76, us_ne h68, us_ne h86, us_ne h78, us_ne h87, us_in h67, us_in h76]
    refine z_lload_n hE 4 rfl rfl dX8_sells_57 ?_
    refine z_ladd hE dX8_sells_58 ?_
    refine as_28 hE (by decide) (by omega) (by omega) dX8_sells_59 ?_
    try simp only [us_eq, us_us, us_ne h67, us_ne h76, us_ne h68, us_ne h86, us_ne h78, us_ne h87, us_in h67, us_in h76]
    rw [show up (uq (uq (S 7) (19 + 3 * (S 7 (((55 + 22 * o))))) (-n)) (21 + 3 * (S 7 (((55 + 22 * o))))) (n * pr)) 2 (((uq (uq (S 7) (19 + 3 * (S 7 (((55 + 22 * o))))) (-n)) (21 + 3 * (S 7 (((55 + 22 * o))))) (n * pr)) 2) + n) = uq (uq (uq (S 7) (19 + 3 * (S 7 (((55 + 22 * o))))) (-n)) (21 + 3 * (S 7 (((55 + 22 * o))))) (n * pr)) 2 n from rfl]
    refine z_goto (tgt := 94) hE (d := dX8_sells_60) (ht := by decide) ?_
    refine z_aload_n hE 1 rfl rfl dX8_sells_94 ?_
    refine gf_8_0 hE (by decide) zf_X8_7 dX8_sells_95 ?_
    refine z_iload_n hE 2 rfl rfl dX8_sells_98 ?_
    refine z_iconst hE dX8_sells_99 ?_
    refine z_callS hE (c_X8_o l0 D0 cI0 cJ0 ad (us S 7 (uq (uq (uq (S 7) (19 + 3 * (S 7 (((55 + 22 * o))))) (-n)) (21 + 3 * (S 7 (((55 + 22 * o))))) (n * pr)) 2 n)) o 2 (57 + 22 * o) (by first | omega | (simp only [us_eq, us_ne h67, us_ne h76, us_ne h68, us_ne h86, us_ne h78, us_ne h87]; omega))) zm_X8_54 zt_yX8_o zn_RX8 zc_yX8_o (hy_X8_o) (Nat.le_of_ble_eq_true rfl) (Nat.le_of_ble_eq_true rfl) rfl rfl rfl (Nat.le_of_ble_eq_true rfl) dX8_sells_100 ?_
    try simp only [us_eq, us_us, us_ne h67, us_ne h76, us_ne h68, us_ne h86, us_ne h78, us_ne h87, us_in h67, us_in h76]
    refine z_dup2 hE rfl rfl dX8_sells_103 ?_
    refine al_28 hE (by decide) (by omega) (by omega) dX8_sells_104 ?_
    try simp only [us_eq, us_us, us_ne h67, us_ne h76, us_ne h68, us_ne h86, us_ne h78, us_ne h87, us_in h67, us_in h76]
    refine z_lload_n hE 4 rfl rfl dX8_sells_105 ?_
    refine z_lsub hE dX8_sells_106 ?_
    refine as_28 hE (by decide) (by omega) (by omega) dX8_sells_107 ?_
    try simp only [us_eq, us_us, us_ne h67, us_ne h76, us_ne h68, us_ne h86, us_ne h78, us_ne h87, us_in h67, us_in h76]
    rw [show up (uq (uq (uq (S 7) (19 + 3 * (S 7 (((55 + 22 * o))))) (-n)) (21 + 3 * (S 7 (((55 + 22 * o))))) (n * pr)) 2 n) (57 + 22 * o) (((uq (uq (uq (S 7) (19 + 3 * (S 7 (((55 + 22 * o))))) (-n)) (21 + 3 * (S 7 (((55 + 22 * o))))) (n * pr)) 2 n) (((57 + 22 * o)))) - n) = uq (uq (uq (uq (S 7) (19 + 3 * (S 7 (((55 + 22 * o))))) (-n)) (21 + 3 * (S 7 (((55 + 22 * o))))) (n * pr)) 2 n) (57 + 22 * o) (-n) from uq_sub _ _ _]
    refine z_aload_n hE 1 rfl rfl dX8_sells_108 ?_
    refine gf_8_0 hE (by decide) zf_X8_7 dX8_sells_109 ?_
    refine z_iload_n hE 2 rfl rfl dX8_sells_112 ?_
    refine z_bipush (a := 6) hE (by decide) dX8_sells_113 ?_
    refine z_iload hE 6 rfl dX8_sells_115 ?_
    refine z_iadd hE dX8_sells_117 ?_
    refine z_callS hE (c_X8_o l0 D0 cI0 cJ0 ad (us S 7 (uq (uq (uq (uq (S 7) (19 + 3 * (S 7 (((55 + 22 * o))))) (-n)) (21 + 3 * (S 7 (((55 + 22 * o))))) (n * pr)) 2 n) (57 + 22 * o) (-n))) o (6 + w) (61 + 22 * o + w) (by first | omega | (simp only [us_eq, us_ne h67, us_ne h76, us_ne h68, us_ne h86, us_ne h78, us_ne h87]; omega))) zm_X8_54 zt_yX8_o zn_RX8 zc_yX8_o (hy_X8_o) (Nat.le_of_ble_eq_true rfl) (Nat.le_of_ble_eq_true rfl) rfl rfl rfl (Nat.le_of_ble_eq_true rfl) dX8_sells_118 ?_
    try simp only [us_eq, us_us, us_ne h67, us_ne h76, us_ne h68, us_ne h86, us_ne h78, us_ne h87, us_in h67, us_in h76]
    refine z_dup2 hE rfl rfl dX8_sells_121 ?_
    refine al_28 hE (by decide) (by omega) (by omega) dX8_sells_122 ?_
    try simp only [us_eq, us_us, us_ne h67, us_ne h76, us_ne h68, us_ne h86, us_ne h78, us_ne h87, us_in h67, us_in h76]
    refine z_lload_n hE 4 rfl rfl dX8_sells_123 ?_
    refine z_ladd hE dX8_sells_124 ?_
    refine as_28 hE (by decide) (by omega) (by omega) dX8_sells_125 ?_
    try simp only [us_eq, us_us, us_ne h67, us_ne h76, us_ne h68, us_ne h86, us_ne h78, us_ne h87, us_in h67, us_in h76]
    rw [show up (uq (uq (uq (uq (S 7) (19 + 3 * (S 7 (((55 + 22 * o))))) (-n)) (21 + 3 * (S 7 (((55 + 22 * o))))) (n * pr)) 2 n) (57 + 22 * o) (-n)) (61 + 22 * o + w) (((uq (uq (uq (uq (S 7) (19 + 3 * (S 7 (((55 + 22 * o))))) (-n)) (21 + 3 * (S 7 (((55 + 22 * o))))) (n * pr)) 2 n) (57 + 22 * o) (-n)) (((61 + 22 * o + w)))) + n) = uq (uq (uq (uq (uq (S 7) (19 + 3 * (S 7 (((55 + 22 * o))))) (-n)) (21 + 3 * (S 7 (((55 + 22 * o))))) (n * pr)) 2 n) (57 + 22 * o) (-n)) (61 + 22 * o + w) n from rfl]
    exact z_vret hE hR dX8_sells_126 rfl (by first | (rw [if_pos (by omega), sells_A]; done) | (rw [if_neg (by omega), sells_B h0.1 (by omega)]; done))
theorem dX8_greatest_0 : decode cX8_greatest 0 = .ok (.iconst 0, 1) := by decide +kernel
theorem dX8_greatest_1 : decode cX8_greatest 1 = .ok (.istore_n 1, 1) := by decide +kernel
theorem dX8_greatest_2 : decode cX8_greatest 2 = .ok (.iconst 1, 1) := by decide +kernel
theorem dX8_greatest_3 : decode cX8_greatest 3 = .ok (.istore_n 2, 1) := by decide +kernel
theorem dX8_greatest_4 : decode cX8_greatest 4 = .ok (.iload_n 2, 1) := by decide +kernel
theorem dX8_greatest_5 : decode cX8_greatest 5 = .ok (.bipush 12, 2) := by decide +kernel
theorem dX8_greatest_7 : decode cX8_greatest 7 = .ok (.if_icmp .ge 31, 3) := by decide +kernel
theorem dX8_greatest_10 : decode cX8_greatest 10 = .ok (.aload_n 0, 1) := by decide +kernel
theorem dX8_greatest_11 : decode cX8_greatest 11 = .ok (.getfield 22, 3) := by decide +kernel
theorem dX8_greatest_14 : decode cX8_greatest 14 = .ok (.iload_n 2, 1) := by decide +kernel
theorem dX8_greatest_15 : decode cX8_greatest 15 = .ok (.laload, 1) := by decide +kernel
theorem dX8_greatest_16 : decode cX8_greatest 16 = .ok (.aload_n 0, 1) := by decide +kernel
theorem dX8_greatest_17 : decode cX8_greatest 17 = .ok (.getfield 22, 3) := by decide +kernel
theorem dX8_greatest_20 : decode cX8_greatest 20 = .ok (.iload_n 1, 1) := by decide +kernel
theorem dX8_greatest_21 : decode cX8_greatest 21 = .ok (.laload, 1) := by decide +kernel
theorem dX8_greatest_22 : decode cX8_greatest 22 = .ok (.lcmp, 1) := by decide +kernel
theorem dX8_greatest_23 : decode cX8_greatest 23 = .ok (.ifCond .le 7, 3) := by decide +kernel
theorem dX8_greatest_26 : decode cX8_greatest 26 = .ok (.iload_n 2, 1) := by decide +kernel
theorem dX8_greatest_27 : decode cX8_greatest 27 = .ok (.goto 4, 3) := by decide +kernel
theorem dX8_greatest_30 : decode cX8_greatest 30 = .ok (.iload_n 1, 1) := by decide +kernel
theorem dX8_greatest_31 : decode cX8_greatest 31 = .ok (.istore_n 1, 1) := by decide +kernel
theorem dX8_greatest_32 : decode cX8_greatest 32 = .ok (.iinc 2 1, 3) := by decide +kernel
theorem dX8_greatest_35 : decode cX8_greatest 35 = .ok (.goto (-31), 3) := by decide +kernel
theorem dX8_greatest_38 : decode cX8_greatest 38 = .ok (.iload_n 1, 1) := by decide +kernel
theorem dX8_greatest_39 : decode cX8_greatest 39 = .ok (.ireturn, 1) := by decide +kernel
theorem hy_X8_greatest : yX8_greatest.cls ≠ "java/lang/invoke/MethodHandle" ∧ yX8_greatest.cls ≠ "java/lang/invoke/VarHandle" ∧ (parseMethodDescriptor yX8_greatest.desc).map (fun d => d.parameters.length) = some 0 := ⟨by decide +kernel, by decide +kernel, by decide +kernel⟩
set_option maxHeartbeats 4000000 in
set_option maxRecDepth 100000 in
theorem lp_X8_greatest {E : zE} {l0 : Launch} {D0 : va_G} {cI0 cJ0 : ClassId} {ad : Nat → Nat → Nat} (hE : zG E l0 D0 cI0 cJ0 ad cX8_greatest 3 RX8 0 0) (S : zM) (hr6 : ∀ k : Int, 0 ≤ k → k < 12 → -1 ≤ S 6 (300 + k) ∧ S 6 (300 + k) ≤ 12000) (hR : zR E (some .int) (some (.int (i32 (bst (fun k => S 6 (300 + k)) 11)))) (fun X => X = S)) : ∀ (fuel : Nat) (i : Int) (h9 : 1 ≤ i ∧ i ≤ 12), (12 - i).toNat < fuel → Z E S 4 [(2, .int (i32 i)), (1, .int (i32 (bst (fun k => S 6 (300 + k)) (i - 1).toNat))), (0, .ref (ad 6 27))] [] := by
  intro fuel
  induction fuel with
  | zero => intro _ _ hz; omega
  | succ fuel ih =>
    intro i h9 hz
    have hb := bst_b (fun k => S 6 (300 + k)) (i - 1).toNat
    have e9 := bst_s (f := (fun k => S 6 (300 + k))) (i := i) h9.1
    have h7 := hr6 (bst (fun k => S 6 (300 + k)) (i - 1).toNat) hb.1 (by omega)
    refine z_iload_n hE 0 rfl rfl dX8_greatest_4 ?_
    refine z_bipush (a := 12) hE (by decide) dX8_greatest_5 ?_
    refine z_icmp_ge (tgt := 38) hE dX8_greatest_7 (by decide) ⟨by omega, by omega⟩ ⟨by omega, by omega⟩ (fun c1 => ?_) (fun c1 => ?_)
    · refine z_iload_n hE 1 rfl rfl dX8_greatest_38 ?_
      exact z_iret hE hR dX8_greatest_39 (congrArg (fun x => some (Value.int (i32 x))) (by rw [show i = 12 by omega]; rfl)) (by first | rfl | (simp only [us_id]))
    · have h6 := hr6 i (by omega) (by omega)
      refine z_aload_n hE 2 rfl rfl dX8_greatest_10 ?_
      refine gf_8_5 hE (by decide) zf_X8_22 dX8_greatest_11 ?_
      refine z_iload_n hE 0 rfl rfl dX8_greatest_14 ?_
      refine al_32 hE (by decide) (by omega) (by omega) dX8_greatest_15 ?_
      refine z_aload_n hE 2 rfl rfl dX8_greatest_16 ?_
      refine gf_8_5 hE (by decide) zf_X8_22 dX8_greatest_17 ?_
      refine z_iload_n hE 1 rfl rfl dX8_greatest_20 ?_
      refine al_32 hE (by decide) (by omega) (by omega) dX8_greatest_21 ?_
      refine z_lcmp hE ⟨by omega, by omega⟩ ⟨by omega, by omega⟩ dX8_greatest_22 ?_
      refine z_ifl_le (tgt := 30) hE dX8_greatest_23 (by decide) (fun c2 => ?_) (fun c2 => ?_)
      · refine z_iload_n hE 1 rfl rfl dX8_greatest_30 ?_
        refine z_istore_n hE rfl (by decide) rfl dX8_greatest_31 ?_
        refine z_iinc hE 1 rfl (by decide) rfl dX8_greatest_32 ?_
        refine z_goto (tgt := 4) hE (d := dX8_greatest_35) (ht := by decide) ?_
        refine z_L (L' := [(2, .int (i32 (i + 1))), (1, .int (i32 (bst (fun k => S 6 (300 + k)) ((i + 1) - 1).toNat))), (0, .ref (ad 6 27))]) [0, 1, 2] (by rw [show bst (fun k => S 6 (300 + k)) ((i + 1) - 1).toNat = bst (fun k => S 6 (300 + k)) (i - 1).toNat from by first | rfl | ((rw [show i + 1 - 1 = i by omega, e9]; first | exact if_pos (by omega) | exact if_neg (by omega)))]; rfl) ?_
        exact ih (i + 1) ⟨by omega, by omega⟩ (by omega)
      · refine z_iload_n hE 0 rfl rfl dX8_greatest_26 ?_
        refine z_goto (tgt := 31) hE (d := dX8_greatest_27) (ht := by decide) ?_
        refine z_istore_n hE rfl (by decide) rfl dX8_greatest_31 ?_
        refine z_iinc hE 1 rfl (by decide) rfl dX8_greatest_32 ?_
        refine z_goto (tgt := 4) hE (d := dX8_greatest_35) (ht := by decide) ?_
        refine z_L (L' := [(2, .int (i32 (i + 1))), (1, .int (i32 (bst (fun k => S 6 (300 + k)) ((i + 1) - 1).toNat))), (0, .ref (ad 6 27))]) [0, 1, 2] (by rw [show bst (fun k => S 6 (300 + k)) ((i + 1) - 1).toNat = i from by first | rfl | ((rw [show i + 1 - 1 = i by omega, e9]; first | exact if_pos (by omega) | exact if_neg (by omega)))]; rfl) ?_
        exact ih (i + 1) ⟨by omega, by omega⟩ (by omega)
set_option maxHeartbeats 4000000 in
set_option maxRecDepth 100000 in
theorem c_X8_greatest (l0 : Launch) (D0 : va_G) (cI0 cJ0 : ClassId) (ad : Nat → Nat → Nat) (S : zM) (hr6 : ∀ k : Int, 0 ≤ k → k < 12 → -1 ≤ S 6 (300 + k) ∧ S 6 (300 + k) ≤ 12000) : Ct l0 D0 cI0 cJ0 ad yX8_greatest cX8_greatest 3 (some .int) 0 0 [.ref (ad 6 27)] S (some (.int (i32 (bst (fun k => S 6 (300 + k)) 11)))) (fun X => X = S) := by
  refine Ct.of (by decide) (Nat.le_of_ble_eq_true rfl) (fun E hE hR => ?_)
  have hE : zG E l0 D0 cI0 cJ0 ad cX8_greatest 3 RX8 0 0 := hE
  show Z E S 0 [(0, .ref (ad 6 27))] []
  have h67 : (6 : Nat) ≠ 7 := by decide
  have h76 : (7 : Nat) ≠ 6 := by decide
  have h68 : (6 : Nat) ≠ 8 := by decide
  have h86 : (8 : Nat) ≠ 6 := by decide
  have h78 : (7 : Nat) ≠ 8 := by decide
  have h87 : (8 : Nat) ≠ 7 := by decide
  refine z_iconst hE dX8_greatest_0 ?_
  refine z_istore_n hE rfl (by decide) rfl dX8_greatest_1 ?_
  refine z_iconst hE dX8_greatest_2 ?_
  refine z_istore_n hE rfl (by decide) rfl dX8_greatest_3 ?_
  refine z_L (L' := [(2, .int (i32 (1 : Int))), (1, .int (i32 (bst (fun k => S 6 (300 + k)) (((1 : Int)) - 1).toNat))), (0, .ref (ad 6 27))]) [0, 1, 2] (by rw [show bst (fun k => S 6 (300 + k)) (((1 : Int)) - 1).toNat = 0 from by first | rfl | (rfl)]; rfl) ?_
  exact lp_X8_greatest hE S hr6 hR 13 ((1 : Int)) ⟨by omega, by omega⟩ (by omega)
theorem dX8_parts_0 : decode cX8_parts 0 = .ok (.lconst 0, 1) := by decide +kernel
theorem dX8_parts_1 : decode cX8_parts 1 = .ok (.lstore_n 3, 1) := by decide +kernel
theorem dX8_parts_2 : decode cX8_parts 2 = .ok (.iconst 0, 1) := by decide +kernel
theorem dX8_parts_3 : decode cX8_parts 3 = .ok (.istore 5, 2) := by decide +kernel
theorem dX8_parts_5 : decode cX8_parts 5 = .ok (.iload 5, 2) := by decide +kernel
theorem dX8_parts_7 : decode cX8_parts 7 = .ok (.bipush 12, 2) := by decide +kernel
theorem dX8_parts_9 : decode cX8_parts 9 = .ok (.if_icmp .ge 19, 3) := by decide +kernel
theorem dX8_parts_12 : decode cX8_parts 12 = .ok (.lload_n 3, 1) := by decide +kernel
theorem dX8_parts_13 : decode cX8_parts 13 = .ok (.aload_n 0, 1) := by decide +kernel
theorem dX8_parts_14 : decode cX8_parts 14 = .ok (.getfield 16, 3) := by decide +kernel
theorem dX8_parts_17 : decode cX8_parts 17 = .ok (.iload 5, 2) := by decide +kernel
theorem dX8_parts_19 : decode cX8_parts 19 = .ok (.laload, 1) := by decide +kernel
theorem dX8_parts_20 : decode cX8_parts 20 = .ok (.ladd, 1) := by decide +kernel
theorem dX8_parts_21 : decode cX8_parts 21 = .ok (.lstore_n 3, 1) := by decide +kernel
theorem dX8_parts_22 : decode cX8_parts 22 = .ok (.iinc 5 1, 3) := by decide +kernel
theorem dX8_parts_25 : decode cX8_parts 25 = .ok (.goto (-20), 3) := by decide +kernel
theorem dX8_parts_28 : decode cX8_parts 28 = .ok (.lload_n 1, 1) := by decide +kernel
theorem dX8_parts_29 : decode cX8_parts 29 = .ok (.lstore 5, 2) := by decide +kernel
theorem dX8_parts_31 : decode cX8_parts 31 = .ok (.iconst 0, 1) := by decide +kernel
theorem dX8_parts_32 : decode cX8_parts 32 = .ok (.istore 7, 2) := by decide +kernel
theorem dX8_parts_34 : decode cX8_parts 34 = .ok (.iload 7, 2) := by decide +kernel
theorem dX8_parts_36 : decode cX8_parts 36 = .ok (.bipush 12, 2) := by decide +kernel
theorem dX8_parts_38 : decode cX8_parts 38 = .ok (.if_icmp .ge 94, 3) := by decide +kernel
theorem dX8_parts_41 : decode cX8_parts 41 = .ok (.lload_n 3, 1) := by decide +kernel
theorem dX8_parts_42 : decode cX8_parts 42 = .ok (.lload_n 1, 1) := by decide +kernel
theorem dX8_parts_43 : decode cX8_parts 43 = .ok (.lcmp, 1) := by decide +kernel
theorem dX8_parts_44 : decode cX8_parts 44 = .ok (.ifCond .gt 7, 3) := by decide +kernel
theorem dX8_parts_47 : decode cX8_parts 47 = .ok (.iconst 1, 1) := by decide +kernel
theorem dX8_parts_48 : decode cX8_parts 48 = .ok (.goto 4, 3) := by decide +kernel
theorem dX8_parts_51 : decode cX8_parts 51 = .ok (.iconst 0, 1) := by decide +kernel
theorem dX8_parts_52 : decode cX8_parts 52 = .ok (.istore 8, 2) := by decide +kernel
theorem dX8_parts_54 : decode cX8_parts 54 = .ok (.aload_n 0, 1) := by decide +kernel
theorem dX8_parts_55 : decode cX8_parts 55 = .ok (.getfield 19, 3) := by decide +kernel
theorem dX8_parts_58 : decode cX8_parts 58 = .ok (.iload 7, 2) := by decide +kernel
theorem dX8_parts_60 : decode cX8_parts 60 = .ok (.iload 8, 2) := by decide +kernel
theorem dX8_parts_62 : decode cX8_parts 62 = .ok (.ifCond .eq 13, 3) := by decide +kernel
theorem dX8_parts_65 : decode cX8_parts 65 = .ok (.aload_n 0, 1) := by decide +kernel
theorem dX8_parts_66 : decode cX8_parts 66 = .ok (.getfield 16, 3) := by decide +kernel
theorem dX8_parts_69 : decode cX8_parts 69 = .ok (.iload 7, 2) := by decide +kernel
theorem dX8_parts_71 : decode cX8_parts 71 = .ok (.laload, 1) := by decide +kernel
theorem dX8_parts_72 : decode cX8_parts 72 = .ok (.goto 14, 3) := by decide +kernel
theorem dX8_parts_75 : decode cX8_parts 75 = .ok (.lload_n 1, 1) := by decide +kernel
theorem dX8_parts_76 : decode cX8_parts 76 = .ok (.aload_n 0, 1) := by decide +kernel
theorem dX8_parts_77 : decode cX8_parts 77 = .ok (.getfield 16, 3) := by decide +kernel
theorem dX8_parts_80 : decode cX8_parts 80 = .ok (.iload 7, 2) := by decide +kernel
theorem dX8_parts_82 : decode cX8_parts 82 = .ok (.laload, 1) := by decide +kernel
theorem dX8_parts_83 : decode cX8_parts 83 = .ok (.lmul, 1) := by decide +kernel
theorem dX8_parts_84 : decode cX8_parts 84 = .ok (.lload_n 3, 1) := by decide +kernel
theorem dX8_parts_85 : decode cX8_parts 85 = .ok (.ldiv, 1) := by decide +kernel
theorem dX8_parts_86 : decode cX8_parts 86 = .ok (.lastore, 1) := by decide +kernel
theorem dX8_parts_87 : decode cX8_parts 87 = .ok (.aload_n 0, 1) := by decide +kernel
theorem dX8_parts_88 : decode cX8_parts 88 = .ok (.getfield 22, 3) := by decide +kernel
theorem dX8_parts_91 : decode cX8_parts 91 = .ok (.iload 7, 2) := by decide +kernel
theorem dX8_parts_93 : decode cX8_parts 93 = .ok (.iload 8, 2) := by decide +kernel
theorem dX8_parts_95 : decode cX8_parts 95 = .ok (.ifCond .eq 7, 3) := by decide +kernel
theorem dX8_parts_98 : decode cX8_parts 98 = .ok (.lconst 0, 1) := by decide +kernel
theorem dX8_parts_99 : decode cX8_parts 99 = .ok (.goto 14, 3) := by decide +kernel
theorem dX8_parts_102 : decode cX8_parts 102 = .ok (.lload_n 1, 1) := by decide +kernel
theorem dX8_parts_103 : decode cX8_parts 103 = .ok (.aload_n 0, 1) := by decide +kernel
theorem dX8_parts_104 : decode cX8_parts 104 = .ok (.getfield 16, 3) := by decide +kernel
theorem dX8_parts_107 : decode cX8_parts 107 = .ok (.iload 7, 2) := by decide +kernel
theorem dX8_parts_109 : decode cX8_parts 109 = .ok (.laload, 1) := by decide +kernel
theorem dX8_parts_110 : decode cX8_parts 110 = .ok (.lmul, 1) := by decide +kernel
theorem dX8_parts_111 : decode cX8_parts 111 = .ok (.lload_n 3, 1) := by decide +kernel
theorem dX8_parts_112 : decode cX8_parts 112 = .ok (.lrem, 1) := by decide +kernel
theorem dX8_parts_113 : decode cX8_parts 113 = .ok (.lastore, 1) := by decide +kernel
theorem dX8_parts_114 : decode cX8_parts 114 = .ok (.lload 5, 2) := by decide +kernel
theorem dX8_parts_116 : decode cX8_parts 116 = .ok (.aload_n 0, 1) := by decide +kernel
theorem dX8_parts_117 : decode cX8_parts 117 = .ok (.getfield 19, 3) := by decide +kernel
theorem dX8_parts_120 : decode cX8_parts 120 = .ok (.iload 7, 2) := by decide +kernel
theorem dX8_parts_122 : decode cX8_parts 122 = .ok (.laload, 1) := by decide +kernel
theorem dX8_parts_123 : decode cX8_parts 123 = .ok (.lsub, 1) := by decide +kernel
theorem dX8_parts_124 : decode cX8_parts 124 = .ok (.lstore 5, 2) := by decide +kernel
theorem dX8_parts_126 : decode cX8_parts 126 = .ok (.iinc 7 1, 3) := by decide +kernel
theorem dX8_parts_129 : decode cX8_parts 129 = .ok (.goto (-95), 3) := by decide +kernel
theorem dX8_parts_132 : decode cX8_parts 132 = .ok (.aload_n 0, 1) := by decide +kernel
theorem dX8_parts_133 : decode cX8_parts 133 = .ok (.invokevirtual 121, 3) := by decide +kernel
theorem dX8_parts_136 : decode cX8_parts 136 = .ok (.istore 7, 2) := by decide +kernel
theorem dX8_parts_138 : decode cX8_parts 138 = .ok (.lload 5, 2) := by decide +kernel
theorem dX8_parts_140 : decode cX8_parts 140 = .ok (.lconst 0, 1) := by decide +kernel
theorem dX8_parts_141 : decode cX8_parts 141 = .ok (.lcmp, 1) := by decide +kernel
theorem dX8_parts_142 : decode cX8_parts 142 = .ok (.ifCond .le 49, 3) := by decide +kernel
theorem dX8_parts_145 : decode cX8_parts 145 = .ok (.aload_n 0, 1) := by decide +kernel
theorem dX8_parts_146 : decode cX8_parts 146 = .ok (.getfield 22, 3) := by decide +kernel
theorem dX8_parts_149 : decode cX8_parts 149 = .ok (.iload 7, 2) := by decide +kernel
theorem dX8_parts_151 : decode cX8_parts 151 = .ok (.laload, 1) := by decide +kernel
theorem dX8_parts_152 : decode cX8_parts 152 = .ok (.lconst 0, 1) := by decide +kernel
theorem dX8_parts_153 : decode cX8_parts 153 = .ok (.lcmp, 1) := by decide +kernel
theorem dX8_parts_154 : decode cX8_parts 154 = .ok (.ifCond .le 37, 3) := by decide +kernel
theorem dX8_parts_157 : decode cX8_parts 157 = .ok (.aload_n 0, 1) := by decide +kernel
theorem dX8_parts_158 : decode cX8_parts 158 = .ok (.getfield 19, 3) := by decide +kernel
theorem dX8_parts_161 : decode cX8_parts 161 = .ok (.iload 7, 2) := by decide +kernel
theorem dX8_parts_163 : decode cX8_parts 163 = .ok (.dup2, 1) := by decide +kernel
theorem dX8_parts_164 : decode cX8_parts 164 = .ok (.laload, 1) := by decide +kernel
theorem dX8_parts_165 : decode cX8_parts 165 = .ok (.lconst 1, 1) := by decide +kernel
theorem dX8_parts_166 : decode cX8_parts 166 = .ok (.ladd, 1) := by decide +kernel
theorem dX8_parts_167 : decode cX8_parts 167 = .ok (.lastore, 1) := by decide +kernel
theorem dX8_parts_168 : decode cX8_parts 168 = .ok (.aload_n 0, 1) := by decide +kernel
theorem dX8_parts_169 : decode cX8_parts 169 = .ok (.getfield 22, 3) := by decide +kernel
theorem dX8_parts_172 : decode cX8_parts 172 = .ok (.iload 7, 2) := by decide +kernel
theorem dX8_parts_174 : decode cX8_parts 174 = .ok (.lconst 0, 1) := by decide +kernel
theorem dX8_parts_175 : decode cX8_parts 175 = .ok (.lastore, 1) := by decide +kernel
theorem dX8_parts_176 : decode cX8_parts 176 = .ok (.lload 5, 2) := by decide +kernel
theorem dX8_parts_178 : decode cX8_parts 178 = .ok (.lconst 1, 1) := by decide +kernel
theorem dX8_parts_179 : decode cX8_parts 179 = .ok (.lsub, 1) := by decide +kernel
theorem dX8_parts_180 : decode cX8_parts 180 = .ok (.lstore 5, 2) := by decide +kernel
theorem dX8_parts_182 : decode cX8_parts 182 = .ok (.aload_n 0, 1) := by decide +kernel
theorem dX8_parts_183 : decode cX8_parts 183 = .ok (.invokevirtual 121, 3) := by decide +kernel
theorem dX8_parts_186 : decode cX8_parts 186 = .ok (.istore 7, 2) := by decide +kernel
theorem dX8_parts_188 : decode cX8_parts 188 = .ok (.goto (-50), 3) := by decide +kernel
theorem dX8_parts_191 : decode cX8_parts 191 = .ok (.return_, 1) := by decide +kernel
theorem hy_X8_parts : yX8_parts.cls ≠ "java/lang/invoke/MethodHandle" ∧ yX8_parts.cls ≠ "java/lang/invoke/VarHandle" ∧ (parseMethodDescriptor yX8_parts.desc).map (fun d => d.parameters.length) = some 1 := ⟨by decide +kernel, by decide +kernel, by decide +kernel⟩
set_option maxHeartbeats 4000000 in
set_option maxRecDepth 100000 in
theorem lp_X8_parts_c {E : zE} {l0 : Launch} {D0 : va_G} {cI0 cJ0 : ClassId} {ad : Nat → Nat → Nat} (hE : zG E l0 D0 cI0 cJ0 ad cX8_parts 9 RX8 1 22) (S : zM) (w : Int) (h0 : 0 ≤ w ∧ w ≤ 1000) (hd : ∀ k : Int, 0 ≤ k → k < 12 → 0 ≤ S 6 (100 + k) ∧ S 6 (100 + k) ≤ 1000) (hR : zR E none none (fun X => ∃ g : Int → Int, X = us S 6 g ∧ (∀ k : Int, 0 ≤ k → k < 12 → g (200 + k) = sp_gets (fun k => S 6 (100 + k)) w k) ∧ ∀ q : Int, q < 200 → g q = S 6 q)) : ∀ (fuel : Nat) (g : Int → Int) (l : Int) (hl : 0 ≤ l ∧ l ≤ 1000) (hg : ∀ k : Int, 0 ≤ k → k < 12 → hn8 l.toNat (fun k => g (200 + k)) (fun k => g (300 + k)) k = sp_gets (fun k => S 6 (100 + k)) w k) (hz6 : ∀ k : Int, 0 ≤ k → k < 12 → -1 ≤ g (300 + k) ∧ g (300 + k) ≤ 12000) (hq : ∀ q : Int, q < 200 → g q = S 6 q), l.toNat < fuel → Z E (us S 6 g) 138 [(7, .int (i32 (bst (fun k => g (300 + k)) 11))), (5, .long (i64 l)), (0, .ref (ad 6 27)), (1, .long (i64 w))] [] := by
  intro fuel
  induction fuel with
  | zero => intro _ _ _ _ _ _ hz; omega
  | succ fuel ih =>
    intro g l hl hg hz6 hq hz
    have h67 : (6 : Nat) ≠ 7 := by decide
    have h76 : (7 : Nat) ≠ 6 := by decide
    have h68 : (6 : Nat) ≠ 8 := by decide
    have h86 : (8 : Nat) ≠ 6 := by decide
    have h78 : (7 : Nat) ≠ 8 := by decide
    have h87 : (8 : Nat) ≠ 7 := by decide
    have hb := bst_b (fun k => g (300 + k)) 11
    have hb6 := hz6 (bst (fun k => g (300 + k)) 11) hb.1 (by omega)
    refine z_lload hE 1 rfl dX8_parts_138 ?_
    refine z_lconst (a := 0) hE rfl dX8_parts_140 ?_
    refine z_lcmp hE ⟨by omega, by omega⟩ ⟨by omega, by omega⟩ dX8_parts_141 ?_
    refine z_ifl_le (tgt := 191) hE dX8_parts_142 (by decide) (fun c1 => ?_) (fun c1 => ?_)
    · exact z_vret hE hR dX8_parts_191 rfl (by exact ⟨g, rfl, fun k h1 h2 => by rw [← hg k h1 h2, hn8_e (by omega)], hq⟩)
    · refine z_aload_n hE 2 rfl rfl dX8_parts_145 ?_
      refine gf_8_5 hE (by decide) zf_X8_22 dX8_parts_146 ?_
      refine z_iload hE 0 rfl dX8_parts_149 ?_
      refine al_32 hE (by decide) (by omega) (by omega) dX8_parts_151 ?_
      try simp only [us_eq, us_us, us_ne h67, us_ne h76, us_ne h68, us_ne h86, us_ne h78, us_ne h87, us_in h67, us_in h76]
      refine z_lconst (a := 0) hE rfl dX8_parts_152 ?_
      refine z_lcmp hE ⟨by omega, by omega⟩ ⟨by omega, by omega⟩ dX8_parts_153 ?_
      refine z_ifl_le (tgt := 191) hE dX8_parts_154 (by decide) (fun c2 => ?_) (fun c2 => ?_)
      · exact z_vret hE hR dX8_parts_191 rfl (by exact ⟨g, rfl, fun k h1 h2 => by rw [← hg k h1 h2, hn8_e (by omega)], hq⟩)
      · refine z_aload_n hE 2 rfl rfl dX8_parts_157 ?_
        refine gf_8_4 hE (by decide) zf_X8_19 dX8_parts_158 ?_
        refine z_iload hE 0 rfl dX8_parts_161 ?_
        refine z_dup2 hE rfl rfl dX8_parts_163 ?_
        refine al_31 hE (by decide) (by omega) (by omega) dX8_parts_164 ?_
        try simp only [us_eq, us_us, us_ne h67, us_ne h76, us_ne h68, us_ne h86, us_ne h78, us_ne h87, us_in h67, us_in h76]
        refine z_lconst (a := 1) hE rfl dX8_parts_165 ?_
        refine z_ladd hE dX8_parts_166 ?_
        refine as_31 hE (by decide) (by omega) (by omega) dX8_parts_167 ?_
        try simp only [us_eq, us_us, us_ne h67, us_ne h76, us_ne h68, us_ne h86, us_ne h78, us_ne h87, us_in h67, us_in h76]
        refine z_aload_n hE 2 rfl rfl dX8_parts_168 ?_
        refine gf_8_5 hE (by decide) zf_X8_22 dX8_parts_169 ?_
        refine z_iload hE 0 rfl dX8_parts_172 ?_
        refine z_lconst (a := 0) hE rfl dX8_parts_174 ?_
        refine as_32 hE (by decide) (by omega) (by omega) dX8_parts_175 ?_
        try simp only [us_eq, us_us, us_ne h67, us_ne h76, us_ne h68, us_ne h86, us_ne h78, us_ne h87, us_in h67, us_in h76]
        refine z_lload hE 1 rfl dX8_parts_176 ?_
        refine z_lconst (a := 1) hE rfl dX8_parts_178 ?_
        refine z_lsub hE dX8_parts_179 ?_
        refine z_lstore hE (by decide) rfl dX8_parts_180 ?_
        have hz7 : ∀ k : Int, 0 ≤ k → k < 12 → -1 ≤ up (up g (200 + bst (fun k => g (300 + k)) 11) (g (200 + bst (fun k => g (300 + k)) 11) + 1)) (300 + bst (fun k => g (300 + k)) 11) 0 (300 + k) ∧ up (up g (200 + bst (fun k => g (300 + k)) 11) (g (200 + bst (fun k => g (300 + k)) 11) + 1)) (300 + bst (fun k => g (300 + k)) 11) 0 (300 + k) ≤ 12000 := fun k h1 h2 => by have := hz6 k h1 h2; unfold up; (repeat' split) <;> omega
        refine z_aload_n hE 2 rfl rfl dX8_parts_182 ?_
        refine z_callV hE (c_X8_greatest l0 D0 cI0 cJ0 ad (us S 6 (up (up g (200 + (bst (fun k => g (300 + k)) 11)) ((g (200 + (bst (fun k => g (300 + k)) 11))) + 1)) (300 + (bst (fun k => g (300 + k)) 11)) 0)) (by rw [us_eq]; exact hz7)) (by decide) rfl rfl zm_X8_121 zi_yX8_greatest zs_yX8_greatest zn_RX8 zc_yX8_greatest (hy_X8_greatest) (Nat.le_of_ble_eq_true rfl) (Nat.le_of_ble_eq_true rfl) rfl rfl rfl (Nat.le_of_ble_eq_true rfl) dX8_parts_183 ?_
        try simp only [us_eq, us_us, us_ne h67, us_ne h76, us_ne h68, us_ne h86, us_ne h78, us_ne h87, us_in h67, us_in h76]
        refine z_istore hE (by decide) rfl dX8_parts_186 ?_
        refine z_goto (tgt := 138) hE (d := dX8_parts_188) (ht := by decide) ?_
        refine z_L (L' := [(7, .int (i32 (bst (fun k => (up (up g (200 + bst (fun k => g (300 + k)) 11) (g (200 + bst (fun k => g (300 + k)) 11) + 1)) (300 + bst (fun k => g (300 + k)) 11) 0) (300 + k)) 11))), (5, .long (i64 (l - 1))), (0, .ref (ad 6 27)), (1, .long (i64 w))]) [0, 1, 2, 3] (by rw [show bst (fun k => (up (up g (200 + bst (fun k => g (300 + k)) 11) (g (200 + bst (fun k => g (300 + k)) 11) + 1)) (300 + bst (fun k => g (300 + k)) 11) 0) (300 + k)) 11 = bst (fun k => (up (up g (200 + (bst (fun k => g (300 + k)) 11)) ((g (200 + (bst (fun k => g (300 + k)) 11))) + 1)) (300 + (bst (fun k => g (300 + k)) 11)) 0) (300 + k)) 11 from by first | rfl | (rfl)]; rfl) ?_
        exact ih (up (up g (200 + bst (fun k => g (300 + k)) 11) (g (200 + bst (fun k => g (300 + k)) 11) + 1)) (300 + bst (fun k => g (300 + k)) 11) 0) (l - 1) ⟨by omega, by omega⟩ (fun k h1 h2 => by rw [← hg k h1 h2, hn8_s (l := l) (by omega) (show 0 < g (300 + bst (fun k => g (300 + k)) 11) by omega)]; exact hn8_cg (fun j h3 h4 => hs_1 hb.1 hb.2 h3 h4) (fun j h3 h4 => hs_2 hb.1 hb.2 h3 h4) k h1 h2) hz7 (fun q h1 => by rw [up_ne (by omega), up_ne (by omega)]; exact hq q h1) (by omega)
set_option maxHeartbeats 4000000 in
set_option maxRecDepth 100000 in
theorem lp_X8_parts_b {E : zE} {l0 : Launch} {D0 : va_G} {cI0 cJ0 : ClassId} {ad : Nat → Nat → Nat} (hE : zG E l0 D0 cI0 cJ0 ad cX8_parts 9 RX8 1 22) (S : zM) (w : Int) (h0 : 0 ≤ w ∧ w ≤ 1000) (hd : ∀ k : Int, 0 ≤ k → k < 12 → 0 ≤ S 6 (100 + k) ∧ S 6 (100 + k) ≤ 1000) (hR : zR E none none (fun X => ∃ g : Int → Int, X = us S 6 g ∧ (∀ k : Int, 0 ≤ k → k < 12 → g (200 + k) = sp_gets (fun k => S 6 (100 + k)) w k) ∧ ∀ q : Int, q < 200 → g q = S 6 q)) : ∀ (fuel : Nat) (i : Int) (g : Int → Int) (h9 : 0 ≤ i ∧ i ≤ 12) (hg : ∀ k : Int, 0 ≤ k → k < i → g (200 + k) = pq8 (fun k => S 6 (100 + k)) w k ∧ g (300 + k) = pt8 (fun k => S 6 (100 + k)) w k) (hq : ∀ q : Int, q < 200 → g q = S 6 q), (12 - i).toNat < fuel → Z E (us S 6 g) 34 [(7, .int (i32 i)), (5, .long (i64 (w - sm (pq8 (fun k => S 6 (100 + k)) w) i))), (3, .long (i64 (sm (fun k => S 6 (100 + k)) 12))), (0, .ref (ad 6 27)), (1, .long (i64 w))] [] := by
  intro fuel
  induction fuel with
  | zero => intro _ _ _ _ _ hz; omega
  | succ fuel ih =>
    intro i g h9 hg hq hz
    have h67 : (6 : Nat) ≠ 7 := by decide
    have h76 : (7 : Nat) ≠ 6 := by decide
    have h68 : (6 : Nat) ≠ 8 := by decide
    have h86 : (8 : Nat) ≠ 6 := by decide
    have h78 : (7 : Nat) ≠ 8 := by decide
    have h87 : (8 : Nat) ≠ 7 := by decide
    have hs := sm_b (f := (fun k => S 6 (100 + k))) (n := 12) (a := 0) (b := 1000) (by omega) hd
    have hql := sm_b (f := pq8 (fun k => S 6 (100 + k)) w) (n := i) (a := 0) (b := 1000000) h9.1 (fun k h1 h2 => (pq8_b hd h0 h1 (by omega)).1)
    refine z_iload hE 0 rfl dX8_parts_34 ?_
    refine z_bipush (a := 12) hE (by decide) dX8_parts_36 ?_
    refine z_icmp_ge (tgt := 132) hE dX8_parts_38 (by decide) ⟨by omega, by omega⟩ ⟨by omega, by omega⟩ (fun c1 => ?_) (fun c1 => ?_)
    · have e12 : i = 12 := by omega
      have hgo := pt8_go hd h0
      rw [e12] at hg ⊢
      refine z_aload_n hE 3 rfl rfl dX8_parts_132 ?_
      refine z_callV hE (c_X8_greatest l0 D0 cI0 cJ0 ad (us S 6 g) (by rw [us_eq]; exact fun k h1 h2 => by rw [(hg k h1 h2).2]; have := pq8_b hd h0 h1 h2; omega)) (by decide) rfl rfl zm_X8_121 zi_yX8_greatest zs_yX8_greatest zn_RX8 zc_yX8_greatest (hy_X8_greatest) (Nat.le_of_ble_eq_true rfl) (Nat.le_of_ble_eq_true rfl) rfl rfl rfl (Nat.le_of_ble_eq_true rfl) dX8_parts_133 ?_
      try simp only [us_eq, us_us, us_ne h67, us_ne h76, us_ne h68, us_ne h86, us_ne h78, us_ne h87, us_in h67, us_in h76]
      refine z_istore hE (by decide) rfl dX8_parts_136 ?_
      refine z_L (L' := [(7, .int (i32 (bst (fun k => g (300 + k)) 11))), (5, .long (i64 (w - sm (pq8 (fun k => S 6 (100 + k)) w) 12))), (0, .ref (ad 6 27)), (1, .long (i64 w))]) [0, 1, 3, 4] (by rfl) ?_
      exact lp_X8_parts_c hE S w h0 hd hR 1001 g (w - sm (pq8 (fun k => S 6 (100 + k)) w) 12) hgo.1 (fun k h1 h2 => by rw [← hgo.2 k h1 h2]; exact hn8_cg (fun j h3 h4 => (hg j h3 h4).1) (fun j h3 h4 => (hg j h3 h4).2) k h1 h2) (fun k h1 h2 => by rw [(hg k h1 h2).2]; have := pq8_b hd h0 h1 h2; omega) hq (by omega)
    · refine z_lload_n hE 2 rfl rfl dX8_parts_41 ?_
      refine z_lload_n hE 4 rfl rfl dX8_parts_42 ?_
      refine z_lcmp hE ⟨by omega, by omega⟩ ⟨by omega, by omega⟩ dX8_parts_43 ?_
      refine z_ifl_gt (tgt := 51) hE dX8_parts_44 (by decide) (fun c2 => ?_) (fun c2 => ?_)
      · refine z_iconst hE dX8_parts_51 ?_
        refine z_istore hE (by decide) rfl dX8_parts_52 ?_
        refine z_aload_n hE 4 rfl rfl dX8_parts_54 ?_
        refine gf_8_4 hE (by decide) zf_X8_19 dX8_parts_55 ?_
        refine z_iload hE 1 rfl dX8_parts_58 ?_
        refine z_iload hE 0 rfl dX8_parts_60 ?_
        refine z_if_eq (tgt := 75) hE dX8_parts_62 (by decide) ⟨by omega, by omega⟩ (fun c3 => ?_) (fun c3 => absurd (by decide) c3)
        have hk := quo_b hd h0 (by omega) h9.1 (show i < 12 by omega)
        refine z_lload_n hE 5 rfl rfl dX8_parts_75 ?_
        refine z_aload_n hE 4 rfl rfl dX8_parts_76 ?_
        refine gf_8_3 hE (by decide) zf_X8_16 dX8_parts_77 ?_
        refine z_iload hE 1 rfl dX8_parts_80 ?_
        refine al_30 hE (by decide) (by omega) (by omega) dX8_parts_82 ?_
        try simp only [us_eq, us_us, us_ne h67, us_ne h76, us_ne h68, us_ne h86, us_ne h78, us_ne h87, us_in h67, us_in h76]
        rw [hq _ (by omega)]
        refine z_lmul hE dX8_parts_83 ?_
        refine z_lload_n hE 3 rfl rfl dX8_parts_84 ?_
        refine z_ldiv hE ⟨by omega, by omega⟩ ⟨by omega, by omega⟩ (by omega) dX8_parts_85 ?_
        rw [zx_tdiv (show 0 ≤ w * (S 6 (100 + i)) by omega)]
        refine as_31 hE (by decide) (by omega) (by omega) dX8_parts_86 ?_
        try simp only [us_eq, us_us, us_ne h67, us_ne h76, us_ne h68, us_ne h86, us_ne h78, us_ne h87, us_in h67, us_in h76]
        refine z_aload_n hE 4 rfl rfl dX8_parts_87 ?_
        refine gf_8_5 hE (by decide) zf_X8_22 dX8_parts_88 ?_
        refine z_iload hE 1 rfl dX8_parts_91 ?_
        refine z_iload hE 0 rfl dX8_parts_93 ?_
        refine z_if_eq (tgt := 102) hE dX8_parts_95 (by decide) ⟨by omega, by omega⟩ (fun c4 => ?_) (fun c4 => absurd (by decide) c4)
        refine z_lload_n hE 5 rfl rfl dX8_parts_102 ?_
        refine z_aload_n hE 4 rfl rfl dX8_parts_103 ?_
        refine gf_8_3 hE (by decide) zf_X8_16 dX8_parts_104 ?_
        refine z_iload hE 1 rfl dX8_parts_107 ?_
        refine al_30 hE (by decide) (by omega) (by omega) dX8_parts_109 ?_
        try simp only [us_eq, us_us, us_ne h67, us_ne h76, us_ne h68, us_ne h86, us_ne h78, us_ne h87, us_in h67, us_in h76]
        rw [up_ne (by omega), hq _ (by omega)]
        refine z_lmul hE dX8_parts_110 ?_
        refine z_lload_n hE 3 rfl rfl dX8_parts_111 ?_
        refine z_lrem hE ⟨by omega, by omega⟩ ⟨by omega, by omega⟩ (by omega) dX8_parts_112 ?_
        rw [zx_tdiv (show 0 ≤ w * (S 6 (100 + i)) by omega)]
        refine as_32 hE (by decide) (by omega) (by omega) dX8_parts_113 ?_
        try simp only [us_eq, us_us, us_ne h67, us_ne h76, us_ne h68, us_ne h86, us_ne h78, us_ne h87, us_in h67, us_in h76]
        refine z_lload hE 2 rfl dX8_parts_114 ?_
        refine z_aload_n hE 4 rfl rfl dX8_parts_116 ?_
        refine gf_8_4 hE (by decide) zf_X8_19 dX8_parts_117 ?_
        refine z_iload hE 1 rfl dX8_parts_120 ?_
        refine al_31 hE (by decide) (by omega) (by omega) dX8_parts_122 ?_
        try simp only [us_eq, us_us, us_ne h67, us_ne h76, us_ne h68, us_ne h86, us_ne h78, us_ne h87, us_in h67, us_in h76]
        rw [up_ne (show 200 + i ≠ 300 + i by omega)]
        rw [up_eq]
        refine z_lsub hE dX8_parts_123 ?_
        refine z_lstore hE (by decide) rfl dX8_parts_124 ?_
        refine z_iinc hE 2 rfl (by decide) rfl dX8_parts_126 ?_
        refine z_goto (tgt := 34) hE (d := dX8_parts_129) (ht := by decide) ?_
        refine z_L (L' := [(7, .int (i32 (i + 1))), (5, .long (i64 (w - sm (pq8 (fun k => S 6 (100 + k)) w) (i + 1)))), (3, .long (i64 (sm (fun k => S 6 (100 + k)) 12))), (0, .ref (ad 6 27)), (1, .long (i64 w))]) [0, 1, 3, 4, 5] (by rw [show w - sm (pq8 (fun k => S 6 (100 + k)) w) (i + 1) = (w - sm (pq8 (fun k => S 6 (100 + k)) w) i) - ((w * (S 6 (100 + i))) / (sm (fun k => S 6 (100 + k)) 12)) from by first | rfl | ((rw [sm_s h9.1, show pq8 (fun k => S 6 (100 + k)) w i = (w * (S 6 (100 + i))) / (sm (fun k => S 6 (100 + k)) 12) from by { unfold pq8; first | (rw [if_pos (by omega)]; done) | (rw [if_neg (by omega)]; rfl) }]; omega))]; rfl) ?_
        exact ih (i + 1) (up (up g (200 + i) ((w * (S 6 (100 + i))) / (sm (fun k => S 6 (100 + k)) 12))) (300 + i) ((w * (S 6 (100 + i))) - (w * (S 6 (100 + i))) / (sm (fun k => S 6 (100 + k)) 12) * (sm (fun k => S 6 (100 + k)) 12))) ⟨by omega, by omega⟩ (qs_1 (by unfold pq8; first | (rw [if_pos (by omega)]; done) | (rw [if_neg (by omega)]; rfl)) (by unfold pt8; first | (rw [if_pos (by omega)]; done) | (rw [if_neg (by omega)]; rfl)) h9.1 (by omega) hg) (fun q h1 => by rw [up_ne (by omega), up_ne (by omega)]; exact hq q h1) (by omega)
      · refine z_iconst hE dX8_parts_47 ?_
        refine z_goto (tgt := 52) hE (d := dX8_parts_48) (ht := by decide) ?_
        refine z_istore hE (by decide) rfl dX8_parts_52 ?_
        refine z_aload_n hE 4 rfl rfl dX8_parts_54 ?_
        refine gf_8_4 hE (by decide) zf_X8_19 dX8_parts_55 ?_
        refine z_iload hE 1 rfl dX8_parts_58 ?_
        refine z_iload hE 0 rfl dX8_parts_60 ?_
        refine z_if_eq (tgt := 75) hE dX8_parts_62 (by decide) ⟨by omega, by omega⟩ (fun c5 => absurd c5 (by decide)) (fun c5 => ?_)
        have hk2 := hd i h9.1 (by omega)
        refine z_aload_n hE 4 rfl rfl dX8_parts_65 ?_
        refine gf_8_3 hE (by decide) zf_X8_16 dX8_parts_66 ?_
        refine z_iload hE 1 rfl dX8_parts_69 ?_
        refine al_30 hE (by decide) (by omega) (by omega) dX8_parts_71 ?_
        try simp only [us_eq, us_us, us_ne h67, us_ne h76, us_ne h68, us_ne h86, us_ne h78, us_ne h87, us_in h67, us_in h76]
        rw [hq _ (by omega)]
        refine z_goto (tgt := 86) hE (d := dX8_parts_72) (ht := by decide) ?_
        refine as_31 hE (by decide) (by omega) (by omega) dX8_parts_86 ?_
        try simp only [us_eq, us_us, us_ne h67, us_ne h76, us_ne h68, us_ne h86, us_ne h78, us_ne h87, us_in h67, us_in h76]
        refine z_aload_n hE 4 rfl rfl dX8_parts_87 ?_
        refine gf_8_5 hE (by decide) zf_X8_22 dX8_parts_88 ?_
        refine z_iload hE 1 rfl dX8_parts_91 ?_
        refine z_iload hE 0 rfl dX8_parts_93 ?_
        refine z_if_eq (tgt := 102) hE dX8_parts_95 (by decide) ⟨by omega, by omega⟩ (fun c6 => absurd c6 (by decide)) (fun c6 => ?_)
        refine z_lconst (a := 0) hE rfl dX8_parts_98 ?_
        refine z_goto (tgt := 113) hE (d := dX8_parts_99) (ht := by decide) ?_
        refine as_32 hE (by decide) (by omega) (by omega) dX8_parts_113 ?_
        try simp only [us_eq, us_us, us_ne h67, us_ne h76, us_ne h68, us_ne h86, us_ne h78, us_ne h87, us_in h67, us_in h76]
        refine z_lload hE 2 rfl dX8_parts_114 ?_
        refine z_aload_n hE 4 rfl rfl dX8_parts_116 ?_
        refine gf_8_4 hE (by decide) zf_X8_19 dX8_parts_117 ?_
        refine z_iload hE 1 rfl dX8_parts_120 ?_
        refine al_31 hE (by decide) (by omega) (by omega) dX8_parts_122 ?_
        try simp only [us_eq, us_us, us_ne h67, us_ne h76, us_ne h68, us_ne h86, us_ne h78, us_ne h87, us_in h67, us_in h76]
        rw [up_ne (show 200 + i ≠ 300 + i by omega)]
        rw [up_eq]
        refine z_lsub hE dX8_parts_123 ?_
        refine z_lstore hE (by decide) rfl dX8_parts_124 ?_
        refine z_iinc hE 2 rfl (by decide) rfl dX8_parts_126 ?_
        refine z_goto (tgt := 34) hE (d := dX8_parts_129) (ht := by decide) ?_
        refine z_L (L' := [(7, .int (i32 (i + 1))), (5, .long (i64 (w - sm (pq8 (fun k => S 6 (100 + k)) w) (i + 1)))), (3, .long (i64 (sm (fun k => S 6 (100 + k)) 12))), (0, .ref (ad 6 27)), (1, .long (i64 w))]) [0, 1, 3, 4, 5] (by rw [show w - sm (pq8 (fun k => S 6 (100 + k)) w) (i + 1) = (w - sm (pq8 (fun k => S 6 (100 + k)) w) i) - (S 6 (100 + i)) from by first | rfl | ((rw [sm_s h9.1, show pq8 (fun k => S 6 (100 + k)) w i = S 6 (100 + i) from by { unfold pq8; first | (rw [if_pos (by omega)]; done) | (rw [if_neg (by omega)]; rfl) }]; omega))]; rfl) ?_
        exact ih (i + 1) (up (up g (200 + i) (S 6 (100 + i))) (300 + i) 0) ⟨by omega, by omega⟩ (qs_1 (by unfold pq8; first | (rw [if_pos (by omega)]; done) | (rw [if_neg (by omega)]; rfl)) (by unfold pt8; first | (rw [if_pos (by omega)]; done) | (rw [if_neg (by omega)]; rfl)) h9.1 (by omega) hg) (fun q h1 => by rw [up_ne (by omega), up_ne (by omega)]; exact hq q h1) (by omega)
set_option maxHeartbeats 4000000 in
set_option maxRecDepth 100000 in
theorem lp_X8_parts_a {E : zE} {l0 : Launch} {D0 : va_G} {cI0 cJ0 : ClassId} {ad : Nat → Nat → Nat} (hE : zG E l0 D0 cI0 cJ0 ad cX8_parts 9 RX8 1 22) (S : zM) (w : Int) (h0 : 0 ≤ w ∧ w ≤ 1000) (hd : ∀ k : Int, 0 ≤ k → k < 12 → 0 ≤ S 6 (100 + k) ∧ S 6 (100 + k) ≤ 1000) (hR : zR E none none (fun X => ∃ g : Int → Int, X = us S 6 g ∧ (∀ k : Int, 0 ≤ k → k < 12 → g (200 + k) = sp_gets (fun k => S 6 (100 + k)) w k) ∧ ∀ q : Int, q < 200 → g q = S 6 q)) : ∀ (fuel : Nat) (i : Int) (h9 : 0 ≤ i ∧ i ≤ 12), (12 - i).toNat < fuel → Z E S 5 [(5, .int (i32 i)), (3, .long (i64 (sm (fun k => S 6 (100 + k)) i))), (0, .ref (ad 6 27)), (1, .long (i64 w))] [] := by
  intro fuel
  induction fuel with
  | zero => intro _ _ hz; omega
  | succ fuel ih =>
    intro i h9 hz
    have h67 : (6 : Nat) ≠ 7 := by decide
    have h76 : (7 : Nat) ≠ 6 := by decide
    have h68 : (6 : Nat) ≠ 8 := by decide
    have h86 : (8 : Nat) ≠ 6 := by decide
    have h78 : (7 : Nat) ≠ 8 := by decide
    have h87 : (8 : Nat) ≠ 7 := by decide
    have hs := sm_b (f := (fun k => S 6 (100 + k))) (n := 12) (a := 0) (b := 1000) (by omega) hd
    refine z_iload hE 0 rfl dX8_parts_5 ?_
    refine z_bipush (a := 12) hE (by decide) dX8_parts_7 ?_
    refine z_icmp_ge (tgt := 28) hE dX8_parts_9 (by decide) ⟨by omega, by omega⟩ ⟨by omega, by omega⟩ (fun c1 => ?_) (fun c1 => ?_)
    · rw [show i = 12 by omega]
      refine z_lload_n hE 3 rfl rfl dX8_parts_28 ?_
      refine z_lstore hE (by decide) rfl dX8_parts_29 ?_
      refine z_iconst hE dX8_parts_31 ?_
      refine z_istore hE (by decide) rfl dX8_parts_32 ?_
      refine z_L (L' := [(7, .int (i32 0)), (5, .long (i64 (w - sm (pq8 (fun k => S 6 (100 + k)) w) 0))), (3, .long (i64 (sm (fun k => S 6 (100 + k)) 12))), (0, .ref (ad 6 27)), (1, .long (i64 w))]) [0, 1, 2, 3, 4] (by rw [show w - sm (pq8 (fun k => S 6 (100 + k)) w) 0 = w from by first | rfl | ((rw [sm_0]; omega))]; rfl) ?_
      rw [show S = us S 6 (S 6) from (us_id S 6).symm]
      exact lp_X8_parts_b hE S w h0 hd hR 13 0 (S 6) ⟨by omega, by omega⟩ (fun k h1 h2 => by omega) (fun q h1 => rfl) (by omega)
    · refine z_lload_n hE 1 rfl rfl dX8_parts_12 ?_
      refine z_aload_n hE 2 rfl rfl dX8_parts_13 ?_
      refine gf_8_3 hE (by decide) zf_X8_16 dX8_parts_14 ?_
      refine z_iload hE 0 rfl dX8_parts_17 ?_
      refine al_30 hE (by decide) (by omega) (by omega) dX8_parts_19 ?_
      refine z_ladd hE dX8_parts_20 ?_
      refine z_lstore_n hE rfl (by decide) rfl dX8_parts_21 ?_
      refine z_iinc hE 1 rfl (by decide) rfl dX8_parts_22 ?_
      refine z_goto (tgt := 5) hE (d := dX8_parts_25) (ht := by decide) ?_
      refine z_L (L' := [(5, .int (i32 (i + 1))), (3, .long (i64 (sm (fun k => S 6 (100 + k)) (i + 1)))), (0, .ref (ad 6 27)), (1, .long (i64 w))]) [0, 1, 2, 3] (by rw [show sm (fun k => S 6 (100 + k)) (i + 1) = (sm (fun k => S 6 (100 + k)) i) + (S 6 (100 + i)) from by first | rfl | (exact sm_s h9.1)]; rfl) ?_
      exact ih (i + 1) ⟨by omega, by omega⟩ (by omega)
set_option maxHeartbeats 4000000 in
set_option maxRecDepth 100000 in
theorem c_X8_parts (l0 : Launch) (D0 : va_G) (cI0 cJ0 : ClassId) (ad : Nat → Nat → Nat) (S : zM) (w : Int) (h0 : 0 ≤ w ∧ w ≤ 1000) (hd : ∀ k : Int, 0 ≤ k → k < 12 → 0 ≤ S 6 (100 + k) ∧ S 6 (100 + k) ≤ 1000) : Ct l0 D0 cI0 cJ0 ad yX8_parts cX8_parts 9 none 1 22 [.ref (ad 6 27), .long (i64 w)] S none (fun X => ∃ g : Int → Int, X = us S 6 g ∧ (∀ k : Int, 0 ≤ k → k < 12 → g (200 + k) = sp_gets (fun k => S 6 (100 + k)) w k) ∧ ∀ q : Int, q < 200 → g q = S 6 q) := by
  refine Ct.of (by decide) (Nat.le_of_ble_eq_true rfl) (fun E hE hR => ?_)
  have hE : zG E l0 D0 cI0 cJ0 ad cX8_parts 9 RX8 1 22 := hE
  show Z E S 0 [(0, .ref (ad 6 27)), (1, .long (i64 w))] []
  have h67 : (6 : Nat) ≠ 7 := by decide
  have h76 : (7 : Nat) ≠ 6 := by decide
  have h68 : (6 : Nat) ≠ 8 := by decide
  have h86 : (8 : Nat) ≠ 6 := by decide
  have h78 : (7 : Nat) ≠ 8 := by decide
  have h87 : (8 : Nat) ≠ 7 := by decide
  have hs := sm_b (f := (fun k => S 6 (100 + k))) (n := 12) (a := 0) (b := 1000) (by omega) hd
  refine z_lconst (a := 0) hE rfl dX8_parts_0 ?_
  refine z_lstore_n hE rfl (by decide) rfl dX8_parts_1 ?_
  refine z_iconst hE dX8_parts_2 ?_
  refine z_istore hE (by decide) rfl dX8_parts_3 ?_
  refine z_L (L' := [(5, .int (i32 0)), (3, .long (i64 (sm (fun k => S 6 (100 + k)) 0))), (0, .ref (ad 6 27)), (1, .long (i64 w))]) [0, 1, 2, 3] (by rw [show sm (fun k => S 6 (100 + k)) 0 = 0 from by first | rfl | (exact sm_0 _)]; rfl) ?_
  exact lp_X8_parts_a hE S w h0 hd hR 13 0 ⟨by omega, by omega⟩ (by omega)
