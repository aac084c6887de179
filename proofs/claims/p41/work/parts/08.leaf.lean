theorem dX7_isWithin_0 : decode cX7_isWithin 0 = .ok (.iload_n 0, 1) := by decide +kernel
theorem dX7_isWithin_1 : decode cX7_isWithin 1 = .ok (.iload_n 1, 1) := by decide +kernel
theorem dX7_isWithin_2 : decode cX7_isWithin 2 = .ok (.if_icmp .lt 12, 3) := by decide +kernel
theorem dX7_isWithin_5 : decode cX7_isWithin 5 = .ok (.iload_n 0, 1) := by decide +kernel
theorem dX7_isWithin_6 : decode cX7_isWithin 6 = .ok (.iload_n 2, 1) := by decide +kernel
theorem dX7_isWithin_7 : decode cX7_isWithin 7 = .ok (.if_icmp .gt 7, 3) := by decide +kernel
theorem dX7_isWithin_10 : decode cX7_isWithin 10 = .ok (.iconst 1, 1) := by decide +kernel
theorem dX7_isWithin_11 : decode cX7_isWithin 11 = .ok (.goto 4, 3) := by decide +kernel
theorem dX7_isWithin_14 : decode cX7_isWithin 14 = .ok (.iconst 0, 1) := by decide +kernel
theorem dX7_isWithin_15 : decode cX7_isWithin 15 = .ok (.ireturn, 1) := by decide +kernel
theorem hy_X7_isWithin : yX7_isWithin.cls ≠ "java/lang/invoke/MethodHandle" ∧ yX7_isWithin.cls ≠ "java/lang/invoke/VarHandle" ∧ (parseMethodDescriptor yX7_isWithin.desc).map (fun d => d.parameters.length) = some 3 := ⟨by decide +kernel, by decide +kernel, by decide +kernel⟩
set_option maxHeartbeats 4000000 in
set_option maxRecDepth 100000 in
theorem c_X7_isWithin (l0 : Launch) (D0 : va_G) (cI0 cJ0 : ClassId) (ad : Nat → Nat → Nat) (S : zM) (a : Int) (b : Int) (c : Int) (ha : b32 a) (hb : b32 b) (hc : b32 c) : Ct l0 D0 cI0 cJ0 ad yX7_isWithin cX7_isWithin 3 (some .boolean) 0 0 [.int (i32 a), .int (i32 b), .int (i32 c)] S (some (.int (i32 (zbo (b ≤ a ∧ a ≤ c))))) (fun X => X = S) := by
  refine Ct.of (by decide) (Nat.le_of_ble_eq_true rfl) (fun E hE hR => ?_)
  have hE : zG E l0 D0 cI0 cJ0 ad cX7_isWithin 3 RX7 0 0 := hE
  show Z E S 0 [(0, .int (i32 a)), (1, .int (i32 b)), (2, .int (i32 c))] []
  refine z_iload_n hE 0 rfl rfl dX7_isWithin_0 ?_
  refine z_iload_n hE 1 rfl rfl dX7_isWithin_1 ?_
  refine z_icmp_lt (tgt := 14) hE dX7_isWithin_2 (by decide) ⟨by first | exact ha.1 | exact ha.2 | exact hb.1 | exact hb.2 | exact hc.1 | exact hc.2, by first | exact ha.1 | exact ha.2 | exact hb.1 | exact hb.2 | exact hc.1 | exact hc.2⟩ ⟨by first | exact ha.1 | exact ha.2 | exact hb.1 | exact hb.2 | exact hc.1 | exact hc.2, by first | exact ha.1 | exact ha.2 | exact hb.1 | exact hb.2 | exact hc.1 | exact hc.2⟩ (fun c1 => ?_) (fun c1 => ?_)
  · refine z_iconst hE dX7_isWithin_14 ?_
    exact z_zret hE hR dX7_isWithin_15 (by decide) (congrArg (fun x => some (Value.int (i32 x))) (by unfold zbo; first | rw [if_pos (by omega)] | rw [if_neg (by omega)])) (by first | rfl | (simp only [us_id]))
  · refine z_iload_n hE 0 rfl rfl dX7_isWithin_5 ?_
    refine z_iload_n hE 2 rfl rfl dX7_isWithin_6 ?_
    refine z_icmp_gt (tgt := 14) hE dX7_isWithin_7 (by decide) ⟨by first | exact ha.1 | exact ha.2 | exact hb.1 | exact hb.2 | exact hc.1 | exact hc.2, by first | exact ha.1 | exact ha.2 | exact hb.1 | exact hb.2 | exact hc.1 | exact hc.2⟩ ⟨by first | exact ha.1 | exact ha.2 | exact hb.1 | exact hb.2 | exact hc.1 | exact hc.2, by first | exact ha.1 | exact ha.2 | exact hb.1 | exact hb.2 | exact hc.1 | exact hc.2⟩ (fun c2 => ?_) (fun c2 => ?_)
    · refine z_iconst hE dX7_isWithin_14 ?_
      exact z_zret hE hR dX7_isWithin_15 (by decide) (congrArg (fun x => some (Value.int (i32 x))) (by unfold zbo; first | rw [if_pos (by omega)] | rw [if_neg (by omega)])) (by first | rfl | (simp only [us_id]))
    · refine z_iconst hE dX7_isWithin_10 ?_
      refine z_goto (tgt := 15) hE (d := dX7_isWithin_11) (ht := by decide) ?_
      exact z_zret hE hR dX7_isWithin_15 (by decide) (congrArg (fun x => some (Value.int (i32 x))) (by unfold zbo; first | rw [if_pos (by omega)] | rw [if_neg (by omega)])) (by first | rfl | (simp only [us_id]))
theorem xor_nn {a b : Int} (ha : b32 a) (hb : b32 b) (h0 : 0 < b) : 0 ≤ i32 a ^^^ i32 b ↔ 0 ≤ a := by
  have key : ∀ x : Int32, 0 ≤ x ↔ x.toBitVec.msb = false := by
    intro x
    rw [Int32.le_iff_toInt_le, show (0 : Int32).toInt = 0 from rfl, show x.toInt = x.toBitVec.toInt from rfl, BitVec.msb_eq_toInt, decide_eq_false_iff_not]
    omega
  have hb1 : (i32 b).toBitVec.msb = false := (key _).mp (by rw [i32_0, i32_le b32_0 hb]; omega)
  rw [key, Int32.toBitVec_xor, BitVec.msb_xor, hb1, Bool.xor_false, ← key, i32_0, i32_le b32_0 ha]
theorem fdiv_1 {a b : Int} (hb : 0 < b) (h : 0 ≤ a) : a.tdiv b = a / b := Int.tdiv_eq_ediv_of_nonneg h
theorem tdiv_mul {a b : Int} : a.tdiv b * b + a.tmod b = a := by have := Int.tmod_add_mul_tdiv a b; rw [Int.mul_comm] at this; omega
theorem fdiv_2 {a b : Int} (hb : 0 < b) (h : a.tdiv b * b = a) : a.tdiv b = a / b := (Int.ediv_eq_of_eq_mul_left (by omega) h.symm).symm
theorem fdiv_3 {a b : Int} (hb : 0 < b) (h : ¬ 0 ≤ a) (h2 : ¬ a.tdiv b * b = a) : a.tdiv b - 1 = a / b := by
  have e := @tdiv_mul a b
  have h3 : -b < a.tmod b := Int.lt_tmod_of_pos a hb
  have h4 : a.tmod b ≤ 0 := by
    have h5 := Int.tmod_nonneg b (a := -a) (by omega)
    rw [Int.neg_tmod] at h5; omega
  have h6 : a.tmod b ≠ 0 := fun q => h2 (by omega)
  have h7 : (a.tdiv b - 1) * b = a.tdiv b * b - b := by rw [Int.sub_mul, Int.one_mul]
  symm
  rw [Int.ediv_eq_iff_of_pos hb]
  first | (rw [h7]; omega) | (constructor <;> (try rw [Int.mul_comm]) <;> omega)
theorem tdiv_b {a b : Int} (ha : b32 a) (hb : 0 < b) : b32 (a.tdiv b * b) := by
  have e := @tdiv_mul a b
  have h1 : a.tmod b < b := Int.tmod_lt_of_pos a hb
  have h3 : -b < a.tmod b := Int.lt_tmod_of_pos a hb
  have := ha.1; have := ha.2
  rcases Int.le_total 0 a with q | q
  · have h5 := Int.tmod_nonneg b q
    have h6 := Int.mul_nonneg (Int.tdiv_nonneg q (Int.le_of_lt hb)) (Int.le_of_lt hb)
    exact ⟨by omega, by omega⟩
  · have h5 := Int.tmod_nonneg b (a := -a) (by omega)
    rw [Int.neg_tmod] at h5
    have h6 := Int.tdiv_nonneg (a := -a) (b := b) (by omega) (Int.le_of_lt hb)
    rw [Int.neg_tdiv] at h6
    have h7 := Int.mul_nonneg h6 (Int.le_of_lt hb)
    rw [Int.neg_mul] at h7
    exact ⟨by omega, by omega⟩
theorem dJ9_floorDiv_7cf53_0 : decode cJ9_floorDiv_7cf53 0 = .ok (.iload_n 0, 1) := by decide +kernel
theorem dJ9_floorDiv_7cf53_1 : decode cJ9_floorDiv_7cf53 1 = .ok (.iload_n 1, 1) := by decide +kernel
theorem dJ9_floorDiv_7cf53_2 : decode cJ9_floorDiv_7cf53 2 = .ok (.idiv, 1) := by decide +kernel
theorem dJ9_floorDiv_7cf53_3 : decode cJ9_floorDiv_7cf53 3 = .ok (.istore_n 2, 1) := by decide +kernel
theorem dJ9_floorDiv_7cf53_4 : decode cJ9_floorDiv_7cf53 4 = .ok (.iload_n 0, 1) := by decide +kernel
theorem dJ9_floorDiv_7cf53_5 : decode cJ9_floorDiv_7cf53 5 = .ok (.iload_n 1, 1) := by decide +kernel
theorem dJ9_floorDiv_7cf53_6 : decode cJ9_floorDiv_7cf53 6 = .ok (.ixor, 1) := by decide +kernel
theorem dJ9_floorDiv_7cf53_7 : decode cJ9_floorDiv_7cf53 7 = .ok (.ifCond .ge 14, 3) := by decide +kernel
theorem dJ9_floorDiv_7cf53_10 : decode cJ9_floorDiv_7cf53 10 = .ok (.iload_n 2, 1) := by decide +kernel
theorem dJ9_floorDiv_7cf53_11 : decode cJ9_floorDiv_7cf53 11 = .ok (.iload_n 1, 1) := by decide +kernel
theorem dJ9_floorDiv_7cf53_12 : decode cJ9_floorDiv_7cf53 12 = .ok (.imul, 1) := by decide +kernel
theorem dJ9_floorDiv_7cf53_13 : decode cJ9_floorDiv_7cf53 13 = .ok (.iload_n 0, 1) := by decide +kernel
theorem dJ9_floorDiv_7cf53_14 : decode cJ9_floorDiv_7cf53 14 = .ok (.if_icmp .eq 7, 3) := by decide +kernel
theorem dJ9_floorDiv_7cf53_17 : decode cJ9_floorDiv_7cf53 17 = .ok (.iload_n 2, 1) := by decide +kernel
theorem dJ9_floorDiv_7cf53_18 : decode cJ9_floorDiv_7cf53 18 = .ok (.iconst 1, 1) := by decide +kernel
theorem dJ9_floorDiv_7cf53_19 : decode cJ9_floorDiv_7cf53 19 = .ok (.isub, 1) := by decide +kernel
theorem dJ9_floorDiv_7cf53_20 : decode cJ9_floorDiv_7cf53 20 = .ok (.ireturn, 1) := by decide +kernel
theorem dJ9_floorDiv_7cf53_21 : decode cJ9_floorDiv_7cf53 21 = .ok (.iload_n 2, 1) := by decide +kernel
theorem dJ9_floorDiv_7cf53_22 : decode cJ9_floorDiv_7cf53 22 = .ok (.ireturn, 1) := by decide +kernel
theorem hy_J9_floorDiv_7cf53 : yJ9_floorDiv_7cf53.cls ≠ "java/lang/invoke/MethodHandle" ∧ yJ9_floorDiv_7cf53.cls ≠ "java/lang/invoke/VarHandle" ∧ (parseMethodDescriptor yJ9_floorDiv_7cf53.desc).map (fun d => d.parameters.length) = some 2 := ⟨by decide +kernel, by decide +kernel, by decide +kernel⟩
set_option maxHeartbeats 4000000 in
set_option maxRecDepth 100000 in
theorem c_J9_floorDiv_7cf53 (l0 : Launch) (D0 : va_G) (cI0 cJ0 : ClassId) (ad : Nat → Nat → Nat) (S : zM) (a : Int) (b : Int) (ha : b32 a) (hb : b32 b) (h0 : 0 < b) : Ct l0 D0 cI0 cJ0 ad yJ9_floorDiv_7cf53 cJ9_floorDiv_7cf53 3 (some .int) 0 0 [.int (i32 a), .int (i32 b)] S (some (.int (i32 (a / b)))) (fun X => X = S) := by
  refine Ct.ofF (by unfold plainFor; rw [Bool.or_eq_true]; right; decide +kernel) (Nat.le_of_ble_eq_true rfl) (fun E hE hR => ?_)
  have hE : zG E l0 D0 cI0 cJ0 ad cJ9_floorDiv_7cf53 3 RJ9 0 0 := hE
  show Z E S 0 [(0, .int (i32 a)), (1, .int (i32 b))] []
  refine z_iload_n hE 0 rfl rfl dJ9_floorDiv_7cf53_0 ?_
  refine z_iload_n hE 1 rfl rfl dJ9_floorDiv_7cf53_1 ?_
  refine z_idiv hE ⟨by first | exact ha.1 | exact ha.2 | exact hb.1 | exact hb.2 | exact h0 | exact (tdiv_b ha h0).1 | exact (tdiv_b ha h0).2, by first | exact ha.1 | exact ha.2 | exact hb.1 | exact hb.2 | exact h0 | exact (tdiv_b ha h0).1 | exact (tdiv_b ha h0).2⟩ ⟨by first | exact ha.1 | exact ha.2 | exact hb.1 | exact hb.2 | exact h0 | exact (tdiv_b ha h0).1 | exact (tdiv_b ha h0).2, by first | exact ha.1 | exact ha.2 | exact hb.1 | exact hb.2 | exact h0 | exact (tdiv_b ha h0).1 | exact (tdiv_b ha h0).2⟩ (by first | exact ha.1 | exact ha.2 | exact hb.1 | exact hb.2 | exact h0 | exact (tdiv_b ha h0).1 | exact (tdiv_b ha h0).2) dJ9_floorDiv_7cf53_2 ?_
  refine z_istore_n hE rfl (by decide) rfl dJ9_floorDiv_7cf53_3 ?_
  refine z_iload_n hE 1 rfl rfl dJ9_floorDiv_7cf53_4 ?_
  refine z_iload_n hE 2 rfl rfl dJ9_floorDiv_7cf53_5 ?_
  refine z_ixor hE dJ9_floorDiv_7cf53_6 ?_
  refine z_ifge_w (tgt := 21) hE (xor_nn ha hb h0) dJ9_floorDiv_7cf53_7 (by decide) (fun c1 => ?_) (fun c1 => ?_)
  · refine z_iload_n hE 0 rfl rfl dJ9_floorDiv_7cf53_21 ?_
    exact z_iret hE hR dJ9_floorDiv_7cf53_22 (congrArg (fun x => some (Value.int (i32 x))) (by first | exact (fdiv_1 h0 c1).symm | exact (fdiv_2 h0 c2).symm)) (by first | rfl | (simp only [us_id]))
  · refine z_iload_n hE 0 rfl rfl dJ9_floorDiv_7cf53_10 ?_
    refine z_iload_n hE 2 rfl rfl dJ9_floorDiv_7cf53_11 ?_
    refine z_imul hE dJ9_floorDiv_7cf53_12 ?_
    refine z_iload_n hE 1 rfl rfl dJ9_floorDiv_7cf53_13 ?_
    refine z_icmp_eq (tgt := 21) hE dJ9_floorDiv_7cf53_14 (by decide) ⟨by first | exact ha.1 | exact ha.2 | exact hb.1 | exact hb.2 | exact h0 | exact (tdiv_b ha h0).1 | exact (tdiv_b ha h0).2, by first | exact ha.1 | exact ha.2 | exact hb.1 | exact hb.2 | exact h0 | exact (tdiv_b ha h0).1 | exact (tdiv_b ha h0).2⟩ ⟨by first | exact ha.1 | exact ha.2 | exact hb.1 | exact hb.2 | exact h0 | exact (tdiv_b ha h0).1 | exact (tdiv_b ha h0).2, by first | exact ha.1 | exact ha.2 | exact hb.1 | exact hb.2 | exact h0 | exact (tdiv_b ha h0).1 | exact (tdiv_b ha h0).2⟩ (fun c2 => ?_) (fun c2 => ?_)
    · refine z_iload_n hE 0 rfl rfl dJ9_floorDiv_7cf53_21 ?_
      exact z_iret hE hR dJ9_floorDiv_7cf53_22 (congrArg (fun x => some (Value.int (i32 x))) (by first | exact (fdiv_1 h0 c1).symm | exact (fdiv_2 h0 c2).symm)) (by first | rfl | (simp only [us_id]))
    · refine z_iload_n hE 0 rfl rfl dJ9_floorDiv_7cf53_17 ?_
      refine z_iconst hE dJ9_floorDiv_7cf53_18 ?_
      refine z_isub hE dJ9_floorDiv_7cf53_19 ?_
      exact z_iret hE hR dJ9_floorDiv_7cf53_20 (congrArg (fun x => some (Value.int (i32 x))) (by exact (fdiv_3 h0 c1 c2).symm)) (by first | rfl | (simp only [us_id]))
theorem dX7_quotient_0 : decode cX7_quotient 0 = .ok (.iload_n 1, 1) := by decide +kernel
theorem dX7_quotient_1 : decode cX7_quotient 1 = .ok (.ifCond .le 11, 3) := by decide +kernel
theorem dX7_quotient_4 : decode cX7_quotient 4 = .ok (.iload_n 0, 1) := by decide +kernel
theorem dX7_quotient_5 : decode cX7_quotient 5 = .ok (.iload_n 1, 1) := by decide +kernel
theorem dX7_quotient_6 : decode cX7_quotient 6 = .ok (.invokestatic 255, 3) := by decide +kernel
theorem dX7_quotient_9 : decode cX7_quotient 9 = .ok (.goto 4, 3) := by decide +kernel
theorem dX7_quotient_12 : decode cX7_quotient 12 = .ok (.iconst 0, 1) := by decide +kernel
theorem dX7_quotient_13 : decode cX7_quotient 13 = .ok (.ireturn, 1) := by decide +kernel
theorem hy_X7_quotient : yX7_quotient.cls ≠ "java/lang/invoke/MethodHandle" ∧ yX7_quotient.cls ≠ "java/lang/invoke/VarHandle" ∧ (parseMethodDescriptor yX7_quotient.desc).map (fun d => d.parameters.length) = some 2 := ⟨by decide +kernel, by decide +kernel, by decide +kernel⟩
set_option maxHeartbeats 4000000 in
set_option maxRecDepth 100000 in
theorem c_X7_quotient (l0 : Launch) (D0 : va_G) (cI0 cJ0 : ClassId) (ad : Nat → Nat → Nat) (S : zM) (a : Int) (b : Int) (ha : b32 a) (hb : b32 b) (h0 : 0 ≤ b) : Ct l0 D0 cI0 cJ0 ad yX7_quotient cX7_quotient 2 (some .int) 1 22 [.int (i32 a), .int (i32 b)] S (some (.int (i32 (a / b)))) (fun X => X = S) := by
  refine Ct.of (by decide) (Nat.le_of_ble_eq_true rfl) (fun E hE hR => ?_)
  have hE : zG E l0 D0 cI0 cJ0 ad cX7_quotient 2 RX7 1 22 := hE
  show Z E S 0 [(0, .int (i32 a)), (1, .int (i32 b))] []
  refine z_iload_n hE 1 rfl rfl dX7_quotient_0 ?_
  refine z_if_le (tgt := 12) hE dX7_quotient_1 (by decide) ⟨by first | exact ha.1 | exact ha.2 | exact hb.1 | exact hb.2 | omega, by first | exact ha.1 | exact ha.2 | exact hb.1 | exact hb.2 | omega⟩ (fun c1 => ?_) (fun c1 => ?_)
  · refine z_iconst hE dX7_quotient_12 ?_
    exact z_iret hE hR dX7_quotient_13 (congrArg (fun x => some (Value.int (i32 x))) (by first | rfl | (rw [show b = 0 by omega, Int.ediv_zero]))) (by first | rfl | (simp only [us_id]))
  · refine z_iload_n hE 0 rfl rfl dX7_quotient_4 ?_
    refine z_iload_n hE 1 rfl rfl dX7_quotient_5 ?_
    refine z_callS hE (c_J9_floorDiv_7cf53 l0 D0 cI0 cJ0 ad S a b ha hb (by first | exact ha.1 | exact ha.2 | exact hb.1 | exact hb.2 | omega)) zm_X7_255 zt_yJ9_floorDiv_7cf53 zn_RJ9 zc_yJ9_floorDiv_7cf53 (hy_J9_floorDiv_7cf53) (Nat.le_of_ble_eq_true rfl) (Nat.le_of_ble_eq_true rfl) rfl rfl rfl (Nat.le_of_ble_eq_true rfl) dX7_quotient_6 ?_
    refine z_goto (tgt := 13) hE (d := dX7_quotient_9) (ht := by decide) ?_
    exact z_iret hE hR dX7_quotient_13 (congrArg (fun x => some (Value.int (i32 x))) (by first | rfl | (rw [show b = 0 by omega, Int.ediv_zero]))) (by first | rfl | (simp only [us_id]))
