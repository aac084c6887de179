theorem zbo_cg {P Q : Prop} [Decidable P] [Decidable Q] (h : P ↔ Q) : zbo P = zbo Q := by
  unfold zbo
  by_cases a : P
  · rw [if_pos a, if_pos (h.mp a)]
  · rw [if_neg a, if_neg (fun q => a (h.mpr q))]
theorem dX7_rootOf_0 : decode cX7_rootOf 0 = .ok (.iconst 0, 1) := by decide +kernel
theorem dX7_rootOf_1 : decode cX7_rootOf 1 = .ok (.istore_n 1, 1) := by decide +kernel
theorem dX7_rootOf_2 : decode cX7_rootOf 2 = .ok (.iload_n 1, 1) := by decide +kernel
theorem dX7_rootOf_3 : decode cX7_rootOf 3 = .ok (.sipush 10000, 3) := by decide +kernel
theorem dX7_rootOf_6 : decode cX7_rootOf 6 = .ok (.if_icmp .ge 20, 3) := by decide +kernel
theorem dX7_rootOf_9 : decode cX7_rootOf 9 = .ok (.iload_n 1, 1) := by decide +kernel
theorem dX7_rootOf_10 : decode cX7_rootOf 10 = .ok (.iconst 1, 1) := by decide +kernel
theorem dX7_rootOf_11 : decode cX7_rootOf 11 = .ok (.iadd, 1) := by decide +kernel
theorem dX7_rootOf_12 : decode cX7_rootOf 12 = .ok (.iload_n 1, 1) := by decide +kernel
theorem dX7_rootOf_13 : decode cX7_rootOf 13 = .ok (.iconst 1, 1) := by decide +kernel
theorem dX7_rootOf_14 : decode cX7_rootOf 14 = .ok (.iadd, 1) := by decide +kernel
theorem dX7_rootOf_15 : decode cX7_rootOf 15 = .ok (.imul, 1) := by decide +kernel
theorem dX7_rootOf_16 : decode cX7_rootOf 16 = .ok (.iload_n 0, 1) := by decide +kernel
theorem dX7_rootOf_17 : decode cX7_rootOf 17 = .ok (.if_icmp .gt 9, 3) := by decide +kernel
theorem dX7_rootOf_20 : decode cX7_rootOf 20 = .ok (.iinc 1 1, 3) := by decide +kernel
theorem dX7_rootOf_23 : decode cX7_rootOf 23 = .ok (.goto (-21), 3) := by decide +kernel
theorem dX7_rootOf_26 : decode cX7_rootOf 26 = .ok (.iload_n 1, 1) := by decide +kernel
theorem dX7_rootOf_27 : decode cX7_rootOf 27 = .ok (.ireturn, 1) := by decide +kernel
theorem hy_X7_rootOf : yX7_rootOf.cls ≠ "java/lang/invoke/MethodHandle" ∧ yX7_rootOf.cls ≠ "java/lang/invoke/VarHandle" ∧ (parseMethodDescriptor yX7_rootOf.desc).map (fun d => d.parameters.length) = some 1 := ⟨by decide +kernel, by decide +kernel, by decide +kernel⟩
set_option maxHeartbeats 4000000 in
set_option maxRecDepth 100000 in
theorem lp_X7_rootOf {E : zE} {l0 : Launch} {D0 : va_G} {cI0 cJ0 : ClassId} {ad : Nat → Nat → Nat} (hE : zG E l0 D0 cI0 cJ0 ad cX7_rootOf 2 RX7 0 0) (S : zM) (n : Int) (h0 : 0 ≤ n ∧ n ≤ 10000) (hR : zR E (some .int) (some (.int (i32 (sp_root n)))) (fun X => X = S)) : ∀ (fuel : Nat) (k : Int) (h9 : 0 ≤ k ∧ k ≤ 100) (h8 : k * k ≤ n) (h7 : rtl (10000 - k).toNat k n = sp_root n), (10000 - k).toNat < fuel → Z E S 2 [(1, .int (i32 k)), (0, .int (i32 n))] [] := by
  intro fuel
  induction fuel with
  | zero => intro _ _ _ _ hz; omega
  | succ fuel ih =>
    intro k h9 h8 h7 hz
    have h6 := zx_mul (a := k + 1) (b := k + 1) (A := 101) (B := 101) (by omega) (by omega) (by omega) (by omega)
    have h5 : rtl (10000 - k).toNat k n = if (k + 1) * (k + 1) ≤ n then rtl (10000 - (k + 1)).toNat (k + 1) n else k := by
      rw [show (10000 - k).toNat = (10000 - (k + 1)).toNat + 1 by omega]; rfl
    refine z_iload_n hE 0 rfl rfl dX7_rootOf_2 ?_
    refine z_sipush (a := 10000) hE (by decide) dX7_rootOf_3 ?_
    refine z_icmp_ge (tgt := 26) hE dX7_rootOf_6 (by decide) ⟨by omega, by omega⟩ ⟨by omega, by omega⟩ (fun c1 => ?_) (fun c1 => ?_)
    · exact by omega
    · refine z_iload_n hE 0 rfl rfl dX7_rootOf_9 ?_
      refine z_iconst hE dX7_rootOf_10 ?_
      refine z_iadd hE dX7_rootOf_11 ?_
      refine z_iload_n hE 0 rfl rfl dX7_rootOf_12 ?_
      refine z_iconst hE dX7_rootOf_13 ?_
      refine z_iadd hE dX7_rootOf_14 ?_
      refine z_imul hE dX7_rootOf_15 ?_
      refine z_iload_n hE 1 rfl rfl dX7_rootOf_16 ?_
      refine z_icmp_gt (tgt := 26) hE dX7_rootOf_17 (by decide) ⟨by omega, by omega⟩ ⟨by omega, by omega⟩ (fun c2 => ?_) (fun c2 => ?_)
      · refine z_iload_n hE 0 rfl rfl dX7_rootOf_26 ?_
        exact z_iret hE hR dX7_rootOf_27 (congrArg (fun x => some (Value.int (i32 x))) (by rw [← h7, h5, if_neg (by omega)])) (by first | rfl | (simp only [us_id]))
      · refine z_iinc hE 0 rfl (by decide) rfl dX7_rootOf_20 ?_
        refine z_goto (tgt := 2) hE (d := dX7_rootOf_23) (ht := by decide) ?_
        refine z_L (L' := [(1, .int (i32 (k + 1))), (0, .int (i32 n))]) [0, 1] (by rfl) ?_
        exact ih (k + 1) (by have h4 : k + 1 ≤ 100 := by { rcases Int.lt_or_le 100 (k + 1) with q | q; · { have := Int.mul_le_mul (show (101 : Int) ≤ k + 1 by omega) (show (101 : Int) ≤ k + 1 by omega) (by omega) (by omega); omega }; · exact q }; omega) (by omega) (by rw [if_pos (by omega)] at h5; rw [← h5]; exact h7) (by omega)
set_option maxHeartbeats 4000000 in
set_option maxRecDepth 100000 in
theorem c_X7_rootOf (l0 : Launch) (D0 : va_G) (cI0 cJ0 : ClassId) (ad : Nat → Nat → Nat) (S : zM) (n : Int) (h0 : 0 ≤ n ∧ n ≤ 10000) : Ct l0 D0 cI0 cJ0 ad yX7_rootOf cX7_rootOf 2 (some .int) 0 0 [.int (i32 n)] S (some (.int (i32 (sp_root n)))) (fun X => X = S) := by
  refine Ct.of (by decide) (Nat.le_of_ble_eq_true rfl) (fun E hE hR => ?_)
  have hE : zG E l0 D0 cI0 cJ0 ad cX7_rootOf 2 RX7 0 0 := hE
  show Z E S 0 [(0, .int (i32 n))] []
  refine z_iconst hE dX7_rootOf_0 ?_
  refine z_istore_n hE rfl (by decide) rfl dX7_rootOf_1 ?_
  refine z_L (L' := [(1, .int (i32 0)), (0, .int (i32 n))]) [0, 1] (by rfl) ?_
  exact lp_X7_rootOf hE S n h0 hR 10001 0 ⟨by omega, by omega⟩ (by omega) rfl (by omega)
theorem dX7_isValueOfKind_0 : decode cX7_isValueOfKind 0 = .ok (.iload_n 0, 1) := by decide +kernel
theorem dX7_isValueOfKind_1 : decode cX7_isValueOfKind 1 = .ok (.tableswitch 77 0 4 #[35, 44, 52, 60, 69], 35) := by decide +kernel
theorem dX7_isValueOfKind_36 : decode cX7_isValueOfKind 36 = .ok (.iload_n 1, 1) := by decide +kernel
theorem dX7_isValueOfKind_37 : decode cX7_isValueOfKind 37 = .ok (.iconst 1, 1) := by decide +kernel
theorem dX7_isValueOfKind_38 : decode cX7_isValueOfKind 38 = .ok (.sipush 1000, 3) := by decide +kernel
theorem dX7_isValueOfKind_41 : decode cX7_isValueOfKind 41 = .ok (.invokestatic 56, 3) := by decide +kernel
theorem dX7_isValueOfKind_44 : decode cX7_isValueOfKind 44 = .ok (.ireturn, 1) := by decide +kernel
theorem dX7_isValueOfKind_45 : decode cX7_isValueOfKind 45 = .ok (.iload_n 1, 1) := by decide +kernel
theorem dX7_isValueOfKind_46 : decode cX7_isValueOfKind 46 = .ok (.iconst 5, 1) := by decide +kernel
theorem dX7_isValueOfKind_47 : decode cX7_isValueOfKind 47 = .ok (.bipush 100, 2) := by decide +kernel
theorem dX7_isValueOfKind_49 : decode cX7_isValueOfKind 49 = .ok (.invokestatic 56, 3) := by decide +kernel
theorem dX7_isValueOfKind_52 : decode cX7_isValueOfKind 52 = .ok (.ireturn, 1) := by decide +kernel
theorem dX7_isValueOfKind_53 : decode cX7_isValueOfKind 53 = .ok (.iload_n 1, 1) := by decide +kernel
theorem dX7_isValueOfKind_54 : decode cX7_isValueOfKind 54 = .ok (.iconst 1, 1) := by decide +kernel
theorem dX7_isValueOfKind_55 : decode cX7_isValueOfKind 55 = .ok (.bipush 10, 2) := by decide +kernel
theorem dX7_isValueOfKind_57 : decode cX7_isValueOfKind 57 = .ok (.invokestatic 56, 3) := by decide +kernel
theorem dX7_isValueOfKind_60 : decode cX7_isValueOfKind 60 = .ok (.ireturn, 1) := by decide +kernel
theorem dX7_isValueOfKind_61 : decode cX7_isValueOfKind 61 = .ok (.iload_n 1, 1) := by decide +kernel
theorem dX7_isValueOfKind_62 : decode cX7_isValueOfKind 62 = .ok (.iconst 1, 1) := by decide +kernel
theorem dX7_isValueOfKind_63 : decode cX7_isValueOfKind 63 = .ok (.sipush 1000, 3) := by decide +kernel
theorem dX7_isValueOfKind_66 : decode cX7_isValueOfKind 66 = .ok (.invokestatic 56, 3) := by decide +kernel
theorem dX7_isValueOfKind_69 : decode cX7_isValueOfKind 69 = .ok (.ireturn, 1) := by decide +kernel
theorem dX7_isValueOfKind_70 : decode cX7_isValueOfKind 70 = .ok (.iload_n 1, 1) := by decide +kernel
theorem dX7_isValueOfKind_71 : decode cX7_isValueOfKind 71 = .ok (.iconst 1, 1) := by decide +kernel
theorem dX7_isValueOfKind_72 : decode cX7_isValueOfKind 72 = .ok (.bipush 100, 2) := by decide +kernel
theorem dX7_isValueOfKind_74 : decode cX7_isValueOfKind 74 = .ok (.invokestatic 56, 3) := by decide +kernel
theorem dX7_isValueOfKind_77 : decode cX7_isValueOfKind 77 = .ok (.ireturn, 1) := by decide +kernel
theorem dX7_isValueOfKind_78 : decode cX7_isValueOfKind 78 = .ok (.iconst 0, 1) := by decide +kernel
theorem dX7_isValueOfKind_79 : decode cX7_isValueOfKind 79 = .ok (.ireturn, 1) := by decide +kernel
theorem hy_X7_isValueOfKind : yX7_isValueOfKind.cls ≠ "java/lang/invoke/MethodHandle" ∧ yX7_isValueOfKind.cls ≠ "java/lang/invoke/VarHandle" ∧ (parseMethodDescriptor yX7_isValueOfKind.desc).map (fun d => d.parameters.length) = some 2 := ⟨by decide +kernel, by decide +kernel, by decide +kernel⟩
set_option maxHeartbeats 4000000 in
set_option maxRecDepth 100000 in
theorem c_X7_isValueOfKind (l0 : Launch) (D0 : va_G) (cI0 cJ0 : ClassId) (ad : Nat → Nat → Nat) (S : zM) (k : Int) (v : Int) (h0 : -2147483648 ≤ k ∧ k < 2147483648) (h1 : -2147483648 ≤ v ∧ v < 2147483648) : Ct l0 D0 cI0 cJ0 ad yX7_isValueOfKind cX7_isValueOfKind 2 (some .boolean) 1 22 [.int (i32 k), .int (i32 v)] S (some (.int (i32 (zbo ((k = 0 ∧ 1 ≤ v ∧ v ≤ 1000) ∨ (k = 1 ∧ 5 ≤ v ∧ v ≤ 100) ∨ (k = 2 ∧ 1 ≤ v ∧ v ≤ 10) ∨ (k = 3 ∧ 1 ≤ v ∧ v ≤ 1000) ∨ (k = 4 ∧ 1 ≤ v ∧ v ≤ 100)))))) (fun X => X = S) := by
  refine Ct.of (by decide) (Nat.le_of_ble_eq_true rfl) (fun E hE hR => ?_)
  have hE : zG E l0 D0 cI0 cJ0 ad cX7_isValueOfKind 2 RX7 1 22 := hE
  show Z E S 0 [(0, .int (i32 k)), (1, .int (i32 v))] []
  refine z_iload_n hE 0 rfl rfl dX7_isValueOfKind_0 ?_
  by_cases k1_0 : k = 0
  · refine z_tIn (tgt := 36) hE 0 dX7_isValueOfKind_1 ⟨by omega, by omega⟩ k1_0 (by decide) (by decide) rfl (by decide) ?_
    refine z_iload_n hE 1 rfl rfl dX7_isValueOfKind_36 ?_
    refine z_iconst hE dX7_isValueOfKind_37 ?_
    refine z_sipush (a := 1000) hE (by decide) dX7_isValueOfKind_38 ?_
    refine z_callS hE (c_X7_isWithin l0 D0 cI0 cJ0 ad S v 1 1000 (⟨by omega, by omega⟩) (⟨by omega, by omega⟩) (⟨by omega, by omega⟩)) zm_X7_56 zt_yX7_isWithin zn_RX7 zc_yX7_isWithin (hy_X7_isWithin) (Nat.le_of_ble_eq_true rfl) (Nat.le_of_ble_eq_true rfl) rfl rfl rfl (Nat.le_of_ble_eq_true rfl) dX7_isValueOfKind_41 ?_
    exact z_zret hE hR dX7_isValueOfKind_44 (by unfold zbo; split <;> omega) (congrArg (fun x => some (Value.int (i32 x))) (by first | exact zbo_cg (by omega) | exact zbo_f (by omega))) (by first | rfl | (simp only [us_id]))
  by_cases k1_1 : k = 1
  · refine z_tIn (tgt := 45) hE 1 dX7_isValueOfKind_1 ⟨by omega, by omega⟩ k1_1 (by decide) (by decide) rfl (by decide) ?_
    refine z_iload_n hE 1 rfl rfl dX7_isValueOfKind_45 ?_
    refine z_iconst hE dX7_isValueOfKind_46 ?_
    refine z_bipush (a := 100) hE (by decide) dX7_isValueOfKind_47 ?_
    refine z_callS hE (c_X7_isWithin l0 D0 cI0 cJ0 ad S v 5 100 (⟨by omega, by omega⟩) (⟨by omega, by omega⟩) (⟨by omega, by omega⟩)) zm_X7_56 zt_yX7_isWithin zn_RX7 zc_yX7_isWithin (hy_X7_isWithin) (Nat.le_of_ble_eq_true rfl) (Nat.le_of_ble_eq_true rfl) rfl rfl rfl (Nat.le_of_ble_eq_true rfl) dX7_isValueOfKind_49 ?_
    exact z_zret hE hR dX7_isValueOfKind_52 (by unfold zbo; split <;> omega) (congrArg (fun x => some (Value.int (i32 x))) (by first | exact zbo_cg (by omega) | exact zbo_f (by omega))) (by first | rfl | (simp only [us_id]))
  by_cases k1_2 : k = 2
  · refine z_tIn (tgt := 53) hE 2 dX7_isValueOfKind_1 ⟨by omega, by omega⟩ k1_2 (by decide) (by decide) rfl (by decide) ?_
    refine z_iload_n hE 1 rfl rfl dX7_isValueOfKind_53 ?_
    refine z_iconst hE dX7_isValueOfKind_54 ?_
    refine z_bipush (a := 10) hE (by decide) dX7_isValueOfKind_55 ?_
    refine z_callS hE (c_X7_isWithin l0 D0 cI0 cJ0 ad S v 1 10 (⟨by omega, by omega⟩) (⟨by omega, by omega⟩) (⟨by omega, by omega⟩)) zm_X7_56 zt_yX7_isWithin zn_RX7 zc_yX7_isWithin (hy_X7_isWithin) (Nat.le_of_ble_eq_true rfl) (Nat.le_of_ble_eq_true rfl) rfl rfl rfl (Nat.le_of_ble_eq_true rfl) dX7_isValueOfKind_57 ?_
    exact z_zret hE hR dX7_isValueOfKind_60 (by unfold zbo; split <;> omega) (congrArg (fun x => some (Value.int (i32 x))) (by first | exact zbo_cg (by omega) | exact zbo_f (by omega))) (by first | rfl | (simp only [us_id]))
  by_cases k1_3 : k = 3
  · refine z_tIn (tgt := 61) hE 3 dX7_isValueOfKind_1 ⟨by omega, by omega⟩ k1_3 (by decide) (by decide) rfl (by decide) ?_
    refine z_iload_n hE 1 rfl rfl dX7_isValueOfKind_61 ?_
    refine z_iconst hE dX7_isValueOfKind_62 ?_
    refine z_sipush (a := 1000) hE (by decide) dX7_isValueOfKind_63 ?_
    refine z_callS hE (c_X7_isWithin l0 D0 cI0 cJ0 ad S v 1 1000 (⟨by omega, by omega⟩) (⟨by omega, by omega⟩) (⟨by omega, by omega⟩)) zm_X7_56 zt_yX7_isWithin zn_RX7 zc_yX7_isWithin (hy_X7_isWithin) (Nat.le_of_ble_eq_true rfl) (Nat.le_of_ble_eq_true rfl) rfl rfl rfl (Nat.le_of_ble_eq_true rfl) dX7_isValueOfKind_66 ?_
    exact z_zret hE hR dX7_isValueOfKind_69 (by unfold zbo; split <;> omega) (congrArg (fun x => some (Value.int (i32 x))) (by first | exact zbo_cg (by omega) | exact zbo_f (by omega))) (by first | rfl | (simp only [us_id]))
  by_cases k1_4 : k = 4
  · refine z_tIn (tgt := 70) hE 4 dX7_isValueOfKind_1 ⟨by omega, by omega⟩ k1_4 (by decide) (by decide) rfl (by decide) ?_
    refine z_iload_n hE 1 rfl rfl dX7_isValueOfKind_70 ?_
    refine z_iconst hE dX7_isValueOfKind_71 ?_
    refine z_bipush (a := 100) hE (by decide) dX7_isValueOfKind_72 ?_
    refine z_callS hE (c_X7_isWithin l0 D0 cI0 cJ0 ad S v 1 100 (⟨by omega, by omega⟩) (⟨by omega, by omega⟩) (⟨by omega, by omega⟩)) zm_X7_56 zt_yX7_isWithin zn_RX7 zc_yX7_isWithin (hy_X7_isWithin) (Nat.le_of_ble_eq_true rfl) (Nat.le_of_ble_eq_true rfl) rfl rfl rfl (Nat.le_of_ble_eq_true rfl) dX7_isValueOfKind_74 ?_
    exact z_zret hE hR dX7_isValueOfKind_77 (by unfold zbo; split <;> omega) (congrArg (fun x => some (Value.int (i32 x))) (by first | exact zbo_cg (by omega) | exact zbo_f (by omega))) (by first | rfl | (simp only [us_id]))
  refine z_tOut (tgt := 78) hE dX7_isValueOfKind_1 ⟨by omega, by omega⟩ (by omega) (by decide) ?_
  refine z_iconst hE dX7_isValueOfKind_78 ?_
  exact z_zret hE hR dX7_isValueOfKind_79 (by decide) (congrArg (fun x => some (Value.int (i32 x))) (by first | exact zbo_cg (by omega) | exact zbo_f (by omega))) (by first | rfl | (simp only [us_id]))
theorem ediv_b {a b M : Int} (h : 1 ≤ b) (h1 : -M ≤ a) (h2 : a ≤ M) : -M ≤ a / b ∧ a / b ≤ M := by
  have e := Int.mul_ediv_add_emod a b
  have e1 := Int.emod_nonneg a (show b ≠ 0 by omega)
  have e2 := Int.emod_lt_of_pos a (show 0 < b by omega)
  constructor
  · rcases Int.lt_or_le (a / b) (-M) with q | q
    · exfalso
      have h3 : b * (a / b) ≤ 1 * (a / b) + 0 := by
        have h4 := Int.mul_le_mul_of_nonneg_left (show a / b ≤ 0 by omega) (show 0 ≤ b - 1 by omega)
        rw [Int.sub_mul] at h4; omega
      have h5 : b * (a / b) ≤ b * (-M - 1) := Int.mul_le_mul_of_nonneg_left (by omega) (by omega)
      have h6 : b * (-M - 1) = -(b * M) - b := by rw [Int.mul_sub, Int.mul_neg, Int.mul_one]
      have h7 : M ≤ b * M := by
        have h8 := Int.mul_le_mul_of_nonneg_right h (show 0 ≤ M by omega)
        omega
      omega
    · exact q
  · rcases Int.lt_or_le M (a / b) with q | q
    · exfalso
      have h3 : 1 * (a / b) ≤ b * (a / b) := Int.mul_le_mul_of_nonneg_right h (by omega)
      omega
    · exact q
theorem dX0_valueOfOne_0 : decode cX0_valueOfOne 0 = .ok (.aload_n 0, 1) := by decide +kernel
theorem dX0_valueOfOne_1 : decode cX0_valueOfOne 1 = .ok (.getfield 9, 3) := by decide +kernel
theorem dX0_valueOfOne_4 : decode cX0_valueOfOne 4 = .ok (.aload_n 0, 1) := by decide +kernel
theorem dX0_valueOfOne_5 : decode cX0_valueOfOne 5 = .ok (.getfield 15, 3) := by decide +kernel
theorem dX0_valueOfOne_8 : decode cX0_valueOfOne 8 = .ok (.isub, 1) := by decide +kernel
theorem dX0_valueOfOne_9 : decode cX0_valueOfOne 9 = .ok (.iload_n 1, 1) := by decide +kernel
theorem dX0_valueOfOne_10 : decode cX0_valueOfOne 10 = .ok (.invokestatic 34, 3) := by decide +kernel
theorem dX0_valueOfOne_13 : decode cX0_valueOfOne 13 = .ok (.istore_n 2, 1) := by decide +kernel
theorem dX0_valueOfOne_14 : decode cX0_valueOfOne 14 = .ok (.bipush 10, 2) := by decide +kernel
theorem dX0_valueOfOne_16 : decode cX0_valueOfOne 16 = .ok (.aload_n 0, 1) := by decide +kernel
theorem dX0_valueOfOne_17 : decode cX0_valueOfOne 17 = .ok (.invokevirtual 38, 3) := by decide +kernel
theorem dX0_valueOfOne_20 : decode cX0_valueOfOne 20 = .ok (.imul, 1) := by decide +kernel
theorem dX0_valueOfOne_21 : decode cX0_valueOfOne 21 = .ok (.iload_n 1, 1) := by decide +kernel
theorem dX0_valueOfOne_22 : decode cX0_valueOfOne 22 = .ok (.invokestatic 34, 3) := by decide +kernel
theorem dX0_valueOfOne_25 : decode cX0_valueOfOne 25 = .ok (.istore_n 3, 1) := by decide +kernel
theorem dX0_valueOfOne_26 : decode cX0_valueOfOne 26 = .ok (.iconst 3, 1) := by decide +kernel
theorem dX0_valueOfOne_27 : decode cX0_valueOfOne 27 = .ok (.iload_n 2, 1) := by decide +kernel
theorem dX0_valueOfOne_28 : decode cX0_valueOfOne 28 = .ok (.imul, 1) := by decide +kernel
theorem dX0_valueOfOne_29 : decode cX0_valueOfOne 29 = .ok (.iconst 2, 1) := by decide +kernel
theorem dX0_valueOfOne_30 : decode cX0_valueOfOne 30 = .ok (.iload_n 3, 1) := by decide +kernel
theorem dX0_valueOfOne_31 : decode cX0_valueOfOne 31 = .ok (.imul, 1) := by decide +kernel
theorem dX0_valueOfOne_32 : decode cX0_valueOfOne 32 = .ok (.iadd, 1) := by decide +kernel
theorem dX0_valueOfOne_33 : decode cX0_valueOfOne 33 = .ok (.iconst 5, 1) := by decide +kernel
theorem dX0_valueOfOne_34 : decode cX0_valueOfOne 34 = .ok (.invokestatic 34, 3) := by decide +kernel
theorem dX0_valueOfOne_37 : decode cX0_valueOfOne 37 = .ok (.ireturn, 1) := by decide +kernel
theorem hy_X0_valueOfOne : yX0_valueOfOne.cls ≠ "java/lang/invoke/MethodHandle" ∧ yX0_valueOfOne.cls ≠ "java/lang/invoke/VarHandle" ∧ (parseMethodDescriptor yX0_valueOfOne.desc).map (fun d => d.parameters.length) = some 1 := ⟨by decide +kernel, by decide +kernel, by decide +kernel⟩
set_option maxHeartbeats 4000000 in
set_option maxRecDepth 100000 in
theorem c_X0_valueOfOne (l0 : Launch) (D0 : va_G) (cI0 cJ0 : ClassId) (ad : Nat → Nat → Nat) (S : zM) (r : Nat) (hr : r < 5) (all : Int) (h0 : 1 ≤ all ∧ all ≤ 10000) (hI : Inv0 (S r)) : Ct l0 D0 cI0 cJ0 ad yX0_valueOfOne cX0_valueOfOne 4 (some .int) 3 65 [.ref (ad r 6), .int (i32 all)] S (some (.int (i32 (sp_val (S r) all)))) (fun X => X = S) := by
  refine Ct.of (by decide) (Nat.le_of_ble_eq_true rfl) (fun E hE hR => ?_)
  have hE : zG E l0 D0 cI0 cJ0 ad cX0_valueOfOne 4 RX0 3 65 := hE
  show Z E S 0 [(0, .ref (ad r 6)), (1, .int (i32 all))] []
  have hA := inA hI
  unfold InvA at hA
  have hm := mean_b hI
  refine z_aload_n hE 0 rfl rfl dX0_valueOfOne_0 ?_
  refine gf_0_0 hE (ks_m hr (by decide)) zf_X0_9 dX0_valueOfOne_1 ?_
  refine z_aload_n hE 0 rfl rfl dX0_valueOfOne_4 ?_
  refine gf_0_1 hE (ks_m hr (by decide)) zf_X0_15 dX0_valueOfOne_5 ?_
  refine z_isub hE dX0_valueOfOne_8 ?_
  refine z_iload_n hE 1 rfl rfl dX0_valueOfOne_9 ?_
  refine z_callN hE (c_X7_quotient l0 D0 cI0 cJ0 ad S ((S r 7) - (S r 8)) all (⟨by omega, by omega⟩) (⟨by omega, by omega⟩) (by omega)) (List.mem_of_getElem? (i := 8) rfl) zt_yX7_quotient zn_RX7 zc_yX7_quotient (hy_X7_quotient) (Nat.le_of_ble_eq_true rfl) (Nat.le_of_ble_eq_true rfl) rfl rfl rfl (Nat.le_of_ble_eq_true rfl) dX0_valueOfOne_10 ?_
  refine z_istore_n hE rfl (by decide) rfl dX0_valueOfOne_13 ?_
  refine z_bipush (a := 10) hE (by decide) dX0_valueOfOne_14 ?_
  refine z_aload_n hE 1 rfl rfl dX0_valueOfOne_16 ?_
  refine z_callV hE (c_X0_meanSurplus l0 D0 cI0 cJ0 ad S r hr (by omega) (inS hI)) (ks_m hr (by decide)) rfl rfl zm_X0_38 zi_yX0_meanSurplus zs_yX0_meanSurplus zn_RX0 zc_yX0_meanSurplus (hy_X0_meanSurplus) (Nat.le_of_ble_eq_true rfl) (Nat.le_of_ble_eq_true rfl) rfl rfl rfl (Nat.le_of_ble_eq_true rfl) dX0_valueOfOne_17 ?_
  refine z_imul hE dX0_valueOfOne_20 ?_
  refine z_iload_n hE 2 rfl rfl dX0_valueOfOne_21 ?_
  refine z_callN hE (c_X7_quotient l0 D0 cI0 cJ0 ad S (10 * (sp_mean ((S r)))) all (⟨by omega, by omega⟩) (⟨by omega, by omega⟩) (by omega)) (List.mem_of_getElem? (i := 8) rfl) zt_yX7_quotient zn_RX7 zc_yX7_quotient (hy_X7_quotient) (Nat.le_of_ble_eq_true rfl) (Nat.le_of_ble_eq_true rfl) rfl rfl rfl (Nat.le_of_ble_eq_true rfl) dX0_valueOfOne_22 ?_
  have e1 : -100000000 ≤ (S r 7 - S r 8) / all ∧ (S r 7 - S r 8) / all ≤ 100000000 := ediv_b (by omega) (by omega) (by omega)
  have e2 : -10000000 ≤ 10 * sp_mean (S r) / all ∧ 10 * sp_mean (S r) / all ≤ 10000000 := ediv_b (by omega) (by omega) (by omega)
  refine z_istore_n hE rfl (by decide) rfl dX0_valueOfOne_25 ?_
  refine z_iconst hE dX0_valueOfOne_26 ?_
  refine z_iload_n hE 1 rfl rfl dX0_valueOfOne_27 ?_
  refine z_imul hE dX0_valueOfOne_28 ?_
  refine z_iconst hE dX0_valueOfOne_29 ?_
  refine z_iload_n hE 0 rfl rfl dX0_valueOfOne_30 ?_
  refine z_imul hE dX0_valueOfOne_31 ?_
  refine z_iadd hE dX0_valueOfOne_32 ?_
  refine z_iconst hE dX0_valueOfOne_33 ?_
  refine z_callN hE (c_X7_quotient l0 D0 cI0 cJ0 ad S ((3 * (((S r 7) - (S r 8)) / all)) + (2 * ((10 * (sp_mean ((S r)))) / all))) 5 (⟨by omega, by omega⟩) (⟨by omega, by omega⟩) (by omega)) (List.mem_of_getElem? (i := 8) rfl) zt_yX7_quotient zn_RX7 zc_yX7_quotient (hy_X7_quotient) (Nat.le_of_ble_eq_true rfl) (Nat.le_of_ble_eq_true rfl) rfl rfl rfl (Nat.le_of_ble_eq_true rfl) dX0_valueOfOne_34 ?_

  exact z_iret hE hR dX0_valueOfOne_37 (congrArg (fun x => some (Value.int (i32 x))) (by first | rfl | omega)) (by first | rfl | (simp only [us_id]))
theorem dX1_copyFrom_0 : decode cX1_copyFrom 0 = .ok (.aload_n 0, 1) := by decide +kernel
theorem dX1_copyFrom_1 : decode cX1_copyFrom 1 = .ok (.aload_n 1, 1) := by decide +kernel
theorem dX1_copyFrom_2 : decode cX1_copyFrom 2 = .ok (.getfield 9, 3) := by decide +kernel
theorem dX1_copyFrom_5 : decode cX1_copyFrom 5 = .ok (.putfield 9, 3) := by decide +kernel
theorem dX1_copyFrom_8 : decode cX1_copyFrom 8 = .ok (.aload_n 1, 1) := by decide +kernel
theorem dX1_copyFrom_9 : decode cX1_copyFrom 9 = .ok (.getfield 15, 3) := by decide +kernel
theorem dX1_copyFrom_12 : decode cX1_copyFrom 12 = .ok (.iconst 0, 1) := by decide +kernel
theorem dX1_copyFrom_13 : decode cX1_copyFrom 13 = .ok (.aload_n 0, 1) := by decide +kernel
theorem dX1_copyFrom_14 : decode cX1_copyFrom 14 = .ok (.getfield 15, 3) := by decide +kernel
theorem dX1_copyFrom_17 : decode cX1_copyFrom 17 = .ok (.iconst 0, 1) := by decide +kernel
theorem dX1_copyFrom_18 : decode cX1_copyFrom 18 = .ok (.bipush 12, 2) := by decide +kernel
theorem dX1_copyFrom_20 : decode cX1_copyFrom 20 = .ok (.invokestatic 26, 3) := by decide +kernel
theorem dX1_copyFrom_23 : decode cX1_copyFrom 23 = .ok (.aload_n 1, 1) := by decide +kernel
theorem dX1_copyFrom_24 : decode cX1_copyFrom 24 = .ok (.getfield 19, 3) := by decide +kernel
theorem dX1_copyFrom_27 : decode cX1_copyFrom 27 = .ok (.iconst 0, 1) := by decide +kernel
theorem dX1_copyFrom_28 : decode cX1_copyFrom 28 = .ok (.aload_n 0, 1) := by decide +kernel
theorem dX1_copyFrom_29 : decode cX1_copyFrom 29 = .ok (.getfield 19, 3) := by decide +kernel
theorem dX1_copyFrom_32 : decode cX1_copyFrom 32 = .ok (.iconst 0, 1) := by decide +kernel
theorem dX1_copyFrom_33 : decode cX1_copyFrom 33 = .ok (.bipush 12, 2) := by decide +kernel
theorem dX1_copyFrom_35 : decode cX1_copyFrom 35 = .ok (.invokestatic 26, 3) := by decide +kernel
theorem dX1_copyFrom_38 : decode cX1_copyFrom 38 = .ok (.aload_n 1, 1) := by decide +kernel
theorem dX1_copyFrom_39 : decode cX1_copyFrom 39 = .ok (.getfield 22, 3) := by decide +kernel
theorem dX1_copyFrom_42 : decode cX1_copyFrom 42 = .ok (.iconst 0, 1) := by decide +kernel
theorem dX1_copyFrom_43 : decode cX1_copyFrom 43 = .ok (.aload_n 0, 1) := by decide +kernel
theorem dX1_copyFrom_44 : decode cX1_copyFrom 44 = .ok (.getfield 22, 3) := by decide +kernel
theorem dX1_copyFrom_47 : decode cX1_copyFrom 47 = .ok (.iconst 0, 1) := by decide +kernel
theorem dX1_copyFrom_48 : decode cX1_copyFrom 48 = .ok (.bipush 12, 2) := by decide +kernel
theorem dX1_copyFrom_50 : decode cX1_copyFrom 50 = .ok (.invokestatic 26, 3) := by decide +kernel
theorem dX1_copyFrom_53 : decode cX1_copyFrom 53 = .ok (.return_, 1) := by decide +kernel
theorem hy_X1_copyFrom : yX1_copyFrom.cls ≠ "java/lang/invoke/MethodHandle" ∧ yX1_copyFrom.cls ≠ "java/lang/invoke/VarHandle" ∧ (parseMethodDescriptor yX1_copyFrom.desc).map (fun d => d.parameters.length) = some 1 := ⟨by decide +kernel, by decide +kernel, by decide +kernel⟩
set_option maxHeartbeats 4000000 in
set_option maxRecDepth 100000 in
theorem c_X1_copyFrom (l0 : Launch) (D0 : va_G) (cI0 cJ0 : ClassId) (ad : Nat → Nat → Nat) (S : zM) (r : Nat) (hr : r < 5) (r2 : Nat) (hr2 : r2 < 5) (hne : r2 ≠ r) : Ct l0 D0 cI0 cJ0 ad yX1_copyFrom cX1_copyFrom 2 none 1 26 [.ref (ad r 1), .ref (ad r2 1)] S none (fun X => X = (us S r (cpg 1 4 (S r) (S r2)))) := by
  refine Ct.of (by decide) (Nat.le_of_ble_eq_true rfl) (fun E hE hR => ?_)
  have hE : zG E l0 D0 cI0 cJ0 ad cX1_copyFrom 2 RX1 1 26 := hE
  show Z E S 0 [(0, .ref (ad r 1)), (1, .ref (ad r2 1))] []
  refine z_aload_n hE 0 rfl rfl dX1_copyFrom_0 ?_
  refine z_aload_n hE 1 rfl rfl dX1_copyFrom_1 ?_
  refine gf_1_0 hE (ks_m hr2 (by decide)) zf_X1_9 dX1_copyFrom_2 ?_
  refine pf_1_0 hE (ks_m hr (by decide)) zf_X1_9 dX1_copyFrom_5 ?_
  refine z_aload_n hE 1 rfl rfl dX1_copyFrom_8 ?_
  refine gf_1_1 hE (ks_m hr2 (by decide)) zf_X1_15 dX1_copyFrom_9 ?_
  refine z_iconst hE dX1_copyFrom_12 ?_
  refine z_aload_n hE 0 rfl rfl dX1_copyFrom_13 ?_
  refine gf_1_1 hE (ks_m hr (by decide)) zf_X1_15 dX1_copyFrom_14 ?_
  refine z_iconst hE dX1_copyFrom_17 ?_
  refine z_bipush (a := 12) hE (by decide) dX1_copyFrom_18 ?_
  refine ac_2 hE (ks_m hr2 (by decide)) (ks_m hr (by decide)) zm_X1_26 (by decide) (Nat.le_of_ble_eq_true rfl) dX1_copyFrom_20 ?_
  try simp only [us_eq, us_us, us_ne hne]
  refine z_aload_n hE 1 rfl rfl dX1_copyFrom_23 ?_
  refine gf_1_2 hE (ks_m hr2 (by decide)) zf_X1_19 dX1_copyFrom_24 ?_
  refine z_iconst hE dX1_copyFrom_27 ?_
  refine z_aload_n hE 0 rfl rfl dX1_copyFrom_28 ?_
  refine gf_1_2 hE (ks_m hr (by decide)) zf_X1_19 dX1_copyFrom_29 ?_
  refine z_iconst hE dX1_copyFrom_32 ?_
  refine z_bipush (a := 12) hE (by decide) dX1_copyFrom_33 ?_
  refine ac_3 hE (ks_m hr2 (by decide)) (ks_m hr (by decide)) zm_X1_26 (by decide) (Nat.le_of_ble_eq_true rfl) dX1_copyFrom_35 ?_
  try simp only [us_eq, us_us, us_ne hne]
  refine z_aload_n hE 1 rfl rfl dX1_copyFrom_38 ?_
  refine gf_1_3 hE (ks_m hr2 (by decide)) zf_X1_22 dX1_copyFrom_39 ?_
  refine z_iconst hE dX1_copyFrom_42 ?_
  refine z_aload_n hE 0 rfl rfl dX1_copyFrom_43 ?_
  refine gf_1_3 hE (ks_m hr (by decide)) zf_X1_22 dX1_copyFrom_44 ?_
  refine z_iconst hE dX1_copyFrom_47 ?_
  refine z_bipush (a := 12) hE (by decide) dX1_copyFrom_48 ?_
  refine ac_4 hE (ks_m hr2 (by decide)) (ks_m hr (by decide)) zm_X1_26 (by decide) (Nat.le_of_ble_eq_true rfl) dX1_copyFrom_50 ?_
  try simp only [us_eq, us_us, us_ne hne]
  refine z_memA hE hr (g := cpg 1 4 (S r) (S r2)) (fun q hq => ?_) ?_
  · have hk : kyA q = 1 → q = 0 := kyA_i1
    by_cases e0 : q = 0
    · subst e0; simp [cpg, up, kyA]
    unfold cpg up; simp only [e0, if_false]; (repeat' split) <;> first | rfl | omega
  exact z_vret hE hR dX1_copyFrom_53 rfl (by rfl)
theorem dX5_copyFrom_0 : decode cX5_copyFrom 0 = .ok (.aload_n 0, 1) := by decide +kernel
theorem dX5_copyFrom_1 : decode cX5_copyFrom 1 = .ok (.aload_n 1, 1) := by decide +kernel
theorem dX5_copyFrom_2 : decode cX5_copyFrom 2 = .ok (.getfield 9, 3) := by decide +kernel
theorem dX5_copyFrom_5 : decode cX5_copyFrom 5 = .ok (.putfield 9, 3) := by decide +kernel
theorem dX5_copyFrom_8 : decode cX5_copyFrom 8 = .ok (.aload_n 0, 1) := by decide +kernel
theorem dX5_copyFrom_9 : decode cX5_copyFrom 9 = .ok (.aload_n 1, 1) := by decide +kernel
theorem dX5_copyFrom_10 : decode cX5_copyFrom 10 = .ok (.getfield 15, 3) := by decide +kernel
theorem dX5_copyFrom_13 : decode cX5_copyFrom 13 = .ok (.putfield 15, 3) := by decide +kernel
theorem dX5_copyFrom_16 : decode cX5_copyFrom 16 = .ok (.aload_n 0, 1) := by decide +kernel
theorem dX5_copyFrom_17 : decode cX5_copyFrom 17 = .ok (.aload_n 1, 1) := by decide +kernel
theorem dX5_copyFrom_18 : decode cX5_copyFrom 18 = .ok (.getfield 18, 3) := by decide +kernel
theorem dX5_copyFrom_21 : decode cX5_copyFrom 21 = .ok (.putfield 18, 3) := by decide +kernel
theorem dX5_copyFrom_24 : decode cX5_copyFrom 24 = .ok (.aload_n 0, 1) := by decide +kernel
theorem dX5_copyFrom_25 : decode cX5_copyFrom 25 = .ok (.aload_n 1, 1) := by decide +kernel
theorem dX5_copyFrom_26 : decode cX5_copyFrom 26 = .ok (.getfield 21, 3) := by decide +kernel
theorem dX5_copyFrom_29 : decode cX5_copyFrom 29 = .ok (.putfield 21, 3) := by decide +kernel
theorem dX5_copyFrom_32 : decode cX5_copyFrom 32 = .ok (.aload_n 0, 1) := by decide +kernel
theorem dX5_copyFrom_33 : decode cX5_copyFrom 33 = .ok (.aload_n 1, 1) := by decide +kernel
theorem dX5_copyFrom_34 : decode cX5_copyFrom 34 = .ok (.getfield 24, 3) := by decide +kernel
theorem dX5_copyFrom_37 : decode cX5_copyFrom 37 = .ok (.putfield 24, 3) := by decide +kernel
theorem dX5_copyFrom_40 : decode cX5_copyFrom 40 = .ok (.aload_n 0, 1) := by decide +kernel
theorem dX5_copyFrom_41 : decode cX5_copyFrom 41 = .ok (.aload_n 1, 1) := by decide +kernel
theorem dX5_copyFrom_42 : decode cX5_copyFrom 42 = .ok (.getfield 27, 3) := by decide +kernel
theorem dX5_copyFrom_45 : decode cX5_copyFrom 45 = .ok (.putfield 27, 3) := by decide +kernel
theorem dX5_copyFrom_48 : decode cX5_copyFrom 48 = .ok (.aload_n 0, 1) := by decide +kernel
theorem dX5_copyFrom_49 : decode cX5_copyFrom 49 = .ok (.aload_n 1, 1) := by decide +kernel
theorem dX5_copyFrom_50 : decode cX5_copyFrom 50 = .ok (.getfield 30, 3) := by decide +kernel
theorem dX5_copyFrom_53 : decode cX5_copyFrom 53 = .ok (.putfield 30, 3) := by decide +kernel
theorem dX5_copyFrom_56 : decode cX5_copyFrom 56 = .ok (.return_, 1) := by decide +kernel
theorem hy_X5_copyFrom : yX5_copyFrom.cls ≠ "java/lang/invoke/MethodHandle" ∧ yX5_copyFrom.cls ≠ "java/lang/invoke/VarHandle" ∧ (parseMethodDescriptor yX5_copyFrom.desc).map (fun d => d.parameters.length) = some 1 := ⟨by decide +kernel, by decide +kernel, by decide +kernel⟩
set_option maxHeartbeats 4000000 in
set_option maxRecDepth 100000 in
theorem c_X5_copyFrom (l0 : Launch) (D0 : va_G) (cI0 cJ0 : ClassId) (ad : Nat → Nat → Nat) (S : zM) (r : Nat) (hr : r < 5) (r2 : Nat) (hr2 : r2 < 5) (hne : r2 ≠ r) : Ct l0 D0 cI0 cJ0 ad yX5_copyFrom cX5_copyFrom 2 none 0 0 [.ref (ad r 5), .ref (ad r2 5)] S none (fun X => X = (us S r (cpg 5 5 (S r) (S r2)))) := by
  refine Ct.of (by decide) (Nat.le_of_ble_eq_true rfl) (fun E hE hR => ?_)
  have hE : zG E l0 D0 cI0 cJ0 ad cX5_copyFrom 2 RX5 0 0 := hE
  show Z E S 0 [(0, .ref (ad r 5)), (1, .ref (ad r2 5))] []
  refine z_aload_n hE 0 rfl rfl dX5_copyFrom_0 ?_
  refine z_aload_n hE 1 rfl rfl dX5_copyFrom_1 ?_
  refine gf_5_0 hE (ks_m hr2 (by decide)) zf_X5_9 dX5_copyFrom_2 ?_
  refine pf_5_0 hE (ks_m hr (by decide)) zf_X5_9 dX5_copyFrom_5 ?_
  refine z_aload_n hE 0 rfl rfl dX5_copyFrom_8 ?_
  refine z_aload_n hE 1 rfl rfl dX5_copyFrom_9 ?_
  refine gf_5_1 hE (ks_m hr2 (by decide)) zf_X5_15 dX5_copyFrom_10 ?_
  try simp only [us_eq, us_us, us_ne hne]
  refine pf_5_1 hE (ks_m hr (by decide)) zf_X5_15 dX5_copyFrom_13 ?_
  try simp only [us_eq, us_us, us_ne hne]
  refine z_aload_n hE 0 rfl rfl dX5_copyFrom_16 ?_
  refine z_aload_n hE 1 rfl rfl dX5_copyFrom_17 ?_
  refine gf_5_2 hE (ks_m hr2 (by decide)) zf_X5_18 dX5_copyFrom_18 ?_
  try simp only [us_eq, us_us, us_ne hne]
  refine pf_5_2 hE (ks_m hr (by decide)) zf_X5_18 dX5_copyFrom_21 ?_
  try simp only [us_eq, us_us, us_ne hne]
  refine z_aload_n hE 0 rfl rfl dX5_copyFrom_24 ?_
  refine z_aload_n hE 1 rfl rfl dX5_copyFrom_25 ?_
  refine gf_5_3 hE (ks_m hr2 (by decide)) zf_X5_21 dX5_copyFrom_26 ?_
  try simp only [us_eq, us_us, us_ne hne]
  refine pf_5_3 hE (ks_m hr (by decide)) zf_X5_21 dX5_copyFrom_29 ?_
  try simp only [us_eq, us_us, us_ne hne]
  refine z_aload_n hE 0 rfl rfl dX5_copyFrom_32 ?_
  refine z_aload_n hE 1 rfl rfl dX5_copyFrom_33 ?_
  refine gf_5_4 hE (ks_m hr2 (by decide)) zf_X5_24 dX5_copyFrom_34 ?_
  try simp only [us_eq, us_us, us_ne hne]
  refine pf_5_4 hE (ks_m hr (by decide)) zf_X5_24 dX5_copyFrom_37 ?_
  try simp only [us_eq, us_us, us_ne hne]
  refine z_aload_n hE 0 rfl rfl dX5_copyFrom_40 ?_
  refine z_aload_n hE 1 rfl rfl dX5_copyFrom_41 ?_
  refine gf_5_5 hE (ks_m hr2 (by decide)) zf_X5_27 dX5_copyFrom_42 ?_
  try simp only [us_eq, us_us, us_ne hne]
  refine pf_5_5 hE (ks_m hr (by decide)) zf_X5_27 dX5_copyFrom_45 ?_
  try simp only [us_eq, us_us, us_ne hne]
  refine z_aload_n hE 0 rfl rfl dX5_copyFrom_48 ?_
  refine z_aload_n hE 1 rfl rfl dX5_copyFrom_49 ?_
  refine gf_5_6 hE (ks_m hr2 (by decide)) zf_X5_30 dX5_copyFrom_50 ?_
  try simp only [us_eq, us_us, us_ne hne]
  refine pf_5_6 hE (ks_m hr (by decide)) zf_X5_30 dX5_copyFrom_53 ?_
  try simp only [us_eq, us_us, us_ne hne]
  refine z_memA hE hr (g := cpg 5 5 (S r) (S r2)) (fun q hq => ?_) ?_
  · have hk : kyA q = 5 → q = 1 ∨ q = 3 ∨ q = 4 ∨ q = 5 ∨ q = 13 ∨ q = 16 ∨ q = 17 := kyA_i5
    by_cases e1 : q = 1
    · subst e1; simp [cpg, up, kyA]
    by_cases e3 : q = 3
    · subst e3; simp [cpg, up, kyA]
    by_cases e4 : q = 4
    · subst e4; simp [cpg, up, kyA]
    by_cases e5 : q = 5
    · subst e5; simp [cpg, up, kyA]
    by_cases e13 : q = 13
    · subst e13; simp [cpg, up, kyA]
    by_cases e16 : q = 16
    · subst e16; simp [cpg, up, kyA]
    by_cases e17 : q = 17
    · subst e17; simp [cpg, up, kyA]
    unfold cpg up; simp only [e1, e3, e4, e5, e13, e16, e17, if_false]; (repeat' split) <;> first | rfl | omega
  exact z_vret hE hR dX5_copyFrom_56 rfl (by rfl)
theorem dX0_copyFrom_0 : decode cX0_copyFrom 0 = .ok (.aload_n 0, 1) := by decide +kernel
theorem dX0_copyFrom_1 : decode cX0_copyFrom 1 = .ok (.aload_n 1, 1) := by decide +kernel
theorem dX0_copyFrom_2 : decode cX0_copyFrom 2 = .ok (.getfield 9, 3) := by decide +kernel
theorem dX0_copyFrom_5 : decode cX0_copyFrom 5 = .ok (.putfield 9, 3) := by decide +kernel
theorem dX0_copyFrom_8 : decode cX0_copyFrom 8 = .ok (.aload_n 0, 1) := by decide +kernel
theorem dX0_copyFrom_9 : decode cX0_copyFrom 9 = .ok (.aload_n 1, 1) := by decide +kernel
theorem dX0_copyFrom_10 : decode cX0_copyFrom 10 = .ok (.getfield 15, 3) := by decide +kernel
theorem dX0_copyFrom_13 : decode cX0_copyFrom 13 = .ok (.putfield 15, 3) := by decide +kernel
theorem dX0_copyFrom_16 : decode cX0_copyFrom 16 = .ok (.aload_n 0, 1) := by decide +kernel
theorem dX0_copyFrom_17 : decode cX0_copyFrom 17 = .ok (.aload_n 1, 1) := by decide +kernel
theorem dX0_copyFrom_18 : decode cX0_copyFrom 18 = .ok (.getfield 18, 3) := by decide +kernel
theorem dX0_copyFrom_21 : decode cX0_copyFrom 21 = .ok (.putfield 18, 3) := by decide +kernel
theorem dX0_copyFrom_24 : decode cX0_copyFrom 24 = .ok (.aload_n 0, 1) := by decide +kernel
theorem dX0_copyFrom_25 : decode cX0_copyFrom 25 = .ok (.aload_n 1, 1) := by decide +kernel
theorem dX0_copyFrom_26 : decode cX0_copyFrom 26 = .ok (.getfield 21, 3) := by decide +kernel
theorem dX0_copyFrom_29 : decode cX0_copyFrom 29 = .ok (.putfield 21, 3) := by decide +kernel
theorem dX0_copyFrom_32 : decode cX0_copyFrom 32 = .ok (.aload_n 1, 1) := by decide +kernel
theorem dX0_copyFrom_33 : decode cX0_copyFrom 33 = .ok (.getfield 24, 3) := by decide +kernel
theorem dX0_copyFrom_36 : decode cX0_copyFrom 36 = .ok (.iconst 0, 1) := by decide +kernel
theorem dX0_copyFrom_37 : decode cX0_copyFrom 37 = .ok (.aload_n 0, 1) := by decide +kernel
theorem dX0_copyFrom_38 : decode cX0_copyFrom 38 = .ok (.getfield 24, 3) := by decide +kernel
theorem dX0_copyFrom_41 : decode cX0_copyFrom 41 = .ok (.iconst 0, 1) := by decide +kernel
theorem dX0_copyFrom_42 : decode cX0_copyFrom 42 = .ok (.iconst 3, 1) := by decide +kernel
theorem dX0_copyFrom_43 : decode cX0_copyFrom 43 = .ok (.invokestatic 28, 3) := by decide +kernel
theorem dX0_copyFrom_46 : decode cX0_copyFrom 46 = .ok (.return_, 1) := by decide +kernel
theorem hy_X0_copyFrom : yX0_copyFrom.cls ≠ "java/lang/invoke/MethodHandle" ∧ yX0_copyFrom.cls ≠ "java/lang/invoke/VarHandle" ∧ (parseMethodDescriptor yX0_copyFrom.desc).map (fun d => d.parameters.length) = some 1 := ⟨by decide +kernel, by decide +kernel, by decide +kernel⟩
set_option maxHeartbeats 4000000 in
set_option maxRecDepth 100000 in
theorem c_X0_copyFrom (l0 : Launch) (D0 : va_G) (cI0 cJ0 : ClassId) (ad : Nat → Nat → Nat) (S : zM) (r : Nat) (hr : r < 5) (r2 : Nat) (hr2 : r2 < 5) (hne : r2 ≠ r) : Ct l0 D0 cI0 cJ0 ad yX0_copyFrom cX0_copyFrom 2 none 1 26 [.ref (ad r 6), .ref (ad r2 6)] S none (fun X => X = (us S r (cpg 6 7 (S r) (S r2)))) := by
  refine Ct.of (by decide) (Nat.le_of_ble_eq_true rfl) (fun E hE hR => ?_)
  have hE : zG E l0 D0 cI0 cJ0 ad cX0_copyFrom 2 RX0 1 26 := hE
  show Z E S 0 [(0, .ref (ad r 6)), (1, .ref (ad r2 6))] []
  refine z_aload_n hE 0 rfl rfl dX0_copyFrom_0 ?_
  refine z_aload_n hE 1 rfl rfl dX0_copyFrom_1 ?_
  refine gf_0_0 hE (ks_m hr2 (by decide)) zf_X0_9 dX0_copyFrom_2 ?_
  refine pf_0_0 hE (ks_m hr (by decide)) zf_X0_9 dX0_copyFrom_5 ?_
  refine z_aload_n hE 0 rfl rfl dX0_copyFrom_8 ?_
  refine z_aload_n hE 1 rfl rfl dX0_copyFrom_9 ?_
  refine gf_0_1 hE (ks_m hr2 (by decide)) zf_X0_15 dX0_copyFrom_10 ?_
  try simp only [us_eq, us_us, us_ne hne]
  refine pf_0_1 hE (ks_m hr (by decide)) zf_X0_15 dX0_copyFrom_13 ?_
  try simp only [us_eq, us_us, us_ne hne]
  refine z_aload_n hE 0 rfl rfl dX0_copyFrom_16 ?_
  refine z_aload_n hE 1 rfl rfl dX0_copyFrom_17 ?_
  refine gf_0_2 hE (ks_m hr2 (by decide)) zf_X0_18 dX0_copyFrom_18 ?_
  try simp only [us_eq, us_us, us_ne hne]
  refine pf_0_2 hE (ks_m hr (by decide)) zf_X0_18 dX0_copyFrom_21 ?_
  try simp only [us_eq, us_us, us_ne hne]
  refine z_aload_n hE 0 rfl rfl dX0_copyFrom_24 ?_
  refine z_aload_n hE 1 rfl rfl dX0_copyFrom_25 ?_
  refine gf_0_3 hE (ks_m hr2 (by decide)) zf_X0_21 dX0_copyFrom_26 ?_
  try simp only [us_eq, us_us, us_ne hne]
  refine pf_0_3 hE (ks_m hr (by decide)) zf_X0_21 dX0_copyFrom_29 ?_
  try simp only [us_eq, us_us, us_ne hne]
  refine z_aload_n hE 1 rfl rfl dX0_copyFrom_32 ?_
  refine gf_0_4 hE (ks_m hr2 (by decide)) zf_X0_24 dX0_copyFrom_33 ?_
  refine z_iconst hE dX0_copyFrom_36 ?_
  refine z_aload_n hE 0 rfl rfl dX0_copyFrom_37 ?_
  refine gf_0_4 hE (ks_m hr (by decide)) zf_X0_24 dX0_copyFrom_38 ?_
  refine z_iconst hE dX0_copyFrom_41 ?_
  refine z_iconst hE dX0_copyFrom_42 ?_
  refine ac_7 hE (ks_m hr2 (by decide)) (ks_m hr (by decide)) zm_X0_28 (by decide) (Nat.le_of_ble_eq_true rfl) dX0_copyFrom_43 ?_
  try simp only [us_eq, us_us, us_ne hne]
  refine z_memA hE hr (g := cpg 6 7 (S r) (S r2)) (fun q hq => ?_) ?_
  · have hk : kyA q = 6 → q = 6 ∨ q = 7 ∨ q = 8 ∨ q = 9 := kyA_i6
    by_cases e6 : q = 6
    · subst e6; simp [cpg, up, kyA]
    by_cases e7 : q = 7
    · subst e7; simp [cpg, up, kyA]
    by_cases e8 : q = 8
    · subst e8; simp [cpg, up, kyA]
    by_cases e9 : q = 9
    · subst e9; simp [cpg, up, kyA]
    unfold cpg up; simp only [e6, e7, e8, e9, if_false]; (repeat' split) <;> first | rfl | omega
  exact z_vret hE hR dX0_copyFrom_46 rfl (by rfl)
theorem dX3_copyFrom_0 : decode cX3_copyFrom 0 = .ok (.aload_n 0, 1) := by decide +kernel
theorem dX3_copyFrom_1 : decode cX3_copyFrom 1 = .ok (.aload_n 1, 1) := by decide +kernel
theorem dX3_copyFrom_2 : decode cX3_copyFrom 2 = .ok (.getfield 9, 3) := by decide +kernel
theorem dX3_copyFrom_5 : decode cX3_copyFrom 5 = .ok (.putfield 9, 3) := by decide +kernel
theorem dX3_copyFrom_8 : decode cX3_copyFrom 8 = .ok (.aload_n 1, 1) := by decide +kernel
theorem dX3_copyFrom_9 : decode cX3_copyFrom 9 = .ok (.getfield 15, 3) := by decide +kernel
theorem dX3_copyFrom_12 : decode cX3_copyFrom 12 = .ok (.iconst 0, 1) := by decide +kernel
theorem dX3_copyFrom_13 : decode cX3_copyFrom 13 = .ok (.aload_n 0, 1) := by decide +kernel
theorem dX3_copyFrom_14 : decode cX3_copyFrom 14 = .ok (.getfield 15, 3) := by decide +kernel
theorem dX3_copyFrom_17 : decode cX3_copyFrom 17 = .ok (.iconst 0, 1) := by decide +kernel
theorem dX3_copyFrom_18 : decode cX3_copyFrom 18 = .ok (.bipush 20, 2) := by decide +kernel
theorem dX3_copyFrom_20 : decode cX3_copyFrom 20 = .ok (.invokestatic 40, 3) := by decide +kernel
theorem dX3_copyFrom_23 : decode cX3_copyFrom 23 = .ok (.aload_n 1, 1) := by decide +kernel
theorem dX3_copyFrom_24 : decode cX3_copyFrom 24 = .ok (.getfield 19, 3) := by decide +kernel
theorem dX3_copyFrom_27 : decode cX3_copyFrom 27 = .ok (.iconst 0, 1) := by decide +kernel
theorem dX3_copyFrom_28 : decode cX3_copyFrom 28 = .ok (.aload_n 0, 1) := by decide +kernel
theorem dX3_copyFrom_29 : decode cX3_copyFrom 29 = .ok (.getfield 19, 3) := by decide +kernel
theorem dX3_copyFrom_32 : decode cX3_copyFrom 32 = .ok (.iconst 0, 1) := by decide +kernel
theorem dX3_copyFrom_33 : decode cX3_copyFrom 33 = .ok (.bipush 20, 2) := by decide +kernel
theorem dX3_copyFrom_35 : decode cX3_copyFrom 35 = .ok (.invokestatic 40, 3) := by decide +kernel
theorem dX3_copyFrom_38 : decode cX3_copyFrom 38 = .ok (.aload_n 1, 1) := by decide +kernel
theorem dX3_copyFrom_39 : decode cX3_copyFrom 39 = .ok (.getfield 22, 3) := by decide +kernel
theorem dX3_copyFrom_42 : decode cX3_copyFrom 42 = .ok (.iconst 0, 1) := by decide +kernel
theorem dX3_copyFrom_43 : decode cX3_copyFrom 43 = .ok (.aload_n 0, 1) := by decide +kernel
theorem dX3_copyFrom_44 : decode cX3_copyFrom 44 = .ok (.getfield 22, 3) := by decide +kernel
theorem dX3_copyFrom_47 : decode cX3_copyFrom 47 = .ok (.iconst 0, 1) := by decide +kernel
theorem dX3_copyFrom_48 : decode cX3_copyFrom 48 = .ok (.bipush 20, 2) := by decide +kernel
theorem dX3_copyFrom_50 : decode cX3_copyFrom 50 = .ok (.invokestatic 40, 3) := by decide +kernel
theorem dX3_copyFrom_53 : decode cX3_copyFrom 53 = .ok (.aload_n 1, 1) := by decide +kernel
theorem dX3_copyFrom_54 : decode cX3_copyFrom 54 = .ok (.getfield 25, 3) := by decide +kernel
theorem dX3_copyFrom_57 : decode cX3_copyFrom 57 = .ok (.iconst 0, 1) := by decide +kernel
theorem dX3_copyFrom_58 : decode cX3_copyFrom 58 = .ok (.aload_n 0, 1) := by decide +kernel
theorem dX3_copyFrom_59 : decode cX3_copyFrom 59 = .ok (.getfield 25, 3) := by decide +kernel
theorem dX3_copyFrom_62 : decode cX3_copyFrom 62 = .ok (.iconst 0, 1) := by decide +kernel
theorem dX3_copyFrom_63 : decode cX3_copyFrom 63 = .ok (.bipush 20, 2) := by decide +kernel
theorem dX3_copyFrom_65 : decode cX3_copyFrom 65 = .ok (.invokestatic 40, 3) := by decide +kernel
theorem dX3_copyFrom_68 : decode cX3_copyFrom 68 = .ok (.aload_n 1, 1) := by decide +kernel
theorem dX3_copyFrom_69 : decode cX3_copyFrom 69 = .ok (.getfield 28, 3) := by decide +kernel
theorem dX3_copyFrom_72 : decode cX3_copyFrom 72 = .ok (.iconst 0, 1) := by decide +kernel
theorem dX3_copyFrom_73 : decode cX3_copyFrom 73 = .ok (.aload_n 0, 1) := by decide +kernel
theorem dX3_copyFrom_74 : decode cX3_copyFrom 74 = .ok (.getfield 28, 3) := by decide +kernel
theorem dX3_copyFrom_77 : decode cX3_copyFrom 77 = .ok (.iconst 0, 1) := by decide +kernel
theorem dX3_copyFrom_78 : decode cX3_copyFrom 78 = .ok (.bipush 20, 2) := by decide +kernel
theorem dX3_copyFrom_80 : decode cX3_copyFrom 80 = .ok (.invokestatic 40, 3) := by decide +kernel
theorem dX3_copyFrom_83 : decode cX3_copyFrom 83 = .ok (.aload_n 1, 1) := by decide +kernel
theorem dX3_copyFrom_84 : decode cX3_copyFrom 84 = .ok (.getfield 31, 3) := by decide +kernel
theorem dX3_copyFrom_87 : decode cX3_copyFrom 87 = .ok (.iconst 0, 1) := by decide +kernel
theorem dX3_copyFrom_88 : decode cX3_copyFrom 88 = .ok (.aload_n 0, 1) := by decide +kernel
theorem dX3_copyFrom_89 : decode cX3_copyFrom 89 = .ok (.getfield 31, 3) := by decide +kernel
theorem dX3_copyFrom_92 : decode cX3_copyFrom 92 = .ok (.iconst 0, 1) := by decide +kernel
theorem dX3_copyFrom_93 : decode cX3_copyFrom 93 = .ok (.bipush 20, 2) := by decide +kernel
theorem dX3_copyFrom_95 : decode cX3_copyFrom 95 = .ok (.invokestatic 40, 3) := by decide +kernel
theorem dX3_copyFrom_98 : decode cX3_copyFrom 98 = .ok (.aload_n 1, 1) := by decide +kernel
theorem dX3_copyFrom_99 : decode cX3_copyFrom 99 = .ok (.getfield 34, 3) := by decide +kernel
theorem dX3_copyFrom_102 : decode cX3_copyFrom 102 = .ok (.iconst 0, 1) := by decide +kernel
theorem dX3_copyFrom_103 : decode cX3_copyFrom 103 = .ok (.aload_n 0, 1) := by decide +kernel
theorem dX3_copyFrom_104 : decode cX3_copyFrom 104 = .ok (.getfield 34, 3) := by decide +kernel
theorem dX3_copyFrom_107 : decode cX3_copyFrom 107 = .ok (.iconst 0, 1) := by decide +kernel
theorem dX3_copyFrom_108 : decode cX3_copyFrom 108 = .ok (.bipush 80, 2) := by decide +kernel
theorem dX3_copyFrom_110 : decode cX3_copyFrom 110 = .ok (.invokestatic 40, 3) := by decide +kernel
theorem dX3_copyFrom_113 : decode cX3_copyFrom 113 = .ok (.aload_n 1, 1) := by decide +kernel
theorem dX3_copyFrom_114 : decode cX3_copyFrom 114 = .ok (.getfield 37, 3) := by decide +kernel
theorem dX3_copyFrom_117 : decode cX3_copyFrom 117 = .ok (.iconst 0, 1) := by decide +kernel
theorem dX3_copyFrom_118 : decode cX3_copyFrom 118 = .ok (.aload_n 0, 1) := by decide +kernel
theorem dX3_copyFrom_119 : decode cX3_copyFrom 119 = .ok (.getfield 37, 3) := by decide +kernel
theorem dX3_copyFrom_122 : decode cX3_copyFrom 122 = .ok (.iconst 0, 1) := by decide +kernel
theorem dX3_copyFrom_123 : decode cX3_copyFrom 123 = .ok (.sipush 240, 3) := by decide +kernel
theorem dX3_copyFrom_126 : decode cX3_copyFrom 126 = .ok (.invokestatic 40, 3) := by decide +kernel
theorem dX3_copyFrom_129 : decode cX3_copyFrom 129 = .ok (.return_, 1) := by decide +kernel
theorem hy_X3_copyFrom : yX3_copyFrom.cls ≠ "java/lang/invoke/MethodHandle" ∧ yX3_copyFrom.cls ≠ "java/lang/invoke/VarHandle" ∧ (parseMethodDescriptor yX3_copyFrom.desc).map (fun d => d.parameters.length) = some 1 := ⟨by decide +kernel, by decide +kernel, by decide +kernel⟩
set_option maxHeartbeats 4000000 in
set_option maxRecDepth 100000 in
theorem c_X3_copyFrom (l0 : Launch) (D0 : va_G) (cI0 cJ0 : ClassId) (ad : Nat → Nat → Nat) (S : zM) (r : Nat) (hr : r < 5) (r2 : Nat) (hr2 : r2 < 5) (hne : r2 ≠ r) : Ct l0 D0 cI0 cJ0 ad yX3_copyFrom cX3_copyFrom 2 none 1 26 [.ref (ad r 8), .ref (ad r2 8)] S none (fun X => X = (us S r (cpg 8 16 (S r) (S r2)))) := by
  refine Ct.of (by decide) (Nat.le_of_ble_eq_true rfl) (fun E hE hR => ?_)
  have hE : zG E l0 D0 cI0 cJ0 ad cX3_copyFrom 2 RX3 1 26 := hE
  show Z E S 0 [(0, .ref (ad r 8)), (1, .ref (ad r2 8))] []
  refine z_aload_n hE 0 rfl rfl dX3_copyFrom_0 ?_
  refine z_aload_n hE 1 rfl rfl dX3_copyFrom_1 ?_
  refine gf_3_0 hE (ks_m hr2 (by decide)) zf_X3_9 dX3_copyFrom_2 ?_
  refine pf_3_0 hE (ks_m hr (by decide)) zf_X3_9 dX3_copyFrom_5 ?_
  refine z_aload_n hE 1 rfl rfl dX3_copyFrom_8 ?_
  refine gf_3_1 hE (ks_m hr2 (by decide)) zf_X3_15 dX3_copyFrom_9 ?_
  refine z_iconst hE dX3_copyFrom_12 ?_
  refine z_aload_n hE 0 rfl rfl dX3_copyFrom_13 ?_
  refine gf_3_1 hE (ks_m hr (by decide)) zf_X3_15 dX3_copyFrom_14 ?_
  refine z_iconst hE dX3_copyFrom_17 ?_
  refine z_bipush (a := 20) hE (by decide) dX3_copyFrom_18 ?_
  refine ac_9 hE (ks_m hr2 (by decide)) (ks_m hr (by decide)) zm_X3_40 (by decide) (Nat.le_of_ble_eq_true rfl) dX3_copyFrom_20 ?_
  try simp only [us_eq, us_us, us_ne hne]
  refine z_aload_n hE 1 rfl rfl dX3_copyFrom_23 ?_
  refine gf_3_2 hE (ks_m hr2 (by decide)) zf_X3_19 dX3_copyFrom_24 ?_
  refine z_iconst hE dX3_copyFrom_27 ?_
  refine z_aload_n hE 0 rfl rfl dX3_copyFrom_28 ?_
  refine gf_3_2 hE (ks_m hr (by decide)) zf_X3_19 dX3_copyFrom_29 ?_
  refine z_iconst hE dX3_copyFrom_32 ?_
  refine z_bipush (a := 20) hE (by decide) dX3_copyFrom_33 ?_
  refine ac_10 hE (ks_m hr2 (by decide)) (ks_m hr (by decide)) zm_X3_40 (by decide) (Nat.le_of_ble_eq_true rfl) dX3_copyFrom_35 ?_
  try simp only [us_eq, us_us, us_ne hne]
  refine z_aload_n hE 1 rfl rfl dX3_copyFrom_38 ?_
  refine gf_3_3 hE (ks_m hr2 (by decide)) zf_X3_22 dX3_copyFrom_39 ?_
  refine z_iconst hE dX3_copyFrom_42 ?_
  refine z_aload_n hE 0 rfl rfl dX3_copyFrom_43 ?_
  refine gf_3_3 hE (ks_m hr (by decide)) zf_X3_22 dX3_copyFrom_44 ?_
  refine z_iconst hE dX3_copyFrom_47 ?_
  refine z_bipush (a := 20) hE (by decide) dX3_copyFrom_48 ?_
  refine ac_11 hE (ks_m hr2 (by decide)) (ks_m hr (by decide)) zm_X3_40 (by decide) (Nat.le_of_ble_eq_true rfl) dX3_copyFrom_50 ?_
  try simp only [us_eq, us_us, us_ne hne]
  refine z_aload_n hE 1 rfl rfl dX3_copyFrom_53 ?_
  refine gf_3_4 hE (ks_m hr2 (by decide)) zf_X3_25 dX3_copyFrom_54 ?_
  refine z_iconst hE dX3_copyFrom_57 ?_
  refine z_aload_n hE 0 rfl rfl dX3_copyFrom_58 ?_
  refine gf_3_4 hE (ks_m hr (by decide)) zf_X3_25 dX3_copyFrom_59 ?_
  refine z_iconst hE dX3_copyFrom_62 ?_
  refine z_bipush (a := 20) hE (by decide) dX3_copyFrom_63 ?_
  refine ac_12 hE (ks_m hr2 (by decide)) (ks_m hr (by decide)) zm_X3_40 (by decide) (Nat.le_of_ble_eq_true rfl) dX3_copyFrom_65 ?_
  try simp only [us_eq, us_us, us_ne hne]
  refine z_aload_n hE 1 rfl rfl dX3_copyFrom_68 ?_
  refine gf_3_5 hE (ks_m hr2 (by decide)) zf_X3_28 dX3_copyFrom_69 ?_
  refine z_iconst hE dX3_copyFrom_72 ?_
  refine z_aload_n hE 0 rfl rfl dX3_copyFrom_73 ?_
  refine gf_3_5 hE (ks_m hr (by decide)) zf_X3_28 dX3_copyFrom_74 ?_
  refine z_iconst hE dX3_copyFrom_77 ?_
  refine z_bipush (a := 20) hE (by decide) dX3_copyFrom_78 ?_
  refine ac_13 hE (ks_m hr2 (by decide)) (ks_m hr (by decide)) zm_X3_40 (by decide) (Nat.le_of_ble_eq_true rfl) dX3_copyFrom_80 ?_
  try simp only [us_eq, us_us, us_ne hne]
  refine z_aload_n hE 1 rfl rfl dX3_copyFrom_83 ?_
  refine gf_3_6 hE (ks_m hr2 (by decide)) zf_X3_31 dX3_copyFrom_84 ?_
  refine z_iconst hE dX3_copyFrom_87 ?_
  refine z_aload_n hE 0 rfl rfl dX3_copyFrom_88 ?_
  refine gf_3_6 hE (ks_m hr (by decide)) zf_X3_31 dX3_copyFrom_89 ?_
  refine z_iconst hE dX3_copyFrom_92 ?_
  refine z_bipush (a := 20) hE (by decide) dX3_copyFrom_93 ?_
  refine ac_14 hE (ks_m hr2 (by decide)) (ks_m hr (by decide)) zm_X3_40 (by decide) (Nat.le_of_ble_eq_true rfl) dX3_copyFrom_95 ?_
  try simp only [us_eq, us_us, us_ne hne]
  refine z_aload_n hE 1 rfl rfl dX3_copyFrom_98 ?_
  refine gf_3_7 hE (ks_m hr2 (by decide)) zf_X3_34 dX3_copyFrom_99 ?_
  refine z_iconst hE dX3_copyFrom_102 ?_
  refine z_aload_n hE 0 rfl rfl dX3_copyFrom_103 ?_
  refine gf_3_7 hE (ks_m hr (by decide)) zf_X3_34 dX3_copyFrom_104 ?_
  refine z_iconst hE dX3_copyFrom_107 ?_
  refine z_bipush (a := 80) hE (by decide) dX3_copyFrom_108 ?_
  refine ac_15 hE (ks_m hr2 (by decide)) (ks_m hr (by decide)) zm_X3_40 (by decide) (Nat.le_of_ble_eq_true rfl) dX3_copyFrom_110 ?_
  try simp only [us_eq, us_us, us_ne hne]
  refine z_aload_n hE 1 rfl rfl dX3_copyFrom_113 ?_
  refine gf_3_8 hE (ks_m hr2 (by decide)) zf_X3_37 dX3_copyFrom_114 ?_
  refine z_iconst hE dX3_copyFrom_117 ?_
  refine z_aload_n hE 0 rfl rfl dX3_copyFrom_118 ?_
  refine gf_3_8 hE (ks_m hr (by decide)) zf_X3_37 dX3_copyFrom_119 ?_
  refine z_iconst hE dX3_copyFrom_122 ?_
  refine z_sipush (a := 240) hE (by decide) dX3_copyFrom_123 ?_
  refine ac_16 hE (ks_m hr2 (by decide)) (ks_m hr (by decide)) zm_X3_40 (by decide) (Nat.le_of_ble_eq_true rfl) dX3_copyFrom_126 ?_
  try simp only [us_eq, us_us, us_ne hne]
  refine z_memA hE hr (g := cpg 8 16 (S r) (S r2)) (fun q hq => ?_) ?_
  · have hk : kyA q = 8 → q = 14 := kyA_i8
    by_cases e14 : q = 14
    · subst e14; simp [cpg, up, kyA]
    unfold cpg up; simp only [e14, if_false]; (repeat' split) <;> first | rfl | omega
  exact z_vret hE hR dX3_copyFrom_129 rfl (by rfl)
theorem dX2_copyFrom_0 : decode cX2_copyFrom 0 = .ok (.aload_n 0, 1) := by decide +kernel
theorem dX2_copyFrom_1 : decode cX2_copyFrom 1 = .ok (.aload_n 1, 1) := by decide +kernel
theorem dX2_copyFrom_2 : decode cX2_copyFrom 2 = .ok (.getfield 9, 3) := by decide +kernel
theorem dX2_copyFrom_5 : decode cX2_copyFrom 5 = .ok (.putfield 9, 3) := by decide +kernel
theorem dX2_copyFrom_8 : decode cX2_copyFrom 8 = .ok (.aload_n 1, 1) := by decide +kernel
theorem dX2_copyFrom_9 : decode cX2_copyFrom 9 = .ok (.getfield 15, 3) := by decide +kernel
theorem dX2_copyFrom_12 : decode cX2_copyFrom 12 = .ok (.iconst 0, 1) := by decide +kernel
theorem dX2_copyFrom_13 : decode cX2_copyFrom 13 = .ok (.aload_n 0, 1) := by decide +kernel
theorem dX2_copyFrom_14 : decode cX2_copyFrom 14 = .ok (.getfield 15, 3) := by decide +kernel
theorem dX2_copyFrom_17 : decode cX2_copyFrom 17 = .ok (.iconst 0, 1) := by decide +kernel
theorem dX2_copyFrom_18 : decode cX2_copyFrom 18 = .ok (.bipush 10, 2) := by decide +kernel
theorem dX2_copyFrom_20 : decode cX2_copyFrom 20 = .ok (.invokestatic 28, 3) := by decide +kernel
theorem dX2_copyFrom_23 : decode cX2_copyFrom 23 = .ok (.aload_n 1, 1) := by decide +kernel
theorem dX2_copyFrom_24 : decode cX2_copyFrom 24 = .ok (.getfield 19, 3) := by decide +kernel
theorem dX2_copyFrom_27 : decode cX2_copyFrom 27 = .ok (.iconst 0, 1) := by decide +kernel
theorem dX2_copyFrom_28 : decode cX2_copyFrom 28 = .ok (.aload_n 0, 1) := by decide +kernel
theorem dX2_copyFrom_29 : decode cX2_copyFrom 29 = .ok (.getfield 19, 3) := by decide +kernel
theorem dX2_copyFrom_32 : decode cX2_copyFrom 32 = .ok (.iconst 0, 1) := by decide +kernel
theorem dX2_copyFrom_33 : decode cX2_copyFrom 33 = .ok (.bipush 10, 2) := by decide +kernel
theorem dX2_copyFrom_35 : decode cX2_copyFrom 35 = .ok (.invokestatic 28, 3) := by decide +kernel
theorem dX2_copyFrom_38 : decode cX2_copyFrom 38 = .ok (.aload_n 1, 1) := by decide +kernel
theorem dX2_copyFrom_39 : decode cX2_copyFrom 39 = .ok (.getfield 22, 3) := by decide +kernel
theorem dX2_copyFrom_42 : decode cX2_copyFrom 42 = .ok (.iconst 0, 1) := by decide +kernel
theorem dX2_copyFrom_43 : decode cX2_copyFrom 43 = .ok (.aload_n 0, 1) := by decide +kernel
theorem dX2_copyFrom_44 : decode cX2_copyFrom 44 = .ok (.getfield 22, 3) := by decide +kernel
theorem dX2_copyFrom_47 : decode cX2_copyFrom 47 = .ok (.iconst 0, 1) := by decide +kernel
theorem dX2_copyFrom_48 : decode cX2_copyFrom 48 = .ok (.bipush 10, 2) := by decide +kernel
theorem dX2_copyFrom_50 : decode cX2_copyFrom 50 = .ok (.invokestatic 28, 3) := by decide +kernel
theorem dX2_copyFrom_53 : decode cX2_copyFrom 53 = .ok (.aload_n 1, 1) := by decide +kernel
theorem dX2_copyFrom_54 : decode cX2_copyFrom 54 = .ok (.getfield 25, 3) := by decide +kernel
theorem dX2_copyFrom_57 : decode cX2_copyFrom 57 = .ok (.iconst 0, 1) := by decide +kernel
theorem dX2_copyFrom_58 : decode cX2_copyFrom 58 = .ok (.aload_n 0, 1) := by decide +kernel
theorem dX2_copyFrom_59 : decode cX2_copyFrom 59 = .ok (.getfield 25, 3) := by decide +kernel
theorem dX2_copyFrom_62 : decode cX2_copyFrom 62 = .ok (.iconst 0, 1) := by decide +kernel
theorem dX2_copyFrom_63 : decode cX2_copyFrom 63 = .ok (.bipush 120, 2) := by decide +kernel
theorem dX2_copyFrom_65 : decode cX2_copyFrom 65 = .ok (.invokestatic 28, 3) := by decide +kernel
theorem dX2_copyFrom_68 : decode cX2_copyFrom 68 = .ok (.return_, 1) := by decide +kernel
theorem hy_X2_copyFrom : yX2_copyFrom.cls ≠ "java/lang/invoke/MethodHandle" ∧ yX2_copyFrom.cls ≠ "java/lang/invoke/VarHandle" ∧ (parseMethodDescriptor yX2_copyFrom.desc).map (fun d => d.parameters.length) = some 1 := ⟨by decide +kernel, by decide +kernel, by decide +kernel⟩
set_option maxHeartbeats 4000000 in
set_option maxRecDepth 100000 in
theorem c_X2_copyFrom (l0 : Launch) (D0 : va_G) (cI0 cJ0 : ClassId) (ad : Nat → Nat → Nat) (S : zM) (r : Nat) (hr : r < 5) (r2 : Nat) (hr2 : r2 < 5) (hne : r2 ≠ r) : Ct l0 D0 cI0 cJ0 ad yX2_copyFrom cX2_copyFrom 2 none 1 26 [.ref (ad r 17), .ref (ad r2 17)] S none (fun X => X = (us S r (cpg 17 21 (S r) (S r2)))) := by
  refine Ct.of (by decide) (Nat.le_of_ble_eq_true rfl) (fun E hE hR => ?_)
  have hE : zG E l0 D0 cI0 cJ0 ad cX2_copyFrom 2 RX2 1 26 := hE
  show Z E S 0 [(0, .ref (ad r 17)), (1, .ref (ad r2 17))] []
  refine z_aload_n hE 0 rfl rfl dX2_copyFrom_0 ?_
  refine z_aload_n hE 1 rfl rfl dX2_copyFrom_1 ?_
  refine gf_2_0 hE (ks_m hr2 (by decide)) zf_X2_9 dX2_copyFrom_2 ?_
  refine pf_2_0 hE (ks_m hr (by decide)) zf_X2_9 dX2_copyFrom_5 ?_
  refine z_aload_n hE 1 rfl rfl dX2_copyFrom_8 ?_
  refine gf_2_1 hE (ks_m hr2 (by decide)) zf_X2_15 dX2_copyFrom_9 ?_
  refine z_iconst hE dX2_copyFrom_12 ?_
  refine z_aload_n hE 0 rfl rfl dX2_copyFrom_13 ?_
  refine gf_2_1 hE (ks_m hr (by decide)) zf_X2_15 dX2_copyFrom_14 ?_
  refine z_iconst hE dX2_copyFrom_17 ?_
  refine z_bipush (a := 10) hE (by decide) dX2_copyFrom_18 ?_
  refine ac_18 hE (ks_m hr2 (by decide)) (ks_m hr (by decide)) zm_X2_28 (by decide) (Nat.le_of_ble_eq_true rfl) dX2_copyFrom_20 ?_
  try simp only [us_eq, us_us, us_ne hne]
  refine z_aload_n hE 1 rfl rfl dX2_copyFrom_23 ?_
  refine gf_2_2 hE (ks_m hr2 (by decide)) zf_X2_19 dX2_copyFrom_24 ?_
  refine z_iconst hE dX2_copyFrom_27 ?_
  refine z_aload_n hE 0 rfl rfl dX2_copyFrom_28 ?_
  refine gf_2_2 hE (ks_m hr (by decide)) zf_X2_19 dX2_copyFrom_29 ?_
  refine z_iconst hE dX2_copyFrom_32 ?_
  refine z_bipush (a := 10) hE (by decide) dX2_copyFrom_33 ?_
  refine ac_19 hE (ks_m hr2 (by decide)) (ks_m hr (by decide)) zm_X2_28 (by decide) (Nat.le_of_ble_eq_true rfl) dX2_copyFrom_35 ?_
  try simp only [us_eq, us_us, us_ne hne]
  refine z_aload_n hE 1 rfl rfl dX2_copyFrom_38 ?_
  refine gf_2_3 hE (ks_m hr2 (by decide)) zf_X2_22 dX2_copyFrom_39 ?_
  refine z_iconst hE dX2_copyFrom_42 ?_
  refine z_aload_n hE 0 rfl rfl dX2_copyFrom_43 ?_
  refine gf_2_3 hE (ks_m hr (by decide)) zf_X2_22 dX2_copyFrom_44 ?_
  refine z_iconst hE dX2_copyFrom_47 ?_
  refine z_bipush (a := 10) hE (by decide) dX2_copyFrom_48 ?_
  refine ac_20 hE (ks_m hr2 (by decide)) (ks_m hr (by decide)) zm_X2_28 (by decide) (Nat.le_of_ble_eq_true rfl) dX2_copyFrom_50 ?_
  try simp only [us_eq, us_us, us_ne hne]
  refine z_aload_n hE 1 rfl rfl dX2_copyFrom_53 ?_
  refine gf_2_4 hE (ks_m hr2 (by decide)) zf_X2_25 dX2_copyFrom_54 ?_
  refine z_iconst hE dX2_copyFrom_57 ?_
  refine z_aload_n hE 0 rfl rfl dX2_copyFrom_58 ?_
  refine gf_2_4 hE (ks_m hr (by decide)) zf_X2_25 dX2_copyFrom_59 ?_
  refine z_iconst hE dX2_copyFrom_62 ?_
  refine z_bipush (a := 120) hE (by decide) dX2_copyFrom_63 ?_
  refine ac_21 hE (ks_m hr2 (by decide)) (ks_m hr (by decide)) zm_X2_28 (by decide) (Nat.le_of_ble_eq_true rfl) dX2_copyFrom_65 ?_
  try simp only [us_eq, us_us, us_ne hne]
  refine z_memA hE hr (g := cpg 17 21 (S r) (S r2)) (fun q hq => ?_) ?_
  · have hk : kyA q = 17 → q = 15 := kyA_i17
    by_cases e15 : q = 15
    · subst e15; simp [cpg, up, kyA]
    unfold cpg up; simp only [e15, if_false]; (repeat' split) <;> first | rfl | omega
  exact z_vret hE hR dX2_copyFrom_68 rfl (by rfl)
theorem dX4_copyFrom_0 : decode cX4_copyFrom 0 = .ok (.aload_n 0, 1) := by decide +kernel
theorem dX4_copyFrom_1 : decode cX4_copyFrom 1 = .ok (.getfield 12, 3) := by decide +kernel
theorem dX4_copyFrom_4 : decode cX4_copyFrom 4 = .ok (.aload_n 1, 1) := by decide +kernel
theorem dX4_copyFrom_5 : decode cX4_copyFrom 5 = .ok (.getfield 12, 3) := by decide +kernel
theorem dX4_copyFrom_8 : decode cX4_copyFrom 8 = .ok (.invokevirtual 53, 3) := by decide +kernel
theorem dX4_copyFrom_11 : decode cX4_copyFrom 11 = .ok (.aload_n 0, 1) := by decide +kernel
theorem dX4_copyFrom_12 : decode cX4_copyFrom 12 = .ok (.getfield 21, 3) := by decide +kernel
theorem dX4_copyFrom_15 : decode cX4_copyFrom 15 = .ok (.aload_n 1, 1) := by decide +kernel
theorem dX4_copyFrom_16 : decode cX4_copyFrom 16 = .ok (.getfield 21, 3) := by decide +kernel
theorem dX4_copyFrom_19 : decode cX4_copyFrom 19 = .ok (.invokevirtual 57, 3) := by decide +kernel
theorem dX4_copyFrom_22 : decode cX4_copyFrom 22 = .ok (.aload_n 0, 1) := by decide +kernel
theorem dX4_copyFrom_23 : decode cX4_copyFrom 23 = .ok (.getfield 28, 3) := by decide +kernel
theorem dX4_copyFrom_26 : decode cX4_copyFrom 26 = .ok (.aload_n 1, 1) := by decide +kernel
theorem dX4_copyFrom_27 : decode cX4_copyFrom 27 = .ok (.getfield 28, 3) := by decide +kernel
theorem dX4_copyFrom_30 : decode cX4_copyFrom 30 = .ok (.invokevirtual 60, 3) := by decide +kernel
theorem dX4_copyFrom_33 : decode cX4_copyFrom 33 = .ok (.aload_n 0, 1) := by decide +kernel
theorem dX4_copyFrom_34 : decode cX4_copyFrom 34 = .ok (.getfield 35, 3) := by decide +kernel
theorem dX4_copyFrom_37 : decode cX4_copyFrom 37 = .ok (.aload_n 1, 1) := by decide +kernel
theorem dX4_copyFrom_38 : decode cX4_copyFrom 38 = .ok (.getfield 35, 3) := by decide +kernel
theorem dX4_copyFrom_41 : decode cX4_copyFrom 41 = .ok (.invokevirtual 63, 3) := by decide +kernel
theorem dX4_copyFrom_44 : decode cX4_copyFrom 44 = .ok (.aload_n 0, 1) := by decide +kernel
theorem dX4_copyFrom_45 : decode cX4_copyFrom 45 = .ok (.getfield 42, 3) := by decide +kernel
theorem dX4_copyFrom_48 : decode cX4_copyFrom 48 = .ok (.aload_n 1, 1) := by decide +kernel
theorem dX4_copyFrom_49 : decode cX4_copyFrom 49 = .ok (.getfield 42, 3) := by decide +kernel
theorem dX4_copyFrom_52 : decode cX4_copyFrom 52 = .ok (.invokevirtual 66, 3) := by decide +kernel
theorem dX4_copyFrom_55 : decode cX4_copyFrom 55 = .ok (.aload_n 0, 1) := by decide +kernel
theorem dX4_copyFrom_56 : decode cX4_copyFrom 56 = .ok (.aload_n 1, 1) := by decide +kernel
theorem dX4_copyFrom_57 : decode cX4_copyFrom 57 = .ok (.getfield 46, 3) := by decide +kernel
theorem dX4_copyFrom_60 : decode cX4_copyFrom 60 = .ok (.putfield 46, 3) := by decide +kernel
theorem dX4_copyFrom_63 : decode cX4_copyFrom 63 = .ok (.aload_n 0, 1) := by decide +kernel
theorem dX4_copyFrom_64 : decode cX4_copyFrom 64 = .ok (.aload_n 1, 1) := by decide +kernel
theorem dX4_copyFrom_65 : decode cX4_copyFrom 65 = .ok (.getfield 50, 3) := by decide +kernel
theorem dX4_copyFrom_68 : decode cX4_copyFrom 68 = .ok (.putfield 50, 3) := by decide +kernel
theorem dX4_copyFrom_71 : decode cX4_copyFrom 71 = .ok (.return_, 1) := by decide +kernel
theorem hy_X4_copyFrom : yX4_copyFrom.cls ≠ "java/lang/invoke/MethodHandle" ∧ yX4_copyFrom.cls ≠ "java/lang/invoke/VarHandle" ∧ (parseMethodDescriptor yX4_copyFrom.desc).map (fun d => d.parameters.length) = some 1 := ⟨by decide +kernel, by decide +kernel, by decide +kernel⟩
set_option maxHeartbeats 4000000 in
set_option maxRecDepth 100000 in
theorem c_X4_copyFrom (l0 : Launch) (D0 : va_G) (cI0 cJ0 : ClassId) (ad : Nat → Nat → Nat) (S : zM) (r : Nat) (hr : r < 5) (r2 : Nat) (hr2 : r2 < 5) (hne : r2 ≠ r) : Ct l0 D0 cI0 cJ0 ad yX4_copyFrom cX4_copyFrom 2 none 2 47 [.ref (ad r 0), .ref (ad r2 0)] S none (fun X => X = (us S r (S r2))) := by
  refine Ct.of (by decide) (Nat.le_of_ble_eq_true rfl) (fun E hE hR => ?_)
  have hE : zG E l0 D0 cI0 cJ0 ad cX4_copyFrom 2 RX4 2 47 := hE
  show Z E S 0 [(0, .ref (ad r 0)), (1, .ref (ad r2 0))] []
  refine z_aload_n hE 0 rfl rfl dX4_copyFrom_0 ?_
  refine gf_4_0 hE (ks_m hr (by decide)) zf_X4_12 dX4_copyFrom_1 ?_
  refine z_aload_n hE 1 rfl rfl dX4_copyFrom_4 ?_
  refine gf_4_0 hE (ks_m hr2 (by decide)) zf_X4_12 dX4_copyFrom_5 ?_
  refine z_callV hE (c_X1_copyFrom l0 D0 cI0 cJ0 ad S r hr r2 hr2 hne) (ks_m hr (by decide)) rfl rfl zm_X4_53 zi_yX1_copyFrom zs_yX1_copyFrom zn_RX1 zc_yX1_copyFrom (hy_X1_copyFrom) (Nat.le_of_ble_eq_true rfl) (Nat.le_of_ble_eq_true rfl) rfl rfl rfl (Nat.le_of_ble_eq_true rfl) dX4_copyFrom_8 ?_
  refine z_aload_n hE 0 rfl rfl dX4_copyFrom_11 ?_
  refine gf_4_1 hE (ks_m hr (by decide)) zf_X4_21 dX4_copyFrom_12 ?_
  refine z_aload_n hE 1 rfl rfl dX4_copyFrom_15 ?_
  refine gf_4_1 hE (ks_m hr2 (by decide)) zf_X4_21 dX4_copyFrom_16 ?_
  refine z_callV hE (c_X5_copyFrom l0 D0 cI0 cJ0 ad (us S r (cpg 1 4 ((S r)) ((S r2)))) r hr r2 hr2 hne) (ks_m hr (by decide)) rfl rfl zm_X4_57 zi_yX5_copyFrom zs_yX5_copyFrom zn_RX5 zc_yX5_copyFrom (hy_X5_copyFrom) (Nat.le_of_ble_eq_true rfl) (Nat.le_of_ble_eq_true rfl) rfl rfl rfl (Nat.le_of_ble_eq_true rfl) dX4_copyFrom_19 ?_
  try simp only [us_eq, us_us, us_ne hne]
  refine z_aload_n hE 0 rfl rfl dX4_copyFrom_22 ?_
  refine gf_4_2 hE (ks_m hr (by decide)) zf_X4_28 dX4_copyFrom_23 ?_
  refine z_aload_n hE 1 rfl rfl dX4_copyFrom_26 ?_
  refine gf_4_2 hE (ks_m hr2 (by decide)) zf_X4_28 dX4_copyFrom_27 ?_
  refine z_callV hE (c_X0_copyFrom l0 D0 cI0 cJ0 ad (us S r (cpg 5 5 ((cpg 1 4 ((S r)) ((S r2)))) ((S r2)))) r hr r2 hr2 hne) (ks_m hr (by decide)) rfl rfl zm_X4_60 zi_yX0_copyFrom zs_yX0_copyFrom zn_RX0 zc_yX0_copyFrom (hy_X0_copyFrom) (Nat.le_of_ble_eq_true rfl) (Nat.le_of_ble_eq_true rfl) rfl rfl rfl (Nat.le_of_ble_eq_true rfl) dX4_copyFrom_30 ?_
  try simp only [us_eq, us_us, us_ne hne]
  refine z_aload_n hE 0 rfl rfl dX4_copyFrom_33 ?_
  refine gf_4_3 hE (ks_m hr (by decide)) zf_X4_35 dX4_copyFrom_34 ?_
  refine z_aload_n hE 1 rfl rfl dX4_copyFrom_37 ?_
  refine gf_4_3 hE (ks_m hr2 (by decide)) zf_X4_35 dX4_copyFrom_38 ?_
  refine z_callV hE (c_X3_copyFrom l0 D0 cI0 cJ0 ad (us S r (cpg 6 7 ((cpg 5 5 ((cpg 1 4 ((S r)) ((S r2)))) ((S r2)))) ((S r2)))) r hr r2 hr2 hne) (ks_m hr (by decide)) rfl rfl zm_X4_63 zi_yX3_copyFrom zs_yX3_copyFrom zn_RX3 zc_yX3_copyFrom (hy_X3_copyFrom) (Nat.le_of_ble_eq_true rfl) (Nat.le_of_ble_eq_true rfl) rfl rfl rfl (Nat.le_of_ble_eq_true rfl) dX4_copyFrom_41 ?_
  try simp only [us_eq, us_us, us_ne hne]
  refine z_aload_n hE 0 rfl rfl dX4_copyFrom_44 ?_
  refine gf_4_4 hE (ks_m hr (by decide)) zf_X4_42 dX4_copyFrom_45 ?_
  refine z_aload_n hE 1 rfl rfl dX4_copyFrom_48 ?_
  refine gf_4_4 hE (ks_m hr2 (by decide)) zf_X4_42 dX4_copyFrom_49 ?_
  refine z_callV hE (c_X2_copyFrom l0 D0 cI0 cJ0 ad (us S r (cpg 8 16 ((cpg 6 7 ((cpg 5 5 ((cpg 1 4 ((S r)) ((S r2)))) ((S r2)))) ((S r2)))) ((S r2)))) r hr r2 hr2 hne) (ks_m hr (by decide)) rfl rfl zm_X4_66 zi_yX2_copyFrom zs_yX2_copyFrom zn_RX2 zc_yX2_copyFrom (hy_X2_copyFrom) (Nat.le_of_ble_eq_true rfl) (Nat.le_of_ble_eq_true rfl) rfl rfl rfl (Nat.le_of_ble_eq_true rfl) dX4_copyFrom_52 ?_
  try simp only [us_eq, us_us, us_ne hne]
  refine z_aload_n hE 0 rfl rfl dX4_copyFrom_55 ?_
  refine z_aload_n hE 1 rfl rfl dX4_copyFrom_56 ?_
  refine gf_4_5 hE (ks_m hr2 (by decide)) zf_X4_46 dX4_copyFrom_57 ?_
  try simp only [us_eq, us_us, us_ne hne]
  refine pf_4_5 hE (ks_m hr (by decide)) zf_X4_46 dX4_copyFrom_60 ?_
  try simp only [us_eq, us_us, us_ne hne]
  refine z_aload_n hE 0 rfl rfl dX4_copyFrom_63 ?_
  refine z_aload_n hE 1 rfl rfl dX4_copyFrom_64 ?_
  refine gf_4_6 hE (ks_m hr2 (by decide)) zf_X4_50 dX4_copyFrom_65 ?_
  try simp only [us_eq, us_us, us_ne hne]
  refine pf_4_6 hE (ks_m hr (by decide)) zf_X4_50 dX4_copyFrom_68 ?_
  try simp only [us_eq, us_us, us_ne hne]
  refine z_memA hE hr (g := S r2) (fun q hq => ?_) ?_
  · have hk := @kyA_i0 q
    by_cases e1 : q = 670
    · subst e1; exact up_eq
    by_cases e2 : q = 2
    · subst e2; rw [up_ne (by decide)]; exact up_eq
    have h9 := kyA_le q
    rw [up_ne e1, up_ne e2]; unfold cpg; (repeat' split) <;> first | rfl | omega
  exact z_vret hE hR dX4_copyFrom_71 rfl (by rfl)
theorem dX4_countAllShares_0 : decode cX4_countAllShares 0 = .ok (.aload_n 0, 1) := by decide +kernel
theorem dX4_countAllShares_1 : decode cX4_countAllShares 1 = .ok (.getfield 46, 3) := by decide +kernel
theorem dX4_countAllShares_4 : decode cX4_countAllShares 4 = .ok (.istore_n 1, 1) := by decide +kernel
theorem dX4_countAllShares_5 : decode cX4_countAllShares 5 = .ok (.iconst 0, 1) := by decide +kernel
theorem dX4_countAllShares_6 : decode cX4_countAllShares 6 = .ok (.istore_n 2, 1) := by decide +kernel
theorem dX4_countAllShares_7 : decode cX4_countAllShares 7 = .ok (.iload_n 2, 1) := by decide +kernel
theorem dX4_countAllShares_8 : decode cX4_countAllShares 8 = .ok (.aload_n 0, 1) := by decide +kernel
theorem dX4_countAllShares_9 : decode cX4_countAllShares 9 = .ok (.getfield 12, 3) := by decide +kernel
theorem dX4_countAllShares_12 : decode cX4_countAllShares 12 = .ok (.getfield 69, 3) := by decide +kernel
theorem dX4_countAllShares_15 : decode cX4_countAllShares 15 = .ok (.if_icmp .ge 21, 3) := by decide +kernel
theorem dX4_countAllShares_18 : decode cX4_countAllShares 18 = .ok (.iload_n 1, 1) := by decide +kernel
theorem dX4_countAllShares_19 : decode cX4_countAllShares 19 = .ok (.aload_n 0, 1) := by decide +kernel
theorem dX4_countAllShares_20 : decode cX4_countAllShares 20 = .ok (.getfield 12, 3) := by decide +kernel
theorem dX4_countAllShares_23 : decode cX4_countAllShares 23 = .ok (.getfield 72, 3) := by decide +kernel
theorem dX4_countAllShares_26 : decode cX4_countAllShares 26 = .ok (.iload_n 2, 1) := by decide +kernel
theorem dX4_countAllShares_27 : decode cX4_countAllShares 27 = .ok (.iaload, 1) := by decide +kernel
theorem dX4_countAllShares_28 : decode cX4_countAllShares 28 = .ok (.iadd, 1) := by decide +kernel
theorem dX4_countAllShares_29 : decode cX4_countAllShares 29 = .ok (.istore_n 1, 1) := by decide +kernel
theorem dX4_countAllShares_30 : decode cX4_countAllShares 30 = .ok (.iinc 2 1, 3) := by decide +kernel
theorem dX4_countAllShares_33 : decode cX4_countAllShares 33 = .ok (.goto (-26), 3) := by decide +kernel
theorem dX4_countAllShares_36 : decode cX4_countAllShares 36 = .ok (.iload_n 1, 1) := by decide +kernel
theorem dX4_countAllShares_37 : decode cX4_countAllShares 37 = .ok (.ireturn, 1) := by decide +kernel
theorem hy_X4_countAllShares : yX4_countAllShares.cls ≠ "java/lang/invoke/MethodHandle" ∧ yX4_countAllShares.cls ≠ "java/lang/invoke/VarHandle" ∧ (parseMethodDescriptor yX4_countAllShares.desc).map (fun d => d.parameters.length) = some 0 := ⟨by decide +kernel, by decide +kernel, by decide +kernel⟩
set_option maxHeartbeats 4000000 in
set_option maxRecDepth 100000 in
theorem lp_X4_countAllShares {E : zE} {l0 : Launch} {D0 : va_G} {cI0 cJ0 : ClassId} {ad : Nat → Nat → Nat} (hE : zG E l0 D0 cI0 cJ0 ad cX4_countAllShares 3 RX4 0 0) (S : zM) (r : Nat) (hr : r < 5) (hI : Inv0 (S r)) (hR : zR E (some .int) (some (.int (i32 (sp_all (S r))))) (fun X => X = S)) : ∀ (fuel : Nat) (i : Int) (h9 : 0 ≤ i ∧ i ≤ S r 0), (S r 0 - i).toNat < fuel → Z E S 7 [(2, .int (i32 i)), (1, .int (i32 (S r 2 + sm (fun k => S r (19 + 3 * k)) i))), (0, .ref (ad r 0))] [] := by
  intro fuel
  induction fuel with
  | zero => intro _ _ hz; omega
  | succ fuel ih =>
    intro i h9 hz
    have hA := inA hI
    unfold InvA at hA
    refine z_iload_n hE 0 rfl rfl dX4_countAllShares_7 ?_
    refine z_aload_n hE 2 rfl rfl dX4_countAllShares_8 ?_
    refine gf_4_0 hE (ks_m hr (by decide)) zf_X4_12 dX4_countAllShares_9 ?_
    refine gf_1_0 hE (ks_m hr (by decide)) zf_X4_69 dX4_countAllShares_12 ?_
    refine z_icmp_ge (tgt := 36) hE dX4_countAllShares_15 (by decide) ⟨by omega, by omega⟩ ⟨by omega, by omega⟩ (fun c1 => ?_) (fun c1 => ?_)
    · refine z_iload_n hE 1 rfl rfl dX4_countAllShares_36 ?_
      exact z_iret hE hR dX4_countAllShares_37 (congrArg (fun x => some (Value.int (i32 x))) (by unfold sp_all; rw [show i = S r 0 by omega])) (by first | rfl | (simp only [us_id]))
    · refine z_iload_n hE 1 rfl rfl dX4_countAllShares_18 ?_
      refine z_aload_n hE 2 rfl rfl dX4_countAllShares_19 ?_
      refine gf_4_0 hE (ks_m hr (by decide)) zf_X4_12 dX4_countAllShares_20 ?_
      refine gf_1_1 hE (ks_m hr (by decide)) zf_X4_72 dX4_countAllShares_23 ?_
      refine z_iload_n hE 0 rfl rfl dX4_countAllShares_26 ?_
      refine al_2 hE (ks_m hr (by decide)) (by omega) (by omega) dX4_countAllShares_27 ?_
      refine z_iadd hE dX4_countAllShares_28 ?_
      refine z_istore_n hE rfl (by decide) rfl dX4_countAllShares_29 ?_
      refine z_iinc hE 1 rfl (by decide) rfl dX4_countAllShares_30 ?_
      refine z_goto (tgt := 7) hE (d := dX4_countAllShares_33) (ht := by decide) ?_
      refine z_L (L' := [(2, .int (i32 (i + 1))), (1, .int (i32 (S r 2 + sm (fun k => S r (19 + 3 * k)) (i + 1)))), (0, .ref (ad r 0))]) [0, 1, 2] (by rw [show S r 2 + sm (fun k => S r (19 + 3 * k)) (i + 1) = (S r 2 + sm (fun k => S r (19 + 3 * k)) i) + (S r (19 + 3 * i)) from by first | rfl | ((rw [sm_s h9.1]; omega))]; rfl) ?_
      exact ih (i + 1) ⟨by omega, by omega⟩ (by omega)
set_option maxHeartbeats 4000000 in
set_option maxRecDepth 100000 in
theorem c_X4_countAllShares (l0 : Launch) (D0 : va_G) (cI0 cJ0 : ClassId) (ad : Nat → Nat → Nat) (S : zM) (r : Nat) (hr : r < 5) (hI : Inv0 (S r)) : Ct l0 D0 cI0 cJ0 ad yX4_countAllShares cX4_countAllShares 3 (some .int) 0 0 [.ref (ad r 0)] S (some (.int (i32 (sp_all (S r))))) (fun X => X = S) := by
  refine Ct.of (by decide) (Nat.le_of_ble_eq_true rfl) (fun E hE hR => ?_)
  have hE : zG E l0 D0 cI0 cJ0 ad cX4_countAllShares 3 RX4 0 0 := hE
  show Z E S 0 [(0, .ref (ad r 0))] []
  have hA := inA hI
  unfold InvA at hA
  refine z_aload_n hE 0 rfl rfl dX4_countAllShares_0 ?_
  refine gf_4_5 hE (ks_m hr (by decide)) zf_X4_46 dX4_countAllShares_1 ?_
  refine z_istore_n hE rfl (by decide) rfl dX4_countAllShares_4 ?_
  refine z_iconst hE dX4_countAllShares_5 ?_
  refine z_istore_n hE rfl (by decide) rfl dX4_countAllShares_6 ?_
  refine z_L (L' := [(2, .int (i32 0)), (1, .int (i32 (S r 2 + sm (fun k => S r (19 + 3 * k)) 0))), (0, .ref (ad r 0))]) [0, 1, 2] (by rw [show S r 2 + sm (fun k => S r (19 + 3 * k)) 0 = S r 2 from by first | rfl | ((rw [sm_0, Int.add_zero]))]; rfl) ?_
  exact lp_X4_countAllShares hE S r hr hI hR 13 0 ⟨by omega, by omega⟩ (by omega)
theorem dX4_requirementOf_0 : decode cX4_requirementOf 0 = .ok (.aload_n 0, 1) := by decide +kernel
theorem dX4_requirementOf_1 : decode cX4_requirementOf 1 = .ok (.getfield 21, 3) := by decide +kernel
theorem dX4_requirementOf_4 : decode cX4_requirementOf 4 = .ok (.getfield 76, 3) := by decide +kernel
theorem dX4_requirementOf_7 : decode cX4_requirementOf 7 = .ok (.istore_n 2, 1) := by decide +kernel
theorem dX4_requirementOf_8 : decode cX4_requirementOf 8 = .ok (.aload_n 0, 1) := by decide +kernel
theorem dX4_requirementOf_9 : decode cX4_requirementOf 9 = .ok (.getfield 12, 3) := by decide +kernel
theorem dX4_requirementOf_12 : decode cX4_requirementOf 12 = .ok (.getfield 79, 3) := by decide +kernel
theorem dX4_requirementOf_15 : decode cX4_requirementOf 15 = .ok (.iload_n 1, 1) := by decide +kernel
theorem dX4_requirementOf_16 : decode cX4_requirementOf 16 = .ok (.iaload, 1) := by decide +kernel
theorem dX4_requirementOf_17 : decode cX4_requirementOf 17 = .ok (.iload_n 2, 1) := by decide +kernel
theorem dX4_requirementOf_18 : decode cX4_requirementOf 18 = .ok (.iadd, 1) := by decide +kernel
theorem dX4_requirementOf_19 : decode cX4_requirementOf 19 = .ok (.iconst 1, 1) := by decide +kernel
theorem dX4_requirementOf_20 : decode cX4_requirementOf 20 = .ok (.isub, 1) := by decide +kernel
theorem dX4_requirementOf_21 : decode cX4_requirementOf 21 = .ok (.iload_n 2, 1) := by decide +kernel
theorem dX4_requirementOf_22 : decode cX4_requirementOf 22 = .ok (.invokestatic 82, 3) := by decide +kernel
theorem dX4_requirementOf_25 : decode cX4_requirementOf 25 = .ok (.ireturn, 1) := by decide +kernel
theorem hy_X4_requirementOf : yX4_requirementOf.cls ≠ "java/lang/invoke/MethodHandle" ∧ yX4_requirementOf.cls ≠ "java/lang/invoke/VarHandle" ∧ (parseMethodDescriptor yX4_requirementOf.desc).map (fun d => d.parameters.length) = some 1 := ⟨by decide +kernel, by decide +kernel, by decide +kernel⟩
set_option maxHeartbeats 4000000 in
set_option maxRecDepth 100000 in
theorem c_X4_requirementOf (l0 : Launch) (D0 : va_G) (cI0 cJ0 : ClassId) (ad : Nat → Nat → Nat) (S : zM) (r : Nat) (hr : r < 5) (m : Int) (hI : Inv0 (S r)) (h0 : 0 ≤ m ∧ m < 12) : Ct l0 D0 cI0 cJ0 ad yX4_requirementOf cX4_requirementOf 3 (some .int) 2 43 [.ref (ad r 0), .int (i32 m)] S (some (.int (i32 (sp_req (S r) m)))) (fun X => X = S) := by
  refine Ct.of (by decide) (Nat.le_of_ble_eq_true rfl) (fun E hE hR => ?_)
  have hE : zG E l0 D0 cI0 cJ0 ad cX4_requirementOf 3 RX4 2 43 := hE
  show Z E S 0 [(0, .ref (ad r 0)), (1, .int (i32 m))] []
  have hA := inA hI
  unfold InvA at hA
  have hm := inM hI h0.1 h0.2
  refine z_aload_n hE 0 rfl rfl dX4_requirementOf_0 ?_
  refine gf_4_1 hE (ks_m hr (by decide)) zf_X4_21 dX4_requirementOf_1 ?_
  refine gf_5_0 hE (ks_m hr (by decide)) zf_X4_76 dX4_requirementOf_4 ?_
  refine z_istore_n hE rfl (by decide) rfl dX4_requirementOf_7 ?_
  refine z_aload_n hE 1 rfl rfl dX4_requirementOf_8 ?_
  refine gf_4_0 hE (ks_m hr (by decide)) zf_X4_12 dX4_requirementOf_9 ?_
  refine gf_1_2 hE (ks_m hr (by decide)) zf_X4_79 dX4_requirementOf_12 ?_
  refine z_iload_n hE 2 rfl rfl dX4_requirementOf_15 ?_
  refine al_3 hE (ks_m hr (by decide)) (by omega) (by omega) dX4_requirementOf_16 ?_
  refine z_iload_n hE 0 rfl rfl dX4_requirementOf_17 ?_
  refine z_iadd hE dX4_requirementOf_18 ?_
  refine z_iconst hE dX4_requirementOf_19 ?_
  refine z_isub hE dX4_requirementOf_20 ?_
  refine z_iload_n hE 0 rfl rfl dX4_requirementOf_21 ?_
  refine z_callN hE (c_X7_quotient l0 D0 cI0 cJ0 ad S (((S r (20 + 3 * m)) + (S r 1)) - 1) (S r 1) (⟨by omega, by omega⟩) (⟨by omega, by omega⟩) (by omega)) (List.mem_of_getElem? (i := 7) rfl) zt_yX7_quotient zn_RX7 zc_yX7_quotient (hy_X7_quotient) (Nat.le_of_ble_eq_true rfl) (Nat.le_of_ble_eq_true rfl) rfl rfl rfl (Nat.le_of_ble_eq_true rfl) dX4_requirementOf_22 ?_
  exact z_iret hE hR dX4_requirementOf_25 (congrArg (fun x => some (Value.int (i32 x))) (by first | rfl | omega)) (by first | rfl | (simp only [us_id]))
theorem dX4_freeSharesOf_0 : decode cX4_freeSharesOf 0 = .ok (.aload_n 0, 1) := by decide +kernel
theorem dX4_freeSharesOf_1 : decode cX4_freeSharesOf 1 = .ok (.iload_n 1, 1) := by decide +kernel
theorem dX4_freeSharesOf_2 : decode cX4_freeSharesOf 2 = .ok (.invokevirtual 86, 3) := by decide +kernel
theorem dX4_freeSharesOf_5 : decode cX4_freeSharesOf 5 = .ok (.aload_n 0, 1) := by decide +kernel
theorem dX4_freeSharesOf_6 : decode cX4_freeSharesOf 6 = .ok (.getfield 35, 3) := by decide +kernel
theorem dX4_freeSharesOf_9 : decode cX4_freeSharesOf 9 = .ok (.iload_n 1, 1) := by decide +kernel
theorem dX4_freeSharesOf_10 : decode cX4_freeSharesOf 10 = .ok (.invokevirtual 90, 3) := by decide +kernel
theorem dX4_freeSharesOf_13 : decode cX4_freeSharesOf 13 = .ok (.iadd, 1) := by decide +kernel
theorem dX4_freeSharesOf_14 : decode cX4_freeSharesOf 14 = .ok (.istore_n 2, 1) := by decide +kernel
theorem dX4_freeSharesOf_15 : decode cX4_freeSharesOf 15 = .ok (.aload_n 0, 1) := by decide +kernel
theorem dX4_freeSharesOf_16 : decode cX4_freeSharesOf 16 = .ok (.getfield 12, 3) := by decide +kernel
theorem dX4_freeSharesOf_19 : decode cX4_freeSharesOf 19 = .ok (.getfield 72, 3) := by decide +kernel
theorem dX4_freeSharesOf_22 : decode cX4_freeSharesOf 22 = .ok (.iload_n 1, 1) := by decide +kernel
theorem dX4_freeSharesOf_23 : decode cX4_freeSharesOf 23 = .ok (.iaload, 1) := by decide +kernel
theorem dX4_freeSharesOf_24 : decode cX4_freeSharesOf 24 = .ok (.iload_n 2, 1) := by decide +kernel
theorem dX4_freeSharesOf_25 : decode cX4_freeSharesOf 25 = .ok (.isub, 1) := by decide +kernel
theorem dX4_freeSharesOf_26 : decode cX4_freeSharesOf 26 = .ok (.iconst 0, 1) := by decide +kernel
theorem dX4_freeSharesOf_27 : decode cX4_freeSharesOf 27 = .ok (.invokestatic 93, 3) := by decide +kernel
theorem dX4_freeSharesOf_30 : decode cX4_freeSharesOf 30 = .ok (.ireturn, 1) := by decide +kernel
theorem hy_X4_freeSharesOf : yX4_freeSharesOf.cls ≠ "java/lang/invoke/MethodHandle" ∧ yX4_freeSharesOf.cls ≠ "java/lang/invoke/VarHandle" ∧ (parseMethodDescriptor yX4_freeSharesOf.desc).map (fun d => d.parameters.length) = some 1 := ⟨by decide +kernel, by decide +kernel, by decide +kernel⟩
set_option maxHeartbeats 4000000 in
set_option maxRecDepth 100000 in
theorem c_X4_freeSharesOf (l0 : Launch) (D0 : va_G) (cI0 cJ0 : ClassId) (ad : Nat → Nat → Nat) (S : zM) (r : Nat) (hr : r < 5) (m : Int) (hI : Inv0 (S r)) (h0 : 0 ≤ m ∧ m < 12) : Ct l0 D0 cI0 cJ0 ad yX4_freeSharesOf cX4_freeSharesOf 3 (some .int) 3 65 [.ref (ad r 0), .int (i32 m)] S (some (.int (i32 (sp_free (S r) m)))) (fun X => X = S) := by
  refine Ct.of (by decide) (Nat.le_of_ble_eq_true rfl) (fun E hE hR => ?_)
  have hE : zG E l0 D0 cI0 cJ0 ad cX4_freeSharesOf 3 RX4 3 65 := hE
  show Z E S 0 [(0, .ref (ad r 0)), (1, .int (i32 m))] []
  have hA := inA hI
  unfold InvA at hA
  have hm := inM hI h0.1 h0.2
  have h3 := req_b hI h0.1 h0.2
  have h4 := rem_b hI m
  refine z_aload_n hE 0 rfl rfl dX4_freeSharesOf_0 ?_
  refine z_iload_n hE 1 rfl rfl dX4_freeSharesOf_1 ?_
  refine z_callV hE (c_X4_requirementOf l0 D0 cI0 cJ0 ad S r hr m hI (by omega)) (ks_m hr (by decide)) rfl rfl zm_X4_86 zi_yX4_requirementOf zs_yX4_requirementOf zn_RX4 zc_yX4_requirementOf (hy_X4_requirementOf) (Nat.le_of_ble_eq_true rfl) (Nat.le_of_ble_eq_true rfl) rfl rfl rfl (Nat.le_of_ble_eq_true rfl) dX4_freeSharesOf_2 ?_
  refine z_aload_n hE 0 rfl rfl dX4_freeSharesOf_5 ?_
  refine gf_4_3 hE (ks_m hr (by decide)) zf_X4_35 dX4_freeSharesOf_6 ?_
  refine z_iload_n hE 1 rfl rfl dX4_freeSharesOf_9 ?_
  refine z_callV hE (c_X3_remainingOf l0 D0 cI0 cJ0 ad S r hr m (by omega) (by omega) (fun k h1 h2 => by have := inO hI k h1 h2; omega)) (ks_m hr (by decide)) rfl rfl zm_X4_90 zi_yX3_remainingOf zs_yX3_remainingOf zn_RX3 zc_yX3_remainingOf (hy_X3_remainingOf) (Nat.le_of_ble_eq_true rfl) (Nat.le_of_ble_eq_true rfl) rfl rfl rfl (Nat.le_of_ble_eq_true rfl) dX4_freeSharesOf_10 ?_
  refine z_iadd hE dX4_freeSharesOf_13 ?_
  refine z_istore_n hE rfl (by decide) rfl dX4_freeSharesOf_14 ?_
  refine z_aload_n hE 1 rfl rfl dX4_freeSharesOf_15 ?_
  refine gf_4_0 hE (ks_m hr (by decide)) zf_X4_12 dX4_freeSharesOf_16 ?_
  refine gf_1_1 hE (ks_m hr (by decide)) zf_X4_72 dX4_freeSharesOf_19 ?_
  refine z_iload_n hE 2 rfl rfl dX4_freeSharesOf_22 ?_
  refine al_2 hE (ks_m hr (by decide)) (by omega) (by omega) dX4_freeSharesOf_23 ?_
  refine z_iload_n hE 0 rfl rfl dX4_freeSharesOf_24 ?_
  refine z_isub hE dX4_freeSharesOf_25 ?_
  refine z_iconst hE dX4_freeSharesOf_26 ?_
  refine z_max hE zm_X4_93 (by decide) (Nat.le_of_ble_eq_true rfl) ⟨by omega, by omega⟩ ⟨by omega, by omega⟩ dX4_freeSharesOf_27 ?_
  exact z_iret hE hR dX4_freeSharesOf_30 (congrArg (fun x => some (Value.int (i32 x))) (by first | rfl | omega)) (by first | rfl | (simp only [us_id]))
theorem dX4_roomOf_0 : decode cX4_roomOf 0 = .ok (.aload_n 0, 1) := by decide +kernel
theorem dX4_roomOf_1 : decode cX4_roomOf 1 = .ok (.invokevirtual 98, 3) := by decide +kernel
theorem dX4_roomOf_4 : decode cX4_roomOf 4 = .ok (.aload_n 0, 1) := by decide +kernel
theorem dX4_roomOf_5 : decode cX4_roomOf 5 = .ok (.getfield 21, 3) := by decide +kernel
theorem dX4_roomOf_8 : decode cX4_roomOf 8 = .ok (.getfield 102, 3) := by decide +kernel
theorem dX4_roomOf_11 : decode cX4_roomOf 11 = .ok (.imul, 1) := by decide +kernel
theorem dX4_roomOf_12 : decode cX4_roomOf 12 = .ok (.bipush 100, 2) := by decide +kernel
theorem dX4_roomOf_14 : decode cX4_roomOf 14 = .ok (.invokestatic 82, 3) := by decide +kernel
theorem dX4_roomOf_17 : decode cX4_roomOf 17 = .ok (.istore_n 2, 1) := by decide +kernel
theorem dX4_roomOf_18 : decode cX4_roomOf 18 = .ok (.iload_n 2, 1) := by decide +kernel
theorem dX4_roomOf_19 : decode cX4_roomOf 19 = .ok (.aload_n 0, 1) := by decide +kernel
theorem dX4_roomOf_20 : decode cX4_roomOf 20 = .ok (.getfield 12, 3) := by decide +kernel
theorem dX4_roomOf_23 : decode cX4_roomOf 23 = .ok (.getfield 72, 3) := by decide +kernel
theorem dX4_roomOf_26 : decode cX4_roomOf 26 = .ok (.iload_n 1, 1) := by decide +kernel
theorem dX4_roomOf_27 : decode cX4_roomOf 27 = .ok (.iaload, 1) := by decide +kernel
theorem dX4_roomOf_28 : decode cX4_roomOf 28 = .ok (.isub, 1) := by decide +kernel
theorem dX4_roomOf_29 : decode cX4_roomOf 29 = .ok (.iconst 0, 1) := by decide +kernel
theorem dX4_roomOf_30 : decode cX4_roomOf 30 = .ok (.invokestatic 93, 3) := by decide +kernel
theorem dX4_roomOf_33 : decode cX4_roomOf 33 = .ok (.ireturn, 1) := by decide +kernel
theorem hy_X4_roomOf : yX4_roomOf.cls ≠ "java/lang/invoke/MethodHandle" ∧ yX4_roomOf.cls ≠ "java/lang/invoke/VarHandle" ∧ (parseMethodDescriptor yX4_roomOf.desc).map (fun d => d.parameters.length) = some 1 := ⟨by decide +kernel, by decide +kernel, by decide +kernel⟩
set_option maxHeartbeats 4000000 in
set_option maxRecDepth 100000 in
theorem c_X4_roomOf (l0 : Launch) (D0 : va_G) (cI0 cJ0 : ClassId) (ad : Nat → Nat → Nat) (S : zM) (r : Nat) (hr : r < 5) (m : Int) (hI : Inv0 (S r)) (h0 : 0 ≤ m ∧ m < 12) : Ct l0 D0 cI0 cJ0 ad yX4_roomOf cX4_roomOf 3 (some .int) 2 43 [.ref (ad r 0), .int (i32 m)] S (some (.int (i32 (sp_room (S r) m)))) (fun X => X = S) := by
  refine Ct.of (by decide) (Nat.le_of_ble_eq_true rfl) (fun E hE hR => ?_)
  have hE : zG E l0 D0 cI0 cJ0 ad cX4_roomOf 3 RX4 2 43 := hE
  show Z E S 0 [(0, .ref (ad r 0)), (1, .int (i32 m))] []
  have hA := inA hI
  unfold InvA at hA
  have hm := inM hI h0.1 h0.2
  have h3 := room_b hI h0.1 h0.2
  have h4 := inT hI
  refine z_aload_n hE 0 rfl rfl dX4_roomOf_0 ?_
  refine z_callV hE (c_X4_countAllShares l0 D0 cI0 cJ0 ad S r hr hI) (ks_m hr (by decide)) rfl rfl zm_X4_98 zi_yX4_countAllShares zs_yX4_countAllShares zn_RX4 zc_yX4_countAllShares (hy_X4_countAllShares) (Nat.le_of_ble_eq_true rfl) (Nat.le_of_ble_eq_true rfl) rfl rfl rfl (Nat.le_of_ble_eq_true rfl) dX4_roomOf_1 ?_
  refine z_aload_n hE 0 rfl rfl dX4_roomOf_4 ?_
  refine gf_4_1 hE (ks_m hr (by decide)) zf_X4_21 dX4_roomOf_5 ?_
  refine gf_5_3 hE (ks_m hr (by decide)) zf_X4_102 dX4_roomOf_8 ?_
  refine z_imul hE dX4_roomOf_11 ?_
  refine z_bipush (a := 100) hE (by decide) dX4_roomOf_12 ?_
  refine z_callN hE (c_X7_quotient l0 D0 cI0 cJ0 ad S ((sp_all ((S r))) * (S r 4)) 100 (⟨by omega, by omega⟩) (⟨by omega, by omega⟩) (by omega)) (List.mem_of_getElem? (i := 7) rfl) zt_yX7_quotient zn_RX7 zc_yX7_quotient (hy_X7_quotient) (Nat.le_of_ble_eq_true rfl) (Nat.le_of_ble_eq_true rfl) rfl rfl rfl (Nat.le_of_ble_eq_true rfl) dX4_roomOf_14 ?_
  refine z_istore_n hE rfl (by decide) rfl dX4_roomOf_17 ?_
  refine z_iload_n hE 0 rfl rfl dX4_roomOf_18 ?_
  refine z_aload_n hE 1 rfl rfl dX4_roomOf_19 ?_
  refine gf_4_0 hE (ks_m hr (by decide)) zf_X4_12 dX4_roomOf_20 ?_
  refine gf_1_1 hE (ks_m hr (by decide)) zf_X4_72 dX4_roomOf_23 ?_
  refine z_iload_n hE 2 rfl rfl dX4_roomOf_26 ?_
  refine al_2 hE (ks_m hr (by decide)) (by omega) (by omega) dX4_roomOf_27 ?_
  refine z_isub hE dX4_roomOf_28 ?_
  refine z_iconst hE dX4_roomOf_29 ?_
  refine z_max hE zm_X4_93 (by decide) (Nat.le_of_ble_eq_true rfl) ⟨by omega, by omega⟩ ⟨by omega, by omega⟩ dX4_roomOf_30 ?_
  exact z_iret hE hR dX4_roomOf_33 (congrArg (fun x => some (Value.int (i32 x))) (by first | rfl | omega)) (by first | rfl | (simp only [us_id]))
theorem dX4_isNeedy_0 : decode cX4_isNeedy 0 = .ok (.aload_n 0, 1) := by decide +kernel
theorem dX4_isNeedy_1 : decode cX4_isNeedy 1 = .ok (.getfield 12, 3) := by decide +kernel
theorem dX4_isNeedy_4 : decode cX4_isNeedy 4 = .ok (.getfield 72, 3) := by decide +kernel
theorem dX4_isNeedy_7 : decode cX4_isNeedy 7 = .ok (.iload_n 1, 1) := by decide +kernel
theorem dX4_isNeedy_8 : decode cX4_isNeedy 8 = .ok (.iaload, 1) := by decide +kernel
theorem dX4_isNeedy_9 : decode cX4_isNeedy 9 = .ok (.aload_n 0, 1) := by decide +kernel
theorem dX4_isNeedy_10 : decode cX4_isNeedy 10 = .ok (.iload_n 1, 1) := by decide +kernel
theorem dX4_isNeedy_11 : decode cX4_isNeedy 11 = .ok (.invokevirtual 86, 3) := by decide +kernel
theorem dX4_isNeedy_14 : decode cX4_isNeedy 14 = .ok (.if_icmp .ge 7, 3) := by decide +kernel
theorem dX4_isNeedy_17 : decode cX4_isNeedy 17 = .ok (.iconst 1, 1) := by decide +kernel
theorem dX4_isNeedy_18 : decode cX4_isNeedy 18 = .ok (.goto 4, 3) := by decide +kernel
theorem dX4_isNeedy_21 : decode cX4_isNeedy 21 = .ok (.iconst 0, 1) := by decide +kernel
theorem dX4_isNeedy_22 : decode cX4_isNeedy 22 = .ok (.ireturn, 1) := by decide +kernel
theorem hy_X4_isNeedy : yX4_isNeedy.cls ≠ "java/lang/invoke/MethodHandle" ∧ yX4_isNeedy.cls ≠ "java/lang/invoke/VarHandle" ∧ (parseMethodDescriptor yX4_isNeedy.desc).map (fun d => d.parameters.length) = some 1 := ⟨by decide +kernel, by decide +kernel, by decide +kernel⟩
set_option maxHeartbeats 4000000 in
set_option maxRecDepth 100000 in
theorem c_X4_isNeedy (l0 : Launch) (D0 : va_G) (cI0 cJ0 : ClassId) (ad : Nat → Nat → Nat) (S : zM) (r : Nat) (hr : r < 5) (m : Int) (hI : Inv0 (S r)) (h0 : 0 ≤ m ∧ m < 12) : Ct l0 D0 cI0 cJ0 ad yX4_isNeedy cX4_isNeedy 2 (some .boolean) 3 65 [.ref (ad r 0), .int (i32 m)] S (some (.int (i32 (zbo (sp_needy (S r) m))))) (fun X => X = S) := by
  refine Ct.of (by decide) (Nat.le_of_ble_eq_true rfl) (fun E hE hR => ?_)
  have hE : zG E l0 D0 cI0 cJ0 ad cX4_isNeedy 2 RX4 3 65 := hE
  show Z E S 0 [(0, .ref (ad r 0)), (1, .int (i32 m))] []
  have hA := inA hI
  unfold InvA at hA
  have hm := inM hI h0.1 h0.2
  have h3 := req_b hI h0.1 h0.2
  refine z_aload_n hE 0 rfl rfl dX4_isNeedy_0 ?_
  refine gf_4_0 hE (ks_m hr (by decide)) zf_X4_12 dX4_isNeedy_1 ?_
  refine gf_1_1 hE (ks_m hr (by decide)) zf_X4_72 dX4_isNeedy_4 ?_
  refine z_iload_n hE 1 rfl rfl dX4_isNeedy_7 ?_
  refine al_2 hE (ks_m hr (by decide)) (by omega) (by omega) dX4_isNeedy_8 ?_
  refine z_aload_n hE 0 rfl rfl dX4_isNeedy_9 ?_
  refine z_iload_n hE 1 rfl rfl dX4_isNeedy_10 ?_
  refine z_callV hE (c_X4_requirementOf l0 D0 cI0 cJ0 ad S r hr m hI (by omega)) (ks_m hr (by decide)) rfl rfl zm_X4_86 zi_yX4_requirementOf zs_yX4_requirementOf zn_RX4 zc_yX4_requirementOf (hy_X4_requirementOf) (Nat.le_of_ble_eq_true rfl) (Nat.le_of_ble_eq_true rfl) rfl rfl rfl (Nat.le_of_ble_eq_true rfl) dX4_isNeedy_11 ?_
  refine z_icmp_ge (tgt := 21) hE dX4_isNeedy_14 (by decide) ⟨by omega, by omega⟩ ⟨by omega, by omega⟩ (fun c1 => ?_) (fun c1 => ?_)
  · refine z_iconst hE dX4_isNeedy_21 ?_
    exact z_zret hE hR dX4_isNeedy_22 (by decide) (congrArg (fun x => some (Value.int (i32 x))) (by first | rfl | (unfold zbo; first | rw [if_pos (by omega)] | rw [if_neg (by omega)]))) (by first | rfl | (simp only [us_id]))
  · refine z_iconst hE dX4_isNeedy_17 ?_
    refine z_goto (tgt := 22) hE (d := dX4_isNeedy_18) (ht := by decide) ?_
    exact z_zret hE hR dX4_isNeedy_22 (by decide) (congrArg (fun x => some (Value.int (i32 x))) (by first | rfl | (unfold zbo; first | rw [if_pos (by omega)] | rw [if_neg (by omega)]))) (by first | rfl | (simp only [us_id]))
theorem dX4_canClaim_0 : decode cX4_canClaim 0 = .ok (.aload_n 0, 1) := by decide +kernel
theorem dX4_canClaim_1 : decode cX4_canClaim 1 = .ok (.getfield 35, 3) := by decide +kernel
theorem dX4_canClaim_4 : decode cX4_canClaim 4 = .ok (.getfield 105, 3) := by decide +kernel
theorem dX4_canClaim_7 : decode cX4_canClaim 7 = .ok (.iload_n 1, 1) := by decide +kernel
theorem dX4_canClaim_8 : decode cX4_canClaim 8 = .ok (.iaload, 1) := by decide +kernel
theorem dX4_canClaim_9 : decode cX4_canClaim 9 = .ok (.iload_n 2, 1) := by decide +kernel
theorem dX4_canClaim_10 : decode cX4_canClaim 10 = .ok (.if_icmp .ne 5, 3) := by decide +kernel
theorem dX4_canClaim_13 : decode cX4_canClaim 13 = .ok (.iconst 0, 1) := by decide +kernel
theorem dX4_canClaim_14 : decode cX4_canClaim 14 = .ok (.ireturn, 1) := by decide +kernel
theorem dX4_canClaim_15 : decode cX4_canClaim 15 = .ok (.aload_n 0, 1) := by decide +kernel
theorem dX4_canClaim_16 : decode cX4_canClaim 16 = .ok (.getfield 35, 3) := by decide +kernel
theorem dX4_canClaim_19 : decode cX4_canClaim 19 = .ok (.getfield 108, 3) := by decide +kernel
theorem dX4_canClaim_22 : decode cX4_canClaim 22 = .ok (.iload_n 1, 1) := by decide +kernel
theorem dX4_canClaim_23 : decode cX4_canClaim 23 = .ok (.iaload, 1) := by decide +kernel
theorem dX4_canClaim_24 : decode cX4_canClaim 24 = .ok (.lookupswitch 36 #[(0, 28), (1, 34)], 28) := by decide +kernel
theorem dX4_canClaim_52 : decode cX4_canClaim 52 = .ok (.aload_n 0, 1) := by decide +kernel
theorem dX4_canClaim_53 : decode cX4_canClaim 53 = .ok (.iload_n 2, 1) := by decide +kernel
theorem dX4_canClaim_54 : decode cX4_canClaim 54 = .ok (.invokevirtual 111, 3) := by decide +kernel
theorem dX4_canClaim_57 : decode cX4_canClaim 57 = .ok (.ireturn, 1) := by decide +kernel
theorem dX4_canClaim_58 : decode cX4_canClaim 58 = .ok (.iconst 1, 1) := by decide +kernel
theorem dX4_canClaim_59 : decode cX4_canClaim 59 = .ok (.ireturn, 1) := by decide +kernel
theorem dX4_canClaim_60 : decode cX4_canClaim 60 = .ok (.iconst 0, 1) := by decide +kernel
theorem dX4_canClaim_61 : decode cX4_canClaim 61 = .ok (.ireturn, 1) := by decide +kernel
theorem hy_X4_canClaim : yX4_canClaim.cls ≠ "java/lang/invoke/MethodHandle" ∧ yX4_canClaim.cls ≠ "java/lang/invoke/VarHandle" ∧ (parseMethodDescriptor yX4_canClaim.desc).map (fun d => d.parameters.length) = some 2 := ⟨by decide +kernel, by decide +kernel, by decide +kernel⟩
set_option maxHeartbeats 4000000 in
set_option maxRecDepth 100000 in
theorem c_X4_canClaim (l0 : Launch) (D0 : va_G) (cI0 cJ0 : ClassId) (ad : Nat → Nat → Nat) (S : zM) (r : Nat) (hr : r < 5) (o : Int) (m : Int) (hI : Inv0 (S r)) (h1 : 0 ≤ o ∧ o < S r 14) (h0 : 0 ≤ m ∧ m < 12) : Ct l0 D0 cI0 cJ0 ad yX4_canClaim cX4_canClaim 3 (some .boolean) 4 86 [.ref (ad r 0), .int (i32 o), .int (i32 m)] S (some (.int (i32 (zbo (sp_can (S r) o m))))) (fun X => X = S) := by
  refine Ct.of (by decide) (Nat.le_of_ble_eq_true rfl) (fun E hE hR => ?_)
  have hE : zG E l0 D0 cI0 cJ0 ad cX4_canClaim 3 RX4 4 86 := hE
  show Z E S 0 [(0, .ref (ad r 0)), (1, .int (i32 o)), (2, .int (i32 m))] []
  have hA := inA hI
  unfold InvA at hA
  have hm := inM hI h0.1 h0.2
  have ho := inO hI o h1.1 h1.2
  refine z_aload_n hE 0 rfl rfl dX4_canClaim_0 ?_
  refine gf_4_3 hE (ks_m hr (by decide)) zf_X4_35 dX4_canClaim_1 ?_
  refine gf_3_1 hE (ks_m hr (by decide)) zf_X4_105 dX4_canClaim_4 ?_
  refine z_iload_n hE 1 rfl rfl dX4_canClaim_7 ?_
  refine al_9 hE (ks_m hr (by decide)) (by omega) (by omega) dX4_canClaim_8 ?_
  refine z_iload_n hE 2 rfl rfl dX4_canClaim_9 ?_
  refine z_icmp_ne (tgt := 15) hE dX4_canClaim_10 (by decide) ⟨by omega, by omega⟩ ⟨by omega, by omega⟩ (fun c1 => ?_) (fun c1 => ?_)
  · refine z_aload_n hE 0 rfl rfl dX4_canClaim_15 ?_
    refine gf_4_3 hE (ks_m hr (by decide)) zf_X4_35 dX4_canClaim_16 ?_
    refine gf_3_5 hE (ks_m hr (by decide)) zf_X4_108 dX4_canClaim_19 ?_
    refine z_iload_n hE 1 rfl rfl dX4_canClaim_22 ?_
    refine al_13 hE (ks_m hr (by decide)) (by omega) (by omega) dX4_canClaim_23 ?_
    by_cases k24_0 : S r (59 + 22 * o) = 0
    · refine z_look (tgt := 52) (off := 28) hE dX4_canClaim_24 ⟨by omega, by omega⟩ (by decide) (by simp [Op.lookupswitch.offset_cons, Op.lookupswitch.offset_nil, k24_0]) (by decide) ?_
      refine z_aload_n hE 0 rfl rfl dX4_canClaim_52 ?_
      refine z_iload_n hE 2 rfl rfl dX4_canClaim_53 ?_
      refine z_callV hE (c_X4_isNeedy l0 D0 cI0 cJ0 ad S r hr m hI (by omega)) (ks_m hr (by decide)) rfl rfl zm_X4_111 zi_yX4_isNeedy zs_yX4_isNeedy zn_RX4 zc_yX4_isNeedy (hy_X4_isNeedy) (Nat.le_of_ble_eq_true rfl) (Nat.le_of_ble_eq_true rfl) rfl rfl rfl (Nat.le_of_ble_eq_true rfl) dX4_canClaim_54 ?_
      exact z_zret hE hR dX4_canClaim_57 (by unfold zbo; split <;> omega) (congrArg (fun x => some (Value.int (i32 x))) (by first | exact zbo_cg (by omega) | exact (zbo_t (by omega)) | exact zbo_f (by omega))) (by first | rfl | (simp only [us_id]))
    by_cases k24_1 : S r (59 + 22 * o) = 1
    · refine z_look (tgt := 58) (off := 34) hE dX4_canClaim_24 ⟨by omega, by omega⟩ (by decide) (by simp [Op.lookupswitch.offset_cons, Op.lookupswitch.offset_nil, k24_0, k24_1]) (by decide) ?_
      refine z_iconst hE dX4_canClaim_58 ?_
      exact z_zret hE hR dX4_canClaim_59 (by decide) (congrArg (fun x => some (Value.int (i32 x))) (by first | exact zbo_cg (by omega) | exact (zbo_t (by omega)) | exact zbo_f (by omega))) (by first | rfl | (simp only [us_id]))
    refine z_look (tgt := 60) (off := 36) hE dX4_canClaim_24 ⟨by omega, by omega⟩ (by decide) (by simp [Op.lookupswitch.offset_cons, Op.lookupswitch.offset_nil]; omega) (by decide) ?_
    refine z_iconst hE dX4_canClaim_60 ?_
    exact z_zret hE hR dX4_canClaim_61 (by decide) (congrArg (fun x => some (Value.int (i32 x))) (by first | exact zbo_cg (by omega) | exact (zbo_t (by omega)) | exact zbo_f (by omega))) (by first | rfl | (simp only [us_id]))
  · refine z_iconst hE dX4_canClaim_13 ?_
    exact z_zret hE hR dX4_canClaim_14 (by decide) (congrArg (fun x => some (Value.int (i32 x))) (by first | exact zbo_cg (by omega) | exact (zbo_t (by omega)) | exact zbo_f (by omega))) (by first | rfl | (simp only [us_id]))
theorem dX4_votesOf_0 : decode cX4_votesOf 0 = .ok (.aload_n 0, 1) := by decide +kernel
theorem dX4_votesOf_1 : decode cX4_votesOf 1 = .ok (.getfield 12, 3) := by decide +kernel
theorem dX4_votesOf_4 : decode cX4_votesOf 4 = .ok (.getfield 72, 3) := by decide +kernel
theorem dX4_votesOf_7 : decode cX4_votesOf 7 = .ok (.iload_n 1, 1) := by decide +kernel
theorem dX4_votesOf_8 : decode cX4_votesOf 8 = .ok (.iaload, 1) := by decide +kernel
theorem dX4_votesOf_9 : decode cX4_votesOf 9 = .ok (.istore_n 2, 1) := by decide +kernel
theorem dX4_votesOf_10 : decode cX4_votesOf 10 = .ok (.iload_n 2, 1) := by decide +kernel
theorem dX4_votesOf_11 : decode cX4_votesOf 11 = .ok (.ifCond .gt 5, 3) := by decide +kernel
theorem dX4_votesOf_14 : decode cX4_votesOf 14 = .ok (.iconst 0, 1) := by decide +kernel
theorem dX4_votesOf_15 : decode cX4_votesOf 15 = .ok (.ireturn, 1) := by decide +kernel
theorem dX4_votesOf_16 : decode cX4_votesOf 16 = .ok (.aload_n 0, 1) := by decide +kernel
theorem dX4_votesOf_17 : decode cX4_votesOf 17 = .ok (.getfield 21, 3) := by decide +kernel
theorem dX4_votesOf_20 : decode cX4_votesOf 20 = .ok (.getfield 197, 3) := by decide +kernel
theorem dX4_votesOf_23 : decode cX4_votesOf 23 = .ok (.tableswitch 50 1 3 #[25, 27, 45], 25) := by decide +kernel
theorem dX4_votesOf_48 : decode cX4_votesOf 48 = .ok (.iload_n 2, 1) := by decide +kernel
theorem dX4_votesOf_49 : decode cX4_votesOf 49 = .ok (.ireturn, 1) := by decide +kernel
theorem dX4_votesOf_50 : decode cX4_votesOf 50 = .ok (.aload_n 0, 1) := by decide +kernel
theorem dX4_votesOf_51 : decode cX4_votesOf 51 = .ok (.getfield 12, 3) := by decide +kernel
theorem dX4_votesOf_54 : decode cX4_votesOf 54 = .ok (.getfield 79, 3) := by decide +kernel
theorem dX4_votesOf_57 : decode cX4_votesOf 57 = .ok (.iload_n 1, 1) := by decide +kernel
theorem dX4_votesOf_58 : decode cX4_votesOf 58 = .ok (.iaload, 1) := by decide +kernel
theorem dX4_votesOf_59 : decode cX4_votesOf 59 = .ok (.sipush 1000, 3) := by decide +kernel
theorem dX4_votesOf_62 : decode cX4_votesOf 62 = .ok (.invokestatic 82, 3) := by decide +kernel
theorem dX4_votesOf_65 : decode cX4_votesOf 65 = .ok (.iconst 1, 1) := by decide +kernel
theorem dX4_votesOf_66 : decode cX4_votesOf 66 = .ok (.iadd, 1) := by decide +kernel
theorem dX4_votesOf_67 : decode cX4_votesOf 67 = .ok (.ireturn, 1) := by decide +kernel
theorem dX4_votesOf_68 : decode cX4_votesOf 68 = .ok (.iload_n 2, 1) := by decide +kernel
theorem dX4_votesOf_69 : decode cX4_votesOf 69 = .ok (.invokestatic 200, 3) := by decide +kernel
theorem dX4_votesOf_72 : decode cX4_votesOf 72 = .ok (.ireturn, 1) := by decide +kernel
theorem dX4_votesOf_73 : decode cX4_votesOf 73 = .ok (.iconst 1, 1) := by decide +kernel
theorem dX4_votesOf_74 : decode cX4_votesOf 74 = .ok (.ireturn, 1) := by decide +kernel
theorem hy_X4_votesOf : yX4_votesOf.cls ≠ "java/lang/invoke/MethodHandle" ∧ yX4_votesOf.cls ≠ "java/lang/invoke/VarHandle" ∧ (parseMethodDescriptor yX4_votesOf.desc).map (fun d => d.parameters.length) = some 1 := ⟨by decide +kernel, by decide +kernel, by decide +kernel⟩
set_option maxHeartbeats 4000000 in
set_option maxRecDepth 100000 in
theorem c_X4_votesOf (l0 : Launch) (D0 : va_G) (cI0 cJ0 : ClassId) (ad : Nat → Nat → Nat) (S : zM) (r : Nat) (hr : r < 5) (m : Int) (hI : Inv0 (S r)) (h0 : 0 ≤ m ∧ m < 12) : Ct l0 D0 cI0 cJ0 ad yX4_votesOf cX4_votesOf 3 (some .int) 2 43 [.ref (ad r 0), .int (i32 m)] S (some (.int (i32 (sp_votes (S r) m)))) (fun X => X = S) := by
  refine Ct.of (by decide) (Nat.le_of_ble_eq_true rfl) (fun E hE hR => ?_)
  have hE : zG E l0 D0 cI0 cJ0 ad cX4_votesOf 3 RX4 2 43 := hE
  show Z E S 0 [(0, .ref (ad r 0)), (1, .int (i32 m))] []
  have hA := inA hI
  unfold InvA at hA
  have hm := inM hI h0.1 h0.2
  refine z_aload_n hE 0 rfl rfl dX4_votesOf_0 ?_
  refine gf_4_0 hE (ks_m hr (by decide)) zf_X4_12 dX4_votesOf_1 ?_
  refine gf_1_1 hE (ks_m hr (by decide)) zf_X4_72 dX4_votesOf_4 ?_
  refine z_iload_n hE 1 rfl rfl dX4_votesOf_7 ?_
  refine al_2 hE (ks_m hr (by decide)) (by omega) (by omega) dX4_votesOf_8 ?_
  refine z_istore_n hE rfl (by decide) rfl dX4_votesOf_9 ?_
  refine z_iload_n hE 0 rfl rfl dX4_votesOf_10 ?_
  refine z_if_gt (tgt := 16) hE dX4_votesOf_11 (by decide) ⟨by omega, by omega⟩ (fun c1 => ?_) (fun c1 => ?_)
  · refine z_aload_n hE 1 rfl rfl dX4_votesOf_16 ?_
    refine gf_4_1 hE (ks_m hr (by decide)) zf_X4_21 dX4_votesOf_17 ?_
    refine gf_5_5 hE (ks_m hr (by decide)) zf_X4_197 dX4_votesOf_20 ?_
    by_cases k23_1 : S r 16 = 1
    · refine z_tIn (tgt := 48) hE 1 dX4_votesOf_23 ⟨by omega, by omega⟩ k23_1 (by decide) (by decide) rfl (by decide) ?_
      refine z_iload_n hE 0 rfl rfl dX4_votesOf_48 ?_
      exact z_iret hE hR dX4_votesOf_49 (congrArg (fun x => some (Value.int (i32 x))) (by unfold sp_votes; first | rw [if_pos (by omega)] | rw [if_neg (by omega), if_pos (by omega)] | rw [if_neg (by omega), if_neg (by omega), if_pos (by omega)] | rw [if_neg (by omega), if_neg (by omega), if_neg (by omega), if_pos (by omega)] | rw [if_neg (by omega), if_neg (by omega), if_neg (by omega), if_neg (by omega)])) (by first | rfl | (simp only [us_id]))
    by_cases k23_2 : S r 16 = 2
    · refine z_tIn (tgt := 50) hE 2 dX4_votesOf_23 ⟨by omega, by omega⟩ k23_2 (by decide) (by decide) rfl (by decide) ?_
      refine z_aload_n hE 1 rfl rfl dX4_votesOf_50 ?_
      refine gf_4_0 hE (ks_m hr (by decide)) zf_X4_12 dX4_votesOf_51 ?_
      refine gf_1_2 hE (ks_m hr (by decide)) zf_X4_79 dX4_votesOf_54 ?_
      refine z_iload_n hE 2 rfl rfl dX4_votesOf_57 ?_
      refine al_3 hE (ks_m hr (by decide)) (by omega) (by omega) dX4_votesOf_58 ?_
      refine z_sipush (a := 1000) hE (by decide) dX4_votesOf_59 ?_
      refine z_callN hE (c_X7_quotient l0 D0 cI0 cJ0 ad S (S r (20 + 3 * m)) 1000 (⟨by omega, by omega⟩) (⟨by omega, by omega⟩) (by omega)) (List.mem_of_getElem? (i := 7) rfl) zt_yX7_quotient zn_RX7 zc_yX7_quotient (hy_X7_quotient) (Nat.le_of_ble_eq_true rfl) (Nat.le_of_ble_eq_true rfl) rfl rfl rfl (Nat.le_of_ble_eq_true rfl) dX4_votesOf_62 ?_
      refine z_iconst hE dX4_votesOf_65 ?_
      refine z_iadd hE dX4_votesOf_66 ?_
      exact z_iret hE hR dX4_votesOf_67 (congrArg (fun x => some (Value.int (i32 x))) (by unfold sp_votes; first | rw [if_pos (by omega)] | rw [if_neg (by omega), if_pos (by omega)] | rw [if_neg (by omega), if_neg (by omega), if_pos (by omega)] | rw [if_neg (by omega), if_neg (by omega), if_neg (by omega), if_pos (by omega)] | rw [if_neg (by omega), if_neg (by omega), if_neg (by omega), if_neg (by omega)])) (by first | rfl | (simp only [us_id]))
    by_cases k23_3 : S r 16 = 3
    · refine z_tIn (tgt := 68) hE 3 dX4_votesOf_23 ⟨by omega, by omega⟩ k23_3 (by decide) (by decide) rfl (by decide) ?_
      refine z_iload_n hE 0 rfl rfl dX4_votesOf_68 ?_
      refine z_callN hE (c_X7_rootOf l0 D0 cI0 cJ0 ad S (S r (19 + 3 * m)) (by omega)) (List.mem_of_getElem? (i := 10) rfl) zt_yX7_rootOf zn_RX7 zc_yX7_rootOf (hy_X7_rootOf) (Nat.le_of_ble_eq_true rfl) (Nat.le_of_ble_eq_true rfl) rfl rfl rfl (Nat.le_of_ble_eq_true rfl) dX4_votesOf_69 ?_
      exact z_iret hE hR dX4_votesOf_72 (congrArg (fun x => some (Value.int (i32 x))) (by unfold sp_votes; first | rw [if_pos (by omega)] | rw [if_neg (by omega), if_pos (by omega)] | rw [if_neg (by omega), if_neg (by omega), if_pos (by omega)] | rw [if_neg (by omega), if_neg (by omega), if_neg (by omega), if_pos (by omega)] | rw [if_neg (by omega), if_neg (by omega), if_neg (by omega), if_neg (by omega)])) (by first | rfl | (simp only [us_id]))
    refine z_tOut (tgt := 73) hE dX4_votesOf_23 ⟨by omega, by omega⟩ (by omega) (by decide) ?_
    refine z_iconst hE dX4_votesOf_73 ?_
    exact z_iret hE hR dX4_votesOf_74 (congrArg (fun x => some (Value.int (i32 x))) (by unfold sp_votes; first | rw [if_pos (by omega)] | rw [if_neg (by omega), if_pos (by omega)] | rw [if_neg (by omega), if_neg (by omega), if_pos (by omega)] | rw [if_neg (by omega), if_neg (by omega), if_neg (by omega), if_pos (by omega)] | rw [if_neg (by omega), if_neg (by omega), if_neg (by omega), if_neg (by omega)])) (by first | rfl | (simp only [us_id]))
  · refine z_iconst hE dX4_votesOf_14 ?_
    exact z_iret hE hR dX4_votesOf_15 (congrArg (fun x => some (Value.int (i32 x))) (by unfold sp_votes; first | rw [if_pos (by omega)] | rw [if_neg (by omega), if_pos (by omega)] | rw [if_neg (by omega), if_neg (by omega), if_pos (by omega)] | rw [if_neg (by omega), if_neg (by omega), if_neg (by omega), if_pos (by omega)] | rw [if_neg (by omega), if_neg (by omega), if_neg (by omega), if_neg (by omega)])) (by first | rfl | (simp only [us_id]))
theorem dX4_sumOfVotes_0 : decode cX4_sumOfVotes 0 = .ok (.iconst 0, 1) := by decide +kernel
theorem dX4_sumOfVotes_1 : decode cX4_sumOfVotes 1 = .ok (.istore_n 3, 1) := by decide +kernel
theorem dX4_sumOfVotes_2 : decode cX4_sumOfVotes 2 = .ok (.iconst 0, 1) := by decide +kernel
theorem dX4_sumOfVotes_3 : decode cX4_sumOfVotes 3 = .ok (.istore 4, 2) := by decide +kernel
theorem dX4_sumOfVotes_5 : decode cX4_sumOfVotes 5 = .ok (.iload 4, 2) := by decide +kernel
theorem dX4_sumOfVotes_7 : decode cX4_sumOfVotes 7 = .ok (.aload_n 0, 1) := by decide +kernel
theorem dX4_sumOfVotes_8 : decode cX4_sumOfVotes 8 = .ok (.getfield 12, 3) := by decide +kernel
theorem dX4_sumOfVotes_11 : decode cX4_sumOfVotes 11 = .ok (.getfield 69, 3) := by decide +kernel
theorem dX4_sumOfVotes_14 : decode cX4_sumOfVotes 14 = .ok (.if_icmp .ge 32, 3) := by decide +kernel
theorem dX4_sumOfVotes_17 : decode cX4_sumOfVotes 17 = .ok (.aload_n 0, 1) := by decide +kernel
theorem dX4_sumOfVotes_18 : decode cX4_sumOfVotes 18 = .ok (.getfield 42, 3) := by decide +kernel
theorem dX4_sumOfVotes_21 : decode cX4_sumOfVotes 21 = .ok (.iload_n 1, 1) := by decide +kernel
theorem dX4_sumOfVotes_22 : decode cX4_sumOfVotes 22 = .ok (.iload 4, 2) := by decide +kernel
theorem dX4_sumOfVotes_24 : decode cX4_sumOfVotes 24 = .ok (.invokevirtual 203, 3) := by decide +kernel
theorem dX4_sumOfVotes_27 : decode cX4_sumOfVotes 27 = .ok (.iload_n 2, 1) := by decide +kernel
theorem dX4_sumOfVotes_28 : decode cX4_sumOfVotes 28 = .ok (.if_icmp .ne 12, 3) := by decide +kernel
theorem dX4_sumOfVotes_31 : decode cX4_sumOfVotes 31 = .ok (.iload_n 3, 1) := by decide +kernel
theorem dX4_sumOfVotes_32 : decode cX4_sumOfVotes 32 = .ok (.aload_n 0, 1) := by decide +kernel
theorem dX4_sumOfVotes_33 : decode cX4_sumOfVotes 33 = .ok (.iload 4, 2) := by decide +kernel
theorem dX4_sumOfVotes_35 : decode cX4_sumOfVotes 35 = .ok (.invokevirtual 206, 3) := by decide +kernel
theorem dX4_sumOfVotes_38 : decode cX4_sumOfVotes 38 = .ok (.iadd, 1) := by decide +kernel
theorem dX4_sumOfVotes_39 : decode cX4_sumOfVotes 39 = .ok (.istore_n 3, 1) := by decide +kernel
theorem dX4_sumOfVotes_40 : decode cX4_sumOfVotes 40 = .ok (.iinc 4 1, 3) := by decide +kernel
theorem dX4_sumOfVotes_43 : decode cX4_sumOfVotes 43 = .ok (.goto (-38), 3) := by decide +kernel
theorem dX4_sumOfVotes_46 : decode cX4_sumOfVotes 46 = .ok (.iload_n 3, 1) := by decide +kernel
theorem dX4_sumOfVotes_47 : decode cX4_sumOfVotes 47 = .ok (.ireturn, 1) := by decide +kernel
theorem hy_X4_sumOfVotes : yX4_sumOfVotes.cls ≠ "java/lang/invoke/MethodHandle" ∧ yX4_sumOfVotes.cls ≠ "java/lang/invoke/VarHandle" ∧ (parseMethodDescriptor yX4_sumOfVotes.desc).map (fun d => d.parameters.length) = some 2 := ⟨by decide +kernel, by decide +kernel, by decide +kernel⟩
set_option maxHeartbeats 4000000 in
set_option maxRecDepth 100000 in
theorem lp_X4_sumOfVotes {E : zE} {l0 : Launch} {D0 : va_G} {cI0 cJ0 : ClassId} {ad : Nat → Nat → Nat} (hE : zG E l0 D0 cI0 cJ0 ad cX4_sumOfVotes 5 RX4 3 65) (S : zM) (r : Nat) (hr : r < 5) (q : Int) (b : Int) (hI : Inv0 (S r)) (h0 : 0 ≤ q ∧ q < 10) (h1 : 0 ≤ b ∧ b ≤ 2) (hR : zR E (some .int) (some (.int (i32 (sp_sum (S r) q b)))) (fun X => X = S)) : ∀ (fuel : Nat) (i : Int) (h9 : 0 ≤ i ∧ i ≤ S r 0), (S r 0 - i).toNat < fuel → Z E S 5 [(4, .int (i32 i)), (3, .int (i32 (sm (sp_vf (S r) q b) i))), (0, .ref (ad r 0)), (1, .int (i32 q)), (2, .int (i32 b))] [] := by
  intro fuel
  induction fuel with
  | zero => intro _ _ hz; omega
  | succ fuel ih =>
    intro i h9 hz
    have hA := inA hI
    unfold InvA at hA
    refine z_iload hE 0 rfl dX4_sumOfVotes_5 ?_
    refine z_aload_n hE 2 rfl rfl dX4_sumOfVotes_7 ?_
    refine gf_4_0 hE (ks_m hr (by decide)) zf_X4_12 dX4_sumOfVotes_8 ?_
    refine gf_1_0 hE (ks_m hr (by decide)) zf_X4_69 dX4_sumOfVotes_11 ?_
    refine z_icmp_ge (tgt := 46) hE dX4_sumOfVotes_14 (by decide) ⟨by omega, by omega⟩ ⟨by omega, by omega⟩ (fun c1 => ?_) (fun c1 => ?_)
    · refine z_iload_n hE 1 rfl rfl dX4_sumOfVotes_46 ?_
      exact z_iret hE hR dX4_sumOfVotes_47 (congrArg (fun x => some (Value.int (i32 x))) (by unfold sp_sum; rw [show i = S r 0 by omega])) (by first | rfl | (simp only [us_id]))
    · have h8 := inV hI q i h0.1 h0.2 h9.1 (by omega)
      refine z_aload_n hE 2 rfl rfl dX4_sumOfVotes_17 ?_
      refine gf_4_4 hE (ks_m hr (by decide)) zf_X4_42 dX4_sumOfVotes_18 ?_
      refine z_iload_n hE 3 rfl rfl dX4_sumOfVotes_21 ?_
      refine z_iload hE 0 rfl dX4_sumOfVotes_22 ?_
      refine z_callV hE (c_X2_ballotOf l0 D0 cI0 cJ0 ad S r hr q i (by omega) (by omega)) (ks_m hr (by decide)) rfl rfl zm_X4_203 zi_yX2_ballotOf zs_yX2_ballotOf zn_RX2 zc_yX2_ballotOf (hy_X2_ballotOf) (Nat.le_of_ble_eq_true rfl) (Nat.le_of_ble_eq_true rfl) rfl rfl rfl (Nat.le_of_ble_eq_true rfl) dX4_sumOfVotes_24 ?_
      refine z_iload_n hE 4 rfl rfl dX4_sumOfVotes_27 ?_
      refine z_icmp_ne (tgt := 40) hE dX4_sumOfVotes_28 (by decide) ⟨by omega, by omega⟩ ⟨by omega, by omega⟩ (fun c2 => ?_) (fun c2 => ?_)
      · refine z_iinc hE 0 rfl (by decide) rfl dX4_sumOfVotes_40 ?_
        refine z_goto (tgt := 5) hE (d := dX4_sumOfVotes_43) (ht := by decide) ?_
        refine z_L (L' := [(4, .int (i32 (i + 1))), (3, .int (i32 (sm (sp_vf (S r) q b) (i + 1)))), (0, .ref (ad r 0)), (1, .int (i32 q)), (2, .int (i32 b))]) [0, 1, 2, 3, 4] (by rw [show sm (sp_vf (S r) q b) (i + 1) = sm (sp_vf (S r) q b) i from by first | rfl | ((rw [sm_s h9.1]; unfold sp_vf; first | rw [if_pos (by omega)] | (rw [if_neg (by omega)]; omega)))]; rfl) ?_
        exact ih (i + 1) ⟨by omega, by omega⟩ (by omega)
      · refine z_iload_n hE 1 rfl rfl dX4_sumOfVotes_31 ?_
        refine z_aload_n hE 2 rfl rfl dX4_sumOfVotes_32 ?_
        refine z_iload hE 0 rfl dX4_sumOfVotes_33 ?_
        refine z_callV hE (c_X4_votesOf l0 D0 cI0 cJ0 ad S r hr i hI (by omega)) (ks_m hr (by decide)) rfl rfl zm_X4_206 zi_yX4_votesOf zs_yX4_votesOf zn_RX4 zc_yX4_votesOf (hy_X4_votesOf) (Nat.le_of_ble_eq_true rfl) (Nat.le_of_ble_eq_true rfl) rfl rfl rfl (Nat.le_of_ble_eq_true rfl) dX4_sumOfVotes_35 ?_
        refine z_iadd hE dX4_sumOfVotes_38 ?_
        refine z_istore_n hE rfl (by decide) rfl dX4_sumOfVotes_39 ?_
        refine z_iinc hE 1 rfl (by decide) rfl dX4_sumOfVotes_40 ?_
        refine z_goto (tgt := 5) hE (d := dX4_sumOfVotes_43) (ht := by decide) ?_
        refine z_L (L' := [(4, .int (i32 (i + 1))), (3, .int (i32 (sm (sp_vf (S r) q b) (i + 1)))), (0, .ref (ad r 0)), (1, .int (i32 q)), (2, .int (i32 b))]) [0, 1, 2, 3, 4] (by rw [show sm (sp_vf (S r) q b) (i + 1) = (sm (sp_vf (S r) q b) i) + (sp_votes ((S r)) i) from by first | rfl | ((rw [sm_s h9.1]; unfold sp_vf; first | rw [if_pos (by omega)] | (rw [if_neg (by omega)]; omega)))]; rfl) ?_
        exact ih (i + 1) ⟨by omega, by omega⟩ (by omega)
set_option maxHeartbeats 4000000 in
set_option maxRecDepth 100000 in
theorem c_X4_sumOfVotes (l0 : Launch) (D0 : va_G) (cI0 cJ0 : ClassId) (ad : Nat → Nat → Nat) (S : zM) (r : Nat) (hr : r < 5) (q : Int) (b : Int) (hI : Inv0 (S r)) (h0 : 0 ≤ q ∧ q < 10) (h1 : 0 ≤ b ∧ b ≤ 2) : Ct l0 D0 cI0 cJ0 ad yX4_sumOfVotes cX4_sumOfVotes 5 (some .int) 3 65 [.ref (ad r 0), .int (i32 q), .int (i32 b)] S (some (.int (i32 (sp_sum (S r) q b)))) (fun X => X = S) := by
  refine Ct.of (by decide) (Nat.le_of_ble_eq_true rfl) (fun E hE hR => ?_)
  have hE : zG E l0 D0 cI0 cJ0 ad cX4_sumOfVotes 5 RX4 3 65 := hE
  show Z E S 0 [(0, .ref (ad r 0)), (1, .int (i32 q)), (2, .int (i32 b))] []
  have hA := inA hI
  unfold InvA at hA
  refine z_iconst hE dX4_sumOfVotes_0 ?_
  refine z_istore_n hE rfl (by decide) rfl dX4_sumOfVotes_1 ?_
  refine z_iconst hE dX4_sumOfVotes_2 ?_
  refine z_istore hE (by decide) rfl dX4_sumOfVotes_3 ?_
  refine z_L (L' := [(4, .int (i32 0)), (3, .int (i32 (sm (sp_vf (S r) q b) 0))), (0, .ref (ad r 0)), (1, .int (i32 q)), (2, .int (i32 b))]) [0, 1, 2, 3, 4] (by rw [show sm (sp_vf (S r) q b) 0 = 0 from by first | rfl | (exact sm_0 _)]; rfl) ?_
  exact lp_X4_sumOfVotes hE S r hr q b hI h0 h1 hR 13 0 ⟨by omega, by omega⟩ (by omega)
theorem dX4_passes_0 : decode cX4_passes 0 = .ok (.aload_n 0, 1) := by decide +kernel
theorem dX4_passes_1 : decode cX4_passes 1 = .ok (.iload_n 1, 1) := by decide +kernel
theorem dX4_passes_2 : decode cX4_passes 2 = .ok (.iconst 1, 1) := by decide +kernel
theorem dX4_passes_3 : decode cX4_passes 3 = .ok (.invokevirtual 209, 3) := by decide +kernel
theorem dX4_passes_6 : decode cX4_passes 6 = .ok (.istore_n 2, 1) := by decide +kernel
theorem dX4_passes_7 : decode cX4_passes 7 = .ok (.aload_n 0, 1) := by decide +kernel
theorem dX4_passes_8 : decode cX4_passes 8 = .ok (.iload_n 1, 1) := by decide +kernel
theorem dX4_passes_9 : decode cX4_passes 9 = .ok (.iconst 2, 1) := by decide +kernel
theorem dX4_passes_10 : decode cX4_passes 10 = .ok (.invokevirtual 209, 3) := by decide +kernel
theorem dX4_passes_13 : decode cX4_passes 13 = .ok (.istore_n 3, 1) := by decide +kernel
theorem dX4_passes_14 : decode cX4_passes 14 = .ok (.iload_n 2, 1) := by decide +kernel
theorem dX4_passes_15 : decode cX4_passes 15 = .ok (.iload_n 3, 1) := by decide +kernel
theorem dX4_passes_16 : decode cX4_passes 16 = .ok (.iadd, 1) := by decide +kernel
theorem dX4_passes_17 : decode cX4_passes 17 = .ok (.istore 4, 2) := by decide +kernel
theorem dX4_passes_19 : decode cX4_passes 19 = .ok (.iload 4, 2) := by decide +kernel
theorem dX4_passes_21 : decode cX4_passes 21 = .ok (.aload_n 0, 1) := by decide +kernel
theorem dX4_passes_22 : decode cX4_passes 22 = .ok (.iload_n 1, 1) := by decide +kernel
theorem dX4_passes_23 : decode cX4_passes 23 = .ok (.iconst 0, 1) := by decide +kernel
theorem dX4_passes_24 : decode cX4_passes 24 = .ok (.invokevirtual 209, 3) := by decide +kernel
theorem dX4_passes_27 : decode cX4_passes 27 = .ok (.iadd, 1) := by decide +kernel
theorem dX4_passes_28 : decode cX4_passes 28 = .ok (.istore 5, 2) := by decide +kernel
theorem dX4_passes_30 : decode cX4_passes 30 = .ok (.iload 4, 2) := by decide +kernel
theorem dX4_passes_32 : decode cX4_passes 32 = .ok (.bipush 100, 2) := by decide +kernel
theorem dX4_passes_34 : decode cX4_passes 34 = .ok (.imul, 1) := by decide +kernel
theorem dX4_passes_35 : decode cX4_passes 35 = .ok (.iload 5, 2) := by decide +kernel
theorem dX4_passes_37 : decode cX4_passes 37 = .ok (.aload_n 0, 1) := by decide +kernel
theorem dX4_passes_38 : decode cX4_passes 38 = .ok (.getfield 21, 3) := by decide +kernel
theorem dX4_passes_41 : decode cX4_passes 41 = .ok (.getfield 212, 3) := by decide +kernel
theorem dX4_passes_44 : decode cX4_passes 44 = .ok (.imul, 1) := by decide +kernel
theorem dX4_passes_45 : decode cX4_passes 45 = .ok (.if_icmp .lt 15, 3) := by decide +kernel
theorem dX4_passes_48 : decode cX4_passes 48 = .ok (.iconst 2, 1) := by decide +kernel
theorem dX4_passes_49 : decode cX4_passes 49 = .ok (.iload_n 2, 1) := by decide +kernel
theorem dX4_passes_50 : decode cX4_passes 50 = .ok (.imul, 1) := by decide +kernel
theorem dX4_passes_51 : decode cX4_passes 51 = .ok (.iload 4, 2) := by decide +kernel
theorem dX4_passes_53 : decode cX4_passes 53 = .ok (.if_icmp .le 7, 3) := by decide +kernel
theorem dX4_passes_56 : decode cX4_passes 56 = .ok (.iconst 1, 1) := by decide +kernel
theorem dX4_passes_57 : decode cX4_passes 57 = .ok (.goto 4, 3) := by decide +kernel
theorem dX4_passes_60 : decode cX4_passes 60 = .ok (.iconst 0, 1) := by decide +kernel
theorem dX4_passes_61 : decode cX4_passes 61 = .ok (.ireturn, 1) := by decide +kernel
theorem hy_X4_passes : yX4_passes.cls ≠ "java/lang/invoke/MethodHandle" ∧ yX4_passes.cls ≠ "java/lang/invoke/VarHandle" ∧ (parseMethodDescriptor yX4_passes.desc).map (fun d => d.parameters.length) = some 1 := ⟨by decide +kernel, by decide +kernel, by decide +kernel⟩
set_option maxHeartbeats 4000000 in
set_option maxRecDepth 100000 in
theorem c_X4_passes (l0 : Launch) (D0 : va_G) (cI0 cJ0 : ClassId) (ad : Nat → Nat → Nat) (S : zM) (r : Nat) (hr : r < 5) (q : Int) (hI : Inv0 (S r)) (h0 : 0 ≤ q ∧ q < 10) : Ct l0 D0 cI0 cJ0 ad yX4_passes cX4_passes 6 (some .boolean) 4 89 [.ref (ad r 0), .int (i32 q)] S (some (.int (i32 (zbo (sp_pass (S r) q))))) (fun X => X = S) := by
  refine Ct.of (by decide) (Nat.le_of_ble_eq_true rfl) (fun E hE hR => ?_)
  have hE : zG E l0 D0 cI0 cJ0 ad cX4_passes 6 RX4 4 89 := hE
  show Z E S 0 [(0, .ref (ad r 0)), (1, .int (i32 q))] []
  have hA := inA hI
  unfold InvA at hA
  have s0 := sum_b hI q 0
  have s1 := sum_b hI q 1
  have s2 := sum_b hI q 2
  have s3 := zx_mul (a := sp_sum (S r) q 1 + sp_sum (S r) q 2 + sp_sum (S r) q 0) (b := S r 17) (A := 360000) (B := 100) (by omega) (by omega) (by omega) (by omega)
  refine z_aload_n hE 0 rfl rfl dX4_passes_0 ?_
  refine z_iload_n hE 1 rfl rfl dX4_passes_1 ?_
  refine z_iconst hE dX4_passes_2 ?_
  refine z_callV hE (c_X4_sumOfVotes l0 D0 cI0 cJ0 ad S r hr q 1 hI (by omega) (by omega)) (ks_m hr (by decide)) rfl rfl zm_X4_209 zi_yX4_sumOfVotes zs_yX4_sumOfVotes zn_RX4 zc_yX4_sumOfVotes (hy_X4_sumOfVotes) (Nat.le_of_ble_eq_true rfl) (Nat.le_of_ble_eq_true rfl) rfl rfl rfl (Nat.le_of_ble_eq_true rfl) dX4_passes_3 ?_
  refine z_istore_n hE rfl (by decide) rfl dX4_passes_6 ?_
  refine z_aload_n hE 1 rfl rfl dX4_passes_7 ?_
  refine z_iload_n hE 2 rfl rfl dX4_passes_8 ?_
  refine z_iconst hE dX4_passes_9 ?_
  refine z_callV hE (c_X4_sumOfVotes l0 D0 cI0 cJ0 ad S r hr q 2 hI (by omega) (by omega)) (ks_m hr (by decide)) rfl rfl zm_X4_209 zi_yX4_sumOfVotes zs_yX4_sumOfVotes zn_RX4 zc_yX4_sumOfVotes (hy_X4_sumOfVotes) (Nat.le_of_ble_eq_true rfl) (Nat.le_of_ble_eq_true rfl) rfl rfl rfl (Nat.le_of_ble_eq_true rfl) dX4_passes_10 ?_
  refine z_istore_n hE rfl (by decide) rfl dX4_passes_13 ?_
  refine z_iload_n hE 1 rfl rfl dX4_passes_14 ?_
  refine z_iload_n hE 0 rfl rfl dX4_passes_15 ?_
  refine z_iadd hE dX4_passes_16 ?_
  refine z_istore hE (by decide) rfl dX4_passes_17 ?_
  refine z_iload hE 0 rfl dX4_passes_19 ?_
  refine z_aload_n hE 3 rfl rfl dX4_passes_21 ?_
  refine z_iload_n hE 4 rfl rfl dX4_passes_22 ?_
  refine z_iconst hE dX4_passes_23 ?_
  refine z_callV hE (c_X4_sumOfVotes l0 D0 cI0 cJ0 ad S r hr q 0 hI (by omega) (by omega)) (ks_m hr (by decide)) rfl rfl zm_X4_209 zi_yX4_sumOfVotes zs_yX4_sumOfVotes zn_RX4 zc_yX4_sumOfVotes (hy_X4_sumOfVotes) (Nat.le_of_ble_eq_true rfl) (Nat.le_of_ble_eq_true rfl) rfl rfl rfl (Nat.le_of_ble_eq_true rfl) dX4_passes_24 ?_
  refine z_iadd hE dX4_passes_27 ?_
  refine z_istore hE (by decide) rfl dX4_passes_28 ?_
  refine z_iload hE 1 rfl dX4_passes_30 ?_
  refine z_bipush (a := 100) hE (by decide) dX4_passes_32 ?_
  refine z_imul hE dX4_passes_34 ?_
  refine z_iload hE 0 rfl dX4_passes_35 ?_
  refine z_aload_n hE 4 rfl rfl dX4_passes_37 ?_
  refine gf_4_1 hE (ks_m hr (by decide)) zf_X4_21 dX4_passes_38 ?_
  refine gf_5_6 hE (ks_m hr (by decide)) zf_X4_212 dX4_passes_41 ?_
  refine z_imul hE dX4_passes_44 ?_
  refine z_icmp_lt (tgt := 60) hE dX4_passes_45 (by decide) ⟨by omega, by omega⟩ ⟨by omega, by omega⟩ (fun c1 => ?_) (fun c1 => ?_)
  · refine z_iconst hE dX4_passes_60 ?_
    exact z_zret hE hR dX4_passes_61 (by decide) (congrArg (fun x => some (Value.int (i32 x))) (by first | rfl | (unfold zbo; first | rw [if_pos (by omega)] | rw [if_neg (by omega)]))) (by first | rfl | (simp only [us_id]))
  · refine z_iconst hE dX4_passes_48 ?_
    refine z_iload_n hE 3 rfl rfl dX4_passes_49 ?_
    refine z_imul hE dX4_passes_50 ?_
    refine z_iload hE 1 rfl dX4_passes_51 ?_
    refine z_icmp_le (tgt := 60) hE dX4_passes_53 (by decide) ⟨by omega, by omega⟩ ⟨by omega, by omega⟩ (fun c2 => ?_) (fun c2 => ?_)
    · refine z_iconst hE dX4_passes_60 ?_
      exact z_zret hE hR dX4_passes_61 (by decide) (congrArg (fun x => some (Value.int (i32 x))) (by first | rfl | (unfold zbo; first | rw [if_pos (by omega)] | rw [if_neg (by omega)]))) (by first | rfl | (simp only [us_id]))
    · refine z_iconst hE dX4_passes_56 ?_
      refine z_goto (tgt := 61) hE (d := dX4_passes_57) (ht := by decide) ?_
      exact z_zret hE hR dX4_passes_61 (by decide) (congrArg (fun x => some (Value.int (i32 x))) (by first | rfl | (unfold zbo; first | rw [if_pos (by omega)] | rw [if_neg (by omega)]))) (by first | rfl | (simp only [us_id]))
theorem divi_ne {v : Int} {s : Int → Int} : ∀ {n : Nat} {q : Int}, (∀ k : Int, 0 ≤ k → k < n → q ≠ 21 + 3 * k) → sp_divi v s n q = s q
  | 0, _, _ => rfl
  | n + 1, q, h => by
    show uq _ _ _ q = _
    rw [uq_ne (h n (by omega) (by omega))]
    exact divi_ne fun k h1 h2 => h k h1 (by omega)
theorem divi_s {v : Int} {s : Int → Int} {i : Int} (h : 0 ≤ i) : sp_divi v s (i + 1).toNat = uq (sp_divi v s i.toNat) (21 + 3 * i) (s (19 + 3 * i) * s 5 * v / 100) := by
  rw [show (i + 1).toNat = i.toNat + 1 by omega]
  show uq _ _ _ = _
  rw [Int.toNat_of_nonneg h]
theorem dX4_payDividend_0 : decode cX4_payDividend 0 = .ok (.iconst 0, 1) := by decide +kernel
theorem dX4_payDividend_1 : decode cX4_payDividend 1 = .ok (.istore_n 2, 1) := by decide +kernel
theorem dX4_payDividend_2 : decode cX4_payDividend 2 = .ok (.iload_n 2, 1) := by decide +kernel
theorem dX4_payDividend_3 : decode cX4_payDividend 3 = .ok (.aload_n 0, 1) := by decide +kernel
theorem dX4_payDividend_4 : decode cX4_payDividend 4 = .ok (.getfield 12, 3) := by decide +kernel
theorem dX4_payDividend_7 : decode cX4_payDividend 7 = .ok (.getfield 69, 3) := by decide +kernel
theorem dX4_payDividend_10 : decode cX4_payDividend 10 = .ok (.if_icmp .ge 48, 3) := by decide +kernel
theorem dX4_payDividend_13 : decode cX4_payDividend 13 = .ok (.aload_n 0, 1) := by decide +kernel
theorem dX4_payDividend_14 : decode cX4_payDividend 14 = .ok (.getfield 12, 3) := by decide +kernel
theorem dX4_payDividend_17 : decode cX4_payDividend 17 = .ok (.getfield 72, 3) := by decide +kernel
theorem dX4_payDividend_20 : decode cX4_payDividend 20 = .ok (.iload_n 2, 1) := by decide +kernel
theorem dX4_payDividend_21 : decode cX4_payDividend 21 = .ok (.iaload, 1) := by decide +kernel
theorem dX4_payDividend_22 : decode cX4_payDividend 22 = .ok (.aload_n 0, 1) := by decide +kernel
theorem dX4_payDividend_23 : decode cX4_payDividend 23 = .ok (.getfield 21, 3) := by decide +kernel
theorem dX4_payDividend_26 : decode cX4_payDividend 26 = .ok (.getfield 215, 3) := by decide +kernel
theorem dX4_payDividend_29 : decode cX4_payDividend 29 = .ok (.imul, 1) := by decide +kernel
theorem dX4_payDividend_30 : decode cX4_payDividend 30 = .ok (.iload_n 1, 1) := by decide +kernel
theorem dX4_payDividend_31 : decode cX4_payDividend 31 = .ok (.imul, 1) := by decide +kernel
theorem dX4_payDividend_32 : decode cX4_payDividend 32 = .ok (.istore_n 3, 1) := by decide +kernel
theorem dX4_payDividend_33 : decode cX4_payDividend 33 = .ok (.aload_n 0, 1) := by decide +kernel
theorem dX4_payDividend_34 : decode cX4_payDividend 34 = .ok (.getfield 12, 3) := by decide +kernel
theorem dX4_payDividend_37 : decode cX4_payDividend 37 = .ok (.getfield 190, 3) := by decide +kernel
theorem dX4_payDividend_40 : decode cX4_payDividend 40 = .ok (.iload_n 2, 1) := by decide +kernel
theorem dX4_payDividend_41 : decode cX4_payDividend 41 = .ok (.dup2, 1) := by decide +kernel
theorem dX4_payDividend_42 : decode cX4_payDividend 42 = .ok (.laload, 1) := by decide +kernel
theorem dX4_payDividend_43 : decode cX4_payDividend 43 = .ok (.iload_n 3, 1) := by decide +kernel
theorem dX4_payDividend_44 : decode cX4_payDividend 44 = .ok (.bipush 100, 2) := by decide +kernel
theorem dX4_payDividend_46 : decode cX4_payDividend 46 = .ok (.invokestatic 82, 3) := by decide +kernel
theorem dX4_payDividend_49 : decode cX4_payDividend 49 = .ok (.i2l, 1) := by decide +kernel
theorem dX4_payDividend_50 : decode cX4_payDividend 50 = .ok (.ladd, 1) := by decide +kernel
theorem dX4_payDividend_51 : decode cX4_payDividend 51 = .ok (.lastore, 1) := by decide +kernel
theorem dX4_payDividend_52 : decode cX4_payDividend 52 = .ok (.iinc 2 1, 3) := by decide +kernel
theorem dX4_payDividend_55 : decode cX4_payDividend 55 = .ok (.goto (-53), 3) := by decide +kernel
theorem dX4_payDividend_58 : decode cX4_payDividend 58 = .ok (.return_, 1) := by decide +kernel
theorem hy_X4_payDividend : yX4_payDividend.cls ≠ "java/lang/invoke/MethodHandle" ∧ yX4_payDividend.cls ≠ "java/lang/invoke/VarHandle" ∧ (parseMethodDescriptor yX4_payDividend.desc).map (fun d => d.parameters.length) = some 1 := ⟨by decide +kernel, by decide +kernel, by decide +kernel⟩
set_option maxHeartbeats 4000000 in
set_option maxRecDepth 100000 in
theorem lp_X4_payDividend {E : zE} {l0 : Launch} {D0 : va_G} {cI0 cJ0 : ClassId} {ad : Nat → Nat → Nat} (hE : zG E l0 D0 cI0 cJ0 ad cX4_payDividend 4 RX4 2 43) (S : zM) (r : Nat) (hr : r < 5) (v : Int) (hI : Inv0 (S r)) (h0 : 1 ≤ v ∧ v ≤ 100) (hR : zR E none none (fun X => X = (us S r (sp_divi v (S r) (S r 0).toNat)))) : ∀ (fuel : Nat) (i : Int) (h9 : 0 ≤ i ∧ i ≤ S r 0), (S r 0 - i).toNat < fuel → Z E (us S r (sp_divi v (S r) i.toNat)) 2 [(2, .int (i32 i)), (0, .ref (ad r 0)), (1, .int (i32 v))] [] := by
  intro fuel
  induction fuel with
  | zero => intro _ _ hz; omega
  | succ fuel ih =>
    intro i h9 hz
    have hA := inA hI
    unfold InvA at hA
    refine z_iload_n hE 0 rfl rfl dX4_payDividend_2 ?_
    refine z_aload_n hE 1 rfl rfl dX4_payDividend_3 ?_
    refine gf_4_0 hE (ks_m hr (by decide)) zf_X4_12 dX4_payDividend_4 ?_
    refine gf_1_0 hE (ks_m hr (by decide)) zf_X4_69 dX4_payDividend_7 ?_
    try simp only [us_eq, us_us]
    rw [divi_ne (fun k h1 h2 => by omega)]
    refine z_icmp_ge (tgt := 58) hE dX4_payDividend_10 (by decide) ⟨by omega, by omega⟩ ⟨by omega, by omega⟩ (fun c1 => ?_) (fun c1 => ?_)
    · exact z_vret hE hR dX4_payDividend_58 rfl (by rw [show i = S r 0 by omega])
    · have hm := inM hI h9.1 (show i < 12 by omega)
      have hx := zx_mul (a := S r (19 + 3 * i)) (b := S r 5) (A := 10000) (B := 1000) (by omega) (by omega) (by omega) (by omega)
      have hy := zx_mul (a := S r (19 + 3 * i) * S r 5) (b := v) (A := 10000000) (B := 100) (by omega) (by omega) (by omega) (by omega)
      refine z_aload_n hE 1 rfl rfl dX4_payDividend_13 ?_
      refine gf_4_0 hE (ks_m hr (by decide)) zf_X4_12 dX4_payDividend_14 ?_
      refine gf_1_1 hE (ks_m hr (by decide)) zf_X4_72 dX4_payDividend_17 ?_
      refine z_iload_n hE 0 rfl rfl dX4_payDividend_20 ?_
      refine al_2 hE (ks_m hr (by decide)) (by omega) (by omega) dX4_payDividend_21 ?_
      try simp only [us_eq, us_us]
      rw [divi_ne (fun k h1 h2 => by omega)]
      refine z_aload_n hE 1 rfl rfl dX4_payDividend_22 ?_
      refine gf_4_1 hE (ks_m hr (by decide)) zf_X4_21 dX4_payDividend_23 ?_
      refine gf_5_2 hE (ks_m hr (by decide)) zf_X4_215 dX4_payDividend_26 ?_
      try simp only [us_eq, us_us]
      rw [divi_ne (fun k h1 h2 => by omega)]
      refine z_imul hE dX4_payDividend_29 ?_
      refine z_iload_n hE 2 rfl rfl dX4_payDividend_30 ?_
      refine z_imul hE dX4_payDividend_31 ?_
      refine z_istore_n hE rfl (by decide) rfl dX4_payDividend_32 ?_
      refine z_aload_n hE 2 rfl rfl dX4_payDividend_33 ?_
      refine gf_4_0 hE (ks_m hr (by decide)) zf_X4_12 dX4_payDividend_34 ?_
      refine gf_1_3 hE (ks_m hr (by decide)) zf_X4_190 dX4_payDividend_37 ?_
      refine z_iload_n hE 1 rfl rfl dX4_payDividend_40 ?_
      refine z_dup2 hE rfl rfl dX4_payDividend_41 ?_
      refine al_4 hE (ks_m hr (by decide)) (by omega) (by omega) dX4_payDividend_42 ?_
      try simp only [us_eq, us_us]
      refine z_iload_n hE 0 rfl rfl dX4_payDividend_43 ?_
      refine z_bipush (a := 100) hE (by decide) dX4_payDividend_44 ?_
      refine z_callN hE (c_X7_quotient l0 D0 cI0 cJ0 ad (us S r (sp_divi v (S r) i.toNat)) (((S r (19 + 3 * i)) * (S r 5)) * v) 100 (⟨by omega, by omega⟩) (⟨by omega, by omega⟩) (by first | omega | (simp only [us_eq]; omega))) (List.mem_of_getElem? (i := 7) rfl) zt_yX7_quotient zn_RX7 zc_yX7_quotient (hy_X7_quotient) (Nat.le_of_ble_eq_true rfl) (Nat.le_of_ble_eq_true rfl) rfl rfl rfl (Nat.le_of_ble_eq_true rfl) dX4_payDividend_46 ?_
      try simp only [us_eq, us_us]
      refine z_i2l hE ⟨by omega, by omega⟩ dX4_payDividend_49 ?_
      refine z_ladd hE dX4_payDividend_50 ?_
      refine as_4 hE (ks_m hr (by decide)) (by omega) (by omega) dX4_payDividend_51 ?_
      try simp only [us_eq, us_us]
      refine z_iinc hE 1 rfl (by decide) rfl dX4_payDividend_52 ?_
      refine z_goto (tgt := 2) hE (d := dX4_payDividend_55) (ht := by decide) ?_
      refine z_L (L' := [(2, .int (i32 (i + 1))), (0, .ref (ad r 0)), (1, .int (i32 v))]) [0, 2, 3] (by rfl) ?_
      rw [show ∀ x, up (sp_divi v (S r) i.toNat) (21 + 3 * i) (sp_divi v (S r) i.toNat (21 + 3 * i) + x) = uq (sp_divi v (S r) i.toNat) (21 + 3 * i) x from fun _ => rfl, ← divi_s h9.1]
      exact ih (i + 1) ⟨by omega, by omega⟩ (by omega)
set_option maxHeartbeats 4000000 in
set_option maxRecDepth 100000 in
theorem c_X4_payDividend (l0 : Launch) (D0 : va_G) (cI0 cJ0 : ClassId) (ad : Nat → Nat → Nat) (S : zM) (r : Nat) (hr : r < 5) (v : Int) (hI : Inv0 (S r)) (h0 : 1 ≤ v ∧ v ≤ 100) : Ct l0 D0 cI0 cJ0 ad yX4_payDividend cX4_payDividend 4 none 2 43 [.ref (ad r 0), .int (i32 v)] S none (fun X => X = (us S r (sp_divi v (S r) (S r 0).toNat))) := by
  refine Ct.of (by decide) (Nat.le_of_ble_eq_true rfl) (fun E hE hR => ?_)
  have hE : zG E l0 D0 cI0 cJ0 ad cX4_payDividend 4 RX4 2 43 := hE
  show Z E S 0 [(0, .ref (ad r 0)), (1, .int (i32 v))] []
  have hA := inA hI
  unfold InvA at hA
  refine z_iconst hE dX4_payDividend_0 ?_
  refine z_istore_n hE rfl (by decide) rfl dX4_payDividend_1 ?_
  refine z_L (L' := [(2, .int (i32 0)), (0, .ref (ad r 0)), (1, .int (i32 v))]) [0, 1, 2] (by rfl) ?_
  rw [show S = us S r (sp_divi v (S r) (0 : Int).toNat) from (us_id S r).symm]
  exact lp_X4_payDividend hE S r hr v hI h0 hR 13 0 ⟨by omega, by omega⟩ (by omega)
theorem dX4_carryOut_0 : decode cX4_carryOut 0 = .ok (.iload_n 1, 1) := by decide +kernel
theorem dX4_carryOut_1 : decode cX4_carryOut 1 = .ok (.tableswitch 96 0 4 #[35, 46, 57, 68, 88], 35) := by decide +kernel
theorem dX4_carryOut_36 : decode cX4_carryOut 36 = .ok (.aload_n 0, 1) := by decide +kernel
theorem dX4_carryOut_37 : decode cX4_carryOut 37 = .ok (.getfield 21, 3) := by decide +kernel
theorem dX4_carryOut_40 : decode cX4_carryOut 40 = .ok (.iload_n 2, 1) := by decide +kernel
theorem dX4_carryOut_41 : decode cX4_carryOut 41 = .ok (.putfield 215, 3) := by decide +kernel
theorem dX4_carryOut_44 : decode cX4_carryOut 44 = .ok (.goto 53, 3) := by decide +kernel
theorem dX4_carryOut_47 : decode cX4_carryOut 47 = .ok (.aload_n 0, 1) := by decide +kernel
theorem dX4_carryOut_48 : decode cX4_carryOut 48 = .ok (.getfield 21, 3) := by decide +kernel
theorem dX4_carryOut_51 : decode cX4_carryOut 51 = .ok (.iload_n 2, 1) := by decide +kernel
theorem dX4_carryOut_52 : decode cX4_carryOut 52 = .ok (.putfield 102, 3) := by decide +kernel
theorem dX4_carryOut_55 : decode cX4_carryOut 55 = .ok (.goto 42, 3) := by decide +kernel
theorem dX4_carryOut_58 : decode cX4_carryOut 58 = .ok (.aload_n 0, 1) := by decide +kernel
theorem dX4_carryOut_59 : decode cX4_carryOut 59 = .ok (.getfield 21, 3) := by decide +kernel
theorem dX4_carryOut_62 : decode cX4_carryOut 62 = .ok (.iload_n 2, 1) := by decide +kernel
theorem dX4_carryOut_63 : decode cX4_carryOut 63 = .ok (.putfield 143, 3) := by decide +kernel
theorem dX4_carryOut_66 : decode cX4_carryOut 66 = .ok (.goto 31, 3) := by decide +kernel
theorem dX4_carryOut_69 : decode cX4_carryOut 69 = .ok (.aload_n 0, 1) := by decide +kernel
theorem dX4_carryOut_70 : decode cX4_carryOut 70 = .ok (.dup, 1) := by decide +kernel
theorem dX4_carryOut_71 : decode cX4_carryOut 71 = .ok (.getfield 46, 3) := by decide +kernel
theorem dX4_carryOut_74 : decode cX4_carryOut 74 = .ok (.iload_n 2, 1) := by decide +kernel
theorem dX4_carryOut_75 : decode cX4_carryOut 75 = .ok (.aload_n 0, 1) := by decide +kernel
theorem dX4_carryOut_76 : decode cX4_carryOut 76 = .ok (.getfield 46, 3) := by decide +kernel
theorem dX4_carryOut_79 : decode cX4_carryOut 79 = .ok (.invokestatic 161, 3) := by decide +kernel
theorem dX4_carryOut_82 : decode cX4_carryOut 82 = .ok (.isub, 1) := by decide +kernel
theorem dX4_carryOut_83 : decode cX4_carryOut 83 = .ok (.putfield 46, 3) := by decide +kernel
theorem dX4_carryOut_86 : decode cX4_carryOut 86 = .ok (.goto 11, 3) := by decide +kernel
theorem dX4_carryOut_89 : decode cX4_carryOut 89 = .ok (.aload_n 0, 1) := by decide +kernel
theorem dX4_carryOut_90 : decode cX4_carryOut 90 = .ok (.iload_n 2, 1) := by decide +kernel
theorem dX4_carryOut_91 : decode cX4_carryOut 91 = .ok (.invokevirtual 218, 3) := by decide +kernel
theorem dX4_carryOut_94 : decode cX4_carryOut 94 = .ok (.goto 3, 3) := by decide +kernel
theorem dX4_carryOut_97 : decode cX4_carryOut 97 = .ok (.return_, 1) := by decide +kernel
theorem hy_X4_carryOut : yX4_carryOut.cls ≠ "java/lang/invoke/MethodHandle" ∧ yX4_carryOut.cls ≠ "java/lang/invoke/VarHandle" ∧ (parseMethodDescriptor yX4_carryOut.desc).map (fun d => d.parameters.length) = some 2 := ⟨by decide +kernel, by decide +kernel, by decide +kernel⟩
set_option maxHeartbeats 4000000 in
set_option maxRecDepth 100000 in
theorem c_X4_carryOut (l0 : Launch) (D0 : va_G) (cI0 cJ0 : ClassId) (ad : Nat → Nat → Nat) (S : zM) (r : Nat) (hr : r < 5) (kd : Int) (v : Int) (hI : Inv0 (S r)) (h0 : okKind kd v) : Ct l0 D0 cI0 cJ0 ad yX4_carryOut cX4_carryOut 3 none 3 66 [.ref (ad r 0), .int (i32 kd), .int (i32 v)] S none (fun X => X = (us S r (sp_does (S r) kd v))) := by
  refine Ct.of (by decide) (Nat.le_of_ble_eq_true rfl) (fun E hE hR => ?_)
  have hE : zG E l0 D0 cI0 cJ0 ad cX4_carryOut 3 RX4 3 66 := hE
  show Z E S 0 [(0, .ref (ad r 0)), (1, .int (i32 kd)), (2, .int (i32 v))] []
  have hA := inA hI
  unfold InvA at hA
  have hk := h0
  unfold okKind at hk
  have ht := inTr hI
  refine z_iload_n hE 1 rfl rfl dX4_carryOut_0 ?_
  by_cases k1_0 : kd = 0
  · refine z_tIn (tgt := 36) hE 0 dX4_carryOut_1 ⟨by omega, by omega⟩ k1_0 (by decide) (by decide) rfl (by decide) ?_
    refine z_aload_n hE 0 rfl rfl dX4_carryOut_36 ?_
    refine gf_4_1 hE (ks_m hr (by decide)) zf_X4_21 dX4_carryOut_37 ?_
    refine z_iload_n hE 2 rfl rfl dX4_carryOut_40 ?_
    refine pf_5_2 hE (ks_m hr (by decide)) zf_X4_215 dX4_carryOut_41 ?_
    refine z_goto (tgt := 97) hE (d := dX4_carryOut_44) (ht := by decide) ?_
    exact z_vret hE hR dX4_carryOut_97 rfl (by unfold sp_does; first | (rw [if_pos (by omega)]; done) | (rw [if_neg (by omega), if_pos (by omega)]; done) | (rw [if_neg (by omega), if_neg (by omega), if_pos (by omega)]; done) | (rw [if_neg (by omega), if_neg (by omega), if_neg (by omega), if_pos (by omega), uq_sub]; done) | (rw [if_neg (by omega), if_neg (by omega), if_neg (by omega), if_neg (by omega)]; done) | (exfalso; omega))
  by_cases k1_1 : kd = 1
  · refine z_tIn (tgt := 47) hE 1 dX4_carryOut_1 ⟨by omega, by omega⟩ k1_1 (by decide) (by decide) rfl (by decide) ?_
    refine z_aload_n hE 0 rfl rfl dX4_carryOut_47 ?_
    refine gf_4_1 hE (ks_m hr (by decide)) zf_X4_21 dX4_carryOut_48 ?_
    refine z_iload_n hE 2 rfl rfl dX4_carryOut_51 ?_
    refine pf_5_3 hE (ks_m hr (by decide)) zf_X4_102 dX4_carryOut_52 ?_
    refine z_goto (tgt := 97) hE (d := dX4_carryOut_55) (ht := by decide) ?_
    exact z_vret hE hR dX4_carryOut_97 rfl (by unfold sp_does; first | (rw [if_pos (by omega)]; done) | (rw [if_neg (by omega), if_pos (by omega)]; done) | (rw [if_neg (by omega), if_neg (by omega), if_pos (by omega)]; done) | (rw [if_neg (by omega), if_neg (by omega), if_neg (by omega), if_pos (by omega), uq_sub]; done) | (rw [if_neg (by omega), if_neg (by omega), if_neg (by omega), if_neg (by omega)]; done) | (exfalso; omega))
  by_cases k1_2 : kd = 2
  · refine z_tIn (tgt := 58) hE 2 dX4_carryOut_1 ⟨by omega, by omega⟩ k1_2 (by decide) (by decide) rfl (by decide) ?_
    refine z_aload_n hE 0 rfl rfl dX4_carryOut_58 ?_
    refine gf_4_1 hE (ks_m hr (by decide)) zf_X4_21 dX4_carryOut_59 ?_
    refine z_iload_n hE 2 rfl rfl dX4_carryOut_62 ?_
    refine pf_5_4 hE (ks_m hr (by decide)) zf_X4_143 dX4_carryOut_63 ?_
    refine z_goto (tgt := 97) hE (d := dX4_carryOut_66) (ht := by decide) ?_
    exact z_vret hE hR dX4_carryOut_97 rfl (by unfold sp_does; first | (rw [if_pos (by omega)]; done) | (rw [if_neg (by omega), if_pos (by omega)]; done) | (rw [if_neg (by omega), if_neg (by omega), if_pos (by omega)]; done) | (rw [if_neg (by omega), if_neg (by omega), if_neg (by omega), if_pos (by omega), uq_sub]; done) | (rw [if_neg (by omega), if_neg (by omega), if_neg (by omega), if_neg (by omega)]; done) | (exfalso; omega))
  by_cases k1_3 : kd = 3
  · refine z_tIn (tgt := 69) hE 3 dX4_carryOut_1 ⟨by omega, by omega⟩ k1_3 (by decide) (by decide) rfl (by decide) ?_
    refine z_aload_n hE 0 rfl rfl dX4_carryOut_69 ?_
    refine z_dup hE rfl dX4_carryOut_70 ?_
    refine gf_4_5 hE (ks_m hr (by decide)) zf_X4_46 dX4_carryOut_71 ?_
    refine z_iload_n hE 2 rfl rfl dX4_carryOut_74 ?_
    refine z_aload_n hE 0 rfl rfl dX4_carryOut_75 ?_
    refine gf_4_5 hE (ks_m hr (by decide)) zf_X4_46 dX4_carryOut_76 ?_
    refine z_min hE zm_X4_161 (by decide) (Nat.le_of_ble_eq_true rfl) ⟨by omega, by omega⟩ ⟨by omega, by omega⟩ dX4_carryOut_79 ?_
    refine z_isub hE dX4_carryOut_82 ?_
    refine pf_4_5 hE (ks_m hr (by decide)) zf_X4_46 dX4_carryOut_83 ?_
    refine z_goto (tgt := 97) hE (d := dX4_carryOut_86) (ht := by decide) ?_
    exact z_vret hE hR dX4_carryOut_97 rfl (by unfold sp_does; first | (rw [if_pos (by omega)]; done) | (rw [if_neg (by omega), if_pos (by omega)]; done) | (rw [if_neg (by omega), if_neg (by omega), if_pos (by omega)]; done) | (rw [if_neg (by omega), if_neg (by omega), if_neg (by omega), if_pos (by omega), uq_sub]; done) | (rw [if_neg (by omega), if_neg (by omega), if_neg (by omega), if_neg (by omega)]; done) | (exfalso; omega))
  by_cases k1_4 : kd = 4
  · refine z_tIn (tgt := 89) hE 4 dX4_carryOut_1 ⟨by omega, by omega⟩ k1_4 (by decide) (by decide) rfl (by decide) ?_
    refine z_aload_n hE 0 rfl rfl dX4_carryOut_89 ?_
    refine z_iload_n hE 2 rfl rfl dX4_carryOut_90 ?_
    refine z_callV hE (c_X4_payDividend l0 D0 cI0 cJ0 ad S r hr v hI (by omega)) (ks_m hr (by decide)) rfl rfl zm_X4_218 zi_yX4_payDividend zs_yX4_payDividend zn_RX4 zc_yX4_payDividend (hy_X4_payDividend) (Nat.le_of_ble_eq_true rfl) (Nat.le_of_ble_eq_true rfl) rfl rfl rfl (Nat.le_of_ble_eq_true rfl) dX4_carryOut_91 ?_
    refine z_goto (tgt := 97) hE (d := dX4_carryOut_94) (ht := by decide) ?_
    exact z_vret hE hR dX4_carryOut_97 rfl (by unfold sp_does; first | (rw [if_pos (by omega)]; done) | (rw [if_neg (by omega), if_pos (by omega)]; done) | (rw [if_neg (by omega), if_neg (by omega), if_pos (by omega)]; done) | (rw [if_neg (by omega), if_neg (by omega), if_neg (by omega), if_pos (by omega), uq_sub]; done) | (rw [if_neg (by omega), if_neg (by omega), if_neg (by omega), if_neg (by omega)]; done) | (exfalso; omega))
  refine z_tOut (tgt := 97) hE dX4_carryOut_1 ⟨by omega, by omega⟩ (by omega) (by decide) ?_
  exact z_vret hE hR dX4_carryOut_97 rfl (by unfold sp_does; first | (rw [if_pos (by omega)]; done) | (rw [if_neg (by omega), if_pos (by omega)]; done) | (rw [if_neg (by omega), if_neg (by omega), if_pos (by omega)]; done) | (rw [if_neg (by omega), if_neg (by omega), if_neg (by omega), if_pos (by omega), uq_sub]; done) | (rw [if_neg (by omega), if_neg (by omega), if_neg (by omega), if_neg (by omega)]; done) | (exfalso; omega))
