theorem zbo_cg {P Q : Prop} [Decidable P] [Decidable Q] (h : P ↔ Q) : zbo P = zbo Q := by
  unfold zbo
  by_cases a : P
  · rw [if_pos a, if_pos (h.mp a)]
  · rw [if_neg a, if_neg (fun q => a (h.mpr q))]
theorem ediv_b {a b M : Int} (h : 1 ≤ b) (h1 : -M ≤ a) (h2 : a ≤ M) : -M ≤ a / b ∧ a / b ≤ M := by
  have e := Int.mul_ediv_add_emod a b
  have e1 := Int.emod_nonneg a (show b ≠ 0 by omega)
  have e2 := Int.emod_lt_of_pos a (show 0 < b by omega)
  constructor
  · rcases Int.lt_or_le (a / b) (-M) with q | q
    · exfalso
      have h3 : b * (a / b) ≤ 1 * (a / b) + 0 := by
        have h4 := Int.mul_le_mul_of_nonneg_left (show a / b ≤ 0 by omega) (show 0 ≤ b - 1 by omega)
        rw [Int.sub_mul] at h4; omega
      have h5 : b * (a / b) ≤ b * (-M - 1) := Int.mul_le_mul_of_nonneg_left (by omega) (by omega)
      have h6 : b * (-M - 1) = -(b * M) - b := by rw [Int.mul_sub, Int.mul_neg, Int.mul_one]
      have h7 : M ≤ b * M := by
        have h8 := Int.mul_le_mul_of_nonneg_right h (show 0 ≤ M by omega)
        omega
      omega
    · exact q
  · rcases Int.lt_or_le M (a / b) with q | q
    · exfalso
      have h3 : 1 * (a / b) ≤ b * (a / b) := Int.mul_le_mul_of_nonneg_right h (by omega)
      omega
    · exact q
theorem dX0_valueOfOne_0 : decode cX0_valueOfOne 0 = .ok (.aload_n 0, 1) := by decide +kernel
theorem dX0_valueOfOne_1 : decode cX0_valueOfOne 1 = .ok (.getfield 9, 3) := by decide +kernel
theorem dX0_valueOfOne_4 : decode cX0_valueOfOne 4 = .ok (.aload_n 0, 1) := by decide +kernel
theorem dX0_valueOfOne_5 : decode cX0_valueOfOne 5 = .ok (.getfield 15, 3) := by decide +kernel
theorem dX0_valueOfOne_8 : decode cX0_valueOfOne 8 = .ok (.isub, 1) := by decide +kernel
theorem dX0_valueOfOne_9 : decode cX0_valueOfOne 9 = .ok (.iload_n 1, 1) := by decide +kernel
theorem dX0_valueOfOne_10 : decode cX0_valueOfOne 10 = .ok (.invokestatic 34, 3) := by decide +kernel
theorem dX0_valueOfOne_13 : decode cX0_valueOfOne 13 = .ok (.istore_n 2, 1) := by decide +kernel
theorem dX0_valueOfOne_14 : decode cX0_valueOfOne 14 = .ok (.bipush 10, 2) := by decide +kernel
theorem dX0_valueOfOne_16 : decode cX0_valueOfOne 16 = .ok (.aload_n 0, 1) := by decide +kernel
theorem dX0_valueOfOne_17 : decode cX0_valueOfOne 17 = .ok (.invokevirtual 38, 3) := by decide +kernel
theorem dX0_valueOfOne_20 : decode cX0_valueOfOne 20 = .ok (.imul, 1) := by decide +kernel
theorem dX0_valueOfOne_21 : decode cX0_valueOfOne 21 = .ok (.iload_n 1, 1) := by decide +kernel
theorem dX0_valueOfOne_22 : decode cX0_valueOfOne 22 = .ok (.invokestatic 34, 3) := by decide +kernel
theorem dX0_valueOfOne_25 : decode cX0_valueOfOne 25 = .ok (.istore_n 3, 1) := by decide +kernel
theorem dX0_valueOfOne_26 : decode cX0_valueOfOne 26 = .ok (.iconst 3, 1) := by decide +kernel
theorem dX0_valueOfOne_27 : decode cX0_valueOfOne 27 = .ok (.iload_n 2, 1) := by decide +kernel
theorem dX0_valueOfOne_28 : decode cX0_valueOfOne 28 = .ok (.imul, 1) := by decide +kernel
theorem dX0_valueOfOne_29 : decode cX0_valueOfOne 29 = .ok (.iconst 2, 1) := by decide +kernel
theorem dX0_valueOfOne_30 : decode cX0_valueOfOne 30 = .ok (.iload_n 3, 1) := by decide +kernel
theorem dX0_valueOfOne_31 : decode cX0_valueOfOne 31 = .ok (.imul, 1) := by decide +kernel
theorem dX0_valueOfOne_32 : decode cX0_valueOfOne 32 = .ok (.iadd, 1) := by decide +kernel
theorem dX0_valueOfOne_33 : decode cX0_valueOfOne 33 = .ok (.iconst 5, 1) := by decide +kernel
theorem dX0_valueOfOne_34 : decode cX0_valueOfOne 34 = .ok (.invokestatic 34, 3) := by decide +kernel
theorem dX0_valueOfOne_37 : decode cX0_valueOfOne 37 = .ok (.ireturn, 1) := by decide +kernel
theorem hy_X0_valueOfOne : yX0_valueOfOne.cls ≠ "java/lang/invoke/MethodHandle" ∧ yX0_valueOfOne.cls ≠ "java/lang/invoke/VarHandle" ∧ (parseMethodDescriptor yX0_valueOfOne.desc).map (fun d => d.parameters.length) = some 1 := ⟨by decide +kernel, by decide +kernel, by decide +kernel⟩
set_option maxHeartbeats 4000000 in
set_option maxRecDepth 100000 in
theorem c_X0_valueOfOne (l0 : Launch) (D0 : va_G) (cI0 cJ0 : ClassId) (ad : Nat → Nat → Nat) (S : zM) (r : Nat) (hr : r < 5) (all : Int) (h0 : 1 ≤ all ∧ all ≤ 10000) (hI : Inv0 (S r)) : Ct l0 D0 cI0 cJ0 ad yX0_valueOfOne cX0_valueOfOne 4 (some .int) 3 65 [.ref (ad r 6), .int (i32 all)] S (some (.int (i32 (sp_val (S r) all)))) (fun X => X = S) := by
  refine Ct.of (by decide) (Nat.le_of_ble_eq_true rfl) (fun E hE hR => ?_)
  have hE : zG E l0 D0 cI0 cJ0 ad cX0_valueOfOne 4 RX0 3 65 := hE
  show Z E S 0 [(0, .ref (ad r 6)), (1, .int (i32 all))] []
  have hA := inA hI
  unfold InvA at hA
  have hm := mean_b hI
  refine z_aload_n hE 0 rfl rfl dX0_valueOfOne_0 ?_
  refine gf_0_0 hE (ks_m hr (by decide)) zf_X0_9 dX0_valueOfOne_1 ?_
  refine z_aload_n hE 0 rfl rfl dX0_valueOfOne_4 ?_
  refine gf_0_1 hE (ks_m hr (by decide)) zf_X0_15 dX0_valueOfOne_5 ?_
  refine z_isub hE dX0_valueOfOne_8 ?_
  refine z_iload_n hE 1 rfl rfl dX0_valueOfOne_9 ?_
  refine z_callN hE (c_X7_quotient l0 D0 cI0 cJ0 ad S ((S r 7) - (S r 8)) all (⟨by omega, by omega⟩) (⟨by omega, by omega⟩) (by omega)) (List.mem_of_getElem? (i := 8) rfl) zt_yX7_quotient zn_RX7 zc_yX7_quotient (hy_X7_quotient) (Nat.le_of_ble_eq_true rfl) (Nat.le_of_ble_eq_true rfl) rfl rfl rfl (Nat.le_of_ble_eq_true rfl) dX0_valueOfOne_10 ?_
  refine z_istore_n hE rfl (by decide) rfl dX0_valueOfOne_13 ?_
  refine z_bipush (a := 10) hE (by decide) dX0_valueOfOne_14 ?_
  refine z_aload_n hE 1 rfl rfl dX0_valueOfOne_16 ?_
  refine z_callV hE (c_X0_meanSurplus l0 D0 cI0 cJ0 ad S r hr (by omega) (inS hI)) (ks_m hr (by decide)) rfl rfl zm_X0_38 zi_yX0_meanSurplus zs_yX0_meanSurplus zn_RX0 zc_yX0_meanSurplus (hy_X0_meanSurplus) (Nat.le_of_ble_eq_true rfl) (Nat.le_of_ble_eq_true rfl) rfl rfl rfl (Nat.le_of_ble_eq_true rfl) dX0_valueOfOne_17 ?_
  refine z_imul hE dX0_valueOfOne_20 ?_
  refine z_iload_n hE 2 rfl rfl dX0_valueOfOne_21 ?_
  refine z_callN hE (c_X7_quotient l0 D0 cI0 cJ0 ad S (10 * (sp_mean ((S r)))) all (⟨by omega, by omega⟩) (⟨by omega, by omega⟩) (by omega)) (List.mem_of_getElem? (i := 8) rfl) zt_yX7_quotient zn_RX7 zc_yX7_quotient (hy_X7_quotient) (Nat.le_of_ble_eq_true rfl) (Nat.le_of_ble_eq_true rfl) rfl rfl rfl (Nat.le_of_ble_eq_true rfl) dX0_valueOfOne_22 ?_
  have e1 : -100000000 ≤ (S r 7 - S r 8) / all ∧ (S r 7 - S r 8) / all ≤ 100000000 := ediv_b (by omega) (by omega) (by omega)
  have e2 : -10000000 ≤ 10 * sp_mean (S r) / all ∧ 10 * sp_mean (S r) / all ≤ 10000000 := ediv_b (by omega) (by omega) (by omega)
  refine z_istore_n hE rfl (by decide) rfl dX0_valueOfOne_25 ?_
  refine z_iconst hE dX0_valueOfOne_26 ?_
  refine z_iload_n hE 1 rfl rfl dX0_valueOfOne_27 ?_
  refine z_imul hE dX0_valueOfOne_28 ?_
  refine z_iconst hE dX0_valueOfOne_29 ?_
  refine z_iload_n hE 0 rfl rfl dX0_valueOfOne_30 ?_
  refine z_imul hE dX0_valueOfOne_31 ?_
  refine z_iadd hE dX0_valueOfOne_32 ?_
  refine z_iconst hE dX0_valueOfOne_33 ?_
  refine z_callN hE (c_X7_quotient l0 D0 cI0 cJ0 ad S ((3 * (((S r 7) - (S r 8)) / all)) + (2 * ((10 * (sp_mean ((S r)))) / all))) 5 (⟨by omega, by omega⟩) (⟨by omega, by omega⟩) (by omega)) (List.mem_of_getElem? (i := 8) rfl) zt_yX7_quotient zn_RX7 zc_yX7_quotient (hy_X7_quotient) (Nat.le_of_ble_eq_true rfl) (Nat.le_of_ble_eq_true rfl) rfl rfl rfl (Nat.le_of_ble_eq_true rfl) dX0_valueOfOne_34 ?_

  exact z_iret hE hR dX0_valueOfOne_37 (congrArg (fun x => some (Value.int (i32 x))) (by first | rfl | omega)) (by first | rfl | (simp only [us_id]))
theorem dX1_copyFrom_0 : decode cX1_copyFrom 0 = .ok (.aload_n 0, 1) := by decide +kernel
theorem dX1_copyFrom_1 : decode cX1_copyFrom 1 = .ok (.aload_n 1, 1) := by decide +kernel
theorem dX1_copyFrom_2 : decode cX1_copyFrom 2 = .ok (.getfield 9, 3) := by decide +kernel
theorem dX1_copyFrom_5 : decode cX1_copyFrom 5 = .ok (.putfield 9, 3) := by decide +kernel
theorem dX1_copyFrom_8 : decode cX1_copyFrom 8 = .ok (.aload_n 1, 1) := by decide +kernel
theorem dX1_copyFrom_9 : decode cX1_copyFrom 9 = .ok (.getfield 15, 3) := by decide +kernel
theorem dX1_copyFrom_12 : decode cX1_copyFrom 12 = .ok (.iconst 0, 1) := by decide +kernel
theorem dX1_copyFrom_13 : decode cX1_copyFrom 13 = .ok (.aload_n 0, 1) := by decide +kernel
theorem dX1_copyFrom_14 : decode cX1_copyFrom 14 = .ok (.getfield 15, 3) := by decide +kernel
theorem dX1_copyFrom_17 : decode cX1_copyFrom 17 = .ok (.iconst 0, 1) := by decide +kernel
theorem dX1_copyFrom_18 : decode cX1_copyFrom 18 = .ok (.bipush 12, 2) := by decide +kernel
theorem dX1_copyFrom_20 : decode cX1_copyFrom 20 = .ok (.invokestatic 26, 3) := by decide +kernel
theorem dX1_copyFrom_23 : decode cX1_copyFrom 23 = .ok (.aload_n 1, 1) := by decide +kernel
theorem dX1_copyFrom_24 : decode cX1_copyFrom 24 = .ok (.getfield 19, 3) := by decide +kernel
theorem dX1_copyFrom_27 : decode cX1_copyFrom 27 = .ok (.iconst 0, 1) := by decide +kernel
theorem dX1_copyFrom_28 : decode cX1_copyFrom 28 = .ok (.aload_n 0, 1) := by decide +kernel
theorem dX1_copyFrom_29 : decode cX1_copyFrom 29 = .ok (.getfield 19, 3) := by decide +kernel
theorem dX1_copyFrom_32 : decode cX1_copyFrom 32 = .ok (.iconst 0, 1) := by decide +kernel
theorem dX1_copyFrom_33 : decode cX1_copyFrom 33 = .ok (.bipush 12, 2) := by decide +kernel
theorem dX1_copyFrom_35 : decode cX1_copyFrom 35 = .ok (.invokestatic 26, 3) := by decide +kernel
theorem dX1_copyFrom_38 : decode cX1_copyFrom 38 = .ok (.aload_n 1, 1) := by decide +kernel
theorem dX1_copyFrom_39 : decode cX1_copyFrom 39 = .ok (.getfield 22, 3) := by decide +kernel
theorem dX1_copyFrom_42 : decode cX1_copyFrom 42 = .ok (.iconst 0, 1) := by decide +kernel
theorem dX1_copyFrom_43 : decode cX1_copyFrom 43 = .ok (.aload_n 0, 1) := by decide +kernel
theorem dX1_copyFrom_44 : decode cX1_copyFrom 44 = .ok (.getfield 22, 3) := by decide +kernel
theorem dX1_copyFrom_47 : decode cX1_copyFrom 47 = .ok (.iconst 0, 1) := by decide +kernel
theorem dX1_copyFrom_48 : decode cX1_copyFrom 48 = .ok (.bipush 12, 2) := by decide +kernel
theorem dX1_copyFrom_50 : decode cX1_copyFrom 50 = .ok (.invokestatic 26, 3) := by decide +kernel
theorem dX1_copyFrom_53 : decode cX1_copyFrom 53 = .ok (.return_, 1) := by decide +kernel
theorem hy_X1_copyFrom : yX1_copyFrom.cls ≠ "java/lang/invoke/MethodHandle" ∧ yX1_copyFrom.cls ≠ "java/lang/invoke/VarHandle" ∧ (parseMethodDescriptor yX1_copyFrom.desc).map (fun d => d.parameters.length) = some 1 := ⟨by decide +kernel, by decide +kernel, by decide +kernel⟩
set_option maxHeartbeats 4000000 in
set_option maxRecDepth 100000 in
theorem c_X1_copyFrom (l0 : Launch) (D0 : va_G) (cI0 cJ0 : ClassId) (ad : Nat → Nat → Nat) (S : zM) (r : Nat) (hr : r < 5) (r2 : Nat) (hr2 : r2 < 5) (hne : r2 ≠ r) : Ct l0 D0 cI0 cJ0 ad yX1_copyFrom cX1_copyFrom 2 none 1 26 [.ref (ad r 1), .ref (ad r2 1)] S none (fun X => X = (us S r (cpg 1 4 (S r) (S r2)))) := by
  refine Ct.of (by decide) (Nat.le_of_ble_eq_true rfl) (fun E hE hR => ?_)
  have hE : zG E l0 D0 cI0 cJ0 ad cX1_copyFrom 2 RX1 1 26 := hE
  show Z E S 0 [(0, .ref (ad r 1)), (1, .ref (ad r2 1))] []
  refine z_aload_n hE 0 rfl rfl dX1_copyFrom_0 ?_
  refine z_aload_n hE 1 rfl rfl dX1_copyFrom_1 ?_
  refine gf_1_0 hE (ks_m hr2 (by decide)) zf_X1_9 dX1_copyFrom_2 ?_
  refine pf_1_0 hE (ks_m hr (by decide)) zf_X1_9 dX1_copyFrom_5 ?_
  refine z_aload_n hE 1 rfl rfl dX1_copyFrom_8 ?_
  refine gf_1_1 hE (ks_m hr2 (by decide)) zf_X1_15 dX1_copyFrom_9 ?_
  refine z_iconst hE dX1_copyFrom_12 ?_
  refine z_aload_n hE 0 rfl rfl dX1_copyFrom_13 ?_
  refine gf_1_1 hE (ks_m hr (by decide)) zf_X1_15 dX1_copyFrom_14 ?_
  refine z_iconst hE dX1_copyFrom_17 ?_
  refine z_bipush (a := 12) hE (by decide) dX1_copyFrom_18 ?_
  refine ac_2 hE (ks_m hr2 (by decide)) (ks_m hr (by decide)) zm_X1_26 (by decide) (Nat.le_of_ble_eq_true rfl) dX1_copyFrom_20 ?_
  try simp only [us_eq, us_us, us_ne hne]
  refine z_aload_n hE 1 rfl rfl dX1_copyFrom_23 ?_
  refine gf_1_2 hE (ks_m hr2 (by decide)) zf_X1_19 dX1_copyFrom_24 ?_
  refine z_iconst hE dX1_copyFrom_27 ?_
  refine z_aload_n hE 0 rfl rfl dX1_copyFrom_28 ?_
  refine gf_1_2 hE (ks_m hr (by decide)) zf_X1_19 dX1_copyFrom_29 ?_
  refine z_iconst hE dX1_copyFrom_32 ?_
  refine z_bipush (a := 12) hE (by decide) dX1_copyFrom_33 ?_
  refine ac_3 hE (ks_m hr2 (by decide)) (ks_m hr (by decide)) zm_X1_26 (by decide) (Nat.le_of_ble_eq_true rfl) dX1_copyFrom_35 ?_
  try simp only [us_eq, us_us, us_ne hne]
  refine z_aload_n hE 1 rfl rfl dX1_copyFrom_38 ?_
  refine gf_1_3 hE (ks_m hr2 (by decide)) zf_X1_22 dX1_copyFrom_39 ?_
  refine z_iconst hE dX1_copyFrom_42 ?_
  refine z_aload_n hE 0 rfl rfl dX1_copyFrom_43 ?_
  refine gf_1_3 hE (ks_m hr (by decide)) zf_X1_22 dX1_copyFrom_44 ?_
  refine z_iconst hE dX1_copyFrom_47 ?_
  refine z_bipush (a := 12) hE (by decide) dX1_copyFrom_48 ?_
  refine ac_4 hE (ks_m hr2 (by decide)) (ks_m hr (by decide)) zm_X1_26 (by decide) (Nat.le_of_ble_eq_true rfl) dX1_copyFrom_50 ?_
  try simp only [us_eq, us_us, us_ne hne]
  refine z_memA hE hr (g := cpg 1 4 (S r) (S r2)) (fun q hq => ?_) ?_
  · have hk : kyA q = 1 → q = 0 := kyA_i1
    by_cases e0 : q = 0
    · subst e0; simp [cpg, up, kyA]
    unfold cpg up; simp only [e0, if_false]; (repeat' split) <;> first | rfl | omega
  exact z_vret hE hR dX1_copyFrom_53 rfl (by rfl)
theorem dX5_copyFrom_0 : decode cX5_copyFrom 0 = .ok (.aload_n 0, 1) := by decide +kernel
theorem dX5_copyFrom_1 : decode cX5_copyFrom 1 = .ok (.aload_n 1, 1) := by decide +kernel
theorem dX5_copyFrom_2 : decode cX5_copyFrom 2 = .ok (.getfield 9, 3) := by decide +kernel
theorem dX5_copyFrom_5 : decode cX5_copyFrom 5 = .ok (.putfield 9, 3) := by decide +kernel
theorem dX5_copyFrom_8 : decode cX5_copyFrom 8 = .ok (.aload_n 0, 1) := by decide +kernel
theorem dX5_copyFrom_9 : decode cX5_copyFrom 9 = .ok (.aload_n 1, 1) := by decide +kernel
theorem dX5_copyFrom_10 : decode cX5_copyFrom 10 = .ok (.getfield 15, 3) := by decide +kernel
theorem dX5_copyFrom_13 : decode cX5_copyFrom 13 = .ok (.putfield 15, 3) := by decide +kernel
theorem dX5_copyFrom_16 : decode cX5_copyFrom 16 = .ok (.aload_n 0, 1) := by decide +kernel
theorem dX5_copyFrom_17 : decode cX5_copyFrom 17 = .ok (.aload_n 1, 1) := by decide +kernel
theorem dX5_copyFrom_18 : decode cX5_copyFrom 18 = .ok (.getfield 18, 3) := by decide +kernel
theorem dX5_copyFrom_21 : decode cX5_copyFrom 21 = .ok (.putfield 18, 3) := by decide +kernel
theorem dX5_copyFrom_24 : decode cX5_copyFrom 24 = .ok (.aload_n 0, 1) := by decide +kernel
theorem dX5_copyFrom_25 : decode cX5_copyFrom 25 = .ok (.aload_n 1, 1) := by decide +kernel
theorem dX5_copyFrom_26 : decode cX5_copyFrom 26 = .ok (.getfield 21, 3) := by decide +kernel
theorem dX5_copyFrom_29 : decode cX5_copyFrom 29 = .ok (.putfield 21, 3) := by decide +kernel
theorem dX5_copyFrom_32 : decode cX5_copyFrom 32 = .ok (.aload_n 0, 1) := by decide +kernel
theorem dX5_copyFrom_33 : decode cX5_copyFrom 33 = .ok (.aload_n 1, 1) := by decide +kernel
theorem dX5_copyFrom_34 : decode cX5_copyFrom 34 = .ok (.getfield 24, 3) := by decide +kernel
theorem dX5_copyFrom_37 : decode cX5_copyFrom 37 = .ok (.putfield 24, 3) := by decide +kernel
theorem dX5_copyFrom_40 : decode cX5_copyFrom 40 = .ok (.aload_n 0, 1) := by decide +kernel
theorem dX5_copyFrom_41 : decode cX5_copyFrom 41 = .ok (.aload_n 1, 1) := by decide +kernel
theorem dX5_copyFrom_42 : decode cX5_copyFrom 42 = .ok (.getfield 27, 3) := by decide +kernel
theorem dX5_copyFrom_45 : decode cX5_copyFrom 45 = .ok (.putfield 27, 3) := by decide +kernel
theorem dX5_copyFrom_48 : decode cX5_copyFrom 48 = .ok (.aload_n 0, 1) := by decide +kernel
theorem dX5_copyFrom_49 : decode cX5_copyFrom 49 = .ok (.aload_n 1, 1) := by decide +kernel
theorem dX5_copyFrom_50 : decode cX5_copyFrom 50 = .ok (.getfield 30, 3) := by decide +kernel
theorem dX5_copyFrom_53 : decode cX5_copyFrom 53 = .ok (.putfield 30, 3) := by decide +kernel
theorem dX5_copyFrom_56 : decode cX5_copyFrom 56 = .ok (.return_, 1) := by decide +kernel
theorem hy_X5_copyFrom : yX5_copyFrom.cls ≠ "java/lang/invoke/MethodHandle" ∧ yX5_copyFrom.cls ≠ "java/lang/invoke/VarHandle" ∧ (parseMethodDescriptor yX5_copyFrom.desc).map (fun d => d.parameters.length) = some 1 := ⟨by decide +kernel, by decide +kernel, by decide +kernel⟩
set_option maxHeartbeats 4000000 in
set_option maxRecDepth 100000 in
theorem c_X5_copyFrom (l0 : Launch) (D0 : va_G) (cI0 cJ0 : ClassId) (ad : Nat → Nat → Nat) (S : zM) (r : Nat) (hr : r < 5) (r2 : Nat) (hr2 : r2 < 5) (hne : r2 ≠ r) : Ct l0 D0 cI0 cJ0 ad yX5_copyFrom cX5_copyFrom 2 none 0 0 [.ref (ad r 5), .ref (ad r2 5)] S none (fun X => X = (us S r (cpg 5 5 (S r) (S r2)))) := by
  refine Ct.of (by decide) (Nat.le_of_ble_eq_true rfl) (fun E hE hR => ?_)
  have hE : zG E l0 D0 cI0 cJ0 ad cX5_copyFrom 2 RX5 0 0 := hE
  show Z E S 0 [(0, .ref (ad r 5)), (1, .ref (ad r2 5))] []
  refine z_aload_n hE 0 rfl rfl dX5_copyFrom_0 ?_
  refine z_aload_n hE 1 rfl rfl dX5_copyFrom_1 ?_
  refine gf_5_0 hE (ks_m hr2 (by decide)) zf_X5_9 dX5_copyFrom_2 ?_
  refine pf_5_0 hE (ks_m hr (by decide)) zf_X5_9 dX5_copyFrom_5 ?_
  refine z_aload_n hE 0 rfl rfl dX5_copyFrom_8 ?_
  refine z_aload_n hE 1 rfl rfl dX5_copyFrom_9 ?_
  refine gf_5_1 hE (ks_m hr2 (by decide)) zf_X5_15 dX5_copyFrom_10 ?_
  try simp only [us_eq, us_us, us_ne hne]
  refine pf_5_1 hE (ks_m hr (by decide)) zf_X5_15 dX5_copyFrom_13 ?_
  try simp only [us_eq, us_us, us_ne hne]
  refine z_aload_n hE 0 rfl rfl dX5_copyFrom_16 ?_
  refine z_aload_n hE 1 rfl rfl dX5_copyFrom_17 ?_
  refine gf_5_2 hE (ks_m hr2 (by decide)) zf_X5_18 dX5_copyFrom_18 ?_
  try simp only [us_eq, us_us, us_ne hne]
  refine pf_5_2 hE (ks_m hr (by decide)) zf_X5_18 dX5_copyFrom_21 ?_
  try simp only [us_eq, us_us, us_ne hne]
  refine z_aload_n hE 0 rfl rfl dX5_copyFrom_24 ?_
  refine z_aload_n hE 1 rfl rfl dX5_copyFrom_25 ?_
  refine gf_5_3 hE (ks_m hr2 (by decide)) zf_X5_21 dX5_copyFrom_26 ?_
  try simp only [us_eq, us_us, us_ne hne]
  refine pf_5_3 hE (ks_m hr (by decide)) zf_X5_21 dX5_copyFrom_29 ?_
  try simp only [us_eq, us_us, us_ne hne]
  refine z_aload_n hE 0 rfl rfl dX5_copyFrom_32 ?_
  refine z_aload_n hE 1 rfl rfl dX5_copyFrom_33 ?_
  refine gf_5_4 hE (ks_m hr2 (by decide)) zf_X5_24 dX5_copyFrom_34 ?_
  try simp only [us_eq, us_us, us_ne hne]
  refine pf_5_4 hE (ks_m hr (by decide)) zf_X5_24 dX5_copyFrom_37 ?_
  try simp only [us_eq, us_us, us_ne hne]
  refine z_aload_n hE 0 rfl rfl dX5_copyFrom_40 ?_
  refine z_aload_n hE 1 rfl rfl dX5_copyFrom_41 ?_
  refine gf_5_5 hE (ks_m hr2 (by decide)) zf_X5_27 dX5_copyFrom_42 ?_
  try simp only [us_eq, us_us, us_ne hne]
  refine pf_5_5 hE (ks_m hr (by decide)) zf_X5_27 dX5_copyFrom_45 ?_
  try simp only [us_eq, us_us, us_ne hne]
  refine z_aload_n hE 0 rfl rfl dX5_copyFrom_48 ?_
  refine z_aload_n hE 1 rfl rfl dX5_copyFrom_49 ?_
  refine gf_5_6 hE (ks_m hr2 (by decide)) zf_X5_30 dX5_copyFrom_50 ?_
  try simp only [us_eq, us_us, us_ne hne]
  refine pf_5_6 hE (ks_m hr (by decide)) zf_X5_30 dX5_copyFrom_53 ?_
  try simp only [us_eq, us_us, us_ne hne]
  refine z_memA hE hr (g := cpg 5 5 (S r) (S r2)) (fun q hq => ?_) ?_
  · have hk : kyA q = 5 → q = 1 ∨ q = 3 ∨ q = 4 ∨ q = 5 ∨ q = 13 ∨ q = 16 ∨ q = 17 := kyA_i5
    by_cases e1 : q = 1
    · subst e1; simp [cpg, up, kyA]
    by_cases e3 : q = 3
    · subst e3; simp [cpg, up, kyA]
    by_cases e4 : q = 4
    · subst e4; simp [cpg, up, kyA]
    by_cases e5 : q = 5
    · subst e5; simp [cpg, up, kyA]
    by_cases e13 : q = 13
    · subst e13; simp [cpg, up, kyA]
    by_cases e16 : q = 16
    · subst e16; simp [cpg, up, kyA]
    by_cases e17 : q = 17
    · subst e17; simp [cpg, up, kyA]
    unfold cpg up; simp only [e1, e3, e4, e5, e13, e16, e17, if_false]; (repeat' split) <;> first | rfl | omega
  exact z_vret hE hR dX5_copyFrom_56 rfl (by rfl)
theorem dX0_copyFrom_0 : decode cX0_copyFrom 0 = .ok (.aload_n 0, 1) := by decide +kernel
theorem dX0_copyFrom_1 : decode cX0_copyFrom 1 = .ok (.aload_n 1, 1) := by decide +kernel
theorem dX0_copyFrom_2 : decode cX0_copyFrom 2 = .ok (.getfield 9, 3) := by decide +kernel
theorem dX0_copyFrom_5 : decode cX0_copyFrom 5 = .ok (.putfield 9, 3) := by decide +kernel
theorem dX0_copyFrom_8 : decode cX0_copyFrom 8 = .ok (.aload_n 0, 1) := by decide +kernel
theorem dX0_copyFrom_9 : decode cX0_copyFrom 9 = .ok (.aload_n 1, 1) := by decide +kernel
theorem dX0_copyFrom_10 : decode cX0_copyFrom 10 = .ok (.getfield 15, 3) := by decide +kernel
theorem dX0_copyFrom_13 : decode cX0_copyFrom 13 = .ok (.putfield 15, 3) := by decide +kernel
theorem dX0_copyFrom_16 : decode cX0_copyFrom 16 = .ok (.aload_n 0, 1) := by decide +kernel
theorem dX0_copyFrom_17 : decode cX0_copyFrom 17 = .ok (.aload_n 1, 1) := by decide +kernel
theorem dX0_copyFrom_18 : decode cX0_copyFrom 18 = .ok (.getfield 18, 3) := by decide +kernel
theorem dX0_copyFrom_21 : decode cX0_copyFrom 21 = .ok (.putfield 18, 3) := by decide +kernel
theorem dX0_copyFrom_24 : decode cX0_copyFrom 24 = .ok (.aload_n 0, 1) := by decide +kernel
theorem dX0_copyFrom_25 : decode cX0_copyFrom 25 = .ok (.aload_n 1, 1) := by decide +kernel
theorem dX0_copyFrom_26 : decode cX0_copyFrom 26 = .ok (.getfield 21, 3) := by decide +kernel
theorem dX0_copyFrom_29 : decode cX0_copyFrom 29 = .ok (.putfield 21, 3) := by decide +kernel
theorem dX0_copyFrom_32 : decode cX0_copyFrom 32 = .ok (.aload_n 1, 1) := by decide +kernel
theorem dX0_copyFrom_33 : decode cX0_copyFrom 33 = .ok (.getfield 24, 3) := by decide +kernel
theorem dX0_copyFrom_36 : decode cX0_copyFrom 36 = .ok (.iconst 0, 1) := by decide +kernel
theorem dX0_copyFrom_37 : decode cX0_copyFrom 37 = .ok (.aload_n 0, 1) := by decide +kernel
theorem dX0_copyFrom_38 : decode cX0_copyFrom 38 = .ok (.getfield 24, 3) := by decide +kernel
theorem dX0_copyFrom_41 : decode cX0_copyFrom 41 = .ok (.iconst 0, 1) := by decide +kernel
theorem dX0_copyFrom_42 : decode cX0_copyFrom 42 = .ok (.iconst 3, 1) := by decide +kernel
theorem dX0_copyFrom_43 : decode cX0_copyFrom 43 = .ok (.invokestatic 28, 3) := by decide +kernel
theorem dX0_copyFrom_46 : decode cX0_copyFrom 46 = .ok (.return_, 1) := by decide +kernel
theorem hy_X0_copyFrom : yX0_copyFrom.cls ≠ "java/lang/invoke/MethodHandle" ∧ yX0_copyFrom.cls ≠ "java/lang/invoke/VarHandle" ∧ (parseMethodDescriptor yX0_copyFrom.desc).map (fun d => d.parameters.length) = some 1 := ⟨by decide +kernel, by decide +kernel, by decide +kernel⟩
set_option maxHeartbeats 4000000 in
set_option maxRecDepth 100000 in
theorem c_X0_copyFrom (l0 : Launch) (D0 : va_G) (cI0 cJ0 : ClassId) (ad : Nat → Nat → Nat) (S : zM) (r : Nat) (hr : r < 5) (r2 : Nat) (hr2 : r2 < 5) (hne : r2 ≠ r) : Ct l0 D0 cI0 cJ0 ad yX0_copyFrom cX0_copyFrom 2 none 1 26 [.ref (ad r 6), .ref (ad r2 6)] S none (fun X => X = (us S r (cpg 6 7 (S r) (S r2)))) := by
  refine Ct.of (by decide) (Nat.le_of_ble_eq_true rfl) (fun E hE hR => ?_)
  have hE : zG E l0 D0 cI0 cJ0 ad cX0_copyFrom 2 RX0 1 26 := hE
  show Z E S 0 [(0, .ref (ad r 6)), (1, .ref (ad r2 6))] []
  refine z_aload_n hE 0 rfl rfl dX0_copyFrom_0 ?_
  refine z_aload_n hE 1 rfl rfl dX0_copyFrom_1 ?_
  refine gf_0_0 hE (ks_m hr2 (by decide)) zf_X0_9 dX0_copyFrom_2 ?_
  refine pf_0_0 hE (ks_m hr (by decide)) zf_X0_9 dX0_copyFrom_5 ?_
  refine z_aload_n hE 0 rfl rfl dX0_copyFrom_8 ?_
  refine z_aload_n hE 1 rfl rfl dX0_copyFrom_9 ?_
  refine gf_0_1 hE (ks_m hr2 (by decide)) zf_X0_15 dX0_copyFrom_10 ?_
  try simp only [us_eq, us_us, us_ne hne]
  refine pf_0_1 hE (ks_m hr (by decide)) zf_X0_15 dX0_copyFrom_13 ?_
  try simp only [us_eq, us_us, us_ne hne]
  refine z_aload_n hE 0 rfl rfl dX0_copyFrom_16 ?_
  refine z_aload_n hE 1 rfl rfl dX0_copyFrom_17 ?_
  refine gf_0_2 hE (ks_m hr2 (by decide)) zf_X0_18 dX0_copyFrom_18 ?_
  try simp only [us_eq, us_us, us_ne hne]
  refine pf_0_2 hE (ks_m hr (by decide)) zf_X0_18 dX0_copyFrom_21 ?_
  try simp only [us_eq, us_us, us_ne hne]
  refine z_aload_n hE 0 rfl rfl dX0_copyFrom_24 ?_
  refine z_aload_n hE 1 rfl rfl dX0_copyFrom_25 ?_
  refine gf_0_3 hE (ks_m hr2 (by decide)) zf_X0_21 dX0_copyFrom_26 ?_
  try simp only [us_eq, us_us, us_ne hne]
  refine pf_0_3 hE (ks_m hr (by decide)) zf_X0_21 dX0_copyFrom_29 ?_
  try simp only [us_eq, us_us, us_ne hne]
  refine z_aload_n hE 1 rfl rfl dX0_copyFrom_32 ?_
  refine gf_0_4 hE (ks_m hr2 (by decide)) zf_X0_24 dX0_copyFrom_33 ?_
  refine z_iconst hE dX0_copyFrom_36 ?_
  refine z_aload_n hE 0 rfl rfl dX0_copyFrom_37 ?_
  refine gf_0_4 hE (ks_m hr (by decide)) zf_X0_24 dX0_copyFrom_38 ?_
  refine z_iconst hE dX0_copyFrom_41 ?_
  refine z_iconst hE dX0_copyFrom_42 ?_
  refine ac_7 hE (ks_m hr2 (by decide)) (ks_m hr (by decide)) zm_X0_28 (by decide) (Nat.le_of_ble_eq_true rfl) dX0_copyFrom_43 ?_
  try simp only [us_eq, us_us, us_ne hne]
  refine z_memA hE hr (g := cpg 6 7 (S r) (S r2)) (fun q hq => ?_) ?_
  · have hk : kyA q = 6 → q = 6 ∨ q = 7 ∨ q = 8 ∨ q = 9 := kyA_i6
    by_cases e6 : q = 6
    · subst e6; simp [cpg, up, kyA]
    by_cases e7 : q = 7
    · subst e7; simp [cpg, up, kyA]
    by_cases e8 : q = 8
    · subst e8; simp [cpg, up, kyA]
    by_cases e9 : q = 9
    · subst e9; simp [cpg, up, kyA]
    unfold cpg up; simp only [e6, e7, e8, e9, if_false]; (repeat' split) <;> first | rfl | omega
  exact z_vret hE hR dX0_copyFrom_46 rfl (by rfl)
theorem dX3_copyFrom_0 : decode cX3_copyFrom 0 = .ok (.aload_n 0, 1) := by decide +kernel
theorem dX3_copyFrom_1 : decode cX3_copyFrom 1 = .ok (.aload_n 1, 1) := by decide +kernel
theorem dX3_copyFrom_2 : decode cX3_copyFrom 2 = .ok (.getfield 9, 3) := by decide +kernel
theorem dX3_copyFrom_5 : decode cX3_copyFrom 5 = .ok (.putfield 9, 3) := by decide +kernel
theorem dX3_copyFrom_8 : decode cX3_copyFrom 8 = .ok (.aload_n 1, 1) := by decide +kernel
theorem dX3_copyFrom_9 : decode cX3_copyFrom 9 = .ok (.getfield 15, 3) := by decide +kernel
theorem dX3_copyFrom_12 : decode cX3_copyFrom 12 = .ok (.iconst 0, 1) := by decide +kernel
theorem dX3_copyFrom_13 : decode cX3_copyFrom 13 = .ok (.aload_n 0, 1) := by decide +kernel
theorem dX3_copyFrom_14 : decode cX3_copyFrom 14 = .ok (.getfield 15, 3) := by decide +kernel
theorem dX3_copyFrom_17 : decode cX3_copyFrom 17 = .ok (.iconst 0, 1) := by decide +kernel
theorem dX3_copyFrom_18 : decode cX3_copyFrom 18 = .ok (.bipush 20, 2) := by decide +kernel
theorem dX3_copyFrom_20 : decode cX3_copyFrom 20 = .ok (.invokestatic 40, 3) := by decide +kernel
theorem dX3_copyFrom_23 : decode cX3_copyFrom 23 = .ok (.aload_n 1, 1) := by decide +kernel
theorem dX3_copyFrom_24 : decode cX3_copyFrom 24 = .ok (.getfield 19, 3) := by decide +kernel
theorem dX3_copyFrom_27 : decode cX3_copyFrom 27 = .ok (.iconst 0, 1) := by decide +kernel
theorem dX3_copyFrom_28 : decode cX3_copyFrom 28 = .ok (.aload_n 0, 1) := by decide +kernel
theorem dX3_copyFrom_29 : decode cX3_copyFrom 29 = .ok (.getfield 19, 3) := by decide +kernel
theorem dX3_copyFrom_32 : decode cX3_copyFrom 32 = .ok (.iconst 0, 1) := by decide +kernel
theorem dX3_copyFrom_33 : decode cX3_copyFrom 33 = .ok (.bipush 20, 2) := by decide +kernel
theorem dX3_copyFrom_35 : decode cX3_copyFrom 35 = .ok (.invokestatic 40, 3) := by decide +kernel
theorem dX3_copyFrom_38 : decode cX3_copyFrom 38 = .ok (.aload_n 1, 1) := by decide +kernel
theorem dX3_copyFrom_39 : decode cX3_copyFrom 39 = .ok (.getfield 22, 3) := by decide +kernel
theorem dX3_copyFrom_42 : decode cX3_copyFrom 42 = .ok (.iconst 0, 1) := by decide +kernel
theorem dX3_copyFrom_43 : decode cX3_copyFrom 43 = .ok (.aload_n 0, 1) := by decide +kernel
theorem dX3_copyFrom_44 : decode cX3_copyFrom 44 = .ok (.getfield 22, 3) := by decide +kernel
theorem dX3_copyFrom_47 : decode cX3_copyFrom 47 = .ok (.iconst 0, 1) := by decide +kernel
theorem dX3_copyFrom_48 : decode cX3_copyFrom 48 = .ok (.bipush 20, 2) := by decide +kernel
theorem dX3_copyFrom_50 : decode cX3_copyFrom 50 = .ok (.invokestatic 40, 3) := by decide +kernel
theorem dX3_copyFrom_53 : decode cX3_copyFrom 53 = .ok (.aload_n 1, 1) := by decide +kernel
theorem dX3_copyFrom_54 : decode cX3_copyFrom 54 = .ok (.getfield 25, 3) := by decide +kernel
theorem dX3_copyFrom_57 : decode cX3_copyFrom 57 = .ok (.iconst 0, 1) := by decide +kernel
theorem dX3_copyFrom_58 : decode cX3_copyFrom 58 = .ok (.aload_n 0, 1) := by decide +kernel
theorem dX3_copyFrom_59 : decode cX3_copyFrom 59 = .ok (.getfield 25, 3) := by decide +kernel
theorem dX3_copyFrom_62 : decode cX3_copyFrom 62 = .ok (.iconst 0, 1) := by decide +kernel
theorem dX3_copyFrom_63 : decode cX3_copyFrom 63 = .ok (.bipush 20, 2) := by decide +kernel
theorem dX3_copyFrom_65 : decode cX3_copyFrom 65 = .ok (.invokestatic 40, 3) := by decide +kernel
theorem dX3_copyFrom_68 : decode cX3_copyFrom 68 = .ok (.aload_n 1, 1) := by decide +kernel
theorem dX3_copyFrom_69 : decode cX3_copyFrom 69 = .ok (.getfield 28, 3) := by decide +kernel
theorem dX3_copyFrom_72 : decode cX3_copyFrom 72 = .ok (.iconst 0, 1) := by decide +kernel
theorem dX3_copyFrom_73 : decode cX3_copyFrom 73 = .ok (.aload_n 0, 1) := by decide +kernel
theorem dX3_copyFrom_74 : decode cX3_copyFrom 74 = .ok (.getfield 28, 3) := by decide +kernel
theorem dX3_copyFrom_77 : decode cX3_copyFrom 77 = .ok (.iconst 0, 1) := by decide +kernel
theorem dX3_copyFrom_78 : decode cX3_copyFrom 78 = .ok (.bipush 20, 2) := by decide +kernel
theorem dX3_copyFrom_80 : decode cX3_copyFrom 80 = .ok (.invokestatic 40, 3) := by decide +kernel
theorem dX3_copyFrom_83 : decode cX3_copyFrom 83 = .ok (.aload_n 1, 1) := by decide +kernel
theorem dX3_copyFrom_84 : decode cX3_copyFrom 84 = .ok (.getfield 31, 3) := by decide +kernel
theorem dX3_copyFrom_87 : decode cX3_copyFrom 87 = .ok (.iconst 0, 1) := by decide +kernel
theorem dX3_copyFrom_88 : decode cX3_copyFrom 88 = .ok (.aload_n 0, 1) := by decide +kernel
theorem dX3_copyFrom_89 : decode cX3_copyFrom 89 = .ok (.getfield 31, 3) := by decide +kernel
theorem dX3_copyFrom_92 : decode cX3_copyFrom 92 = .ok (.iconst 0, 1) := by decide +kernel
theorem dX3_copyFrom_93 : decode cX3_copyFrom 93 = .ok (.bipush 20, 2) := by decide +kernel
theorem dX3_copyFrom_95 : decode cX3_copyFrom 95 = .ok (.invokestatic 40, 3) := by decide +kernel
theorem dX3_copyFrom_98 : decode cX3_copyFrom 98 = .ok (.aload_n 1, 1) := by decide +kernel
theorem dX3_copyFrom_99 : decode cX3_copyFrom 99 = .ok (.getfield 34, 3) := by decide +kernel
theorem dX3_copyFrom_102 : decode cX3_copyFrom 102 = .ok (.iconst 0, 1) := by decide +kernel
theorem dX3_copyFrom_103 : decode cX3_copyFrom 103 = .ok (.aload_n 0, 1) := by decide +kernel
theorem dX3_copyFrom_104 : decode cX3_copyFrom 104 = .ok (.getfield 34, 3) := by decide +kernel
theorem dX3_copyFrom_107 : decode cX3_copyFrom 107 = .ok (.iconst 0, 1) := by decide +kernel
theorem dX3_copyFrom_108 : decode cX3_copyFrom 108 = .ok (.bipush 80, 2) := by decide +kernel
theorem dX3_copyFrom_110 : decode cX3_copyFrom 110 = .ok (.invokestatic 40, 3) := by decide +kernel
theorem dX3_copyFrom_113 : decode cX3_copyFrom 113 = .ok (.aload_n 1, 1) := by decide +kernel
theorem dX3_copyFrom_114 : decode cX3_copyFrom 114 = .ok (.getfield 37, 3) := by decide +kernel
theorem dX3_copyFrom_117 : decode cX3_copyFrom 117 = .ok (.iconst 0, 1) := by decide +kernel
theorem dX3_copyFrom_118 : decode cX3_copyFrom 118 = .ok (.aload_n 0, 1) := by decide +kernel
theorem dX3_copyFrom_119 : decode cX3_copyFrom 119 = .ok (.getfield 37, 3) := by decide +kernel
theorem dX3_copyFrom_122 : decode cX3_copyFrom 122 = .ok (.iconst 0, 1) := by decide +kernel
theorem dX3_copyFrom_123 : decode cX3_copyFrom 123 = .ok (.sipush 240, 3) := by decide +kernel
theorem dX3_copyFrom_126 : decode cX3_copyFrom 126 = .ok (.invokestatic 40, 3) := by decide +kernel
theorem dX3_copyFrom_129 : decode cX3_copyFrom 129 = .ok (.return_, 1) := by decide +kernel
theorem hy_X3_copyFrom : yX3_copyFrom.cls ≠ "java/lang/invoke/MethodHandle" ∧ yX3_copyFrom.cls ≠ "java/lang/invoke/VarHandle" ∧ (parseMethodDescriptor yX3_copyFrom.desc).map (fun d => d.parameters.length) = some 1 := ⟨by decide +kernel, by decide +kernel, by decide +kernel⟩
set_option maxHeartbeats 4000000 in
set_option maxRecDepth 100000 in
theorem c_X3_copyFrom (l0 : Launch) (D0 : va_G) (cI0 cJ0 : ClassId) (ad : Nat → Nat → Nat) (S : zM) (r : Nat) (hr : r < 5) (r2 : Nat) (hr2 : r2 < 5) (hne : r2 ≠ r) : Ct l0 D0 cI0 cJ0 ad yX3_copyFrom cX3_copyFrom 2 none 1 26 [.ref (ad r 8), .ref (ad r2 8)] S none (fun X => X = (us S r (cpg 8 16 (S r) (S r2)))) := by
  refine Ct.of (by decide) (Nat.le_of_ble_eq_true rfl) (fun E hE hR => ?_)
  have hE : zG E l0 D0 cI0 cJ0 ad cX3_copyFrom 2 RX3 1 26 := hE
  show Z E S 0 [(0, .ref (ad r 8)), (1, .ref (ad r2 8))] []
  refine z_aload_n hE 0 rfl rfl dX3_copyFrom_0 ?_
  refine z_aload_n hE 1 rfl rfl dX3_copyFrom_1 ?_
  refine gf_3_0 hE (ks_m hr2 (by decide)) zf_X3_9 dX3_copyFrom_2 ?_
  refine pf_3_0 hE (ks_m hr (by decide)) zf_X3_9 dX3_copyFrom_5 ?_
  refine z_aload_n hE 1 rfl rfl dX3_copyFrom_8 ?_
  refine gf_3_1 hE (ks_m hr2 (by decide)) zf_X3_15 dX3_copyFrom_9 ?_
  refine z_iconst hE dX3_copyFrom_12 ?_
  refine z_aload_n hE 0 rfl rfl dX3_copyFrom_13 ?_
  refine gf_3_1 hE (ks_m hr (by decide)) zf_X3_15 dX3_copyFrom_14 ?_
  refine z_iconst hE dX3_copyFrom_17 ?_
  refine z_bipush (a := 20) hE (by decide) dX3_copyFrom_18 ?_
  refine ac_9 hE (ks_m hr2 (by decide)) (ks_m hr (by decide)) zm_X3_40 (by decide) (Nat.le_of_ble_eq_true rfl) dX3_copyFrom_20 ?_
  try simp only [us_eq, us_us, us_ne hne]
  refine z_aload_n hE 1 rfl rfl dX3_copyFrom_23 ?_
  refine gf_3_2 hE (ks_m hr2 (by decide)) zf_X3_19 dX3_copyFrom_24 ?_
  refine z_iconst hE dX3_copyFrom_27 ?_
  refine z_aload_n hE 0 rfl rfl dX3_copyFrom_28 ?_
  refine gf_3_2 hE (ks_m hr (by decide)) zf_X3_19 dX3_copyFrom_29 ?_
  refine z_iconst hE dX3_copyFrom_32 ?_
  refine z_bipush (a := 20) hE (by decide) dX3_copyFrom_33 ?_
  refine ac_10 hE (ks_m hr2 (by decide)) (ks_m hr (by decide)) zm_X3_40 (by decide) (Nat.le_of_ble_eq_true rfl) dX3_copyFrom_35 ?_
  try simp only [us_eq, us_us, us_ne hne]
  refine z_aload_n hE 1 rfl rfl dX3_copyFrom_38 ?_
  refine gf_3_3 hE (ks_m hr2 (by decide)) zf_X3_22 dX3_copyFrom_39 ?_
  refine z_iconst hE dX3_copyFrom_42 ?_
  refine z_aload_n hE 0 rfl rfl dX3_copyFrom_43 ?_
  refine gf_3_3 hE (ks_m hr (by decide)) zf_X3_22 dX3_copyFrom_44 ?_
  refine z_iconst hE dX3_copyFrom_47 ?_
  refine z_bipush (a := 20) hE (by decide) dX3_copyFrom_48 ?_
  refine ac_11 hE (ks_m hr2 (by decide)) (ks_m hr (by decide)) zm_X3_40 (by decide) (Nat.le_of_ble_eq_true rfl) dX3_copyFrom_50 ?_
  try simp only [us_eq, us_us, us_ne hne]
  refine z_aload_n hE 1 rfl rfl dX3_copyFrom_53 ?_
  refine gf_3_4 hE (ks_m hr2 (by decide)) zf_X3_25 dX3_copyFrom_54 ?_
  refine z_iconst hE dX3_copyFrom_57 ?_
  refine z_aload_n hE 0 rfl rfl dX3_copyFrom_58 ?_
  refine gf_3_4 hE (ks_m hr (by decide)) zf_X3_25 dX3_copyFrom_59 ?_
  refine z_iconst hE dX3_copyFrom_62 ?_
  refine z_bipush (a := 20) hE (by decide) dX3_copyFrom_63 ?_
  refine ac_12 hE (ks_m hr2 (by decide)) (ks_m hr (by decide)) zm_X3_40 (by decide) (Nat.le_of_ble_eq_true rfl) dX3_copyFrom_65 ?_
  try simp only [us_eq, us_us, us_ne hne]
  refine z_aload_n hE 1 rfl rfl dX3_copyFrom_68 ?_
  refine gf_3_5 hE (ks_m hr2 (by decide)) zf_X3_28 dX3_copyFrom_69 ?_
  refine z_iconst hE dX3_copyFrom_72 ?_
  refine z_aload_n hE 0 rfl rfl dX3_copyFrom_73 ?_
  refine gf_3_5 hE (ks_m hr (by decide)) zf_X3_28 dX3_copyFrom_74 ?_
  refine z_iconst hE dX3_copyFrom_77 ?_
  refine z_bipush (a := 20) hE (by decide) dX3_copyFrom_78 ?_
  refine ac_13 hE (ks_m hr2 (by decide)) (ks_m hr (by decide)) zm_X3_40 (by decide) (Nat.le_of_ble_eq_true rfl) dX3_copyFrom_80 ?_
  try simp only [us_eq, us_us, us_ne hne]
  refine z_aload_n hE 1 rfl rfl dX3_copyFrom_83 ?_
  refine gf_3_6 hE (ks_m hr2 (by decide)) zf_X3_31 dX3_copyFrom_84 ?_
  refine z_iconst hE dX3_copyFrom_87 ?_
  refine z_aload_n hE 0 rfl rfl dX3_copyFrom_88 ?_
  refine gf_3_6 hE (ks_m hr (by decide)) zf_X3_31 dX3_copyFrom_89 ?_
  refine z_iconst hE dX3_copyFrom_92 ?_
  refine z_bipush (a := 20) hE (by decide) dX3_copyFrom_93 ?_
  refine ac_14 hE (ks_m hr2 (by decide)) (ks_m hr (by decide)) zm_X3_40 (by decide) (Nat.le_of_ble_eq_true rfl) dX3_copyFrom_95 ?_
  try simp only [us_eq, us_us, us_ne hne]
  refine z_aload_n hE 1 rfl rfl dX3_copyFrom_98 ?_
  refine gf_3_7 hE (ks_m hr2 (by decide)) zf_X3_34 dX3_copyFrom_99 ?_
  refine z_iconst hE dX3_copyFrom_102 ?_
  refine z_aload_n hE 0 rfl rfl dX3_copyFrom_103 ?_
  refine gf_3_7 hE (ks_m hr (by decide)) zf_X3_34 dX3_copyFrom_104 ?_
  refine z_iconst hE dX3_copyFrom_107 ?_
  refine z_bipush (a := 80) hE (by decide) dX3_copyFrom_108 ?_
  refine ac_15 hE (ks_m hr2 (by decide)) (ks_m hr (by decide)) zm_X3_40 (by decide) (Nat.le_of_ble_eq_true rfl) dX3_copyFrom_110 ?_
  try simp only [us_eq, us_us, us_ne hne]
  refine z_aload_n hE 1 rfl rfl dX3_copyFrom_113 ?_
  refine gf_3_8 hE (ks_m hr2 (by decide)) zf_X3_37 dX3_copyFrom_114 ?_
  refine z_iconst hE dX3_copyFrom_117 ?_
  refine z_aload_n hE 0 rfl rfl dX3_copyFrom_118 ?_
  refine gf_3_8 hE (ks_m hr (by decide)) zf_X3_37 dX3_copyFrom_119 ?_
  refine z_iconst hE dX3_copyFrom_122 ?_
  refine z_sipush (a := 240) hE (by decide) dX3_copyFrom_123 ?_
  refine ac_16 hE (ks_m hr2 (by decide)) (ks_m hr (by decide)) zm_X3_40 (by decide) (Nat.le_of_ble_eq_true rfl) dX3_copyFrom_126 ?_
  try simp only [us_eq, us_us, us_ne hne]
  refine z_memA hE hr (g := cpg 8 16 (S r) (S r2)) (fun q hq => ?_) ?_
  · have hk : kyA q = 8 → q = 14 := kyA_i8
    by_cases e14 : q = 14
    · subst e14; simp [cpg, up, kyA]
    unfold cpg up; simp only [e14, if_false]; (repeat' split) <;> first | rfl | omega
  exact z_vret hE hR dX3_copyFrom_129 rfl (by rfl)
theorem dX2_copyFrom_0 : decode cX2_copyFrom 0 = .ok (.aload_n 0, 1) := by decide +kernel
theorem dX2_copyFrom_1 : decode cX2_copyFrom 1 = .ok (.aload_n 1, 1) := by decide +kernel
theorem dX2_copyFrom_2 : decode cX2_copyFrom 2 = .ok (.getfield 9, 3) := by decide +kernel
theorem dX2_copyFrom_5 : decode cX2_copyFrom 5 = .ok (.putfield 9, 3) := by decide +kernel
theorem dX2_copyFrom_8 : decode cX2_copyFrom 8 = .ok (.aload_n 1, 1) := by decide +kernel
theorem dX2_copyFrom_9 : decode cX2_copyFrom 9 = .ok (.getfield 15, 3) := by decide +kernel
theorem dX2_copyFrom_12 : decode cX2_copyFrom 12 = .ok (.iconst 0, 1) := by decide +kernel
theorem dX2_copyFrom_13 : decode cX2_copyFrom 13 = .ok (.aload_n 0, 1) := by decide +kernel
theorem dX2_copyFrom_14 : decode cX2_copyFrom 14 = .ok (.getfield 15, 3) := by decide +kernel
theorem dX2_copyFrom_17 : decode cX2_copyFrom 17 = .ok (.iconst 0, 1) := by decide +kernel
theorem dX2_copyFrom_18 : decode cX2_copyFrom 18 = .ok (.bipush 10, 2) := by decide +kernel
theorem dX2_copyFrom_20 : decode cX2_copyFrom 20 = .ok (.invokestatic 28, 3) := by decide +kernel
theorem dX2_copyFrom_23 : decode cX2_copyFrom 23 = .ok (.aload_n 1, 1) := by decide +kernel
theorem dX2_copyFrom_24 : decode cX2_copyFrom 24 = .ok (.getfield 19, 3) := by decide +kernel
theorem dX2_copyFrom_27 : decode cX2_copyFrom 27 = .ok (.iconst 0, 1) := by decide +kernel
theorem dX2_copyFrom_28 : decode cX2_copyFrom 28 = .ok (.aload_n 0, 1) := by decide +kernel
theorem dX2_copyFrom_29 : decode cX2_copyFrom 29 = .ok (.getfield 19, 3) := by decide +kernel
theorem dX2_copyFrom_32 : decode cX2_copyFrom 32 = .ok (.iconst 0, 1) := by decide +kernel
theorem dX2_copyFrom_33 : decode cX2_copyFrom 33 = .ok (.bipush 10, 2) := by decide +kernel
theorem dX2_copyFrom_35 : decode cX2_copyFrom 35 = .ok (.invokestatic 28, 3) := by decide +kernel
theorem dX2_copyFrom_38 : decode cX2_copyFrom 38 = .ok (.aload_n 1, 1) := by decide +kernel
theorem dX2_copyFrom_39 : decode cX2_copyFrom 39 = .ok (.getfield 22, 3) := by decide +kernel
theorem dX2_copyFrom_42 : decode cX2_copyFrom 42 = .ok (.iconst 0, 1) := by decide +kernel
theorem dX2_copyFrom_43 : decode cX2_copyFrom 43 = .ok (.aload_n 0, 1) := by decide +kernel
theorem dX2_copyFrom_44 : decode cX2_copyFrom 44 = .ok (.getfield 22, 3) := by decide +kernel
theorem dX2_copyFrom_47 : decode cX2_copyFrom 47 = .ok (.iconst 0, 1) := by decide +kernel
theorem dX2_copyFrom_48 : decode cX2_copyFrom 48 = .ok (.bipush 10, 2) := by decide +kernel
theorem dX2_copyFrom_50 : decode cX2_copyFrom 50 = .ok (.invokestatic 28, 3) := by decide +kernel
theorem dX2_copyFrom_53 : decode cX2_copyFrom 53 = .ok (.aload_n 1, 1) := by decide +kernel
theorem dX2_copyFrom_54 : decode cX2_copyFrom 54 = .ok (.getfield 25, 3) := by decide +kernel
theorem dX2_copyFrom_57 : decode cX2_copyFrom 57 = .ok (.iconst 0, 1) := by decide +kernel
theorem dX2_copyFrom_58 : decode cX2_copyFrom 58 = .ok (.aload_n 0, 1) := by decide +kernel
theorem dX2_copyFrom_59 : decode cX2_copyFrom 59 = .ok (.getfield 25, 3) := by decide +kernel
theorem dX2_copyFrom_62 : decode cX2_copyFrom 62 = .ok (.iconst 0, 1) := by decide +kernel
theorem dX2_copyFrom_63 : decode cX2_copyFrom 63 = .ok (.bipush 120, 2) := by decide +kernel
theorem dX2_copyFrom_65 : decode cX2_copyFrom 65 = .ok (.invokestatic 28, 3) := by decide +kernel
theorem dX2_copyFrom_68 : decode cX2_copyFrom 68 = .ok (.return_, 1) := by decide +kernel
theorem hy_X2_copyFrom : yX2_copyFrom.cls ≠ "java/lang/invoke/MethodHandle" ∧ yX2_copyFrom.cls ≠ "java/lang/invoke/VarHandle" ∧ (parseMethodDescriptor yX2_copyFrom.desc).map (fun d => d.parameters.length) = some 1 := ⟨by decide +kernel, by decide +kernel, by decide +kernel⟩
set_option maxHeartbeats 4000000 in
set_option maxRecDepth 100000 in
theorem c_X2_copyFrom (l0 : Launch) (D0 : va_G) (cI0 cJ0 : ClassId) (ad : Nat → Nat → Nat) (S : zM) (r : Nat) (hr : r < 5) (r2 : Nat) (hr2 : r2 < 5) (hne : r2 ≠ r) : Ct l0 D0 cI0 cJ0 ad yX2_copyFrom cX2_copyFrom 2 none 1 26 [.ref (ad r 17), .ref (ad r2 17)] S none (fun X => X = (us S r (cpg 17 21 (S r) (S r2)))) := by
  refine Ct.of (by decide) (Nat.le_of_ble_eq_true rfl) (fun E hE hR => ?_)
  have hE : zG E l0 D0 cI0 cJ0 ad cX2_copyFrom 2 RX2 1 26 := hE
  show Z E S 0 [(0, .ref (ad r 17)), (1, .ref (ad r2 17))] []
  refine z_aload_n hE 0 rfl rfl dX2_copyFrom_0 ?_
  refine z_aload_n hE 1 rfl rfl dX2_copyFrom_1 ?_
  refine gf_2_0 hE (ks_m hr2 (by decide)) zf_X2_9 dX2_copyFrom_2 ?_
  refine pf_2_0 hE (ks_m hr (by decide)) zf_X2_9 dX2_copyFrom_5 ?_
  refine z_aload_n hE 1 rfl rfl dX2_copyFrom_8 ?_
  refine gf_2_1 hE (ks_m hr2 (by decide)) zf_X2_15 dX2_copyFrom_9 ?_
  refine z_iconst hE dX2_copyFrom_12 ?_
  refine z_aload_n hE 0 rfl rfl dX2_copyFrom_13 ?_
  refine gf_2_1 hE (ks_m hr (by decide)) zf_X2_15 dX2_copyFrom_14 ?_
  refine z_iconst hE dX2_copyFrom_17 ?_
  refine z_bipush (a := 10) hE (by decide) dX2_copyFrom_18 ?_
  refine ac_18 hE (ks_m hr2 (by decide)) (ks_m hr (by decide)) zm_X2_28 (by decide) (Nat.le_of_ble_eq_true rfl) dX2_copyFrom_20 ?_
  try simp only [us_eq, us_us, us_ne hne]
  refine z_aload_n hE 1 rfl rfl dX2_copyFrom_23 ?_
  refine gf_2_2 hE (ks_m hr2 (by decide)) zf_X2_19 dX2_copyFrom_24 ?_
  refine z_iconst hE dX2_copyFrom_27 ?_
  refine z_aload_n hE 0 rfl rfl dX2_copyFrom_28 ?_
  refine gf_2_2 hE (ks_m hr (by decide)) zf_X2_19 dX2_copyFrom_29 ?_
  refine z_iconst hE dX2_copyFrom_32 ?_
  refine z_bipush (a := 10) hE (by decide) dX2_copyFrom_33 ?_
  refine ac_19 hE (ks_m hr2 (by decide)) (ks_m hr (by decide)) zm_X2_28 (by decide) (Nat.le_of_ble_eq_true rfl) dX2_copyFrom_35 ?_
  try simp only [us_eq, us_us, us_ne hne]
  refine z_aload_n hE 1 rfl rfl dX2_copyFrom_38 ?_
  refine gf_2_3 hE (ks_m hr2 (by decide)) zf_X2_22 dX2_copyFrom_39 ?_
  refine z_iconst hE dX2_copyFrom_42 ?_
  refine z_aload_n hE 0 rfl rfl dX2_copyFrom_43 ?_
  refine gf_2_3 hE (ks_m hr (by decide)) zf_X2_22 dX2_copyFrom_44 ?_
  refine z_iconst hE dX2_copyFrom_47 ?_
  refine z_bipush (a := 10) hE (by decide) dX2_copyFrom_48 ?_
  refine ac_20 hE (ks_m hr2 (by decide)) (ks_m hr (by decide)) zm_X2_28 (by decide) (Nat.le_of_ble_eq_true rfl) dX2_copyFrom_50 ?_
  try simp only [us_eq, us_us, us_ne hne]
  refine z_aload_n hE 1 rfl rfl dX2_copyFrom_53 ?_
  refine gf_2_4 hE (ks_m hr2 (by decide)) zf_X2_25 dX2_copyFrom_54 ?_
  refine z_iconst hE dX2_copyFrom_57 ?_
  refine z_aload_n hE 0 rfl rfl dX2_copyFrom_58 ?_
  refine gf_2_4 hE (ks_m hr (by decide)) zf_X2_25 dX2_copyFrom_59 ?_
  refine z_iconst hE dX2_copyFrom_62 ?_
  refine z_bipush (a := 120) hE (by decide) dX2_copyFrom_63 ?_
  refine ac_21 hE (ks_m hr2 (by decide)) (ks_m hr (by decide)) zm_X2_28 (by decide) (Nat.le_of_ble_eq_true rfl) dX2_copyFrom_65 ?_
  try simp only [us_eq, us_us, us_ne hne]
  refine z_memA hE hr (g := cpg 17 21 (S r) (S r2)) (fun q hq => ?_) ?_
  · have hk : kyA q = 17 → q = 15 := kyA_i17
    by_cases e15 : q = 15
    · subst e15; simp [cpg, up, kyA]
    unfold cpg up; simp only [e15, if_false]; (repeat' split) <;> first | rfl | omega
  exact z_vret hE hR dX2_copyFrom_68 rfl (by rfl)
theorem dX4_copyFrom_0 : decode cX4_copyFrom 0 = .ok (.aload_n 0, 1) := by decide +kernel
theorem dX4_copyFrom_1 : decode cX4_copyFrom 1 = .ok (.getfield 12, 3) := by decide +kernel
theorem dX4_copyFrom_4 : decode cX4_copyFrom 4 = .ok (.aload_n 1, 1) := by decide +kernel
theorem dX4_copyFrom_5 : decode cX4_copyFrom 5 = .ok (.getfield 12, 3) := by decide +kernel
theorem dX4_copyFrom_8 : decode cX4_copyFrom 8 = .ok (.invokevirtual 53, 3) := by decide +kernel
theorem dX4_copyFrom_11 : decode cX4_copyFrom 11 = .ok (.aload_n 0, 1) := by decide +kernel
theorem dX4_copyFrom_12 : decode cX4_copyFrom 12 = .ok (.getfield 21, 3) := by decide +kernel
theorem dX4_copyFrom_15 : decode cX4_copyFrom 15 = .ok (.aload_n 1, 1) := by decide +kernel
theorem dX4_copyFrom_16 : decode cX4_copyFrom 16 = .ok (.getfield 21, 3) := by decide +kernel
theorem dX4_copyFrom_19 : decode cX4_copyFrom 19 = .ok (.invokevirtual 57, 3) := by decide +kernel
theorem dX4_copyFrom_22 : decode cX4_copyFrom 22 = .ok (.aload_n 0, 1) := by decide +kernel
theorem dX4_copyFrom_23 : decode cX4_copyFrom 23 = .ok (.getfield 28, 3) := by decide +kernel
theorem dX4_copyFrom_26 : decode cX4_copyFrom 26 = .ok (.aload_n 1, 1) := by decide +kernel
theorem dX4_copyFrom_27 : decode cX4_copyFrom 27 = .ok (.getfield 28, 3) := by decide +kernel
theorem dX4_copyFrom_30 : decode cX4_copyFrom 30 = .ok (.invokevirtual 60, 3) := by decide +kernel
theorem dX4_copyFrom_33 : decode cX4_copyFrom 33 = .ok (.aload_n 0, 1) := by decide +kernel
theorem dX4_copyFrom_34 : decode cX4_copyFrom 34 = .ok (.getfield 35, 3) := by decide +kernel
theorem dX4_copyFrom_37 : decode cX4_copyFrom 37 = .ok (.aload_n 1, 1) := by decide +kernel
theorem dX4_copyFrom_38 : decode cX4_copyFrom 38 = .ok (.getfield 35, 3) := by decide +kernel
theorem dX4_copyFrom_41 : decode cX4_copyFrom 41 = .ok (.invokevirtual 63, 3) := by decide +kernel
theorem dX4_copyFrom_44 : decode cX4_copyFrom 44 = .ok (.aload_n 0, 1) := by decide +kernel
theorem dX4_copyFrom_45 : decode cX4_copyFrom 45 = .ok (.getfield 42, 3) := by decide +kernel
theorem dX4_copyFrom_48 : decode cX4_copyFrom 48 = .ok (.aload_n 1, 1) := by decide +kernel
theorem dX4_copyFrom_49 : decode cX4_copyFrom 49 = .ok (.getfield 42, 3) := by decide +kernel
theorem dX4_copyFrom_52 : decode cX4_copyFrom 52 = .ok (.invokevirtual 66, 3) := by decide +kernel
theorem dX4_copyFrom_55 : decode cX4_copyFrom 55 = .ok (.aload_n 0, 1) := by decide +kernel
theorem dX4_copyFrom_56 : decode cX4_copyFrom 56 = .ok (.aload_n 1, 1) := by decide +kernel
theorem dX4_copyFrom_57 : decode cX4_copyFrom 57 = .ok (.getfield 46, 3) := by decide +kernel
theorem dX4_copyFrom_60 : decode cX4_copyFrom 60 = .ok (.putfield 46, 3) := by decide +kernel
theorem dX4_copyFrom_63 : decode cX4_copyFrom 63 = .ok (.aload_n 0, 1) := by decide +kernel
theorem dX4_copyFrom_64 : decode cX4_copyFrom 64 = .ok (.aload_n 1, 1) := by decide +kernel
theorem dX4_copyFrom_65 : decode cX4_copyFrom 65 = .ok (.getfield 50, 3) := by decide +kernel
theorem dX4_copyFrom_68 : decode cX4_copyFrom 68 = .ok (.putfield 50, 3) := by decide +kernel
theorem dX4_copyFrom_71 : decode cX4_copyFrom 71 = .ok (.return_, 1) := by decide +kernel
theorem hy_X4_copyFrom : yX4_copyFrom.cls ≠ "java/lang/invoke/MethodHandle" ∧ yX4_copyFrom.cls ≠ "java/lang/invoke/VarHandle" ∧ (parseMethodDescriptor yX4_copyFrom.desc).map (fun d => d.parameters.length) = some 1 := ⟨by decide +kernel, by decide +kernel, by decide +kernel⟩
set_option maxHeartbeats 4000000 in
set_option maxRecDepth 100000 in
theorem c_X4_copyFrom (l0 : Launch) (D0 : va_G) (cI0 cJ0 : ClassId) (ad : Nat → Nat → Nat) (S : zM) (r : Nat) (hr : r < 5) (r2 : Nat) (hr2 : r2 < 5) (hne : r2 ≠ r) : Ct l0 D0 cI0 cJ0 ad yX4_copyFrom cX4_copyFrom 2 none 2 47 [.ref (ad r 0), .ref (ad r2 0)] S none (fun X => X = (us S r (S r2))) := by
  refine Ct.of (by decide) (Nat.le_of_ble_eq_true rfl) (fun E hE hR => ?_)
  have hE : zG E l0 D0 cI0 cJ0 ad cX4_copyFrom 2 RX4 2 47 := hE
  show Z E S 0 [(0, .ref (ad r 0)), (1, .ref (ad r2 0))] []
  refine z_aload_n hE 0 rfl rfl dX4_copyFrom_0 ?_
  refine gf_4_0 hE (ks_m hr (by decide)) zf_X4_12 dX4_copyFrom_1 ?_
  refine z_aload_n hE 1 rfl rfl dX4_copyFrom_4 ?_
  refine gf_4_0 hE (ks_m hr2 (by decide)) zf_X4_12 dX4_copyFrom_5 ?_
  refine z_callV hE (c_X1_copyFrom l0 D0 cI0 cJ0 ad S r hr r2 hr2 hne) (ks_m hr (by decide)) rfl rfl zm_X4_53 zi_yX1_copyFrom zs_yX1_copyFrom zn_RX1 zc_yX1_copyFrom (hy_X1_copyFrom) (Nat.le_of_ble_eq_true rfl) (Nat.le_of_ble_eq_true rfl) rfl rfl rfl (Nat.le_of_ble_eq_true rfl) dX4_copyFrom_8 ?_
  refine z_aload_n hE 0 rfl rfl dX4_copyFrom_11 ?_
  refine gf_4_1 hE (ks_m hr (by decide)) zf_X4_21 dX4_copyFrom_12 ?_
  refine z_aload_n hE 1 rfl rfl dX4_copyFrom_15 ?_
  refine gf_4_1 hE (ks_m hr2 (by decide)) zf_X4_21 dX4_copyFrom_16 ?_
  refine z_callV hE (c_X5_copyFrom l0 D0 cI0 cJ0 ad (us S r (cpg 1 4 ((S r)) ((S r2)))) r hr r2 hr2 hne) (ks_m hr (by decide)) rfl rfl zm_X4_57 zi_yX5_copyFrom zs_yX5_copyFrom zn_RX5 zc_yX5_copyFrom (hy_X5_copyFrom) (Nat.le_of_ble_eq_true rfl) (Nat.le_of_ble_eq_true rfl) rfl rfl rfl (Nat.le_of_ble_eq_true rfl) dX4_copyFrom_19 ?_
  try simp only [us_eq, us_us, us_ne hne]
  refine z_aload_n hE 0 rfl rfl dX4_copyFrom_22 ?_
  refine gf_4_2 hE (ks_m hr (by decide)) zf_X4_28 dX4_copyFrom_23 ?_
  refine z_aload_n hE 1 rfl rfl dX4_copyFrom_26 ?_
  refine gf_4_2 hE (ks_m hr2 (by decide)) zf_X4_28 dX4_copyFrom_27 ?_
  refine z_callV hE (c_X0_copyFrom l0 D0 cI0 cJ0 ad (us S r (cpg 5 5 ((cpg 1 4 ((S r)) ((S r2)))) ((S r2)))) r hr r2 hr2 hne) (ks_m hr (by decide)) rfl rfl zm_X4_60 zi_yX0_copyFrom zs_yX0_copyFrom zn_RX0 zc_yX0_copyFrom (hy_X0_copyFrom) (Nat.le_of_ble_eq_true rfl) (Nat.le_of_ble_eq_true rfl) rfl rfl rfl (Nat.le_of_ble_eq_true rfl) dX4_copyFrom_30 ?_
  try simp only [us_eq, us_us, us_ne hne]
  refine z_aload_n hE 0 rfl rfl dX4_copyFrom_33 ?_
  refine gf_4_3 hE (ks_m hr (by decide)) zf_X4_35 dX4_copyFrom_34 ?_
  refine z_aload_n hE 1 rfl rfl dX4_copyFrom_37 ?_
  refine gf_4_3 hE (ks_m hr2 (by decide)) zf_X4_35 dX4_copyFrom_38 ?_
  refine z_callV hE (c_X3_copyFrom l0 D0 cI0 cJ0 ad (us S r (cpg 6 7 ((cpg 5 5 ((cpg 1 4 ((S r)) ((S r2)))) ((S r2)))) ((S r2)))) r hr r2 hr2 hne) (ks_m hr (by decide)) rfl rfl zm_X4_63 zi_yX3_copyFrom zs_yX3_copyFrom zn_RX3 zc_yX3_copyFrom (hy_X3_copyFrom) (Nat.le_of_ble_eq_true rfl) (Nat.le_of_ble_eq_true rfl) rfl rfl rfl (Nat.le_of_ble_eq_true rfl) dX4_copyFrom_41 ?_
  try simp only [us_eq, us_us, us_ne hne]
  refine z_aload_n hE 0 rfl rfl dX4_copyFrom_44 ?_
  refine gf_4_4 hE (ks_m hr (by decide)) zf_X4_42 dX4_copyFrom_45 ?_
  refine z_aload_n hE 1 rfl rfl dX4_copyFrom_48 ?_
  refine gf_4_4 hE (ks_m hr2 (by decide)) zf_X4_42 dX4_copyFrom_49 ?_
  refine z_callV hE (c_X2_copyFrom l0 D0 cI0 cJ0 ad (us S r (cpg 8 16 ((cpg 6 7 ((cpg 5 5 ((cpg 1 4 ((S r)) ((S r2)))) ((S r2)))) ((S r2)))) ((S r2)))) r hr r2 hr2 hne) (ks_m hr (by decide)) rfl rfl zm_X4_66 zi_yX2_copyFrom zs_yX2_copyFrom zn_RX2 zc_yX2_copyFrom (hy_X2_copyFrom) (Nat.le_of_ble_eq_true rfl) (Nat.le_of_ble_eq_true rfl) rfl rfl rfl (Nat.le_of_ble_eq_true rfl) dX4_copyFrom_52 ?_
  try simp only [us_eq, us_us, us_ne hne]
  refine z_aload_n hE 0 rfl rfl dX4_copyFrom_55 ?_
  refine z_aload_n hE 1 rfl rfl dX4_copyFrom_56 ?_
  refine gf_4_5 hE (ks_m hr2 (by decide)) zf_X4_46 dX4_copyFrom_57 ?_
  try simp only [us_eq, us_us, us_ne hne]
  refine pf_4_5 hE (ks_m hr (by decide)) zf_X4_46 dX4_copyFrom_60 ?_
  try simp only [us_eq, us_us, us_ne hne]
  refine z_aload_n hE 0 rfl rfl dX4_copyFrom_63 ?_
  refine z_aload_n hE 1 rfl rfl dX4_copyFrom_64 ?_
  refine gf_4_6 hE (ks_m hr2 (by decide)) zf_X4_50 dX4_copyFrom_65 ?_
  try simp only [us_eq, us_us, us_ne hne]
  refine pf_4_6 hE (ks_m hr (by decide)) zf_X4_50 dX4_copyFrom_68 ?_
  try simp only [us_eq, us_us, us_ne hne]
  refine z_memA hE hr (g := S r2) (fun q hq => ?_) ?_
  · have hk := @kyA_i0 q
    by_cases e1 : q = 670
    · subst e1; exact up_eq
    by_cases e2 : q = 2
    · subst e2; rw [up_ne (by decide)]; exact up_eq
    have h9 := kyA_le q
    rw [up_ne e1, up_ne e2]; unfold cpg; (repeat' split) <;> first | rfl | omega
  exact z_vret hE hR dX4_copyFrom_71 rfl (by rfl)
theorem dX4_countAllShares_0 : decode cX4_countAllShares 0 = .ok (.aload_n 0, 1) := by decide +kernel
theorem dX4_countAllShares_1 : decode cX4_countAllShares 1 = .ok (.getfield 46, 3) := by decide +kernel
theorem dX4_countAllShares_4 : decode cX4_countAllShares 4 = .ok (.istore_n 1, 1) := by decide +kernel
theorem dX4_countAllShares_5 : decode cX4_countAllShares 5 = .ok (.iconst 0, 1) := by decide +kernel
theorem dX4_countAllShares_6 : decode cX4_countAllShares 6 = .ok (.istore_n 2, 1) := by decide +kernel
theorem dX4_countAllShares_7 : decode cX4_countAllShares 7 = .ok (.iload_n 2, 1) := by decide +kernel
theorem dX4_countAllShares_8 : decode cX4_countAllShares 8 = .ok (.aload_n 0, 1) := by decide +kernel
theorem dX4_countAllShares_9 : decode cX4_countAllShares 9 = .ok (.getfield 12, 3) := by decide +kernel
theorem dX4_countAllShares_12 : decode cX4_countAllShares 12 = .ok (.getfield 69, 3) := by decide +kernel
theorem dX4_countAllShares_15 : decode cX4_countAllShares 15 = .ok (.if_icmp .ge 21, 3) := by decide +kernel
theorem dX4_countAllShares_18 : decode cX4_countAllShares 18 = .ok (.iload_n 1, 1) := by decide +kernel
theorem dX4_countAllShares_19 : decode cX4_countAllShares 19 = .ok (.aload_n 0, 1) := by decide +kernel
theorem dX4_countAllShares_20 : decode cX4_countAllShares 20 = .ok (.getfield 12, 3) := by decide +kernel
theorem dX4_countAllShares_23 : decode cX4_countAllShares 23 = .ok (.getfield 72, 3) := by decide +kernel
theorem dX4_countAllShares_26 : decode cX4_countAllShares 26 = .ok (.iload_n 2, 1) := by decide +kernel
theorem dX4_countAllShares_27 : decode cX4_countAllShares 27 = .ok (.iaload, 1) := by decide +kernel
theorem dX4_countAllShares_28 : decode cX4_countAllShares 28 = .ok (.iadd, 1) := by decide +kernel
theorem dX4_countAllShares_29 : decode cX4_countAllShares 29 = .ok (.istore_n 1, 1) := by decide +kernel
theorem dX4_countAllShares_30 : decode cX4_countAllShares 30 = .ok (.iinc 2 1, 3) := by decide +kernel
theorem dX4_countAllShares_33 : decode cX4_countAllShares 33 = .ok (.goto (-26), 3) := by decide +kernel
theorem dX4_countAllShares_36 : decode cX4_countAllShares 36 = .ok (.iload_n 1, 1) := by decide +kernel
theorem dX4_countAllShares_37 : decode cX4_countAllShares 37 = .ok (.ireturn, 1) := by decide +kernel
theorem hy_X4_countAllShares : yX4_countAllShares.cls ≠ "java/lang/invoke/MethodHandle" ∧ yX4_countAllShares.cls ≠ "java/lang/invoke/VarHandle" ∧ (parseMethodDescriptor yX4_countAllShares.desc).map (fun d => d.parameters.length) = some 0 := ⟨by decide +kernel, by decide +kernel, by decide +kernel⟩
set_option maxHeartbeats 4000000 in
set_option maxRecDepth 100000 in
theorem lp_X4_countAllShares {E : zE} {l0 : Launch} {D0 : va_G} {cI0 cJ0 : ClassId} {ad : Nat → Nat → Nat} (hE : zG E l0 D0 cI0 cJ0 ad cX4_countAllShares 3 RX4 0 0) (S : zM) (r : Nat) (hr : r < 5) (hI : Inv0 (S r)) (hR : zR E (some .int) (some (.int (i32 (sp_all (S r))))) (fun X => X = S)) : ∀ (fuel : Nat) (i : Int) (h9 : 0 ≤ i ∧ i ≤ S r 0), (S r 0 - i).toNat < fuel → Z E S 7 [(2, .int (i32 i)), (1, .int (i32 (S r 2 + sm (fun k => S r (19 + 3 * k)) i))), (0, .ref (ad r 0))] [] := by
  intro fuel
  induction fuel with
  | zero => intro _ _ hz; omega
  | succ fuel ih =>
    intro i h9 hz
    have hA := inA hI
    unfold InvA at hA
    refine z_iload_n hE 0 rfl rfl dX4_countAllShares_7 ?_
    refine z_aload_n hE 2 rfl rfl dX4_countAllShares_8 ?_
    refine gf_4_0 hE (ks_m hr (by decide)) zf_X4_12 dX4_countAllShares_9 ?_
    refine gf_1_0 hE (ks_m hr (by decide)) zf_X4_69 dX4_countAllShares_12 ?_
    refine z_icmp_ge (tgt := 36) hE dX4_countAllShares_15 (by decide) ⟨by omega, by omega⟩ ⟨by omega, by omega⟩ (fun c1 => ?_) (fun c1 => ?_)
    · refine z_iload_n hE 1 rfl rfl dX4_countAllShares_36 ?_
      exact z_iret hE hR dX4_countAllShares_37 (congrArg (fun x => some (Value.int (i32 x))) (by unfold sp_all; rw [show i = S r 0 by omega])) (by first | rfl | (simp only [us_id]))
    · refine z_iload_n hE 1 rfl rfl dX4_countAllShares_18 ?_
      refine z_aload_n hE 2 rfl rfl dX4_countAllShares_19 ?_
      refine gf_4_0 hE (ks_m hr (by decide)) zf_X4_12 dX4_countAllShares_20 ?_
      refine gf_1_1 hE (ks_m hr (by decide)) zf_X4_72 dX4_countAllShares_23 ?_
      refine z_iload_n hE 0 rfl rfl dX4_countAllShares_26 ?_
      refine al_2 hE (ks_m hr (by decide)) (by omega) (by omega) dX4_countAllShares_27 ?_
      refine z_iadd hE dX4_countAllShares_28 ?_
      refine z_istore_n hE rfl (by decide) rfl dX4_countAllShares_29 ?_
      refine z_iinc hE 1 rfl (by decide) rfl dX4_countAllShares_30 ?_
      refine z_goto (tgt := 7) hE (d := dX4_countAllShares_33) (ht := by decide) ?_
      refine z_L (L' := [(2, .int (i32 (i + 1))), (1, .int (i32 (S r 2 + sm (fun k => S r (19 + 3 * k)) (i + 1)))), (0, .ref (ad r 0))]) [0, 1, 2] (by rw [show S r 2 + sm (fun k => S r (19 + 3 * k)) (i + 1) = (S r 2 + sm (fun k => S r (19 + 3 * k)) i) + (S r (19 + 3 * i)) from by first | rfl | ((rw [sm_s h9.1]; omega))]; rfl) ?_
      exact ih (i + 1) ⟨by omega, by omega⟩ (by omega)
set_option maxHeartbeats 4000000 in
set_option maxRecDepth 100000 in
theorem c_X4_countAllShares (l0 : Launch) (D0 : va_G) (cI0 cJ0 : ClassId) (ad : Nat → Nat → Nat) (S : zM) (r : Nat) (hr : r < 5) (hI : Inv0 (S r)) : Ct l0 D0 cI0 cJ0 ad yX4_countAllShares cX4_countAllShares 3 (some .int) 0 0 [.ref (ad r 0)] S (some (.int (i32 (sp_all (S r))))) (fun X => X = S) := by
  refine Ct.of (by decide) (Nat.le_of_ble_eq_true rfl) (fun E hE hR => ?_)
  have hE : zG E l0 D0 cI0 cJ0 ad cX4_countAllShares 3 RX4 0 0 := hE
  show Z E S 0 [(0, .ref (ad r 0))] []
  have hA := inA hI
  unfold InvA at hA
  refine z_aload_n hE 0 rfl rfl dX4_countAllShares_0 ?_
  refine gf_4_5 hE (ks_m hr (by decide)) zf_X4_46 dX4_countAllShares_1 ?_
  refine z_istore_n hE rfl (by decide) rfl dX4_countAllShares_4 ?_
  refine z_iconst hE dX4_countAllShares_5 ?_
  refine z_istore_n hE rfl (by decide) rfl dX4_countAllShares_6 ?_
  refine z_L (L' := [(2, .int (i32 0)), (1, .int (i32 (S r 2 + sm (fun k => S r (19 + 3 * k)) 0))), (0, .ref (ad r 0))]) [0, 1, 2] (by rw [show S r 2 + sm (fun k => S r (19 + 3 * k)) 0 = S r 2 from by first | rfl | ((rw [sm_0, Int.add_zero]))]; rfl) ?_
  exact lp_X4_countAllShares hE S r hr hI hR 13 0 ⟨by omega, by omega⟩ (by omega)
theorem dX4_requirementOf_0 : decode cX4_requirementOf 0 = .ok (.aload_n 0, 1) := by decide +kernel
theorem dX4_requirementOf_1 : decode cX4_requirementOf 1 = .ok (.getfield 21, 3) := by decide +kernel
theorem dX4_requirementOf_4 : decode cX4_requirementOf 4 = .ok (.getfield 76, 3) := by decide +kernel
theorem dX4_requirementOf_7 : decode cX4_requirementOf 7 = .ok (.istore_n 2, 1) := by decide +kernel
theorem dX4_requirementOf_8 : decode cX4_requirementOf 8 = .ok (.aload_n 0, 1) := by decide +kernel
theorem dX4_requirementOf_9 : decode cX4_requirementOf 9 = .ok (.getfield 12, 3) := by decide +kernel
theorem dX4_requirementOf_12 : decode cX4_requirementOf 12 = .ok (.getfield 79, 3) := by decide +kernel
theorem dX4_requirementOf_15 : decode cX4_requirementOf 15 = .ok (.iload_n 1, 1) := by decide +kernel
theorem dX4_requirementOf_16 : decode cX4_requirementOf 16 = .ok (.iaload, 1) := by decide +kernel
theorem dX4_requirementOf_17 : decode cX4_requirementOf 17 = .ok (.iload_n 2, 1) := by decide +kernel
theorem dX4_requirementOf_18 : decode cX4_requirementOf 18 = .ok (.iadd, 1) := by decide +kernel
theorem dX4_requirementOf_19 : decode cX4_requirementOf 19 = .ok (.iconst 1, 1) := by decide +kernel
theorem dX4_requirementOf_20 : decode cX4_requirementOf 20 = .ok (.isub, 1) := by decide +kernel
theorem dX4_requirementOf_21 : decode cX4_requirementOf 21 = .ok (.iload_n 2, 1) := by decide +kernel
theorem dX4_requirementOf_22 : decode cX4_requirementOf 22 = .ok (.invokestatic 82, 3) := by decide +kernel
theorem dX4_requirementOf_25 : decode cX4_requirementOf 25 = .ok (.ireturn, 1) := by decide +kernel
theorem hy_X4_requirementOf : yX4_requirementOf.cls ≠ "java/lang/invoke/MethodHandle" ∧ yX4_requirementOf.cls ≠ "java/lang/invoke/VarHandle" ∧ (parseMethodDescriptor yX4_requirementOf.desc).map (fun d => d.parameters.length) = some 1 := ⟨by decide +kernel, by decide +kernel, by decide +kernel⟩
set_option maxHeartbeats 4000000 in
set_option maxRecDepth 100000 in
theorem c_X4_requirementOf (l0 : Launch) (D0 : va_G) (cI0 cJ0 : ClassId) (ad : Nat → Nat → Nat) (S : zM) (r : Nat) (hr : r < 5) (m : Int) (hI : Inv0 (S r)) (h0 : 0 ≤ m ∧ m < 12) : Ct l0 D0 cI0 cJ0 ad yX4_requirementOf cX4_requirementOf 3 (some .int) 2 43 [.ref (ad r 0), .int (i32 m)] S (some (.int (i32 (sp_req (S r) m)))) (fun X => X = S) := by
  refine Ct.of (by decide) (Nat.le_of_ble_eq_true rfl) (fun E hE hR => ?_)
  have hE : zG E l0 D0 cI0 cJ0 ad cX4_requirementOf 3 RX4 2 43 := hE
  show Z E S 0 [(0, .ref (ad r 0)), (1, .int (i32 m))] []
  have hA := inA hI
  unfold InvA at hA
  have hm := inM hI h0.1 h0.2
  refine z_aload_n hE 0 rfl rfl dX4_requirementOf_0 ?_
  refine gf_4_1 hE (ks_m hr (by decide)) zf_X4_21 dX4_requirementOf_1 ?_
  refine gf_5_0 hE (ks_m hr (by decide)) zf_X4_76 dX4_requirementOf_4 ?_
  refine z_istore_n hE rfl (by decide) rfl dX4_requirementOf_7 ?_
  refine z_aload_n hE 1 rfl rfl dX4_requirementOf_8 ?_
  refine gf_4_0 hE (ks_m hr (by decide)) zf_X4_12 dX4_requirementOf_9 ?_
  refine gf_1_2 hE (ks_m hr (by decide)) zf_X4_79 dX4_requirementOf_12 ?_
  refine z_iload_n hE 2 rfl rfl dX4_requirementOf_15 ?_
  refine al_3 hE (ks_m hr (by decide)) (by omega) (by omega) dX4_requirementOf_16 ?_
  refine z_iload_n hE 0 rfl rfl dX4_requirementOf_17 ?_
  refine z_iadd hE dX4_requirementOf_18 ?_
  refine z_iconst hE dX4_requirementOf_19 ?_
  refine z_isub hE dX4_requirementOf_20 ?_
  refine z_iload_n hE 0 rfl rfl dX4_requirementOf_21 ?_
  refine z_callN hE (c_X7_quotient l0 D0 cI0 cJ0 ad S (((S r (20 + 3 * m)) + (S r 1)) - 1) (S r 1) (⟨by omega, by omega⟩) (⟨by omega, by omega⟩) (by omega)) (List.mem_of_getElem? (i := 7) rfl) zt_yX7_quotient zn_RX7 zc_yX7_quotient (hy_X7_quotient) (Nat.le_of_ble_eq_true rfl) (Nat.le_of_ble_eq_true rfl) rfl rfl rfl (Nat.le_of_ble_eq_true rfl) dX4_requirementOf_22 ?_
  exact z_iret hE hR dX4_requirementOf_25 (congrArg (fun x => some (Value.int (i32 x))) (by first | rfl | omega)) (by first | rfl | (simp only [us_id]))
theorem dX4_freeSharesOf_0 : decode cX4_freeSharesOf 0 = .ok (.aload_n 0, 1) := by decide +kernel
theorem dX4_freeSharesOf_1 : decode cX4_freeSharesOf 1 = .ok (.iload_n 1, 1) := by decide +kernel
theorem dX4_freeSharesOf_2 : decode cX4_freeSharesOf 2 = .ok (.invokevirtual 86, 3) := by decide +kernel
theorem dX4_freeSharesOf_5 : decode cX4_freeSharesOf 5 = .ok (.aload_n 0, 1) := by decide +kernel
theorem dX4_freeSharesOf_6 : decode cX4_freeSharesOf 6 = .ok (.getfield 35, 3) := by decide +kernel
theorem dX4_freeSharesOf_9 : decode cX4_freeSharesOf 9 = .ok (.iload_n 1, 1) := by decide +kernel
theorem dX4_freeSharesOf_10 : decode cX4_freeSharesOf 10 = .ok (.invokevirtual 90, 3) := by decide +kernel
theorem dX4_freeSharesOf_13 : decode cX4_freeSharesOf 13 = .ok (.iadd, 1) := by decide +kernel
theorem dX4_freeSharesOf_14 : decode cX4_freeSharesOf 14 = .ok (.istore_n 2, 1) := by decide +kernel
theorem dX4_freeSharesOf_15 : decode cX4_freeSharesOf 15 = .ok (.aload_n 0, 1) := by decide +kernel
theorem dX4_freeSharesOf_16 : decode cX4_freeSharesOf 16 = .ok (.getfield 12, 3) := by decide +kernel
theorem dX4_freeSharesOf_19 : decode cX4_freeSharesOf 19 = .ok (.getfield 72, 3) := by decide +kernel
theorem dX4_freeSharesOf_22 : decode cX4_freeSharesOf 22 = .ok (.iload_n 1, 1) := by decide +kernel
theorem dX4_freeSharesOf_23 : decode cX4_freeSharesOf 23 = .ok (.iaload, 1) := by decide +kernel
theorem dX4_freeSharesOf_24 : decode cX4_freeSharesOf 24 = .ok (.iload_n 2, 1) := by decide +kernel
theorem dX4_freeSharesOf_25 : decode cX4_freeSharesOf 25 = .ok (.isub, 1) := by decide +kernel
theorem dX4_freeSharesOf_26 : decode cX4_freeSharesOf 26 = .ok (.iconst 0, 1) := by decide +kernel
theorem dX4_freeSharesOf_27 : decode cX4_freeSharesOf 27 = .ok (.invokestatic 93, 3) := by decide +kernel
theorem dX4_freeSharesOf_30 : decode cX4_freeSharesOf 30 = .ok (.ireturn, 1) := by decide +kernel
theorem hy_X4_freeSharesOf : yX4_freeSharesOf.cls ≠ "java/lang/invoke/MethodHandle" ∧ yX4_freeSharesOf.cls ≠ "java/lang/invoke/VarHandle" ∧ (parseMethodDescriptor yX4_freeSharesOf.desc).map (fun d => d.parameters.length) = some 1 := ⟨by decide +kernel, by decide +kernel, by decide +kernel⟩
set_option maxHeartbeats 4000000 in
set_option maxRecDepth 100000 in
theorem c_X4_freeSharesOf (l0 : Launch) (D0 : va_G) (cI0 cJ0 : ClassId) (ad : Nat → Nat → Nat) (S : zM) (r : Nat) (hr : r < 5) (m : Int) (hI : Inv0 (S r)) (h0 : 0 ≤ m ∧ m < 12) : Ct l0 D0 cI0 cJ0 ad yX4_freeSharesOf cX4_freeSharesOf 3 (some .int) 3 65 [.ref (ad r 0), .int (i32 m)] S (some (.int (i32 (sp_free (S r) m)))) (fun X => X = S) := by
  refine Ct.of (by decide) (Nat.le_of_ble_eq_true rfl) (fun E hE hR => ?_)
  have hE : zG E l0 D0 cI0 cJ0 ad cX4_freeSharesOf 3 RX4 3 65 := hE
  show Z E S 0 [(0, .ref (ad r 0)), (1, .int (i32 m))] []
  have hA := inA hI
  unfold InvA at hA
  have hm := inM hI h0.1 h0.2
  have h3 := req_b hI h0.1 h0.2
  have h4 := rem_b hI m
  refine z_aload_n hE 0 rfl rfl dX4_freeSharesOf_0 ?_
  refine z_iload_n hE 1 rfl rfl dX4_freeSharesOf_1 ?_
  refine z_callV hE (c_X4_requirementOf l0 D0 cI0 cJ0 ad S r hr m hI (by omega)) (ks_m hr (by decide)) rfl rfl zm_X4_86 zi_yX4_requirementOf zs_yX4_requirementOf zn_RX4 zc_yX4_requirementOf (hy_X4_requirementOf) (Nat.le_of_ble_eq_true rfl) (Nat.le_of_ble_eq_true rfl) rfl rfl rfl (Nat.le_of_ble_eq_true rfl) dX4_freeSharesOf_2 ?_
  refine z_aload_n hE 0 rfl rfl dX4_freeSharesOf_5 ?_
  refine gf_4_3 hE (ks_m hr (by decide)) zf_X4_35 dX4_freeSharesOf_6 ?_
  refine z_iload_n hE 1 rfl rfl dX4_freeSharesOf_9 ?_
  refine z_callV hE (c_X3_remainingOf l0 D0 cI0 cJ0 ad S r hr m (by omega) (by omega) (fun k h1 h2 => by have := inO hI k h1 h2; omega)) (ks_m hr (by decide)) rfl rfl zm_X4_90 zi_yX3_remainingOf zs_yX3_remainingOf zn_RX3 zc_yX3_remainingOf (hy_X3_remainingOf) (Nat.le_of_ble_eq_true rfl) (Nat.le_of_ble_eq_true rfl) rfl rfl rfl (Nat.le_of_ble_eq_true rfl) dX4_freeSharesOf_10 ?_
  refine z_iadd hE dX4_freeSharesOf_13 ?_
  refine z_istore_n hE rfl (by decide) rfl dX4_freeSharesOf_14 ?_
  refine z_aload_n hE 1 rfl rfl dX4_freeSharesOf_15 ?_
  refine gf_4_0 hE (ks_m hr (by decide)) zf_X4_12 dX4_freeSharesOf_16 ?_
  refine gf_1_1 hE (ks_m hr (by decide)) zf_X4_72 dX4_freeSharesOf_19 ?_
  refine z_iload_n hE 2 rfl rfl dX4_freeSharesOf_22 ?_
  refine al_2 hE (ks_m hr (by decide)) (by omega) (by omega) dX4_freeSharesOf_23 ?_
  refine z_iload_n hE 0 rfl rfl dX4_freeSharesOf_24 ?_
  refine z_isub hE dX4_freeSharesOf_25 ?_
  refine z_iconst hE dX4_freeSharesOf_26 ?_
  refine z_max hE zm_X4_93 (by decide) (Nat.le_of_ble_eq_true rfl) ⟨by omega, by omega⟩ ⟨by omega, by omega⟩ dX4_freeSharesOf_27 ?_
  exact z_iret hE hR dX4_freeSharesOf_30 (congrArg (fun x => some (Value.int (i32 x))) (by first | rfl | omega)) (by first | rfl | (simp only [us_id]))
theorem dX4_roomOf_0 : decode cX4_roomOf 0 = .ok (.aload_n 0, 1) := by decide +kernel
theorem dX4_roomOf_1 : decode cX4_roomOf 1 = .ok (.invokevirtual 98, 3) := by decide +kernel
theorem dX4_roomOf_4 : decode cX4_roomOf 4 = .ok (.aload_n 0, 1) := by decide +kernel
theorem dX4_roomOf_5 : decode cX4_roomOf 5 = .ok (.getfield 21, 3) := by decide +kernel
theorem dX4_roomOf_8 : decode cX4_roomOf 8 = .ok (.getfield 102, 3) := by decide +kernel
theorem dX4_roomOf_11 : decode cX4_roomOf 11 = .ok (.imul, 1) := by decide +kernel
theorem dX4_roomOf_12 : decode cX4_roomOf 12 = .ok (.bipush 100, 2) := by decide +kernel
theorem dX4_roomOf_14 : decode cX4_roomOf 14 = .ok (.invokestatic 82, 3) := by decide +kernel
theorem dX4_roomOf_17 : decode cX4_roomOf 17 = .ok (.istore_n 2, 1) := by decide +kernel
theorem dX4_roomOf_18 : decode cX4_roomOf 18 = .ok (.iload_n 2, 1) := by decide +kernel
theorem dX4_roomOf_19 : decode cX4_roomOf 19 = .ok (.aload_n 0, 1) := by decide +kernel
theorem dX4_roomOf_20 : decode cX4_roomOf 20 = .ok (.getfield 12, 3) := by decide +kernel
theorem dX4_roomOf_23 : decode cX4_roomOf 23 = .ok (.getfield 72, 3) := by decide +kernel
theorem dX4_roomOf_26 : decode cX4_roomOf 26 = .ok (.iload_n 1, 1) := by decide +kernel
theorem dX4_roomOf_27 : decode cX4_roomOf 27 = .ok (.iaload, 1) := by decide +kernel
theorem dX4_roomOf_28 : decode cX4_roomOf 28 = .ok (.isub, 1) := by decide +kernel
theorem dX4_roomOf_29 : decode cX4_roomOf 29 = .ok (.iconst 0, 1) := by decide +kernel
theorem dX4_roomOf_30 : decode cX4_roomOf 30 = .ok (.invokestatic 93, 3) := by decide +kernel
theorem dX4_roomOf_33 : decode cX4_roomOf 33 = .ok (.ireturn, 1) := by decide +kernel
theorem hy_X4_roomOf : yX4_roomOf.cls ≠ "java/lang/invoke/MethodHandle" ∧ yX4_roomOf.cls ≠ "java/lang/invoke/VarHandle" ∧ (parseMethodDescriptor yX4_roomOf.desc).map (fun d => d.parameters.length) = some 1 := ⟨by decide +kernel, by decide +kernel, by decide +kernel⟩
set_option maxHeartbeats 4000000 in
set_option maxRecDepth 100000 in
theorem c_X4_roomOf (l0 : Launch) (D0 : va_G) (cI0 cJ0 : ClassId) (ad : Nat → Nat → Nat) (S : zM) (r : Nat) (hr : r < 5) (m : Int) (hI : Inv0 (S r)) (h0 : 0 ≤ m ∧ m < 12) : Ct l0 D0 cI0 cJ0 ad yX4_roomOf cX4_roomOf 3 (some .int) 2 43 [.ref (ad r 0), .int (i32 m)] S (some (.int (i32 (sp_room (S r) m)))) (fun X => X = S) := by
  refine Ct.of (by decide) (Nat.le_of_ble_eq_true rfl) (fun E hE hR => ?_)
  have hE : zG E l0 D0 cI0 cJ0 ad cX4_roomOf 3 RX4 2 43 := hE
  show Z E S 0 [(0, .ref (ad r 0)), (1, .int (i32 m))] []
  have hA := inA hI
  unfold InvA at hA
  have hm := inM hI h0.1 h0.2
  have h3 := room_b hI h0.1 h0.2
  have h4 := inT hI
  refine z_aload_n hE 0 rfl rfl dX4_roomOf_0 ?_
  refine z_callV hE (c_X4_countAllShares l0 D0 cI0 cJ0 ad S r hr hI) (ks_m hr (by decide)) rfl rfl zm_X4_98 zi_yX4_countAllShares zs_yX4_countAllShares zn_RX4 zc_yX4_countAllShares (hy_X4_countAllShares) (Nat.le_of_ble_eq_true rfl) (Nat.le_of_ble_eq_true rfl) rfl rfl rfl (Nat.le_of_ble_eq_true rfl) dX4_roomOf_1 ?_
  refine z_aload_n hE 0 rfl rfl dX4_roomOf_4 ?_
  refine gf_4_1 hE (ks_m hr (by decide)) zf_X4_21 dX4_roomOf_5 ?_
  refine gf_5_3 hE (ks_m hr (by decide)) zf_X4_102 dX4_roomOf_8 ?_
  refine z_imul hE dX4_roomOf_11 ?_
  refine z_bipush (a := 100) hE (by decide) dX4_roomOf_12 ?_
  refine z_callN hE (c_X7_quotient l0 D0 cI0 cJ0 ad S ((sp_all ((S r))) * (S r 4)) 100 (⟨by omega, by omega⟩) (⟨by omega, by omega⟩) (by omega)) (List.mem_of_getElem? (i := 7) rfl) zt_yX7_quotient zn_RX7 zc_yX7_quotient (hy_X7_quotient) (Nat.le_of_ble_eq_true rfl) (Nat.le_of_ble_eq_true rfl) rfl rfl rfl (Nat.le_of_ble_eq_true rfl) dX4_roomOf_14 ?_
  refine z_istore_n hE rfl (by decide) rfl dX4_roomOf_17 ?_
  refine z_iload_n hE 0 rfl rfl dX4_roomOf_18 ?_
  refine z_aload_n hE 1 rfl rfl dX4_roomOf_19 ?_
  refine gf_4_0 hE (ks_m hr (by decide)) zf_X4_12 dX4_roomOf_20 ?_
  refine gf_1_1 hE (ks_m hr (by decide)) zf_X4_72 dX4_roomOf_23 ?_
  refine z_iload_n hE 2 rfl rfl dX4_roomOf_26 ?_
  refine al_2 hE (ks_m hr (by decide)) (by omega) (by omega) dX4_roomOf_27 ?_
  refine z_isub hE dX4_roomOf_28 ?_
  refine z_iconst hE dX4_roomOf_29 ?_
  refine z_max hE zm_X4_93 (by decide) (Nat.le_of_ble_eq_true rfl) ⟨by omega, by omega⟩ ⟨by omega, by omega⟩ dX4_roomOf_30 ?_
  exact z_iret hE hR dX4_roomOf_33 (congrArg (fun x => some (Value.int (i32 x))) (by first | rfl | omega)) (by first | rfl | (simp only [us_id]))
theorem dX4_isNeedy_0 : decode cX4_isNeedy 0 = .ok (.aload_n 0, 1) := by decide +kernel
theorem dX4_isNeedy_1 : decode cX4_isNeedy 1 = .ok (.getfield 12, 3) := by decide +kernel
theorem dX4_isNeedy_4 : decode cX4_isNeedy 4 = .ok (.getfield 72, 3) := by decide +kernel
theorem dX4_isNeedy_7 : decode cX4_isNeedy 7 = .ok (.iload_n 1, 1) := by decide +kernel
theorem dX4_isNeedy_8 : decode cX4_isNeedy 8 = .ok (.iaload, 1) := by decide +kernel
theorem dX4_isNeedy_9 : decode cX4_isNeedy 9 = .ok (.aload_n 0, 1) := by decide +kernel
theorem dX4_isNeedy_10 : decode cX4_isNeedy 10 = .ok (.iload_n 1, 1) := by decide +kernel
theorem dX4_isNeedy_11 : decode cX4_isNeedy 11 = .ok (.invokevirtual 86, 3) := by decide +kernel
theorem dX4_isNeedy_14 : decode cX4_isNeedy 14 = .ok (.if_icmp .ge 7, 3) := by decide +kernel
theorem dX4_isNeedy_17 : decode cX4_isNeedy 17 = .ok (.iconst 1, 1) := by decide +kernel
theorem dX4_isNeedy_18 : decode cX4_isNeedy 18 = .ok (.goto 4, 3) := by decide +kernel
theorem dX4_isNeedy_21 : decode cX4_isNeedy 21 = .ok (.iconst 0, 1) := by decide +kernel
theorem dX4_isNeedy_22 : decode cX4_isNeedy 22 = .ok (.ireturn, 1) := by decide +kernel
theorem hy_X4_isNeedy : yX4_isNeedy.cls ≠ "java/lang/invoke/MethodHandle" ∧ yX4_isNeedy.cls ≠ "java/lang/invoke/VarHandle" ∧ (parseMethodDescriptor yX4_isNeedy.desc).map (fun d => d.parameters.length) = some 1 := ⟨by decide +kernel, by decide +kernel, by decide +kernel⟩
set_option maxHeartbeats 4000000 in
set_option maxRecDepth 100000 in
theorem c_X4_isNeedy (l0 : Launch) (D0 : va_G) (cI0 cJ0 : ClassId) (ad : Nat → Nat → Nat) (S : zM) (r : Nat) (hr : r < 5) (m : Int) (hI : Inv0 (S r)) (h0 : 0 ≤ m ∧ m < 12) : Ct l0 D0 cI0 cJ0 ad yX4_isNeedy cX4_isNeedy 2 (some .boolean) 3 65 [.ref (ad r 0), .int (i32 m)] S (some (.int (i32 (zbo (sp_needy (S r) m))))) (fun X => X = S) := by
  refine Ct.of (by decide) (Nat.le_of_ble_eq_true rfl) (fun E hE hR => ?_)
  have hE : zG E l0 D0 cI0 cJ0 ad cX4_isNeedy 2 RX4 3 65 := hE
  show Z E S 0 [(0, .ref (ad r 0)), (1, .int (i32 m))] []
  have hA := inA hI
  unfold InvA at hA
  have hm := inM hI h0.1 h0.2
  have h3 := req_b hI h0.1 h0.2
  refine z_aload_n hE 0 rfl rfl dX4_isNeedy_0 ?_
  refine gf_4_0 hE (ks_m hr (by decide)) zf_X4_12 dX4_isNeedy_1 ?_
  refine gf_1_1 hE (ks_m hr (by decide)) zf_X4_72 dX4_isNeedy_4 ?_
  refine z_iload_n hE 1 rfl rfl dX4_isNeedy_7 ?_
  refine al_2 hE (ks_m hr (by decide)) (by omega) (by omega) dX4_isNeedy_8 ?_
  refine z_aload_n hE 0 rfl rfl dX4_isNeedy_9 ?_
  refine z_iload_n hE 1 rfl rfl dX4_isNeedy_10 ?_
  refine z_callV hE (c_X4_requirementOf l0 D0 cI0 cJ0 ad S r hr m hI (by omega)) (ks_m hr (by decide)) rfl rfl zm_X4_86 zi_yX4_requirementOf zs_yX4_requirementOf zn_RX4 zc_yX4_requirementOf (hy_X4_requirementOf) (Nat.le_of_ble_eq_true rfl) (Nat.le_of_ble_eq_true rfl) rfl rfl rfl (Nat.le_of_ble_eq_true rfl) dX4_isNeedy_11 ?_
  refine z_icmp_ge (tgt := 21) hE dX4_isNeedy_14 (by decide) ⟨by omega, by omega⟩ ⟨by omega, by omega⟩ (fun c1 => ?_) (fun c1 => ?_)
  · refine z_iconst hE dX4_isNeedy_21 ?_
    exact z_zret hE hR dX4_isNeedy_22 (by decide) (congrArg (fun x => some (Value.int (i32 x))) (by first | rfl | (unfold zbo; first | rw [if_pos (by omega)] | rw [if_neg (by omega)]))) (by first | rfl | (simp only [us_id]))
  · refine z_iconst hE dX4_isNeedy_17 ?_
    refine z_goto (tgt := 22) hE (d := dX4_isNeedy_18) (ht := by decide) ?_
    exact z_zret hE hR dX4_isNeedy_22 (by decide) (congrArg (fun x => some (Value.int (i32 x))) (by first | rfl | (unfold zbo; first | rw [if_pos (by omega)] | rw [if_neg (by omega)]))) (by first | rfl | (simp only [us_id]))
theorem dX4_canClaim_0 : decode cX4_canClaim 0 = .ok (.aload_n 0, 1) := by decide +kernel
theorem dX4_canClaim_1 : decode cX4_canClaim 1 = .ok (.getfield 35, 3) := by decide +kernel
theorem dX4_canClaim_4 : decode cX4_canClaim 4 = .ok (.getfield 105, 3) := by decide +kernel
theorem dX4_canClaim_7 : decode cX4_canClaim 7 = .ok (.iload_n 1, 1) := by decide +kernel
theorem dX4_canClaim_8 : decode cX4_canClaim 8 = .ok (.iaload, 1) := by decide +kernel
theorem dX4_canClaim_9 : decode cX4_canClaim 9 = .ok (.iload_n 2, 1) := by decide +kernel
theorem dX4_canClaim_10 : decode cX4_canClaim 10 = .ok (.if_icmp .ne 5, 3) := by decide +kernel
theorem dX4_canClaim_13 : decode cX4_canClaim 13 = .ok (.iconst 0, 1) := by decide +kernel
theorem dX4_canClaim_14 : decode cX4_canClaim 14 = .ok (.ireturn, 1) := by decide +kernel
theorem dX4_canClaim_15 : decode cX4_canClaim 15 = .ok (.aload_n 0, 1) := by decide +kernel
theorem dX4_canClaim_16 : decode cX4_canClaim 16 = .ok (.getfield 35, 3) := by decide +kernel
theorem dX4_canClaim_19 : decode cX4_canClaim 19 = .ok (.getfield 108, 3) := by decide +kernel
theorem dX4_canClaim_22 : decode cX4_canClaim 22 = .ok (.iload_n 1, 1) := by decide +kernel
theorem dX4_canClaim_23 : decode cX4_canClaim 23 = .ok (.iaload, 1) := by decide +kernel
theorem dX4_canClaim_24 : decode cX4_canClaim 24 = .ok (.lookupswitch 36 #[(0, 28), (1, 34)], 28) := by decide +kernel
theorem dX4_canClaim_52 : decode cX4_canClaim 52 = .ok (.aload_n 0, 1) := by decide +kernel
theorem dX4_canClaim_53 : decode cX4_canClaim 53 = .ok (.iload_n 2, 1) := by decide +kernel
theorem dX4_canClaim_54 : decode cX4_canClaim 54 = .ok (.invokevirtual 111, 3) := by decide +kernel
theorem dX4_canClaim_57 : decode cX4_canClaim 57 = .ok (.ireturn, 1) := by decide +kernel
theorem dX4_canClaim_58 : decode cX4_canClaim 58 = .ok (.iconst 1, 1) := by decide +kernel
theorem dX4_canClaim_59 : decode cX4_canClaim 59 = .ok (.ireturn, 1) := by decide +kernel
theorem dX4_canClaim_60 : decode cX4_canClaim 60 = .ok (.iconst 0, 1) := by decide +kernel
theorem dX4_canClaim_61 : decode cX4_canClaim 61 = .ok (.ireturn, 1) := by decide +kernel
theorem hy_X4_canClaim : yX4_canClaim.cls ≠ "java/lang/invoke/MethodHandle" ∧ yX4_canClaim.cls ≠ "java/lang/invoke/VarHandle" ∧ (parseMethodDescriptor yX4_canClaim.desc).map (fun d => d.parameters.length) = some 2 := ⟨by decide +kernel, by decide +kernel, by decide +kernel⟩
set_option maxHeartbeats 4000000 in
set_option maxRecDepth 100000 in
theorem c_X4_canClaim (l0 : Launch) (D0 : va_G) (cI0 cJ0 : ClassId) (ad : Nat → Nat → Nat) (S : zM) (r : Nat) (hr : r < 5) (o : Int) (m : Int) (hI : Inv0 (S r)) (h1 : 0 ≤ o ∧ o < S r 14) (h0 : 0 ≤ m ∧ m < 12) : Ct l0 D0 cI0 cJ0 ad yX4_canClaim cX4_canClaim 3 (some .boolean) 4 86 [.ref (ad r 0), .int (i32 o), .int (i32 m)] S (some (.int (i32 (zbo (sp_can (S r) o m))))) (fun X => X = S) := by
  refine Ct.of (by decide) (Nat.le_of_ble_eq_true rfl) (fun E hE hR => ?_)
  have hE : zG E l0 D0 cI0 cJ0 ad cX4_canClaim 3 RX4 4 86 := hE
  show Z E S 0 [(0, .ref (ad r 0)), (1, .int (i32 o)), (2, .int (i32 m))] []
  have hA := inA hI
  unfold InvA at hA
  have hm := inM hI h0.1 h0.2
  have ho := inO hI o h1.1 h1.2
  refine z_aload_n hE 0 rfl rfl dX4_canClaim_0 ?_
  refine gf_4_3 hE (ks_m hr (by decide)) zf_X4_35 dX4_canClaim_1 ?_
  refine gf_3_1 hE (ks_m hr (by decide)) zf_X4_105 dX4_canClaim_4 ?_
  refine z_iload_n hE 1 rfl rfl dX4_canClaim_7 ?_
  refine al_9 hE (ks_m hr (by decide)) (by omega) (by omega) dX4_canClaim_8 ?_
  refine z_iload_n hE 2 rfl rfl dX4_canClaim_9 ?_
  refine z_icmp_ne (tgt := 15) hE dX4_canClaim_10 (by decide) ⟨by omega, by omega⟩ ⟨by omega, by omega⟩ (fun c1 => ?_) (fun c1 => ?_)
  · refine z_aload_n hE 0 rfl rfl dX4_canClaim_15 ?_
    refine gf_4_3 hE (ks_m hr (by decide)) zf_X4_35 dX4_canClaim_16 ?_
    refine gf_3_5 hE (ks_m hr (by decide)) zf_X4_108 dX4_canClaim_19 ?_
    refine z_iload_n hE 1 rfl rfl dX4_canClaim_22 ?_
    refine al_13 hE (ks_m hr (by decide)) (by omega) (by omega) dX4_canClaim_23 ?_
    by_cases k24_0 : S r (59 + 22 * o) = 0
    · refine z_look (tgt := 52) (off := 28) hE dX4_canClaim_24 ⟨by omega, by omega⟩ (by decide) (by simp [Op.lookupswitch.offset_cons, Op.lookupswitch.offset_nil, k24_0]) (by decide) ?_
      refine z_aload_n hE 0 rfl rfl dX4_canClaim_52 ?_
      refine z_iload_n hE 2 rfl rfl dX4_canClaim_53 ?_
      refine z_callV hE (c_X4_isNeedy l0 D0 cI0 cJ0 ad S r hr m hI (by omega)) (ks_m hr (by decide)) rfl rfl zm_X4_111 zi_yX4_isNeedy zs_yX4_isNeedy zn_RX4 zc_yX4_isNeedy (hy_X4_isNeedy) (Nat.le_of_ble_eq_true rfl) (Nat.le_of_ble_eq_true rfl) rfl rfl rfl (Nat.le_of_ble_eq_true rfl) dX4_canClaim_54 ?_
      exact z_zret hE hR dX4_canClaim_57 (by unfold zbo; split <;> omega) (congrArg (fun x => some (Value.int (i32 x))) (by first | exact zbo_cg (by omega) | exact (zbo_t (by omega)) | exact zbo_f (by omega))) (by first | rfl | (simp only [us_id]))
    by_cases k24_1 : S r (59 + 22 * o) = 1
    · refine z_look (tgt := 58) (off := 34) hE dX4_canClaim_24 ⟨by omega, by omega⟩ (by decide) (by simp [Op.lookupswitch.offset_cons, Op.lookupswitch.offset_nil, k24_0, k24_1]) (by decide) ?_
      refine z_iconst hE dX4_canClaim_58 ?_
      exact z_zret hE hR dX4_canClaim_59 (by decide) (congrArg (fun x => some (Value.int (i32 x))) (by first | exact zbo_cg (by omega) | exact (zbo_t (by omega)) | exact zbo_f (by omega))) (by first | rfl | (simp only [us_id]))
    refine z_look (tgt := 60) (off := 36) hE dX4_canClaim_24 ⟨by omega, by omega⟩ (by decide) (by simp [Op.lookupswitch.offset_cons, Op.lookupswitch.offset_nil]; omega) (by decide) ?_
    refine z_iconst hE dX4_canClaim_60 ?_
    exact z_zret hE hR dX4_canClaim_61 (by decide) (congrArg (fun x => some (Value.int (i32 x))) (by first | exact zbo_cg (by omega) | exact (zbo_t (by omega)) | exact zbo_f (by omega))) (by first | rfl | (simp only [us_id]))
  · refine z_iconst hE dX4_canClaim_13 ?_
    exact z_zret hE hR dX4_canClaim_14 (by decide) (congrArg (fun x => some (Value.int (i32 x))) (by first | exact zbo_cg (by omega) | exact (zbo_t (by omega)) | exact zbo_f (by omega))) (by first | rfl | (simp only [us_id]))
theorem divi_ne {v : Int} {s : Int → Int} : ∀ {n : Nat} {q : Int}, (∀ k : Int, 0 ≤ k → k < n → q ≠ 21 + 3 * k) → sp_divi v s n q = s q
  | 0, _, _ => rfl
  | n + 1, q, h => by
    show uq _ _ _ q = _
    rw [uq_ne (h n (by omega) (by omega))]
    exact divi_ne fun k h1 h2 => h k h1 (by omega)
theorem divi_s {v : Int} {s : Int → Int} {i : Int} (h : 0 ≤ i) : sp_divi v s (i + 1).toNat = uq (sp_divi v s i.toNat) (21 + 3 * i) (s (19 + 3 * i) * s 5 * v / 100) := by
  rw [show (i + 1).toNat = i.toNat + 1 by omega]
  show uq _ _ _ = _
  rw [Int.toNat_of_nonneg h]
