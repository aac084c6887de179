theorem dX8_begins_0 : decode cX8_begins 0 = .ok (.aload_n 0, 1) := by decide +kernel
theorem dX8_begins_1 : decode cX8_begins 1 = .ok (.getfield 7, 3) := by decide +kernel
theorem dX8_begins_4 : decode cX8_begins 4 = .ok (.iload_n 1, 1) := by decide +kernel
theorem dX8_begins_5 : decode cX8_begins 5 = .ok (.iconst 4, 1) := by decide +kernel
theorem dX8_begins_6 : decode cX8_begins 6 = .ok (.invokestatic 54, 3) := by decide +kernel
theorem dX8_begins_9 : decode cX8_begins 9 = .ok (.lload_n 2, 1) := by decide +kernel
theorem dX8_begins_10 : decode cX8_begins 10 = .ok (.lastore, 1) := by decide +kernel
theorem dX8_begins_11 : decode cX8_begins 11 = .ok (.aload_n 0, 1) := by decide +kernel
theorem dX8_begins_12 : decode cX8_begins 12 = .ok (.getfield 7, 3) := by decide +kernel
theorem dX8_begins_15 : decode cX8_begins 15 = .ok (.iload_n 1, 1) := by decide +kernel
theorem dX8_begins_16 : decode cX8_begins 16 = .ok (.iconst 5, 1) := by decide +kernel
theorem dX8_begins_17 : decode cX8_begins 17 = .ok (.invokestatic 54, 3) := by decide +kernel
theorem dX8_begins_20 : decode cX8_begins 20 = .ok (.aload_n 0, 1) := by decide +kernel
theorem dX8_begins_21 : decode cX8_begins 21 = .ok (.getfield 7, 3) := by decide +kernel
theorem dX8_begins_24 : decode cX8_begins 24 = .ok (.bipush 13, 2) := by decide +kernel
theorem dX8_begins_26 : decode cX8_begins 26 = .ok (.laload, 1) := by decide +kernel
theorem dX8_begins_27 : decode cX8_begins 27 = .ok (.lastore, 1) := by decide +kernel
theorem dX8_begins_28 : decode cX8_begins 28 = .ok (.iconst 0, 1) := by decide +kernel
theorem dX8_begins_29 : decode cX8_begins 29 = .ok (.istore 4, 2) := by decide +kernel
theorem dX8_begins_31 : decode cX8_begins 31 = .ok (.iload 4, 2) := by decide +kernel
theorem dX8_begins_33 : decode cX8_begins 33 = .ok (.bipush 12, 2) := by decide +kernel
theorem dX8_begins_35 : decode cX8_begins 35 = .ok (.if_icmp .ge 24, 3) := by decide +kernel
theorem dX8_begins_38 : decode cX8_begins 38 = .ok (.aload_n 0, 1) := by decide +kernel
theorem dX8_begins_39 : decode cX8_begins 39 = .ok (.getfield 7, 3) := by decide +kernel
theorem dX8_begins_42 : decode cX8_begins 42 = .ok (.iload_n 1, 1) := by decide +kernel
theorem dX8_begins_43 : decode cX8_begins 43 = .ok (.bipush 10, 2) := by decide +kernel
theorem dX8_begins_45 : decode cX8_begins 45 = .ok (.iload 4, 2) := by decide +kernel
theorem dX8_begins_47 : decode cX8_begins 47 = .ok (.iadd, 1) := by decide +kernel
theorem dX8_begins_48 : decode cX8_begins 48 = .ok (.invokestatic 54, 3) := by decide +kernel
theorem dX8_begins_51 : decode cX8_begins 51 = .ok (.lconst 0, 1) := by decide +kernel
theorem dX8_begins_52 : decode cX8_begins 52 = .ok (.lastore, 1) := by decide +kernel
theorem dX8_begins_53 : decode cX8_begins 53 = .ok (.iinc 4 1, 3) := by decide +kernel
theorem dX8_begins_56 : decode cX8_begins 56 = .ok (.goto (-25), 3) := by decide +kernel
theorem dX8_begins_59 : decode cX8_begins 59 = .ok (.return_, 1) := by decide +kernel
theorem hy_X8_begins : yX8_begins.cls ≠ "java/lang/invoke/MethodHandle" ∧ yX8_begins.cls ≠ "java/lang/invoke/VarHandle" ∧ (parseMethodDescriptor yX8_begins.desc).map (fun d => d.parameters.length) = some 2 := ⟨by decide +kernel, by decide +kernel, by decide +kernel⟩
set_option maxHeartbeats 4000000 in
set_option maxRecDepth 100000 in
theorem lp_X8_begins {E : zE} {l0 : Launch} {D0 : va_G} {cI0 cJ0 : ClassId} {ad : Nat → Nat → Nat} (hE : zG E l0 D0 cI0 cJ0 ad cX8_begins 5 RX8 1 21) (S : zM) (o : Int) (st : Int) (len : Int) (h0 : 0 ≤ o ∧ o < 20) (h1 : -10 ≤ st ∧ st ≤ 10) (hR : zR E none none (fun X => X = (us S 7 (sp_begin (S 7) o st len)))) : ∀ (fuel : Nat) (i : Int) (h9 : 0 ≤ i ∧ i ≤ 12), (12 - i).toNat < fuel → Z E (us S 7 (clr (up (up (S 7) (59 + 22 * o) st) (60 + 22 * o) (S 7 13)) (65 + 22 * o) i)) 31 [(4, .int (i32 i)), (0, .ref (ad 6 27)), (1, .int (i32 o)), (2, .long (i64 st))] [] := by
  intro fuel
  induction fuel with
  | zero => intro _ _ hz; omega
  | succ fuel ih =>
    intro i h9 hz
    have h67 : (6 : Nat) ≠ 7 := by decide
    have h76 : (7 : Nat) ≠ 6 := by decide
    have h68 : (6 : Nat) ≠ 8 := by decide
    have h86 : (8 : Nat) ≠ 6 := by decide
    have h78 : (7 : Nat) ≠ 8 := by decide
    have h87 : (8 : Nat) ≠ 7 := by decide
    refine z_iload hE 0 rfl dX8_begins_31 ?_
    refine z_bipush (a := 12) hE (by decide) dX8_begins_33 ?_
    refine z_icmp_ge (tgt := 59) hE dX8_begins_35 (by decide) ⟨by omega, by omega⟩ ⟨by omega, by omega⟩ (fun c1 => ?_) (fun c1 => ?_)
    · rw [show i = 12 by omega]
      refine z_mem7 hE (g := sp_begin (S 7) o st len) (fun q hq hq2 => begin_7 h0 hq hq2) ?_
      exact z_vret hE hR dX8_begins_59 rfl (by first | rfl | (simp only [us_id]))
    · refine z_aload_n hE 1 rfl rfl dX8_begins_38 ?_
      refine gf_8_0 hE (by decide) zf_X8_7 dX8_begins_39 ?_
      refine z_iload_n hE 2 rfl rfl dX8_begins_42 ?_
      refine z_bipush (a := 10) hE (by decide) dX8_begins_43 ?_
      refine z_iload hE 0 rfl dX8_begins_45 ?_
      refine z_iadd hE dX8_begins_47 ?_
      refine z_callS hE (c_X8_o l0 D0 cI0 cJ0 ad (us S 7 (clr (up (up (S 7) (59 + 22 * o) st) (60 + 22 * o) (S 7 13)) (65 + 22 * o) i)) o (10 + i) (65 + 22 * o + i) (by first | omega | (simp only [us_eq, us_ne h67, us_ne h76, us_ne h68, us_ne h86, us_ne h78, us_ne h87]; omega))) zm_X8_54 zt_yX8_o zn_RX8 zc_yX8_o (hy_X8_o) (Nat.le_of_ble_eq_true rfl) (Nat.le_of_ble_eq_true rfl) rfl rfl rfl (Nat.le_of_ble_eq_true rfl) dX8_begins_48 ?_
      try simp only [us_eq, us_us, us_ne h67, us_ne h76, us_ne h68, us_ne h86, us_ne h78, us_ne h87, us_in h67, us_in h76]
      refine z_lconst (a := 0) hE rfl dX8_begins_51 ?_
      refine as_28 hE (by decide) (by omega) (by omega) dX8_begins_52 ?_
      try simp only [us_eq, us_us, us_ne h67, us_ne h76, us_ne h68, us_ne h86, us_ne h78, us_ne h87, us_in h67, us_in h76]
      refine z_iinc hE 0 rfl (by decide) rfl dX8_begins_53 ?_
      refine z_goto (tgt := 31) hE (d := dX8_begins_56) (ht := by decide) ?_
      refine z_L (L' := [(4, .int (i32 (i + 1))), (0, .ref (ad 6 27)), (1, .int (i32 o)), (2, .long (i64 st))]) [0, 1, 2, 3] (by rfl) ?_
      rw [clr_s h9.1]
      exact ih (i + 1) ⟨by omega, by omega⟩ (by omega)
set_option maxHeartbeats 4000000 in
set_option maxRecDepth 100000 in
theorem c_X8_begins (l0 : Launch) (D0 : va_G) (cI0 cJ0 : ClassId) (ad : Nat → Nat → Nat) (S : zM) (o : Int) (st : Int) (len : Int) (h0 : 0 ≤ o ∧ o < 20) (h1 : -10 ≤ st ∧ st ≤ 10) : Ct l0 D0 cI0 cJ0 ad yX8_begins cX8_begins 5 none 1 21 [.ref (ad 6 27), .int (i32 o), .long (i64 st)] S none (fun X => X = (us S 7 (sp_begin (S 7) o st len))) := by
  refine Ct.of (by decide) (Nat.le_of_ble_eq_true rfl) (fun E hE hR => ?_)
  have hE : zG E l0 D0 cI0 cJ0 ad cX8_begins 5 RX8 1 21 := hE
  show Z E S 0 [(0, .ref (ad 6 27)), (1, .int (i32 o)), (2, .long (i64 st))] []
  have h67 : (6 : Nat) ≠ 7 := by decide
  have h76 : (7 : Nat) ≠ 6 := by decide
  have h68 : (6 : Nat) ≠ 8 := by decide
  have h86 : (8 : Nat) ≠ 6 := by decide
  have h78 : (7 : Nat) ≠ 8 := by decide
  have h87 : (8 : Nat) ≠ 7 := by decide
  refine z_aload_n hE 0 rfl rfl dX8_begins_0 ?_
  refine gf_8_0 hE (by decide) zf_X8_7 dX8_begins_1 ?_
  refine z_iload_n hE 1 rfl rfl dX8_begins_4 ?_
  refine z_iconst hE dX8_begins_5 ?_
  refine z_callS hE (c_X8_o l0 D0 cI0 cJ0 ad S o 4 (59 + 22 * o) (by omega)) zm_X8_54 zt_yX8_o zn_RX8 zc_yX8_o (hy_X8_o) (Nat.le_of_ble_eq_true rfl) (Nat.le_of_ble_eq_true rfl) rfl rfl rfl (Nat.le_of_ble_eq_true rfl) dX8_begins_6 ?_
  refine z_lload_n hE 2 rfl rfl dX8_begins_9 ?_
  refine as_28 hE (by decide) (by omega) (by omega) dX8_begins_10 ?_
  refine z_aload_n hE 0 rfl rfl dX8_begins_11 ?_
  refine gf_8_0 hE (by decide) zf_X8_7 dX8_begins_12 ?_
  refine z_iload_n hE 1 rfl rfl dX8_begins_15 ?_
  refine z_iconst hE dX8_begins_16 ?_
  refine z_callS hE (c_X8_o l0 D0 cI0 cJ0 ad (us S 7 (up (S 7) (((59 + 22 * o))) st)) o 5 (60 + 22 * o) (by first | omega | (simp only [us_eq, us_ne h67, us_ne h76, us_ne h68, us_ne h86, us_ne h78, us_ne h87]; omega))) zm_X8_54 zt_yX8_o zn_RX8 zc_yX8_o (hy_X8_o) (Nat.le_of_ble_eq_true rfl) (Nat.le_of_ble_eq_true rfl) rfl rfl rfl (Nat.le_of_ble_eq_true rfl) dX8_begins_17 ?_
  try simp only [us_eq, us_us, us_ne h67, us_ne h76, us_ne h68, us_ne h86, us_ne h78, us_ne h87, us_in h67, us_in h76]
  refine z_aload_n hE 0 rfl rfl dX8_begins_20 ?_
  refine gf_8_0 hE (by decide) zf_X8_7 dX8_begins_21 ?_
  refine z_bipush (a := 13) hE (by decide) dX8_begins_24 ?_
  refine al_28 hE (by decide) (by omega) (by omega) dX8_begins_26 ?_
  try simp only [us_eq, us_us, us_ne h67, us_ne h76, us_ne h68, us_ne h86, us_ne h78, us_ne h87, us_in h67, us_in h76]
  rw [up_ne (show 13 ≠ 59 + 22 * o by omega)]
  refine as_28 hE (by decide) (by omega) (by omega) dX8_begins_27 ?_
  try simp only [us_eq, us_us, us_ne h67, us_ne h76, us_ne h68, us_ne h86, us_ne h78, us_ne h87, us_in h67, us_in h76]
  refine z_iconst hE dX8_begins_28 ?_
  refine z_istore hE (by decide) rfl dX8_begins_29 ?_
  refine z_L (L' := [(4, .int (i32 0)), (0, .ref (ad 6 27)), (1, .int (i32 o)), (2, .long (i64 st))]) [0, 1, 2, 3] (by rfl) ?_
  rw [show up (up (S 7) (59 + 22 * o) st) (60 + 22 * o) (S 7 13) = clr (up (up (S 7) (59 + 22 * o) st) (60 + 22 * o) (S 7 13)) (65 + 22 * o) 0 from (clr_0 _ _).symm]
  exact lp_X8_begins hE S o st len h0 h1 hR 13 0 ⟨by omega, by omega⟩ (by omega)
theorem dX8_join_0 : decode cX8_join 0 = .ok (.aload_n 0, 1) := by decide +kernel
theorem dX8_join_1 : decode cX8_join 1 = .ok (.getfield 7, 3) := by decide +kernel
theorem dX8_join_4 : decode cX8_join 4 = .ok (.iconst 0, 1) := by decide +kernel
theorem dX8_join_5 : decode cX8_join 5 = .ok (.laload, 1) := by decide +kernel
theorem dX8_join_6 : decode cX8_join 6 = .ok (.ldc2_w 61, 3) := by decide +kernel
theorem dX8_join_9 : decode cX8_join 9 = .ok (.lcmp, 1) := by decide +kernel
theorem dX8_join_10 : decode cX8_join 10 = .ok (.ifCond .ne 6, 3) := by decide +kernel
theorem dX8_join_13 : decode cX8_join 13 = .ok (.ldc 63, 2) := by decide +kernel
theorem dX8_join_15 : decode cX8_join 15 = .ok (.ireturn, 1) := by decide +kernel
theorem dX8_join_16 : decode cX8_join 16 = .ok (.aload_n 0, 1) := by decide +kernel
theorem dX8_join_17 : decode cX8_join 17 = .ok (.invokevirtual 43, 3) := by decide +kernel
theorem dX8_join_20 : decode cX8_join 20 = .ok (.aload_n 0, 1) := by decide +kernel
theorem dX8_join_21 : decode cX8_join 21 = .ok (.getfield 7, 3) := by decide +kernel
theorem dX8_join_24 : decode cX8_join 24 = .ok (.iconst 0, 1) := by decide +kernel
theorem dX8_join_25 : decode cX8_join 25 = .ok (.dup2, 1) := by decide +kernel
theorem dX8_join_26 : decode cX8_join 26 = .ok (.laload, 1) := by decide +kernel
theorem dX8_join_27 : decode cX8_join 27 = .ok (.lconst 1, 1) := by decide +kernel
theorem dX8_join_28 : decode cX8_join 28 = .ok (.ladd, 1) := by decide +kernel
theorem dX8_join_29 : decode cX8_join 29 = .ok (.lastore, 1) := by decide +kernel
theorem dX8_join_30 : decode cX8_join 30 = .ok (.aload_n 0, 1) := by decide +kernel
theorem dX8_join_31 : decode cX8_join 31 = .ok (.getfield 7, 3) := by decide +kernel
theorem dX8_join_34 : decode cX8_join 34 = .ok (.iconst 0, 1) := by decide +kernel
theorem dX8_join_35 : decode cX8_join 35 = .ok (.laload, 1) := by decide +kernel
theorem dX8_join_36 : decode cX8_join 36 = .ok (.l2i, 1) := by decide +kernel
theorem dX8_join_37 : decode cX8_join 37 = .ok (.iconst 1, 1) := by decide +kernel
theorem dX8_join_38 : decode cX8_join 38 = .ok (.isub, 1) := by decide +kernel
theorem dX8_join_39 : decode cX8_join 39 = .ok (.ireturn, 1) := by decide +kernel
theorem hy_X8_join : yX8_join.cls ≠ "java/lang/invoke/MethodHandle" ∧ yX8_join.cls ≠ "java/lang/invoke/VarHandle" ∧ (parseMethodDescriptor yX8_join.desc).map (fun d => d.parameters.length) = some 0 := ⟨by decide +kernel, by decide +kernel, by decide +kernel⟩
set_option maxHeartbeats 4000000 in
set_option maxRecDepth 100000 in
theorem c_X8_join (l0 : Launch) (D0 : va_G) (cI0 cJ0 : ClassId) (ad : Nat → Nat → Nat) (S : zM) (h6 : 0 ≤ S 6 0 ∧ S 6 0 ≤ 4) (hI : Inv (S 7)) : Ct l0 D0 cI0 cJ0 ad yX8_join cX8_join 1 (some .int) 1 21 [.ref (ad 6 27)] S (some (.int (i32 (rv_join (S 7))))) (fun X => X = if ok_join (S 7) then us (us (us S 8 (mp (S 8) (S 7) (S 6 0))) 6 (up (S 6) 0 (min (S 6 0 + 1) 4))) 7 (nx_join (S 7)) else S) := by
  refine Ct.of (by decide) (Nat.le_of_ble_eq_true rfl) (fun E hE hR => ?_)
  have hE : zG E l0 D0 cI0 cJ0 ad cX8_join 1 RX8 1 21 := hE
  show Z E S 0 [(0, .ref (ad 6 27))] []
  have h67 : (6 : Nat) ≠ 7 := by decide
  have h76 : (7 : Nat) ≠ 6 := by decide
  have h68 : (6 : Nat) ≠ 8 := by decide
  have h86 : (8 : Nat) ≠ 6 := by decide
  have h78 : (7 : Nat) ≠ 8 := by decide
  have h87 : (8 : Nat) ≠ 7 := by decide
  have hI0 := hI.1
  have hA := inA hI0
  unfold InvA at hA
  refine z_aload_n hE 0 rfl rfl dX8_join_0 ?_
  refine gf_8_0 hE (by decide) zf_X8_7 dX8_join_1 ?_
  refine z_iconst hE dX8_join_4 ?_
  refine al_28 hE (by decide) (by omega) (by omega) dX8_join_5 ?_
  refine z_ldc2 (a := 12) hE zl_X8_61 (by decide) dX8_join_6 ?_
  refine z_lcmp hE ⟨by omega, by omega⟩ ⟨by omega, by omega⟩ dX8_join_9 ?_
  refine z_ifl_ne (tgt := 16) hE dX8_join_10 (by decide) (fun c1 => ?_) (fun c1 => ?_)
  · refine z_aload_n hE 0 rfl rfl dX8_join_16 ?_
    refine z_callV hE (c_X8_notes l0 D0 cI0 cJ0 ad S (by omega)) (by decide) rfl rfl zm_X8_43 zi_yX8_notes zs_yX8_notes zn_RX8 zc_yX8_notes (hy_X8_notes) (Nat.le_of_ble_eq_true rfl) (Nat.le_of_ble_eq_true rfl) rfl rfl rfl (Nat.le_of_ble_eq_true rfl) dX8_join_17 ?_
    try simp only [us_eq, us_us, us_ne h67, us_ne h76, us_ne h68, us_ne h86, us_ne h78, us_ne h87, us_in h67, us_in h76]
    refine z_aload_n hE 0 rfl rfl dX8_join_20 ?_
    refine gf_8_0 hE (by decide) zf_X8_7 dX8_join_21 ?_
    refine z_iconst hE dX8_join_24 ?_
    refine z_dup2 hE rfl rfl dX8_join_25 ?_
    refine al_28 hE (by decide) (by omega) (by omega) dX8_join_26 ?_
    try simp only [us_eq, us_us, us_ne h67, us_ne h76, us_ne h68, us_ne h86, us_ne h78, us_ne h87, us_in h67, us_in h76]
    refine z_lconst (a := 1) hE rfl dX8_join_27 ?_
    refine z_ladd hE dX8_join_28 ?_
    refine as_28 hE (by decide) (by omega) (by omega) dX8_join_29 ?_
    try simp only [us_eq, us_us, us_ne h67, us_ne h76, us_ne h68, us_ne h86, us_ne h78, us_ne h87, us_in h67, us_in h76]
    refine z_aload_n hE 0 rfl rfl dX8_join_30 ?_
    refine gf_8_0 hE (by decide) zf_X8_7 dX8_join_31 ?_
    refine z_iconst hE dX8_join_34 ?_
    refine al_28 hE (by decide) (by omega) (by omega) dX8_join_35 ?_
    try simp only [us_eq, us_us, us_ne h67, us_ne h76, us_ne h68, us_ne h86, us_ne h78, us_ne h87, us_in h67, us_in h76]
    rw [up_eq]
    refine z_l2i hE dX8_join_36 ?_
    refine z_iconst hE dX8_join_37 ?_
    refine z_isub hE dX8_join_38 ?_
    exact z_iret hE hR dX8_join_39 (congrArg (fun x => some (Value.int (i32 x))) (by unfold rv_join; first | ((rw [if_neg (by omega)]) <;> first | rfl | omega) | ((rw [if_pos (by omega)]) <;> first | rfl | omega))) (by first | ((rw [if_pos (by omega)]) <;> (rfl)) | (rw [if_neg (by omega)]))
  · refine z_ldc (a := -2000000003) hE zk_X8_63 (by decide) dX8_join_13 ?_
    exact z_iret hE hR dX8_join_15 (congrArg (fun x => some (Value.int (i32 x))) (by unfold rv_join; first | ((rw [if_neg (by omega)]) <;> first | rfl | omega) | ((rw [if_pos (by omega)]) <;> first | rfl | omega))) (by first | ((rw [if_pos (by omega)]) <;> (rfl)) | (rw [if_neg (by omega)]))
theorem dX8_issue_0 : decode cX8_issue 0 = .ok (.aload_n 0, 1) := by decide +kernel
theorem dX8_issue_1 : decode cX8_issue 1 = .ok (.iload_n 1, 1) := by decide +kernel
theorem dX8_issue_2 : decode cX8_issue 2 = .ok (.invokevirtual 64, 3) := by decide +kernel
theorem dX8_issue_5 : decode cX8_issue 5 = .ok (.ifCond .eq 15, 3) := by decide +kernel
theorem dX8_issue_8 : decode cX8_issue 8 = .ok (.iload_n 2, 1) := by decide +kernel
theorem dX8_issue_9 : decode cX8_issue 9 = .ok (.i2l, 1) := by decide +kernel
theorem dX8_issue_10 : decode cX8_issue 10 = .ok (.lconst 1, 1) := by decide +kernel
theorem dX8_issue_11 : decode cX8_issue 11 = .ok (.ldc2_w 25, 3) := by decide +kernel
theorem dX8_issue_14 : decode cX8_issue 14 = .ok (.invokestatic 35, 3) := by decide +kernel
theorem dX8_issue_17 : decode cX8_issue 17 = .ok (.ifCond .ne 6, 3) := by decide +kernel
theorem dX8_issue_20 : decode cX8_issue 20 = .ok (.ldc 68, 2) := by decide +kernel
theorem dX8_issue_22 : decode cX8_issue 22 = .ok (.ireturn, 1) := by decide +kernel
theorem dX8_issue_23 : decode cX8_issue 23 = .ok (.aload_n 0, 1) := by decide +kernel
theorem dX8_issue_24 : decode cX8_issue 24 = .ok (.invokevirtual 57, 3) := by decide +kernel
theorem dX8_issue_27 : decode cX8_issue 27 = .ok (.iload_n 2, 1) := by decide +kernel
theorem dX8_issue_28 : decode cX8_issue 28 = .ok (.i2l, 1) := by decide +kernel
theorem dX8_issue_29 : decode cX8_issue 29 = .ok (.ladd, 1) := by decide +kernel
theorem dX8_issue_30 : decode cX8_issue 30 = .ok (.ldc2_w 69, 3) := by decide +kernel
theorem dX8_issue_33 : decode cX8_issue 33 = .ok (.lcmp, 1) := by decide +kernel
theorem dX8_issue_34 : decode cX8_issue 34 = .ok (.ifCond .le 6, 3) := by decide +kernel
theorem dX8_issue_37 : decode cX8_issue 37 = .ok (.ldc 63, 2) := by decide +kernel
theorem dX8_issue_39 : decode cX8_issue 39 = .ok (.ireturn, 1) := by decide +kernel
theorem dX8_issue_40 : decode cX8_issue 40 = .ok (.aload_n 0, 1) := by decide +kernel
theorem dX8_issue_41 : decode cX8_issue 41 = .ok (.invokevirtual 43, 3) := by decide +kernel
theorem dX8_issue_44 : decode cX8_issue 44 = .ok (.aload_n 0, 1) := by decide +kernel
theorem dX8_issue_45 : decode cX8_issue 45 = .ok (.getfield 7, 3) := by decide +kernel
theorem dX8_issue_48 : decode cX8_issue 48 = .ok (.iload_n 1, 1) := by decide +kernel
theorem dX8_issue_49 : decode cX8_issue 49 = .ok (.iconst 0, 1) := by decide +kernel
theorem dX8_issue_50 : decode cX8_issue 50 = .ok (.invokestatic 46, 3) := by decide +kernel
theorem dX8_issue_53 : decode cX8_issue 53 = .ok (.dup2, 1) := by decide +kernel
theorem dX8_issue_54 : decode cX8_issue 54 = .ok (.laload, 1) := by decide +kernel
theorem dX8_issue_55 : decode cX8_issue 55 = .ok (.iload_n 2, 1) := by decide +kernel
theorem dX8_issue_56 : decode cX8_issue 56 = .ok (.i2l, 1) := by decide +kernel
theorem dX8_issue_57 : decode cX8_issue 57 = .ok (.ladd, 1) := by decide +kernel
theorem dX8_issue_58 : decode cX8_issue 58 = .ok (.lastore, 1) := by decide +kernel
theorem dX8_issue_59 : decode cX8_issue 59 = .ok (.aload_n 0, 1) := by decide +kernel
theorem dX8_issue_60 : decode cX8_issue 60 = .ok (.getfield 7, 3) := by decide +kernel
theorem dX8_issue_63 : decode cX8_issue 63 = .ok (.iload_n 1, 1) := by decide +kernel
theorem dX8_issue_64 : decode cX8_issue 64 = .ok (.iconst 2, 1) := by decide +kernel
theorem dX8_issue_65 : decode cX8_issue 65 = .ok (.invokestatic 46, 3) := by decide +kernel
theorem dX8_issue_68 : decode cX8_issue 68 = .ok (.dup2, 1) := by decide +kernel
theorem dX8_issue_69 : decode cX8_issue 69 = .ok (.laload, 1) := by decide +kernel
theorem dX8_issue_70 : decode cX8_issue 70 = .ok (.iload_n 2, 1) := by decide +kernel
theorem dX8_issue_71 : decode cX8_issue 71 = .ok (.i2l, 1) := by decide +kernel
theorem dX8_issue_72 : decode cX8_issue 72 = .ok (.aload_n 0, 1) := by decide +kernel
theorem dX8_issue_73 : decode cX8_issue 73 = .ok (.getfield 7, 3) := by decide +kernel
theorem dX8_issue_76 : decode cX8_issue 76 = .ok (.bipush 6, 2) := by decide +kernel
theorem dX8_issue_78 : decode cX8_issue 78 = .ok (.laload, 1) := by decide +kernel
theorem dX8_issue_79 : decode cX8_issue 79 = .ok (.lmul, 1) := by decide +kernel
theorem dX8_issue_80 : decode cX8_issue 80 = .ok (.lsub, 1) := by decide +kernel
theorem dX8_issue_81 : decode cX8_issue 81 = .ok (.lastore, 1) := by decide +kernel
theorem dX8_issue_82 : decode cX8_issue 82 = .ok (.aload_n 0, 1) := by decide +kernel
theorem dX8_issue_83 : decode cX8_issue 83 = .ok (.invokevirtual 57, 3) := by decide +kernel
theorem dX8_issue_86 : decode cX8_issue 86 = .ok (.l2i, 1) := by decide +kernel
theorem dX8_issue_87 : decode cX8_issue 87 = .ok (.ireturn, 1) := by decide +kernel
theorem hy_X8_issue : yX8_issue.cls ≠ "java/lang/invoke/MethodHandle" ∧ yX8_issue.cls ≠ "java/lang/invoke/VarHandle" ∧ (parseMethodDescriptor yX8_issue.desc).map (fun d => d.parameters.length) = some 2 := ⟨by decide +kernel, by decide +kernel, by decide +kernel⟩
set_option maxHeartbeats 4000000 in
set_option maxRecDepth 100000 in
theorem c_X8_issue (l0 : Launch) (D0 : va_G) (cI0 cJ0 : ClassId) (ad : Nat → Nat → Nat) (S : zM) (m : Int) (n : Int) (h6 : 0 ≤ S 6 0 ∧ S 6 0 ≤ 4) (hI : Inv (S 7)) (bb_m : -2147483648 ≤ m ∧ m < 2147483648) (bb_n : -2147483648 ≤ n ∧ n < 2147483648) : Ct l0 D0 cI0 cJ0 ad yX8_issue cX8_issue 3 (some .int) 2 46 [.ref (ad 6 27), .int (i32 m), .int (i32 n)] S (some (.int (i32 (rv_issue (S 7) m n)))) (fun X => X = if ok_issue (S 7) m n then us (us (us S 8 (mp (S 8) (S 7) (S 6 0))) 6 (up (S 6) 0 (min (S 6 0 + 1) 4))) 7 (nx_issue (S 7) m n) else S) := by
  refine Ct.of (by decide) (Nat.le_of_ble_eq_true rfl) (fun E hE hR => ?_)
  have hE : zG E l0 D0 cI0 cJ0 ad cX8_issue 3 RX8 2 46 := hE
  show Z E S 0 [(0, .ref (ad 6 27)), (1, .int (i32 m)), (2, .int (i32 n))] []
  have h67 : (6 : Nat) ≠ 7 := by decide
  have h76 : (7 : Nat) ≠ 6 := by decide
  have h68 : (6 : Nat) ≠ 8 := by decide
  have h86 : (8 : Nat) ≠ 6 := by decide
  have h78 : (7 : Nat) ≠ 8 := by decide
  have h87 : (8 : Nat) ≠ 7 := by decide
  have hI0 := hI.1
  have hA := inA hI0
  unfold InvA at hA
  have hT := inT hI0
  refine z_aload_n hE 0 rfl rfl dX8_issue_0 ?_
  refine z_iload_n hE 1 rfl rfl dX8_issue_1 ?_
  refine z_callV hE (c_X8_isMember l0 D0 cI0 cJ0 ad S m (by omega) (by omega)) (by decide) rfl rfl zm_X8_64 zi_yX8_isMember zs_yX8_isMember zn_RX8 zc_yX8_isMember (hy_X8_isMember) (Nat.le_of_ble_eq_true rfl) (Nat.le_of_ble_eq_true rfl) rfl rfl rfl (Nat.le_of_ble_eq_true rfl) dX8_issue_2 ?_
  refine z_ifb_eq (tgt := 20) hE dX8_issue_5 (by decide) (fun c1 => ?_) (fun c1 => ?_)
  · refine z_ldc (a := -2000000001) hE zk_X8_68 (by decide) dX8_issue_20 ?_
    exact z_iret hE hR dX8_issue_22 (congrArg (fun x => some (Value.int (i32 x))) (by unfold rv_issue; first | ((rw [if_neg (by omega)]) <;> first | rfl | omega) | ((rw [if_pos (by omega), if_neg (by omega)]) <;> first | rfl | omega) | ((rw [if_pos (by omega), if_pos (by omega)]) <;> first | rfl | omega))) (by first | ((rw [if_pos (by omega)]) <;> (rfl)) | (rw [if_neg (by omega)]))
  · refine z_iload_n hE 2 rfl rfl dX8_issue_8 ?_
    refine z_i2l hE ⟨by omega, by omega⟩ dX8_issue_9 ?_
    refine z_lconst (a := 1) hE rfl dX8_issue_10 ?_
    refine z_ldc2 (a := 1000) hE zl_X8_25 (by decide) dX8_issue_11 ?_
    refine z_callS hE (c_X8_in l0 D0 cI0 cJ0 ad S n 1 1000 (⟨by omega, by omega⟩) (⟨by omega, by omega⟩) (⟨by omega, by omega⟩)) zm_X8_35 zt_yX8_in zn_RX8 zc_yX8_in (hy_X8_in) (Nat.le_of_ble_eq_true rfl) (Nat.le_of_ble_eq_true rfl) rfl rfl rfl (Nat.le_of_ble_eq_true rfl) dX8_issue_14 ?_
    refine z_ifb_ne (tgt := 23) hE dX8_issue_17 (by decide) (fun c2 => ?_) (fun c2 => ?_)
    · refine z_aload_n hE 0 rfl rfl dX8_issue_23 ?_
      refine z_callV hE (c_X8_all l0 D0 cI0 cJ0 ad S (by first | exact hI0 | (simp only [us_eq, us_ne h78, us_ne h76]; exact hI0))) (by decide) rfl rfl zm_X8_57 zi_yX8_all zs_yX8_all zn_RX8 zc_yX8_all (hy_X8_all) (Nat.le_of_ble_eq_true rfl) (Nat.le_of_ble_eq_true rfl) rfl rfl rfl (Nat.le_of_ble_eq_true rfl) dX8_issue_24 ?_
      refine z_iload_n hE 2 rfl rfl dX8_issue_27 ?_
      refine z_i2l hE ⟨by omega, by omega⟩ dX8_issue_28 ?_
      refine z_ladd hE dX8_issue_29 ?_
      refine z_ldc2 (a := 10000) hE zl_X8_69 (by decide) dX8_issue_30 ?_
      refine z_lcmp hE ⟨by omega, by omega⟩ ⟨by omega, by omega⟩ dX8_issue_33 ?_
      refine z_ifl_le (tgt := 40) hE dX8_issue_34 (by decide) (fun c3 => ?_) (fun c3 => ?_)
      · refine z_aload_n hE 0 rfl rfl dX8_issue_40 ?_
        refine z_callV hE (c_X8_notes l0 D0 cI0 cJ0 ad S (by omega)) (by decide) rfl rfl zm_X8_43 zi_yX8_notes zs_yX8_notes zn_RX8 zc_yX8_notes (hy_X8_notes) (Nat.le_of_ble_eq_true rfl) (Nat.le_of_ble_eq_true rfl) rfl rfl rfl (Nat.le_of_ble_eq_true rfl) dX8_issue_41 ?_
        try simp only [us_eq, us_us, us_ne h67, us_ne h76, us_ne h68, us_ne h86, us_ne h78, us_ne h87, us_in h67, us_in h76]
        refine z_aload_n hE 0 rfl rfl dX8_issue_44 ?_
        refine gf_8_0 hE (by decide) zf_X8_7 dX8_issue_45 ?_
        refine z_iload_n hE 1 rfl rfl dX8_issue_48 ?_
        refine z_iconst hE dX8_issue_49 ?_
        refine z_callS hE (c_X8_m l0 D0 cI0 cJ0 ad (us (us S 8 (mp ((S 8)) ((S 7)) ((S 6) 0))) 6 (up ((S 6)) 0 (min ((S 6) 0 + 1) 4))) m 0 (19 + 3 * m) (by first | omega | (simp only [us_eq, us_ne h67, us_ne h76, us_ne h68, us_ne h86, us_ne h78, us_ne h87]; omega))) zm_X8_46 zt_yX8_m zn_RX8 zc_yX8_m (hy_X8_m) (Nat.le_of_ble_eq_true rfl) (Nat.le_of_ble_eq_true rfl) rfl rfl rfl (Nat.le_of_ble_eq_true rfl) dX8_issue_50 ?_
        try simp only [us_eq, us_us, us_ne h67, us_ne h76, us_ne h68, us_ne h86, us_ne h78, us_ne h87, us_in h67, us_in h76]
        refine z_dup2 hE rfl rfl dX8_issue_53 ?_
        refine al_28 hE (by decide) (by omega) (by omega) dX8_issue_54 ?_
        try simp only [us_eq, us_us, us_ne h67, us_ne h76, us_ne h68, us_ne h86, us_ne h78, us_ne h87, us_in h67, us_in h76]
        refine z_iload_n hE 2 rfl rfl dX8_issue_55 ?_
        refine z_i2l hE ⟨by omega, by omega⟩ dX8_issue_56 ?_
        refine z_ladd hE dX8_issue_57 ?_
        refine as_28 hE (by decide) (by omega) (by omega) dX8_issue_58 ?_
        try simp only [us_eq, us_us, us_ne h67, us_ne h76, us_ne h68, us_ne h86, us_ne h78, us_ne h87, us_in h67, us_in h76]
        refine z_aload_n hE 0 rfl rfl dX8_issue_59 ?_
        refine gf_8_0 hE (by decide) zf_X8_7 dX8_issue_60 ?_
        refine z_iload_n hE 1 rfl rfl dX8_issue_63 ?_
        refine z_iconst hE dX8_issue_64 ?_
        refine z_callS hE (c_X8_m l0 D0 cI0 cJ0 ad (us (us (us S 8 (mp ((S 8)) ((S 7)) ((S 6) 0))) 6 (up ((S 6)) 0 (min ((S 6) 0 + 1) 4))) 7 (up (S 7) (((19 + 3 * m))) ((S 7 (((19 + 3 * m)))) + n))) m 2 (21 + 3 * m) (by first | omega | (simp only [us_eq, us_ne h67, us_ne h76, us_ne h68, us_ne h86, us_ne h78, us_ne h87]; omega))) zm_X8_46 zt_yX8_m zn_RX8 zc_yX8_m (hy_X8_m) (Nat.le_of_ble_eq_true rfl) (Nat.le_of_ble_eq_true rfl) rfl rfl rfl (Nat.le_of_ble_eq_true rfl) dX8_issue_65 ?_
        try simp only [us_eq, us_us, us_ne h67, us_ne h76, us_ne h68, us_ne h86, us_ne h78, us_ne h87, us_in h67, us_in h76]
        refine z_dup2 hE rfl rfl dX8_issue_68 ?_
        refine al_28 hE (by decide) (by omega) (by omega) dX8_issue_69 ?_
        try simp only [us_eq, us_us, us_ne h67, us_ne h76, us_ne h68, us_ne h86, us_ne h78, us_ne h87, us_in h67, us_in h76]
        rw [up_ne (show ((21 + 3 * m)) ≠ 19 + 3 * m by omega)]
        refine z_iload_n hE 2 rfl rfl dX8_issue_70 ?_
        refine z_i2l hE ⟨by omega, by omega⟩ dX8_issue_71 ?_
        refine z_aload_n hE 0 rfl rfl dX8_issue_72 ?_
        refine gf_8_0 hE (by decide) zf_X8_7 dX8_issue_73 ?_
        refine z_bipush (a := 6) hE (by decide) dX8_issue_76 ?_
        refine al_28 hE (by decide) (by omega) (by omega) dX8_issue_78 ?_
        try simp only [us_eq, us_us, us_ne h67, us_ne h76, us_ne h68, us_ne h86, us_ne h78, us_ne h87, us_in h67, us_in h76]
        rw [up_ne (show 6 ≠ 19 + 3 * m by omega)]
        refine z_lmul hE dX8_issue_79 ?_
        refine z_lsub hE dX8_issue_80 ?_
        refine as_28 hE (by decide) (by omega) (by omega) dX8_issue_81 ?_
        try simp only [us_eq, us_us, us_ne h67, us_ne h76, us_ne h68, us_ne h86, us_ne h78, us_ne h87, us_in h67, us_in h76]
        have hi9 := inv_issue hI (m := m) (n := n) ⟨⟨by omega, by omega, by omega⟩, by omega⟩
        have ha9 := all_issue (s := S 7) (m := m) (n := n) ⟨by omega, by omega⟩
        rw [Int.mul_comm n (S 7 6), show up (S 7) (19 + 3 * m) (S 7 (19 + 3 * m) + n) = uq (S 7) (19 + 3 * m) n from rfl, Int.sub_eq_add_neg, uq_two (by omega), show uq (uq (S 7) (19 + 3 * m) n) (21 + 3 * m) (-(S 7 6 * n)) = nx_issue (S 7) m n from rfl]
        refine z_aload_n hE 0 rfl rfl dX8_issue_82 ?_
        refine z_callV hE (c_X8_all l0 D0 cI0 cJ0 ad (us (us (us S 8 (mp ((S 8)) ((S 7)) ((S 6) 0))) 6 (up ((S 6)) 0 (min ((S 6) 0 + 1) 4))) 7 (nx_issue (S 7) m n)) (by rw [us_eq]; exact hi9.1)) (by decide) rfl rfl zm_X8_57 zi_yX8_all zs_yX8_all zn_RX8 zc_yX8_all (hy_X8_all) (Nat.le_of_ble_eq_true rfl) (Nat.le_of_ble_eq_true rfl) rfl rfl rfl (Nat.le_of_ble_eq_true rfl) dX8_issue_83 ?_
        try simp only [us_eq, us_us, us_ne h67, us_ne h76, us_ne h68, us_ne h86, us_ne h78, us_ne h87, us_in h67, us_in h76]
        refine z_l2i hE dX8_issue_86 ?_
        exact z_iret hE hR dX8_issue_87 (congrArg (fun x => some (Value.int (i32 x))) (by unfold rv_issue; first | ((rw [if_neg (by omega)]) <;> first | rfl | omega) | ((rw [if_pos (by omega), if_neg (by omega)]) <;> first | rfl | omega) | ((rw [if_pos (by omega), if_pos (by omega)]) <;> first | rfl | omega))) (by first | ((rw [if_pos (by omega)]) <;> (rfl)) | (rw [if_neg (by omega)]))
      · refine z_ldc (a := -2000000003) hE zk_X8_63 (by decide) dX8_issue_37 ?_
        exact z_iret hE hR dX8_issue_39 (congrArg (fun x => some (Value.int (i32 x))) (by unfold rv_issue; first | ((rw [if_neg (by omega)]) <;> first | rfl | omega) | ((rw [if_pos (by omega), if_neg (by omega)]) <;> first | rfl | omega) | ((rw [if_pos (by omega), if_pos (by omega)]) <;> first | rfl | omega))) (by first | ((rw [if_pos (by omega)]) <;> (rfl)) | (rw [if_neg (by omega)]))
    · refine z_ldc (a := -2000000001) hE zk_X8_68 (by decide) dX8_issue_20 ?_
      exact z_iret hE hR dX8_issue_22 (congrArg (fun x => some (Value.int (i32 x))) (by unfold rv_issue; first | ((rw [if_neg (by omega)]) <;> first | rfl | omega) | ((rw [if_pos (by omega), if_neg (by omega)]) <;> first | rfl | omega) | ((rw [if_pos (by omega), if_pos (by omega)]) <;> first | rfl | omega))) (by first | ((rw [if_pos (by omega)]) <;> (rfl)) | (rw [if_neg (by omega)]))
theorem dX8_setMilk_0 : decode cX8_setMilk 0 = .ok (.aload_n 0, 1) := by decide +kernel
theorem dX8_setMilk_1 : decode cX8_setMilk 1 = .ok (.iload_n 1, 1) := by decide +kernel
theorem dX8_setMilk_2 : decode cX8_setMilk 2 = .ok (.invokevirtual 64, 3) := by decide +kernel
theorem dX8_setMilk_5 : decode cX8_setMilk 5 = .ok (.ifCond .eq 28, 3) := by decide +kernel
theorem dX8_setMilk_8 : decode cX8_setMilk 8 = .ok (.iload_n 2, 1) := by decide +kernel
theorem dX8_setMilk_9 : decode cX8_setMilk 9 = .ok (.i2l, 1) := by decide +kernel
theorem dX8_setMilk_10 : decode cX8_setMilk 10 = .ok (.lconst 0, 1) := by decide +kernel
theorem dX8_setMilk_11 : decode cX8_setMilk 11 = .ok (.ldc2_w 71, 3) := by decide +kernel
theorem dX8_setMilk_14 : decode cX8_setMilk 14 = .ok (.invokestatic 35, 3) := by decide +kernel
theorem dX8_setMilk_17 : decode cX8_setMilk 17 = .ok (.ifCond .eq 16, 3) := by decide +kernel
theorem dX8_setMilk_20 : decode cX8_setMilk 20 = .ok (.aload_n 0, 1) := by decide +kernel
theorem dX8_setMilk_21 : decode cX8_setMilk 21 = .ok (.iload_n 1, 1) := by decide +kernel
theorem dX8_setMilk_22 : decode cX8_setMilk 22 = .ok (.iconst 1, 1) := by decide +kernel
theorem dX8_setMilk_23 : decode cX8_setMilk 23 = .ok (.invokestatic 46, 3) := by decide +kernel
theorem dX8_setMilk_26 : decode cX8_setMilk 26 = .ok (.iload_n 2, 1) := by decide +kernel
theorem dX8_setMilk_27 : decode cX8_setMilk 27 = .ok (.invokevirtual 73, 3) := by decide +kernel
theorem dX8_setMilk_30 : decode cX8_setMilk 30 = .ok (.goto 5, 3) := by decide +kernel
theorem dX8_setMilk_33 : decode cX8_setMilk 33 = .ok (.ldc 68, 2) := by decide +kernel
theorem dX8_setMilk_35 : decode cX8_setMilk 35 = .ok (.ireturn, 1) := by decide +kernel
theorem hy_X8_setMilk : yX8_setMilk.cls ≠ "java/lang/invoke/MethodHandle" ∧ yX8_setMilk.cls ≠ "java/lang/invoke/VarHandle" ∧ (parseMethodDescriptor yX8_setMilk.desc).map (fun d => d.parameters.length) = some 2 := ⟨by decide +kernel, by decide +kernel, by decide +kernel⟩
set_option maxHeartbeats 4000000 in
set_option maxRecDepth 100000 in
theorem c_X8_setMilk (l0 : Launch) (D0 : va_G) (cI0 cJ0 : ClassId) (ad : Nat → Nat → Nat) (S : zM) (m : Int) (v : Int) (h6 : 0 ≤ S 6 0 ∧ S 6 0 ≤ 4) (hI : Inv (S 7)) (bb_m : -2147483648 ≤ m ∧ m < 2147483648) (bb_v : -2147483648 ≤ v ∧ v < 2147483648) : Ct l0 D0 cI0 cJ0 ad yX8_setMilk cX8_setMilk 3 (some .int) 2 46 [.ref (ad 6 27), .int (i32 m), .int (i32 v)] S (some (.int (i32 (rv_setMilk (S 7) m v)))) (fun X => X = if ok_setMilk (S 7) m v then us (us (us S 8 (mp (S 8) (S 7) (S 6 0))) 6 (up (S 6) 0 (min (S 6 0 + 1) 4))) 7 (nx_setMilk (S 7) m v) else S) := by
  refine Ct.of (by decide) (Nat.le_of_ble_eq_true rfl) (fun E hE hR => ?_)
  have hE : zG E l0 D0 cI0 cJ0 ad cX8_setMilk 3 RX8 2 46 := hE
  show Z E S 0 [(0, .ref (ad 6 27)), (1, .int (i32 m)), (2, .int (i32 v))] []
  have h67 : (6 : Nat) ≠ 7 := by decide
  have h76 : (7 : Nat) ≠ 6 := by decide
  have h68 : (6 : Nat) ≠ 8 := by decide
  have h86 : (8 : Nat) ≠ 6 := by decide
  have h78 : (7 : Nat) ≠ 8 := by decide
  have h87 : (8 : Nat) ≠ 7 := by decide
  have hI0 := hI.1
  have hA := inA hI0
  unfold InvA at hA
  refine z_aload_n hE 0 rfl rfl dX8_setMilk_0 ?_
  refine z_iload_n hE 1 rfl rfl dX8_setMilk_1 ?_
  refine z_callV hE (c_X8_isMember l0 D0 cI0 cJ0 ad S m (by omega) (by omega)) (by decide) rfl rfl zm_X8_64 zi_yX8_isMember zs_yX8_isMember zn_RX8 zc_yX8_isMember (hy_X8_isMember) (Nat.le_of_ble_eq_true rfl) (Nat.le_of_ble_eq_true rfl) rfl rfl rfl (Nat.le_of_ble_eq_true rfl) dX8_setMilk_2 ?_
  refine z_ifb_eq (tgt := 33) hE dX8_setMilk_5 (by decide) (fun c1 => ?_) (fun c1 => ?_)
  · refine z_ldc (a := -2000000001) hE zk_X8_68 (by decide) dX8_setMilk_33 ?_
    exact z_iret hE hR dX8_setMilk_35 (congrArg (fun x => some (Value.int (i32 x))) (by unfold rv_setMilk; first | ((rw [if_neg (by omega)]) <;> first | rfl | omega) | ((rw [if_pos (by omega)]) <;> first | rfl | omega))) (by first | ((rw [if_pos (by omega)]) <;> (rfl)) | (rw [if_neg (by omega)]))
  · refine z_iload_n hE 2 rfl rfl dX8_setMilk_8 ?_
    refine z_i2l hE ⟨by omega, by omega⟩ dX8_setMilk_9 ?_
    refine z_lconst (a := 0) hE rfl dX8_setMilk_10 ?_
    refine z_ldc2 (a := 1000000) hE zl_X8_71 (by decide) dX8_setMilk_11 ?_
    refine z_callS hE (c_X8_in l0 D0 cI0 cJ0 ad S v 0 1000000 (⟨by omega, by omega⟩) (⟨by omega, by omega⟩) (⟨by omega, by omega⟩)) zm_X8_35 zt_yX8_in zn_RX8 zc_yX8_in (hy_X8_in) (Nat.le_of_ble_eq_true rfl) (Nat.le_of_ble_eq_true rfl) rfl rfl rfl (Nat.le_of_ble_eq_true rfl) dX8_setMilk_14 ?_
    refine z_ifb_eq (tgt := 33) hE dX8_setMilk_17 (by decide) (fun c2 => ?_) (fun c2 => ?_)
    · refine z_ldc (a := -2000000001) hE zk_X8_68 (by decide) dX8_setMilk_33 ?_
      exact z_iret hE hR dX8_setMilk_35 (congrArg (fun x => some (Value.int (i32 x))) (by unfold rv_setMilk; first | ((rw [if_neg (by omega)]) <;> first | rfl | omega) | ((rw [if_pos (by omega)]) <;> first | rfl | omega))) (by first | ((rw [if_pos (by omega)]) <;> (rfl)) | (rw [if_neg (by omega)]))
    · refine z_aload_n hE 0 rfl rfl dX8_setMilk_20 ?_
      refine z_iload_n hE 1 rfl rfl dX8_setMilk_21 ?_
      refine z_iconst hE dX8_setMilk_22 ?_
      refine z_callS hE (c_X8_m l0 D0 cI0 cJ0 ad S m 1 (20 + 3 * m) (by omega)) zm_X8_46 zt_yX8_m zn_RX8 zc_yX8_m (hy_X8_m) (Nat.le_of_ble_eq_true rfl) (Nat.le_of_ble_eq_true rfl) rfl rfl rfl (Nat.le_of_ble_eq_true rfl) dX8_setMilk_23 ?_
      refine z_iload_n hE 2 rfl rfl dX8_setMilk_26 ?_
      refine z_callV hE (c_X8_puts l0 D0 cI0 cJ0 ad S ((20 + 3 * m)) v (by omega) (by omega) (by omega)) (by decide) rfl rfl zm_X8_73 zi_yX8_puts zs_yX8_puts zn_RX8 zc_yX8_puts (hy_X8_puts) (Nat.le_of_ble_eq_true rfl) (Nat.le_of_ble_eq_true rfl) rfl rfl rfl (Nat.le_of_ble_eq_true rfl) dX8_setMilk_27 ?_
      try simp only [us_eq, us_us, us_ne h67, us_ne h76, us_ne h68, us_ne h86, us_ne h78, us_ne h87, us_in h67, us_in h76]
      try simp only [us_eq, us_us, us_ne h67, us_ne h76, us_ne h68, us_ne h86, us_ne h78, us_ne h87, us_in h67, us_in h76]
      try simp only [us_eq, us_us, us_ne h67, us_ne h76, us_ne h68, us_ne h86, us_ne h78, us_ne h87, us_in h67, us_in h76]
      refine z_goto (tgt := 35) hE (d := dX8_setMilk_30) (ht := by decide) ?_
      exact z_iret hE hR dX8_setMilk_35 (congrArg (fun x => some (Value.int (i32 x))) (by unfold rv_setMilk; first | ((rw [if_neg (by omega)]) <;> first | rfl | omega) | ((rw [if_pos (by omega)]) <;> first | rfl | omega))) (by first | ((rw [if_pos (by omega)]) <;> (rfl)) | (rw [if_neg (by omega)]))
theorem dX8_setLitersPerShare_0 : decode cX8_setLitersPerShare 0 = .ok (.iload_n 1, 1) := by decide +kernel
theorem dX8_setLitersPerShare_1 : decode cX8_setLitersPerShare 1 = .ok (.i2l, 1) := by decide +kernel
theorem dX8_setLitersPerShare_2 : decode cX8_setLitersPerShare 2 = .ok (.ldc2_w 31, 3) := by decide +kernel
theorem dX8_setLitersPerShare_5 : decode cX8_setLitersPerShare 5 = .ok (.ldc2_w 69, 3) := by decide +kernel
theorem dX8_setLitersPerShare_8 : decode cX8_setLitersPerShare 8 = .ok (.invokestatic 35, 3) := by decide +kernel
theorem dX8_setLitersPerShare_11 : decode cX8_setLitersPerShare 11 = .ok (.ifCond .eq 12, 3) := by decide +kernel
theorem dX8_setLitersPerShare_14 : decode cX8_setLitersPerShare 14 = .ok (.aload_n 0, 1) := by decide +kernel
theorem dX8_setLitersPerShare_15 : decode cX8_setLitersPerShare 15 = .ok (.iconst 1, 1) := by decide +kernel
theorem dX8_setLitersPerShare_16 : decode cX8_setLitersPerShare 16 = .ok (.iload_n 1, 1) := by decide +kernel
theorem dX8_setLitersPerShare_17 : decode cX8_setLitersPerShare 17 = .ok (.invokevirtual 73, 3) := by decide +kernel
theorem dX8_setLitersPerShare_20 : decode cX8_setLitersPerShare 20 = .ok (.goto 5, 3) := by decide +kernel
theorem dX8_setLitersPerShare_23 : decode cX8_setLitersPerShare 23 = .ok (.ldc 68, 2) := by decide +kernel
theorem dX8_setLitersPerShare_25 : decode cX8_setLitersPerShare 25 = .ok (.ireturn, 1) := by decide +kernel
theorem hy_X8_setLitersPerShare : yX8_setLitersPerShare.cls ≠ "java/lang/invoke/MethodHandle" ∧ yX8_setLitersPerShare.cls ≠ "java/lang/invoke/VarHandle" ∧ (parseMethodDescriptor yX8_setLitersPerShare.desc).map (fun d => d.parameters.length) = some 1 := ⟨by decide +kernel, by decide +kernel, by decide +kernel⟩
set_option maxHeartbeats 4000000 in
set_option maxRecDepth 100000 in
theorem c_X8_setLitersPerShare (l0 : Launch) (D0 : va_G) (cI0 cJ0 : ClassId) (ad : Nat → Nat → Nat) (S : zM) (v : Int) (h6 : 0 ≤ S 6 0 ∧ S 6 0 ≤ 4) (hI : Inv (S 7)) (bb_v : -2147483648 ≤ v ∧ v < 2147483648) : Ct l0 D0 cI0 cJ0 ad yX8_setLitersPerShare cX8_setLitersPerShare 2 (some .int) 2 44 [.ref (ad 6 27), .int (i32 v)] S (some (.int (i32 (rv_setLitersPerShare (S 7) v)))) (fun X => X = if ok_setLitersPerShare v then us (us (us S 8 (mp (S 8) (S 7) (S 6 0))) 6 (up (S 6) 0 (min (S 6 0 + 1) 4))) 7 (nx_setLitersPerShare (S 7) v) else S) := by
  refine Ct.of (by decide) (Nat.le_of_ble_eq_true rfl) (fun E hE hR => ?_)
  have hE : zG E l0 D0 cI0 cJ0 ad cX8_setLitersPerShare 2 RX8 2 44 := hE
  show Z E S 0 [(0, .ref (ad 6 27)), (1, .int (i32 v))] []
  have h67 : (6 : Nat) ≠ 7 := by decide
  have h76 : (7 : Nat) ≠ 6 := by decide
  have h68 : (6 : Nat) ≠ 8 := by decide
  have h86 : (8 : Nat) ≠ 6 := by decide
  have h78 : (7 : Nat) ≠ 8 := by decide
  have h87 : (8 : Nat) ≠ 7 := by decide
  have hI0 := hI.1
  have hA := inA hI0
  unfold InvA at hA
  refine z_iload_n hE 1 rfl rfl dX8_setLitersPerShare_0 ?_
  refine z_i2l hE ⟨by omega, by omega⟩ dX8_setLitersPerShare_1 ?_
  refine z_ldc2 (a := 100) hE zl_X8_31 (by decide) dX8_setLitersPerShare_2 ?_
  refine z_ldc2 (a := 10000) hE zl_X8_69 (by decide) dX8_setLitersPerShare_5 ?_
  refine z_callS hE (c_X8_in l0 D0 cI0 cJ0 ad S v 100 10000 (⟨by omega, by omega⟩) (⟨by omega, by omega⟩) (⟨by omega, by omega⟩)) zm_X8_35 zt_yX8_in zn_RX8 zc_yX8_in (hy_X8_in) (Nat.le_of_ble_eq_true rfl) (Nat.le_of_ble_eq_true rfl) rfl rfl rfl (Nat.le_of_ble_eq_true rfl) dX8_setLitersPerShare_8 ?_
  refine z_ifb_eq (tgt := 23) hE dX8_setLitersPerShare_11 (by decide) (fun c1 => ?_) (fun c1 => ?_)
  · refine z_ldc (a := -2000000001) hE zk_X8_68 (by decide) dX8_setLitersPerShare_23 ?_
    exact z_iret hE hR dX8_setLitersPerShare_25 (congrArg (fun x => some (Value.int (i32 x))) (by unfold rv_setLitersPerShare; first | ((rw [if_neg (by omega)]) <;> first | rfl | omega) | ((rw [if_pos (by omega)]) <;> first | rfl | omega))) (by first | ((rw [if_pos (by omega)]) <;> (rfl)) | (rw [if_neg (by omega)]))
  · refine z_aload_n hE 0 rfl rfl dX8_setLitersPerShare_14 ?_
    refine z_iconst hE dX8_setLitersPerShare_15 ?_
    refine z_iload_n hE 1 rfl rfl dX8_setLitersPerShare_16 ?_
    refine z_callV hE (c_X8_puts l0 D0 cI0 cJ0 ad S 1 v (by omega) (by omega) (by omega)) (by decide) rfl rfl zm_X8_73 zi_yX8_puts zs_yX8_puts zn_RX8 zc_yX8_puts (hy_X8_puts) (Nat.le_of_ble_eq_true rfl) (Nat.le_of_ble_eq_true rfl) rfl rfl rfl (Nat.le_of_ble_eq_true rfl) dX8_setLitersPerShare_17 ?_
    try simp only [us_eq, us_us, us_ne h67, us_ne h76, us_ne h68, us_ne h86, us_ne h78, us_ne h87, us_in h67, us_in h76]
    try simp only [us_eq, us_us, us_ne h67, us_ne h76, us_ne h68, us_ne h86, us_ne h78, us_ne h87, us_in h67, us_in h76]
    try simp only [us_eq, us_us, us_ne h67, us_ne h76, us_ne h68, us_ne h86, us_ne h78, us_ne h87, us_in h67, us_in h76]
    refine z_goto (tgt := 25) hE (d := dX8_setLitersPerShare_20) (ht := by decide) ?_
    exact z_iret hE hR dX8_setLitersPerShare_25 (congrArg (fun x => some (Value.int (i32 x))) (by unfold rv_setLitersPerShare; first | ((rw [if_neg (by omega)]) <;> first | rfl | omega) | ((rw [if_pos (by omega)]) <;> first | rfl | omega))) (by first | ((rw [if_pos (by omega)]) <;> (rfl)) | (rw [if_neg (by omega)]))
theorem dX8_setTreasuryLimit_0 : decode cX8_setTreasuryLimit 0 = .ok (.iload_n 1, 1) := by decide +kernel
theorem dX8_setTreasuryLimit_1 : decode cX8_setTreasuryLimit 1 = .ok (.i2l, 1) := by decide +kernel
theorem dX8_setTreasuryLimit_2 : decode cX8_setTreasuryLimit 2 = .ok (.lconst 0, 1) := by decide +kernel
theorem dX8_setTreasuryLimit_3 : decode cX8_setTreasuryLimit 3 = .ok (.ldc2_w 25, 3) := by decide +kernel
theorem dX8_setTreasuryLimit_6 : decode cX8_setTreasuryLimit 6 = .ok (.invokestatic 35, 3) := by decide +kernel
theorem dX8_setTreasuryLimit_9 : decode cX8_setTreasuryLimit 9 = .ok (.ifCond .eq 12, 3) := by decide +kernel
theorem dX8_setTreasuryLimit_12 : decode cX8_setTreasuryLimit 12 = .ok (.aload_n 0, 1) := by decide +kernel
theorem dX8_setTreasuryLimit_13 : decode cX8_setTreasuryLimit 13 = .ok (.iconst 3, 1) := by decide +kernel
theorem dX8_setTreasuryLimit_14 : decode cX8_setTreasuryLimit 14 = .ok (.iload_n 1, 1) := by decide +kernel
theorem dX8_setTreasuryLimit_15 : decode cX8_setTreasuryLimit 15 = .ok (.invokevirtual 73, 3) := by decide +kernel
theorem dX8_setTreasuryLimit_18 : decode cX8_setTreasuryLimit 18 = .ok (.goto 5, 3) := by decide +kernel
theorem dX8_setTreasuryLimit_21 : decode cX8_setTreasuryLimit 21 = .ok (.ldc 68, 2) := by decide +kernel
theorem dX8_setTreasuryLimit_23 : decode cX8_setTreasuryLimit 23 = .ok (.ireturn, 1) := by decide +kernel
theorem hy_X8_setTreasuryLimit : yX8_setTreasuryLimit.cls ≠ "java/lang/invoke/MethodHandle" ∧ yX8_setTreasuryLimit.cls ≠ "java/lang/invoke/VarHandle" ∧ (parseMethodDescriptor yX8_setTreasuryLimit.desc).map (fun d => d.parameters.length) = some 1 := ⟨by decide +kernel, by decide +kernel, by decide +kernel⟩
set_option maxHeartbeats 4000000 in
set_option maxRecDepth 100000 in
theorem c_X8_setTreasuryLimit (l0 : Launch) (D0 : va_G) (cI0 cJ0 : ClassId) (ad : Nat → Nat → Nat) (S : zM) (v : Int) (h6 : 0 ≤ S 6 0 ∧ S 6 0 ≤ 4) (hI : Inv (S 7)) (bb_v : -2147483648 ≤ v ∧ v < 2147483648) : Ct l0 D0 cI0 cJ0 ad yX8_setTreasuryLimit cX8_setTreasuryLimit 2 (some .int) 2 44 [.ref (ad 6 27), .int (i32 v)] S (some (.int (i32 (rv_setTreasuryLimit (S 7) v)))) (fun X => X = if ok_setTreasuryLimit v then us (us (us S 8 (mp (S 8) (S 7) (S 6 0))) 6 (up (S 6) 0 (min (S 6 0 + 1) 4))) 7 (nx_setTreasuryLimit (S 7) v) else S) := by
  refine Ct.of (by decide) (Nat.le_of_ble_eq_true rfl) (fun E hE hR => ?_)
  have hE : zG E l0 D0 cI0 cJ0 ad cX8_setTreasuryLimit 2 RX8 2 44 := hE
  show Z E S 0 [(0, .ref (ad 6 27)), (1, .int (i32 v))] []
  have h67 : (6 : Nat) ≠ 7 := by decide
  have h76 : (7 : Nat) ≠ 6 := by decide
  have h68 : (6 : Nat) ≠ 8 := by decide
  have h86 : (8 : Nat) ≠ 6 := by decide
  have h78 : (7 : Nat) ≠ 8 := by decide
  have h87 : (8 : Nat) ≠ 7 := by decide
  have hI0 := hI.1
  have hA := inA hI0
  unfold InvA at hA
  refine z_iload_n hE 1 rfl rfl dX8_setTreasuryLimit_0 ?_
  refine z_i2l hE ⟨by omega, by omega⟩ dX8_setTreasuryLimit_1 ?_
  refine z_lconst (a := 0) hE rfl dX8_setTreasuryLimit_2 ?_
  refine z_ldc2 (a := 1000) hE zl_X8_25 (by decide) dX8_setTreasuryLimit_3 ?_
  refine z_callS hE (c_X8_in l0 D0 cI0 cJ0 ad S v 0 1000 (⟨by omega, by omega⟩) (⟨by omega, by omega⟩) (⟨by omega, by omega⟩)) zm_X8_35 zt_yX8_in zn_RX8 zc_yX8_in (hy_X8_in) (Nat.le_of_ble_eq_true rfl) (Nat.le_of_ble_eq_true rfl) rfl rfl rfl (Nat.le_of_ble_eq_true rfl) dX8_setTreasuryLimit_6 ?_
  refine z_ifb_eq (tgt := 21) hE dX8_setTreasuryLimit_9 (by decide) (fun c1 => ?_) (fun c1 => ?_)
  · refine z_ldc (a := -2000000001) hE zk_X8_68 (by decide) dX8_setTreasuryLimit_21 ?_
    exact z_iret hE hR dX8_setTreasuryLimit_23 (congrArg (fun x => some (Value.int (i32 x))) (by unfold rv_setTreasuryLimit; first | ((rw [if_neg (by omega)]) <;> first | rfl | omega) | ((rw [if_pos (by omega)]) <;> first | rfl | omega))) (by first | ((rw [if_pos (by omega)]) <;> (rfl)) | (rw [if_neg (by omega)]))
  · refine z_aload_n hE 0 rfl rfl dX8_setTreasuryLimit_12 ?_
    refine z_iconst hE dX8_setTreasuryLimit_13 ?_
    refine z_iload_n hE 1 rfl rfl dX8_setTreasuryLimit_14 ?_
    refine z_callV hE (c_X8_puts l0 D0 cI0 cJ0 ad S 3 v (by omega) (by omega) (by omega)) (by decide) rfl rfl zm_X8_73 zi_yX8_puts zs_yX8_puts zn_RX8 zc_yX8_puts (hy_X8_puts) (Nat.le_of_ble_eq_true rfl) (Nat.le_of_ble_eq_true rfl) rfl rfl rfl (Nat.le_of_ble_eq_true rfl) dX8_setTreasuryLimit_15 ?_
    try simp only [us_eq, us_us, us_ne h67, us_ne h76, us_ne h68, us_ne h86, us_ne h78, us_ne h87, us_in h67, us_in h76]
    try simp only [us_eq, us_us, us_ne h67, us_ne h76, us_ne h68, us_ne h86, us_ne h78, us_ne h87, us_in h67, us_in h76]
    try simp only [us_eq, us_us, us_ne h67, us_ne h76, us_ne h68, us_ne h86, us_ne h78, us_ne h87, us_in h67, us_in h76]
    refine z_goto (tgt := 23) hE (d := dX8_setTreasuryLimit_18) (ht := by decide) ?_
    exact z_iret hE hR dX8_setTreasuryLimit_23 (congrArg (fun x => some (Value.int (i32 x))) (by unfold rv_setTreasuryLimit; first | ((rw [if_neg (by omega)]) <;> first | rfl | omega) | ((rw [if_pos (by omega)]) <;> first | rfl | omega))) (by first | ((rw [if_pos (by omega)]) <;> (rfl)) | (rw [if_neg (by omega)]))
theorem dX8_setBooks_0 : decode cX8_setBooks 0 = .ok (.iload_n 1, 1) := by decide +kernel
theorem dX8_setBooks_1 : decode cX8_setBooks 1 = .ok (.i2l, 1) := by decide +kernel
theorem dX8_setBooks_2 : decode cX8_setBooks 2 = .ok (.lconst 0, 1) := by decide +kernel
theorem dX8_setBooks_3 : decode cX8_setBooks 3 = .ok (.ldc2_w 84, 3) := by decide +kernel
theorem dX8_setBooks_6 : decode cX8_setBooks 6 = .ok (.invokestatic 35, 3) := by decide +kernel
theorem dX8_setBooks_9 : decode cX8_setBooks 9 = .ok (.ifCond .eq 15, 3) := by decide +kernel
theorem dX8_setBooks_12 : decode cX8_setBooks 12 = .ok (.iload_n 2, 1) := by decide +kernel
theorem dX8_setBooks_13 : decode cX8_setBooks 13 = .ok (.i2l, 1) := by decide +kernel
theorem dX8_setBooks_14 : decode cX8_setBooks 14 = .ok (.lconst 0, 1) := by decide +kernel
theorem dX8_setBooks_15 : decode cX8_setBooks 15 = .ok (.ldc2_w 84, 3) := by decide +kernel
theorem dX8_setBooks_18 : decode cX8_setBooks 18 = .ok (.invokestatic 35, 3) := by decide +kernel
theorem dX8_setBooks_21 : decode cX8_setBooks 21 = .ok (.ifCond .ne 6, 3) := by decide +kernel
theorem dX8_setBooks_24 : decode cX8_setBooks 24 = .ok (.ldc 68, 2) := by decide +kernel
theorem dX8_setBooks_26 : decode cX8_setBooks 26 = .ok (.ireturn, 1) := by decide +kernel
theorem dX8_setBooks_27 : decode cX8_setBooks 27 = .ok (.aload_n 0, 1) := by decide +kernel
theorem dX8_setBooks_28 : decode cX8_setBooks 28 = .ok (.getfield 7, 3) := by decide +kernel
theorem dX8_setBooks_31 : decode cX8_setBooks 31 = .ok (.bipush 7, 2) := by decide +kernel
theorem dX8_setBooks_33 : decode cX8_setBooks 33 = .ok (.laload, 1) := by decide +kernel
theorem dX8_setBooks_34 : decode cX8_setBooks 34 = .ok (.aload_n 0, 1) := by decide +kernel
theorem dX8_setBooks_35 : decode cX8_setBooks 35 = .ok (.getfield 7, 3) := by decide +kernel
theorem dX8_setBooks_38 : decode cX8_setBooks 38 = .ok (.bipush 8, 2) := by decide +kernel
theorem dX8_setBooks_40 : decode cX8_setBooks 40 = .ok (.laload, 1) := by decide +kernel
theorem dX8_setBooks_41 : decode cX8_setBooks 41 = .ok (.lsub, 1) := by decide +kernel
theorem dX8_setBooks_42 : decode cX8_setBooks 42 = .ok (.l2i, 1) := by decide +kernel
theorem dX8_setBooks_43 : decode cX8_setBooks 43 = .ok (.istore_n 3, 1) := by decide +kernel
theorem dX8_setBooks_44 : decode cX8_setBooks 44 = .ok (.aload_n 0, 1) := by decide +kernel
theorem dX8_setBooks_45 : decode cX8_setBooks 45 = .ok (.invokevirtual 43, 3) := by decide +kernel
theorem dX8_setBooks_48 : decode cX8_setBooks 48 = .ok (.aload_n 0, 1) := by decide +kernel
theorem dX8_setBooks_49 : decode cX8_setBooks 49 = .ok (.getfield 7, 3) := by decide +kernel
theorem dX8_setBooks_52 : decode cX8_setBooks 52 = .ok (.bipush 7, 2) := by decide +kernel
theorem dX8_setBooks_54 : decode cX8_setBooks 54 = .ok (.iload_n 1, 1) := by decide +kernel
theorem dX8_setBooks_55 : decode cX8_setBooks 55 = .ok (.i2l, 1) := by decide +kernel
theorem dX8_setBooks_56 : decode cX8_setBooks 56 = .ok (.lastore, 1) := by decide +kernel
theorem dX8_setBooks_57 : decode cX8_setBooks 57 = .ok (.aload_n 0, 1) := by decide +kernel
theorem dX8_setBooks_58 : decode cX8_setBooks 58 = .ok (.getfield 7, 3) := by decide +kernel
theorem dX8_setBooks_61 : decode cX8_setBooks 61 = .ok (.bipush 8, 2) := by decide +kernel
theorem dX8_setBooks_63 : decode cX8_setBooks 63 = .ok (.iload_n 2, 1) := by decide +kernel
theorem dX8_setBooks_64 : decode cX8_setBooks 64 = .ok (.i2l, 1) := by decide +kernel
theorem dX8_setBooks_65 : decode cX8_setBooks 65 = .ok (.lastore, 1) := by decide +kernel
theorem dX8_setBooks_66 : decode cX8_setBooks 66 = .ok (.iload_n 3, 1) := by decide +kernel
theorem dX8_setBooks_67 : decode cX8_setBooks 67 = .ok (.ireturn, 1) := by decide +kernel
theorem hy_X8_setBooks : yX8_setBooks.cls ≠ "java/lang/invoke/MethodHandle" ∧ yX8_setBooks.cls ≠ "java/lang/invoke/VarHandle" ∧ (parseMethodDescriptor yX8_setBooks.desc).map (fun d => d.parameters.length) = some 2 := ⟨by decide +kernel, by decide +kernel, by decide +kernel⟩
set_option maxHeartbeats 4000000 in
set_option maxRecDepth 100000 in
theorem c_X8_setBooks (l0 : Launch) (D0 : va_G) (cI0 cJ0 : ClassId) (ad : Nat → Nat → Nat) (S : zM) (a : Int) (bb : Int) (h6 : 0 ≤ S 6 0 ∧ S 6 0 ≤ 4) (hI : Inv (S 7)) (bb_a : -2147483648 ≤ a ∧ a < 2147483648) (bb_bb : -2147483648 ≤ bb ∧ bb < 2147483648) : Ct l0 D0 cI0 cJ0 ad yX8_setBooks cX8_setBooks 4 (some .int) 1 25 [.ref (ad 6 27), .int (i32 a), .int (i32 bb)] S (some (.int (i32 (rv_setBooks (S 7) a bb)))) (fun X => X = if ok_setBooks a bb then us (us (us S 8 (mp (S 8) (S 7) (S 6 0))) 6 (up (S 6) 0 (min (S 6 0 + 1) 4))) 7 (nx_setBooks (S 7) a bb) else S) := by
  refine Ct.of (by decide) (Nat.le_of_ble_eq_true rfl) (fun E hE hR => ?_)
  have hE : zG E l0 D0 cI0 cJ0 ad cX8_setBooks 4 RX8 1 25 := hE
  show Z E S 0 [(0, .ref (ad 6 27)), (1, .int (i32 a)), (2, .int (i32 bb))] []
  have h67 : (6 : Nat) ≠ 7 := by decide
  have h76 : (7 : Nat) ≠ 6 := by decide
  have h68 : (6 : Nat) ≠ 8 := by decide
  have h86 : (8 : Nat) ≠ 6 := by decide
  have h78 : (7 : Nat) ≠ 8 := by decide
  have h87 : (8 : Nat) ≠ 7 := by decide
  have hI0 := hI.1
  have hA := inA hI0
  unfold InvA at hA
  refine z_iload_n hE 1 rfl rfl dX8_setBooks_0 ?_
  refine z_i2l hE ⟨by omega, by omega⟩ dX8_setBooks_1 ?_
  refine z_lconst (a := 0) hE rfl dX8_setBooks_2 ?_
  refine z_ldc2 (a := 100000000) hE zl_X8_84 (by decide) dX8_setBooks_3 ?_
  refine z_callS hE (c_X8_in l0 D0 cI0 cJ0 ad S a 0 100000000 (⟨by omega, by omega⟩) (⟨by omega, by omega⟩) (⟨by omega, by omega⟩)) zm_X8_35 zt_yX8_in zn_RX8 zc_yX8_in (hy_X8_in) (Nat.le_of_ble_eq_true rfl) (Nat.le_of_ble_eq_true rfl) rfl rfl rfl (Nat.le_of_ble_eq_true rfl) dX8_setBooks_6 ?_
  refine z_ifb_eq (tgt := 24) hE dX8_setBooks_9 (by decide) (fun c1 => ?_) (fun c1 => ?_)
  · refine z_ldc (a := -2000000001) hE zk_X8_68 (by decide) dX8_setBooks_24 ?_
    exact z_iret hE hR dX8_setBooks_26 (congrArg (fun x => some (Value.int (i32 x))) (by unfold rv_setBooks; first | ((rw [if_neg (by omega)]) <;> first | rfl | omega) | ((rw [if_pos (by omega)]) <;> first | rfl | omega))) (by first | ((rw [if_pos (by omega)]) <;> (rfl)) | (rw [if_neg (by omega)]))
  · refine z_iload_n hE 2 rfl rfl dX8_setBooks_12 ?_
    refine z_i2l hE ⟨by omega, by omega⟩ dX8_setBooks_13 ?_
    refine z_lconst (a := 0) hE rfl dX8_setBooks_14 ?_
    refine z_ldc2 (a := 100000000) hE zl_X8_84 (by decide) dX8_setBooks_15 ?_
    refine z_callS hE (c_X8_in l0 D0 cI0 cJ0 ad S bb 0 100000000 (⟨by omega, by omega⟩) (⟨by omega, by omega⟩) (⟨by omega, by omega⟩)) zm_X8_35 zt_yX8_in zn_RX8 zc_yX8_in (hy_X8_in) (Nat.le_of_ble_eq_true rfl) (Nat.le_of_ble_eq_true rfl) rfl rfl rfl (Nat.le_of_ble_eq_true rfl) dX8_setBooks_18 ?_
    refine z_ifb_ne (tgt := 27) hE dX8_setBooks_21 (by decide) (fun c2 => ?_) (fun c2 => ?_)
    · refine z_aload_n hE 0 rfl rfl dX8_setBooks_27 ?_
      refine gf_8_0 hE (by decide) zf_X8_7 dX8_setBooks_28 ?_
      refine z_bipush (a := 7) hE (by decide) dX8_setBooks_31 ?_
      refine al_28 hE (by decide) (by omega) (by omega) dX8_setBooks_33 ?_
      refine z_aload_n hE 0 rfl rfl dX8_setBooks_34 ?_
      refine gf_8_0 hE (by decide) zf_X8_7 dX8_setBooks_35 ?_
      refine z_bipush (a := 8) hE (by decide) dX8_setBooks_38 ?_
      refine al_28 hE (by decide) (by omega) (by omega) dX8_setBooks_40 ?_
      refine z_lsub hE dX8_setBooks_41 ?_
      refine z_l2i hE dX8_setBooks_42 ?_
      refine z_istore_n hE rfl (by decide) rfl dX8_setBooks_43 ?_
      refine z_aload_n hE 1 rfl rfl dX8_setBooks_44 ?_
      refine z_callV hE (c_X8_notes l0 D0 cI0 cJ0 ad S (by omega)) (by decide) rfl rfl zm_X8_43 zi_yX8_notes zs_yX8_notes zn_RX8 zc_yX8_notes (hy_X8_notes) (Nat.le_of_ble_eq_true rfl) (Nat.le_of_ble_eq_true rfl) rfl rfl rfl (Nat.le_of_ble_eq_true rfl) dX8_setBooks_45 ?_
      try simp only [us_eq, us_us, us_ne h67, us_ne h76, us_ne h68, us_ne h86, us_ne h78, us_ne h87, us_in h67, us_in h76]
      refine z_aload_n hE 1 rfl rfl dX8_setBooks_48 ?_
      refine gf_8_0 hE (by decide) zf_X8_7 dX8_setBooks_49 ?_
      refine z_bipush (a := 7) hE (by decide) dX8_setBooks_52 ?_
      refine z_iload_n hE 2 rfl rfl dX8_setBooks_54 ?_
      refine z_i2l hE ⟨by omega, by omega⟩ dX8_setBooks_55 ?_
      refine as_28 hE (by decide) (by omega) (by omega) dX8_setBooks_56 ?_
      try simp only [us_eq, us_us, us_ne h67, us_ne h76, us_ne h68, us_ne h86, us_ne h78, us_ne h87, us_in h67, us_in h76]
      refine z_aload_n hE 1 rfl rfl dX8_setBooks_57 ?_
      refine gf_8_0 hE (by decide) zf_X8_7 dX8_setBooks_58 ?_
      refine z_bipush (a := 8) hE (by decide) dX8_setBooks_61 ?_
      refine z_iload_n hE 3 rfl rfl dX8_setBooks_63 ?_
      refine z_i2l hE ⟨by omega, by omega⟩ dX8_setBooks_64 ?_
      refine as_28 hE (by decide) (by omega) (by omega) dX8_setBooks_65 ?_
      try simp only [us_eq, us_us, us_ne h67, us_ne h76, us_ne h68, us_ne h86, us_ne h78, us_ne h87, us_in h67, us_in h76]
      refine z_iload_n hE 0 rfl rfl dX8_setBooks_66 ?_
      exact z_iret hE hR dX8_setBooks_67 (congrArg (fun x => some (Value.int (i32 x))) (by unfold rv_setBooks; first | ((rw [if_neg (by omega)]) <;> first | rfl | omega) | ((rw [if_pos (by omega)]) <;> first | rfl | omega))) (by first | ((rw [if_pos (by omega)]) <;> (rfl)) | (rw [if_neg (by omega)]))
    · refine z_ldc (a := -2000000001) hE zk_X8_68 (by decide) dX8_setBooks_24 ?_
      exact z_iret hE hR dX8_setBooks_26 (congrArg (fun x => some (Value.int (i32 x))) (by unfold rv_setBooks; first | ((rw [if_neg (by omega)]) <;> first | rfl | omega) | ((rw [if_pos (by omega)]) <;> first | rfl | omega))) (by first | ((rw [if_pos (by omega)]) <;> (rfl)) | (rw [if_neg (by omega)]))
theorem dX8_setVoting_0 : decode cX8_setVoting 0 = .ok (.iload_n 1, 1) := by decide +kernel
theorem dX8_setVoting_1 : decode cX8_setVoting 1 = .ok (.i2l, 1) := by decide +kernel
theorem dX8_setVoting_2 : decode cX8_setVoting 2 = .ok (.lconst 0, 1) := by decide +kernel
theorem dX8_setVoting_3 : decode cX8_setVoting 3 = .ok (.ldc2_w 33, 3) := by decide +kernel
theorem dX8_setVoting_6 : decode cX8_setVoting 6 = .ok (.invokestatic 35, 3) := by decide +kernel
theorem dX8_setVoting_9 : decode cX8_setVoting 9 = .ok (.ifCond .eq 15, 3) := by decide +kernel
theorem dX8_setVoting_12 : decode cX8_setVoting 12 = .ok (.iload_n 2, 1) := by decide +kernel
theorem dX8_setVoting_13 : decode cX8_setVoting 13 = .ok (.i2l, 1) := by decide +kernel
theorem dX8_setVoting_14 : decode cX8_setVoting 14 = .ok (.lconst 0, 1) := by decide +kernel
theorem dX8_setVoting_15 : decode cX8_setVoting 15 = .ok (.ldc2_w 31, 3) := by decide +kernel
theorem dX8_setVoting_18 : decode cX8_setVoting 18 = .ok (.invokestatic 35, 3) := by decide +kernel
theorem dX8_setVoting_21 : decode cX8_setVoting 21 = .ok (.ifCond .ne 6, 3) := by decide +kernel
theorem dX8_setVoting_24 : decode cX8_setVoting 24 = .ok (.ldc 68, 2) := by decide +kernel
theorem dX8_setVoting_26 : decode cX8_setVoting 26 = .ok (.ireturn, 1) := by decide +kernel
theorem dX8_setVoting_27 : decode cX8_setVoting 27 = .ok (.aload_n 0, 1) := by decide +kernel
theorem dX8_setVoting_28 : decode cX8_setVoting 28 = .ok (.bipush 16, 2) := by decide +kernel
theorem dX8_setVoting_30 : decode cX8_setVoting 30 = .ok (.iload_n 1, 1) := by decide +kernel
theorem dX8_setVoting_31 : decode cX8_setVoting 31 = .ok (.invokevirtual 73, 3) := by decide +kernel
theorem dX8_setVoting_34 : decode cX8_setVoting 34 = .ok (.istore_n 3, 1) := by decide +kernel
theorem dX8_setVoting_35 : decode cX8_setVoting 35 = .ok (.aload_n 0, 1) := by decide +kernel
theorem dX8_setVoting_36 : decode cX8_setVoting 36 = .ok (.getfield 7, 3) := by decide +kernel
theorem dX8_setVoting_39 : decode cX8_setVoting 39 = .ok (.bipush 17, 2) := by decide +kernel
theorem dX8_setVoting_41 : decode cX8_setVoting 41 = .ok (.iload_n 2, 1) := by decide +kernel
theorem dX8_setVoting_42 : decode cX8_setVoting 42 = .ok (.i2l, 1) := by decide +kernel
theorem dX8_setVoting_43 : decode cX8_setVoting 43 = .ok (.lastore, 1) := by decide +kernel
theorem dX8_setVoting_44 : decode cX8_setVoting 44 = .ok (.iload_n 3, 1) := by decide +kernel
theorem dX8_setVoting_45 : decode cX8_setVoting 45 = .ok (.ireturn, 1) := by decide +kernel
theorem hy_X8_setVoting : yX8_setVoting.cls ≠ "java/lang/invoke/MethodHandle" ∧ yX8_setVoting.cls ≠ "java/lang/invoke/VarHandle" ∧ (parseMethodDescriptor yX8_setVoting.desc).map (fun d => d.parameters.length) = some 2 := ⟨by decide +kernel, by decide +kernel, by decide +kernel⟩
set_option maxHeartbeats 4000000 in
set_option maxRecDepth 100000 in
theorem c_X8_setVoting (l0 : Launch) (D0 : va_G) (cI0 cJ0 : ClassId) (ad : Nat → Nat → Nat) (S : zM) (a : Int) (bb : Int) (h6 : 0 ≤ S 6 0 ∧ S 6 0 ≤ 4) (hI : Inv (S 7)) (bb_a : -2147483648 ≤ a ∧ a < 2147483648) (bb_bb : -2147483648 ≤ bb ∧ bb < 2147483648) : Ct l0 D0 cI0 cJ0 ad yX8_setVoting cX8_setVoting 4 (some .int) 2 44 [.ref (ad 6 27), .int (i32 a), .int (i32 bb)] S (some (.int (i32 (rv_setVoting (S 7) a bb)))) (fun X => X = if ok_setVoting a bb then us (us (us S 8 (mp (S 8) (S 7) (S 6 0))) 6 (up (S 6) 0 (min (S 6 0 + 1) 4))) 7 (nx_setVoting (S 7) a bb) else S) := by
  refine Ct.of (by decide) (Nat.le_of_ble_eq_true rfl) (fun E hE hR => ?_)
  have hE : zG E l0 D0 cI0 cJ0 ad cX8_setVoting 4 RX8 2 44 := hE
  show Z E S 0 [(0, .ref (ad 6 27)), (1, .int (i32 a)), (2, .int (i32 bb))] []
  have h67 : (6 : Nat) ≠ 7 := by decide
  have h76 : (7 : Nat) ≠ 6 := by decide
  have h68 : (6 : Nat) ≠ 8 := by decide
  have h86 : (8 : Nat) ≠ 6 := by decide
  have h78 : (7 : Nat) ≠ 8 := by decide
  have h87 : (8 : Nat) ≠ 7 := by decide
  have hI0 := hI.1
  have hA := inA hI0
  unfold InvA at hA
  refine z_iload_n hE 1 rfl rfl dX8_setVoting_0 ?_
  refine z_i2l hE ⟨by omega, by omega⟩ dX8_setVoting_1 ?_
  refine z_lconst (a := 0) hE rfl dX8_setVoting_2 ?_
  refine z_ldc2 (a := 3) hE zl_X8_33 (by decide) dX8_setVoting_3 ?_
  refine z_callS hE (c_X8_in l0 D0 cI0 cJ0 ad S a 0 3 (⟨by omega, by omega⟩) (⟨by omega, by omega⟩) (⟨by omega, by omega⟩)) zm_X8_35 zt_yX8_in zn_RX8 zc_yX8_in (hy_X8_in) (Nat.le_of_ble_eq_true rfl) (Nat.le_of_ble_eq_true rfl) rfl rfl rfl (Nat.le_of_ble_eq_true rfl) dX8_setVoting_6 ?_
  refine z_ifb_eq (tgt := 24) hE dX8_setVoting_9 (by decide) (fun c1 => ?_) (fun c1 => ?_)
  · refine z_ldc (a := -2000000001) hE zk_X8_68 (by decide) dX8_setVoting_24 ?_
    exact z_iret hE hR dX8_setVoting_26 (congrArg (fun x => some (Value.int (i32 x))) (by unfold rv_setVoting; first | ((rw [if_neg (by omega)]) <;> first | rfl | omega) | ((rw [if_pos (by omega)]) <;> first | rfl | omega))) (by first | ((rw [if_pos (by omega)]) <;> (rfl)) | (rw [if_neg (by omega)]))
  · refine z_iload_n hE 2 rfl rfl dX8_setVoting_12 ?_
    refine z_i2l hE ⟨by omega, by omega⟩ dX8_setVoting_13 ?_
    refine z_lconst (a := 0) hE rfl dX8_setVoting_14 ?_
    refine z_ldc2 (a := 100) hE zl_X8_31 (by decide) dX8_setVoting_15 ?_
    refine z_callS hE (c_X8_in l0 D0 cI0 cJ0 ad S bb 0 100 (⟨by omega, by omega⟩) (⟨by omega, by omega⟩) (⟨by omega, by omega⟩)) zm_X8_35 zt_yX8_in zn_RX8 zc_yX8_in (hy_X8_in) (Nat.le_of_ble_eq_true rfl) (Nat.le_of_ble_eq_true rfl) rfl rfl rfl (Nat.le_of_ble_eq_true rfl) dX8_setVoting_18 ?_
    refine z_ifb_ne (tgt := 27) hE dX8_setVoting_21 (by decide) (fun c2 => ?_) (fun c2 => ?_)
    · refine z_aload_n hE 0 rfl rfl dX8_setVoting_27 ?_
      refine z_bipush (a := 16) hE (by decide) dX8_setVoting_28 ?_
      refine z_iload_n hE 1 rfl rfl dX8_setVoting_30 ?_
      refine z_callV hE (c_X8_puts l0 D0 cI0 cJ0 ad S 16 a (by omega) (by omega) (by omega)) (by decide) rfl rfl zm_X8_73 zi_yX8_puts zs_yX8_puts zn_RX8 zc_yX8_puts (hy_X8_puts) (Nat.le_of_ble_eq_true rfl) (Nat.le_of_ble_eq_true rfl) rfl rfl rfl (Nat.le_of_ble_eq_true rfl) dX8_setVoting_31 ?_
      try simp only [us_eq, us_us, us_ne h67, us_ne h76, us_ne h68, us_ne h86, us_ne h78, us_ne h87, us_in h67, us_in h76]
      try simp only [us_eq, us_us, us_ne h67, us_ne h76, us_ne h68, us_ne h86, us_ne h78, us_ne h87, us_in h67, us_in h76]
      try simp only [us_eq, us_us, us_ne h67, us_ne h76, us_ne h68, us_ne h86, us_ne h78, us_ne h87, us_in h67, us_in h76]
      refine z_istore_n hE rfl (by decide) rfl dX8_setVoting_34 ?_
      refine z_aload_n hE 1 rfl rfl dX8_setVoting_35 ?_
      refine gf_8_0 hE (by decide) zf_X8_7 dX8_setVoting_36 ?_
      refine z_bipush (a := 17) hE (by decide) dX8_setVoting_39 ?_
      refine z_iload_n hE 3 rfl rfl dX8_setVoting_41 ?_
      refine z_i2l hE ⟨by omega, by omega⟩ dX8_setVoting_42 ?_
      refine as_28 hE (by decide) (by omega) (by omega) dX8_setVoting_43 ?_
      try simp only [us_eq, us_us, us_ne h67, us_ne h76, us_ne h68, us_ne h86, us_ne h78, us_ne h87, us_in h67, us_in h76]
      refine z_iload_n hE 0 rfl rfl dX8_setVoting_44 ?_
      exact z_iret hE hR dX8_setVoting_45 (congrArg (fun x => some (Value.int (i32 x))) (by unfold rv_setVoting; first | ((rw [if_neg (by omega)]) <;> first | rfl | omega) | ((rw [if_pos (by omega)]) <;> first | rfl | omega))) (by first | ((rw [if_pos (by omega)]) <;> (rfl)) | (rw [if_neg (by omega)]))
    · refine z_ldc (a := -2000000001) hE zk_X8_68 (by decide) dX8_setVoting_24 ?_
      exact z_iret hE hR dX8_setVoting_26 (congrArg (fun x => some (Value.int (i32 x))) (by unfold rv_setVoting; first | ((rw [if_neg (by omega)]) <;> first | rfl | omega) | ((rw [if_pos (by omega)]) <;> first | rfl | omega))) (by first | ((rw [if_pos (by omega)]) <;> (rfl)) | (rw [if_neg (by omega)]))
theorem dX8_addSurplus_0 : decode cX8_addSurplus 0 = .ok (.iload_n 1, 1) := by decide +kernel
theorem dX8_addSurplus_1 : decode cX8_addSurplus 1 = .ok (.i2l, 1) := by decide +kernel
theorem dX8_addSurplus_2 : decode cX8_addSurplus 2 = .ok (.ldc2_w 86, 3) := by decide +kernel
theorem dX8_addSurplus_5 : decode cX8_addSurplus 5 = .ok (.ldc2_w 71, 3) := by decide +kernel
theorem dX8_addSurplus_8 : decode cX8_addSurplus 8 = .ok (.invokestatic 35, 3) := by decide +kernel
theorem dX8_addSurplus_11 : decode cX8_addSurplus 11 = .ok (.ifCond .ne 6, 3) := by decide +kernel
theorem dX8_addSurplus_14 : decode cX8_addSurplus 14 = .ok (.ldc 68, 2) := by decide +kernel
theorem dX8_addSurplus_16 : decode cX8_addSurplus 16 = .ok (.ireturn, 1) := by decide +kernel
theorem dX8_addSurplus_17 : decode cX8_addSurplus 17 = .ok (.aload_n 0, 1) := by decide +kernel
theorem dX8_addSurplus_18 : decode cX8_addSurplus 18 = .ok (.invokevirtual 43, 3) := by decide +kernel
theorem dX8_addSurplus_21 : decode cX8_addSurplus 21 = .ok (.aload_n 0, 1) := by decide +kernel
theorem dX8_addSurplus_22 : decode cX8_addSurplus 22 = .ok (.getfield 7, 3) := by decide +kernel
theorem dX8_addSurplus_25 : decode cX8_addSurplus 25 = .ok (.bipush 9, 2) := by decide +kernel
theorem dX8_addSurplus_27 : decode cX8_addSurplus 27 = .ok (.laload, 1) := by decide +kernel
theorem dX8_addSurplus_28 : decode cX8_addSurplus 28 = .ok (.ldc2_w 33, 3) := by decide +kernel
theorem dX8_addSurplus_31 : decode cX8_addSurplus 31 = .ok (.lcmp, 1) := by decide +kernel
theorem dX8_addSurplus_32 : decode cX8_addSurplus 32 = .ok (.ifCond .ne 42, 3) := by decide +kernel
theorem dX8_addSurplus_35 : decode cX8_addSurplus 35 = .ok (.aload_n 0, 1) := by decide +kernel
theorem dX8_addSurplus_36 : decode cX8_addSurplus 36 = .ok (.getfield 7, 3) := by decide +kernel
theorem dX8_addSurplus_39 : decode cX8_addSurplus 39 = .ok (.bipush 10, 2) := by decide +kernel
theorem dX8_addSurplus_41 : decode cX8_addSurplus 41 = .ok (.aload_n 0, 1) := by decide +kernel
theorem dX8_addSurplus_42 : decode cX8_addSurplus 42 = .ok (.getfield 7, 3) := by decide +kernel
theorem dX8_addSurplus_45 : decode cX8_addSurplus 45 = .ok (.bipush 11, 2) := by decide +kernel
theorem dX8_addSurplus_47 : decode cX8_addSurplus 47 = .ok (.laload, 1) := by decide +kernel
theorem dX8_addSurplus_48 : decode cX8_addSurplus 48 = .ok (.lastore, 1) := by decide +kernel
theorem dX8_addSurplus_49 : decode cX8_addSurplus 49 = .ok (.aload_n 0, 1) := by decide +kernel
theorem dX8_addSurplus_50 : decode cX8_addSurplus 50 = .ok (.getfield 7, 3) := by decide +kernel
theorem dX8_addSurplus_53 : decode cX8_addSurplus 53 = .ok (.bipush 11, 2) := by decide +kernel
theorem dX8_addSurplus_55 : decode cX8_addSurplus 55 = .ok (.aload_n 0, 1) := by decide +kernel
theorem dX8_addSurplus_56 : decode cX8_addSurplus 56 = .ok (.getfield 7, 3) := by decide +kernel
theorem dX8_addSurplus_59 : decode cX8_addSurplus 59 = .ok (.bipush 12, 2) := by decide +kernel
theorem dX8_addSurplus_61 : decode cX8_addSurplus 61 = .ok (.laload, 1) := by decide +kernel
theorem dX8_addSurplus_62 : decode cX8_addSurplus 62 = .ok (.lastore, 1) := by decide +kernel
theorem dX8_addSurplus_63 : decode cX8_addSurplus 63 = .ok (.aload_n 0, 1) := by decide +kernel
theorem dX8_addSurplus_64 : decode cX8_addSurplus 64 = .ok (.getfield 7, 3) := by decide +kernel
theorem dX8_addSurplus_67 : decode cX8_addSurplus 67 = .ok (.bipush 9, 2) := by decide +kernel
theorem dX8_addSurplus_69 : decode cX8_addSurplus 69 = .ok (.dup2, 1) := by decide +kernel
theorem dX8_addSurplus_70 : decode cX8_addSurplus 70 = .ok (.laload, 1) := by decide +kernel
theorem dX8_addSurplus_71 : decode cX8_addSurplus 71 = .ok (.lconst 1, 1) := by decide +kernel
theorem dX8_addSurplus_72 : decode cX8_addSurplus 72 = .ok (.lsub, 1) := by decide +kernel
theorem dX8_addSurplus_73 : decode cX8_addSurplus 73 = .ok (.lastore, 1) := by decide +kernel
theorem dX8_addSurplus_74 : decode cX8_addSurplus 74 = .ok (.aload_n 0, 1) := by decide +kernel
theorem dX8_addSurplus_75 : decode cX8_addSurplus 75 = .ok (.getfield 7, 3) := by decide +kernel
theorem dX8_addSurplus_78 : decode cX8_addSurplus 78 = .ok (.bipush 10, 2) := by decide +kernel
theorem dX8_addSurplus_80 : decode cX8_addSurplus 80 = .ok (.aload_n 0, 1) := by decide +kernel
theorem dX8_addSurplus_81 : decode cX8_addSurplus 81 = .ok (.getfield 7, 3) := by decide +kernel
theorem dX8_addSurplus_84 : decode cX8_addSurplus 84 = .ok (.bipush 9, 2) := by decide +kernel
theorem dX8_addSurplus_86 : decode cX8_addSurplus 86 = .ok (.laload, 1) := by decide +kernel
theorem dX8_addSurplus_87 : decode cX8_addSurplus 87 = .ok (.l2i, 1) := by decide +kernel
theorem dX8_addSurplus_88 : decode cX8_addSurplus 88 = .ok (.iadd, 1) := by decide +kernel
theorem dX8_addSurplus_89 : decode cX8_addSurplus 89 = .ok (.iload_n 1, 1) := by decide +kernel
theorem dX8_addSurplus_90 : decode cX8_addSurplus 90 = .ok (.i2l, 1) := by decide +kernel
theorem dX8_addSurplus_91 : decode cX8_addSurplus 91 = .ok (.lastore, 1) := by decide +kernel
theorem dX8_addSurplus_92 : decode cX8_addSurplus 92 = .ok (.aload_n 0, 1) := by decide +kernel
theorem dX8_addSurplus_93 : decode cX8_addSurplus 93 = .ok (.getfield 7, 3) := by decide +kernel
theorem dX8_addSurplus_96 : decode cX8_addSurplus 96 = .ok (.bipush 9, 2) := by decide +kernel
theorem dX8_addSurplus_98 : decode cX8_addSurplus 98 = .ok (.dup2, 1) := by decide +kernel
theorem dX8_addSurplus_99 : decode cX8_addSurplus 99 = .ok (.laload, 1) := by decide +kernel
theorem dX8_addSurplus_100 : decode cX8_addSurplus 100 = .ok (.lconst 1, 1) := by decide +kernel
theorem dX8_addSurplus_101 : decode cX8_addSurplus 101 = .ok (.ladd, 1) := by decide +kernel
theorem dX8_addSurplus_102 : decode cX8_addSurplus 102 = .ok (.lastore, 1) := by decide +kernel
theorem dX8_addSurplus_103 : decode cX8_addSurplus 103 = .ok (.aload_n 0, 1) := by decide +kernel
theorem dX8_addSurplus_104 : decode cX8_addSurplus 104 = .ok (.getfield 7, 3) := by decide +kernel
theorem dX8_addSurplus_107 : decode cX8_addSurplus 107 = .ok (.bipush 9, 2) := by decide +kernel
theorem dX8_addSurplus_109 : decode cX8_addSurplus 109 = .ok (.laload, 1) := by decide +kernel
theorem dX8_addSurplus_110 : decode cX8_addSurplus 110 = .ok (.l2i, 1) := by decide +kernel
theorem dX8_addSurplus_111 : decode cX8_addSurplus 111 = .ok (.ireturn, 1) := by decide +kernel
theorem hy_X8_addSurplus : yX8_addSurplus.cls ≠ "java/lang/invoke/MethodHandle" ∧ yX8_addSurplus.cls ≠ "java/lang/invoke/VarHandle" ∧ (parseMethodDescriptor yX8_addSurplus.desc).map (fun d => d.parameters.length) = some 1 := ⟨by decide +kernel, by decide +kernel, by decide +kernel⟩
set_option maxHeartbeats 4000000 in
set_option maxRecDepth 100000 in
theorem c_X8_addSurplus (l0 : Launch) (D0 : va_G) (cI0 cJ0 : ClassId) (ad : Nat → Nat → Nat) (S : zM) (a : Int) (h6 : 0 ≤ S 6 0 ∧ S 6 0 ≤ 4) (hI : Inv (S 7)) (bb_a : -2147483648 ≤ a ∧ a < 2147483648) : Ct l0 D0 cI0 cJ0 ad yX8_addSurplus cX8_addSurplus 2 (some .int) 1 25 [.ref (ad 6 27), .int (i32 a)] S (some (.int (i32 (rv_addSurplus (S 7) a)))) (fun X => X = if ok_addSurplus a then us (us (us S 8 (mp (S 8) (S 7) (S 6 0))) 6 (up (S 6) 0 (min (S 6 0 + 1) 4))) 7 (nx_addSurplus (S 7) a) else S) := by
  refine Ct.of (by decide) (Nat.le_of_ble_eq_true rfl) (fun E hE hR => ?_)
  have hE : zG E l0 D0 cI0 cJ0 ad cX8_addSurplus 2 RX8 1 25 := hE
  show Z E S 0 [(0, .ref (ad 6 27)), (1, .int (i32 a))] []
  have h67 : (6 : Nat) ≠ 7 := by decide
  have h76 : (7 : Nat) ≠ 6 := by decide
  have h68 : (6 : Nat) ≠ 8 := by decide
  have h86 : (8 : Nat) ≠ 6 := by decide
  have h78 : (7 : Nat) ≠ 8 := by decide
  have h87 : (8 : Nat) ≠ 7 := by decide
  have hI0 := hI.1
  have hA := inA hI0
  unfold InvA at hA
  refine z_iload_n hE 1 rfl rfl dX8_addSurplus_0 ?_
  refine z_i2l hE ⟨by omega, by omega⟩ dX8_addSurplus_1 ?_
  refine z_ldc2 (a := -1000000) hE zl_X8_86 (by decide) dX8_addSurplus_2 ?_
  refine z_ldc2 (a := 1000000) hE zl_X8_71 (by decide) dX8_addSurplus_5 ?_
  refine z_callS hE (c_X8_in l0 D0 cI0 cJ0 ad S a ((-1000000)) 1000000 (⟨by omega, by omega⟩) (⟨by omega, by omega⟩) (⟨by omega, by omega⟩)) zm_X8_35 zt_yX8_in zn_RX8 zc_yX8_in (hy_X8_in) (Nat.le_of_ble_eq_true rfl) (Nat.le_of_ble_eq_true rfl) rfl rfl rfl (Nat.le_of_ble_eq_true rfl) dX8_addSurplus_8 ?_
  refine z_ifb_ne (tgt := 17) hE dX8_addSurplus_11 (by decide) (fun c1 => ?_) (fun c1 => ?_)
  · refine z_aload_n hE 0 rfl rfl dX8_addSurplus_17 ?_
    refine z_callV hE (c_X8_notes l0 D0 cI0 cJ0 ad S (by omega)) (by decide) rfl rfl zm_X8_43 zi_yX8_notes zs_yX8_notes zn_RX8 zc_yX8_notes (hy_X8_notes) (Nat.le_of_ble_eq_true rfl) (Nat.le_of_ble_eq_true rfl) rfl rfl rfl (Nat.le_of_ble_eq_true rfl) dX8_addSurplus_18 ?_
    try simp only [us_eq, us_us, us_ne h67, us_ne h76, us_ne h68, us_ne h86, us_ne h78, us_ne h87, us_in h67, us_in h76]
    refine z_aload_n hE 0 rfl rfl dX8_addSurplus_21 ?_
    refine gf_8_0 hE (by decide) zf_X8_7 dX8_addSurplus_22 ?_
    refine z_bipush (a := 9) hE (by decide) dX8_addSurplus_25 ?_
    refine al_28 hE (by decide) (by omega) (by omega) dX8_addSurplus_27 ?_
    try simp only [us_eq, us_us, us_ne h67, us_ne h76, us_ne h68, us_ne h86, us_ne h78, us_ne h87, us_in h67, us_in h76]
    refine z_ldc2 (a := 3) hE zl_X8_33 (by decide) dX8_addSurplus_28 ?_
    refine z_lcmp hE ⟨by omega, by omega⟩ ⟨by omega, by omega⟩ dX8_addSurplus_31 ?_
    refine z_ifl_ne (tgt := 74) hE dX8_addSurplus_32 (by decide) (fun c2 => ?_) (fun c2 => ?_)
    · refine z_aload_n hE 0 rfl rfl dX8_addSurplus_74 ?_
      refine gf_8_0 hE (by decide) zf_X8_7 dX8_addSurplus_75 ?_
      refine z_bipush (a := 10) hE (by decide) dX8_addSurplus_78 ?_
      refine z_aload_n hE 0 rfl rfl dX8_addSurplus_80 ?_
      refine gf_8_0 hE (by decide) zf_X8_7 dX8_addSurplus_81 ?_
      refine z_bipush (a := 9) hE (by decide) dX8_addSurplus_84 ?_
      refine al_28 hE (by decide) (by omega) (by omega) dX8_addSurplus_86 ?_
      try simp only [us_eq, us_us, us_ne h67, us_ne h76, us_ne h68, us_ne h86, us_ne h78, us_ne h87, us_in h67, us_in h76]
      refine z_l2i hE dX8_addSurplus_87 ?_
      refine z_iadd hE dX8_addSurplus_88 ?_
      refine z_iload_n hE 1 rfl rfl dX8_addSurplus_89 ?_
      refine z_i2l hE ⟨by omega, by omega⟩ dX8_addSurplus_90 ?_
      refine as_28 hE (by decide) (by omega) (by omega) dX8_addSurplus_91 ?_
      try simp only [us_eq, us_us, us_ne h67, us_ne h76, us_ne h68, us_ne h86, us_ne h78, us_ne h87, us_in h67, us_in h76]
      refine z_aload_n hE 0 rfl rfl dX8_addSurplus_92 ?_
      refine gf_8_0 hE (by decide) zf_X8_7 dX8_addSurplus_93 ?_
      refine z_bipush (a := 9) hE (by decide) dX8_addSurplus_96 ?_
      refine z_dup2 hE rfl rfl dX8_addSurplus_98 ?_
      refine al_28 hE (by decide) (by omega) (by omega) dX8_addSurplus_99 ?_
      try simp only [us_eq, us_us, us_ne h67, us_ne h76, us_ne h68, us_ne h86, us_ne h78, us_ne h87, us_in h67, us_in h76]
      rw [up_ne (show 9 ≠ 10 + (S 7 9) by omega)]
      refine z_lconst (a := 1) hE rfl dX8_addSurplus_100 ?_
      refine z_ladd hE dX8_addSurplus_101 ?_
      refine as_28 hE (by decide) (by omega) (by omega) dX8_addSurplus_102 ?_
      try simp only [us_eq, us_us, us_ne h67, us_ne h76, us_ne h68, us_ne h86, us_ne h78, us_ne h87, us_in h67, us_in h76]
      refine z_aload_n hE 0 rfl rfl dX8_addSurplus_103 ?_
      refine gf_8_0 hE (by decide) zf_X8_7 dX8_addSurplus_104 ?_
      refine z_bipush (a := 9) hE (by decide) dX8_addSurplus_107 ?_
      refine al_28 hE (by decide) (by omega) (by omega) dX8_addSurplus_109 ?_
      try simp only [us_eq, us_us, us_ne h67, us_ne h76, us_ne h68, us_ne h86, us_ne h78, us_ne h87, us_in h67, us_in h76]
      rw [up_eq]
      refine z_l2i hE dX8_addSurplus_110 ?_
      exact z_iret hE hR dX8_addSurplus_111 (congrArg (fun x => some (Value.int (i32 x))) (by unfold rv_addSurplus; first | ((rw [if_neg (by omega)]) <;> first | rfl | omega) | ((rw [if_pos (by omega), if_neg (by omega)]) <;> first | rfl | omega) | ((rw [if_pos (by omega), if_pos (by omega)]) <;> first | rfl | omega))) (by first | ((rw [if_pos (by omega)]) <;> (unfold nx_addSurplus sp_rec; first | (rw [if_neg (by omega)]; done) | (rw [if_pos (by omega), show S 7 9 - 1 + 1 = 3 by omega, show S 7 9 - 1 = 2 by omega, show (10 : Int) + 2 = 12 from rfl]; done))) | (rw [if_neg (by omega)]))
    · refine z_aload_n hE 0 rfl rfl dX8_addSurplus_35 ?_
      refine gf_8_0 hE (by decide) zf_X8_7 dX8_addSurplus_36 ?_
      refine z_bipush (a := 10) hE (by decide) dX8_addSurplus_39 ?_
      refine z_aload_n hE 0 rfl rfl dX8_addSurplus_41 ?_
      refine gf_8_0 hE (by decide) zf_X8_7 dX8_addSurplus_42 ?_
      refine z_bipush (a := 11) hE (by decide) dX8_addSurplus_45 ?_
      refine al_28 hE (by decide) (by omega) (by omega) dX8_addSurplus_47 ?_
      try simp only [us_eq, us_us, us_ne h67, us_ne h76, us_ne h68, us_ne h86, us_ne h78, us_ne h87, us_in h67, us_in h76]
      refine as_28 hE (by decide) (by omega) (by omega) dX8_addSurplus_48 ?_
      try simp only [us_eq, us_us, us_ne h67, us_ne h76, us_ne h68, us_ne h86, us_ne h78, us_ne h87, us_in h67, us_in h76]
      refine z_aload_n hE 0 rfl rfl dX8_addSurplus_49 ?_
      refine gf_8_0 hE (by decide) zf_X8_7 dX8_addSurplus_50 ?_
      refine z_bipush (a := 11) hE (by decide) dX8_addSurplus_53 ?_
      refine z_aload_n hE 0 rfl rfl dX8_addSurplus_55 ?_
      refine gf_8_0 hE (by decide) zf_X8_7 dX8_addSurplus_56 ?_
      refine z_bipush (a := 12) hE (by decide) dX8_addSurplus_59 ?_
      refine al_28 hE (by decide) (by omega) (by omega) dX8_addSurplus_61 ?_
      try simp only [us_eq, us_us, us_ne h67, us_ne h76, us_ne h68, us_ne h86, us_ne h78, us_ne h87, us_in h67, us_in h76]
      rw [up_ne (show 12 ≠ 10 by omega)]
      refine as_28 hE (by decide) (by omega) (by omega) dX8_addSurplus_62 ?_
      try simp only [us_eq, us_us, us_ne h67, us_ne h76, us_ne h68, us_ne h86, us_ne h78, us_ne h87, us_in h67, us_in h76]
      refine z_aload_n hE 0 rfl rfl dX8_addSurplus_63 ?_
      refine gf_8_0 hE (by decide) zf_X8_7 dX8_addSurplus_64 ?_
      refine z_bipush (a := 9) hE (by decide) dX8_addSurplus_67 ?_
      refine z_dup2 hE rfl rfl dX8_addSurplus_69 ?_
      refine al_28 hE (by decide) (by omega) (by omega) dX8_addSurplus_70 ?_
      try simp only [us_eq, us_us, us_ne h67, us_ne h76, us_ne h68, us_ne h86, us_ne h78, us_ne h87, us_in h67, us_in h76]
      rw [up_ne (show 9 ≠ 11 by omega)]
      rw [up_ne (show 9 ≠ 10 by omega)]
      refine z_lconst (a := 1) hE rfl dX8_addSurplus_71 ?_
      refine z_lsub hE dX8_addSurplus_72 ?_
      refine as_28 hE (by decide) (by omega) (by omega) dX8_addSurplus_73 ?_
      try simp only [us_eq, us_us, us_ne h67, us_ne h76, us_ne h68, us_ne h86, us_ne h78, us_ne h87, us_in h67, us_in h76]
      refine z_aload_n hE 0 rfl rfl dX8_addSurplus_74 ?_
      refine gf_8_0 hE (by decide) zf_X8_7 dX8_addSurplus_75 ?_
      refine z_bipush (a := 10) hE (by decide) dX8_addSurplus_78 ?_
      refine z_aload_n hE 0 rfl rfl dX8_addSurplus_80 ?_
      refine gf_8_0 hE (by decide) zf_X8_7 dX8_addSurplus_81 ?_
      refine z_bipush (a := 9) hE (by decide) dX8_addSurplus_84 ?_
      refine al_28 hE (by decide) (by omega) (by omega) dX8_addSurplus_86 ?_
      try simp only [us_eq, us_us, us_ne h67, us_ne h76, us_ne h68, us_ne h86, us_ne h78, us_ne h87, us_in h67, us_in h76]
      rw [up_eq]
      refine z_l2i hE dX8_addSurplus_87 ?_
      refine z_iadd hE dX8_addSurplus_88 ?_
      refine z_iload_n hE 1 rfl rfl dX8_addSurplus_89 ?_
      refine z_i2l hE ⟨by omega, by omega⟩ dX8_addSurplus_90 ?_
      refine as_28 hE (by decide) (by omega) (by omega) dX8_addSurplus_91 ?_
      try simp only [us_eq, us_us, us_ne h67, us_ne h76, us_ne h68, us_ne h86, us_ne h78, us_ne h87, us_in h67, us_in h76]
      refine z_aload_n hE 0 rfl rfl dX8_addSurplus_92 ?_
      refine gf_8_0 hE (by decide) zf_X8_7 dX8_addSurplus_93 ?_
      refine z_bipush (a := 9) hE (by decide) dX8_addSurplus_96 ?_
      refine z_dup2 hE rfl rfl dX8_addSurplus_98 ?_
      refine al_28 hE (by decide) (by omega) (by omega) dX8_addSurplus_99 ?_
      try simp only [us_eq, us_us, us_ne h67, us_ne h76, us_ne h68, us_ne h86, us_ne h78, us_ne h87, us_in h67, us_in h76]
      rw [up_ne (show 9 ≠ 10 + ((S 7 9) - 1) by omega)]
      rw [up_eq]
      refine z_lconst (a := 1) hE rfl dX8_addSurplus_100 ?_
      refine z_ladd hE dX8_addSurplus_101 ?_
      refine as_28 hE (by decide) (by omega) (by omega) dX8_addSurplus_102 ?_
      try simp only [us_eq, us_us, us_ne h67, us_ne h76, us_ne h68, us_ne h86, us_ne h78, us_ne h87, us_in h67, us_in h76]
      refine z_aload_n hE 0 rfl rfl dX8_addSurplus_103 ?_
      refine gf_8_0 hE (by decide) zf_X8_7 dX8_addSurplus_104 ?_
      refine z_bipush (a := 9) hE (by decide) dX8_addSurplus_107 ?_
      refine al_28 hE (by decide) (by omega) (by omega) dX8_addSurplus_109 ?_
      try simp only [us_eq, us_us, us_ne h67, us_ne h76, us_ne h68, us_ne h86, us_ne h78, us_ne h87, us_in h67, us_in h76]
      rw [up_eq]
      refine z_l2i hE dX8_addSurplus_110 ?_
      exact z_iret hE hR dX8_addSurplus_111 (congrArg (fun x => some (Value.int (i32 x))) (by unfold rv_addSurplus; first | ((rw [if_neg (by omega)]) <;> first | rfl | omega) | ((rw [if_pos (by omega), if_neg (by omega)]) <;> first | rfl | omega) | ((rw [if_pos (by omega), if_pos (by omega)]) <;> first | rfl | omega))) (by first | ((rw [if_pos (by omega)]) <;> (unfold nx_addSurplus sp_rec; first | (rw [if_neg (by omega)]; done) | (rw [if_pos (by omega), show S 7 9 - 1 + 1 = 3 by omega, show S 7 9 - 1 = 2 by omega, show (10 : Int) + 2 = 12 from rfl]; done))) | (rw [if_neg (by omega)]))
  · refine z_ldc (a := -2000000001) hE zk_X8_68 (by decide) dX8_addSurplus_14 ?_
    exact z_iret hE hR dX8_addSurplus_16 (congrArg (fun x => some (Value.int (i32 x))) (by unfold rv_addSurplus; first | ((rw [if_neg (by omega)]) <;> first | rfl | omega) | ((rw [if_pos (by omega), if_neg (by omega)]) <;> first | rfl | omega) | ((rw [if_pos (by omega), if_pos (by omega)]) <;> first | rfl | omega))) (by first | ((rw [if_pos (by omega)]) <;> (unfold nx_addSurplus sp_rec; first | (rw [if_neg (by omega)]; done) | (rw [if_pos (by omega), show S 7 9 - 1 + 1 = 3 by omega, show S 7 9 - 1 = 2 by omega, show (10 : Int) + 2 = 12 from rfl]; done))) | (rw [if_neg (by omega)]))
theorem dX8_valuate_0 : decode cX8_valuate 0 = .ok (.aload_n 0, 1) := by decide +kernel
theorem dX8_valuate_1 : decode cX8_valuate 1 = .ok (.invokevirtual 57, 3) := by decide +kernel
theorem dX8_valuate_4 : decode cX8_valuate 4 = .ok (.lstore_n 1, 1) := by decide +kernel
theorem dX8_valuate_5 : decode cX8_valuate 5 = .ok (.lload_n 1, 1) := by decide +kernel
theorem dX8_valuate_6 : decode cX8_valuate 6 = .ok (.lconst 0, 1) := by decide +kernel
theorem dX8_valuate_7 : decode cX8_valuate 7 = .ok (.lcmp, 1) := by decide +kernel
theorem dX8_valuate_8 : decode cX8_valuate 8 = .ok (.ifCond .ne 6, 3) := by decide +kernel
theorem dX8_valuate_11 : decode cX8_valuate 11 = .ok (.ldc 92, 2) := by decide +kernel
theorem dX8_valuate_13 : decode cX8_valuate 13 = .ok (.ireturn, 1) := by decide +kernel
theorem dX8_valuate_14 : decode cX8_valuate 14 = .ok (.aload_n 0, 1) := by decide +kernel
theorem dX8_valuate_15 : decode cX8_valuate 15 = .ok (.invokevirtual 43, 3) := by decide +kernel
theorem dX8_valuate_18 : decode cX8_valuate 18 = .ok (.ldc2_w 33, 3) := by decide +kernel
theorem dX8_valuate_21 : decode cX8_valuate 21 = .ok (.aload_n 0, 1) := by decide +kernel
theorem dX8_valuate_22 : decode cX8_valuate 22 = .ok (.getfield 7, 3) := by decide +kernel
theorem dX8_valuate_25 : decode cX8_valuate 25 = .ok (.bipush 7, 2) := by decide +kernel
theorem dX8_valuate_27 : decode cX8_valuate 27 = .ok (.laload, 1) := by decide +kernel
theorem dX8_valuate_28 : decode cX8_valuate 28 = .ok (.aload_n 0, 1) := by decide +kernel
theorem dX8_valuate_29 : decode cX8_valuate 29 = .ok (.getfield 7, 3) := by decide +kernel
theorem dX8_valuate_32 : decode cX8_valuate 32 = .ok (.bipush 8, 2) := by decide +kernel
theorem dX8_valuate_34 : decode cX8_valuate 34 = .ok (.laload, 1) := by decide +kernel
theorem dX8_valuate_35 : decode cX8_valuate 35 = .ok (.lsub, 1) := by decide +kernel
theorem dX8_valuate_36 : decode cX8_valuate 36 = .ok (.lload_n 1, 1) := by decide +kernel
theorem dX8_valuate_37 : decode cX8_valuate 37 = .ok (.invokestatic 88, 3) := by decide +kernel
theorem dX8_valuate_40 : decode cX8_valuate 40 = .ok (.lmul, 1) := by decide +kernel
theorem dX8_valuate_41 : decode cX8_valuate 41 = .ok (.ldc2_w 93, 3) := by decide +kernel
theorem dX8_valuate_44 : decode cX8_valuate 44 = .ok (.ldc2_w 95, 3) := by decide +kernel
theorem dX8_valuate_47 : decode cX8_valuate 47 = .ok (.aload_n 0, 1) := by decide +kernel
theorem dX8_valuate_48 : decode cX8_valuate 48 = .ok (.invokevirtual 97, 3) := by decide +kernel
theorem dX8_valuate_51 : decode cX8_valuate 51 = .ok (.lmul, 1) := by decide +kernel
theorem dX8_valuate_52 : decode cX8_valuate 52 = .ok (.lload_n 1, 1) := by decide +kernel
theorem dX8_valuate_53 : decode cX8_valuate 53 = .ok (.invokestatic 88, 3) := by decide +kernel
theorem dX8_valuate_56 : decode cX8_valuate 56 = .ok (.lmul, 1) := by decide +kernel
theorem dX8_valuate_57 : decode cX8_valuate 57 = .ok (.ladd, 1) := by decide +kernel
theorem dX8_valuate_58 : decode cX8_valuate 58 = .ok (.ldc2_w 100, 3) := by decide +kernel
theorem dX8_valuate_61 : decode cX8_valuate 61 = .ok (.invokestatic 88, 3) := by decide +kernel
theorem dX8_valuate_64 : decode cX8_valuate 64 = .ok (.lstore_n 3, 1) := by decide +kernel
theorem dX8_valuate_65 : decode cX8_valuate 65 = .ok (.aload_n 0, 1) := by decide +kernel
theorem dX8_valuate_66 : decode cX8_valuate 66 = .ok (.getfield 7, 3) := by decide +kernel
theorem dX8_valuate_69 : decode cX8_valuate 69 = .ok (.bipush 6, 2) := by decide +kernel
theorem dX8_valuate_71 : decode cX8_valuate 71 = .ok (.lload_n 3, 1) := by decide +kernel
theorem dX8_valuate_72 : decode cX8_valuate 72 = .ok (.aload_n 0, 1) := by decide +kernel
theorem dX8_valuate_73 : decode cX8_valuate 73 = .ok (.getfield 7, 3) := by decide +kernel
theorem dX8_valuate_76 : decode cX8_valuate 76 = .ok (.iconst 5, 1) := by decide +kernel
theorem dX8_valuate_77 : decode cX8_valuate 77 = .ok (.laload, 1) := by decide +kernel
theorem dX8_valuate_78 : decode cX8_valuate 78 = .ok (.lcmp, 1) := by decide +kernel
theorem dX8_valuate_79 : decode cX8_valuate 79 = .ok (.ifCond .ge 12, 3) := by decide +kernel
theorem dX8_valuate_82 : decode cX8_valuate 82 = .ok (.aload_n 0, 1) := by decide +kernel
theorem dX8_valuate_83 : decode cX8_valuate 83 = .ok (.getfield 7, 3) := by decide +kernel
theorem dX8_valuate_86 : decode cX8_valuate 86 = .ok (.iconst 5, 1) := by decide +kernel
theorem dX8_valuate_87 : decode cX8_valuate 87 = .ok (.laload, 1) := by decide +kernel
theorem dX8_valuate_88 : decode cX8_valuate 88 = .ok (.goto 4, 3) := by decide +kernel
theorem dX8_valuate_91 : decode cX8_valuate 91 = .ok (.lload_n 3, 1) := by decide +kernel
theorem dX8_valuate_92 : decode cX8_valuate 92 = .ok (.lastore, 1) := by decide +kernel
theorem dX8_valuate_93 : decode cX8_valuate 93 = .ok (.aload_n 0, 1) := by decide +kernel
theorem dX8_valuate_94 : decode cX8_valuate 94 = .ok (.getfield 7, 3) := by decide +kernel
theorem dX8_valuate_97 : decode cX8_valuate 97 = .ok (.bipush 6, 2) := by decide +kernel
theorem dX8_valuate_99 : decode cX8_valuate 99 = .ok (.laload, 1) := by decide +kernel
theorem dX8_valuate_100 : decode cX8_valuate 100 = .ok (.l2i, 1) := by decide +kernel
theorem dX8_valuate_101 : decode cX8_valuate 101 = .ok (.ireturn, 1) := by decide +kernel
theorem hy_X8_valuate : yX8_valuate.cls ≠ "java/lang/invoke/MethodHandle" ∧ yX8_valuate.cls ≠ "java/lang/invoke/VarHandle" ∧ (parseMethodDescriptor yX8_valuate.desc).map (fun d => d.parameters.length) = some 0 := ⟨by decide +kernel, by decide +kernel, by decide +kernel⟩
set_option maxHeartbeats 4000000 in
set_option maxRecDepth 100000 in
theorem c_X8_valuate (l0 : Launch) (D0 : va_G) (cI0 cJ0 : ClassId) (ad : Nat → Nat → Nat) (S : zM) (h6 : 0 ≤ S 6 0 ∧ S 6 0 ≤ 4) (hI : Inv (S 7)) : Ct l0 D0 cI0 cJ0 ad yX8_valuate cX8_valuate 5 (some .int) 2 48 [.ref (ad 6 27)] S (some (.int (i32 (rv_valuate (S 7))))) (fun X => X = if ok_valuate (S 7) then us (us (us S 8 (mp (S 8) (S 7) (S 6 0))) 6 (up (S 6) 0 (min (S 6 0 + 1) 4))) 7 (nx_valuate (S 7)) else S) := by
  refine Ct.of (by decide) (Nat.le_of_ble_eq_true rfl) (fun E hE hR => ?_)
  have hE : zG E l0 D0 cI0 cJ0 ad cX8_valuate 5 RX8 2 48 := hE
  show Z E S 0 [(0, .ref (ad 6 27))] []
  have h67 : (6 : Nat) ≠ 7 := by decide
  have h76 : (7 : Nat) ≠ 6 := by decide
  have h68 : (6 : Nat) ≠ 8 := by decide
  have h86 : (8 : Nat) ≠ 6 := by decide
  have h78 : (7 : Nat) ≠ 8 := by decide
  have h87 : (8 : Nat) ≠ 7 := by decide
  have hI0 := hI.1
  have hA := inA hI0
  unfold InvA at hA
  have hT := inT hI0
  have hmn := mean_b hI0
  refine z_aload_n hE 0 rfl rfl dX8_valuate_0 ?_
  refine z_callV hE (c_X8_all l0 D0 cI0 cJ0 ad S (by first | exact hI0 | (simp only [us_eq, us_ne h78, us_ne h76]; exact hI0))) (by decide) rfl rfl zm_X8_57 zi_yX8_all zs_yX8_all zn_RX8 zc_yX8_all (hy_X8_all) (Nat.le_of_ble_eq_true rfl) (Nat.le_of_ble_eq_true rfl) rfl rfl rfl (Nat.le_of_ble_eq_true rfl) dX8_valuate_1 ?_
  refine z_lstore_n hE rfl (by decide) rfl dX8_valuate_4 ?_
  refine z_lload_n hE 0 rfl rfl dX8_valuate_5 ?_
  refine z_lconst (a := 0) hE rfl dX8_valuate_6 ?_
  refine z_lcmp hE ⟨by omega, by omega⟩ ⟨by omega, by omega⟩ dX8_valuate_7 ?_
  refine z_ifl_ne (tgt := 14) hE dX8_valuate_8 (by decide) (fun c1 => ?_) (fun c1 => ?_)
  · have hv9 := val_b hI0 (all := sp_all (S 7)) (by omega)
    have e1 : -100000000 ≤ (S 7 7 - S 7 8) / sp_all (S 7) ∧ (S 7 7 - S 7 8) / sp_all (S 7) ≤ 100000000 := ediv_b (by omega) (by omega) (by omega)
    have e2 : -10000000 ≤ 10 * sp_mean (S 7) / sp_all (S 7) ∧ 10 * sp_mean (S 7) / sp_all (S 7) ≤ 10000000 := ediv_b (by omega) (by omega) (by omega)
    refine z_aload_n hE 1 rfl rfl dX8_valuate_14 ?_
    refine z_callV hE (c_X8_notes l0 D0 cI0 cJ0 ad S (by omega)) (by decide) rfl rfl zm_X8_43 zi_yX8_notes zs_yX8_notes zn_RX8 zc_yX8_notes (hy_X8_notes) (Nat.le_of_ble_eq_true rfl) (Nat.le_of_ble_eq_true rfl) rfl rfl rfl (Nat.le_of_ble_eq_true rfl) dX8_valuate_15 ?_
    try simp only [us_eq, us_us, us_ne h67, us_ne h76, us_ne h68, us_ne h86, us_ne h78, us_ne h87, us_in h67, us_in h76]
    refine z_ldc2 (a := 3) hE zl_X8_33 (by decide) dX8_valuate_18 ?_
    refine z_aload_n hE 1 rfl rfl dX8_valuate_21 ?_
    refine gf_8_0 hE (by decide) zf_X8_7 dX8_valuate_22 ?_
    refine z_bipush (a := 7) hE (by decide) dX8_valuate_25 ?_
    refine al_28 hE (by decide) (by omega) (by omega) dX8_valuate_27 ?_
    try simp only [us_eq, us_us, us_ne h67, us_ne h76, us_ne h68, us_ne h86, us_ne h78, us_ne h87, us_in h67, us_in h76]
    refine z_aload_n hE 1 rfl rfl dX8_valuate_28 ?_
    refine gf_8_0 hE (by decide) zf_X8_7 dX8_valuate_29 ?_
    refine z_bipush (a := 8) hE (by decide) dX8_valuate_32 ?_
    refine al_28 hE (by decide) (by omega) (by omega) dX8_valuate_34 ?_
    try simp only [us_eq, us_us, us_ne h67, us_ne h76, us_ne h68, us_ne h86, us_ne h78, us_ne h87, us_in h67, us_in h76]
    refine z_lsub hE dX8_valuate_35 ?_
    refine z_lload_n hE 0 rfl rfl dX8_valuate_36 ?_
    refine z_callS hE (c_X8_by l0 D0 cI0 cJ0 ad (us (us S 8 (mp ((S 8)) ((S 7)) ((S 6) 0))) 6 (up ((S 6)) 0 (min ((S 6) 0 + 1) 4))) ((S 7 7) - (S 7 8)) (sp_all ((S 7))) (⟨by omega, by omega⟩) (⟨by omega, by omega⟩) (by first | omega | (simp only [us_eq, us_ne h67, us_ne h76, us_ne h68, us_ne h86, us_ne h78, us_ne h87]; omega))) zm_X8_88 zt_yX8_by zn_RX8 zc_yX8_by (hy_X8_by) (Nat.le_of_ble_eq_true rfl) (Nat.le_of_ble_eq_true rfl) rfl rfl rfl (Nat.le_of_ble_eq_true rfl) dX8_valuate_37 ?_
    try simp only [us_eq, us_us, us_ne h67, us_ne h76, us_ne h68, us_ne h86, us_ne h78, us_ne h87, us_in h67, us_in h76]
    refine z_lmul hE dX8_valuate_40 ?_
    refine z_ldc2 (a := 2) hE zl_X8_93 (by decide) dX8_valuate_41 ?_
    refine z_ldc2 (a := 10) hE zl_X8_95 (by decide) dX8_valuate_44 ?_
    refine z_aload_n hE 1 rfl rfl dX8_valuate_47 ?_
    refine z_callV hE (c_X8_mean l0 D0 cI0 cJ0 ad (us (us S 8 (mp ((S 8)) ((S 7)) ((S 6) 0))) 6 (up ((S 6)) 0 (min ((S 6) 0 + 1) 4))) (by first | exact hI0 | (simp only [us_eq, us_ne h78, us_ne h76]; exact hI0))) (by decide) rfl rfl zm_X8_97 zi_yX8_mean zs_yX8_mean zn_RX8 zc_yX8_mean (hy_X8_mean) (Nat.le_of_ble_eq_true rfl) (Nat.le_of_ble_eq_true rfl) rfl rfl rfl (Nat.le_of_ble_eq_true rfl) dX8_valuate_48 ?_
    try simp only [us_eq, us_us, us_ne h67, us_ne h76, us_ne h68, us_ne h86, us_ne h78, us_ne h87, us_in h67, us_in h76]
    refine z_lmul hE dX8_valuate_51 ?_
    refine z_lload_n hE 0 rfl rfl dX8_valuate_52 ?_
    refine z_callS hE (c_X8_by l0 D0 cI0 cJ0 ad (us (us S 8 (mp ((S 8)) ((S 7)) ((S 6) 0))) 6 (up ((S 6)) 0 (min ((S 6) 0 + 1) 4))) (10 * (sp_mean ((S 7)))) (sp_all ((S 7))) (⟨by omega, by omega⟩) (⟨by omega, by omega⟩) (by first | omega | (simp only [us_eq, us_ne h67, us_ne h76, us_ne h68, us_ne h86, us_ne h78, us_ne h87]; omega))) zm_X8_88 zt_yX8_by zn_RX8 zc_yX8_by (hy_X8_by) (Nat.le_of_ble_eq_true rfl) (Nat.le_of_ble_eq_true rfl) rfl rfl rfl (Nat.le_of_ble_eq_true rfl) dX8_valuate_53 ?_
    try simp only [us_eq, us_us, us_ne h67, us_ne h76, us_ne h68, us_ne h86, us_ne h78, us_ne h87, us_in h67, us_in h76]
    refine z_lmul hE dX8_valuate_56 ?_
    refine z_ladd hE dX8_valuate_57 ?_
    refine z_ldc2 (a := 5) hE zl_X8_100 (by decide) dX8_valuate_58 ?_
    refine z_callS hE (c_X8_by l0 D0 cI0 cJ0 ad (us (us S 8 (mp ((S 8)) ((S 7)) ((S 6) 0))) 6 (up ((S 6)) 0 (min ((S 6) 0 + 1) 4))) ((3 * (((S 7 7) - (S 7 8)) / (sp_all ((S 7))))) + (2 * ((10 * (sp_mean ((S 7)))) / (sp_all ((S 7)))))) 5 (⟨by omega, by omega⟩) (⟨by omega, by omega⟩) (by first | omega | (simp only [us_eq, us_ne h67, us_ne h76, us_ne h68, us_ne h86, us_ne h78, us_ne h87]; omega))) zm_X8_88 zt_yX8_by zn_RX8 zc_yX8_by (hy_X8_by) (Nat.le_of_ble_eq_true rfl) (Nat.le_of_ble_eq_true rfl) rfl rfl rfl (Nat.le_of_ble_eq_true rfl) dX8_valuate_61 ?_
    try simp only [us_eq, us_us, us_ne h67, us_ne h76, us_ne h68, us_ne h86, us_ne h78, us_ne h87, us_in h67, us_in h76]
    rw [show (3 * ((S 7 7 - S 7 8) / sp_all (S 7)) + 2 * (10 * sp_mean (S 7) / sp_all (S 7))) / 5 = sp_val (S 7) (sp_all (S 7)) from rfl]
    refine z_lstore_n hE rfl (by decide) rfl dX8_valuate_64 ?_
    refine z_aload_n hE 2 rfl rfl dX8_valuate_65 ?_
    refine gf_8_0 hE (by decide) zf_X8_7 dX8_valuate_66 ?_
    refine z_bipush (a := 6) hE (by decide) dX8_valuate_69 ?_
    refine z_lload_n hE 0 rfl rfl dX8_valuate_71 ?_
    refine z_aload_n hE 2 rfl rfl dX8_valuate_72 ?_
    refine gf_8_0 hE (by decide) zf_X8_7 dX8_valuate_73 ?_
    refine z_iconst hE dX8_valuate_76 ?_
    refine al_28 hE (by decide) (by omega) (by omega) dX8_valuate_77 ?_
    try simp only [us_eq, us_us, us_ne h67, us_ne h76, us_ne h68, us_ne h86, us_ne h78, us_ne h87, us_in h67, us_in h76]
    refine z_lcmp hE ⟨by omega, by omega⟩ ⟨by omega, by omega⟩ dX8_valuate_78 ?_
    refine z_ifl_ge (tgt := 91) hE dX8_valuate_79 (by decide) (fun c2 => ?_) (fun c2 => ?_)
    · refine z_lload_n hE 0 rfl rfl dX8_valuate_91 ?_
      refine as_28 hE (by decide) (by omega) (by omega) dX8_valuate_92 ?_
      try simp only [us_eq, us_us, us_ne h67, us_ne h76, us_ne h68, us_ne h86, us_ne h78, us_ne h87, us_in h67, us_in h76]
      refine z_aload_n hE 2 rfl rfl dX8_valuate_93 ?_
      refine gf_8_0 hE (by decide) zf_X8_7 dX8_valuate_94 ?_
      refine z_bipush (a := 6) hE (by decide) dX8_valuate_97 ?_
      refine al_28 hE (by decide) (by omega) (by omega) dX8_valuate_99 ?_
      try simp only [us_eq, us_us, us_ne h67, us_ne h76, us_ne h68, us_ne h86, us_ne h78, us_ne h87, us_in h67, us_in h76]
      rw [up_eq]
      refine z_l2i hE dX8_valuate_100 ?_
      exact z_iret hE hR dX8_valuate_101 (congrArg (fun x => some (Value.int (i32 x))) (by unfold rv_valuate; first | ((rw [if_neg (by omega)]) <;> first | rfl | omega) | ((rw [if_pos (by omega)]) <;> first | rfl | omega))) (by first | ((rw [if_pos (by omega)]) <;> (unfold nx_valuate; first | (rw [show max (sp_val (S 7) (sp_all (S 7))) (S 7 5) = S 7 5 by omega]; done) | (rw [show max (sp_val (S 7) (sp_all (S 7))) (S 7 5) = sp_val (S 7) (sp_all (S 7)) by omega]; done))) | (rw [if_neg (by omega)]))
    · refine z_aload_n hE 2 rfl rfl dX8_valuate_82 ?_
      refine gf_8_0 hE (by decide) zf_X8_7 dX8_valuate_83 ?_
      refine z_iconst hE dX8_valuate_86 ?_
      refine al_28 hE (by decide) (by omega) (by omega) dX8_valuate_87 ?_
      try simp only [us_eq, us_us, us_ne h67, us_ne h76, us_ne h68, us_ne h86, us_ne h78, us_ne h87, us_in h67, us_in h76]
      refine z_goto (tgt := 92) hE (d := dX8_valuate_88) (ht := by decide) ?_
      refine as_28 hE (by decide) (by omega) (by omega) dX8_valuate_92 ?_
      try simp only [us_eq, us_us, us_ne h67, us_ne h76, us_ne h68, us_ne h86, us_ne h78, us_ne h87, us_in h67, us_in h76]
      refine z_aload_n hE 2 rfl rfl dX8_valuate_93 ?_
      refine gf_8_0 hE (by decide) zf_X8_7 dX8_valuate_94 ?_
      refine z_bipush (a := 6) hE (by decide) dX8_valuate_97 ?_
      refine al_28 hE (by decide) (by omega) (by omega) dX8_valuate_99 ?_
      try simp only [us_eq, us_us, us_ne h67, us_ne h76, us_ne h68, us_ne h86, us_ne h78, us_ne h87, us_in h67, us_in h76]
      rw [up_eq]
      refine z_l2i hE dX8_valuate_100 ?_
      exact z_iret hE hR dX8_valuate_101 (congrArg (fun x => some (Value.int (i32 x))) (by unfold rv_valuate; first | ((rw [if_neg (by omega)]) <;> first | rfl | omega) | ((rw [if_pos (by omega)]) <;> first | rfl | omega))) (by first | ((rw [if_pos (by omega)]) <;> (unfold nx_valuate; first | (rw [show max (sp_val (S 7) (sp_all (S 7))) (S 7 5) = S 7 5 by omega]; done) | (rw [show max (sp_val (S 7) (sp_all (S 7))) (S 7 5) = sp_val (S 7) (sp_all (S 7)) by omega]; done))) | (rw [if_neg (by omega)]))
  · refine z_ldc (a := -2000000002) hE zk_X8_92 (by decide) dX8_valuate_11 ?_
    exact z_iret hE hR dX8_valuate_13 (congrArg (fun x => some (Value.int (i32 x))) (by unfold rv_valuate; first | ((rw [if_neg (by omega)]) <;> first | rfl | omega) | ((rw [if_pos (by omega)]) <;> first | rfl | omega))) (by first | ((rw [if_pos (by omega)]) <;> (unfold nx_valuate; first | (rw [show max (sp_val (S 7) (sp_all (S 7))) (S 7 5) = S 7 5 by omega]; done) | (rw [show max (sp_val (S 7) (sp_all (S 7))) (S 7 5) = sp_val (S 7) (sp_all (S 7)) by omega]; done))) | (rw [if_neg (by omega)]))
theorem dX8_offer_0 : decode cX8_offer 0 = .ok (.aload_n 0, 1) := by decide +kernel
theorem dX8_offer_1 : decode cX8_offer 1 = .ok (.iload_n 1, 1) := by decide +kernel
theorem dX8_offer_2 : decode cX8_offer 2 = .ok (.invokevirtual 64, 3) := by decide +kernel
theorem dX8_offer_5 : decode cX8_offer 5 = .ok (.ifCond .eq 41, 3) := by decide +kernel
theorem dX8_offer_8 : decode cX8_offer 8 = .ok (.aload_n 0, 1) := by decide +kernel
theorem dX8_offer_9 : decode cX8_offer 9 = .ok (.iload_n 2, 1) := by decide +kernel
theorem dX8_offer_10 : decode cX8_offer 10 = .ok (.invokevirtual 64, 3) := by decide +kernel
theorem dX8_offer_13 : decode cX8_offer 13 = .ok (.ifCond .eq 33, 3) := by decide +kernel
theorem dX8_offer_16 : decode cX8_offer 16 = .ok (.iload_n 1, 1) := by decide +kernel
theorem dX8_offer_17 : decode cX8_offer 17 = .ok (.iload_n 2, 1) := by decide +kernel
theorem dX8_offer_18 : decode cX8_offer 18 = .ok (.if_icmp .eq 28, 3) := by decide +kernel
theorem dX8_offer_21 : decode cX8_offer 21 = .ok (.iload_n 3, 1) := by decide +kernel
theorem dX8_offer_22 : decode cX8_offer 22 = .ok (.i2l, 1) := by decide +kernel
theorem dX8_offer_23 : decode cX8_offer 23 = .ok (.lconst 1, 1) := by decide +kernel
theorem dX8_offer_24 : decode cX8_offer 24 = .ok (.ldc2_w 25, 3) := by decide +kernel
theorem dX8_offer_27 : decode cX8_offer 27 = .ok (.invokestatic 35, 3) := by decide +kernel
theorem dX8_offer_30 : decode cX8_offer 30 = .ok (.ifCond .eq 16, 3) := by decide +kernel
theorem dX8_offer_33 : decode cX8_offer 33 = .ok (.iload 4, 2) := by decide +kernel
theorem dX8_offer_35 : decode cX8_offer 35 = .ok (.i2l, 1) := by decide +kernel
theorem dX8_offer_36 : decode cX8_offer 36 = .ok (.lconst 1, 1) := by decide +kernel
theorem dX8_offer_37 : decode cX8_offer 37 = .ok (.ldc2_w 102, 3) := by decide +kernel
theorem dX8_offer_40 : decode cX8_offer 40 = .ok (.invokestatic 35, 3) := by decide +kernel
theorem dX8_offer_43 : decode cX8_offer 43 = .ok (.ifCond .ne 6, 3) := by decide +kernel
theorem dX8_offer_46 : decode cX8_offer 46 = .ok (.ldc 68, 2) := by decide +kernel
theorem dX8_offer_48 : decode cX8_offer 48 = .ok (.ireturn, 1) := by decide +kernel
theorem dX8_offer_49 : decode cX8_offer 49 = .ok (.iload_n 3, 1) := by decide +kernel
theorem dX8_offer_50 : decode cX8_offer 50 = .ok (.i2l, 1) := by decide +kernel
theorem dX8_offer_51 : decode cX8_offer 51 = .ok (.aload_n 0, 1) := by decide +kernel
theorem dX8_offer_52 : decode cX8_offer 52 = .ok (.iload_n 1, 1) := by decide +kernel
theorem dX8_offer_53 : decode cX8_offer 53 = .ok (.invokevirtual 78, 3) := by decide +kernel
theorem dX8_offer_56 : decode cX8_offer 56 = .ok (.lcmp, 1) := by decide +kernel
theorem dX8_offer_57 : decode cX8_offer 57 = .ok (.ifCond .gt 16, 3) := by decide +kernel
theorem dX8_offer_60 : decode cX8_offer 60 = .ok (.iload 4, 2) := by decide +kernel
theorem dX8_offer_62 : decode cX8_offer 62 = .ok (.i2l, 1) := by decide +kernel
theorem dX8_offer_63 : decode cX8_offer 63 = .ok (.aload_n 0, 1) := by decide +kernel
theorem dX8_offer_64 : decode cX8_offer 64 = .ok (.getfield 7, 3) := by decide +kernel
theorem dX8_offer_67 : decode cX8_offer 67 = .ok (.iconst 5, 1) := by decide +kernel
theorem dX8_offer_68 : decode cX8_offer 68 = .ok (.laload, 1) := by decide +kernel
theorem dX8_offer_69 : decode cX8_offer 69 = .ok (.lcmp, 1) := by decide +kernel
theorem dX8_offer_70 : decode cX8_offer 70 = .ok (.ifCond .ge 6, 3) := by decide +kernel
theorem dX8_offer_73 : decode cX8_offer 73 = .ok (.ldc 92, 2) := by decide +kernel
theorem dX8_offer_75 : decode cX8_offer 75 = .ok (.ireturn, 1) := by decide +kernel
theorem dX8_offer_76 : decode cX8_offer 76 = .ok (.aload_n 0, 1) := by decide +kernel
theorem dX8_offer_77 : decode cX8_offer 77 = .ok (.getfield 7, 3) := by decide +kernel
theorem dX8_offer_80 : decode cX8_offer 80 = .ok (.bipush 14, 2) := by decide +kernel
theorem dX8_offer_82 : decode cX8_offer 82 = .ok (.laload, 1) := by decide +kernel
theorem dX8_offer_83 : decode cX8_offer 83 = .ok (.ldc2_w 104, 3) := by decide +kernel
theorem dX8_offer_86 : decode cX8_offer 86 = .ok (.lcmp, 1) := by decide +kernel
theorem dX8_offer_87 : decode cX8_offer 87 = .ok (.ifCond .ne 6, 3) := by decide +kernel
theorem dX8_offer_90 : decode cX8_offer 90 = .ok (.ldc 63, 2) := by decide +kernel
theorem dX8_offer_92 : decode cX8_offer 92 = .ok (.ireturn, 1) := by decide +kernel
theorem dX8_offer_93 : decode cX8_offer 93 = .ok (.aload_n 0, 1) := by decide +kernel
theorem dX8_offer_94 : decode cX8_offer 94 = .ok (.invokevirtual 43, 3) := by decide +kernel
theorem dX8_offer_97 : decode cX8_offer 97 = .ok (.aload_n 0, 1) := by decide +kernel
theorem dX8_offer_98 : decode cX8_offer 98 = .ok (.getfield 7, 3) := by decide +kernel
theorem dX8_offer_101 : decode cX8_offer 101 = .ok (.bipush 14, 2) := by decide +kernel
theorem dX8_offer_103 : decode cX8_offer 103 = .ok (.laload, 1) := by decide +kernel
theorem dX8_offer_104 : decode cX8_offer 104 = .ok (.l2i, 1) := by decide +kernel
theorem dX8_offer_105 : decode cX8_offer 105 = .ok (.istore 5, 2) := by decide +kernel
theorem dX8_offer_107 : decode cX8_offer 107 = .ok (.iconst 0, 1) := by decide +kernel
theorem dX8_offer_108 : decode cX8_offer 108 = .ok (.istore 6, 2) := by decide +kernel
theorem dX8_offer_110 : decode cX8_offer 110 = .ok (.iload 6, 2) := by decide +kernel
theorem dX8_offer_112 : decode cX8_offer 112 = .ok (.bipush 22, 2) := by decide +kernel
theorem dX8_offer_114 : decode cX8_offer 114 = .ok (.if_icmp .ge 22, 3) := by decide +kernel
theorem dX8_offer_117 : decode cX8_offer 117 = .ok (.aload_n 0, 1) := by decide +kernel
theorem dX8_offer_118 : decode cX8_offer 118 = .ok (.getfield 7, 3) := by decide +kernel
theorem dX8_offer_121 : decode cX8_offer 121 = .ok (.iload 5, 2) := by decide +kernel
theorem dX8_offer_123 : decode cX8_offer 123 = .ok (.iload 6, 2) := by decide +kernel
theorem dX8_offer_125 : decode cX8_offer 125 = .ok (.invokestatic 54, 3) := by decide +kernel
theorem dX8_offer_128 : decode cX8_offer 128 = .ok (.lconst 0, 1) := by decide +kernel
theorem dX8_offer_129 : decode cX8_offer 129 = .ok (.lastore, 1) := by decide +kernel
theorem dX8_offer_130 : decode cX8_offer 130 = .ok (.iinc 6 1, 3) := by decide +kernel
theorem dX8_offer_133 : decode cX8_offer 133 = .ok (.goto (-23), 3) := by decide +kernel
theorem dX8_offer_136 : decode cX8_offer 136 = .ok (.aload_n 0, 1) := by decide +kernel
theorem dX8_offer_137 : decode cX8_offer 137 = .ok (.getfield 7, 3) := by decide +kernel
theorem dX8_offer_140 : decode cX8_offer 140 = .ok (.iload 5, 2) := by decide +kernel
theorem dX8_offer_142 : decode cX8_offer 142 = .ok (.iconst 0, 1) := by decide +kernel
theorem dX8_offer_143 : decode cX8_offer 143 = .ok (.invokestatic 54, 3) := by decide +kernel
theorem dX8_offer_146 : decode cX8_offer 146 = .ok (.iload_n 1, 1) := by decide +kernel
theorem dX8_offer_147 : decode cX8_offer 147 = .ok (.i2l, 1) := by decide +kernel
theorem dX8_offer_148 : decode cX8_offer 148 = .ok (.lastore, 1) := by decide +kernel
theorem dX8_offer_149 : decode cX8_offer 149 = .ok (.aload_n 0, 1) := by decide +kernel
theorem dX8_offer_150 : decode cX8_offer 150 = .ok (.getfield 7, 3) := by decide +kernel
theorem dX8_offer_153 : decode cX8_offer 153 = .ok (.iload 5, 2) := by decide +kernel
theorem dX8_offer_155 : decode cX8_offer 155 = .ok (.iconst 1, 1) := by decide +kernel
theorem dX8_offer_156 : decode cX8_offer 156 = .ok (.invokestatic 54, 3) := by decide +kernel
theorem dX8_offer_159 : decode cX8_offer 159 = .ok (.iload_n 2, 1) := by decide +kernel
theorem dX8_offer_160 : decode cX8_offer 160 = .ok (.i2l, 1) := by decide +kernel
theorem dX8_offer_161 : decode cX8_offer 161 = .ok (.lastore, 1) := by decide +kernel
theorem dX8_offer_162 : decode cX8_offer 162 = .ok (.aload_n 0, 1) := by decide +kernel
theorem dX8_offer_163 : decode cX8_offer 163 = .ok (.getfield 7, 3) := by decide +kernel
theorem dX8_offer_166 : decode cX8_offer 166 = .ok (.iload 5, 2) := by decide +kernel
theorem dX8_offer_168 : decode cX8_offer 168 = .ok (.iconst 2, 1) := by decide +kernel
theorem dX8_offer_169 : decode cX8_offer 169 = .ok (.invokestatic 54, 3) := by decide +kernel
theorem dX8_offer_172 : decode cX8_offer 172 = .ok (.iload_n 3, 1) := by decide +kernel
theorem dX8_offer_173 : decode cX8_offer 173 = .ok (.i2l, 1) := by decide +kernel
theorem dX8_offer_174 : decode cX8_offer 174 = .ok (.lastore, 1) := by decide +kernel
theorem dX8_offer_175 : decode cX8_offer 175 = .ok (.aload_n 0, 1) := by decide +kernel
theorem dX8_offer_176 : decode cX8_offer 176 = .ok (.getfield 7, 3) := by decide +kernel
theorem dX8_offer_179 : decode cX8_offer 179 = .ok (.iload 5, 2) := by decide +kernel
theorem dX8_offer_181 : decode cX8_offer 181 = .ok (.iconst 3, 1) := by decide +kernel
theorem dX8_offer_182 : decode cX8_offer 182 = .ok (.invokestatic 54, 3) := by decide +kernel
theorem dX8_offer_185 : decode cX8_offer 185 = .ok (.iload 4, 2) := by decide +kernel
theorem dX8_offer_187 : decode cX8_offer 187 = .ok (.i2l, 1) := by decide +kernel
theorem dX8_offer_188 : decode cX8_offer 188 = .ok (.lastore, 1) := by decide +kernel
theorem dX8_offer_189 : decode cX8_offer 189 = .ok (.aload_n 0, 1) := by decide +kernel
theorem dX8_offer_190 : decode cX8_offer 190 = .ok (.getfield 7, 3) := by decide +kernel
theorem dX8_offer_193 : decode cX8_offer 193 = .ok (.iload 5, 2) := by decide +kernel
theorem dX8_offer_195 : decode cX8_offer 195 = .ok (.iconst 5, 1) := by decide +kernel
theorem dX8_offer_196 : decode cX8_offer 196 = .ok (.invokestatic 54, 3) := by decide +kernel
theorem dX8_offer_199 : decode cX8_offer 199 = .ok (.aload_n 0, 1) := by decide +kernel
theorem dX8_offer_200 : decode cX8_offer 200 = .ok (.getfield 7, 3) := by decide +kernel
theorem dX8_offer_203 : decode cX8_offer 203 = .ok (.bipush 13, 2) := by decide +kernel
theorem dX8_offer_205 : decode cX8_offer 205 = .ok (.laload, 1) := by decide +kernel
theorem dX8_offer_206 : decode cX8_offer 206 = .ok (.lastore, 1) := by decide +kernel
theorem dX8_offer_207 : decode cX8_offer 207 = .ok (.aload_n 0, 1) := by decide +kernel
theorem dX8_offer_208 : decode cX8_offer 208 = .ok (.getfield 7, 3) := by decide +kernel
theorem dX8_offer_211 : decode cX8_offer 211 = .ok (.bipush 14, 2) := by decide +kernel
theorem dX8_offer_213 : decode cX8_offer 213 = .ok (.dup2, 1) := by decide +kernel
theorem dX8_offer_214 : decode cX8_offer 214 = .ok (.laload, 1) := by decide +kernel
theorem dX8_offer_215 : decode cX8_offer 215 = .ok (.lconst 1, 1) := by decide +kernel
theorem dX8_offer_216 : decode cX8_offer 216 = .ok (.ladd, 1) := by decide +kernel
theorem dX8_offer_217 : decode cX8_offer 217 = .ok (.lastore, 1) := by decide +kernel
theorem dX8_offer_218 : decode cX8_offer 218 = .ok (.iload 5, 2) := by decide +kernel
theorem dX8_offer_220 : decode cX8_offer 220 = .ok (.ireturn, 1) := by decide +kernel
theorem hy_X8_offer : yX8_offer.cls ≠ "java/lang/invoke/MethodHandle" ∧ yX8_offer.cls ≠ "java/lang/invoke/VarHandle" ∧ (parseMethodDescriptor yX8_offer.desc).map (fun d => d.parameters.length) = some 4 := ⟨by decide +kernel, by decide +kernel, by decide +kernel⟩
set_option maxHeartbeats 4000000 in
set_option maxRecDepth 100000 in
theorem lp_X8_offer {E : zE} {l0 : Launch} {D0 : va_G} {cI0 cJ0 : ClassId} {ad : Nat → Nat → Nat} (hE : zG E l0 D0 cI0 cJ0 ad cX8_offer 7 RX8 3 66) (S : zM) (se : Int) (bu : Int) (n : Int) (pr : Int) (h6 : 0 ≤ S 6 0 ∧ S 6 0 ≤ 4) (hI : Inv (S 7)) (bb_se : -2147483648 ≤ se ∧ se < 2147483648) (bb_bu : -2147483648 ≤ bu ∧ bu < 2147483648) (bb_n : -2147483648 ≤ n ∧ n < 2147483648) (bb_pr : -2147483648 ≤ pr ∧ pr < 2147483648) (hR : zR E (some .int) (some (.int (i32 (rv_offer (S 7) se bu n pr)))) (fun X => X = if ok_offer (S 7) se bu n pr then us (us (us S 8 (mp (S 8) (S 7) (S 6 0))) 6 (up (S 6) 0 (min (S 6 0 + 1) 4))) 7 (sp_offer (S 7) se bu n pr) else S)) : ∀ (fuel : Nat) (i : Int) (hk : ok_offer (S 7) se bu n pr) (h9 : 0 ≤ i ∧ i ≤ 22), (22 - i).toNat < fuel → Z E (us (us (us S 8 (mp (S 8) (S 7) (S 6 0))) 6 (up (S 6) 0 (min (S 6 0 + 1) 4))) 7 (clr (S 7) (55 + 22 * S 7 14) i)) 110 [(6, .int (i32 i)), (5, .int (i32 (S 7 14))), (0, .ref (ad 6 27)), (1, .int (i32 se)), (2, .int (i32 bu)), (3, .int (i32 n)), (4, .int (i32 pr))] [] := by
  intro fuel
  induction fuel with
  | zero => intro _ _ _ hz; omega
  | succ fuel ih =>
    intro i hk h9 hz
    have h67 : (6 : Nat) ≠ 7 := by decide
    have h76 : (7 : Nat) ≠ 6 := by decide
    have h68 : (6 : Nat) ≠ 8 := by decide
    have h86 : (8 : Nat) ≠ 6 := by decide
    have h78 : (7 : Nat) ≠ 8 := by decide
    have h87 : (8 : Nat) ≠ 7 := by decide
    have hI0 := hI.1
    have hA := inA hI0
    unfold InvA at hA
    refine z_iload hE 0 rfl dX8_offer_110 ?_
    refine z_bipush (a := 22) hE (by decide) dX8_offer_112 ?_
    refine z_icmp_ge (tgt := 136) hE dX8_offer_114 (by decide) ⟨by omega, by omega⟩ ⟨by omega, by omega⟩ (fun c1 => ?_) (fun c1 => ?_)
    · rw [show i = 22 by omega]
      refine z_aload_n hE 2 rfl rfl dX8_offer_136 ?_
      refine gf_8_0 hE (by decide) zf_X8_7 dX8_offer_137 ?_
      refine z_iload hE 1 rfl dX8_offer_140 ?_
      refine z_iconst hE dX8_offer_142 ?_
      refine z_callS hE (c_X8_o l0 D0 cI0 cJ0 ad (us (us (us S 8 (mp (S 8) (S 7) (S 6 0))) 6 (up (S 6) 0 (min (S 6 0 + 1) 4))) 7 (clr (S 7) (55 + 22 * S 7 14) 22)) (S 7 14) 0 (55 + 22 * (S 7 14)) (by first | omega | (simp only [us_eq, us_ne h67, us_ne h76, us_ne h68, us_ne h86, us_ne h78, us_ne h87]; omega))) zm_X8_54 zt_yX8_o zn_RX8 zc_yX8_o (hy_X8_o) (Nat.le_of_ble_eq_true rfl) (Nat.le_of_ble_eq_true rfl) rfl rfl rfl (Nat.le_of_ble_eq_true rfl) dX8_offer_143 ?_
      try simp only [us_eq, us_us, us_ne h67, us_ne h76, us_ne h68, us_ne h86, us_ne h78, us_ne h87, us_in h67, us_in h76]
      refine z_iload_n hE 3 rfl rfl dX8_offer_146 ?_
      refine z_i2l hE ⟨by omega, by omega⟩ dX8_offer_147 ?_
      refine as_28 hE (by decide) (by omega) (by omega) dX8_offer_148 ?_
      try simp only [us_eq, us_us, us_ne h67, us_ne h76, us_ne h68, us_ne h86, us_ne h78, us_ne h87, us_in h67, us_in h76]
      refine z_aload_n hE 2 rfl rfl dX8_offer_149 ?_
      refine gf_8_0 hE (by decide) zf_X8_7 dX8_offer_150 ?_
      refine z_iload hE 1 rfl dX8_offer_153 ?_
      refine z_iconst hE dX8_offer_155 ?_
      refine z_callS hE (c_X8_o l0 D0 cI0 cJ0 ad (us (us (us S 8 (mp (S 8) (S 7) (S 6 0))) 6 (up (S 6) 0 (min (S 6 0 + 1) 4))) 7 (up (clr (S 7) (55 + 22 * S 7 14) 22) (((55 + 22 * (S 7 14)))) se)) (S 7 14) 1 (56 + 22 * (S 7 14)) (by first | omega | (simp only [us_eq, us_ne h67, us_ne h76, us_ne h68, us_ne h86, us_ne h78, us_ne h87]; omega))) zm_X8_54 zt_yX8_o zn_RX8 zc_yX8_o (hy_X8_o) (Nat.le_of_ble_eq_true rfl) (Nat.le_of_ble_eq_true rfl) rfl rfl rfl (Nat.le_of_ble_eq_true rfl) dX8_offer_156 ?_
      try simp only [us_eq, us_us, us_ne h67, us_ne h76, us_ne h68, us_ne h86, us_ne h78, us_ne h87, us_in h67, us_in h76]
      refine z_iload_n hE 4 rfl rfl dX8_offer_159 ?_
      refine z_i2l hE ⟨by omega, by omega⟩ dX8_offer_160 ?_
      refine as_28 hE (by decide) (by omega) (by omega) dX8_offer_161 ?_
      try simp only [us_eq, us_us, us_ne h67, us_ne h76, us_ne h68, us_ne h86, us_ne h78, us_ne h87, us_in h67, us_in h76]
      refine z_aload_n hE 2 rfl rfl dX8_offer_162 ?_
      refine gf_8_0 hE (by decide) zf_X8_7 dX8_offer_163 ?_
      refine z_iload hE 1 rfl dX8_offer_166 ?_
      refine z_iconst hE dX8_offer_168 ?_
      refine z_callS hE (c_X8_o l0 D0 cI0 cJ0 ad (us (us (us S 8 (mp (S 8) (S 7) (S 6 0))) 6 (up (S 6) 0 (min (S 6 0 + 1) 4))) 7 (up (up (clr (S 7) (55 + 22 * S 7 14) 22) (((55 + 22 * (S 7 14)))) se) (((56 + 22 * (S 7 14)))) bu)) (S 7 14) 2 (57 + 22 * (S 7 14)) (by first | omega | (simp only [us_eq, us_ne h67, us_ne h76, us_ne h68, us_ne h86, us_ne h78, us_ne h87]; omega))) zm_X8_54 zt_yX8_o zn_RX8 zc_yX8_o (hy_X8_o) (Nat.le_of_ble_eq_true rfl) (Nat.le_of_ble_eq_true rfl) rfl rfl rfl (Nat.le_of_ble_eq_true rfl) dX8_offer_169 ?_
      try simp only [us_eq, us_us, us_ne h67, us_ne h76, us_ne h68, us_ne h86, us_ne h78, us_ne h87, us_in h67, us_in h76]
      refine z_iload_n hE 5 rfl rfl dX8_offer_172 ?_
      refine z_i2l hE ⟨by omega, by omega⟩ dX8_offer_173 ?_
      refine as_28 hE (by decide) (by omega) (by omega) dX8_offer_174 ?_
      try simp only [us_eq, us_us, us_ne h67, us_ne h76, us_ne h68, us_ne h86, us_ne h78, us_ne h87, us_in h67, us_in h76]
      refine z_aload_n hE 2 rfl rfl dX8_offer_175 ?_
      refine gf_8_0 hE (by decide) zf_X8_7 dX8_offer_176 ?_
      refine z_iload hE 1 rfl dX8_offer_179 ?_
      refine z_iconst hE dX8_offer_181 ?_
      refine z_callS hE (c_X8_o l0 D0 cI0 cJ0 ad (us (us (us S 8 (mp (S 8) (S 7) (S 6 0))) 6 (up (S 6) 0 (min (S 6 0 + 1) 4))) 7 (up (up (up (clr (S 7) (55 + 22 * S 7 14) 22) (((55 + 22 * (S 7 14)))) se) (((56 + 22 * (S 7 14)))) bu) (((57 + 22 * (S 7 14)))) n)) (S 7 14) 3 (58 + 22 * (S 7 14)) (by first | omega | (simp only [us_eq, us_ne h67, us_ne h76, us_ne h68, us_ne h86, us_ne h78, us_ne h87]; omega))) zm_X8_54 zt_yX8_o zn_RX8 zc_yX8_o (hy_X8_o) (Nat.le_of_ble_eq_true rfl) (Nat.le_of_ble_eq_true rfl) rfl rfl rfl (Nat.le_of_ble_eq_true rfl) dX8_offer_182 ?_
      try simp only [us_eq, us_us, us_ne h67, us_ne h76, us_ne h68, us_ne h86, us_ne h78, us_ne h87, us_in h67, us_in h76]
      refine z_iload hE 6 rfl dX8_offer_185 ?_
      refine z_i2l hE ⟨by omega, by omega⟩ dX8_offer_187 ?_
      refine as_28 hE (by decide) (by omega) (by omega) dX8_offer_188 ?_
      try simp only [us_eq, us_us, us_ne h67, us_ne h76, us_ne h68, us_ne h86, us_ne h78, us_ne h87, us_in h67, us_in h76]
      refine z_aload_n hE 2 rfl rfl dX8_offer_189 ?_
      refine gf_8_0 hE (by decide) zf_X8_7 dX8_offer_190 ?_
      refine z_iload hE 1 rfl dX8_offer_193 ?_
      refine z_iconst hE dX8_offer_195 ?_
      refine z_callS hE (c_X8_o l0 D0 cI0 cJ0 ad (us (us (us S 8 (mp (S 8) (S 7) (S 6 0))) 6 (up (S 6) 0 (min (S 6 0 + 1) 4))) 7 (up (up (up (up (clr (S 7) (55 + 22 * S 7 14) 22) (((55 + 22 * (S 7 14)))) se) (((56 + 22 * (S 7 14)))) bu) (((57 + 22 * (S 7 14)))) n) (((58 + 22 * (S 7 14)))) pr)) (S 7 14) 5 (60 + 22 * (S 7 14)) (by first | omega | (simp only [us_eq, us_ne h67, us_ne h76, us_ne h68, us_ne h86, us_ne h78, us_ne h87]; omega))) zm_X8_54 zt_yX8_o zn_RX8 zc_yX8_o (hy_X8_o) (Nat.le_of_ble_eq_true rfl) (Nat.le_of_ble_eq_true rfl) rfl rfl rfl (Nat.le_of_ble_eq_true rfl) dX8_offer_196 ?_
      try simp only [us_eq, us_us, us_ne h67, us_ne h76, us_ne h68, us_ne h86, us_ne h78, us_ne h87, us_in h67, us_in h76]
      refine z_aload_n hE 2 rfl rfl dX8_offer_199 ?_
      refine gf_8_0 hE (by decide) zf_X8_7 dX8_offer_200 ?_
      refine z_bipush (a := 13) hE (by decide) dX8_offer_203 ?_
      refine al_28 hE (by decide) (by omega) (by omega) dX8_offer_205 ?_
      try simp only [us_eq, us_us, us_ne h67, us_ne h76, us_ne h68, us_ne h86, us_ne h78, us_ne h87, us_in h67, us_in h76]
      rw [up_ne (by omega), up_ne (by omega), up_ne (by omega), up_ne (by omega), clr_n (by omega)]
      refine as_28 hE (by decide) (by omega) (by omega) dX8_offer_206 ?_
      try simp only [us_eq, us_us, us_ne h67, us_ne h76, us_ne h68, us_ne h86, us_ne h78, us_ne h87, us_in h67, us_in h76]
      refine z_aload_n hE 2 rfl rfl dX8_offer_207 ?_
      refine gf_8_0 hE (by decide) zf_X8_7 dX8_offer_208 ?_
      refine z_bipush (a := 14) hE (by decide) dX8_offer_211 ?_
      refine z_dup2 hE rfl rfl dX8_offer_213 ?_
      refine al_28 hE (by decide) (by omega) (by omega) dX8_offer_214 ?_
      try simp only [us_eq, us_us, us_ne h67, us_ne h76, us_ne h68, us_ne h86, us_ne h78, us_ne h87, us_in h67, us_in h76]
      rw [up_ne (by omega), up_ne (by omega), up_ne (by omega), up_ne (by omega), up_ne (by omega), clr_n (by omega)]
      refine z_lconst (a := 1) hE rfl dX8_offer_215 ?_
      refine z_ladd hE dX8_offer_216 ?_
      refine as_28 hE (by decide) (by omega) (by omega) dX8_offer_217 ?_
      try simp only [us_eq, us_us, us_ne h67, us_ne h76, us_ne h68, us_ne h86, us_ne h78, us_ne h87, us_in h67, us_in h76]
      refine z_mem7 hE (g := sp_offer (S 7) se bu n pr) (fun q hq hq2 => offer_7 hI0 (by omega) hq hq2) ?_
      refine z_iload hE 1 rfl dX8_offer_218 ?_
      exact z_iret hE hR dX8_offer_220 (congrArg (fun x => some (Value.int (i32 x))) (by unfold rv_offer; first | ((rw [if_neg (by omega)]) <;> first | rfl | omega) | ((rw [if_pos (by omega), if_neg (by omega)]) <;> first | rfl | omega) | ((rw [if_pos (by omega), if_pos (by omega), if_neg (by omega)]) <;> first | rfl | omega) | ((rw [if_pos (by omega), if_pos (by omega), if_pos (by omega)]) <;> first | rfl | omega))) (by first | ((rw [if_pos (by omega)]) <;> (rfl)) | (rw [if_neg (by omega)]))
    · refine z_aload_n hE 2 rfl rfl dX8_offer_117 ?_
      refine gf_8_0 hE (by decide) zf_X8_7 dX8_offer_118 ?_
      refine z_iload hE 1 rfl dX8_offer_121 ?_
      refine z_iload hE 0 rfl dX8_offer_123 ?_
      refine z_callS hE (c_X8_o l0 D0 cI0 cJ0 ad (us (us (us S 8 (mp (S 8) (S 7) (S 6 0))) 6 (up (S 6) 0 (min (S 6 0 + 1) 4))) 7 (clr (S 7) (55 + 22 * S 7 14) i)) (S 7 14) i (55 + 22 * (S 7 14) + i) (by first | omega | (simp only [us_eq, us_ne h67, us_ne h76, us_ne h68, us_ne h86, us_ne h78, us_ne h87]; omega))) zm_X8_54 zt_yX8_o zn_RX8 zc_yX8_o (hy_X8_o) (Nat.le_of_ble_eq_true rfl) (Nat.le_of_ble_eq_true rfl) rfl rfl rfl (Nat.le_of_ble_eq_true rfl) dX8_offer_125 ?_
      try simp only [us_eq, us_us, us_ne h67, us_ne h76, us_ne h68, us_ne h86, us_ne h78, us_ne h87, us_in h67, us_in h76]
      refine z_lconst (a := 0) hE rfl dX8_offer_128 ?_
      refine as_28 hE (by decide) (by omega) (by omega) dX8_offer_129 ?_
      try simp only [us_eq, us_us, us_ne h67, us_ne h76, us_ne h68, us_ne h86, us_ne h78, us_ne h87, us_in h67, us_in h76]
      refine z_iinc hE 0 rfl (by decide) rfl dX8_offer_130 ?_
      refine z_goto (tgt := 110) hE (d := dX8_offer_133) (ht := by decide) ?_
      refine z_L (L' := [(6, .int (i32 (i + 1))), (5, .int (i32 (S 7 14))), (0, .ref (ad 6 27)), (1, .int (i32 se)), (2, .int (i32 bu)), (3, .int (i32 n)), (4, .int (i32 pr))]) [0, 1, 2, 3, 4, 5, 6] (by rfl) ?_
      rw [clr_s h9.1]
      exact ih (i + 1) hk ⟨by omega, by omega⟩ (by omega)
set_option maxHeartbeats 4000000 in
set_option maxRecDepth 100000 in
theorem c_X8_offer (l0 : Launch) (D0 : va_G) (cI0 cJ0 : ClassId) (ad : Nat → Nat → Nat) (S : zM) (se : Int) (bu : Int) (n : Int) (pr : Int) (h6 : 0 ≤ S 6 0 ∧ S 6 0 ≤ 4) (hI : Inv (S 7)) (bb_se : -2147483648 ≤ se ∧ se < 2147483648) (bb_bu : -2147483648 ≤ bu ∧ bu < 2147483648) (bb_n : -2147483648 ≤ n ∧ n < 2147483648) (bb_pr : -2147483648 ≤ pr ∧ pr < 2147483648) : Ct l0 D0 cI0 cJ0 ad yX8_offer cX8_offer 7 (some .int) 3 66 [.ref (ad 6 27), .int (i32 se), .int (i32 bu), .int (i32 n), .int (i32 pr)] S (some (.int (i32 (rv_offer (S 7) se bu n pr)))) (fun X => X = if ok_offer (S 7) se bu n pr then us (us (us S 8 (mp (S 8) (S 7) (S 6 0))) 6 (up (S 6) 0 (min (S 6 0 + 1) 4))) 7 (sp_offer (S 7) se bu n pr) else S) := by
  refine Ct.of (by decide) (Nat.le_of_ble_eq_true rfl) (fun E hE hR => ?_)
  have hE : zG E l0 D0 cI0 cJ0 ad cX8_offer 7 RX8 3 66 := hE
  show Z E S 0 [(0, .ref (ad 6 27)), (1, .int (i32 se)), (2, .int (i32 bu)), (3, .int (i32 n)), (4, .int (i32 pr))] []
  have h67 : (6 : Nat) ≠ 7 := by decide
  have h76 : (7 : Nat) ≠ 6 := by decide
  have h68 : (6 : Nat) ≠ 8 := by decide
  have h86 : (8 : Nat) ≠ 6 := by decide
  have h78 : (7 : Nat) ≠ 8 := by decide
  have h87 : (8 : Nat) ≠ 7 := by decide
  have hI0 := hI.1
  have hA := inA hI0
  unfold InvA at hA
  refine z_aload_n hE 0 rfl rfl dX8_offer_0 ?_
  refine z_iload_n hE 1 rfl rfl dX8_offer_1 ?_
  refine z_callV hE (c_X8_isMember l0 D0 cI0 cJ0 ad S se (by omega) (by omega)) (by decide) rfl rfl zm_X8_64 zi_yX8_isMember zs_yX8_isMember zn_RX8 zc_yX8_isMember (hy_X8_isMember) (Nat.le_of_ble_eq_true rfl) (Nat.le_of_ble_eq_true rfl) rfl rfl rfl (Nat.le_of_ble_eq_true rfl) dX8_offer_2 ?_
  refine z_ifb_eq (tgt := 46) hE dX8_offer_5 (by decide) (fun c1 => ?_) (fun c1 => ?_)
  · refine z_ldc (a := -2000000001) hE zk_X8_68 (by decide) dX8_offer_46 ?_
    exact z_iret hE hR dX8_offer_48 (congrArg (fun x => some (Value.int (i32 x))) (by unfold rv_offer; first | ((rw [if_neg (by omega)]) <;> first | rfl | omega) | ((rw [if_pos (by omega), if_neg (by omega)]) <;> first | rfl | omega) | ((rw [if_pos (by omega), if_pos (by omega), if_neg (by omega)]) <;> first | rfl | omega) | ((rw [if_pos (by omega), if_pos (by omega), if_pos (by omega)]) <;> first | rfl | omega))) (by first | ((rw [if_pos (by omega)]) <;> (rfl)) | (rw [if_neg (by omega)]))
  · refine z_aload_n hE 0 rfl rfl dX8_offer_8 ?_
    refine z_iload_n hE 2 rfl rfl dX8_offer_9 ?_
    refine z_callV hE (c_X8_isMember l0 D0 cI0 cJ0 ad S bu (by omega) (by omega)) (by decide) rfl rfl zm_X8_64 zi_yX8_isMember zs_yX8_isMember zn_RX8 zc_yX8_isMember (hy_X8_isMember) (Nat.le_of_ble_eq_true rfl) (Nat.le_of_ble_eq_true rfl) rfl rfl rfl (Nat.le_of_ble_eq_true rfl) dX8_offer_10 ?_
    refine z_ifb_eq (tgt := 46) hE dX8_offer_13 (by decide) (fun c2 => ?_) (fun c2 => ?_)
    · refine z_ldc (a := -2000000001) hE zk_X8_68 (by decide) dX8_offer_46 ?_
      exact z_iret hE hR dX8_offer_48 (congrArg (fun x => some (Value.int (i32 x))) (by unfold rv_offer; first | ((rw [if_neg (by omega)]) <;> first | rfl | omega) | ((rw [if_pos (by omega), if_neg (by omega)]) <;> first | rfl | omega) | ((rw [if_pos (by omega), if_pos (by omega), if_neg (by omega)]) <;> first | rfl | omega) | ((rw [if_pos (by omega), if_pos (by omega), if_pos (by omega)]) <;> first | rfl | omega))) (by first | ((rw [if_pos (by omega)]) <;> (rfl)) | (rw [if_neg (by omega)]))
    · refine z_iload_n hE 1 rfl rfl dX8_offer_16 ?_
      refine z_iload_n hE 2 rfl rfl dX8_offer_17 ?_
      refine z_icmp_eq (tgt := 46) hE dX8_offer_18 (by decide) ⟨by omega, by omega⟩ ⟨by omega, by omega⟩ (fun c3 => ?_) (fun c3 => ?_)
      · refine z_ldc (a := -2000000001) hE zk_X8_68 (by decide) dX8_offer_46 ?_
        exact z_iret hE hR dX8_offer_48 (congrArg (fun x => some (Value.int (i32 x))) (by unfold rv_offer; first | ((rw [if_neg (by omega)]) <;> first | rfl | omega) | ((rw [if_pos (by omega), if_neg (by omega)]) <;> first | rfl | omega) | ((rw [if_pos (by omega), if_pos (by omega), if_neg (by omega)]) <;> first | rfl | omega) | ((rw [if_pos (by omega), if_pos (by omega), if_pos (by omega)]) <;> first | rfl | omega))) (by first | ((rw [if_pos (by omega)]) <;> (rfl)) | (rw [if_neg (by omega)]))
      · refine z_iload_n hE 3 rfl rfl dX8_offer_21 ?_
        refine z_i2l hE ⟨by omega, by omega⟩ dX8_offer_22 ?_
        refine z_lconst (a := 1) hE rfl dX8_offer_23 ?_
        refine z_ldc2 (a := 1000) hE zl_X8_25 (by decide) dX8_offer_24 ?_
        refine z_callS hE (c_X8_in l0 D0 cI0 cJ0 ad S n 1 1000 (⟨by omega, by omega⟩) (⟨by omega, by omega⟩) (⟨by omega, by omega⟩)) zm_X8_35 zt_yX8_in zn_RX8 zc_yX8_in (hy_X8_in) (Nat.le_of_ble_eq_true rfl) (Nat.le_of_ble_eq_true rfl) rfl rfl rfl (Nat.le_of_ble_eq_true rfl) dX8_offer_27 ?_
        refine z_ifb_eq (tgt := 46) hE dX8_offer_30 (by decide) (fun c4 => ?_) (fun c4 => ?_)
        · refine z_ldc (a := -2000000001) hE zk_X8_68 (by decide) dX8_offer_46 ?_
          exact z_iret hE hR dX8_offer_48 (congrArg (fun x => some (Value.int (i32 x))) (by unfold rv_offer; first | ((rw [if_neg (by omega)]) <;> first | rfl | omega) | ((rw [if_pos (by omega), if_neg (by omega)]) <;> first | rfl | omega) | ((rw [if_pos (by omega), if_pos (by omega), if_neg (by omega)]) <;> first | rfl | omega) | ((rw [if_pos (by omega), if_pos (by omega), if_pos (by omega)]) <;> first | rfl | omega))) (by first | ((rw [if_pos (by omega)]) <;> (rfl)) | (rw [if_neg (by omega)]))
        · refine z_iload hE 4 rfl dX8_offer_33 ?_
          refine z_i2l hE ⟨by omega, by omega⟩ dX8_offer_35 ?_
          refine z_lconst (a := 1) hE rfl dX8_offer_36 ?_
          refine z_ldc2 (a := 100000) hE zl_X8_102 (by decide) dX8_offer_37 ?_
          refine z_callS hE (c_X8_in l0 D0 cI0 cJ0 ad S pr 1 100000 (⟨by omega, by omega⟩) (⟨by omega, by omega⟩) (⟨by omega, by omega⟩)) zm_X8_35 zt_yX8_in zn_RX8 zc_yX8_in (hy_X8_in) (Nat.le_of_ble_eq_true rfl) (Nat.le_of_ble_eq_true rfl) rfl rfl rfl (Nat.le_of_ble_eq_true rfl) dX8_offer_40 ?_
          refine z_ifb_ne (tgt := 49) hE dX8_offer_43 (by decide) (fun c5 => ?_) (fun c5 => ?_)
          · have hf9 := free_b hI0 (m := se) (by omega) (by omega)
            refine z_iload_n hE 3 rfl rfl dX8_offer_49 ?_
            refine z_i2l hE ⟨by omega, by omega⟩ dX8_offer_50 ?_
            refine z_aload_n hE 0 rfl rfl dX8_offer_51 ?_
            refine z_iload_n hE 1 rfl rfl dX8_offer_52 ?_
            refine z_callV hE (c_X8_freeOf l0 D0 cI0 cJ0 ad S se (by first | exact hI0 | (simp only [us_eq, us_ne h78, us_ne h76]; exact hI0)) (by omega)) (by decide) rfl rfl zm_X8_78 zi_yX8_freeOf zs_yX8_freeOf zn_RX8 zc_yX8_freeOf (hy_X8_freeOf) (Nat.le_of_ble_eq_true rfl) (Nat.le_of_ble_eq_true rfl) rfl rfl rfl (Nat.le_of_ble_eq_true rfl) dX8_offer_53 ?_
            refine z_lcmp hE ⟨by omega, by omega⟩ ⟨by omega, by omega⟩ dX8_offer_56 ?_
            refine z_ifl_gt (tgt := 73) hE dX8_offer_57 (by decide) (fun c6 => ?_) (fun c6 => ?_)
            · refine z_ldc (a := -2000000002) hE zk_X8_92 (by decide) dX8_offer_73 ?_
              exact z_iret hE hR dX8_offer_75 (congrArg (fun x => some (Value.int (i32 x))) (by unfold rv_offer; first | ((rw [if_neg (by omega)]) <;> first | rfl | omega) | ((rw [if_pos (by omega), if_neg (by omega)]) <;> first | rfl | omega) | ((rw [if_pos (by omega), if_pos (by omega), if_neg (by omega)]) <;> first | rfl | omega) | ((rw [if_pos (by omega), if_pos (by omega), if_pos (by omega)]) <;> first | rfl | omega))) (by first | ((rw [if_pos (by omega)]) <;> (rfl)) | (rw [if_neg (by omega)]))
            · refine z_iload hE 4 rfl dX8_offer_60 ?_
              refine z_i2l hE ⟨by omega, by omega⟩ dX8_offer_62 ?_
              refine z_aload_n hE 0 rfl rfl dX8_offer_63 ?_
              refine gf_8_0 hE (by decide) zf_X8_7 dX8_offer_64 ?_
              refine z_iconst hE dX8_offer_67 ?_
              refine al_28 hE (by decide) (by omega) (by omega) dX8_offer_68 ?_
              refine z_lcmp hE ⟨by omega, by omega⟩ ⟨by omega, by omega⟩ dX8_offer_69 ?_
              refine z_ifl_ge (tgt := 76) hE dX8_offer_70 (by decide) (fun c7 => ?_) (fun c7 => ?_)
              · refine z_aload_n hE 0 rfl rfl dX8_offer_76 ?_
                refine gf_8_0 hE (by decide) zf_X8_7 dX8_offer_77 ?_
                refine z_bipush (a := 14) hE (by decide) dX8_offer_80 ?_
                refine al_28 hE (by decide) (by omega) (by omega) dX8_offer_82 ?_
                refine z_ldc2 (a := 20) hE zl_X8_104 (by decide) dX8_offer_83 ?_
                refine z_lcmp hE ⟨by omega, by omega⟩ ⟨by omega, by omega⟩ dX8_offer_86 ?_
                refine z_ifl_ne (tgt := 93) hE dX8_offer_87 (by decide) (fun c8 => ?_) (fun c8 => ?_)
                · refine z_aload_n hE 0 rfl rfl dX8_offer_93 ?_
                  refine z_callV hE (c_X8_notes l0 D0 cI0 cJ0 ad S (by omega)) (by decide) rfl rfl zm_X8_43 zi_yX8_notes zs_yX8_notes zn_RX8 zc_yX8_notes (hy_X8_notes) (Nat.le_of_ble_eq_true rfl) (Nat.le_of_ble_eq_true rfl) rfl rfl rfl (Nat.le_of_ble_eq_true rfl) dX8_offer_94 ?_
                  try simp only [us_eq, us_us, us_ne h67, us_ne h76, us_ne h68, us_ne h86, us_ne h78, us_ne h87, us_in h67, us_in h76]
                  refine z_aload_n hE 0 rfl rfl dX8_offer_97 ?_
                  refine gf_8_0 hE (by decide) zf_X8_7 dX8_offer_98 ?_
                  refine z_bipush (a := 14) hE (by decide) dX8_offer_101 ?_
                  refine al_28 hE (by decide) (by omega) (by omega) dX8_offer_103 ?_
                  try simp only [us_eq, us_us, us_ne h67, us_ne h76, us_ne h68, us_ne h86, us_ne h78, us_ne h87, us_in h67, us_in h76]
                  refine z_l2i hE dX8_offer_104 ?_
                  refine z_istore hE (by decide) rfl dX8_offer_105 ?_
                  refine z_iconst hE dX8_offer_107 ?_
                  refine z_istore hE (by decide) rfl dX8_offer_108 ?_
                  refine z_L (L' := [(6, .int (i32 0)), (5, .int (i32 (S 7 14))), (0, .ref (ad 6 27)), (1, .int (i32 se)), (2, .int (i32 bu)), (3, .int (i32 n)), (4, .int (i32 pr))]) [0, 1, 2, 3, 4, 5, 6] (by rfl) ?_
                  rw [us_add7 (S := S) (g := clr (S 7) (55 + 22 * S 7 14) 0) (clr_0 _ _)]
                  exact lp_X8_offer hE S se bu n pr h6 hI bb_se bb_bu bb_n bb_pr hR 23 0 (by omega) ⟨by omega, by omega⟩ (by omega)
                · refine z_ldc (a := -2000000003) hE zk_X8_63 (by decide) dX8_offer_90 ?_
                  exact z_iret hE hR dX8_offer_92 (congrArg (fun x => some (Value.int (i32 x))) (by unfold rv_offer; first | ((rw [if_neg (by omega)]) <;> first | rfl | omega) | ((rw [if_pos (by omega), if_neg (by omega)]) <;> first | rfl | omega) | ((rw [if_pos (by omega), if_pos (by omega), if_neg (by omega)]) <;> first | rfl | omega) | ((rw [if_pos (by omega), if_pos (by omega), if_pos (by omega)]) <;> first | rfl | omega))) (by first | ((rw [if_pos (by omega)]) <;> (rfl)) | (rw [if_neg (by omega)]))
              · refine z_ldc (a := -2000000002) hE zk_X8_92 (by decide) dX8_offer_73 ?_
                exact z_iret hE hR dX8_offer_75 (congrArg (fun x => some (Value.int (i32 x))) (by unfold rv_offer; first | ((rw [if_neg (by omega)]) <;> first | rfl | omega) | ((rw [if_pos (by omega), if_neg (by omega)]) <;> first | rfl | omega) | ((rw [if_pos (by omega), if_pos (by omega), if_neg (by omega)]) <;> first | rfl | omega) | ((rw [if_pos (by omega), if_pos (by omega), if_pos (by omega)]) <;> first | rfl | omega))) (by first | ((rw [if_pos (by omega)]) <;> (rfl)) | (rw [if_neg (by omega)]))
          · refine z_ldc (a := -2000000001) hE zk_X8_68 (by decide) dX8_offer_46 ?_
            exact z_iret hE hR dX8_offer_48 (congrArg (fun x => some (Value.int (i32 x))) (by unfold rv_offer; first | ((rw [if_neg (by omega)]) <;> first | rfl | omega) | ((rw [if_pos (by omega), if_neg (by omega)]) <;> first | rfl | omega) | ((rw [if_pos (by omega), if_pos (by omega), if_neg (by omega)]) <;> first | rfl | omega) | ((rw [if_pos (by omega), if_pos (by omega), if_pos (by omega)]) <;> first | rfl | omega))) (by first | ((rw [if_pos (by omega)]) <;> (rfl)) | (rw [if_neg (by omega)]))
theorem dX8_claim_0 : decode cX8_claim 0 = .ok (.aload_n 0, 1) := by decide +kernel
theorem dX8_claim_1 : decode cX8_claim 1 = .ok (.iload_n 1, 1) := by decide +kernel
theorem dX8_claim_2 : decode cX8_claim 2 = .ok (.invokevirtual 106, 3) := by decide +kernel
theorem dX8_claim_5 : decode cX8_claim 5 = .ok (.ifCond .eq 23, 3) := by decide +kernel
theorem dX8_claim_8 : decode cX8_claim 8 = .ok (.aload_n 0, 1) := by decide +kernel
theorem dX8_claim_9 : decode cX8_claim 9 = .ok (.iload_n 2, 1) := by decide +kernel
theorem dX8_claim_10 : decode cX8_claim 10 = .ok (.invokevirtual 64, 3) := by decide +kernel
theorem dX8_claim_13 : decode cX8_claim 13 = .ok (.ifCond .eq 15, 3) := by decide +kernel
theorem dX8_claim_16 : decode cX8_claim 16 = .ok (.iload_n 3, 1) := by decide +kernel
theorem dX8_claim_17 : decode cX8_claim 17 = .ok (.i2l, 1) := by decide +kernel
theorem dX8_claim_18 : decode cX8_claim 18 = .ok (.lconst 1, 1) := by decide +kernel
theorem dX8_claim_19 : decode cX8_claim 19 = .ok (.ldc2_w 25, 3) := by decide +kernel
theorem dX8_claim_22 : decode cX8_claim 22 = .ok (.invokestatic 35, 3) := by decide +kernel
theorem dX8_claim_25 : decode cX8_claim 25 = .ok (.ifCond .ne 6, 3) := by decide +kernel
theorem dX8_claim_28 : decode cX8_claim 28 = .ok (.ldc 68, 2) := by decide +kernel
theorem dX8_claim_30 : decode cX8_claim 30 = .ok (.ireturn, 1) := by decide +kernel
theorem dX8_claim_31 : decode cX8_claim 31 = .ok (.aload_n 0, 1) := by decide +kernel
theorem dX8_claim_32 : decode cX8_claim 32 = .ok (.iload_n 1, 1) := by decide +kernel
theorem dX8_claim_33 : decode cX8_claim 33 = .ok (.iload_n 2, 1) := by decide +kernel
theorem dX8_claim_34 : decode cX8_claim 34 = .ok (.invokevirtual 109, 3) := by decide +kernel
theorem dX8_claim_37 : decode cX8_claim 37 = .ok (.ifCond .ne 6, 3) := by decide +kernel
theorem dX8_claim_40 : decode cX8_claim 40 = .ok (.ldc 92, 2) := by decide +kernel
theorem dX8_claim_42 : decode cX8_claim 42 = .ok (.ireturn, 1) := by decide +kernel
theorem dX8_claim_43 : decode cX8_claim 43 = .ok (.aload_n 0, 1) := by decide +kernel
theorem dX8_claim_44 : decode cX8_claim 44 = .ok (.invokevirtual 43, 3) := by decide +kernel
theorem dX8_claim_47 : decode cX8_claim 47 = .ok (.aload_n 0, 1) := by decide +kernel
theorem dX8_claim_48 : decode cX8_claim 48 = .ok (.getfield 7, 3) := by decide +kernel
theorem dX8_claim_51 : decode cX8_claim 51 = .ok (.iload_n 1, 1) := by decide +kernel
theorem dX8_claim_52 : decode cX8_claim 52 = .ok (.bipush 10, 2) := by decide +kernel
theorem dX8_claim_54 : decode cX8_claim 54 = .ok (.iload_n 2, 1) := by decide +kernel
theorem dX8_claim_55 : decode cX8_claim 55 = .ok (.iadd, 1) := by decide +kernel
theorem dX8_claim_56 : decode cX8_claim 56 = .ok (.invokestatic 54, 3) := by decide +kernel
theorem dX8_claim_59 : decode cX8_claim 59 = .ok (.iload_n 3, 1) := by decide +kernel
theorem dX8_claim_60 : decode cX8_claim 60 = .ok (.i2l, 1) := by decide +kernel
theorem dX8_claim_61 : decode cX8_claim 61 = .ok (.lastore, 1) := by decide +kernel
theorem dX8_claim_62 : decode cX8_claim 62 = .ok (.aload_n 0, 1) := by decide +kernel
theorem dX8_claim_63 : decode cX8_claim 63 = .ok (.iload_n 1, 1) := by decide +kernel
theorem dX8_claim_64 : decode cX8_claim 64 = .ok (.invokevirtual 113, 3) := by decide +kernel
theorem dX8_claim_67 : decode cX8_claim 67 = .ok (.ireturn, 1) := by decide +kernel
theorem hy_X8_claim : yX8_claim.cls ≠ "java/lang/invoke/MethodHandle" ∧ yX8_claim.cls ≠ "java/lang/invoke/VarHandle" ∧ (parseMethodDescriptor yX8_claim.desc).map (fun d => d.parameters.length) = some 3 := ⟨by decide +kernel, by decide +kernel, by decide +kernel⟩
set_option maxHeartbeats 4000000 in
set_option maxRecDepth 100000 in
theorem c_X8_claim (l0 : Launch) (D0 : va_G) (cI0 cJ0 : ClassId) (ad : Nat → Nat → Nat) (S : zM) (o : Int) (m : Int) (n : Int) (h6 : 0 ≤ S 6 0 ∧ S 6 0 ≤ 4) (hI : Inv (S 7)) (bb_o : -2147483648 ≤ o ∧ o < 2147483648) (bb_m : -2147483648 ≤ m ∧ m < 2147483648) (bb_n : -2147483648 ≤ n ∧ n < 2147483648) : Ct l0 D0 cI0 cJ0 ad yX8_claim cX8_claim 4 (some .int) 3 67 [.ref (ad 6 27), .int (i32 o), .int (i32 m), .int (i32 n)] S (some (.int (i32 (rv_claim (S 7) o m n)))) (fun X => X = if ok_claim (S 7) o m n then us (us (us S 8 (mp (S 8) (S 7) (S 6 0))) 6 (up (S 6) 0 (min (S 6 0 + 1) 4))) 7 (nx_claim (S 7) o m n) else S) := by
  refine Ct.of (by decide) (Nat.le_of_ble_eq_true rfl) (fun E hE hR => ?_)
  have hE : zG E l0 D0 cI0 cJ0 ad cX8_claim 4 RX8 3 67 := hE
  show Z E S 0 [(0, .ref (ad 6 27)), (1, .int (i32 o)), (2, .int (i32 m)), (3, .int (i32 n))] []
  have h67 : (6 : Nat) ≠ 7 := by decide
  have h76 : (7 : Nat) ≠ 6 := by decide
  have h68 : (6 : Nat) ≠ 8 := by decide
  have h86 : (8 : Nat) ≠ 6 := by decide
  have h78 : (7 : Nat) ≠ 8 := by decide
  have h87 : (8 : Nat) ≠ 7 := by decide
  have hI0 := hI.1
  have hA := inA hI0
  unfold InvA at hA
  refine z_aload_n hE 0 rfl rfl dX8_claim_0 ?_
  refine z_iload_n hE 1 rfl rfl dX8_claim_1 ?_
  refine z_callV hE (c_X8_isOffer l0 D0 cI0 cJ0 ad S o (by omega) (by omega)) (by decide) rfl rfl zm_X8_106 zi_yX8_isOffer zs_yX8_isOffer zn_RX8 zc_yX8_isOffer (hy_X8_isOffer) (Nat.le_of_ble_eq_true rfl) (Nat.le_of_ble_eq_true rfl) rfl rfl rfl (Nat.le_of_ble_eq_true rfl) dX8_claim_2 ?_
  refine z_ifb_eq (tgt := 28) hE dX8_claim_5 (by decide) (fun c1 => ?_) (fun c1 => ?_)
  · refine z_ldc (a := -2000000001) hE zk_X8_68 (by decide) dX8_claim_28 ?_
    exact z_iret hE hR dX8_claim_30 (congrArg (fun x => some (Value.int (i32 x))) (by unfold rv_claim; first | ((rw [if_pos (by omega), if_pos (by assumption)]) <;> rfl) | (rw [if_pos (by omega), if_neg (by assumption)]) | (rw [if_neg (by omega)]))) (by first | ((rw [if_pos ⟨by omega, by assumption⟩]) <;> rfl) | (rw [if_neg (fun q => absurd q.2 (by assumption))]) | (rw [if_neg (by omega)]))
  · refine z_aload_n hE 0 rfl rfl dX8_claim_8 ?_
    refine z_iload_n hE 2 rfl rfl dX8_claim_9 ?_
    refine z_callV hE (c_X8_isMember l0 D0 cI0 cJ0 ad S m (by omega) (by omega)) (by decide) rfl rfl zm_X8_64 zi_yX8_isMember zs_yX8_isMember zn_RX8 zc_yX8_isMember (hy_X8_isMember) (Nat.le_of_ble_eq_true rfl) (Nat.le_of_ble_eq_true rfl) rfl rfl rfl (Nat.le_of_ble_eq_true rfl) dX8_claim_10 ?_
    refine z_ifb_eq (tgt := 28) hE dX8_claim_13 (by decide) (fun c2 => ?_) (fun c2 => ?_)
    · refine z_ldc (a := -2000000001) hE zk_X8_68 (by decide) dX8_claim_28 ?_
      exact z_iret hE hR dX8_claim_30 (congrArg (fun x => some (Value.int (i32 x))) (by unfold rv_claim; first | ((rw [if_pos (by omega), if_pos (by assumption)]) <;> rfl) | (rw [if_pos (by omega), if_neg (by assumption)]) | (rw [if_neg (by omega)]))) (by first | ((rw [if_pos ⟨by omega, by assumption⟩]) <;> rfl) | (rw [if_neg (fun q => absurd q.2 (by assumption))]) | (rw [if_neg (by omega)]))
    · refine z_iload_n hE 3 rfl rfl dX8_claim_16 ?_
      refine z_i2l hE ⟨by omega, by omega⟩ dX8_claim_17 ?_
      refine z_lconst (a := 1) hE rfl dX8_claim_18 ?_
      refine z_ldc2 (a := 1000) hE zl_X8_25 (by decide) dX8_claim_19 ?_
      refine z_callS hE (c_X8_in l0 D0 cI0 cJ0 ad S n 1 1000 (⟨by omega, by omega⟩) (⟨by omega, by omega⟩) (⟨by omega, by omega⟩)) zm_X8_35 zt_yX8_in zn_RX8 zc_yX8_in (hy_X8_in) (Nat.le_of_ble_eq_true rfl) (Nat.le_of_ble_eq_true rfl) rfl rfl rfl (Nat.le_of_ble_eq_true rfl) dX8_claim_22 ?_
      refine z_ifb_ne (tgt := 31) hE dX8_claim_25 (by decide) (fun c3 => ?_) (fun c3 => ?_)
      · refine z_aload_n hE 0 rfl rfl dX8_claim_31 ?_
        refine z_iload_n hE 1 rfl rfl dX8_claim_32 ?_
        refine z_iload_n hE 2 rfl rfl dX8_claim_33 ?_
        refine z_callV hE (c_X8_canClaim l0 D0 cI0 cJ0 ad S o m (by first | exact hI0 | (simp only [us_eq, us_ne h78, us_ne h76]; exact hI0)) (by omega) (by omega)) (by decide) rfl rfl zm_X8_109 zi_yX8_canClaim zs_yX8_canClaim zn_RX8 zc_yX8_canClaim (hy_X8_canClaim) (Nat.le_of_ble_eq_true rfl) (Nat.le_of_ble_eq_true rfl) rfl rfl rfl (Nat.le_of_ble_eq_true rfl) dX8_claim_34 ?_
        refine z_ifb_ne (tgt := 43) hE dX8_claim_37 (by decide) (fun c4 => ?_) (fun c4 => ?_)
        · refine z_aload_n hE 0 rfl rfl dX8_claim_43 ?_
          refine z_callV hE (c_X8_notes l0 D0 cI0 cJ0 ad S (by omega)) (by decide) rfl rfl zm_X8_43 zi_yX8_notes zs_yX8_notes zn_RX8 zc_yX8_notes (hy_X8_notes) (Nat.le_of_ble_eq_true rfl) (Nat.le_of_ble_eq_true rfl) rfl rfl rfl (Nat.le_of_ble_eq_true rfl) dX8_claim_44 ?_
          try simp only [us_eq, us_us, us_ne h67, us_ne h76, us_ne h68, us_ne h86, us_ne h78, us_ne h87, us_in h67, us_in h76]
          refine z_aload_n hE 0 rfl rfl dX8_claim_47 ?_
          refine gf_8_0 hE (by decide) zf_X8_7 dX8_claim_48 ?_
          refine z_iload_n hE 1 rfl rfl dX8_claim_51 ?_
          refine z_bipush (a := 10) hE (by decide) dX8_claim_52 ?_
          refine z_iload_n hE 2 rfl rfl dX8_claim_54 ?_
          refine z_iadd hE dX8_claim_55 ?_
          refine z_callS hE (c_X8_o l0 D0 cI0 cJ0 ad (us (us S 8 (mp ((S 8)) ((S 7)) ((S 6) 0))) 6 (up ((S 6)) 0 (min ((S 6) 0 + 1) 4))) o (10 + m) (65 + 22 * o + m) (by first | omega | (simp only [us_eq, us_ne h67, us_ne h76, us_ne h68, us_ne h86, us_ne h78, us_ne h87]; omega))) zm_X8_54 zt_yX8_o zn_RX8 zc_yX8_o (hy_X8_o) (Nat.le_of_ble_eq_true rfl) (Nat.le_of_ble_eq_true rfl) rfl rfl rfl (Nat.le_of_ble_eq_true rfl) dX8_claim_56 ?_
          try simp only [us_eq, us_us, us_ne h67, us_ne h76, us_ne h68, us_ne h86, us_ne h78, us_ne h87, us_in h67, us_in h76]
          refine z_iload_n hE 3 rfl rfl dX8_claim_59 ?_
          refine z_i2l hE ⟨by omega, by omega⟩ dX8_claim_60 ?_
          refine as_28 hE (by decide) (by omega) (by omega) dX8_claim_61 ?_
          try simp only [us_eq, us_us, us_ne h67, us_ne h76, us_ne h68, us_ne h86, us_ne h78, us_ne h87, us_in h67, us_in h76]
          refine z_aload_n hE 0 rfl rfl dX8_claim_62 ?_
          refine z_iload_n hE 1 rfl rfl dX8_claim_63 ?_
          refine z_callV hE (c_X8_claims l0 D0 cI0 cJ0 ad (us (us (us S 8 (mp ((S 8)) ((S 7)) ((S 6) 0))) 6 (up ((S 6)) 0 (min ((S 6) 0 + 1) 4))) 7 (up (S 7) (((65 + 22 * o + m))) n)) o (by first | omega | (simp only [us_eq, us_ne h67, us_ne h76, us_ne h68, us_ne h86, us_ne h78, us_ne h87]; omega))) (by decide) rfl rfl zm_X8_113 zi_yX8_claims zs_yX8_claims zn_RX8 zc_yX8_claims (hy_X8_claims) (Nat.le_of_ble_eq_true rfl) (Nat.le_of_ble_eq_true rfl) rfl rfl rfl (Nat.le_of_ble_eq_true rfl) dX8_claim_64 ?_
          try simp only [us_eq, us_us, us_ne h67, us_ne h76, us_ne h68, us_ne h86, us_ne h78, us_ne h87, us_in h67, us_in h76]
          exact z_iret hE hR dX8_claim_67 (congrArg (fun x => some (Value.int (i32 x))) (by unfold rv_claim; first | ((rw [if_pos (by omega), if_pos (by assumption)]) <;> rfl) | (rw [if_pos (by omega), if_neg (by assumption)]) | (rw [if_neg (by omega)]))) (by first | ((rw [if_pos ⟨by omega, by assumption⟩]) <;> rfl) | (rw [if_neg (fun q => absurd q.2 (by assumption))]) | (rw [if_neg (by omega)]))
        · refine z_ldc (a := -2000000002) hE zk_X8_92 (by decide) dX8_claim_40 ?_
          exact z_iret hE hR dX8_claim_42 (congrArg (fun x => some (Value.int (i32 x))) (by unfold rv_claim; first | ((rw [if_pos (by omega), if_pos (by assumption)]) <;> rfl) | (rw [if_pos (by omega), if_neg (by assumption)]) | (rw [if_neg (by omega)]))) (by first | ((rw [if_pos ⟨by omega, by assumption⟩]) <;> rfl) | (rw [if_neg (fun q => absurd q.2 (by assumption))]) | (rw [if_neg (by omega)]))
      · refine z_ldc (a := -2000000001) hE zk_X8_68 (by decide) dX8_claim_28 ?_
        exact z_iret hE hR dX8_claim_30 (congrArg (fun x => some (Value.int (i32 x))) (by unfold rv_claim; first | ((rw [if_pos (by omega), if_pos (by assumption)]) <;> rfl) | (rw [if_pos (by omega), if_neg (by assumption)]) | (rw [if_neg (by omega)]))) (by first | ((rw [if_pos ⟨by omega, by assumption⟩]) <;> rfl) | (rw [if_neg (fun q => absurd q.2 (by assumption))]) | (rw [if_neg (by omega)]))
theorem dX8_withdraw_0 : decode cX8_withdraw 0 = .ok (.aload_n 0, 1) := by decide +kernel
theorem dX8_withdraw_1 : decode cX8_withdraw 1 = .ok (.iload_n 1, 1) := by decide +kernel
theorem dX8_withdraw_2 : decode cX8_withdraw 2 = .ok (.invokevirtual 106, 3) := by decide +kernel
theorem dX8_withdraw_5 : decode cX8_withdraw 5 = .ok (.ifCond .ne 6, 3) := by decide +kernel
theorem dX8_withdraw_8 : decode cX8_withdraw 8 = .ok (.ldc 68, 2) := by decide +kernel
theorem dX8_withdraw_10 : decode cX8_withdraw 10 = .ok (.ireturn, 1) := by decide +kernel
theorem dX8_withdraw_11 : decode cX8_withdraw 11 = .ok (.aload_n 0, 1) := by decide +kernel
theorem dX8_withdraw_12 : decode cX8_withdraw 12 = .ok (.getfield 7, 3) := by decide +kernel
theorem dX8_withdraw_15 : decode cX8_withdraw 15 = .ok (.iload_n 1, 1) := by decide +kernel
theorem dX8_withdraw_16 : decode cX8_withdraw 16 = .ok (.iconst 4, 1) := by decide +kernel
theorem dX8_withdraw_17 : decode cX8_withdraw 17 = .ok (.invokestatic 54, 3) := by decide +kernel
theorem dX8_withdraw_20 : decode cX8_withdraw 20 = .ok (.laload, 1) := by decide +kernel
theorem dX8_withdraw_21 : decode cX8_withdraw 21 = .ok (.ldc2_w 33, 3) := by decide +kernel
theorem dX8_withdraw_24 : decode cX8_withdraw 24 = .ok (.lcmp, 1) := by decide +kernel
theorem dX8_withdraw_25 : decode cX8_withdraw 25 = .ok (.ifCond .ne 6, 3) := by decide +kernel
theorem dX8_withdraw_28 : decode cX8_withdraw 28 = .ok (.ldc 92, 2) := by decide +kernel
theorem dX8_withdraw_30 : decode cX8_withdraw 30 = .ok (.ireturn, 1) := by decide +kernel
theorem dX8_withdraw_31 : decode cX8_withdraw 31 = .ok (.aload_n 0, 1) := by decide +kernel
theorem dX8_withdraw_32 : decode cX8_withdraw 32 = .ok (.invokevirtual 43, 3) := by decide +kernel
theorem dX8_withdraw_35 : decode cX8_withdraw 35 = .ok (.aload_n 0, 1) := by decide +kernel
theorem dX8_withdraw_36 : decode cX8_withdraw 36 = .ok (.iload_n 1, 1) := by decide +kernel
theorem dX8_withdraw_37 : decode cX8_withdraw 37 = .ok (.ldc2_w 33, 3) := by decide +kernel
theorem dX8_withdraw_40 : decode cX8_withdraw 40 = .ok (.invokevirtual 117, 3) := by decide +kernel
theorem dX8_withdraw_43 : decode cX8_withdraw 43 = .ok (.aload_n 0, 1) := by decide +kernel
theorem dX8_withdraw_44 : decode cX8_withdraw 44 = .ok (.getfield 7, 3) := by decide +kernel
theorem dX8_withdraw_47 : decode cX8_withdraw 47 = .ok (.iload_n 1, 1) := by decide +kernel
theorem dX8_withdraw_48 : decode cX8_withdraw 48 = .ok (.iconst 2, 1) := by decide +kernel
theorem dX8_withdraw_49 : decode cX8_withdraw 49 = .ok (.invokestatic 54, 3) := by decide +kernel
theorem dX8_withdraw_52 : decode cX8_withdraw 52 = .ok (.laload, 1) := by decide +kernel
theorem dX8_withdraw_53 : decode cX8_withdraw 53 = .ok (.l2i, 1) := by decide +kernel
theorem dX8_withdraw_54 : decode cX8_withdraw 54 = .ok (.ireturn, 1) := by decide +kernel
theorem hy_X8_withdraw : yX8_withdraw.cls ≠ "java/lang/invoke/MethodHandle" ∧ yX8_withdraw.cls ≠ "java/lang/invoke/VarHandle" ∧ (parseMethodDescriptor yX8_withdraw.desc).map (fun d => d.parameters.length) = some 1 := ⟨by decide +kernel, by decide +kernel, by decide +kernel⟩
set_option maxHeartbeats 4000000 in
set_option maxRecDepth 100000 in
theorem c_X8_withdraw (l0 : Launch) (D0 : va_G) (cI0 cJ0 : ClassId) (ad : Nat → Nat → Nat) (S : zM) (o : Int) (h6 : 0 ≤ S 6 0 ∧ S 6 0 ≤ 4) (hI : Inv (S 7)) (bb_o : -2147483648 ≤ o ∧ o < 2147483648) : Ct l0 D0 cI0 cJ0 ad yX8_withdraw cX8_withdraw 2 (some .int) 2 46 [.ref (ad 6 27), .int (i32 o)] S (some (.int (i32 (rv_withdraw (S 7) o)))) (fun X => X = if ok_withdraw (S 7) o then us (us (us S 8 (mp (S 8) (S 7) (S 6 0))) 6 (up (S 6) 0 (min (S 6 0 + 1) 4))) 7 (nx_withdraw (S 7) o) else S) := by
  refine Ct.of (by decide) (Nat.le_of_ble_eq_true rfl) (fun E hE hR => ?_)
  have hE : zG E l0 D0 cI0 cJ0 ad cX8_withdraw 2 RX8 2 46 := hE
  show Z E S 0 [(0, .ref (ad 6 27)), (1, .int (i32 o))] []
  have h67 : (6 : Nat) ≠ 7 := by decide
  have h76 : (7 : Nat) ≠ 6 := by decide
  have h68 : (6 : Nat) ≠ 8 := by decide
  have h86 : (8 : Nat) ≠ 6 := by decide
  have h78 : (7 : Nat) ≠ 8 := by decide
  have h87 : (8 : Nat) ≠ 7 := by decide
  have hI0 := hI.1
  have hA := inA hI0
  unfold InvA at hA
  refine z_aload_n hE 0 rfl rfl dX8_withdraw_0 ?_
  refine z_iload_n hE 1 rfl rfl dX8_withdraw_1 ?_
  refine z_callV hE (c_X8_isOffer l0 D0 cI0 cJ0 ad S o (by omega) (by omega)) (by decide) rfl rfl zm_X8_106 zi_yX8_isOffer zs_yX8_isOffer zn_RX8 zc_yX8_isOffer (hy_X8_isOffer) (Nat.le_of_ble_eq_true rfl) (Nat.le_of_ble_eq_true rfl) rfl rfl rfl (Nat.le_of_ble_eq_true rfl) dX8_withdraw_2 ?_
  refine z_ifb_ne (tgt := 11) hE dX8_withdraw_5 (by decide) (fun c1 => ?_) (fun c1 => ?_)
  · have ho := inO hI0 o (by omega) (by omega)
    refine z_aload_n hE 0 rfl rfl dX8_withdraw_11 ?_
    refine gf_8_0 hE (by decide) zf_X8_7 dX8_withdraw_12 ?_
    refine z_iload_n hE 1 rfl rfl dX8_withdraw_15 ?_
    refine z_iconst hE dX8_withdraw_16 ?_
    refine z_callS hE (c_X8_o l0 D0 cI0 cJ0 ad S o 4 (59 + 22 * o) (by omega)) zm_X8_54 zt_yX8_o zn_RX8 zc_yX8_o (hy_X8_o) (Nat.le_of_ble_eq_true rfl) (Nat.le_of_ble_eq_true rfl) rfl rfl rfl (Nat.le_of_ble_eq_true rfl) dX8_withdraw_17 ?_
    refine al_28 hE (by decide) (by omega) (by omega) dX8_withdraw_20 ?_
    refine z_ldc2 (a := 3) hE zl_X8_33 (by decide) dX8_withdraw_21 ?_
    refine z_lcmp hE ⟨by omega, by omega⟩ ⟨by omega, by omega⟩ dX8_withdraw_24 ?_
    refine z_ifl_ne (tgt := 31) hE dX8_withdraw_25 (by decide) (fun c2 => ?_) (fun c2 => ?_)
    · refine z_aload_n hE 0 rfl rfl dX8_withdraw_31 ?_
      refine z_callV hE (c_X8_notes l0 D0 cI0 cJ0 ad S (by omega)) (by decide) rfl rfl zm_X8_43 zi_yX8_notes zs_yX8_notes zn_RX8 zc_yX8_notes (hy_X8_notes) (Nat.le_of_ble_eq_true rfl) (Nat.le_of_ble_eq_true rfl) rfl rfl rfl (Nat.le_of_ble_eq_true rfl) dX8_withdraw_32 ?_
      try simp only [us_eq, us_us, us_ne h67, us_ne h76, us_ne h68, us_ne h86, us_ne h78, us_ne h87, us_in h67, us_in h76]
      refine z_aload_n hE 0 rfl rfl dX8_withdraw_35 ?_
      refine z_iload_n hE 1 rfl rfl dX8_withdraw_36 ?_
      refine z_ldc2 (a := 3) hE zl_X8_33 (by decide) dX8_withdraw_37 ?_
      refine z_callV hE (c_X8_begins l0 D0 cI0 cJ0 ad (us (us S 8 (mp ((S 8)) ((S 7)) ((S 6) 0))) 6 (up ((S 6)) 0 (min ((S 6) 0 + 1) 4))) o 3 0 (by first | omega | (simp only [us_eq, us_ne h67, us_ne h76, us_ne h68, us_ne h86, us_ne h78, us_ne h87]; omega)) (by first | omega | (simp only [us_eq, us_ne h67, us_ne h76, us_ne h68, us_ne h86, us_ne h78, us_ne h87]; omega))) (by decide) rfl rfl zm_X8_117 zi_yX8_begins zs_yX8_begins zn_RX8 zc_yX8_begins (hy_X8_begins) (Nat.le_of_ble_eq_true rfl) (Nat.le_of_ble_eq_true rfl) rfl rfl rfl (Nat.le_of_ble_eq_true rfl) dX8_withdraw_40 ?_
      try simp only [us_eq, us_us, us_ne h67, us_ne h76, us_ne h68, us_ne h86, us_ne h78, us_ne h87, us_in h67, us_in h76]
      refine z_aload_n hE 0 rfl rfl dX8_withdraw_43 ?_
      refine gf_8_0 hE (by decide) zf_X8_7 dX8_withdraw_44 ?_
      refine z_iload_n hE 1 rfl rfl dX8_withdraw_47 ?_
      refine z_iconst hE dX8_withdraw_48 ?_
      refine z_callS hE (c_X8_o l0 D0 cI0 cJ0 ad (us (us (us S 8 (mp ((S 8)) ((S 7)) ((S 6) 0))) 6 (up ((S 6)) 0 (min ((S 6) 0 + 1) 4))) 7 (sp_begin ((S 7)) o 3 0)) o 2 (57 + 22 * o) (by first | omega | (simp only [us_eq, us_ne h67, us_ne h76, us_ne h68, us_ne h86, us_ne h78, us_ne h87]; omega))) zm_X8_54 zt_yX8_o zn_RX8 zc_yX8_o (hy_X8_o) (Nat.le_of_ble_eq_true rfl) (Nat.le_of_ble_eq_true rfl) rfl rfl rfl (Nat.le_of_ble_eq_true rfl) dX8_withdraw_49 ?_
      try simp only [us_eq, us_us, us_ne h67, us_ne h76, us_ne h68, us_ne h86, us_ne h78, us_ne h87, us_in h67, us_in h76]
      refine al_28 hE (by decide) (by omega) (by omega) dX8_withdraw_52 ?_
      try simp only [us_eq, us_us, us_ne h67, us_ne h76, us_ne h68, us_ne h86, us_ne h78, us_ne h87, us_in h67, us_in h76]
      rw [begin_ne (by omega) (by omega) (by omega) (by omega)]
      refine z_l2i hE dX8_withdraw_53 ?_
      exact z_iret hE hR dX8_withdraw_54 (congrArg (fun x => some (Value.int (i32 x))) (by unfold rv_withdraw; first | ((rw [if_neg (by omega)]) <;> first | rfl | omega) | ((rw [if_pos (by omega), if_neg (by omega)]) <;> first | rfl | omega) | ((rw [if_pos (by omega), if_pos (by omega)]) <;> first | rfl | omega))) (by first | ((rw [if_pos (by omega)]) <;> (rfl)) | (rw [if_neg (by omega)]))
    · refine z_ldc (a := -2000000002) hE zk_X8_92 (by decide) dX8_withdraw_28 ?_
      exact z_iret hE hR dX8_withdraw_30 (congrArg (fun x => some (Value.int (i32 x))) (by unfold rv_withdraw; first | ((rw [if_neg (by omega)]) <;> first | rfl | omega) | ((rw [if_pos (by omega), if_neg (by omega)]) <;> first | rfl | omega) | ((rw [if_pos (by omega), if_pos (by omega)]) <;> first | rfl | omega))) (by first | ((rw [if_pos (by omega)]) <;> (rfl)) | (rw [if_neg (by omega)]))
  · refine z_ldc (a := -2000000001) hE zk_X8_68 (by decide) dX8_withdraw_8 ?_
    exact z_iret hE hR dX8_withdraw_10 (congrArg (fun x => some (Value.int (i32 x))) (by unfold rv_withdraw; first | ((rw [if_neg (by omega)]) <;> first | rfl | omega) | ((rw [if_pos (by omega), if_neg (by omega)]) <;> first | rfl | omega) | ((rw [if_pos (by omega), if_pos (by omega)]) <;> first | rfl | omega))) (by first | ((rw [if_pos (by omega)]) <;> (rfl)) | (rw [if_neg (by omega)]))
theorem dX8_propose_0 : decode cX8_propose 0 = .ok (.iload_n 1, 1) := by decide +kernel
theorem dX8_propose_1 : decode cX8_propose 1 = .ok (.iload_n 2, 1) := by decide +kernel
theorem dX8_propose_2 : decode cX8_propose 2 = .ok (.invokestatic 149, 3) := by decide +kernel
theorem dX8_propose_5 : decode cX8_propose 5 = .ok (.ifCond .ne 6, 3) := by decide +kernel
theorem dX8_propose_8 : decode cX8_propose 8 = .ok (.ldc 68, 2) := by decide +kernel
theorem dX8_propose_10 : decode cX8_propose 10 = .ok (.ireturn, 1) := by decide +kernel
theorem dX8_propose_11 : decode cX8_propose 11 = .ok (.aload_n 0, 1) := by decide +kernel
theorem dX8_propose_12 : decode cX8_propose 12 = .ok (.getfield 7, 3) := by decide +kernel
theorem dX8_propose_15 : decode cX8_propose 15 = .ok (.bipush 15, 2) := by decide +kernel
theorem dX8_propose_17 : decode cX8_propose 17 = .ok (.laload, 1) := by decide +kernel
theorem dX8_propose_18 : decode cX8_propose 18 = .ok (.ldc2_w 95, 3) := by decide +kernel
theorem dX8_propose_21 : decode cX8_propose 21 = .ok (.lcmp, 1) := by decide +kernel
theorem dX8_propose_22 : decode cX8_propose 22 = .ok (.ifCond .ne 6, 3) := by decide +kernel
theorem dX8_propose_25 : decode cX8_propose 25 = .ok (.ldc 63, 2) := by decide +kernel
theorem dX8_propose_27 : decode cX8_propose 27 = .ok (.ireturn, 1) := by decide +kernel
theorem dX8_propose_28 : decode cX8_propose 28 = .ok (.aload_n 0, 1) := by decide +kernel
theorem dX8_propose_29 : decode cX8_propose 29 = .ok (.invokevirtual 43, 3) := by decide +kernel
theorem dX8_propose_32 : decode cX8_propose 32 = .ok (.aload_n 0, 1) := by decide +kernel
theorem dX8_propose_33 : decode cX8_propose 33 = .ok (.getfield 7, 3) := by decide +kernel
theorem dX8_propose_36 : decode cX8_propose 36 = .ok (.bipush 15, 2) := by decide +kernel
theorem dX8_propose_38 : decode cX8_propose 38 = .ok (.laload, 1) := by decide +kernel
theorem dX8_propose_39 : decode cX8_propose 39 = .ok (.l2i, 1) := by decide +kernel
theorem dX8_propose_40 : decode cX8_propose 40 = .ok (.istore_n 3, 1) := by decide +kernel
theorem dX8_propose_41 : decode cX8_propose 41 = .ok (.iconst 0, 1) := by decide +kernel
theorem dX8_propose_42 : decode cX8_propose 42 = .ok (.istore 4, 2) := by decide +kernel
theorem dX8_propose_44 : decode cX8_propose 44 = .ok (.iload 4, 2) := by decide +kernel
theorem dX8_propose_46 : decode cX8_propose 46 = .ok (.bipush 15, 2) := by decide +kernel
theorem dX8_propose_48 : decode cX8_propose 48 = .ok (.if_icmp .ge 21, 3) := by decide +kernel
theorem dX8_propose_51 : decode cX8_propose 51 = .ok (.aload_n 0, 1) := by decide +kernel
theorem dX8_propose_52 : decode cX8_propose 52 = .ok (.getfield 7, 3) := by decide +kernel
theorem dX8_propose_55 : decode cX8_propose 55 = .ok (.iload_n 3, 1) := by decide +kernel
theorem dX8_propose_56 : decode cX8_propose 56 = .ok (.iload 4, 2) := by decide +kernel
theorem dX8_propose_58 : decode cX8_propose 58 = .ok (.invokestatic 152, 3) := by decide +kernel
theorem dX8_propose_61 : decode cX8_propose 61 = .ok (.lconst 0, 1) := by decide +kernel
theorem dX8_propose_62 : decode cX8_propose 62 = .ok (.lastore, 1) := by decide +kernel
theorem dX8_propose_63 : decode cX8_propose 63 = .ok (.iinc 4 1, 3) := by decide +kernel
theorem dX8_propose_66 : decode cX8_propose 66 = .ok (.goto (-22), 3) := by decide +kernel
theorem dX8_propose_69 : decode cX8_propose 69 = .ok (.aload_n 0, 1) := by decide +kernel
theorem dX8_propose_70 : decode cX8_propose 70 = .ok (.getfield 7, 3) := by decide +kernel
theorem dX8_propose_73 : decode cX8_propose 73 = .ok (.iload_n 3, 1) := by decide +kernel
theorem dX8_propose_74 : decode cX8_propose 74 = .ok (.iconst 0, 1) := by decide +kernel
theorem dX8_propose_75 : decode cX8_propose 75 = .ok (.invokestatic 152, 3) := by decide +kernel
theorem dX8_propose_78 : decode cX8_propose 78 = .ok (.iload_n 1, 1) := by decide +kernel
theorem dX8_propose_79 : decode cX8_propose 79 = .ok (.i2l, 1) := by decide +kernel
theorem dX8_propose_80 : decode cX8_propose 80 = .ok (.lastore, 1) := by decide +kernel
theorem dX8_propose_81 : decode cX8_propose 81 = .ok (.aload_n 0, 1) := by decide +kernel
theorem dX8_propose_82 : decode cX8_propose 82 = .ok (.getfield 7, 3) := by decide +kernel
theorem dX8_propose_85 : decode cX8_propose 85 = .ok (.iload_n 3, 1) := by decide +kernel
theorem dX8_propose_86 : decode cX8_propose 86 = .ok (.iconst 1, 1) := by decide +kernel
theorem dX8_propose_87 : decode cX8_propose 87 = .ok (.invokestatic 152, 3) := by decide +kernel
theorem dX8_propose_90 : decode cX8_propose 90 = .ok (.iload_n 2, 1) := by decide +kernel
theorem dX8_propose_91 : decode cX8_propose 91 = .ok (.i2l, 1) := by decide +kernel
theorem dX8_propose_92 : decode cX8_propose 92 = .ok (.lastore, 1) := by decide +kernel
theorem dX8_propose_93 : decode cX8_propose 93 = .ok (.aload_n 0, 1) := by decide +kernel
theorem dX8_propose_94 : decode cX8_propose 94 = .ok (.getfield 7, 3) := by decide +kernel
theorem dX8_propose_97 : decode cX8_propose 97 = .ok (.bipush 15, 2) := by decide +kernel
theorem dX8_propose_99 : decode cX8_propose 99 = .ok (.dup2, 1) := by decide +kernel
theorem dX8_propose_100 : decode cX8_propose 100 = .ok (.laload, 1) := by decide +kernel
theorem dX8_propose_101 : decode cX8_propose 101 = .ok (.lconst 1, 1) := by decide +kernel
theorem dX8_propose_102 : decode cX8_propose 102 = .ok (.ladd, 1) := by decide +kernel
theorem dX8_propose_103 : decode cX8_propose 103 = .ok (.lastore, 1) := by decide +kernel
theorem dX8_propose_104 : decode cX8_propose 104 = .ok (.iload_n 3, 1) := by decide +kernel
theorem dX8_propose_105 : decode cX8_propose 105 = .ok (.ireturn, 1) := by decide +kernel
theorem hy_X8_propose : yX8_propose.cls ≠ "java/lang/invoke/MethodHandle" ∧ yX8_propose.cls ≠ "java/lang/invoke/VarHandle" ∧ (parseMethodDescriptor yX8_propose.desc).map (fun d => d.parameters.length) = some 2 := ⟨by decide +kernel, by decide +kernel, by decide +kernel⟩
set_option maxHeartbeats 4000000 in
set_option maxRecDepth 100000 in
theorem lp_X8_propose {E : zE} {l0 : Launch} {D0 : va_G} {cI0 cJ0 : ClassId} {ad : Nat → Nat → Nat} (hE : zG E l0 D0 cI0 cJ0 ad cX8_propose 5 RX8 2 46) (S : zM) (k : Int) (v : Int) (h6 : 0 ≤ S 6 0 ∧ S 6 0 ≤ 4) (hI : Inv (S 7)) (bb_k : -2147483648 ≤ k ∧ k < 2147483648) (bb_v : -2147483648 ≤ v ∧ v < 2147483648) (hR : zR E (some .int) (some (.int (i32 (rv_propose (S 7) k v)))) (fun X => X = if ok_propose (S 7) k v then us (us (us S 8 (mp (S 8) (S 7) (S 6 0))) 6 (up (S 6) 0 (min (S 6 0 + 1) 4))) 7 (sp_prop (S 7) k v) else S)) : ∀ (fuel : Nat) (i : Int) (hk : ok_propose (S 7) k v) (h9 : 0 ≤ i ∧ i ≤ 15), (15 - i).toNat < fuel → Z E (us (us (us S 8 (mp (S 8) (S 7) (S 6 0))) 6 (up (S 6) 0 (min (S 6 0 + 1) 4))) 7 (clr (S 7) (495 + 15 * S 7 15) i)) 44 [(4, .int (i32 i)), (3, .int (i32 (S 7 15))), (0, .ref (ad 6 27)), (1, .int (i32 k)), (2, .int (i32 v))] [] := by
  intro fuel
  induction fuel with
  | zero => intro _ _ _ hz; omega
  | succ fuel ih =>
    intro i hk h9 hz
    have h67 : (6 : Nat) ≠ 7 := by decide
    have h76 : (7 : Nat) ≠ 6 := by decide
    have h68 : (6 : Nat) ≠ 8 := by decide
    have h86 : (8 : Nat) ≠ 6 := by decide
    have h78 : (7 : Nat) ≠ 8 := by decide
    have h87 : (8 : Nat) ≠ 7 := by decide
    have hI0 := hI.1
    have hA := inA hI0
    unfold InvA at hA
    refine z_iload hE 0 rfl dX8_propose_44 ?_
    refine z_bipush (a := 15) hE (by decide) dX8_propose_46 ?_
    refine z_icmp_ge (tgt := 69) hE dX8_propose_48 (by decide) ⟨by omega, by omega⟩ ⟨by omega, by omega⟩ (fun c1 => ?_) (fun c1 => ?_)
    · rw [show i = 15 by omega]
      refine z_aload_n hE 2 rfl rfl dX8_propose_69 ?_
      refine gf_8_0 hE (by decide) zf_X8_7 dX8_propose_70 ?_
      refine z_iload_n hE 1 rfl rfl dX8_propose_73 ?_
      refine z_iconst hE dX8_propose_74 ?_
      refine z_callS hE (c_X8_q l0 D0 cI0 cJ0 ad (us (us (us S 8 (mp (S 8) (S 7) (S 6 0))) 6 (up (S 6) 0 (min (S 6 0 + 1) 4))) 7 (clr (S 7) (495 + 15 * S 7 15) 15)) (S 7 15) 0 (495 + 15 * (S 7 15)) (by first | omega | (simp only [us_eq, us_ne h67, us_ne h76, us_ne h68, us_ne h86, us_ne h78, us_ne h87]; omega))) zm_X8_152 zt_yX8_q zn_RX8 zc_yX8_q (hy_X8_q) (Nat.le_of_ble_eq_true rfl) (Nat.le_of_ble_eq_true rfl) rfl rfl rfl (Nat.le_of_ble_eq_true rfl) dX8_propose_75 ?_
      try simp only [us_eq, us_us, us_ne h67, us_ne h76, us_ne h68, us_ne h86, us_ne h78, us_ne h87, us_in h67, us_in h76]
      refine z_iload_n hE 3 rfl rfl dX8_propose_78 ?_
      refine z_i2l hE ⟨by omega, by omega⟩ dX8_propose_79 ?_
      refine as_28 hE (by decide) (by omega) (by omega) dX8_propose_80 ?_
      try simp only [us_eq, us_us, us_ne h67, us_ne h76, us_ne h68, us_ne h86, us_ne h78, us_ne h87, us_in h67, us_in h76]
      refine z_aload_n hE 2 rfl rfl dX8_propose_81 ?_
      refine gf_8_0 hE (by decide) zf_X8_7 dX8_propose_82 ?_
      refine z_iload_n hE 1 rfl rfl dX8_propose_85 ?_
      refine z_iconst hE dX8_propose_86 ?_
      refine z_callS hE (c_X8_q l0 D0 cI0 cJ0 ad (us (us (us S 8 (mp (S 8) (S 7) (S 6 0))) 6 (up (S 6) 0 (min (S 6 0 + 1) 4))) 7 (up (clr (S 7) (495 + 15 * S 7 15) 15) (((495 + 15 * (S 7 15)))) k)) (S 7 15) 1 (496 + 15 * (S 7 15)) (by first | omega | (simp only [us_eq, us_ne h67, us_ne h76, us_ne h68, us_ne h86, us_ne h78, us_ne h87]; omega))) zm_X8_152 zt_yX8_q zn_RX8 zc_yX8_q (hy_X8_q) (Nat.le_of_ble_eq_true rfl) (Nat.le_of_ble_eq_true rfl) rfl rfl rfl (Nat.le_of_ble_eq_true rfl) dX8_propose_87 ?_
      try simp only [us_eq, us_us, us_ne h67, us_ne h76, us_ne h68, us_ne h86, us_ne h78, us_ne h87, us_in h67, us_in h76]
      refine z_iload_n hE 4 rfl rfl dX8_propose_90 ?_
      refine z_i2l hE ⟨by omega, by omega⟩ dX8_propose_91 ?_
      refine as_28 hE (by decide) (by omega) (by omega) dX8_propose_92 ?_
      try simp only [us_eq, us_us, us_ne h67, us_ne h76, us_ne h68, us_ne h86, us_ne h78, us_ne h87, us_in h67, us_in h76]
      refine z_aload_n hE 2 rfl rfl dX8_propose_93 ?_
      refine gf_8_0 hE (by decide) zf_X8_7 dX8_propose_94 ?_
      refine z_bipush (a := 15) hE (by decide) dX8_propose_97 ?_
      refine z_dup2 hE rfl rfl dX8_propose_99 ?_
      refine al_28 hE (by decide) (by omega) (by omega) dX8_propose_100 ?_
      try simp only [us_eq, us_us, us_ne h67, us_ne h76, us_ne h68, us_ne h86, us_ne h78, us_ne h87, us_in h67, us_in h76]
      rw [up_ne (by omega), up_ne (by omega), clr_n (by omega)]
      refine z_lconst (a := 1) hE rfl dX8_propose_101 ?_
      refine z_ladd hE dX8_propose_102 ?_
      refine as_28 hE (by decide) (by omega) (by omega) dX8_propose_103 ?_
      try simp only [us_eq, us_us, us_ne h67, us_ne h76, us_ne h68, us_ne h86, us_ne h78, us_ne h87, us_in h67, us_in h76]
      refine z_mem7 hE (g := sp_prop (S 7) k v) (fun q hq hq2 => prop_7 hI0 (by omega)) ?_
      refine z_iload_n hE 1 rfl rfl dX8_propose_104 ?_
      exact z_iret hE hR dX8_propose_105 (congrArg (fun x => some (Value.int (i32 x))) (by unfold rv_propose; first | ((rw [if_neg (by omega)]) <;> first | rfl | omega) | ((rw [if_pos (by omega), if_neg (by omega)]) <;> first | rfl | omega) | ((rw [if_pos (by omega), if_pos (by omega)]) <;> first | rfl | omega))) (by first | ((rw [if_pos (by omega)]) <;> (rfl)) | (rw [if_neg (by omega)]))
    · refine z_aload_n hE 2 rfl rfl dX8_propose_51 ?_
      refine gf_8_0 hE (by decide) zf_X8_7 dX8_propose_52 ?_
      refine z_iload_n hE 1 rfl rfl dX8_propose_55 ?_
      refine z_iload hE 0 rfl dX8_propose_56 ?_
      refine z_callS hE (c_X8_q l0 D0 cI0 cJ0 ad (us (us (us S 8 (mp (S 8) (S 7) (S 6 0))) 6 (up (S 6) 0 (min (S 6 0 + 1) 4))) 7 (clr (S 7) (495 + 15 * S 7 15) i)) (S 7 15) i (495 + 15 * (S 7 15) + i) (by first | omega | (simp only [us_eq, us_ne h67, us_ne h76, us_ne h68, us_ne h86, us_ne h78, us_ne h87]; omega))) zm_X8_152 zt_yX8_q zn_RX8 zc_yX8_q (hy_X8_q) (Nat.le_of_ble_eq_true rfl) (Nat.le_of_ble_eq_true rfl) rfl rfl rfl (Nat.le_of_ble_eq_true rfl) dX8_propose_58 ?_
      try simp only [us_eq, us_us, us_ne h67, us_ne h76, us_ne h68, us_ne h86, us_ne h78, us_ne h87, us_in h67, us_in h76]
      refine z_lconst (a := 0) hE rfl dX8_propose_61 ?_
      refine as_28 hE (by decide) (by omega) (by omega) dX8_propose_62 ?_
      try simp only [us_eq, us_us, us_ne h67, us_ne h76, us_ne h68, us_ne h86, us_ne h78, us_ne h87, us_in h67, us_in h76]
      refine z_iinc hE 0 rfl (by decide) rfl dX8_propose_63 ?_
      refine z_goto (tgt := 44) hE (d := dX8_propose_66) (ht := by decide) ?_
      refine z_L (L' := [(4, .int (i32 (i + 1))), (3, .int (i32 (S 7 15))), (0, .ref (ad 6 27)), (1, .int (i32 k)), (2, .int (i32 v))]) [0, 1, 2, 3, 4] (by rfl) ?_
      rw [clr_s h9.1]
      exact ih (i + 1) hk ⟨by omega, by omega⟩ (by omega)
set_option maxHeartbeats 4000000 in
set_option maxRecDepth 100000 in
theorem c_X8_propose (l0 : Launch) (D0 : va_G) (cI0 cJ0 : ClassId) (ad : Nat → Nat → Nat) (S : zM) (k : Int) (v : Int) (h6 : 0 ≤ S 6 0 ∧ S 6 0 ≤ 4) (hI : Inv (S 7)) (bb_k : -2147483648 ≤ k ∧ k < 2147483648) (bb_v : -2147483648 ≤ v ∧ v < 2147483648) : Ct l0 D0 cI0 cJ0 ad yX8_propose cX8_propose 5 (some .int) 2 46 [.ref (ad 6 27), .int (i32 k), .int (i32 v)] S (some (.int (i32 (rv_propose (S 7) k v)))) (fun X => X = if ok_propose (S 7) k v then us (us (us S 8 (mp (S 8) (S 7) (S 6 0))) 6 (up (S 6) 0 (min (S 6 0 + 1) 4))) 7 (sp_prop (S 7) k v) else S) := by
  refine Ct.of (by decide) (Nat.le_of_ble_eq_true rfl) (fun E hE hR => ?_)
  have hE : zG E l0 D0 cI0 cJ0 ad cX8_propose 5 RX8 2 46 := hE
  show Z E S 0 [(0, .ref (ad 6 27)), (1, .int (i32 k)), (2, .int (i32 v))] []
  have h67 : (6 : Nat) ≠ 7 := by decide
  have h76 : (7 : Nat) ≠ 6 := by decide
  have h68 : (6 : Nat) ≠ 8 := by decide
  have h86 : (8 : Nat) ≠ 6 := by decide
  have h78 : (7 : Nat) ≠ 8 := by decide
  have h87 : (8 : Nat) ≠ 7 := by decide
  have hI0 := hI.1
  have hA := inA hI0
  unfold InvA at hA
  refine z_iload_n hE 1 rfl rfl dX8_propose_0 ?_
  refine z_iload_n hE 2 rfl rfl dX8_propose_1 ?_
  refine z_callS hE (c_X8_isMotionOf l0 D0 cI0 cJ0 ad S k v (by omega) (by omega)) zm_X8_149 zt_yX8_isMotionOf zn_RX8 zc_yX8_isMotionOf (hy_X8_isMotionOf) (Nat.le_of_ble_eq_true rfl) (Nat.le_of_ble_eq_true rfl) rfl rfl rfl (Nat.le_of_ble_eq_true rfl) dX8_propose_2 ?_
  refine z_ifb_ne (tgt := 11) hE dX8_propose_5 (by decide) (fun c1 => ?_) (fun c1 => ?_)
  · refine z_aload_n hE 0 rfl rfl dX8_propose_11 ?_
    refine gf_8_0 hE (by decide) zf_X8_7 dX8_propose_12 ?_
    refine z_bipush (a := 15) hE (by decide) dX8_propose_15 ?_
    refine al_28 hE (by decide) (by omega) (by omega) dX8_propose_17 ?_
    refine z_ldc2 (a := 10) hE zl_X8_95 (by decide) dX8_propose_18 ?_
    refine z_lcmp hE ⟨by omega, by omega⟩ ⟨by omega, by omega⟩ dX8_propose_21 ?_
    refine z_ifl_ne (tgt := 28) hE dX8_propose_22 (by decide) (fun c2 => ?_) (fun c2 => ?_)
    · refine z_aload_n hE 0 rfl rfl dX8_propose_28 ?_
      refine z_callV hE (c_X8_notes l0 D0 cI0 cJ0 ad S (by omega)) (by decide) rfl rfl zm_X8_43 zi_yX8_notes zs_yX8_notes zn_RX8 zc_yX8_notes (hy_X8_notes) (Nat.le_of_ble_eq_true rfl) (Nat.le_of_ble_eq_true rfl) rfl rfl rfl (Nat.le_of_ble_eq_true rfl) dX8_propose_29 ?_
      try simp only [us_eq, us_us, us_ne h67, us_ne h76, us_ne h68, us_ne h86, us_ne h78, us_ne h87, us_in h67, us_in h76]
      refine z_aload_n hE 0 rfl rfl dX8_propose_32 ?_
      refine gf_8_0 hE (by decide) zf_X8_7 dX8_propose_33 ?_
      refine z_bipush (a := 15) hE (by decide) dX8_propose_36 ?_
      refine al_28 hE (by decide) (by omega) (by omega) dX8_propose_38 ?_
      try simp only [us_eq, us_us, us_ne h67, us_ne h76, us_ne h68, us_ne h86, us_ne h78, us_ne h87, us_in h67, us_in h76]
      refine z_l2i hE dX8_propose_39 ?_
      refine z_istore_n hE rfl (by decide) rfl dX8_propose_40 ?_
      refine z_iconst hE dX8_propose_41 ?_
      refine z_istore hE (by decide) rfl dX8_propose_42 ?_
      refine z_L (L' := [(4, .int (i32 0)), (3, .int (i32 (S 7 15))), (0, .ref (ad 6 27)), (1, .int (i32 k)), (2, .int (i32 v))]) [0, 1, 2, 3, 4] (by rfl) ?_
      rw [us_add7 (S := S) (g := clr (S 7) (495 + 15 * S 7 15) 0) (clr_0 _ _)]
      exact lp_X8_propose hE S k v h6 hI bb_k bb_v hR 16 0 (by omega) ⟨by omega, by omega⟩ (by omega)
    · refine z_ldc (a := -2000000003) hE zk_X8_63 (by decide) dX8_propose_25 ?_
      exact z_iret hE hR dX8_propose_27 (congrArg (fun x => some (Value.int (i32 x))) (by unfold rv_propose; first | ((rw [if_neg (by omega)]) <;> first | rfl | omega) | ((rw [if_pos (by omega), if_neg (by omega)]) <;> first | rfl | omega) | ((rw [if_pos (by omega), if_pos (by omega)]) <;> first | rfl | omega))) (by first | ((rw [if_pos (by omega)]) <;> (rfl)) | (rw [if_neg (by omega)]))
  · refine z_ldc (a := -2000000001) hE zk_X8_68 (by decide) dX8_propose_8 ?_
    exact z_iret hE hR dX8_propose_10 (congrArg (fun x => some (Value.int (i32 x))) (by unfold rv_propose; first | ((rw [if_neg (by omega)]) <;> first | rfl | omega) | ((rw [if_pos (by omega), if_neg (by omega)]) <;> first | rfl | omega) | ((rw [if_pos (by omega), if_pos (by omega)]) <;> first | rfl | omega))) (by first | ((rw [if_pos (by omega)]) <;> (rfl)) | (rw [if_neg (by omega)]))
theorem dX8_vote_0 : decode cX8_vote 0 = .ok (.aload_n 0, 1) := by decide +kernel
theorem dX8_vote_1 : decode cX8_vote 1 = .ok (.iload_n 1, 1) := by decide +kernel
theorem dX8_vote_2 : decode cX8_vote 2 = .ok (.invokevirtual 155, 3) := by decide +kernel
theorem dX8_vote_5 : decode cX8_vote 5 = .ok (.ifCond .eq 21, 3) := by decide +kernel
theorem dX8_vote_8 : decode cX8_vote 8 = .ok (.aload_n 0, 1) := by decide +kernel
theorem dX8_vote_9 : decode cX8_vote 9 = .ok (.iload_n 2, 1) := by decide +kernel
theorem dX8_vote_10 : decode cX8_vote 10 = .ok (.invokevirtual 64, 3) := by decide +kernel
theorem dX8_vote_13 : decode cX8_vote 13 = .ok (.ifCond .eq 13, 3) := by decide +kernel
theorem dX8_vote_16 : decode cX8_vote 16 = .ok (.iload_n 3, 1) := by decide +kernel
theorem dX8_vote_17 : decode cX8_vote 17 = .ok (.i2l, 1) := by decide +kernel
theorem dX8_vote_18 : decode cX8_vote 18 = .ok (.lconst 0, 1) := by decide +kernel
theorem dX8_vote_19 : decode cX8_vote 19 = .ok (.lconst 1, 1) := by decide +kernel
theorem dX8_vote_20 : decode cX8_vote 20 = .ok (.invokestatic 35, 3) := by decide +kernel
theorem dX8_vote_23 : decode cX8_vote 23 = .ok (.ifCond .ne 6, 3) := by decide +kernel
theorem dX8_vote_26 : decode cX8_vote 26 = .ok (.ldc 68, 2) := by decide +kernel
theorem dX8_vote_28 : decode cX8_vote 28 = .ok (.ireturn, 1) := by decide +kernel
theorem dX8_vote_29 : decode cX8_vote 29 = .ok (.aload_n 0, 1) := by decide +kernel
theorem dX8_vote_30 : decode cX8_vote 30 = .ok (.getfield 7, 3) := by decide +kernel
theorem dX8_vote_33 : decode cX8_vote 33 = .ok (.iload_n 1, 1) := by decide +kernel
theorem dX8_vote_34 : decode cX8_vote 34 = .ok (.iconst 2, 1) := by decide +kernel
theorem dX8_vote_35 : decode cX8_vote 35 = .ok (.invokestatic 152, 3) := by decide +kernel
theorem dX8_vote_38 : decode cX8_vote 38 = .ok (.laload, 1) := by decide +kernel
theorem dX8_vote_39 : decode cX8_vote 39 = .ok (.lconst 0, 1) := by decide +kernel
theorem dX8_vote_40 : decode cX8_vote 40 = .ok (.lcmp, 1) := by decide +kernel
theorem dX8_vote_41 : decode cX8_vote 41 = .ok (.ifCond .eq 6, 3) := by decide +kernel
theorem dX8_vote_44 : decode cX8_vote 44 = .ok (.ldc 92, 2) := by decide +kernel
theorem dX8_vote_46 : decode cX8_vote 46 = .ok (.ireturn, 1) := by decide +kernel
theorem dX8_vote_47 : decode cX8_vote 47 = .ok (.aload_n 0, 1) := by decide +kernel
theorem dX8_vote_48 : decode cX8_vote 48 = .ok (.invokevirtual 43, 3) := by decide +kernel
theorem dX8_vote_51 : decode cX8_vote 51 = .ok (.aload_n 0, 1) := by decide +kernel
theorem dX8_vote_52 : decode cX8_vote 52 = .ok (.getfield 7, 3) := by decide +kernel
theorem dX8_vote_55 : decode cX8_vote 55 = .ok (.iload_n 1, 1) := by decide +kernel
theorem dX8_vote_56 : decode cX8_vote 56 = .ok (.iconst 3, 1) := by decide +kernel
theorem dX8_vote_57 : decode cX8_vote 57 = .ok (.iload_n 2, 1) := by decide +kernel
theorem dX8_vote_58 : decode cX8_vote 58 = .ok (.iadd, 1) := by decide +kernel
theorem dX8_vote_59 : decode cX8_vote 59 = .ok (.invokestatic 152, 3) := by decide +kernel
theorem dX8_vote_62 : decode cX8_vote 62 = .ok (.iload_n 3, 1) := by decide +kernel
theorem dX8_vote_63 : decode cX8_vote 63 = .ok (.iconst 1, 1) := by decide +kernel
theorem dX8_vote_64 : decode cX8_vote 64 = .ok (.if_icmp .ne 7, 3) := by decide +kernel
theorem dX8_vote_67 : decode cX8_vote 67 = .ok (.lconst 1, 1) := by decide +kernel
theorem dX8_vote_68 : decode cX8_vote 68 = .ok (.goto 6, 3) := by decide +kernel
theorem dX8_vote_71 : decode cX8_vote 71 = .ok (.ldc2_w 93, 3) := by decide +kernel
theorem dX8_vote_74 : decode cX8_vote 74 = .ok (.lastore, 1) := by decide +kernel
theorem dX8_vote_75 : decode cX8_vote 75 = .ok (.aload_n 0, 1) := by decide +kernel
theorem dX8_vote_76 : decode cX8_vote 76 = .ok (.iload_n 1, 1) := by decide +kernel
theorem dX8_vote_77 : decode cX8_vote 77 = .ok (.invokevirtual 158, 3) := by decide +kernel
theorem dX8_vote_80 : decode cX8_vote 80 = .ok (.ireturn, 1) := by decide +kernel
theorem hy_X8_vote : yX8_vote.cls ≠ "java/lang/invoke/MethodHandle" ∧ yX8_vote.cls ≠ "java/lang/invoke/VarHandle" ∧ (parseMethodDescriptor yX8_vote.desc).map (fun d => d.parameters.length) = some 3 := ⟨by decide +kernel, by decide +kernel, by decide +kernel⟩
set_option maxHeartbeats 4000000 in
set_option maxRecDepth 100000 in
theorem c_X8_vote (l0 : Launch) (D0 : va_G) (cI0 cJ0 : ClassId) (ad : Nat → Nat → Nat) (S : zM) (q : Int) (m : Int) (y : Int) (h6 : 0 ≤ S 6 0 ∧ S 6 0 ≤ 4) (hI : Inv (S 7)) (bb_q : -2147483648 ≤ q ∧ q < 2147483648) (bb_m : -2147483648 ≤ m ∧ m < 2147483648) (bb_y : -2147483648 ≤ y ∧ y < 2147483648) : Ct l0 D0 cI0 cJ0 ad yX8_vote cX8_vote 4 (some .int) 2 46 [.ref (ad 6 27), .int (i32 q), .int (i32 m), .int (i32 y)] S (some (.int (i32 (rv_vote (S 7) q m y)))) (fun X => X = if ok_vote (S 7) q m y then us (us (us S 8 (mp (S 8) (S 7) (S 6 0))) 6 (up (S 6) 0 (min (S 6 0 + 1) 4))) 7 (nx_vote (S 7) q m y) else S) := by
  refine Ct.of (by decide) (Nat.le_of_ble_eq_true rfl) (fun E hE hR => ?_)
  have hE : zG E l0 D0 cI0 cJ0 ad cX8_vote 4 RX8 2 46 := hE
  show Z E S 0 [(0, .ref (ad 6 27)), (1, .int (i32 q)), (2, .int (i32 m)), (3, .int (i32 y))] []
  have h67 : (6 : Nat) ≠ 7 := by decide
  have h76 : (7 : Nat) ≠ 6 := by decide
  have h68 : (6 : Nat) ≠ 8 := by decide
  have h86 : (8 : Nat) ≠ 6 := by decide
  have h78 : (7 : Nat) ≠ 8 := by decide
  have h87 : (8 : Nat) ≠ 7 := by decide
  have hI0 := hI.1
  have hA := inA hI0
  unfold InvA at hA
  refine z_aload_n hE 0 rfl rfl dX8_vote_0 ?_
  refine z_iload_n hE 1 rfl rfl dX8_vote_1 ?_
  refine z_callV hE (c_X8_isMotion l0 D0 cI0 cJ0 ad S q (by omega) (by omega)) (by decide) rfl rfl zm_X8_155 zi_yX8_isMotion zs_yX8_isMotion zn_RX8 zc_yX8_isMotion (hy_X8_isMotion) (Nat.le_of_ble_eq_true rfl) (Nat.le_of_ble_eq_true rfl) rfl rfl rfl (Nat.le_of_ble_eq_true rfl) dX8_vote_2 ?_
  refine z_ifb_eq (tgt := 26) hE dX8_vote_5 (by decide) (fun c1 => ?_) (fun c1 => ?_)
  · refine z_ldc (a := -2000000001) hE zk_X8_68 (by decide) dX8_vote_26 ?_
    exact z_iret hE hR dX8_vote_28 (congrArg (fun x => some (Value.int (i32 x))) (by unfold rv_vote; first | ((rw [if_neg (by omega)]) <;> first | rfl | omega) | ((rw [if_pos (by omega), if_neg (by omega)]) <;> first | rfl | omega) | ((rw [if_pos (by omega), if_pos (by omega)]) <;> first | rfl | omega))) (by first | ((rw [if_pos (by omega)]) <;> (rfl)) | (rw [if_neg (by omega)]))
  · refine z_aload_n hE 0 rfl rfl dX8_vote_8 ?_
    refine z_iload_n hE 2 rfl rfl dX8_vote_9 ?_
    refine z_callV hE (c_X8_isMember l0 D0 cI0 cJ0 ad S m (by omega) (by omega)) (by decide) rfl rfl zm_X8_64 zi_yX8_isMember zs_yX8_isMember zn_RX8 zc_yX8_isMember (hy_X8_isMember) (Nat.le_of_ble_eq_true rfl) (Nat.le_of_ble_eq_true rfl) rfl rfl rfl (Nat.le_of_ble_eq_true rfl) dX8_vote_10 ?_
    refine z_ifb_eq (tgt := 26) hE dX8_vote_13 (by decide) (fun c2 => ?_) (fun c2 => ?_)
    · refine z_ldc (a := -2000000001) hE zk_X8_68 (by decide) dX8_vote_26 ?_
      exact z_iret hE hR dX8_vote_28 (congrArg (fun x => some (Value.int (i32 x))) (by unfold rv_vote; first | ((rw [if_neg (by omega)]) <;> first | rfl | omega) | ((rw [if_pos (by omega), if_neg (by omega)]) <;> first | rfl | omega) | ((rw [if_pos (by omega), if_pos (by omega)]) <;> first | rfl | omega))) (by first | ((rw [if_pos (by omega)]) <;> (rfl)) | (rw [if_neg (by omega)]))
    · refine z_iload_n hE 3 rfl rfl dX8_vote_16 ?_
      refine z_i2l hE ⟨by omega, by omega⟩ dX8_vote_17 ?_
      refine z_lconst (a := 0) hE rfl dX8_vote_18 ?_
      refine z_lconst (a := 1) hE rfl dX8_vote_19 ?_
      refine z_callS hE (c_X8_in l0 D0 cI0 cJ0 ad S y 0 1 (⟨by omega, by omega⟩) (⟨by omega, by omega⟩) (⟨by omega, by omega⟩)) zm_X8_35 zt_yX8_in zn_RX8 zc_yX8_in (hy_X8_in) (Nat.le_of_ble_eq_true rfl) (Nat.le_of_ble_eq_true rfl) rfl rfl rfl (Nat.le_of_ble_eq_true rfl) dX8_vote_20 ?_
      refine z_ifb_ne (tgt := 29) hE dX8_vote_23 (by decide) (fun c3 => ?_) (fun c3 => ?_)
      · have hq9 := inQ hI0 q (by omega) (by omega)
        refine z_aload_n hE 0 rfl rfl dX8_vote_29 ?_
        refine gf_8_0 hE (by decide) zf_X8_7 dX8_vote_30 ?_
        refine z_iload_n hE 1 rfl rfl dX8_vote_33 ?_
        refine z_iconst hE dX8_vote_34 ?_
        refine z_callS hE (c_X8_q l0 D0 cI0 cJ0 ad S q 2 (497 + 15 * q) (by omega)) zm_X8_152 zt_yX8_q zn_RX8 zc_yX8_q (hy_X8_q) (Nat.le_of_ble_eq_true rfl) (Nat.le_of_ble_eq_true rfl) rfl rfl rfl (Nat.le_of_ble_eq_true rfl) dX8_vote_35 ?_
        refine al_28 hE (by decide) (by omega) (by omega) dX8_vote_38 ?_
        refine z_lconst (a := 0) hE rfl dX8_vote_39 ?_
        refine z_lcmp hE ⟨by omega, by omega⟩ ⟨by omega, by omega⟩ dX8_vote_40 ?_
        refine z_ifl_eq (tgt := 47) hE dX8_vote_41 (by decide) (fun c4 => ?_) (fun c4 => ?_)
        · refine z_aload_n hE 0 rfl rfl dX8_vote_47 ?_
          refine z_callV hE (c_X8_notes l0 D0 cI0 cJ0 ad S (by omega)) (by decide) rfl rfl zm_X8_43 zi_yX8_notes zs_yX8_notes zn_RX8 zc_yX8_notes (hy_X8_notes) (Nat.le_of_ble_eq_true rfl) (Nat.le_of_ble_eq_true rfl) rfl rfl rfl (Nat.le_of_ble_eq_true rfl) dX8_vote_48 ?_
          try simp only [us_eq, us_us, us_ne h67, us_ne h76, us_ne h68, us_ne h86, us_ne h78, us_ne h87, us_in h67, us_in h76]
          refine z_aload_n hE 0 rfl rfl dX8_vote_51 ?_
          refine gf_8_0 hE (by decide) zf_X8_7 dX8_vote_52 ?_
          refine z_iload_n hE 1 rfl rfl dX8_vote_55 ?_
          refine z_iconst hE dX8_vote_56 ?_
          refine z_iload_n hE 2 rfl rfl dX8_vote_57 ?_
          refine z_iadd hE dX8_vote_58 ?_
          refine z_callS hE (c_X8_q l0 D0 cI0 cJ0 ad (us (us S 8 (mp ((S 8)) ((S 7)) ((S 6) 0))) 6 (up ((S 6)) 0 (min ((S 6) 0 + 1) 4))) q (3 + m) (498 + 15 * q + m) (by first | omega | (simp only [us_eq, us_ne h67, us_ne h76, us_ne h68, us_ne h86, us_ne h78, us_ne h87]; omega))) zm_X8_152 zt_yX8_q zn_RX8 zc_yX8_q (hy_X8_q) (Nat.le_of_ble_eq_true rfl) (Nat.le_of_ble_eq_true rfl) rfl rfl rfl (Nat.le_of_ble_eq_true rfl) dX8_vote_59 ?_
          try simp only [us_eq, us_us, us_ne h67, us_ne h76, us_ne h68, us_ne h86, us_ne h78, us_ne h87, us_in h67, us_in h76]
          refine z_iload_n hE 3 rfl rfl dX8_vote_62 ?_
          refine z_iconst hE dX8_vote_63 ?_
          refine z_icmp_ne (tgt := 71) hE dX8_vote_64 (by decide) ⟨by omega, by omega⟩ ⟨by omega, by omega⟩ (fun c5 => ?_) (fun c5 => ?_)
          · refine z_ldc2 (a := 2) hE zl_X8_93 (by decide) dX8_vote_71 ?_
            refine as_28 hE (by decide) (by omega) (by omega) dX8_vote_74 ?_
            try simp only [us_eq, us_us, us_ne h67, us_ne h76, us_ne h68, us_ne h86, us_ne h78, us_ne h87, us_in h67, us_in h76]
            rw [show up (S 7) (((498 + 15 * q + m))) 2 = nx_vote (S 7) q m y from by unfold nx_vote; first | rw [if_pos (by omega)] | rw [if_neg (by omega)]]
            have hiv := inv_vote hI (q := q) (m := m) (y := y) ⟨by omega, by omega⟩
            refine z_aload_n hE 0 rfl rfl dX8_vote_75 ?_
            refine z_iload_n hE 1 rfl rfl dX8_vote_76 ?_
            refine z_callV hE (c_X8_voters l0 D0 cI0 cJ0 ad (us (us (us S 8 (mp ((S 8)) ((S 7)) ((S 6) 0))) 6 (up ((S 6)) 0 (min ((S 6) 0 + 1) 4))) 7 (nx_vote (S 7) q m y)) q (by first | omega | (simp only [us_eq, us_ne h67, us_ne h76, us_ne h68, us_ne h86, us_ne h78, us_ne h87]; omega)) (by rw [us_eq]; exact fun k a b => by have := inV hiv.1 q k (by omega) (by omega) a b; omega)) (by decide) rfl rfl zm_X8_158 zi_yX8_voters zs_yX8_voters zn_RX8 zc_yX8_voters (hy_X8_voters) (Nat.le_of_ble_eq_true rfl) (Nat.le_of_ble_eq_true rfl) rfl rfl rfl (Nat.le_of_ble_eq_true rfl) dX8_vote_77 ?_
            try simp only [us_eq, us_us, us_ne h67, us_ne h76, us_ne h68, us_ne h86, us_ne h78, us_ne h87, us_in h67, us_in h76]
            exact z_iret hE hR dX8_vote_80 (congrArg (fun x => some (Value.int (i32 x))) (by unfold rv_vote; first | ((rw [if_neg (by omega)]) <;> first | rfl | omega) | ((rw [if_pos (by omega), if_neg (by omega)]) <;> first | rfl | omega) | ((rw [if_pos (by omega), if_pos (by omega)]) <;> first | rfl | omega))) (by first | ((rw [if_pos (by omega)]) <;> (rfl)) | (rw [if_neg (by omega)]))
          · refine z_lconst (a := 1) hE rfl dX8_vote_67 ?_
            refine z_goto (tgt := 74) hE (d := dX8_vote_68) (ht := by decide) ?_
            refine as_28 hE (by decide) (by omega) (by omega) dX8_vote_74 ?_
            try simp only [us_eq, us_us, us_ne h67, us_ne h76, us_ne h68, us_ne h86, us_ne h78, us_ne h87, us_in h67, us_in h76]
            rw [show up (S 7) (((498 + 15 * q + m))) 1 = nx_vote (S 7) q m y from by unfold nx_vote; first | rw [if_pos (by omega)] | rw [if_neg (by omega)]]
            have hiv := inv_vote hI (q := q) (m := m) (y := y) ⟨by omega, by omega⟩
            refine z_aload_n hE 0 rfl rfl dX8_vote_75 ?_
            refine z_iload_n hE 1 rfl rfl dX8_vote_76 ?_
            refine z_callV hE (c_X8_voters l0 D0 cI0 cJ0 ad (us (us (us S 8 (mp ((S 8)) ((S 7)) ((S 6) 0))) 6 (up ((S 6)) 0 (min ((S 6) 0 + 1) 4))) 7 (nx_vote (S 7) q m y)) q (by first | omega | (simp only [us_eq, us_ne h67, us_ne h76, us_ne h68, us_ne h86, us_ne h78, us_ne h87]; omega)) (by rw [us_eq]; exact fun k a b => by have := inV hiv.1 q k (by omega) (by omega) a b; omega)) (by decide) rfl rfl zm_X8_158 zi_yX8_voters zs_yX8_voters zn_RX8 zc_yX8_voters (hy_X8_voters) (Nat.le_of_ble_eq_true rfl) (Nat.le_of_ble_eq_true rfl) rfl rfl rfl (Nat.le_of_ble_eq_true rfl) dX8_vote_77 ?_
            try simp only [us_eq, us_us, us_ne h67, us_ne h76, us_ne h68, us_ne h86, us_ne h78, us_ne h87, us_in h67, us_in h76]
            exact z_iret hE hR dX8_vote_80 (congrArg (fun x => some (Value.int (i32 x))) (by unfold rv_vote; first | ((rw [if_neg (by omega)]) <;> first | rfl | omega) | ((rw [if_pos (by omega), if_neg (by omega)]) <;> first | rfl | omega) | ((rw [if_pos (by omega), if_pos (by omega)]) <;> first | rfl | omega))) (by first | ((rw [if_pos (by omega)]) <;> (rfl)) | (rw [if_neg (by omega)]))
        · refine z_ldc (a := -2000000002) hE zk_X8_92 (by decide) dX8_vote_44 ?_
          exact z_iret hE hR dX8_vote_46 (congrArg (fun x => some (Value.int (i32 x))) (by unfold rv_vote; first | ((rw [if_neg (by omega)]) <;> first | rfl | omega) | ((rw [if_pos (by omega), if_neg (by omega)]) <;> first | rfl | omega) | ((rw [if_pos (by omega), if_pos (by omega)]) <;> first | rfl | omega))) (by first | ((rw [if_pos (by omega)]) <;> (rfl)) | (rw [if_neg (by omega)]))
      · refine z_ldc (a := -2000000001) hE zk_X8_68 (by decide) dX8_vote_26 ?_
        exact z_iret hE hR dX8_vote_28 (congrArg (fun x => some (Value.int (i32 x))) (by unfold rv_vote; first | ((rw [if_neg (by omega)]) <;> first | rfl | omega) | ((rw [if_pos (by omega), if_neg (by omega)]) <;> first | rfl | omega) | ((rw [if_pos (by omega), if_pos (by omega)]) <;> first | rfl | omega))) (by first | ((rw [if_pos (by omega)]) <;> (rfl)) | (rw [if_neg (by omega)]))
def unp (t p : Int → Int) (n i : Int) : Int → Int := fun q => if 0 ≤ q ∧ q < i then p (645 * n + q) else t q
theorem unp_0 (t p : Int → Int) (n : Int) : unp t p n 0 = t := by funext q; unfold unp; rw [if_neg (by omega)]
theorem unp_s {t p : Int → Int} {n i : Int} (h : 0 ≤ i) : up (unp t p n i) i (p (645 * n + i)) = unp t p n (i + 1) := by
  funext q
  by_cases e : q = i
  · rw [e, up_eq]; unfold unp; rw [if_pos (by omega)]
  · rw [up_ne e]; unfold unp
    by_cases c : 0 ≤ q ∧ q < i
    · rw [if_pos c, if_pos (by omega)]
    · rw [if_neg c, if_neg (by omega)]
theorem us_add67 {S : zM} {B g : Int → Int} (hg : g = S 7) : us S 6 B = us (us S 6 B) 7 g := by
  have em := us_id (us S 6 B) 7
  have e7 : us S 6 B 7 = S 7 := us_ne (by decide)
  rw [e7] at em
  rw [hg]; exact em.symm
theorem dX8_undo_0 : decode cX8_undo 0 = .ok (.aload_n 0, 1) := by decide +kernel
theorem dX8_undo_1 : decode cX8_undo 1 = .ok (.getfield 39, 3) := by decide +kernel
theorem dX8_undo_4 : decode cX8_undo 4 = .ok (.ifCond .ne 6, 3) := by decide +kernel
theorem dX8_undo_7 : decode cX8_undo 7 = .ok (.ldc 92, 2) := by decide +kernel
theorem dX8_undo_9 : decode cX8_undo 9 = .ok (.ireturn, 1) := by decide +kernel
theorem dX8_undo_10 : decode cX8_undo 10 = .ok (.aload_n 0, 1) := by decide +kernel
theorem dX8_undo_11 : decode cX8_undo 11 = .ok (.dup, 1) := by decide +kernel
theorem dX8_undo_12 : decode cX8_undo 12 = .ok (.getfield 39, 3) := by decide +kernel
theorem dX8_undo_15 : decode cX8_undo 15 = .ok (.iconst 1, 1) := by decide +kernel
theorem dX8_undo_16 : decode cX8_undo 16 = .ok (.isub, 1) := by decide +kernel
theorem dX8_undo_17 : decode cX8_undo 17 = .ok (.putfield 39, 3) := by decide +kernel
theorem dX8_undo_20 : decode cX8_undo 20 = .ok (.iconst 0, 1) := by decide +kernel
theorem dX8_undo_21 : decode cX8_undo 21 = .ok (.istore_n 1, 1) := by decide +kernel
theorem dX8_undo_22 : decode cX8_undo 22 = .ok (.iload_n 1, 1) := by decide +kernel
theorem dX8_undo_23 : decode cX8_undo 23 = .ok (.sipush 645, 3) := by decide +kernel
theorem dX8_undo_26 : decode cX8_undo 26 = .ok (.if_icmp .ge 30, 3) := by decide +kernel
theorem dX8_undo_29 : decode cX8_undo 29 = .ok (.aload_n 0, 1) := by decide +kernel
theorem dX8_undo_30 : decode cX8_undo 30 = .ok (.getfield 7, 3) := by decide +kernel
theorem dX8_undo_33 : decode cX8_undo 33 = .ok (.iload_n 1, 1) := by decide +kernel
theorem dX8_undo_34 : decode cX8_undo 34 = .ok (.aload_n 0, 1) := by decide +kernel
theorem dX8_undo_35 : decode cX8_undo 35 = .ok (.getfield 13, 3) := by decide +kernel
theorem dX8_undo_38 : decode cX8_undo 38 = .ok (.sipush 645, 3) := by decide +kernel
theorem dX8_undo_41 : decode cX8_undo 41 = .ok (.aload_n 0, 1) := by decide +kernel
theorem dX8_undo_42 : decode cX8_undo 42 = .ok (.getfield 39, 3) := by decide +kernel
theorem dX8_undo_45 : decode cX8_undo 45 = .ok (.imul, 1) := by decide +kernel
theorem dX8_undo_46 : decode cX8_undo 46 = .ok (.iload_n 1, 1) := by decide +kernel
theorem dX8_undo_47 : decode cX8_undo 47 = .ok (.iadd, 1) := by decide +kernel
theorem dX8_undo_48 : decode cX8_undo 48 = .ok (.laload, 1) := by decide +kernel
theorem dX8_undo_49 : decode cX8_undo 49 = .ok (.lastore, 1) := by decide +kernel
theorem dX8_undo_50 : decode cX8_undo 50 = .ok (.iinc 1 1, 3) := by decide +kernel
theorem dX8_undo_53 : decode cX8_undo 53 = .ok (.goto (-31), 3) := by decide +kernel
theorem dX8_undo_56 : decode cX8_undo 56 = .ok (.aload_n 0, 1) := by decide +kernel
theorem dX8_undo_57 : decode cX8_undo 57 = .ok (.getfield 39, 3) := by decide +kernel
theorem dX8_undo_60 : decode cX8_undo 60 = .ok (.ireturn, 1) := by decide +kernel
theorem hy_X8_undo : yX8_undo.cls ≠ "java/lang/invoke/MethodHandle" ∧ yX8_undo.cls ≠ "java/lang/invoke/VarHandle" ∧ (parseMethodDescriptor yX8_undo.desc).map (fun d => d.parameters.length) = some 0 := ⟨by decide +kernel, by decide +kernel, by decide +kernel⟩
set_option maxHeartbeats 4000000 in
set_option maxRecDepth 100000 in
theorem lp_X8_undo {E : zE} {l0 : Launch} {D0 : va_G} {cI0 cJ0 : ClassId} {ad : Nat → Nat → Nat} (hE : zG E l0 D0 cI0 cJ0 ad cX8_undo 2 RX8 0 0) (S : zM) (h6 : 0 ≤ S 6 0 ∧ S 6 0 ≤ 4) (hR : zR E (some .int) (some (.int (i32 (rv_undo (S 6 0))))) (fun X => X = if 0 < S 6 0 then us (us S 6 (up (S 6) 0 (S 6 0 - 1))) 7 (unp (S 7) (S 8) (S 6 0 - 1) 645) else S)) : ∀ (fuel : Nat) (i : Int) (hp : 0 < S 6 0) (h9 : 0 ≤ i ∧ i ≤ 645), (645 - i).toNat < fuel → Z E (us (us S 6 (up (S 6) 0 (S 6 0 - 1))) 7 (unp (S 7) (S 8) (S 6 0 - 1) i)) 22 [(1, .int (i32 i)), (0, .ref (ad 6 27))] [] := by
  intro fuel
  induction fuel with
  | zero => intro _ _ _ hz; omega
  | succ fuel ih =>
    intro i hp h9 hz
    have h67 : (6 : Nat) ≠ 7 := by decide
    have h76 : (7 : Nat) ≠ 6 := by decide
    have h68 : (6 : Nat) ≠ 8 := by decide
    have h86 : (8 : Nat) ≠ 6 := by decide
    have h78 : (7 : Nat) ≠ 8 := by decide
    have h87 : (8 : Nat) ≠ 7 := by decide
    refine z_iload_n hE 0 rfl rfl dX8_undo_22 ?_
    refine z_sipush (a := 645) hE (by decide) dX8_undo_23 ?_
    refine z_icmp_ge (tgt := 56) hE dX8_undo_26 (by decide) ⟨by omega, by omega⟩ ⟨by omega, by omega⟩ (fun c1 => ?_) (fun c1 => ?_)
    · refine z_aload_n hE 1 rfl rfl dX8_undo_56 ?_
      refine gf_8_2 hE (by decide) zf_X8_39 dX8_undo_57 ?_
      try simp only [us_eq, us_us, us_ne h67, us_ne h76, us_ne h68, us_ne h86, us_ne h78, us_ne h87, us_in h67, us_in h76]
      rw [up_eq]
      exact z_iret hE hR dX8_undo_60 (congrArg (fun x => some (Value.int (i32 x))) (by unfold rv_undo; first | ((rw [if_neg (by omega)]) <;> first | rfl | omega) | ((rw [if_pos (by omega)]) <;> first | rfl | omega))) (by first | (rw [if_pos (by omega), show i = 645 by omega]; done) | (rw [if_neg (by omega)]; done))
    · refine z_aload_n hE 1 rfl rfl dX8_undo_29 ?_
      refine gf_8_0 hE (by decide) zf_X8_7 dX8_undo_30 ?_
      refine z_iload_n hE 0 rfl rfl dX8_undo_33 ?_
      refine z_aload_n hE 1 rfl rfl dX8_undo_34 ?_
      refine gf_8_1 hE (by decide) zf_X8_13 dX8_undo_35 ?_
      refine z_sipush (a := 645) hE (by decide) dX8_undo_38 ?_
      refine z_aload_n hE 1 rfl rfl dX8_undo_41 ?_
      refine gf_8_2 hE (by decide) zf_X8_39 dX8_undo_42 ?_
      try simp only [us_eq, us_us, us_ne h67, us_ne h76, us_ne h68, us_ne h86, us_ne h78, us_ne h87, us_in h67, us_in h76]
      rw [up_eq]
      refine z_imul hE dX8_undo_45 ?_
      refine z_iload_n hE 0 rfl rfl dX8_undo_46 ?_
      refine z_iadd hE dX8_undo_47 ?_
      refine al_29 hE (by decide) (by omega) (by omega) dX8_undo_48 ?_
      try simp only [us_eq, us_us, us_ne h67, us_ne h76, us_ne h68, us_ne h86, us_ne h78, us_ne h87, us_in h67, us_in h76]
      refine as_28 hE (by decide) (by omega) (by omega) dX8_undo_49 ?_
      try simp only [us_eq, us_us, us_ne h67, us_ne h76, us_ne h68, us_ne h86, us_ne h78, us_ne h87, us_in h67, us_in h76]
      refine z_iinc hE 0 rfl (by decide) rfl dX8_undo_50 ?_
      refine z_goto (tgt := 22) hE (d := dX8_undo_53) (ht := by decide) ?_
      refine z_L (L' := [(1, .int (i32 (i + 1))), (0, .ref (ad 6 27))]) [0, 1] (by rfl) ?_
      rw [unp_s h9.1]
      exact ih (i + 1) hp ⟨by omega, by omega⟩ (by omega)
set_option maxHeartbeats 4000000 in
set_option maxRecDepth 100000 in
theorem c_X8_undo (l0 : Launch) (D0 : va_G) (cI0 cJ0 : ClassId) (ad : Nat → Nat → Nat) (S : zM) (h6 : 0 ≤ S 6 0 ∧ S 6 0 ≤ 4) : Ct l0 D0 cI0 cJ0 ad yX8_undo cX8_undo 2 (some .int) 0 0 [.ref (ad 6 27)] S (some (.int (i32 (rv_undo (S 6 0))))) (fun X => X = if 0 < S 6 0 then us (us S 6 (up (S 6) 0 (S 6 0 - 1))) 7 (unp (S 7) (S 8) (S 6 0 - 1) 645) else S) := by
  refine Ct.of (by decide) (Nat.le_of_ble_eq_true rfl) (fun E hE hR => ?_)
  have hE : zG E l0 D0 cI0 cJ0 ad cX8_undo 2 RX8 0 0 := hE
  show Z E S 0 [(0, .ref (ad 6 27))] []
  have h67 : (6 : Nat) ≠ 7 := by decide
  have h76 : (7 : Nat) ≠ 6 := by decide
  have h68 : (6 : Nat) ≠ 8 := by decide
  have h86 : (8 : Nat) ≠ 6 := by decide
  have h78 : (7 : Nat) ≠ 8 := by decide
  have h87 : (8 : Nat) ≠ 7 := by decide
  refine z_aload_n hE 0 rfl rfl dX8_undo_0 ?_
  refine gf_8_2 hE (by decide) zf_X8_39 dX8_undo_1 ?_
  refine z_if_ne (tgt := 10) hE dX8_undo_4 (by decide) ⟨by omega, by omega⟩ (fun c1 => ?_) (fun c1 => ?_)
  · refine z_aload_n hE 0 rfl rfl dX8_undo_10 ?_
    refine z_dup hE rfl dX8_undo_11 ?_
    refine gf_8_2 hE (by decide) zf_X8_39 dX8_undo_12 ?_
    refine z_iconst hE dX8_undo_15 ?_
    refine z_isub hE dX8_undo_16 ?_
    refine pf_8_2 hE (by decide) zf_X8_39 dX8_undo_17 ?_
    refine z_iconst hE dX8_undo_20 ?_
    refine z_istore_n hE rfl (by decide) rfl dX8_undo_21 ?_
    refine z_L (L' := [(1, .int (i32 0)), (0, .ref (ad 6 27))]) [0, 1] (by rfl) ?_
    rw [us_add67 (S := S) (g := unp (S 7) (S 8) (S 6 0 - 1) 0) (unp_0 _ _ _)]
    exact lp_X8_undo hE S h6 hR 646 0 (by omega) ⟨by omega, by omega⟩ (by omega)
  · refine z_ldc (a := -2000000002) hE zk_X8_92 (by decide) dX8_undo_7 ?_
    exact z_iret hE hR dX8_undo_9 (congrArg (fun x => some (Value.int (i32 x))) (by unfold rv_undo; first | ((rw [if_neg (by omega)]) <;> first | rfl | omega) | ((rw [if_pos (by omega)]) <;> first | rfl | omega))) (by first | (rw [if_pos (by omega), show i = 645 by omega]; done) | (rw [if_neg (by omega)]; done))
