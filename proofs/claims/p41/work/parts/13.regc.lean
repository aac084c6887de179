theorem dX4_takeFromSeller_0 : decode cX4_takeFromSeller 0 = .ok (.aload_n 0, 1) := by decide +kernel
theorem dX4_takeFromSeller_1 : decode cX4_takeFromSeller 1 = .ok (.getfield 35, 3) := by decide +kernel
theorem dX4_takeFromSeller_4 : decode cX4_takeFromSeller 4 = .ok (.getfield 105, 3) := by decide +kernel
theorem dX4_takeFromSeller_7 : decode cX4_takeFromSeller 7 = .ok (.iload_n 1, 1) := by decide +kernel
theorem dX4_takeFromSeller_8 : decode cX4_takeFromSeller 8 = .ok (.iaload, 1) := by decide +kernel
theorem dX4_takeFromSeller_9 : decode cX4_takeFromSeller 9 = .ok (.istore 5, 2) := by decide +kernel
theorem dX4_takeFromSeller_11 : decode cX4_takeFromSeller 11 = .ok (.aload_n 0, 1) := by decide +kernel
theorem dX4_takeFromSeller_12 : decode cX4_takeFromSeller 12 = .ok (.getfield 12, 3) := by decide +kernel
theorem dX4_takeFromSeller_15 : decode cX4_takeFromSeller 15 = .ok (.getfield 72, 3) := by decide +kernel
theorem dX4_takeFromSeller_18 : decode cX4_takeFromSeller 18 = .ok (.iload 5, 2) := by decide +kernel
theorem dX4_takeFromSeller_20 : decode cX4_takeFromSeller 20 = .ok (.dup2, 1) := by decide +kernel
theorem dX4_takeFromSeller_21 : decode cX4_takeFromSeller 21 = .ok (.iaload, 1) := by decide +kernel
theorem dX4_takeFromSeller_22 : decode cX4_takeFromSeller 22 = .ok (.iload_n 3, 1) := by decide +kernel
theorem dX4_takeFromSeller_23 : decode cX4_takeFromSeller 23 = .ok (.isub, 1) := by decide +kernel
theorem dX4_takeFromSeller_24 : decode cX4_takeFromSeller 24 = .ok (.iastore, 1) := by decide +kernel
theorem dX4_takeFromSeller_25 : decode cX4_takeFromSeller 25 = .ok (.aload_n 0, 1) := by decide +kernel
theorem dX4_takeFromSeller_26 : decode cX4_takeFromSeller 26 = .ok (.getfield 12, 3) := by decide +kernel
theorem dX4_takeFromSeller_29 : decode cX4_takeFromSeller 29 = .ok (.getfield 190, 3) := by decide +kernel
theorem dX4_takeFromSeller_32 : decode cX4_takeFromSeller 32 = .ok (.iload 5, 2) := by decide +kernel
theorem dX4_takeFromSeller_34 : decode cX4_takeFromSeller 34 = .ok (.dup2, 1) := by decide +kernel
theorem dX4_takeFromSeller_35 : decode cX4_takeFromSeller 35 = .ok (.laload, 1) := by decide +kernel
theorem dX4_takeFromSeller_36 : decode cX4_takeFromSeller 36 = .ok (.iload 4, 2) := by decide +kernel
theorem dX4_takeFromSeller_38 : decode cX4_takeFromSeller 38 = .ok (.i2l, 1) := by decide +kernel
theorem dX4_takeFromSeller_39 : decode cX4_takeFromSeller 39 = .ok (.iload_n 3, 1) := by decide +kernel
theorem dX4_takeFromSeller_40 : decode cX4_takeFromSeller 40 = .ok (.i2l, 1) := by decide +kernel
theorem dX4_takeFromSeller_41 : decode cX4_takeFromSeller 41 = .ok (.lmul, 1) := by decide +kernel
theorem dX4_takeFromSeller_42 : decode cX4_takeFromSeller 42 = .ok (.ladd, 1) := by decide +kernel
theorem dX4_takeFromSeller_43 : decode cX4_takeFromSeller 43 = .ok (.lastore, 1) := by decide +kernel
theorem dX4_takeFromSeller_44 : decode cX4_takeFromSeller 44 = .ok (.aload_n 0, 1) := by decide +kernel
theorem dX4_takeFromSeller_45 : decode cX4_takeFromSeller 45 = .ok (.getfield 35, 3) := by decide +kernel
theorem dX4_takeFromSeller_48 : decode cX4_takeFromSeller 48 = .ok (.iload_n 1, 1) := by decide +kernel
theorem dX4_takeFromSeller_49 : decode cX4_takeFromSeller 49 = .ok (.iload_n 2, 1) := by decide +kernel
theorem dX4_takeFromSeller_50 : decode cX4_takeFromSeller 50 = .ok (.iload_n 3, 1) := by decide +kernel
theorem dX4_takeFromSeller_51 : decode cX4_takeFromSeller 51 = .ok (.invokevirtual 194, 3) := by decide +kernel
theorem dX4_takeFromSeller_54 : decode cX4_takeFromSeller 54 = .ok (.return_, 1) := by decide +kernel
theorem hy_X4_takeFromSeller : yX4_takeFromSeller.cls ≠ "java/lang/invoke/MethodHandle" ∧ yX4_takeFromSeller.cls ≠ "java/lang/invoke/VarHandle" ∧ (parseMethodDescriptor yX4_takeFromSeller.desc).map (fun d => d.parameters.length) = some 4 := ⟨by decide +kernel, by decide +kernel, by decide +kernel⟩
set_option maxHeartbeats 4000000 in
set_option maxRecDepth 100000 in
theorem c_X4_takeFromSeller (l0 : Launch) (D0 : va_G) (cI0 cJ0 : ClassId) (ad : Nat → Nat → Nat) (S : zM) (r : Nat) (hr : r < 5) (o : Int) (w : Int) (n : Int) (pr : Int) (h0 : 0 ≤ o ∧ o < 20) (h2 : 0 ≤ S r (55 + 22 * o) ∧ S r (55 + 22 * o) < 12) (h3 : 0 ≤ w ∧ w < 4) (h4 : -2147483648 ≤ n ∧ n < 2147483648) (h5 : -2147483648 ≤ pr ∧ pr < 2147483648) : Ct l0 D0 cI0 cJ0 ad yX4_takeFromSeller cX4_takeFromSeller 6 none 1 23 [.ref (ad r 0), .int (i32 o), .int (i32 w), .int (i32 n), .int (i32 pr)] S none (fun X => X = (us S r (sp_take (S r) o w n pr))) := by
  refine Ct.of (by decide) (Nat.le_of_ble_eq_true rfl) (fun E hE hR => ?_)
  have hE : zG E l0 D0 cI0 cJ0 ad cX4_takeFromSeller 6 RX4 1 23 := hE
  show Z E S 0 [(0, .ref (ad r 0)), (1, .int (i32 o)), (2, .int (i32 w)), (3, .int (i32 n)), (4, .int (i32 pr))] []
  refine z_aload_n hE 0 rfl rfl dX4_takeFromSeller_0 ?_
  refine gf_4_3 hE (ks_m hr (by decide)) zf_X4_35 dX4_takeFromSeller_1 ?_
  refine gf_3_1 hE (ks_m hr (by decide)) zf_X4_105 dX4_takeFromSeller_4 ?_
  refine z_iload_n hE 1 rfl rfl dX4_takeFromSeller_7 ?_
  refine al_9 hE (ks_m hr (by decide)) (by omega) (by omega) dX4_takeFromSeller_8 ?_
  refine z_istore hE (by decide) rfl dX4_takeFromSeller_9 ?_
  refine z_aload_n hE 1 rfl rfl dX4_takeFromSeller_11 ?_
  refine gf_4_0 hE (ks_m hr (by decide)) zf_X4_12 dX4_takeFromSeller_12 ?_
  refine gf_1_1 hE (ks_m hr (by decide)) zf_X4_72 dX4_takeFromSeller_15 ?_
  refine z_iload hE 0 rfl dX4_takeFromSeller_18 ?_
  refine z_dup2 hE rfl rfl dX4_takeFromSeller_20 ?_
  refine al_2 hE (ks_m hr (by decide)) (by omega) (by omega) dX4_takeFromSeller_21 ?_
  refine z_iload_n hE 4 rfl rfl dX4_takeFromSeller_22 ?_
  refine z_isub hE dX4_takeFromSeller_23 ?_
  refine as_2 hE (ks_m hr (by decide)) (by omega) (by omega) dX4_takeFromSeller_24 ?_
  refine z_aload_n hE 1 rfl rfl dX4_takeFromSeller_25 ?_
  refine gf_4_0 hE (ks_m hr (by decide)) zf_X4_12 dX4_takeFromSeller_26 ?_
  refine gf_1_3 hE (ks_m hr (by decide)) zf_X4_190 dX4_takeFromSeller_29 ?_
  refine z_iload hE 0 rfl dX4_takeFromSeller_32 ?_
  refine z_dup2 hE rfl rfl dX4_takeFromSeller_34 ?_
  refine al_4 hE (ks_m hr (by decide)) (by omega) (by omega) dX4_takeFromSeller_35 ?_
  try simp only [us_eq, us_us]
  rw [up_ne (show 21 + 3 * (S r (55 + 22 * o)) ≠ 19 + 3 * (S r (55 + 22 * o)) by omega)]
  refine z_iload hE 5 rfl dX4_takeFromSeller_36 ?_
  refine z_i2l hE ⟨by omega, by omega⟩ dX4_takeFromSeller_38 ?_
  refine z_iload_n hE 4 rfl rfl dX4_takeFromSeller_39 ?_
  refine z_i2l hE ⟨by omega, by omega⟩ dX4_takeFromSeller_40 ?_
  refine z_lmul hE dX4_takeFromSeller_41 ?_
  refine z_ladd hE dX4_takeFromSeller_42 ?_
  refine as_4 hE (ks_m hr (by decide)) (by omega) (by omega) dX4_takeFromSeller_43 ?_
  try simp only [us_eq, us_us]
  refine z_aload_n hE 1 rfl rfl dX4_takeFromSeller_44 ?_
  refine gf_4_3 hE (ks_m hr (by decide)) zf_X4_35 dX4_takeFromSeller_45 ?_
  refine z_iload_n hE 2 rfl rfl dX4_takeFromSeller_48 ?_
  refine z_iload_n hE 3 rfl rfl dX4_takeFromSeller_49 ?_
  refine z_iload_n hE 4 rfl rfl dX4_takeFromSeller_50 ?_
  refine z_callV hE (c_X3_recordSale l0 D0 cI0 cJ0 ad (us S r (up (up (S r) (19 + 3 * (S r (55 + 22 * o))) ((S r (19 + 3 * (S r (55 + 22 * o)))) - n)) (21 + 3 * (S r (55 + 22 * o))) ((S r (21 + 3 * (S r (55 + 22 * o)))) + (pr * n)))) r hr o w n (by first | omega | (simp only [us_eq]; omega)) (by first | omega | (simp only [us_eq]; omega))) (ks_m hr (by decide)) rfl rfl zm_X4_194 zi_yX3_recordSale zs_yX3_recordSale zn_RX3 zc_yX3_recordSale (hy_X3_recordSale) (Nat.le_of_ble_eq_true rfl) (Nat.le_of_ble_eq_true rfl) rfl rfl rfl (Nat.le_of_ble_eq_true rfl) dX4_takeFromSeller_51 ?_
  try simp only [us_eq, us_us]
  exact z_vret hE hR dX4_takeFromSeller_54 rfl (by rw [uq_sub, uq_two (by omega)]; rfl)
theorem dX4_sellToMember_0 : decode cX4_sellToMember 0 = .ok (.aload_n 0, 1) := by decide +kernel
theorem dX4_sellToMember_1 : decode cX4_sellToMember 1 = .ok (.getfield 12, 3) := by decide +kernel
theorem dX4_sellToMember_4 : decode cX4_sellToMember 4 = .ok (.getfield 72, 3) := by decide +kernel
theorem dX4_sellToMember_7 : decode cX4_sellToMember 7 = .ok (.iload_n 3, 1) := by decide +kernel
theorem dX4_sellToMember_8 : decode cX4_sellToMember 8 = .ok (.dup2, 1) := by decide +kernel
theorem dX4_sellToMember_9 : decode cX4_sellToMember 9 = .ok (.iaload, 1) := by decide +kernel
theorem dX4_sellToMember_10 : decode cX4_sellToMember 10 = .ok (.iload 4, 2) := by decide +kernel
theorem dX4_sellToMember_12 : decode cX4_sellToMember 12 = .ok (.iadd, 1) := by decide +kernel
theorem dX4_sellToMember_13 : decode cX4_sellToMember 13 = .ok (.iastore, 1) := by decide +kernel
theorem dX4_sellToMember_14 : decode cX4_sellToMember 14 = .ok (.aload_n 0, 1) := by decide +kernel
theorem dX4_sellToMember_15 : decode cX4_sellToMember 15 = .ok (.getfield 12, 3) := by decide +kernel
theorem dX4_sellToMember_18 : decode cX4_sellToMember 18 = .ok (.getfield 190, 3) := by decide +kernel
theorem dX4_sellToMember_21 : decode cX4_sellToMember 21 = .ok (.iload_n 3, 1) := by decide +kernel
theorem dX4_sellToMember_22 : decode cX4_sellToMember 22 = .ok (.dup2, 1) := by decide +kernel
theorem dX4_sellToMember_23 : decode cX4_sellToMember 23 = .ok (.laload, 1) := by decide +kernel
theorem dX4_sellToMember_24 : decode cX4_sellToMember 24 = .ok (.iload 5, 2) := by decide +kernel
theorem dX4_sellToMember_26 : decode cX4_sellToMember 26 = .ok (.i2l, 1) := by decide +kernel
theorem dX4_sellToMember_27 : decode cX4_sellToMember 27 = .ok (.iload 4, 2) := by decide +kernel
theorem dX4_sellToMember_29 : decode cX4_sellToMember 29 = .ok (.i2l, 1) := by decide +kernel
theorem dX4_sellToMember_30 : decode cX4_sellToMember 30 = .ok (.lmul, 1) := by decide +kernel
theorem dX4_sellToMember_31 : decode cX4_sellToMember 31 = .ok (.lsub, 1) := by decide +kernel
theorem dX4_sellToMember_32 : decode cX4_sellToMember 32 = .ok (.lastore, 1) := by decide +kernel
theorem dX4_sellToMember_33 : decode cX4_sellToMember 33 = .ok (.aload_n 0, 1) := by decide +kernel
theorem dX4_sellToMember_34 : decode cX4_sellToMember 34 = .ok (.iload_n 1, 1) := by decide +kernel
theorem dX4_sellToMember_35 : decode cX4_sellToMember 35 = .ok (.iload_n 2, 1) := by decide +kernel
theorem dX4_sellToMember_36 : decode cX4_sellToMember 36 = .ok (.iload 4, 2) := by decide +kernel
theorem dX4_sellToMember_38 : decode cX4_sellToMember 38 = .ok (.iload 5, 2) := by decide +kernel
theorem dX4_sellToMember_40 : decode cX4_sellToMember 40 = .ok (.invokevirtual 180, 3) := by decide +kernel
theorem dX4_sellToMember_43 : decode cX4_sellToMember 43 = .ok (.return_, 1) := by decide +kernel
theorem hy_X4_sellToMember : yX4_sellToMember.cls ≠ "java/lang/invoke/MethodHandle" ∧ yX4_sellToMember.cls ≠ "java/lang/invoke/VarHandle" ∧ (parseMethodDescriptor yX4_sellToMember.desc).map (fun d => d.parameters.length) = some 5 := ⟨by decide +kernel, by decide +kernel, by decide +kernel⟩
set_option maxHeartbeats 4000000 in
set_option maxRecDepth 100000 in
theorem c_X4_sellToMember (l0 : Launch) (D0 : va_G) (cI0 cJ0 : ClassId) (ad : Nat → Nat → Nat) (S : zM) (r : Nat) (hr : r < 5) (o : Int) (w : Int) (m : Int) (n : Int) (pr : Int) (h0 : 0 ≤ o ∧ o < 20) (h2 : 0 ≤ S r (55 + 22 * o) ∧ S r (55 + 22 * o) < 12) (h3 : 0 ≤ w ∧ w < 4) (h6 : 0 ≤ m ∧ m < 12) (h4 : -2147483648 ≤ n ∧ n < 2147483648) (h5 : -2147483648 ≤ pr ∧ pr < 2147483648) : Ct l0 D0 cI0 cJ0 ad yX4_sellToMember cX4_sellToMember 6 none 2 48 [.ref (ad r 0), .int (i32 o), .int (i32 w), .int (i32 m), .int (i32 n), .int (i32 pr)] S none (fun X => X = (us S r (sp_sell (S r) o w m n pr))) := by
  refine Ct.of (by decide) (Nat.le_of_ble_eq_true rfl) (fun E hE hR => ?_)
  have hE : zG E l0 D0 cI0 cJ0 ad cX4_sellToMember 6 RX4 2 48 := hE
  show Z E S 0 [(0, .ref (ad r 0)), (1, .int (i32 o)), (2, .int (i32 w)), (3, .int (i32 m)), (4, .int (i32 n)), (5, .int (i32 pr))] []
  refine z_aload_n hE 0 rfl rfl dX4_sellToMember_0 ?_
  refine gf_4_0 hE (ks_m hr (by decide)) zf_X4_12 dX4_sellToMember_1 ?_
  refine gf_1_1 hE (ks_m hr (by decide)) zf_X4_72 dX4_sellToMember_4 ?_
  refine z_iload_n hE 3 rfl rfl dX4_sellToMember_7 ?_
  refine z_dup2 hE rfl rfl dX4_sellToMember_8 ?_
  refine al_2 hE (ks_m hr (by decide)) (by omega) (by omega) dX4_sellToMember_9 ?_
  refine z_iload hE 4 rfl dX4_sellToMember_10 ?_
  refine z_iadd hE dX4_sellToMember_12 ?_
  refine as_2 hE (ks_m hr (by decide)) (by omega) (by omega) dX4_sellToMember_13 ?_
  refine z_aload_n hE 0 rfl rfl dX4_sellToMember_14 ?_
  refine gf_4_0 hE (ks_m hr (by decide)) zf_X4_12 dX4_sellToMember_15 ?_
  refine gf_1_3 hE (ks_m hr (by decide)) zf_X4_190 dX4_sellToMember_18 ?_
  refine z_iload_n hE 3 rfl rfl dX4_sellToMember_21 ?_
  refine z_dup2 hE rfl rfl dX4_sellToMember_22 ?_
  refine al_4 hE (ks_m hr (by decide)) (by omega) (by omega) dX4_sellToMember_23 ?_
  try simp only [us_eq, us_us]
  rw [up_ne (show 21 + 3 * m ≠ 19 + 3 * m by omega)]
  refine z_iload hE 5 rfl dX4_sellToMember_24 ?_
  refine z_i2l hE ⟨by omega, by omega⟩ dX4_sellToMember_26 ?_
  refine z_iload hE 4 rfl dX4_sellToMember_27 ?_
  refine z_i2l hE ⟨by omega, by omega⟩ dX4_sellToMember_29 ?_
  refine z_lmul hE dX4_sellToMember_30 ?_
  refine z_lsub hE dX4_sellToMember_31 ?_
  refine as_4 hE (ks_m hr (by decide)) (by omega) (by omega) dX4_sellToMember_32 ?_
  try simp only [us_eq, us_us]
  refine z_aload_n hE 0 rfl rfl dX4_sellToMember_33 ?_
  refine z_iload_n hE 1 rfl rfl dX4_sellToMember_34 ?_
  refine z_iload_n hE 2 rfl rfl dX4_sellToMember_35 ?_
  refine z_iload hE 4 rfl dX4_sellToMember_36 ?_
  refine z_iload hE 5 rfl dX4_sellToMember_38 ?_
  refine z_callV hE (c_X4_takeFromSeller l0 D0 cI0 cJ0 ad (us S r (up (up (S r) (19 + 3 * m) ((S r (19 + 3 * m)) + n)) (21 + 3 * m) ((S r (21 + 3 * m)) - (pr * n)))) r hr o w n pr (by first | omega | (simp only [us_eq]; omega)) (by rw [us_eq, up_ne (by omega), up_ne (by omega)]; exact h2) (by first | omega | (simp only [us_eq]; omega)) (by first | omega | (simp only [us_eq]; omega)) (by first | omega | (simp only [us_eq]; omega))) (ks_m hr (by decide)) rfl rfl zm_X4_180 zi_yX4_takeFromSeller zs_yX4_takeFromSeller zn_RX4 zc_yX4_takeFromSeller (hy_X4_takeFromSeller) (Nat.le_of_ble_eq_true rfl) (Nat.le_of_ble_eq_true rfl) rfl rfl rfl (Nat.le_of_ble_eq_true rfl) dX4_sellToMember_40 ?_
  try simp only [us_eq, us_us]
  exact z_vret hE hR dX4_sellToMember_43 rfl (by show us S r (sp_take (up (uq (S r) (19 + 3 * m) n) (21 + 3 * m) (S r (21 + 3 * m) - pr * n)) o w n pr) = _; rw [Int.sub_eq_add_neg, uq_two (by omega)]; rfl)
theorem dX4_sellToTreasury_0 : decode cX4_sellToTreasury 0 = .ok (.aload_n 0, 1) := by decide +kernel
theorem dX4_sellToTreasury_1 : decode cX4_sellToTreasury 1 = .ok (.getfield 21, 3) := by decide +kernel
theorem dX4_sellToTreasury_4 : decode cX4_sellToTreasury 4 = .ok (.getfield 177, 3) := by decide +kernel
theorem dX4_sellToTreasury_7 : decode cX4_sellToTreasury 7 = .ok (.aload_n 0, 1) := by decide +kernel
theorem dX4_sellToTreasury_8 : decode cX4_sellToTreasury 8 = .ok (.getfield 46, 3) := by decide +kernel
theorem dX4_sellToTreasury_11 : decode cX4_sellToTreasury 11 = .ok (.isub, 1) := by decide +kernel
theorem dX4_sellToTreasury_12 : decode cX4_sellToTreasury 12 = .ok (.iconst 0, 1) := by decide +kernel
theorem dX4_sellToTreasury_13 : decode cX4_sellToTreasury 13 = .ok (.invokestatic 93, 3) := by decide +kernel
theorem dX4_sellToTreasury_16 : decode cX4_sellToTreasury 16 = .ok (.istore_n 2, 1) := by decide +kernel
theorem dX4_sellToTreasury_17 : decode cX4_sellToTreasury 17 = .ok (.aload_n 0, 1) := by decide +kernel
theorem dX4_sellToTreasury_18 : decode cX4_sellToTreasury 18 = .ok (.getfield 35, 3) := by decide +kernel
theorem dX4_sellToTreasury_21 : decode cX4_sellToTreasury 21 = .ok (.getfield 137, 3) := by decide +kernel
theorem dX4_sellToTreasury_24 : decode cX4_sellToTreasury 24 = .ok (.iload_n 1, 1) := by decide +kernel
theorem dX4_sellToTreasury_25 : decode cX4_sellToTreasury 25 = .ok (.iaload, 1) := by decide +kernel
theorem dX4_sellToTreasury_26 : decode cX4_sellToTreasury 26 = .ok (.iload_n 2, 1) := by decide +kernel
theorem dX4_sellToTreasury_27 : decode cX4_sellToTreasury 27 = .ok (.invokestatic 161, 3) := by decide +kernel
theorem dX4_sellToTreasury_30 : decode cX4_sellToTreasury 30 = .ok (.istore_n 3, 1) := by decide +kernel
theorem dX4_sellToTreasury_31 : decode cX4_sellToTreasury 31 = .ok (.aload_n 0, 1) := by decide +kernel
theorem dX4_sellToTreasury_32 : decode cX4_sellToTreasury 32 = .ok (.dup, 1) := by decide +kernel
theorem dX4_sellToTreasury_33 : decode cX4_sellToTreasury 33 = .ok (.getfield 46, 3) := by decide +kernel
theorem dX4_sellToTreasury_36 : decode cX4_sellToTreasury 36 = .ok (.iload_n 3, 1) := by decide +kernel
theorem dX4_sellToTreasury_37 : decode cX4_sellToTreasury 37 = .ok (.iadd, 1) := by decide +kernel
theorem dX4_sellToTreasury_38 : decode cX4_sellToTreasury 38 = .ok (.putfield 46, 3) := by decide +kernel
theorem dX4_sellToTreasury_41 : decode cX4_sellToTreasury 41 = .ok (.aload_n 0, 1) := by decide +kernel
theorem dX4_sellToTreasury_42 : decode cX4_sellToTreasury 42 = .ok (.iload_n 1, 1) := by decide +kernel
theorem dX4_sellToTreasury_43 : decode cX4_sellToTreasury 43 = .ok (.iconst 2, 1) := by decide +kernel
theorem dX4_sellToTreasury_44 : decode cX4_sellToTreasury 44 = .ok (.iload_n 3, 1) := by decide +kernel
theorem dX4_sellToTreasury_45 : decode cX4_sellToTreasury 45 = .ok (.aload_n 0, 1) := by decide +kernel
theorem dX4_sellToTreasury_46 : decode cX4_sellToTreasury 46 = .ok (.getfield 28, 3) := by decide +kernel
theorem dX4_sellToTreasury_49 : decode cX4_sellToTreasury 49 = .ok (.getfield 170, 3) := by decide +kernel
theorem dX4_sellToTreasury_52 : decode cX4_sellToTreasury 52 = .ok (.invokevirtual 180, 3) := by decide +kernel
theorem dX4_sellToTreasury_55 : decode cX4_sellToTreasury 55 = .ok (.return_, 1) := by decide +kernel
theorem hy_X4_sellToTreasury : yX4_sellToTreasury.cls ≠ "java/lang/invoke/MethodHandle" ∧ yX4_sellToTreasury.cls ≠ "java/lang/invoke/VarHandle" ∧ (parseMethodDescriptor yX4_sellToTreasury.desc).map (fun d => d.parameters.length) = some 1 := ⟨by decide +kernel, by decide +kernel, by decide +kernel⟩
set_option maxHeartbeats 4000000 in
set_option maxRecDepth 100000 in
theorem c_X4_sellToTreasury (l0 : Launch) (D0 : va_G) (cI0 cJ0 : ClassId) (ad : Nat → Nat → Nat) (S : zM) (r : Nat) (hr : r < 5) (o : Int) (hI : Inv0 (S r)) (h1 : 0 ≤ o ∧ o < S r 14) : Ct l0 D0 cI0 cJ0 ad yX4_sellToTreasury cX4_sellToTreasury 4 none 2 48 [.ref (ad r 0), .int (i32 o)] S none (fun X => X = (us S r (sp_tre (S r) o))) := by
  refine Ct.of (by decide) (Nat.le_of_ble_eq_true rfl) (fun E hE hR => ?_)
  have hE : zG E l0 D0 cI0 cJ0 ad cX4_sellToTreasury 4 RX4 2 48 := hE
  show Z E S 0 [(0, .ref (ad r 0)), (1, .int (i32 o))] []
  have hA := inA hI
  unfold InvA at hA
  have ho := inO hI o h1.1 h1.2
  have ht := inTr hI
  refine z_aload_n hE 0 rfl rfl dX4_sellToTreasury_0 ?_
  refine gf_4_1 hE (ks_m hr (by decide)) zf_X4_21 dX4_sellToTreasury_1 ?_
  refine gf_5_1 hE (ks_m hr (by decide)) zf_X4_177 dX4_sellToTreasury_4 ?_
  refine z_aload_n hE 0 rfl rfl dX4_sellToTreasury_7 ?_
  refine gf_4_5 hE (ks_m hr (by decide)) zf_X4_46 dX4_sellToTreasury_8 ?_
  refine z_isub hE dX4_sellToTreasury_11 ?_
  refine z_iconst hE dX4_sellToTreasury_12 ?_
  refine z_max hE zm_X4_93 (by decide) (Nat.le_of_ble_eq_true rfl) ⟨by omega, by omega⟩ ⟨by omega, by omega⟩ dX4_sellToTreasury_13 ?_
  refine z_istore_n hE rfl (by decide) rfl dX4_sellToTreasury_16 ?_
  refine z_aload_n hE 1 rfl rfl dX4_sellToTreasury_17 ?_
  refine gf_4_3 hE (ks_m hr (by decide)) zf_X4_35 dX4_sellToTreasury_18 ?_
  refine gf_3_4 hE (ks_m hr (by decide)) zf_X4_137 dX4_sellToTreasury_21 ?_
  refine z_iload_n hE 2 rfl rfl dX4_sellToTreasury_24 ?_
  refine al_12 hE (ks_m hr (by decide)) (by omega) (by omega) dX4_sellToTreasury_25 ?_
  refine z_iload_n hE 0 rfl rfl dX4_sellToTreasury_26 ?_
  refine z_min hE zm_X4_161 (by decide) (Nat.le_of_ble_eq_true rfl) ⟨by omega, by omega⟩ ⟨by omega, by omega⟩ dX4_sellToTreasury_27 ?_
  refine z_istore_n hE rfl (by decide) rfl dX4_sellToTreasury_30 ?_
  refine z_aload_n hE 2 rfl rfl dX4_sellToTreasury_31 ?_
  refine z_dup hE rfl dX4_sellToTreasury_32 ?_
  refine gf_4_5 hE (ks_m hr (by decide)) zf_X4_46 dX4_sellToTreasury_33 ?_
  refine z_iload_n hE 0 rfl rfl dX4_sellToTreasury_36 ?_
  refine z_iadd hE dX4_sellToTreasury_37 ?_
  refine pf_4_5 hE (ks_m hr (by decide)) zf_X4_46 dX4_sellToTreasury_38 ?_
  refine z_aload_n hE 2 rfl rfl dX4_sellToTreasury_41 ?_
  refine z_iload_n hE 3 rfl rfl dX4_sellToTreasury_42 ?_
  refine z_iconst hE dX4_sellToTreasury_43 ?_
  refine z_iload_n hE 0 rfl rfl dX4_sellToTreasury_44 ?_
  refine z_aload_n hE 2 rfl rfl dX4_sellToTreasury_45 ?_
  refine gf_4_2 hE (ks_m hr (by decide)) zf_X4_28 dX4_sellToTreasury_46 ?_
  refine gf_0_2 hE (ks_m hr (by decide)) zf_X4_170 dX4_sellToTreasury_49 ?_
  try simp only [us_eq, us_us]
  rw [up_ne (show 6 ≠ 2 by omega)]
  refine z_callV hE (c_X4_takeFromSeller l0 D0 cI0 cJ0 ad (us S r (up (S r) 2 ((S r 2) + (min (S r (57 + 22 * o)) (max ((S r 3) - (S r 2)) 0))))) r hr o 2 (min (S r (57 + 22 * o)) (max ((S r 3) - (S r 2)) 0)) (S r 6) (by first | omega | (simp only [us_eq]; omega)) (by rw [us_eq, up_ne (by omega)]; omega) (by first | omega | (simp only [us_eq]; omega)) (by first | omega | (simp only [us_eq]; omega)) (by first | omega | (simp only [us_eq]; omega))) (ks_m hr (by decide)) rfl rfl zm_X4_180 zi_yX4_takeFromSeller zs_yX4_takeFromSeller zn_RX4 zc_yX4_takeFromSeller (hy_X4_takeFromSeller) (Nat.le_of_ble_eq_true rfl) (Nat.le_of_ble_eq_true rfl) rfl rfl rfl (Nat.le_of_ble_eq_true rfl) dX4_sellToTreasury_52 ?_
  try simp only [us_eq, us_us]
  exact z_vret hE hR dX4_sellToTreasury_55 rfl (by rfl)
theorem dX4_sellToBuyer_0 : decode cX4_sellToBuyer 0 = .ok (.aload_n 0, 1) := by decide +kernel
theorem dX4_sellToBuyer_1 : decode cX4_sellToBuyer 1 = .ok (.getfield 35, 3) := by decide +kernel
theorem dX4_sellToBuyer_4 : decode cX4_sellToBuyer 4 = .ok (.getfield 184, 3) := by decide +kernel
theorem dX4_sellToBuyer_7 : decode cX4_sellToBuyer 7 = .ok (.iload_n 1, 1) := by decide +kernel
theorem dX4_sellToBuyer_8 : decode cX4_sellToBuyer 8 = .ok (.iaload, 1) := by decide +kernel
theorem dX4_sellToBuyer_9 : decode cX4_sellToBuyer 9 = .ok (.istore_n 2, 1) := by decide +kernel
theorem dX4_sellToBuyer_10 : decode cX4_sellToBuyer 10 = .ok (.aload_n 0, 1) := by decide +kernel
theorem dX4_sellToBuyer_11 : decode cX4_sellToBuyer 11 = .ok (.getfield 35, 3) := by decide +kernel
theorem dX4_sellToBuyer_14 : decode cX4_sellToBuyer 14 = .ok (.getfield 137, 3) := by decide +kernel
theorem dX4_sellToBuyer_17 : decode cX4_sellToBuyer 17 = .ok (.iload_n 1, 1) := by decide +kernel
theorem dX4_sellToBuyer_18 : decode cX4_sellToBuyer 18 = .ok (.iaload, 1) := by decide +kernel
theorem dX4_sellToBuyer_19 : decode cX4_sellToBuyer 19 = .ok (.aload_n 0, 1) := by decide +kernel
theorem dX4_sellToBuyer_20 : decode cX4_sellToBuyer 20 = .ok (.iload_n 2, 1) := by decide +kernel
theorem dX4_sellToBuyer_21 : decode cX4_sellToBuyer 21 = .ok (.invokevirtual 158, 3) := by decide +kernel
theorem dX4_sellToBuyer_24 : decode cX4_sellToBuyer 24 = .ok (.invokestatic 161, 3) := by decide +kernel
theorem dX4_sellToBuyer_27 : decode cX4_sellToBuyer 27 = .ok (.istore_n 3, 1) := by decide +kernel
theorem dX4_sellToBuyer_28 : decode cX4_sellToBuyer 28 = .ok (.aload_n 0, 1) := by decide +kernel
theorem dX4_sellToBuyer_29 : decode cX4_sellToBuyer 29 = .ok (.iload_n 1, 1) := by decide +kernel
theorem dX4_sellToBuyer_30 : decode cX4_sellToBuyer 30 = .ok (.iconst 3, 1) := by decide +kernel
theorem dX4_sellToBuyer_31 : decode cX4_sellToBuyer 31 = .ok (.iload_n 2, 1) := by decide +kernel
theorem dX4_sellToBuyer_32 : decode cX4_sellToBuyer 32 = .ok (.iload_n 3, 1) := by decide +kernel
theorem dX4_sellToBuyer_33 : decode cX4_sellToBuyer 33 = .ok (.aload_n 0, 1) := by decide +kernel
theorem dX4_sellToBuyer_34 : decode cX4_sellToBuyer 34 = .ok (.getfield 35, 3) := by decide +kernel
theorem dX4_sellToBuyer_37 : decode cX4_sellToBuyer 37 = .ok (.getfield 187, 3) := by decide +kernel
theorem dX4_sellToBuyer_40 : decode cX4_sellToBuyer 40 = .ok (.iload_n 1, 1) := by decide +kernel
theorem dX4_sellToBuyer_41 : decode cX4_sellToBuyer 41 = .ok (.iaload, 1) := by decide +kernel
theorem dX4_sellToBuyer_42 : decode cX4_sellToBuyer 42 = .ok (.invokevirtual 173, 3) := by decide +kernel
theorem dX4_sellToBuyer_45 : decode cX4_sellToBuyer 45 = .ok (.return_, 1) := by decide +kernel
theorem hy_X4_sellToBuyer : yX4_sellToBuyer.cls ≠ "java/lang/invoke/MethodHandle" ∧ yX4_sellToBuyer.cls ≠ "java/lang/invoke/VarHandle" ∧ (parseMethodDescriptor yX4_sellToBuyer.desc).map (fun d => d.parameters.length) = some 1 := ⟨by decide +kernel, by decide +kernel, by decide +kernel⟩
set_option maxHeartbeats 4000000 in
set_option maxRecDepth 100000 in
theorem c_X4_sellToBuyer (l0 : Launch) (D0 : va_G) (cI0 cJ0 : ClassId) (ad : Nat → Nat → Nat) (S : zM) (r : Nat) (hr : r < 5) (o : Int) (hI : Inv0 (S r)) (h1 : 0 ≤ o ∧ o < S r 14) : Ct l0 D0 cI0 cJ0 ad yX4_sellToBuyer cX4_sellToBuyer 4 none 3 73 [.ref (ad r 0), .int (i32 o)] S none (fun X => X = (us S r (sp_toB (S r) o))) := by
  refine Ct.of (by decide) (Nat.le_of_ble_eq_true rfl) (fun E hE hR => ?_)
  have hE : zG E l0 D0 cI0 cJ0 ad cX4_sellToBuyer 4 RX4 3 73 := hE
  show Z E S 0 [(0, .ref (ad r 0)), (1, .int (i32 o))] []
  have hA := inA hI
  unfold InvA at hA
  have ho := inO hI o h1.1 h1.2
  have hro := room_b hI (m := S r (56 + 22 * o)) (by omega) (by omega)
  refine z_aload_n hE 0 rfl rfl dX4_sellToBuyer_0 ?_
  refine gf_4_3 hE (ks_m hr (by decide)) zf_X4_35 dX4_sellToBuyer_1 ?_
  refine gf_3_2 hE (ks_m hr (by decide)) zf_X4_184 dX4_sellToBuyer_4 ?_
  refine z_iload_n hE 1 rfl rfl dX4_sellToBuyer_7 ?_
  refine al_10 hE (ks_m hr (by decide)) (by omega) (by omega) dX4_sellToBuyer_8 ?_
  refine z_istore_n hE rfl (by decide) rfl dX4_sellToBuyer_9 ?_
  refine z_aload_n hE 1 rfl rfl dX4_sellToBuyer_10 ?_
  refine gf_4_3 hE (ks_m hr (by decide)) zf_X4_35 dX4_sellToBuyer_11 ?_
  refine gf_3_4 hE (ks_m hr (by decide)) zf_X4_137 dX4_sellToBuyer_14 ?_
  refine z_iload_n hE 2 rfl rfl dX4_sellToBuyer_17 ?_
  refine al_12 hE (ks_m hr (by decide)) (by omega) (by omega) dX4_sellToBuyer_18 ?_
  refine z_aload_n hE 1 rfl rfl dX4_sellToBuyer_19 ?_
  refine z_iload_n hE 0 rfl rfl dX4_sellToBuyer_20 ?_
  refine z_callV hE (c_X4_roomOf l0 D0 cI0 cJ0 ad S r hr (S r (56 + 22 * o)) hI (by omega)) (ks_m hr (by decide)) rfl rfl zm_X4_158 zi_yX4_roomOf zs_yX4_roomOf zn_RX4 zc_yX4_roomOf (hy_X4_roomOf) (Nat.le_of_ble_eq_true rfl) (Nat.le_of_ble_eq_true rfl) rfl rfl rfl (Nat.le_of_ble_eq_true rfl) dX4_sellToBuyer_21 ?_
  refine z_min hE zm_X4_161 (by decide) (Nat.le_of_ble_eq_true rfl) ⟨by omega, by omega⟩ ⟨by omega, by omega⟩ dX4_sellToBuyer_24 ?_
  refine z_istore_n hE rfl (by decide) rfl dX4_sellToBuyer_27 ?_
  refine z_aload_n hE 2 rfl rfl dX4_sellToBuyer_28 ?_
  refine z_iload_n hE 3 rfl rfl dX4_sellToBuyer_29 ?_
  refine z_iconst hE dX4_sellToBuyer_30 ?_
  refine z_iload_n hE 1 rfl rfl dX4_sellToBuyer_31 ?_
  refine z_iload_n hE 0 rfl rfl dX4_sellToBuyer_32 ?_
  refine z_aload_n hE 2 rfl rfl dX4_sellToBuyer_33 ?_
  refine gf_4_3 hE (ks_m hr (by decide)) zf_X4_35 dX4_sellToBuyer_34 ?_
  refine gf_3_3 hE (ks_m hr (by decide)) zf_X4_187 dX4_sellToBuyer_37 ?_
  refine z_iload_n hE 3 rfl rfl dX4_sellToBuyer_40 ?_
  refine al_11 hE (ks_m hr (by decide)) (by omega) (by omega) dX4_sellToBuyer_41 ?_
  refine z_callV hE (c_X4_sellToMember l0 D0 cI0 cJ0 ad S r hr o 3 (S r (56 + 22 * o)) (min (S r (57 + 22 * o)) (sp_room ((S r)) (S r (56 + 22 * o)))) (S r (58 + 22 * o)) (by omega) (by omega) (by omega) (by omega) (by omega) (by omega)) (ks_m hr (by decide)) rfl rfl zm_X4_173 zi_yX4_sellToMember zs_yX4_sellToMember zn_RX4 zc_yX4_sellToMember (hy_X4_sellToMember) (Nat.le_of_ble_eq_true rfl) (Nat.le_of_ble_eq_true rfl) rfl rfl rfl (Nat.le_of_ble_eq_true rfl) dX4_sellToBuyer_42 ?_
  exact z_vret hE hR dX4_sellToBuyer_45 rfl (by rfl)
theorem sell_ne {s : Int → Int} {o w m n pr q : Int} (h1 : ∀ x : Int, q ≠ 19 + 3 * x) (h2 : ∀ x : Int, q ≠ 21 + 3 * x) (h3 : q ≠ 57 + 22 * o) (h4 : q ≠ 61 + 22 * o + w) : sp_sell s o w m n pr q = s q := by
  unfold sp_sell sp_take sp_buy
  rw [uq_ne h4, uq_ne h3, uq_ne (h2 _), uq_ne (h1 _), uq_ne (h2 _), uq_ne (h1 _)]
/-- a place outside the members' shares and accounts and outside the offer's remains and sales -/
theorem sell_keep {s : Int → Int} {o w m n pr q : Int} (hs : 0 ≤ s (55 + 22 * o) ∧ s (55 + 22 * o) < 12) (hm : 0 ≤ m ∧ m < 12) (ho : 0 ≤ o) (h1 : q < 19 ∨ 55 ≤ q ∨ (q - 19) % 3 = 1) (h3 : q ≠ 57 + 22 * o) (h4 : q ≠ 61 + 22 * o + w) : sp_sell s o w m n pr q = s q := by
  unfold sp_sell sp_take
  have e : sp_buy s m n pr (55 + 22 * o) = s (55 + 22 * o) := by
    unfold sp_buy
    rw [uq_ne (by omega), uq_ne (by omega)]
  rw [uq_ne h4, uq_ne h3, e, uq_ne (by omega), uq_ne (by omega)]
  unfold sp_buy
  rw [uq_ne (by omega), uq_ne (by omega)]
theorem sells_keep {g : Int → Int} {o st : Int} {s : Int → Int} (hs : 0 ≤ s (55 + 22 * o) ∧ s (55 + 22 * o) < 12) (ho : 0 ≤ o) (hst : 0 ≤ st ∧ st < 4) : ∀ {n : Nat} {q : Int}, n ≤ 12 → (q < 19 ∨ 55 ≤ q ∨ (q - 19) % 3 = 1) → q ≠ 57 + 22 * o → q ≠ 61 + 22 * o + st → sp_sells g o st s n q = s q
  | 0, _, _, _, _, _ => rfl
  | n + 1, q, hn, h1, h3, h4 => by
    show sp_sell _ o st n (g n) _ q = s q
    have ih : sp_sells g o st s n (55 + 22 * o) = s (55 + 22 * o) := sells_keep hs ho hst (by omega) (by omega) (by omega) (by omega)
    rw [sell_keep (by rw [ih]; exact hs) (by omega) ho h1 h3 h4]
    exact sells_keep hs ho hst (by omega) h1 h3 h4
theorem sells_s {g : Int → Int} {o st i : Int} {s : Int → Int} (h : 0 ≤ i) : sp_sells g o st s (i + 1).toNat = sp_sell (sp_sells g o st s i.toNat) o st i (g i) (sp_sells g o st s i.toNat 6) := by
  rw [show (i + 1).toNat = i.toNat + 1 by omega]
  show sp_sell (sp_sells g o st s i.toNat) o st (i.toNat : Int) (g (i.toNat : Int)) (sp_sells g o st s i.toNat 6) = _
  rw [Int.toNat_of_nonneg h]
theorem gd_1 {g d : Int → Int} {i v : Int} (hv : v = d i) (h0 : 0 ≤ i) (hi : i < 12) (hg : ∀ k : Int, 0 ≤ k → k < i → g (100 + k) = d k) : ∀ k : Int, 0 ≤ k → k < i + 1 → up g (100 + i) v (100 + k) = d k := by
  intro k h1 h2
  by_cases e : k = i
  · rw [e, up_eq]; exact hv
  · rw [up_ne (by omega)]; exact hg k h1 (by omega)
theorem sells_cg {g g2 : Int → Int} {o st : Int} {s : Int → Int} : ∀ {n : Nat}, n ≤ 12 → (∀ k : Int, 0 ≤ k → k < 12 → g k = g2 k) → sp_sells g o st s n = sp_sells g2 o st s n
  | 0, _, _ => rfl
  | n + 1, hn, h => by
    show sp_sell _ o st n (g n) _ = sp_sell _ o st n (g2 n) _
    rw [sells_cg (n := n) (by omega) h, h n (by omega) (by omega)]
theorem gets_cg {d d2 : Int → Int} {w : Int} (h : ∀ k : Int, 0 ≤ k → k < 12 → d k = d2 k) : ∀ k : Int, 0 ≤ k → k < 12 → sp_gets d w k = sp_gets d2 w k := by
  intro k h0 h1
  have e : sm d 12 = sm d2 12 := sm_cg h
  have hq : ∀ k : Int, 0 ≤ k → k < 12 → sp_quo d w k = sp_quo d2 w k := fun k a b => by unfold sp_quo; rw [h k a b, e]
  have hl : sp_left d w = sp_left d2 w := by unfold sp_left; rw [sm_cg hq]
  unfold sp_gets
  rw [e]
  split
  · exact h k h0 h1
  · rw [hl]
    exact hnd_cg hq (fun k a b => by unfold sp_rst; rw [h k a b, e]) k h0 h1
theorem gets_b {d : Int → Int} {w : Int} (hd : ∀ k : Int, 0 ≤ k → k < 12 → 0 ≤ d k ∧ d k ≤ 1000) (hw : 0 ≤ w ∧ w ≤ 1000) : ∀ k : Int, 0 ≤ k → k < 12 → 0 ≤ sp_gets d w k ∧ sp_gets d w k ≤ 1001000 := by
  intro k h0 h1
  unfold sp_gets
  split
  · have := hd k h0 h1; omega
  · rename_i hA
    have hl := left_b hd hw (by omega)
    have key : ∀ (n : Nat) (g r : Int → Int) (a : Int), (∀ k : Int, 0 ≤ k → k < 12 → 0 ≤ g k ∧ g k ≤ a) → ∀ k : Int, 0 ≤ k → k < 12 → 0 ≤ hnd (-1) n g r k ∧ hnd (-1) n g r k ≤ a + n := by
      intro n
      induction n with
      | zero => intro g r a h k h0 h1; have := h k h0 h1; show 0 ≤ g k ∧ g k ≤ _; omega
      | succ n ih =>
        intro g r a h k h0 h1
        have hb := bst_b r 11
        have h3 := h _ hb.1 (by omega)
        have := ih (up g (bst r 11) (g (bst r 11) + 1)) (up r (bst r 11) (-1)) (a + 1) (fun k h0 h1 => by
          have := h k h0 h1
          unfold up; split <;> omega) k h0 h1
        show 0 ≤ hnd (-1) n _ _ k ∧ hnd (-1) n _ _ k ≤ _
        omega
    have := key (sp_left d w).toNat (sp_quo d w) (sp_rst d w) 1000000 (fun k a b => (quo_b hd hw (by omega) a b).2.1) k h0 h1
    omega
theorem dX4_sellToClaimants_0 : decode cX4_sellToClaimants 0 = .ok (.iconst 0, 1) := by decide +kernel
theorem dX4_sellToClaimants_1 : decode cX4_sellToClaimants 1 = .ok (.istore 4, 2) := by decide +kernel
theorem dX4_sellToClaimants_3 : decode cX4_sellToClaimants 3 = .ok (.iload 4, 2) := by decide +kernel
theorem dX4_sellToClaimants_5 : decode cX4_sellToClaimants 5 = .ok (.bipush 12, 2) := by decide +kernel
theorem dX4_sellToClaimants_7 : decode cX4_sellToClaimants 7 = .ok (.if_icmp .ge 35, 3) := by decide +kernel
theorem dX4_sellToClaimants_10 : decode cX4_sellToClaimants 10 = .ok (.aload_n 3, 1) := by decide +kernel
theorem dX4_sellToClaimants_11 : decode cX4_sellToClaimants 11 = .ok (.getfield 150, 3) := by decide +kernel
theorem dX4_sellToClaimants_14 : decode cX4_sellToClaimants 14 = .ok (.iload 4, 2) := by decide +kernel
theorem dX4_sellToClaimants_16 : decode cX4_sellToClaimants 16 = .ok (.aload_n 0, 1) := by decide +kernel
theorem dX4_sellToClaimants_17 : decode cX4_sellToClaimants 17 = .ok (.getfield 35, 3) := by decide +kernel
theorem dX4_sellToClaimants_20 : decode cX4_sellToClaimants 20 = .ok (.iload_n 1, 1) := by decide +kernel
theorem dX4_sellToClaimants_21 : decode cX4_sellToClaimants 21 = .ok (.iload 4, 2) := by decide +kernel
theorem dX4_sellToClaimants_23 : decode cX4_sellToClaimants 23 = .ok (.invokevirtual 155, 3) := by decide +kernel
theorem dX4_sellToClaimants_26 : decode cX4_sellToClaimants 26 = .ok (.aload_n 0, 1) := by decide +kernel
theorem dX4_sellToClaimants_27 : decode cX4_sellToClaimants 27 = .ok (.iload 4, 2) := by decide +kernel
theorem dX4_sellToClaimants_29 : decode cX4_sellToClaimants 29 = .ok (.invokevirtual 158, 3) := by decide +kernel
theorem dX4_sellToClaimants_32 : decode cX4_sellToClaimants 32 = .ok (.invokestatic 161, 3) := by decide +kernel
theorem dX4_sellToClaimants_35 : decode cX4_sellToClaimants 35 = .ok (.iastore, 1) := by decide +kernel
theorem dX4_sellToClaimants_36 : decode cX4_sellToClaimants 36 = .ok (.iinc 4 1, 3) := by decide +kernel
theorem dX4_sellToClaimants_39 : decode cX4_sellToClaimants 39 = .ok (.goto (-36), 3) := by decide +kernel
theorem dX4_sellToClaimants_42 : decode cX4_sellToClaimants 42 = .ok (.aload_n 3, 1) := by decide +kernel
theorem dX4_sellToClaimants_43 : decode cX4_sellToClaimants 43 = .ok (.aload_n 0, 1) := by decide +kernel
theorem dX4_sellToClaimants_44 : decode cX4_sellToClaimants 44 = .ok (.getfield 35, 3) := by decide +kernel
theorem dX4_sellToClaimants_47 : decode cX4_sellToClaimants 47 = .ok (.getfield 137, 3) := by decide +kernel
theorem dX4_sellToClaimants_50 : decode cX4_sellToClaimants 50 = .ok (.iload_n 1, 1) := by decide +kernel
theorem dX4_sellToClaimants_51 : decode cX4_sellToClaimants 51 = .ok (.iaload, 1) := by decide +kernel
theorem dX4_sellToClaimants_52 : decode cX4_sellToClaimants 52 = .ok (.invokevirtual 164, 3) := by decide +kernel
theorem dX4_sellToClaimants_55 : decode cX4_sellToClaimants 55 = .ok (.iconst 0, 1) := by decide +kernel
theorem dX4_sellToClaimants_56 : decode cX4_sellToClaimants 56 = .ok (.istore 4, 2) := by decide +kernel
theorem dX4_sellToClaimants_58 : decode cX4_sellToClaimants 58 = .ok (.iload 4, 2) := by decide +kernel
theorem dX4_sellToClaimants_60 : decode cX4_sellToClaimants 60 = .ok (.bipush 12, 2) := by decide +kernel
theorem dX4_sellToClaimants_62 : decode cX4_sellToClaimants 62 = .ok (.if_icmp .ge 31, 3) := by decide +kernel
theorem dX4_sellToClaimants_65 : decode cX4_sellToClaimants 65 = .ok (.aload_n 0, 1) := by decide +kernel
theorem dX4_sellToClaimants_66 : decode cX4_sellToClaimants 66 = .ok (.iload_n 1, 1) := by decide +kernel
theorem dX4_sellToClaimants_67 : decode cX4_sellToClaimants 67 = .ok (.iload_n 2, 1) := by decide +kernel
theorem dX4_sellToClaimants_68 : decode cX4_sellToClaimants 68 = .ok (.iload 4, 2) := by decide +kernel
theorem dX4_sellToClaimants_70 : decode cX4_sellToClaimants 70 = .ok (.aload_n 3, 1) := by decide +kernel
theorem dX4_sellToClaimants_71 : decode cX4_sellToClaimants 71 = .ok (.getfield 167, 3) := by decide +kernel
theorem dX4_sellToClaimants_74 : decode cX4_sellToClaimants 74 = .ok (.iload 4, 2) := by decide +kernel
theorem dX4_sellToClaimants_76 : decode cX4_sellToClaimants 76 = .ok (.iaload, 1) := by decide +kernel
theorem dX4_sellToClaimants_77 : decode cX4_sellToClaimants 77 = .ok (.aload_n 0, 1) := by decide +kernel
theorem dX4_sellToClaimants_78 : decode cX4_sellToClaimants 78 = .ok (.getfield 28, 3) := by decide +kernel
theorem dX4_sellToClaimants_81 : decode cX4_sellToClaimants 81 = .ok (.getfield 170, 3) := by decide +kernel
theorem dX4_sellToClaimants_84 : decode cX4_sellToClaimants 84 = .ok (.invokevirtual 173, 3) := by decide +kernel
theorem dX4_sellToClaimants_87 : decode cX4_sellToClaimants 87 = .ok (.iinc 4 1, 3) := by decide +kernel
theorem dX4_sellToClaimants_90 : decode cX4_sellToClaimants 90 = .ok (.goto (-32), 3) := by decide +kernel
theorem dX4_sellToClaimants_93 : decode cX4_sellToClaimants 93 = .ok (.return_, 1) := by decide +kernel
theorem hy_X4_sellToClaimants : yX4_sellToClaimants.cls ≠ "java/lang/invoke/MethodHandle" ∧ yX4_sellToClaimants.cls ≠ "java/lang/invoke/VarHandle" ∧ (parseMethodDescriptor yX4_sellToClaimants.desc).map (fun d => d.parameters.length) = some 3 := ⟨by decide +kernel, by decide +kernel, by decide +kernel⟩
set_option maxHeartbeats 4000000 in
set_option maxRecDepth 100000 in
theorem lp_X4_sellToClaimants_b {E : zE} {l0 : Launch} {D0 : va_G} {cI0 cJ0 : ClassId} {ad : Nat → Nat → Nat} (hE : zG E l0 D0 cI0 cJ0 ad cX4_sellToClaimants 5 RX4 3 73) (S : zM) (r : Nat) (hr : r < 5) (o : Int) (st : Int) (hI : Inv0 (S r)) (h1 : 0 ≤ o ∧ o < S r 14) (h2 : 0 ≤ st ∧ st < 2) (hR : zR E none none (fun X => ∃ g : Int → Int, X = us (us S 5 g) r (sp_clm (S r) o st) ∧ ∀ q : Int, q < 100 → g q = S 5 q)) : ∀ (fuel : Nat) (i : Int) (g : Int → Int) (h9 : 0 ≤ i ∧ i ≤ 12) (hg : ∀ k : Int, 0 ≤ k → k < 12 → g (200 + k) = sp_gets (sp_dem (S r) o) (S r (57 + 22 * o)) k) (hq : ∀ q : Int, q < 100 → g q = S 5 q), (12 - i).toNat < fuel → Z E (us (us S 5 g) r (sp_sells (sp_gets (sp_dem (S r) o) (S r (57 + 22 * o))) o st (S r) i.toNat)) 58 [(4, .int (i32 i)), (0, .ref (ad r 0)), (1, .int (i32 o)), (2, .int (i32 st)), (3, .ref (ad 5 23))] [] := by
  intro fuel
  induction fuel with
  | zero => intro _ _ _ _ _ hz; omega
  | succ fuel ih =>
    intro i g h9 hg hq hz
    have hA := inA hI
    unfold InvA at hA
    have ho := inO hI o h1.1 h1.2
    have h5 : r ≠ 5 := by omega
    have h5b : 5 ≠ r := by omega
    refine z_iload hE 0 rfl dX4_sellToClaimants_58 ?_
    refine z_bipush (a := 12) hE (by decide) dX4_sellToClaimants_60 ?_
    refine z_icmp_ge (tgt := 93) hE dX4_sellToClaimants_62 (by decide) ⟨by omega, by omega⟩ ⟨by omega, by omega⟩ (fun c1 => ?_) (fun c1 => ?_)
    · exact z_vret hE hR dX4_sellToClaimants_93 rfl (by exact ⟨g, by rw [show i = 12 by omega]; rfl, hq⟩)
    · have hk := fun q => sells_keep (g := sp_gets (sp_dem (S r) o) (S r (57 + 22 * o))) (o := o) (st := st) (s := S r) ⟨by omega, by omega⟩ (by omega) ⟨by omega, by omega⟩ (n := i.toNat) (q := q) (by omega)
      have hgb := gets_b (d := sp_dem (S r) o) (w := S r (57 + 22 * o)) (fun k a b => dem_b hI (by omega) (by omega) a b) ⟨by omega, by omega⟩ i h9.1 (by omega)
      refine z_aload_n hE 1 rfl rfl dX4_sellToClaimants_65 ?_
      refine z_iload_n hE 2 rfl rfl dX4_sellToClaimants_66 ?_
      refine z_iload_n hE 3 rfl rfl dX4_sellToClaimants_67 ?_
      refine z_iload hE 0 rfl dX4_sellToClaimants_68 ?_
      refine z_aload_n hE 4 rfl rfl dX4_sellToClaimants_70 ?_
      refine gf_6_1 hE (by decide) zf_X4_167 dX4_sellToClaimants_71 ?_
      refine z_iload hE 0 rfl dX4_sellToClaimants_74 ?_
      refine al_25 hE (by decide) (by omega) (by omega) dX4_sellToClaimants_76 ?_
      try simp only [us_eq, us_us, us_ne h5, us_ne h5b, us_in h5b]
      rw [hg i h9.1 (by omega)]
      refine z_aload_n hE 1 rfl rfl dX4_sellToClaimants_77 ?_
      refine gf_4_2 hE (ks_m hr (by decide)) zf_X4_28 dX4_sellToClaimants_78 ?_
      refine gf_0_2 hE (ks_m hr (by decide)) zf_X4_170 dX4_sellToClaimants_81 ?_
      try simp only [us_eq, us_us, us_ne h5, us_ne h5b, us_in h5b]
      rw [hk 6 (by omega) (by omega) (by omega)]
      refine z_callV hE (c_X4_sellToMember l0 D0 cI0 cJ0 ad (us (us S 5 g) r (sp_sells (sp_gets (sp_dem (S r) o) (S r (57 + 22 * o))) o st (S r) i.toNat)) r hr o st i (sp_gets (sp_dem (S r) o) (S r (57 + 22 * o)) i) (S r 6) (by first | omega | (simp only [us_eq, us_ne h5, us_ne h5b]; omega)) (by rw [us_eq, hk _ (by omega) (by omega) (by omega)]; omega) (by first | omega | (simp only [us_eq, us_ne h5, us_ne h5b]; omega)) (by first | omega | (simp only [us_eq, us_ne h5, us_ne h5b]; omega)) (by first | omega | (simp only [us_eq, us_ne h5, us_ne h5b]; omega)) (by first | omega | (simp only [us_eq, us_ne h5, us_ne h5b]; omega))) (ks_m hr (by decide)) rfl rfl zm_X4_173 zi_yX4_sellToMember zs_yX4_sellToMember zn_RX4 zc_yX4_sellToMember (hy_X4_sellToMember) (Nat.le_of_ble_eq_true rfl) (Nat.le_of_ble_eq_true rfl) rfl rfl rfl (Nat.le_of_ble_eq_true rfl) dX4_sellToClaimants_84 ?_
      try simp only [us_eq, us_us, us_ne h5, us_ne h5b, us_in h5b]
      refine z_iinc hE 0 rfl (by decide) rfl dX4_sellToClaimants_87 ?_
      refine z_goto (tgt := 58) hE (d := dX4_sellToClaimants_90) (ht := by decide) ?_
      refine z_L (L' := [(4, .int (i32 (i + 1))), (0, .ref (ad r 0)), (1, .int (i32 o)), (2, .int (i32 st)), (3, .ref (ad 5 23))]) [0, 1, 2, 3, 4] (by rfl) ?_
      rw [← hk 6 (by omega) (by omega) (by omega), ← sells_s h9.1]
      exact ih (i + 1) g ⟨by omega, by omega⟩ hg hq (by omega)
set_option maxHeartbeats 4000000 in
set_option maxRecDepth 100000 in
theorem lp_X4_sellToClaimants_a {E : zE} {l0 : Launch} {D0 : va_G} {cI0 cJ0 : ClassId} {ad : Nat → Nat → Nat} (hE : zG E l0 D0 cI0 cJ0 ad cX4_sellToClaimants 5 RX4 3 73) (S : zM) (r : Nat) (hr : r < 5) (o : Int) (st : Int) (hI : Inv0 (S r)) (h1 : 0 ≤ o ∧ o < S r 14) (h2 : 0 ≤ st ∧ st < 2) (hR : zR E none none (fun X => ∃ g : Int → Int, X = us (us S 5 g) r (sp_clm (S r) o st) ∧ ∀ q : Int, q < 100 → g q = S 5 q)) : ∀ (fuel : Nat) (i : Int) (g : Int → Int) (h9 : 0 ≤ i ∧ i ≤ 12) (hg : ∀ k : Int, 0 ≤ k → k < i → g (100 + k) = sp_dem (S r) o k) (hq : ∀ q : Int, q < 100 → g q = S 5 q), (12 - i).toNat < fuel → Z E (us S 5 g) 3 [(4, .int (i32 i)), (0, .ref (ad r 0)), (1, .int (i32 o)), (2, .int (i32 st)), (3, .ref (ad 5 23))] [] := by
  intro fuel
  induction fuel with
  | zero => intro _ _ _ _ _ hz; omega
  | succ fuel ih =>
    intro i g h9 hg hq hz
    have hA := inA hI
    unfold InvA at hA
    have ho := inO hI o h1.1 h1.2
    have h5 : r ≠ 5 := by omega
    have h5b : 5 ≠ r := by omega
    refine z_iload hE 0 rfl dX4_sellToClaimants_3 ?_
    refine z_bipush (a := 12) hE (by decide) dX4_sellToClaimants_5 ?_
    refine z_icmp_ge (tgt := 42) hE dX4_sellToClaimants_7 (by decide) ⟨by omega, by omega⟩ ⟨by omega, by omega⟩ (fun c1 => ?_) (fun c1 => ?_)
    · refine z_aload_n hE 4 rfl rfl dX4_sellToClaimants_42 ?_
      refine z_aload_n hE 1 rfl rfl dX4_sellToClaimants_43 ?_
      refine gf_4_3 hE (ks_m hr (by decide)) zf_X4_35 dX4_sellToClaimants_44 ?_
      refine gf_3_4 hE (ks_m hr (by decide)) zf_X4_137 dX4_sellToClaimants_47 ?_
      refine z_iload_n hE 2 rfl rfl dX4_sellToClaimants_50 ?_
      refine al_12 hE (ks_m hr (by decide)) (by omega) (by omega) dX4_sellToClaimants_51 ?_
      try simp only [us_eq, us_us, us_ne h5, us_ne h5b, us_in h5b]
      refine z_callVp hE (c_X6_divide l0 D0 cI0 cJ0 ad (us S 5 g) (S r (57 + 22 * o)) (by omega) (by rw [us_eq]; exact fun k a b => by rw [hg k a (by omega)]; exact dem_b hI (by omega) (by omega) a b)) (by decide) rfl rfl zm_X4_164 zi_yX6_divide zs_yX6_divide zn_RX6 zc_yX6_divide (hy_X6_divide) (Nat.le_of_ble_eq_true rfl) (Nat.le_of_ble_eq_true rfl) rfl rfl rfl (Nat.le_of_ble_eq_true rfl) dX4_sellToClaimants_52 (fun M52 hM52 => ?_)
      obtain ⟨g3, rfl, hg3, hg4⟩ := hM52
      try simp only [us_eq, us_us, us_ne h5, us_ne h5b, us_in h5b]
      try simp only [us_eq] at hg3 hg4
      refine z_iconst hE dX4_sellToClaimants_55 ?_
      refine z_istore hE (by decide) rfl dX4_sellToClaimants_56 ?_
      refine z_L (L' := [(4, .int (i32 0)), (0, .ref (ad r 0)), (1, .int (i32 o)), (2, .int (i32 st)), (3, .ref (ad 5 23))]) [0, 1, 2, 3, 4] (by rfl) ?_
      rw [show us S 5 g3 = us (us S 5 g3) r (sp_sells (sp_gets (sp_dem (S r) o) (S r (57 + 22 * o))) o st (S r) (0 : Int).toNat) from by (show _ = us (us S 5 g3) r (S r); rw [show S r = us S 5 g3 r from (us_ne h5).symm, us_id])]
      exact lp_X4_sellToClaimants_b hE S r hr o st hI h1 h2 hR 13 0 g3 ⟨by omega, by omega⟩ (fun k h1 h2 => by rw [hg3 k h1 h2]; exact gets_cg (fun j h3 h4 => by rw [hg j h3 (by omega)]) k h1 h2) (fun q h1 => by rw [hg4 q (by omega)]; exact hq q h1) (by omega)
    · have hc := inC hI o i (by omega) (by omega) h9.1 (by omega)
      have hro := room_b hI h9.1 (show i < 12 by omega)
      refine z_aload_n hE 4 rfl rfl dX4_sellToClaimants_10 ?_
      refine gf_6_0 hE (by decide) zf_X4_150 dX4_sellToClaimants_11 ?_
      refine z_iload hE 0 rfl dX4_sellToClaimants_14 ?_
      refine z_aload_n hE 1 rfl rfl dX4_sellToClaimants_16 ?_
      refine gf_4_3 hE (ks_m hr (by decide)) zf_X4_35 dX4_sellToClaimants_17 ?_
      refine z_iload_n hE 2 rfl rfl dX4_sellToClaimants_20 ?_
      refine z_iload hE 0 rfl dX4_sellToClaimants_21 ?_
      refine z_callV hE (c_X3_claimBy l0 D0 cI0 cJ0 ad (us S 5 g) r hr o i (by first | omega | (simp only [us_eq, us_ne h5, us_ne h5b]; omega)) (by first | omega | (simp only [us_eq, us_ne h5, us_ne h5b]; omega))) (ks_m hr (by decide)) rfl rfl zm_X4_155 zi_yX3_claimBy zs_yX3_claimBy zn_RX3 zc_yX3_claimBy (hy_X3_claimBy) (Nat.le_of_ble_eq_true rfl) (Nat.le_of_ble_eq_true rfl) rfl rfl rfl (Nat.le_of_ble_eq_true rfl) dX4_sellToClaimants_23 ?_
      try simp only [us_eq, us_us, us_ne h5, us_ne h5b, us_in h5b]
      refine z_aload_n hE 1 rfl rfl dX4_sellToClaimants_26 ?_
      refine z_iload hE 0 rfl dX4_sellToClaimants_27 ?_
      refine z_callV hE (c_X4_roomOf l0 D0 cI0 cJ0 ad (us S 5 g) r hr i (by rw [us_ne h5]; exact hI) (by first | omega | (simp only [us_eq, us_ne h5, us_ne h5b]; omega))) (ks_m hr (by decide)) rfl rfl zm_X4_158 zi_yX4_roomOf zs_yX4_roomOf zn_RX4 zc_yX4_roomOf (hy_X4_roomOf) (Nat.le_of_ble_eq_true rfl) (Nat.le_of_ble_eq_true rfl) rfl rfl rfl (Nat.le_of_ble_eq_true rfl) dX4_sellToClaimants_29 ?_
      try simp only [us_eq, us_us, us_ne h5, us_ne h5b, us_in h5b]
      refine z_min hE zm_X4_161 (by decide) (Nat.le_of_ble_eq_true rfl) ⟨by omega, by omega⟩ ⟨by omega, by omega⟩ dX4_sellToClaimants_32 ?_
      refine as_24 hE (by decide) (by omega) (by omega) dX4_sellToClaimants_35 ?_
      try simp only [us_eq, us_us, us_ne h5, us_ne h5b, us_in h5b]
      rw [show min (S r (65 + 22 * o + i)) (sp_room (S r) i) = sp_dem (S r) o i from rfl]
      refine z_iinc hE 0 rfl (by decide) rfl dX4_sellToClaimants_36 ?_
      refine z_goto (tgt := 3) hE (d := dX4_sellToClaimants_39) (ht := by decide) ?_
      refine z_L (L' := [(4, .int (i32 (i + 1))), (0, .ref (ad r 0)), (1, .int (i32 o)), (2, .int (i32 st)), (3, .ref (ad 5 23))]) [0, 1, 2, 3, 4] (by rfl) ?_
      exact ih (i + 1) (up g (100 + i) (sp_dem (S r) o i)) ⟨by omega, by omega⟩ (gd_1 rfl h9.1 (by omega) hg) (fun q h1 => by rw [up_ne (by omega)]; exact hq q h1) (by omega)
set_option maxHeartbeats 4000000 in
set_option maxRecDepth 100000 in
theorem c_X4_sellToClaimants (l0 : Launch) (D0 : va_G) (cI0 cJ0 : ClassId) (ad : Nat → Nat → Nat) (S : zM) (r : Nat) (hr : r < 5) (o : Int) (st : Int) (hI : Inv0 (S r)) (h1 : 0 ≤ o ∧ o < S r 14) (h2 : 0 ≤ st ∧ st < 2) : Ct l0 D0 cI0 cJ0 ad yX4_sellToClaimants cX4_sellToClaimants 5 none 3 73 [.ref (ad r 0), .int (i32 o), .int (i32 st), .ref (ad 5 23)] S none (fun X => ∃ g : Int → Int, X = us (us S 5 g) r (sp_clm (S r) o st) ∧ ∀ q : Int, q < 100 → g q = S 5 q) := by
  refine Ct.of (by decide) (Nat.le_of_ble_eq_true rfl) (fun E hE hR => ?_)
  have hE : zG E l0 D0 cI0 cJ0 ad cX4_sellToClaimants 5 RX4 3 73 := hE
  show Z E S 0 [(0, .ref (ad r 0)), (1, .int (i32 o)), (2, .int (i32 st)), (3, .ref (ad 5 23))] []
  have hA := inA hI
  unfold InvA at hA
  have ho := inO hI o h1.1 h1.2
  have h5 : r ≠ 5 := by omega
  have h5b : 5 ≠ r := by omega
  refine z_iconst hE dX4_sellToClaimants_0 ?_
  refine z_istore hE (by decide) rfl dX4_sellToClaimants_1 ?_
  refine z_L (L' := [(4, .int (i32 0)), (0, .ref (ad r 0)), (1, .int (i32 o)), (2, .int (i32 st)), (3, .ref (ad 5 23))]) [0, 1, 2, 3, 4] (by rfl) ?_
  rw [show S = us S 5 (S 5) from (us_id S 5).symm]
  exact lp_X4_sellToClaimants_a hE S r hr o st hI h1 h2 hR 13 0 (S 5) ⟨by omega, by omega⟩ (fun k h1 h2 => by omega) (fun q h1 => rfl) (by omega)
