def kp5 (t : Int → Int) (n1 n2 n3 n4 : Int) : Int → Int := up (up (up (up (up t 5 n3) 4 n2) 3 n1) 2 n4) 0 (min (t 0 + 1) 4)
theorem kp5_1 {t : Int → Int} {n1 n2 n3 n4 : Int} : kp5 t n1 n2 n3 n4 1 = t 1 := by unfold kp5; rw [up_ne (by omega), up_ne (by omega), up_ne (by omega), up_ne (by omega), up_ne (by omega)]
theorem dX7_keepState_0 : decode cX7_keepState 0 = .ok (.aload_n 0, 1) := by decide +kernel
theorem dX7_keepState_1 : decode cX7_keepState 1 = .ok (.getfield 25, 3) := by decide +kernel
theorem dX7_keepState_4 : decode cX7_keepState 4 = .ok (.astore_n 1, 1) := by decide +kernel
theorem dX7_keepState_5 : decode cX7_keepState 5 = .ok (.aload_n 0, 1) := by decide +kernel
theorem dX7_keepState_6 : decode cX7_keepState 6 = .ok (.aload_n 0, 1) := by decide +kernel
theorem dX7_keepState_7 : decode cX7_keepState 7 = .ok (.getfield 22, 3) := by decide +kernel
theorem dX7_keepState_10 : decode cX7_keepState 10 = .ok (.putfield 25, 3) := by decide +kernel
theorem dX7_keepState_13 : decode cX7_keepState 13 = .ok (.aload_n 0, 1) := by decide +kernel
theorem dX7_keepState_14 : decode cX7_keepState 14 = .ok (.aload_n 0, 1) := by decide +kernel
theorem dX7_keepState_15 : decode cX7_keepState 15 = .ok (.getfield 19, 3) := by decide +kernel
theorem dX7_keepState_18 : decode cX7_keepState 18 = .ok (.putfield 22, 3) := by decide +kernel
theorem dX7_keepState_21 : decode cX7_keepState 21 = .ok (.aload_n 0, 1) := by decide +kernel
theorem dX7_keepState_22 : decode cX7_keepState 22 = .ok (.aload_n 0, 1) := by decide +kernel
theorem dX7_keepState_23 : decode cX7_keepState 23 = .ok (.getfield 16, 3) := by decide +kernel
theorem dX7_keepState_26 : decode cX7_keepState 26 = .ok (.putfield 19, 3) := by decide +kernel
theorem dX7_keepState_29 : decode cX7_keepState 29 = .ok (.aload_n 0, 1) := by decide +kernel
theorem dX7_keepState_30 : decode cX7_keepState 30 = .ok (.aload_n 1, 1) := by decide +kernel
theorem dX7_keepState_31 : decode cX7_keepState 31 = .ok (.putfield 16, 3) := by decide +kernel
theorem dX7_keepState_34 : decode cX7_keepState 34 = .ok (.aload_n 0, 1) := by decide +kernel
theorem dX7_keepState_35 : decode cX7_keepState 35 = .ok (.getfield 16, 3) := by decide +kernel
theorem dX7_keepState_38 : decode cX7_keepState 38 = .ok (.aload_n 0, 1) := by decide +kernel
theorem dX7_keepState_39 : decode cX7_keepState 39 = .ok (.getfield 10, 3) := by decide +kernel
theorem dX7_keepState_42 : decode cX7_keepState 42 = .ok (.invokevirtual 248, 3) := by decide +kernel
theorem dX7_keepState_45 : decode cX7_keepState 45 = .ok (.aload_n 0, 1) := by decide +kernel
theorem dX7_keepState_46 : decode cX7_keepState 46 = .ok (.aload_n 0, 1) := by decide +kernel
theorem dX7_keepState_47 : decode cX7_keepState 47 = .ok (.getfield 28, 3) := by decide +kernel
theorem dX7_keepState_50 : decode cX7_keepState 50 = .ok (.iconst 1, 1) := by decide +kernel
theorem dX7_keepState_51 : decode cX7_keepState 51 = .ok (.iadd, 1) := by decide +kernel
theorem dX7_keepState_52 : decode cX7_keepState 52 = .ok (.iconst 4, 1) := by decide +kernel
theorem dX7_keepState_53 : decode cX7_keepState 53 = .ok (.invokestatic 252, 3) := by decide +kernel
theorem dX7_keepState_56 : decode cX7_keepState 56 = .ok (.putfield 28, 3) := by decide +kernel
theorem dX7_keepState_59 : decode cX7_keepState 59 = .ok (.return_, 1) := by decide +kernel
theorem hy_X7_keepState : yX7_keepState.cls ≠ "java/lang/invoke/MethodHandle" ∧ yX7_keepState.cls ≠ "java/lang/invoke/VarHandle" ∧ (parseMethodDescriptor yX7_keepState.desc).map (fun d => d.parameters.length) = some 0 := ⟨by decide +kernel, by decide +kernel, by decide +kernel⟩
set_option maxHeartbeats 4000000 in
set_option maxRecDepth 100000 in
theorem c_X7_keepState (l0 : Launch) (D0 : va_G) (cI0 cJ0 : ClassId) (ad : Nat → Nat → Nat) (S : zM) (n0 : Nat) (n1 : Nat) (n2 : Nat) (n3 : Nat) (n4 : Nat) (hn0 : n0 < 5) (hn1 : n1 < 5) (hn2 : n2 < 5) (hn3 : n3 < 5) (hn4 : n4 < 5) (e0 : S 5 1 = (n0 : Int)) (e1 : S 5 2 = (n1 : Int)) (e2 : S 5 3 = (n2 : Int)) (e3 : S 5 4 = (n3 : Int)) (e4 : S 5 5 = (n4 : Int)) (h04 : n0 ≠ n4) (hst : 0 ≤ S 5 0 ∧ S 5 0 ≤ 4) : Ct l0 D0 cI0 cJ0 ad yX7_keepState cX7_keepState 2 none 3 68 [.ref (ad 5 22)] S none (fun X => X = (us (us S n4 (S n0)) 5 (kp5 (S 5) n1 n2 n3 n4))) := by
  refine Ct.of (by decide) (Nat.le_of_ble_eq_true rfl) (fun E hE hR => ?_)
  have hE : zG E l0 D0 cI0 cJ0 ad cX7_keepState 2 RX7 3 68 := hE
  show Z E S 0 [(0, .ref (ad 5 22))] []
  have h05 : n0 ≠ 5 := by omega
  have h50 : 5 ≠ n0 := by omega
  have h45 : n4 ≠ 5 := by omega
  have h54 : 5 ≠ n4 := by omega
  have h40 : n4 ≠ n0 := fun q => h04 q.symm
  refine z_aload_n hE 0 rfl rfl dX7_keepState_0 ?_
  refine gf_7_4 hE (by decide) zf_X7_25 dX7_keepState_1 ?_
  rw [show (S 5 5).toNat = n4 by omega]
  refine z_astore_n hE rfl (by decide) rfl dX7_keepState_4 ?_
  refine z_aload_n hE 1 rfl rfl dX7_keepState_5 ?_
  refine z_aload_n hE 1 rfl rfl dX7_keepState_6 ?_
  refine gf_7_3 hE (by decide) zf_X7_22 dX7_keepState_7 ?_
  rw [show (S 5 4).toNat = n3 by omega]
  refine pf_7_4 hE (by decide) zf_X7_25 dX7_keepState_10 ?_
  refine z_aload_n hE 1 rfl rfl dX7_keepState_13 ?_
  refine z_aload_n hE 1 rfl rfl dX7_keepState_14 ?_
  refine gf_7_2 hE (by decide) zf_X7_19 dX7_keepState_15 ?_
  try simp only [us_eq, us_us, us_ne h05, us_ne h50, us_ne h45, us_ne h54, us_ne h40, us_ne h04, us_in h45, us_in h54, us_in h05, us_in h50]
  rw [up_ne (show 3 ≠ 5 by omega)]
  rw [show (S 5 3).toNat = n2 by omega]
  refine pf_7_3 hE (by decide) zf_X7_22 dX7_keepState_18 ?_
  try simp only [us_eq, us_us, us_ne h05, us_ne h50, us_ne h45, us_ne h54, us_ne h40, us_ne h04, us_in h45, us_in h54, us_in h05, us_in h50]
  refine z_aload_n hE 1 rfl rfl dX7_keepState_21 ?_
  refine z_aload_n hE 1 rfl rfl dX7_keepState_22 ?_
  refine gf_7_1 hE (by decide) zf_X7_16 dX7_keepState_23 ?_
  try simp only [us_eq, us_us, us_ne h05, us_ne h50, us_ne h45, us_ne h54, us_ne h40, us_ne h04, us_in h45, us_in h54, us_in h05, us_in h50]
  rw [up_ne (show 2 ≠ 4 by omega)]
  rw [up_ne (show 2 ≠ 5 by omega)]
  rw [show (S 5 2).toNat = n1 by omega]
  refine pf_7_2 hE (by decide) zf_X7_19 dX7_keepState_26 ?_
  try simp only [us_eq, us_us, us_ne h05, us_ne h50, us_ne h45, us_ne h54, us_ne h40, us_ne h04, us_in h45, us_in h54, us_in h05, us_in h50]
  refine z_aload_n hE 1 rfl rfl dX7_keepState_29 ?_
  refine z_aload_n hE 0 rfl rfl dX7_keepState_30 ?_
  refine pf_7_1 hE (by decide) zf_X7_16 dX7_keepState_31 ?_
  try simp only [us_eq, us_us, us_ne h05, us_ne h50, us_ne h45, us_ne h54, us_ne h40, us_ne h04, us_in h45, us_in h54, us_in h05, us_in h50]
  refine z_aload_n hE 1 rfl rfl dX7_keepState_34 ?_
  refine gf_7_1 hE (by decide) zf_X7_16 dX7_keepState_35 ?_
  try simp only [us_eq, us_us, us_ne h05, us_ne h50, us_ne h45, us_ne h54, us_ne h40, us_ne h04, us_in h45, us_in h54, us_in h05, us_in h50]
  rw [up_eq]
  rw [show (n4 : Int).toNat = n4 by omega]
  refine z_aload_n hE 1 rfl rfl dX7_keepState_38 ?_
  refine gf_7_0 hE (by decide) zf_X7_10 dX7_keepState_39 ?_
  try simp only [us_eq, us_us, us_ne h05, us_ne h50, us_ne h45, us_ne h54, us_ne h40, us_ne h04, us_in h45, us_in h54, us_in h05, us_in h50]
  rw [up_ne (show 1 ≠ 2 by omega)]
  rw [up_ne (show 1 ≠ 3 by omega)]
  rw [up_ne (show 1 ≠ 4 by omega)]
  rw [up_ne (show 1 ≠ 5 by omega)]
  rw [show (S 5 1).toNat = n0 by omega]
  refine z_callV hE (c_X4_copyFrom l0 D0 cI0 cJ0 ad (us S 5 (up (up (up (up (S 5) 5 ((n3 : Int))) 4 ((n2 : Int))) 3 ((n1 : Int))) 2 ((n4 : Int)))) n4 hn4 n0 hn0 h04) (ks_m hn4 (by decide)) rfl rfl zm_X7_248 zi_yX4_copyFrom zs_yX4_copyFrom zn_RX4 zc_yX4_copyFrom (hy_X4_copyFrom) (Nat.le_of_ble_eq_true rfl) (Nat.le_of_ble_eq_true rfl) rfl rfl rfl (Nat.le_of_ble_eq_true rfl) dX7_keepState_42 ?_
  try simp only [us_eq, us_us, us_ne h05, us_ne h50, us_ne h45, us_ne h54, us_ne h40, us_ne h04, us_in h45, us_in h54, us_in h05, us_in h50]
  refine z_aload_n hE 1 rfl rfl dX7_keepState_45 ?_
  refine z_aload_n hE 1 rfl rfl dX7_keepState_46 ?_
  refine gf_7_5 hE (by decide) zf_X7_28 dX7_keepState_47 ?_
  try simp only [us_eq, us_us, us_ne h05, us_ne h50, us_ne h45, us_ne h54, us_ne h40, us_ne h04, us_in h45, us_in h54, us_in h05, us_in h50]
  rw [up_ne (show 0 ≠ 2 by omega)]
  rw [up_ne (show 0 ≠ 3 by omega)]
  rw [up_ne (show 0 ≠ 4 by omega)]
  rw [up_ne (show 0 ≠ 5 by omega)]
  refine z_iconst hE dX7_keepState_50 ?_
  refine z_iadd hE dX7_keepState_51 ?_
  refine z_iconst hE dX7_keepState_52 ?_
  refine z_min hE zm_X7_252 (by decide) (Nat.le_of_ble_eq_true rfl) ⟨by omega, by omega⟩ ⟨by omega, by omega⟩ dX7_keepState_53 ?_
  refine pf_7_5 hE (by decide) zf_X7_28 dX7_keepState_56 ?_
  try simp only [us_eq, us_us, us_ne h05, us_ne h50, us_ne h45, us_ne h54, us_ne h40, us_ne h04, us_in h45, us_in h54, us_in h05, us_in h50]
  exact z_vret hE hR dX7_keepState_59 rfl (by rfl)
