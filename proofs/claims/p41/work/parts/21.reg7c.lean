theorem rec_9 {s : Int → Int} {a : Int} : sp_rec s a 9 = if 3 ≤ s 9 then 3 else s 9 + 1 := by
  unfold sp_rec
  by_cases c : 3 ≤ s 9
  · rw [if_pos c, if_pos c, up_eq]
  · rw [if_neg c, if_neg c, up_eq]
theorem free_b {s : Int → Int} (h : Inv0 s) {m : Int} (h0 : 0 ≤ m) (h1 : m < 12) : 0 ≤ sp_free s m ∧ sp_free s m ≤ 10000 := by
  have hm := inM h h0 h1
  have hr := req_b h h0 h1
  have hq := rem_b h m
  unfold sp_free
  omega
theorem days_s {s : Int → Int} {i : Int} (h : 0 ≤ i) : sp_days s (i + 1).toNat = sp_day (sp_days s i.toNat) ∧ sp_daysN s (i + 1).toNat = sp_daysN s i.toNat + sp_dayN (sp_days s i.toNat) := by
  rw [show (i + 1).toNat = i.toNat + 1 by omega]
  exact ⟨rfl, rfl⟩
theorem dX7_addSurplus_0 : decode cX7_addSurplus 0 = .ok (.iload_n 1, 1) := by decide +kernel
theorem dX7_addSurplus_1 : decode cX7_addSurplus 1 = .ok (.ldc 120, 2) := by decide +kernel
theorem dX7_addSurplus_3 : decode cX7_addSurplus 3 = .ok (.ldc 82, 2) := by decide +kernel
theorem dX7_addSurplus_5 : decode cX7_addSurplus 5 = .ok (.invokestatic 56, 3) := by decide +kernel
theorem dX7_addSurplus_8 : decode cX7_addSurplus 8 = .ok (.ifCond .ne 6, 3) := by decide +kernel
theorem dX7_addSurplus_11 : decode cX7_addSurplus 11 = .ok (.ldc 60, 2) := by decide +kernel
theorem dX7_addSurplus_13 : decode cX7_addSurplus 13 = .ok (.ireturn, 1) := by decide +kernel
theorem dX7_addSurplus_14 : decode cX7_addSurplus 14 = .ok (.aload_n 0, 1) := by decide +kernel
theorem dX7_addSurplus_15 : decode cX7_addSurplus 15 = .ok (.invokevirtual 49, 3) := by decide +kernel
theorem dX7_addSurplus_18 : decode cX7_addSurplus 18 = .ok (.aload_n 0, 1) := by decide +kernel
theorem dX7_addSurplus_19 : decode cX7_addSurplus 19 = .ok (.getfield 10, 3) := by decide +kernel
theorem dX7_addSurplus_22 : decode cX7_addSurplus 22 = .ok (.getfield 73, 3) := by decide +kernel
theorem dX7_addSurplus_25 : decode cX7_addSurplus 25 = .ok (.iload_n 1, 1) := by decide +kernel
theorem dX7_addSurplus_26 : decode cX7_addSurplus 26 = .ok (.invokevirtual 121, 3) := by decide +kernel
theorem dX7_addSurplus_29 : decode cX7_addSurplus 29 = .ok (.aload_n 0, 1) := by decide +kernel
theorem dX7_addSurplus_30 : decode cX7_addSurplus 30 = .ok (.getfield 10, 3) := by decide +kernel
theorem dX7_addSurplus_33 : decode cX7_addSurplus 33 = .ok (.getfield 73, 3) := by decide +kernel
theorem dX7_addSurplus_36 : decode cX7_addSurplus 36 = .ok (.getfield 125, 3) := by decide +kernel
theorem dX7_addSurplus_39 : decode cX7_addSurplus 39 = .ok (.ireturn, 1) := by decide +kernel
theorem hy_X7_addSurplus : yX7_addSurplus.cls ≠ "java/lang/invoke/MethodHandle" ∧ yX7_addSurplus.cls ≠ "java/lang/invoke/VarHandle" ∧ (parseMethodDescriptor yX7_addSurplus.desc).map (fun d => d.parameters.length) = some 1 := ⟨by decide +kernel, by decide +kernel, by decide +kernel⟩
set_option maxHeartbeats 4000000 in
set_option maxRecDepth 100000 in
theorem c_X7_addSurplus (l0 : Launch) (D0 : va_G) (cI0 cJ0 : ClassId) (ad : Nat → Nat → Nat) (S : zM) (a : Int) (n0 : Nat) (n1 : Nat) (n2 : Nat) (n3 : Nat) (n4 : Nat) (hn0 : n0 < 5) (hn1 : n1 < 5) (hn2 : n2 < 5) (hn3 : n3 < 5) (hn4 : n4 < 5) (e0 : S 5 1 = (n0 : Int)) (e1 : S 5 2 = (n1 : Int)) (e2 : S 5 3 = (n2 : Int)) (e3 : S 5 4 = (n3 : Int)) (e4 : S 5 5 = (n4 : Int)) (h04 : n0 ≠ n4) (hst : 0 ≤ S 5 0 ∧ S 5 0 ≤ 4) (hI : Inv (S n0)) (bb_a : -2147483648 ≤ a ∧ a < 2147483648) : Ct l0 D0 cI0 cJ0 ad yX7_addSurplus cX7_addSurplus 2 (some .int) 4 89 [.ref (ad 5 22), .int (i32 a)] S (some (.int (i32 (rv_addSurplus (S n0) a)))) (fun X => X = if ok_addSurplus a then us (us (us S n4 (S n0)) 5 (kp5 (S 5) n1 n2 n3 n4)) n0 (nx_addSurplus (S n0) a) else S) := by
  refine Ct.of (by decide) (Nat.le_of_ble_eq_true rfl) (fun E hE hR => ?_)
  have hE : zG E l0 D0 cI0 cJ0 ad cX7_addSurplus 2 RX7 4 89 := hE
  show Z E S 0 [(0, .ref (ad 5 22)), (1, .int (i32 a))] []
  have hI0 := hI.1
  have hA := inA hI0
  unfold InvA at hA
  have h05 : n0 ≠ 5 := by omega
  have h50 : 5 ≠ n0 := by omega
  have h45 : n4 ≠ 5 := by omega
  have h54 : 5 ≠ n4 := by omega
  have h40 : n4 ≠ n0 := fun q => h04 q.symm
  refine z_iload_n hE 1 rfl rfl dX7_addSurplus_0 ?_
  refine z_ldc (a := -1000000) hE zk_X7_120 (by decide) dX7_addSurplus_1 ?_
  refine z_ldc (a := 1000000) hE zk_X7_82 (by decide) dX7_addSurplus_3 ?_
  refine z_callS hE (c_X7_isWithin l0 D0 cI0 cJ0 ad S a ((-1000000)) 1000000 (⟨by omega, by omega⟩) (⟨by omega, by omega⟩) (⟨by omega, by omega⟩)) zm_X7_56 zt_yX7_isWithin zn_RX7 zc_yX7_isWithin (hy_X7_isWithin) (Nat.le_of_ble_eq_true rfl) (Nat.le_of_ble_eq_true rfl) rfl rfl rfl (Nat.le_of_ble_eq_true rfl) dX7_addSurplus_5 ?_
  refine z_ifb_ne (tgt := 14) hE dX7_addSurplus_8 (by decide) (fun c1 => ?_) (fun c1 => ?_)
  · refine z_aload_n hE 0 rfl rfl dX7_addSurplus_14 ?_
    refine z_callV hE (c_X7_keepState l0 D0 cI0 cJ0 ad S n0 n1 n2 n3 n4 hn0 hn1 hn2 hn3 hn4 e0 e1 e2 e3 e4 h04 hst) (by decide) rfl rfl zm_X7_49 zi_yX7_keepState zs_yX7_keepState zn_RX7 zc_yX7_keepState (hy_X7_keepState) (Nat.le_of_ble_eq_true rfl) (Nat.le_of_ble_eq_true rfl) rfl rfl rfl (Nat.le_of_ble_eq_true rfl) dX7_addSurplus_15 ?_
    try simp only [us_eq, us_us, us_ne h05, us_ne h50, us_ne h45, us_ne h54, us_ne h40, us_ne h04, us_in h45, us_in h54, us_in h05, us_in h50]
    refine z_aload_n hE 0 rfl rfl dX7_addSurplus_18 ?_
    refine gf_7_0 hE (by decide) zf_X7_10 dX7_addSurplus_19 ?_
    try simp only [us_eq, us_us, us_ne h05, us_ne h50, us_ne h45, us_ne h54, us_ne h40, us_ne h04, us_in h45, us_in h54, us_in h05, us_in h50]
    rw [kp5_1]
    rw [show (S 5 1).toNat = n0 by omega]
    refine gf_4_2 hE (ks_m hn0 (by decide)) zf_X7_73 dX7_addSurplus_22 ?_
    refine z_iload_n hE 1 rfl rfl dX7_addSurplus_25 ?_
    refine z_callV hE (c_X0_recordSurplus l0 D0 cI0 cJ0 ad (us (us S n4 ((S n0))) 5 (kp5 ((S 5)) n1 n2 n3 n4)) n0 hn0 a (by first | omega | (simp only [us_eq, us_ne h05, us_ne h50, us_ne h45, us_ne h54, us_ne h40, us_ne h04]; omega))) (ks_m hn0 (by decide)) rfl rfl zm_X7_121 zi_yX0_recordSurplus zs_yX0_recordSurplus zn_RX0 zc_yX0_recordSurplus (hy_X0_recordSurplus) (Nat.le_of_ble_eq_true rfl) (Nat.le_of_ble_eq_true rfl) rfl rfl rfl (Nat.le_of_ble_eq_true rfl) dX7_addSurplus_26 ?_
    try simp only [us_eq, us_us, us_ne h05, us_ne h50, us_ne h45, us_ne h54, us_ne h40, us_ne h04, us_in h45, us_in h54, us_in h05, us_in h50]
    refine z_aload_n hE 0 rfl rfl dX7_addSurplus_29 ?_
    refine gf_7_0 hE (by decide) zf_X7_10 dX7_addSurplus_30 ?_
    try simp only [us_eq, us_us, us_ne h05, us_ne h50, us_ne h45, us_ne h54, us_ne h40, us_ne h04, us_in h45, us_in h54, us_in h05, us_in h50]
    rw [kp5_1]
    rw [show (S 5 1).toNat = n0 by omega]
    refine gf_4_2 hE (ks_m hn0 (by decide)) zf_X7_73 dX7_addSurplus_33 ?_
    refine gf_0_3 hE (ks_m hn0 (by decide)) zf_X7_125 dX7_addSurplus_36 ?_
    try simp only [us_eq, us_us, us_ne h05, us_ne h50, us_ne h45, us_ne h54, us_ne h40, us_ne h04, us_in h45, us_in h54, us_in h05, us_in h50]
    exact z_iret hE hR dX7_addSurplus_39 (congrArg (fun x => some (Value.int (i32 x))) (by unfold rv_addSurplus; first | (rw [rec_9, if_pos (by omega)]) | (rw [if_neg (by omega)]))) (by first | ((rw [if_pos (by omega)]) <;> (rfl)) | (rw [if_neg (by omega)]))
  · refine z_ldc (a := -2000000001) hE zk_X7_60 (by decide) dX7_addSurplus_11 ?_
    exact z_iret hE hR dX7_addSurplus_13 (congrArg (fun x => some (Value.int (i32 x))) (by unfold rv_addSurplus; first | (rw [rec_9, if_pos (by omega)]) | (rw [if_neg (by omega)]))) (by first | ((rw [if_pos (by omega)]) <;> (rfl)) | (rw [if_neg (by omega)]))
theorem dX7_valuate_0 : decode cX7_valuate 0 = .ok (.aload_n 0, 1) := by decide +kernel
theorem dX7_valuate_1 : decode cX7_valuate 1 = .ok (.getfield 10, 3) := by decide +kernel
theorem dX7_valuate_4 : decode cX7_valuate 4 = .ok (.invokevirtual 61, 3) := by decide +kernel
theorem dX7_valuate_7 : decode cX7_valuate 7 = .ok (.istore_n 1, 1) := by decide +kernel
theorem dX7_valuate_8 : decode cX7_valuate 8 = .ok (.iload_n 1, 1) := by decide +kernel
theorem dX7_valuate_9 : decode cX7_valuate 9 = .ok (.ifCond .gt 6, 3) := by decide +kernel
theorem dX7_valuate_12 : decode cX7_valuate 12 = .ok (.ldc 128, 2) := by decide +kernel
theorem dX7_valuate_14 : decode cX7_valuate 14 = .ok (.ireturn, 1) := by decide +kernel
theorem dX7_valuate_15 : decode cX7_valuate 15 = .ok (.aload_n 0, 1) := by decide +kernel
theorem dX7_valuate_16 : decode cX7_valuate 16 = .ok (.invokevirtual 49, 3) := by decide +kernel
theorem dX7_valuate_19 : decode cX7_valuate 19 = .ok (.aload_n 0, 1) := by decide +kernel
theorem dX7_valuate_20 : decode cX7_valuate 20 = .ok (.getfield 10, 3) := by decide +kernel
theorem dX7_valuate_23 : decode cX7_valuate 23 = .ok (.getfield 73, 3) := by decide +kernel
theorem dX7_valuate_26 : decode cX7_valuate 26 = .ok (.aload_n 0, 1) := by decide +kernel
theorem dX7_valuate_27 : decode cX7_valuate 27 = .ok (.getfield 10, 3) := by decide +kernel
theorem dX7_valuate_30 : decode cX7_valuate 30 = .ok (.getfield 73, 3) := by decide +kernel
theorem dX7_valuate_33 : decode cX7_valuate 33 = .ok (.iload_n 1, 1) := by decide +kernel
theorem dX7_valuate_34 : decode cX7_valuate 34 = .ok (.invokevirtual 129, 3) := by decide +kernel
theorem dX7_valuate_37 : decode cX7_valuate 37 = .ok (.aload_n 0, 1) := by decide +kernel
theorem dX7_valuate_38 : decode cX7_valuate 38 = .ok (.getfield 10, 3) := by decide +kernel
theorem dX7_valuate_41 : decode cX7_valuate 41 = .ok (.getfield 86, 3) := by decide +kernel
theorem dX7_valuate_44 : decode cX7_valuate 44 = .ok (.getfield 132, 3) := by decide +kernel
theorem dX7_valuate_47 : decode cX7_valuate 47 = .ok (.invokestatic 135, 3) := by decide +kernel
theorem dX7_valuate_50 : decode cX7_valuate 50 = .ok (.putfield 77, 3) := by decide +kernel
theorem dX7_valuate_53 : decode cX7_valuate 53 = .ok (.aload_n 0, 1) := by decide +kernel
theorem dX7_valuate_54 : decode cX7_valuate 54 = .ok (.getfield 10, 3) := by decide +kernel
theorem dX7_valuate_57 : decode cX7_valuate 57 = .ok (.getfield 73, 3) := by decide +kernel
theorem dX7_valuate_60 : decode cX7_valuate 60 = .ok (.getfield 77, 3) := by decide +kernel
theorem dX7_valuate_63 : decode cX7_valuate 63 = .ok (.ireturn, 1) := by decide +kernel
theorem hy_X7_valuate : yX7_valuate.cls ≠ "java/lang/invoke/MethodHandle" ∧ yX7_valuate.cls ≠ "java/lang/invoke/VarHandle" ∧ (parseMethodDescriptor yX7_valuate.desc).map (fun d => d.parameters.length) = some 0 := ⟨by decide +kernel, by decide +kernel, by decide +kernel⟩
set_option maxHeartbeats 4000000 in
set_option maxRecDepth 100000 in
theorem c_X7_valuate (l0 : Launch) (D0 : va_G) (cI0 cJ0 : ClassId) (ad : Nat → Nat → Nat) (S : zM) (n0 : Nat) (n1 : Nat) (n2 : Nat) (n3 : Nat) (n4 : Nat) (hn0 : n0 < 5) (hn1 : n1 < 5) (hn2 : n2 < 5) (hn3 : n3 < 5) (hn4 : n4 < 5) (e0 : S 5 1 = (n0 : Int)) (e1 : S 5 2 = (n1 : Int)) (e2 : S 5 3 = (n2 : Int)) (e3 : S 5 4 = (n3 : Int)) (e4 : S 5 5 = (n4 : Int)) (h04 : n0 ≠ n4) (hst : 0 ≤ S 5 0 ∧ S 5 0 ≤ 4) (hI : Inv (S n0)) : Ct l0 D0 cI0 cJ0 ad yX7_valuate cX7_valuate 2 (some .int) 4 89 [.ref (ad 5 22)] S (some (.int (i32 (rv_valuate (S n0))))) (fun X => X = if ok_valuate (S n0) then us (us (us S n4 (S n0)) 5 (kp5 (S 5) n1 n2 n3 n4)) n0 (nx_valuate (S n0)) else S) := by
  refine Ct.of (by decide) (Nat.le_of_ble_eq_true rfl) (fun E hE hR => ?_)
  have hE : zG E l0 D0 cI0 cJ0 ad cX7_valuate 2 RX7 4 89 := hE
  show Z E S 0 [(0, .ref (ad 5 22))] []
  have hI0 := hI.1
  have hA := inA hI0
  unfold InvA at hA
  have h05 : n0 ≠ 5 := by omega
  have h50 : 5 ≠ n0 := by omega
  have h45 : n4 ≠ 5 := by omega
  have h54 : 5 ≠ n4 := by omega
  have h40 : n4 ≠ n0 := fun q => h04 q.symm
  have hT := inT hI0
  refine z_aload_n hE 0 rfl rfl dX7_valuate_0 ?_
  refine gf_7_0 hE (by decide) zf_X7_10 dX7_valuate_1 ?_
  rw [show (S 5 1).toNat = n0 by omega]
  refine z_callV hE (c_X4_countAllShares l0 D0 cI0 cJ0 ad S n0 hn0 (by first | exact hI0 | (simp only [us_eq, us_ne h05, us_ne h50, us_ne h45, us_ne h54, us_ne h40, us_ne h04]; exact hI0))) (ks_m hn0 (by decide)) rfl rfl zm_X7_61 zi_yX4_countAllShares zs_yX4_countAllShares zn_RX4 zc_yX4_countAllShares (hy_X4_countAllShares) (Nat.le_of_ble_eq_true rfl) (Nat.le_of_ble_eq_true rfl) rfl rfl rfl (Nat.le_of_ble_eq_true rfl) dX7_valuate_4 ?_
  refine z_istore_n hE rfl (by decide) rfl dX7_valuate_7 ?_
  refine z_iload_n hE 0 rfl rfl dX7_valuate_8 ?_
  refine z_if_gt (tgt := 15) hE dX7_valuate_9 (by decide) ⟨by omega, by omega⟩ (fun c1 => ?_) (fun c1 => ?_)
  · refine z_aload_n hE 1 rfl rfl dX7_valuate_15 ?_
    refine z_callV hE (c_X7_keepState l0 D0 cI0 cJ0 ad S n0 n1 n2 n3 n4 hn0 hn1 hn2 hn3 hn4 e0 e1 e2 e3 e4 h04 hst) (by decide) rfl rfl zm_X7_49 zi_yX7_keepState zs_yX7_keepState zn_RX7 zc_yX7_keepState (hy_X7_keepState) (Nat.le_of_ble_eq_true rfl) (Nat.le_of_ble_eq_true rfl) rfl rfl rfl (Nat.le_of_ble_eq_true rfl) dX7_valuate_16 ?_
    try simp only [us_eq, us_us, us_ne h05, us_ne h50, us_ne h45, us_ne h54, us_ne h40, us_ne h04, us_in h45, us_in h54, us_in h05, us_in h50]
    refine z_aload_n hE 1 rfl rfl dX7_valuate_19 ?_
    refine gf_7_0 hE (by decide) zf_X7_10 dX7_valuate_20 ?_
    try simp only [us_eq, us_us, us_ne h05, us_ne h50, us_ne h45, us_ne h54, us_ne h40, us_ne h04, us_in h45, us_in h54, us_in h05, us_in h50]
    rw [kp5_1]
    rw [show (S 5 1).toNat = n0 by omega]
    refine gf_4_2 hE (ks_m hn0 (by decide)) zf_X7_73 dX7_valuate_23 ?_
    refine z_aload_n hE 1 rfl rfl dX7_valuate_26 ?_
    refine gf_7_0 hE (by decide) zf_X7_10 dX7_valuate_27 ?_
    try simp only [us_eq, us_us, us_ne h05, us_ne h50, us_ne h45, us_ne h54, us_ne h40, us_ne h04, us_in h45, us_in h54, us_in h05, us_in h50]
    rw [kp5_1]
    rw [show (S 5 1).toNat = n0 by omega]
    refine gf_4_2 hE (ks_m hn0 (by decide)) zf_X7_73 dX7_valuate_30 ?_
    refine z_iload_n hE 0 rfl rfl dX7_valuate_33 ?_
    refine z_callV hE (c_X0_valueOfOne l0 D0 cI0 cJ0 ad (us (us S n4 ((S n0))) 5 (kp5 ((S 5)) n1 n2 n3 n4)) n0 hn0 (sp_all ((S n0))) (by first | omega | (simp only [us_eq, us_ne h05, us_ne h50, us_ne h45, us_ne h54, us_ne h40, us_ne h04]; omega)) (by first | exact hI0 | (simp only [us_eq, us_ne h05, us_ne h50, us_ne h45, us_ne h54, us_ne h40, us_ne h04]; exact hI0))) (ks_m hn0 (by decide)) rfl rfl zm_X7_129 zi_yX0_valueOfOne zs_yX0_valueOfOne zn_RX0 zc_yX0_valueOfOne (hy_X0_valueOfOne) (Nat.le_of_ble_eq_true rfl) (Nat.le_of_ble_eq_true rfl) rfl rfl rfl (Nat.le_of_ble_eq_true rfl) dX7_valuate_34 ?_
    try simp only [us_eq, us_us, us_ne h05, us_ne h50, us_ne h45, us_ne h54, us_ne h40, us_ne h04, us_in h45, us_in h54, us_in h05, us_in h50]
    have hv9 := val_b hI0 (all := sp_all (S n0)) (by omega)
    refine z_aload_n hE 1 rfl rfl dX7_valuate_37 ?_
    refine gf_7_0 hE (by decide) zf_X7_10 dX7_valuate_38 ?_
    try simp only [us_eq, us_us, us_ne h05, us_ne h50, us_ne h45, us_ne h54, us_ne h40, us_ne h04, us_in h45, us_in h54, us_in h05, us_in h50]
    rw [kp5_1]
    rw [show (S 5 1).toNat = n0 by omega]
    refine gf_4_1 hE (ks_m hn0 (by decide)) zf_X7_86 dX7_valuate_41 ?_
    refine gf_5_2 hE (ks_m hn0 (by decide)) zf_X7_132 dX7_valuate_44 ?_
    try simp only [us_eq, us_us, us_ne h05, us_ne h50, us_ne h45, us_ne h54, us_ne h40, us_ne h04, us_in h45, us_in h54, us_in h05, us_in h50]
    refine z_max hE zm_X7_135 (by decide) (Nat.le_of_ble_eq_true rfl) ⟨by omega, by omega⟩ ⟨by omega, by omega⟩ dX7_valuate_47 ?_
    refine pf_0_2 hE (ks_m hn0 (by decide)) zf_X7_77 dX7_valuate_50 ?_
    try simp only [us_eq, us_us, us_ne h05, us_ne h50, us_ne h45, us_ne h54, us_ne h40, us_ne h04, us_in h45, us_in h54, us_in h05, us_in h50]
    refine z_aload_n hE 1 rfl rfl dX7_valuate_53 ?_
    refine gf_7_0 hE (by decide) zf_X7_10 dX7_valuate_54 ?_
    try simp only [us_eq, us_us, us_ne h05, us_ne h50, us_ne h45, us_ne h54, us_ne h40, us_ne h04, us_in h45, us_in h54, us_in h05, us_in h50]
    rw [kp5_1]
    rw [show (S 5 1).toNat = n0 by omega]
    refine gf_4_2 hE (ks_m hn0 (by decide)) zf_X7_73 dX7_valuate_57 ?_
    refine gf_0_2 hE (ks_m hn0 (by decide)) zf_X7_77 dX7_valuate_60 ?_
    try simp only [us_eq, us_us, us_ne h05, us_ne h50, us_ne h45, us_ne h54, us_ne h40, us_ne h04, us_in h45, us_in h54, us_in h05, us_in h50]
    rw [up_eq]
    exact z_iret hE hR dX7_valuate_63 (congrArg (fun x => some (Value.int (i32 x))) (by unfold rv_valuate; first | ((rw [if_neg (by omega)]) <;> first | rfl | omega) | ((rw [if_pos (by omega)]) <;> first | rfl | omega))) (by first | ((rw [if_pos (by omega)]) <;> (rfl)) | (rw [if_neg (by omega)]))
  · refine z_ldc (a := -2000000002) hE zk_X7_128 (by decide) dX7_valuate_12 ?_
    exact z_iret hE hR dX7_valuate_14 (congrArg (fun x => some (Value.int (i32 x))) (by unfold rv_valuate; first | ((rw [if_neg (by omega)]) <;> first | rfl | omega) | ((rw [if_pos (by omega)]) <;> first | rfl | omega))) (by first | ((rw [if_pos (by omega)]) <;> (rfl)) | (rw [if_neg (by omega)]))
theorem dX7_offer_0 : decode cX7_offer 0 = .ok (.aload_n 0, 1) := by decide +kernel
theorem dX7_offer_1 : decode cX7_offer 1 = .ok (.getfield 10, 3) := by decide +kernel
theorem dX7_offer_4 : decode cX7_offer 4 = .ok (.getfield 39, 3) := by decide +kernel
theorem dX7_offer_7 : decode cX7_offer 7 = .ok (.iload_n 1, 1) := by decide +kernel
theorem dX7_offer_8 : decode cX7_offer 8 = .ok (.invokevirtual 52, 3) := by decide +kernel
theorem dX7_offer_11 : decode cX7_offer 11 = .ok (.ifCond .eq 22, 3) := by decide +kernel
theorem dX7_offer_14 : decode cX7_offer 14 = .ok (.aload_n 0, 1) := by decide +kernel
theorem dX7_offer_15 : decode cX7_offer 15 = .ok (.getfield 10, 3) := by decide +kernel
theorem dX7_offer_18 : decode cX7_offer 18 = .ok (.getfield 39, 3) := by decide +kernel
theorem dX7_offer_21 : decode cX7_offer 21 = .ok (.iload_n 2, 1) := by decide +kernel
theorem dX7_offer_22 : decode cX7_offer 22 = .ok (.invokevirtual 52, 3) := by decide +kernel
theorem dX7_offer_25 : decode cX7_offer 25 = .ok (.ifCond .eq 8, 3) := by decide +kernel
theorem dX7_offer_28 : decode cX7_offer 28 = .ok (.iload_n 1, 1) := by decide +kernel
theorem dX7_offer_29 : decode cX7_offer 29 = .ok (.iload_n 2, 1) := by decide +kernel
theorem dX7_offer_30 : decode cX7_offer 30 = .ok (.if_icmp .ne 6, 3) := by decide +kernel
theorem dX7_offer_33 : decode cX7_offer 33 = .ok (.ldc 60, 2) := by decide +kernel
theorem dX7_offer_35 : decode cX7_offer 35 = .ok (.ireturn, 1) := by decide +kernel
theorem dX7_offer_36 : decode cX7_offer 36 = .ok (.iload_n 3, 1) := by decide +kernel
theorem dX7_offer_37 : decode cX7_offer 37 = .ok (.iconst 1, 1) := by decide +kernel
theorem dX7_offer_38 : decode cX7_offer 38 = .ok (.sipush 1000, 3) := by decide +kernel
theorem dX7_offer_41 : decode cX7_offer 41 = .ok (.invokestatic 56, 3) := by decide +kernel
theorem dX7_offer_44 : decode cX7_offer 44 = .ok (.ifCond .eq 14, 3) := by decide +kernel
theorem dX7_offer_47 : decode cX7_offer 47 = .ok (.iload 4, 2) := by decide +kernel
theorem dX7_offer_49 : decode cX7_offer 49 = .ok (.iconst 1, 1) := by decide +kernel
theorem dX7_offer_50 : decode cX7_offer 50 = .ok (.ldc 141, 2) := by decide +kernel
theorem dX7_offer_52 : decode cX7_offer 52 = .ok (.invokestatic 56, 3) := by decide +kernel
theorem dX7_offer_55 : decode cX7_offer 55 = .ok (.ifCond .ne 6, 3) := by decide +kernel
theorem dX7_offer_58 : decode cX7_offer 58 = .ok (.ldc 60, 2) := by decide +kernel
theorem dX7_offer_60 : decode cX7_offer 60 = .ok (.ireturn, 1) := by decide +kernel
theorem dX7_offer_61 : decode cX7_offer 61 = .ok (.iload_n 3, 1) := by decide +kernel
theorem dX7_offer_62 : decode cX7_offer 62 = .ok (.aload_n 0, 1) := by decide +kernel
theorem dX7_offer_63 : decode cX7_offer 63 = .ok (.getfield 10, 3) := by decide +kernel
theorem dX7_offer_66 : decode cX7_offer 66 = .ok (.iload_n 1, 1) := by decide +kernel
theorem dX7_offer_67 : decode cX7_offer 67 = .ok (.invokevirtual 104, 3) := by decide +kernel
theorem dX7_offer_70 : decode cX7_offer 70 = .ok (.if_icmp .gt 18, 3) := by decide +kernel
theorem dX7_offer_73 : decode cX7_offer 73 = .ok (.iload 4, 2) := by decide +kernel
theorem dX7_offer_75 : decode cX7_offer 75 = .ok (.aload_n 0, 1) := by decide +kernel
theorem dX7_offer_76 : decode cX7_offer 76 = .ok (.getfield 10, 3) := by decide +kernel
theorem dX7_offer_79 : decode cX7_offer 79 = .ok (.getfield 86, 3) := by decide +kernel
theorem dX7_offer_82 : decode cX7_offer 82 = .ok (.getfield 132, 3) := by decide +kernel
theorem dX7_offer_85 : decode cX7_offer 85 = .ok (.if_icmp .ge 6, 3) := by decide +kernel
theorem dX7_offer_88 : decode cX7_offer 88 = .ok (.ldc 128, 2) := by decide +kernel
theorem dX7_offer_90 : decode cX7_offer 90 = .ok (.ireturn, 1) := by decide +kernel
theorem dX7_offer_91 : decode cX7_offer 91 = .ok (.aload_n 0, 1) := by decide +kernel
theorem dX7_offer_92 : decode cX7_offer 92 = .ok (.getfield 10, 3) := by decide +kernel
theorem dX7_offer_95 : decode cX7_offer 95 = .ok (.getfield 142, 3) := by decide +kernel
theorem dX7_offer_98 : decode cX7_offer 98 = .ok (.getfield 146, 3) := by decide +kernel
theorem dX7_offer_101 : decode cX7_offer 101 = .ok (.bipush 20, 2) := by decide +kernel
theorem dX7_offer_103 : decode cX7_offer 103 = .ok (.if_icmp .lt 6, 3) := by decide +kernel
theorem dX7_offer_106 : decode cX7_offer 106 = .ok (.ldc 48, 2) := by decide +kernel
theorem dX7_offer_108 : decode cX7_offer 108 = .ok (.ireturn, 1) := by decide +kernel
theorem dX7_offer_109 : decode cX7_offer 109 = .ok (.aload_n 0, 1) := by decide +kernel
theorem dX7_offer_110 : decode cX7_offer 110 = .ok (.invokevirtual 49, 3) := by decide +kernel
theorem dX7_offer_113 : decode cX7_offer 113 = .ok (.aload_n 0, 1) := by decide +kernel
theorem dX7_offer_114 : decode cX7_offer 114 = .ok (.getfield 10, 3) := by decide +kernel
theorem dX7_offer_117 : decode cX7_offer 117 = .ok (.getfield 142, 3) := by decide +kernel
theorem dX7_offer_120 : decode cX7_offer 120 = .ok (.iload_n 1, 1) := by decide +kernel
theorem dX7_offer_121 : decode cX7_offer 121 = .ok (.iload_n 2, 1) := by decide +kernel
theorem dX7_offer_122 : decode cX7_offer 122 = .ok (.iload_n 3, 1) := by decide +kernel
theorem dX7_offer_123 : decode cX7_offer 123 = .ok (.iload 4, 2) := by decide +kernel
theorem dX7_offer_125 : decode cX7_offer 125 = .ok (.invokevirtual 149, 3) := by decide +kernel
theorem dX7_offer_128 : decode cX7_offer 128 = .ok (.istore 5, 2) := by decide +kernel
theorem dX7_offer_130 : decode cX7_offer 130 = .ok (.aload_n 0, 1) := by decide +kernel
theorem dX7_offer_131 : decode cX7_offer 131 = .ok (.getfield 10, 3) := by decide +kernel
theorem dX7_offer_134 : decode cX7_offer 134 = .ok (.getfield 142, 3) := by decide +kernel
theorem dX7_offer_137 : decode cX7_offer 137 = .ok (.iload 5, 2) := by decide +kernel
theorem dX7_offer_139 : decode cX7_offer 139 = .ok (.iconst 0, 1) := by decide +kernel
theorem dX7_offer_140 : decode cX7_offer 140 = .ok (.aload_n 0, 1) := by decide +kernel
theorem dX7_offer_141 : decode cX7_offer 141 = .ok (.getfield 10, 3) := by decide +kernel
theorem dX7_offer_144 : decode cX7_offer 144 = .ok (.getfield 86, 3) := by decide +kernel
theorem dX7_offer_147 : decode cX7_offer 147 = .ok (.getfield 153, 3) := by decide +kernel
theorem dX7_offer_150 : decode cX7_offer 150 = .ok (.invokevirtual 156, 3) := by decide +kernel
theorem dX7_offer_153 : decode cX7_offer 153 = .ok (.iload 5, 2) := by decide +kernel
theorem dX7_offer_155 : decode cX7_offer 155 = .ok (.ireturn, 1) := by decide +kernel
theorem hy_X7_offer : yX7_offer.cls ≠ "java/lang/invoke/MethodHandle" ∧ yX7_offer.cls ≠ "java/lang/invoke/VarHandle" ∧ (parseMethodDescriptor yX7_offer.desc).map (fun d => d.parameters.length) = some 4 := ⟨by decide +kernel, by decide +kernel, by decide +kernel⟩
set_option maxHeartbeats 4000000 in
set_option maxRecDepth 100000 in
theorem c_X7_offer (l0 : Launch) (D0 : va_G) (cI0 cJ0 : ClassId) (ad : Nat → Nat → Nat) (S : zM) (se : Int) (bu : Int) (n : Int) (pr : Int) (n0 : Nat) (n1 : Nat) (n2 : Nat) (n3 : Nat) (n4 : Nat) (hn0 : n0 < 5) (hn1 : n1 < 5) (hn2 : n2 < 5) (hn3 : n3 < 5) (hn4 : n4 < 5) (e0 : S 5 1 = (n0 : Int)) (e1 : S 5 2 = (n1 : Int)) (e2 : S 5 3 = (n2 : Int)) (e3 : S 5 4 = (n3 : Int)) (e4 : S 5 5 = (n4 : Int)) (h04 : n0 ≠ n4) (hst : 0 ≤ S 5 0 ∧ S 5 0 ≤ 4) (hI : Inv (S n0)) (bb_se : -2147483648 ≤ se ∧ se < 2147483648) (bb_bu : -2147483648 ≤ bu ∧ bu < 2147483648) (bb_n : -2147483648 ≤ n ∧ n < 2147483648) (bb_pr : -2147483648 ≤ pr ∧ pr < 2147483648) : Ct l0 D0 cI0 cJ0 ad yX7_offer cX7_offer 6 (some .int) 4 89 [.ref (ad 5 22), .int (i32 se), .int (i32 bu), .int (i32 n), .int (i32 pr)] S (some (.int (i32 (rv_offer (S n0) se bu n pr)))) (fun X => X = if ok_offer (S n0) se bu n pr then us (us (us S n4 (S n0)) 5 (kp5 (S 5) n1 n2 n3 n4)) n0 (sp_offer (S n0) se bu n pr) else S) := by
  refine Ct.of (by decide) (Nat.le_of_ble_eq_true rfl) (fun E hE hR => ?_)
  have hE : zG E l0 D0 cI0 cJ0 ad cX7_offer 6 RX7 4 89 := hE
  show Z E S 0 [(0, .ref (ad 5 22)), (1, .int (i32 se)), (2, .int (i32 bu)), (3, .int (i32 n)), (4, .int (i32 pr))] []
  have hI0 := hI.1
  have hA := inA hI0
  unfold InvA at hA
  have h05 : n0 ≠ 5 := by omega
  have h50 : 5 ≠ n0 := by omega
  have h45 : n4 ≠ 5 := by omega
  have h54 : 5 ≠ n4 := by omega
  have h40 : n4 ≠ n0 := fun q => h04 q.symm
  refine z_aload_n hE 0 rfl rfl dX7_offer_0 ?_
  refine gf_7_0 hE (by decide) zf_X7_10 dX7_offer_1 ?_
  rw [show (S 5 1).toNat = n0 by omega]
  refine gf_4_0 hE (ks_m hn0 (by decide)) zf_X7_39 dX7_offer_4 ?_
  refine z_iload_n hE 1 rfl rfl dX7_offer_7 ?_
  refine z_callV hE (c_X1_has l0 D0 cI0 cJ0 ad S n0 hn0 se (by omega) (by omega)) (ks_m hn0 (by decide)) rfl rfl zm_X7_52 zi_yX1_has zs_yX1_has zn_RX1 zc_yX1_has (hy_X1_has) (Nat.le_of_ble_eq_true rfl) (Nat.le_of_ble_eq_true rfl) rfl rfl rfl (Nat.le_of_ble_eq_true rfl) dX7_offer_8 ?_
  refine z_ifb_eq (tgt := 33) hE dX7_offer_11 (by decide) (fun c1 => ?_) (fun c1 => ?_)
  · refine z_ldc (a := -2000000001) hE zk_X7_60 (by decide) dX7_offer_33 ?_
    exact z_iret hE hR dX7_offer_35 (congrArg (fun x => some (Value.int (i32 x))) (by unfold rv_offer; first | ((rw [if_neg (by omega)]) <;> first | rfl | omega) | ((rw [if_pos (by omega), if_neg (by omega)]) <;> first | rfl | omega) | ((rw [if_pos (by omega), if_pos (by omega), if_neg (by omega)]) <;> first | rfl | omega) | ((rw [if_pos (by omega), if_pos (by omega), if_pos (by omega)]) <;> first | rfl | omega))) (by first | ((rw [if_pos (by omega)]) <;> (rfl)) | (rw [if_neg (by omega)]))
  · refine z_aload_n hE 0 rfl rfl dX7_offer_14 ?_
    refine gf_7_0 hE (by decide) zf_X7_10 dX7_offer_15 ?_
    rw [show (S 5 1).toNat = n0 by omega]
    refine gf_4_0 hE (ks_m hn0 (by decide)) zf_X7_39 dX7_offer_18 ?_
    refine z_iload_n hE 2 rfl rfl dX7_offer_21 ?_
    refine z_callV hE (c_X1_has l0 D0 cI0 cJ0 ad S n0 hn0 bu (by omega) (by omega)) (ks_m hn0 (by decide)) rfl rfl zm_X7_52 zi_yX1_has zs_yX1_has zn_RX1 zc_yX1_has (hy_X1_has) (Nat.le_of_ble_eq_true rfl) (Nat.le_of_ble_eq_true rfl) rfl rfl rfl (Nat.le_of_ble_eq_true rfl) dX7_offer_22 ?_
    refine z_ifb_eq (tgt := 33) hE dX7_offer_25 (by decide) (fun c2 => ?_) (fun c2 => ?_)
    · refine z_ldc (a := -2000000001) hE zk_X7_60 (by decide) dX7_offer_33 ?_
      exact z_iret hE hR dX7_offer_35 (congrArg (fun x => some (Value.int (i32 x))) (by unfold rv_offer; first | ((rw [if_neg (by omega)]) <;> first | rfl | omega) | ((rw [if_pos (by omega), if_neg (by omega)]) <;> first | rfl | omega) | ((rw [if_pos (by omega), if_pos (by omega), if_neg (by omega)]) <;> first | rfl | omega) | ((rw [if_pos (by omega), if_pos (by omega), if_pos (by omega)]) <;> first | rfl | omega))) (by first | ((rw [if_pos (by omega)]) <;> (rfl)) | (rw [if_neg (by omega)]))
    · refine z_iload_n hE 1 rfl rfl dX7_offer_28 ?_
      refine z_iload_n hE 2 rfl rfl dX7_offer_29 ?_
      refine z_icmp_ne (tgt := 36) hE dX7_offer_30 (by decide) ⟨by omega, by omega⟩ ⟨by omega, by omega⟩ (fun c3 => ?_) (fun c3 => ?_)
      · refine z_iload_n hE 3 rfl rfl dX7_offer_36 ?_
        refine z_iconst hE dX7_offer_37 ?_
        refine z_sipush (a := 1000) hE (by decide) dX7_offer_38 ?_
        refine z_callS hE (c_X7_isWithin l0 D0 cI0 cJ0 ad S n 1 1000 (⟨by omega, by omega⟩) (⟨by omega, by omega⟩) (⟨by omega, by omega⟩)) zm_X7_56 zt_yX7_isWithin zn_RX7 zc_yX7_isWithin (hy_X7_isWithin) (Nat.le_of_ble_eq_true rfl) (Nat.le_of_ble_eq_true rfl) rfl rfl rfl (Nat.le_of_ble_eq_true rfl) dX7_offer_41 ?_
        refine z_ifb_eq (tgt := 58) hE dX7_offer_44 (by decide) (fun c4 => ?_) (fun c4 => ?_)
        · refine z_ldc (a := -2000000001) hE zk_X7_60 (by decide) dX7_offer_58 ?_
          exact z_iret hE hR dX7_offer_60 (congrArg (fun x => some (Value.int (i32 x))) (by unfold rv_offer; first | ((rw [if_neg (by omega)]) <;> first | rfl | omega) | ((rw [if_pos (by omega), if_neg (by omega)]) <;> first | rfl | omega) | ((rw [if_pos (by omega), if_pos (by omega), if_neg (by omega)]) <;> first | rfl | omega) | ((rw [if_pos (by omega), if_pos (by omega), if_pos (by omega)]) <;> first | rfl | omega))) (by first | ((rw [if_pos (by omega)]) <;> (rfl)) | (rw [if_neg (by omega)]))
        · refine z_iload hE 4 rfl dX7_offer_47 ?_
          refine z_iconst hE dX7_offer_49 ?_
          refine z_ldc (a := 100000) hE zk_X7_141 (by decide) dX7_offer_50 ?_
          refine z_callS hE (c_X7_isWithin l0 D0 cI0 cJ0 ad S pr 1 100000 (⟨by omega, by omega⟩) (⟨by omega, by omega⟩) (⟨by omega, by omega⟩)) zm_X7_56 zt_yX7_isWithin zn_RX7 zc_yX7_isWithin (hy_X7_isWithin) (Nat.le_of_ble_eq_true rfl) (Nat.le_of_ble_eq_true rfl) rfl rfl rfl (Nat.le_of_ble_eq_true rfl) dX7_offer_52 ?_
          refine z_ifb_ne (tgt := 61) hE dX7_offer_55 (by decide) (fun c5 => ?_) (fun c5 => ?_)
          · refine z_iload_n hE 3 rfl rfl dX7_offer_61 ?_
            refine z_aload_n hE 0 rfl rfl dX7_offer_62 ?_
            refine gf_7_0 hE (by decide) zf_X7_10 dX7_offer_63 ?_
            rw [show (S 5 1).toNat = n0 by omega]
            refine z_iload_n hE 1 rfl rfl dX7_offer_66 ?_
            refine z_callV hE (c_X4_freeSharesOf l0 D0 cI0 cJ0 ad S n0 hn0 se (by first | exact hI0 | (simp only [us_eq, us_ne h05, us_ne h50, us_ne h45, us_ne h54, us_ne h40, us_ne h04]; exact hI0)) (by omega)) (ks_m hn0 (by decide)) rfl rfl zm_X7_104 zi_yX4_freeSharesOf zs_yX4_freeSharesOf zn_RX4 zc_yX4_freeSharesOf (hy_X4_freeSharesOf) (Nat.le_of_ble_eq_true rfl) (Nat.le_of_ble_eq_true rfl) rfl rfl rfl (Nat.le_of_ble_eq_true rfl) dX7_offer_67 ?_
            have hf9 := free_b hI0 (m := se) (by omega) (by omega)
            refine z_icmp_gt (tgt := 88) hE dX7_offer_70 (by decide) ⟨by omega, by omega⟩ ⟨by omega, by omega⟩ (fun c6 => ?_) (fun c6 => ?_)
            · refine z_ldc (a := -2000000002) hE zk_X7_128 (by decide) dX7_offer_88 ?_
              exact z_iret hE hR dX7_offer_90 (congrArg (fun x => some (Value.int (i32 x))) (by unfold rv_offer; first | ((rw [if_neg (by omega)]) <;> first | rfl | omega) | ((rw [if_pos (by omega), if_neg (by omega)]) <;> first | rfl | omega) | ((rw [if_pos (by omega), if_pos (by omega), if_neg (by omega)]) <;> first | rfl | omega) | ((rw [if_pos (by omega), if_pos (by omega), if_pos (by omega)]) <;> first | rfl | omega))) (by first | ((rw [if_pos (by omega)]) <;> (rfl)) | (rw [if_neg (by omega)]))
            · refine z_iload hE 4 rfl dX7_offer_73 ?_
              refine z_aload_n hE 0 rfl rfl dX7_offer_75 ?_
              refine gf_7_0 hE (by decide) zf_X7_10 dX7_offer_76 ?_
              rw [show (S 5 1).toNat = n0 by omega]
              refine gf_4_1 hE (ks_m hn0 (by decide)) zf_X7_86 dX7_offer_79 ?_
              refine gf_5_2 hE (ks_m hn0 (by decide)) zf_X7_132 dX7_offer_82 ?_
              refine z_icmp_ge (tgt := 91) hE dX7_offer_85 (by decide) ⟨by omega, by omega⟩ ⟨by omega, by omega⟩ (fun c7 => ?_) (fun c7 => ?_)
              · refine z_aload_n hE 0 rfl rfl dX7_offer_91 ?_
                refine gf_7_0 hE (by decide) zf_X7_10 dX7_offer_92 ?_
                rw [show (S 5 1).toNat = n0 by omega]
                refine gf_4_3 hE (ks_m hn0 (by decide)) zf_X7_142 dX7_offer_95 ?_
                refine gf_3_0 hE (ks_m hn0 (by decide)) zf_X7_146 dX7_offer_98 ?_
                refine z_bipush (a := 20) hE (by decide) dX7_offer_101 ?_
                refine z_icmp_lt (tgt := 109) hE dX7_offer_103 (by decide) ⟨by omega, by omega⟩ ⟨by omega, by omega⟩ (fun c8 => ?_) (fun c8 => ?_)
                · refine z_aload_n hE 0 rfl rfl dX7_offer_109 ?_
                  refine z_callV hE (c_X7_keepState l0 D0 cI0 cJ0 ad S n0 n1 n2 n3 n4 hn0 hn1 hn2 hn3 hn4 e0 e1 e2 e3 e4 h04 hst) (by decide) rfl rfl zm_X7_49 zi_yX7_keepState zs_yX7_keepState zn_RX7 zc_yX7_keepState (hy_X7_keepState) (Nat.le_of_ble_eq_true rfl) (Nat.le_of_ble_eq_true rfl) rfl rfl rfl (Nat.le_of_ble_eq_true rfl) dX7_offer_110 ?_
                  try simp only [us_eq, us_us, us_ne h05, us_ne h50, us_ne h45, us_ne h54, us_ne h40, us_ne h04, us_in h45, us_in h54, us_in h05, us_in h50]
                  refine z_aload_n hE 0 rfl rfl dX7_offer_113 ?_
                  refine gf_7_0 hE (by decide) zf_X7_10 dX7_offer_114 ?_
                  try simp only [us_eq, us_us, us_ne h05, us_ne h50, us_ne h45, us_ne h54, us_ne h40, us_ne h04, us_in h45, us_in h54, us_in h05, us_in h50]
                  rw [kp5_1]
                  rw [show (S 5 1).toNat = n0 by omega]
                  refine gf_4_3 hE (ks_m hn0 (by decide)) zf_X7_142 dX7_offer_117 ?_
                  refine z_iload_n hE 1 rfl rfl dX7_offer_120 ?_
                  refine z_iload_n hE 2 rfl rfl dX7_offer_121 ?_
                  refine z_iload_n hE 3 rfl rfl dX7_offer_122 ?_
                  refine z_iload hE 4 rfl dX7_offer_123 ?_
                  refine z_callV hE (c_X3_add l0 D0 cI0 cJ0 ad (us (us S n4 ((S n0))) 5 (kp5 ((S 5)) n1 n2 n3 n4)) n0 hn0 se bu n pr (by first | omega | (simp only [us_eq, us_ne h05, us_ne h50, us_ne h45, us_ne h54, us_ne h40, us_ne h04]; omega))) (ks_m hn0 (by decide)) rfl rfl zm_X7_149 zi_yX3_add zs_yX3_add zn_RX3 zc_yX3_add (hy_X3_add) (Nat.le_of_ble_eq_true rfl) (Nat.le_of_ble_eq_true rfl) rfl rfl rfl (Nat.le_of_ble_eq_true rfl) dX7_offer_125 ?_
                  try simp only [us_eq, us_us, us_ne h05, us_ne h50, us_ne h45, us_ne h54, us_ne h40, us_ne h04, us_in h45, us_in h54, us_in h05, us_in h50]
                  try simp only [us_eq, us_us, us_ne h05, us_ne h50, us_ne h45, us_ne h54, us_ne h40, us_ne h04, us_in h45, us_in h54, us_in h05, us_in h50]
                  refine z_istore hE (by decide) rfl dX7_offer_128 ?_
                  refine z_aload_n hE 1 rfl rfl dX7_offer_130 ?_
                  refine gf_7_0 hE (by decide) zf_X7_10 dX7_offer_131 ?_
                  try simp only [us_eq, us_us, us_ne h05, us_ne h50, us_ne h45, us_ne h54, us_ne h40, us_ne h04, us_in h45, us_in h54, us_in h05, us_in h50]
                  rw [kp5_1]
                  rw [show (S 5 1).toNat = n0 by omega]
                  refine gf_4_3 hE (ks_m hn0 (by decide)) zf_X7_142 dX7_offer_134 ?_
                  refine z_iload hE 0 rfl dX7_offer_137 ?_
                  refine z_iconst hE dX7_offer_139 ?_
                  refine z_aload_n hE 1 rfl rfl dX7_offer_140 ?_
                  refine gf_7_0 hE (by decide) zf_X7_10 dX7_offer_141 ?_
                  try simp only [us_eq, us_us, us_ne h05, us_ne h50, us_ne h45, us_ne h54, us_ne h40, us_ne h04, us_in h45, us_in h54, us_in h05, us_in h50]
                  rw [kp5_1]
                  rw [show (S 5 1).toNat = n0 by omega]
                  refine gf_4_1 hE (ks_m hn0 (by decide)) zf_X7_86 dX7_offer_144 ?_
                  refine gf_5_4 hE (ks_m hn0 (by decide)) zf_X7_153 dX7_offer_147 ?_
                  try simp only [us_eq, us_us, us_ne h05, us_ne h50, us_ne h45, us_ne h54, us_ne h40, us_ne h04, us_in h45, us_in h54, us_in h05, us_in h50]
                  rw [up_ne (show 13 ≠ 58 + 22 * (S n0) 14 by omega)]
                  rw [up_ne (show 13 ≠ 57 + 22 * (S n0) 14 by omega)]
                  rw [up_ne (show 13 ≠ 56 + 22 * (S n0) 14 by omega)]
                  rw [up_ne (show 13 ≠ 55 + 22 * (S n0) 14 by omega)]
                  rw [up_ne (show 13 ≠ 14 by omega)]
                  refine z_callV hE (c_X3_beginStage l0 D0 cI0 cJ0 ad (us (us (us S n4 ((S n0))) 5 (kp5 ((S 5)) n1 n2 n3 n4)) n0 (up (up (up (up (up ((S n0)) 14 ((S n0) 14 + 1)) (55 + 22 * (S n0) 14) se) (56 + 22 * (S n0) 14) bu) (57 + 22 * (S n0) 14) n) (58 + 22 * (S n0) 14) pr)) n0 hn0 ((S n0) 14) 0 (S n0 13) (by first | omega | (simp only [us_eq, us_ne h05, us_ne h50, us_ne h45, us_ne h54, us_ne h40, us_ne h04]; omega))) (ks_m hn0 (by decide)) rfl rfl zm_X7_156 zi_yX3_beginStage zs_yX3_beginStage zn_RX3 zc_yX3_beginStage (hy_X3_beginStage) (Nat.le_of_ble_eq_true rfl) (Nat.le_of_ble_eq_true rfl) rfl rfl rfl (Nat.le_of_ble_eq_true rfl) dX7_offer_150 ?_
                  try simp only [us_eq, us_us, us_ne h05, us_ne h50, us_ne h45, us_ne h54, us_ne h40, us_ne h04, us_in h45, us_in h54, us_in h05, us_in h50]
                  refine z_iload hE 0 rfl dX7_offer_153 ?_
                  exact z_iret hE hR dX7_offer_155 (congrArg (fun x => some (Value.int (i32 x))) (by unfold rv_offer; first | ((rw [if_neg (by omega)]) <;> first | rfl | omega) | ((rw [if_pos (by omega), if_neg (by omega)]) <;> first | rfl | omega) | ((rw [if_pos (by omega), if_pos (by omega), if_neg (by omega)]) <;> first | rfl | omega) | ((rw [if_pos (by omega), if_pos (by omega), if_pos (by omega)]) <;> first | rfl | omega))) (by first | ((rw [if_pos (by omega)]) <;> (rfl)) | (rw [if_neg (by omega)]))
                · refine z_ldc (a := -2000000003) hE zk_X7_48 (by decide) dX7_offer_106 ?_
                  exact z_iret hE hR dX7_offer_108 (congrArg (fun x => some (Value.int (i32 x))) (by unfold rv_offer; first | ((rw [if_neg (by omega)]) <;> first | rfl | omega) | ((rw [if_pos (by omega), if_neg (by omega)]) <;> first | rfl | omega) | ((rw [if_pos (by omega), if_pos (by omega), if_neg (by omega)]) <;> first | rfl | omega) | ((rw [if_pos (by omega), if_pos (by omega), if_pos (by omega)]) <;> first | rfl | omega))) (by first | ((rw [if_pos (by omega)]) <;> (rfl)) | (rw [if_neg (by omega)]))
              · refine z_ldc (a := -2000000002) hE zk_X7_128 (by decide) dX7_offer_88 ?_
                exact z_iret hE hR dX7_offer_90 (congrArg (fun x => some (Value.int (i32 x))) (by unfold rv_offer; first | ((rw [if_neg (by omega)]) <;> first | rfl | omega) | ((rw [if_pos (by omega), if_neg (by omega)]) <;> first | rfl | omega) | ((rw [if_pos (by omega), if_pos (by omega), if_neg (by omega)]) <;> first | rfl | omega) | ((rw [if_pos (by omega), if_pos (by omega), if_pos (by omega)]) <;> first | rfl | omega))) (by first | ((rw [if_pos (by omega)]) <;> (rfl)) | (rw [if_neg (by omega)]))
          · refine z_ldc (a := -2000000001) hE zk_X7_60 (by decide) dX7_offer_58 ?_
            exact z_iret hE hR dX7_offer_60 (congrArg (fun x => some (Value.int (i32 x))) (by unfold rv_offer; first | ((rw [if_neg (by omega)]) <;> first | rfl | omega) | ((rw [if_pos (by omega), if_neg (by omega)]) <;> first | rfl | omega) | ((rw [if_pos (by omega), if_pos (by omega), if_neg (by omega)]) <;> first | rfl | omega) | ((rw [if_pos (by omega), if_pos (by omega), if_pos (by omega)]) <;> first | rfl | omega))) (by first | ((rw [if_pos (by omega)]) <;> (rfl)) | (rw [if_neg (by omega)]))
      · refine z_ldc (a := -2000000001) hE zk_X7_60 (by decide) dX7_offer_33 ?_
        exact z_iret hE hR dX7_offer_35 (congrArg (fun x => some (Value.int (i32 x))) (by unfold rv_offer; first | ((rw [if_neg (by omega)]) <;> first | rfl | omega) | ((rw [if_pos (by omega), if_neg (by omega)]) <;> first | rfl | omega) | ((rw [if_pos (by omega), if_pos (by omega), if_neg (by omega)]) <;> first | rfl | omega) | ((rw [if_pos (by omega), if_pos (by omega), if_pos (by omega)]) <;> first | rfl | omega))) (by first | ((rw [if_pos (by omega)]) <;> (rfl)) | (rw [if_neg (by omega)]))
theorem dX7_claim_0 : decode cX7_claim 0 = .ok (.aload_n 0, 1) := by decide +kernel
theorem dX7_claim_1 : decode cX7_claim 1 = .ok (.getfield 10, 3) := by decide +kernel
theorem dX7_claim_4 : decode cX7_claim 4 = .ok (.getfield 142, 3) := by decide +kernel
theorem dX7_claim_7 : decode cX7_claim 7 = .ok (.iload_n 1, 1) := by decide +kernel
theorem dX7_claim_8 : decode cX7_claim 8 = .ok (.invokevirtual 160, 3) := by decide +kernel
theorem dX7_claim_11 : decode cX7_claim 11 = .ok (.ifCond .eq 28, 3) := by decide +kernel
theorem dX7_claim_14 : decode cX7_claim 14 = .ok (.aload_n 0, 1) := by decide +kernel
theorem dX7_claim_15 : decode cX7_claim 15 = .ok (.getfield 10, 3) := by decide +kernel
theorem dX7_claim_18 : decode cX7_claim 18 = .ok (.getfield 39, 3) := by decide +kernel
theorem dX7_claim_21 : decode cX7_claim 21 = .ok (.iload_n 2, 1) := by decide +kernel
theorem dX7_claim_22 : decode cX7_claim 22 = .ok (.invokevirtual 52, 3) := by decide +kernel
theorem dX7_claim_25 : decode cX7_claim 25 = .ok (.ifCond .eq 14, 3) := by decide +kernel
theorem dX7_claim_28 : decode cX7_claim 28 = .ok (.iload_n 3, 1) := by decide +kernel
theorem dX7_claim_29 : decode cX7_claim 29 = .ok (.iconst 1, 1) := by decide +kernel
theorem dX7_claim_30 : decode cX7_claim 30 = .ok (.sipush 1000, 3) := by decide +kernel
theorem dX7_claim_33 : decode cX7_claim 33 = .ok (.invokestatic 56, 3) := by decide +kernel
theorem dX7_claim_36 : decode cX7_claim 36 = .ok (.ifCond .ne 6, 3) := by decide +kernel
theorem dX7_claim_39 : decode cX7_claim 39 = .ok (.ldc 60, 2) := by decide +kernel
theorem dX7_claim_41 : decode cX7_claim 41 = .ok (.ireturn, 1) := by decide +kernel
theorem dX7_claim_42 : decode cX7_claim 42 = .ok (.aload_n 0, 1) := by decide +kernel
theorem dX7_claim_43 : decode cX7_claim 43 = .ok (.getfield 10, 3) := by decide +kernel
theorem dX7_claim_46 : decode cX7_claim 46 = .ok (.iload_n 1, 1) := by decide +kernel
theorem dX7_claim_47 : decode cX7_claim 47 = .ok (.iload_n 2, 1) := by decide +kernel
theorem dX7_claim_48 : decode cX7_claim 48 = .ok (.invokevirtual 161, 3) := by decide +kernel
theorem dX7_claim_51 : decode cX7_claim 51 = .ok (.ifCond .ne 6, 3) := by decide +kernel
theorem dX7_claim_54 : decode cX7_claim 54 = .ok (.ldc 128, 2) := by decide +kernel
theorem dX7_claim_56 : decode cX7_claim 56 = .ok (.ireturn, 1) := by decide +kernel
theorem dX7_claim_57 : decode cX7_claim 57 = .ok (.aload_n 0, 1) := by decide +kernel
theorem dX7_claim_58 : decode cX7_claim 58 = .ok (.invokevirtual 49, 3) := by decide +kernel
theorem dX7_claim_61 : decode cX7_claim 61 = .ok (.aload_n 0, 1) := by decide +kernel
theorem dX7_claim_62 : decode cX7_claim 62 = .ok (.getfield 10, 3) := by decide +kernel
theorem dX7_claim_65 : decode cX7_claim 65 = .ok (.getfield 142, 3) := by decide +kernel
theorem dX7_claim_68 : decode cX7_claim 68 = .ok (.iload_n 1, 1) := by decide +kernel
theorem dX7_claim_69 : decode cX7_claim 69 = .ok (.iload_n 2, 1) := by decide +kernel
theorem dX7_claim_70 : decode cX7_claim 70 = .ok (.iload_n 3, 1) := by decide +kernel
theorem dX7_claim_71 : decode cX7_claim 71 = .ok (.invokevirtual 165, 3) := by decide +kernel
theorem dX7_claim_74 : decode cX7_claim 74 = .ok (.aload_n 0, 1) := by decide +kernel
theorem dX7_claim_75 : decode cX7_claim 75 = .ok (.getfield 10, 3) := by decide +kernel
theorem dX7_claim_78 : decode cX7_claim 78 = .ok (.getfield 142, 3) := by decide +kernel
theorem dX7_claim_81 : decode cX7_claim 81 = .ok (.iload_n 1, 1) := by decide +kernel
theorem dX7_claim_82 : decode cX7_claim 82 = .ok (.invokevirtual 168, 3) := by decide +kernel
theorem dX7_claim_85 : decode cX7_claim 85 = .ok (.ireturn, 1) := by decide +kernel
theorem hy_X7_claim : yX7_claim.cls ≠ "java/lang/invoke/MethodHandle" ∧ yX7_claim.cls ≠ "java/lang/invoke/VarHandle" ∧ (parseMethodDescriptor yX7_claim.desc).map (fun d => d.parameters.length) = some 3 := ⟨by decide +kernel, by decide +kernel, by decide +kernel⟩
set_option maxHeartbeats 4000000 in
set_option maxRecDepth 100000 in
theorem c_X7_claim (l0 : Launch) (D0 : va_G) (cI0 cJ0 : ClassId) (ad : Nat → Nat → Nat) (S : zM) (o : Int) (m : Int) (n : Int) (n0 : Nat) (n1 : Nat) (n2 : Nat) (n3 : Nat) (n4 : Nat) (hn0 : n0 < 5) (hn1 : n1 < 5) (hn2 : n2 < 5) (hn3 : n3 < 5) (hn4 : n4 < 5) (e0 : S 5 1 = (n0 : Int)) (e1 : S 5 2 = (n1 : Int)) (e2 : S 5 3 = (n2 : Int)) (e3 : S 5 4 = (n3 : Int)) (e4 : S 5 5 = (n4 : Int)) (h04 : n0 ≠ n4) (hst : 0 ≤ S 5 0 ∧ S 5 0 ≤ 4) (hI : Inv (S n0)) (bb_o : -2147483648 ≤ o ∧ o < 2147483648) (bb_m : -2147483648 ≤ m ∧ m < 2147483648) (bb_n : -2147483648 ≤ n ∧ n < 2147483648) : Ct l0 D0 cI0 cJ0 ad yX7_claim cX7_claim 4 (some .int) 5 108 [.ref (ad 5 22), .int (i32 o), .int (i32 m), .int (i32 n)] S (some (.int (i32 (rv_claim (S n0) o m n)))) (fun X => X = if ok_claim (S n0) o m n then us (us (us S n4 (S n0)) 5 (kp5 (S 5) n1 n2 n3 n4)) n0 (nx_claim (S n0) o m n) else S) := by
  refine Ct.of (by decide) (Nat.le_of_ble_eq_true rfl) (fun E hE hR => ?_)
  have hE : zG E l0 D0 cI0 cJ0 ad cX7_claim 4 RX7 5 108 := hE
  show Z E S 0 [(0, .ref (ad 5 22)), (1, .int (i32 o)), (2, .int (i32 m)), (3, .int (i32 n))] []
  have hI0 := hI.1
  have hA := inA hI0
  unfold InvA at hA
  have h05 : n0 ≠ 5 := by omega
  have h50 : 5 ≠ n0 := by omega
  have h45 : n4 ≠ 5 := by omega
  have h54 : 5 ≠ n4 := by omega
  have h40 : n4 ≠ n0 := fun q => h04 q.symm
  refine z_aload_n hE 0 rfl rfl dX7_claim_0 ?_
  refine gf_7_0 hE (by decide) zf_X7_10 dX7_claim_1 ?_
  rw [show (S 5 1).toNat = n0 by omega]
  refine gf_4_3 hE (ks_m hn0 (by decide)) zf_X7_142 dX7_claim_4 ?_
  refine z_iload_n hE 1 rfl rfl dX7_claim_7 ?_
  refine z_callV hE (c_X3_has l0 D0 cI0 cJ0 ad S n0 hn0 o (by omega) (by omega)) (ks_m hn0 (by decide)) rfl rfl zm_X7_160 zi_yX3_has zs_yX3_has zn_RX3 zc_yX3_has (hy_X3_has) (Nat.le_of_ble_eq_true rfl) (Nat.le_of_ble_eq_true rfl) rfl rfl rfl (Nat.le_of_ble_eq_true rfl) dX7_claim_8 ?_
  refine z_ifb_eq (tgt := 39) hE dX7_claim_11 (by decide) (fun c1 => ?_) (fun c1 => ?_)
  · refine z_ldc (a := -2000000001) hE zk_X7_60 (by decide) dX7_claim_39 ?_
    exact z_iret hE hR dX7_claim_41 (congrArg (fun x => some (Value.int (i32 x))) (by unfold rv_claim; first | ((rw [if_pos (by omega), if_pos (by assumption)]) <;> rfl) | (rw [if_pos (by omega), if_neg (by assumption)]) | (rw [if_neg (by omega)]))) (by first | ((rw [if_pos ⟨by omega, by assumption⟩]) <;> rfl) | (rw [if_neg (fun q => absurd q.2 (by assumption))]) | (rw [if_neg (by omega)]))
  · refine z_aload_n hE 0 rfl rfl dX7_claim_14 ?_
    refine gf_7_0 hE (by decide) zf_X7_10 dX7_claim_15 ?_
    rw [show (S 5 1).toNat = n0 by omega]
    refine gf_4_0 hE (ks_m hn0 (by decide)) zf_X7_39 dX7_claim_18 ?_
    refine z_iload_n hE 2 rfl rfl dX7_claim_21 ?_
    refine z_callV hE (c_X1_has l0 D0 cI0 cJ0 ad S n0 hn0 m (by omega) (by omega)) (ks_m hn0 (by decide)) rfl rfl zm_X7_52 zi_yX1_has zs_yX1_has zn_RX1 zc_yX1_has (hy_X1_has) (Nat.le_of_ble_eq_true rfl) (Nat.le_of_ble_eq_true rfl) rfl rfl rfl (Nat.le_of_ble_eq_true rfl) dX7_claim_22 ?_
    refine z_ifb_eq (tgt := 39) hE dX7_claim_25 (by decide) (fun c2 => ?_) (fun c2 => ?_)
    · refine z_ldc (a := -2000000001) hE zk_X7_60 (by decide) dX7_claim_39 ?_
      exact z_iret hE hR dX7_claim_41 (congrArg (fun x => some (Value.int (i32 x))) (by unfold rv_claim; first | ((rw [if_pos (by omega), if_pos (by assumption)]) <;> rfl) | (rw [if_pos (by omega), if_neg (by assumption)]) | (rw [if_neg (by omega)]))) (by first | ((rw [if_pos ⟨by omega, by assumption⟩]) <;> rfl) | (rw [if_neg (fun q => absurd q.2 (by assumption))]) | (rw [if_neg (by omega)]))
    · refine z_iload_n hE 3 rfl rfl dX7_claim_28 ?_
      refine z_iconst hE dX7_claim_29 ?_
      refine z_sipush (a := 1000) hE (by decide) dX7_claim_30 ?_
      refine z_callS hE (c_X7_isWithin l0 D0 cI0 cJ0 ad S n 1 1000 (⟨by omega, by omega⟩) (⟨by omega, by omega⟩) (⟨by omega, by omega⟩)) zm_X7_56 zt_yX7_isWithin zn_RX7 zc_yX7_isWithin (hy_X7_isWithin) (Nat.le_of_ble_eq_true rfl) (Nat.le_of_ble_eq_true rfl) rfl rfl rfl (Nat.le_of_ble_eq_true rfl) dX7_claim_33 ?_
      refine z_ifb_ne (tgt := 42) hE dX7_claim_36 (by decide) (fun c3 => ?_) (fun c3 => ?_)
      · refine z_aload_n hE 0 rfl rfl dX7_claim_42 ?_
        refine gf_7_0 hE (by decide) zf_X7_10 dX7_claim_43 ?_
        rw [show (S 5 1).toNat = n0 by omega]
        refine z_iload_n hE 1 rfl rfl dX7_claim_46 ?_
        refine z_iload_n hE 2 rfl rfl dX7_claim_47 ?_
        refine z_callV hE (c_X4_canClaim l0 D0 cI0 cJ0 ad S n0 hn0 o m (by first | exact hI0 | (simp only [us_eq, us_ne h05, us_ne h50, us_ne h45, us_ne h54, us_ne h40, us_ne h04]; exact hI0)) (by omega) (by omega)) (ks_m hn0 (by decide)) rfl rfl zm_X7_161 zi_yX4_canClaim zs_yX4_canClaim zn_RX4 zc_yX4_canClaim (hy_X4_canClaim) (Nat.le_of_ble_eq_true rfl) (Nat.le_of_ble_eq_true rfl) rfl rfl rfl (Nat.le_of_ble_eq_true rfl) dX7_claim_48 ?_
        refine z_ifb_ne (tgt := 57) hE dX7_claim_51 (by decide) (fun c4 => ?_) (fun c4 => ?_)
        · refine z_aload_n hE 0 rfl rfl dX7_claim_57 ?_
          refine z_callV hE (c_X7_keepState l0 D0 cI0 cJ0 ad S n0 n1 n2 n3 n4 hn0 hn1 hn2 hn3 hn4 e0 e1 e2 e3 e4 h04 hst) (by decide) rfl rfl zm_X7_49 zi_yX7_keepState zs_yX7_keepState zn_RX7 zc_yX7_keepState (hy_X7_keepState) (Nat.le_of_ble_eq_true rfl) (Nat.le_of_ble_eq_true rfl) rfl rfl rfl (Nat.le_of_ble_eq_true rfl) dX7_claim_58 ?_
          try simp only [us_eq, us_us, us_ne h05, us_ne h50, us_ne h45, us_ne h54, us_ne h40, us_ne h04, us_in h45, us_in h54, us_in h05, us_in h50]
          refine z_aload_n hE 0 rfl rfl dX7_claim_61 ?_
          refine gf_7_0 hE (by decide) zf_X7_10 dX7_claim_62 ?_
          try simp only [us_eq, us_us, us_ne h05, us_ne h50, us_ne h45, us_ne h54, us_ne h40, us_ne h04, us_in h45, us_in h54, us_in h05, us_in h50]
          rw [kp5_1]
          rw [show (S 5 1).toNat = n0 by omega]
          refine gf_4_3 hE (ks_m hn0 (by decide)) zf_X7_142 dX7_claim_65 ?_
          refine z_iload_n hE 1 rfl rfl dX7_claim_68 ?_
          refine z_iload_n hE 2 rfl rfl dX7_claim_69 ?_
          refine z_iload_n hE 3 rfl rfl dX7_claim_70 ?_
          refine z_callV hE (c_X3_setClaim l0 D0 cI0 cJ0 ad (us (us S n4 ((S n0))) 5 (kp5 ((S 5)) n1 n2 n3 n4)) n0 hn0 o m n (by first | omega | (simp only [us_eq, us_ne h05, us_ne h50, us_ne h45, us_ne h54, us_ne h40, us_ne h04]; omega)) (by first | omega | (simp only [us_eq, us_ne h05, us_ne h50, us_ne h45, us_ne h54, us_ne h40, us_ne h04]; omega))) (ks_m hn0 (by decide)) rfl rfl zm_X7_165 zi_yX3_setClaim zs_yX3_setClaim zn_RX3 zc_yX3_setClaim (hy_X3_setClaim) (Nat.le_of_ble_eq_true rfl) (Nat.le_of_ble_eq_true rfl) rfl rfl rfl (Nat.le_of_ble_eq_true rfl) dX7_claim_71 ?_
          try simp only [us_eq, us_us, us_ne h05, us_ne h50, us_ne h45, us_ne h54, us_ne h40, us_ne h04, us_in h45, us_in h54, us_in h05, us_in h50]
          refine z_aload_n hE 0 rfl rfl dX7_claim_74 ?_
          refine gf_7_0 hE (by decide) zf_X7_10 dX7_claim_75 ?_
          try simp only [us_eq, us_us, us_ne h05, us_ne h50, us_ne h45, us_ne h54, us_ne h40, us_ne h04, us_in h45, us_in h54, us_in h05, us_in h50]
          rw [kp5_1]
          rw [show (S 5 1).toNat = n0 by omega]
          refine gf_4_3 hE (ks_m hn0 (by decide)) zf_X7_142 dX7_claim_78 ?_
          refine z_iload_n hE 1 rfl rfl dX7_claim_81 ?_
          refine z_callV hE (c_X3_sumOfClaims l0 D0 cI0 cJ0 ad (us (us (us S n4 ((S n0))) 5 (kp5 ((S 5)) n1 n2 n3 n4)) n0 (up ((S n0)) (65 + 22 * o + m) n)) n0 hn0 o (by first | omega | (simp only [us_eq, us_ne h05, us_ne h50, us_ne h45, us_ne h54, us_ne h40, us_ne h04]; omega))) (ks_m hn0 (by decide)) rfl rfl zm_X7_168 zi_yX3_sumOfClaims zs_yX3_sumOfClaims zn_RX3 zc_yX3_sumOfClaims (hy_X3_sumOfClaims) (Nat.le_of_ble_eq_true rfl) (Nat.le_of_ble_eq_true rfl) rfl rfl rfl (Nat.le_of_ble_eq_true rfl) dX7_claim_82 ?_
          try simp only [us_eq, us_us, us_ne h05, us_ne h50, us_ne h45, us_ne h54, us_ne h40, us_ne h04, us_in h45, us_in h54, us_in h05, us_in h50]
          exact z_iret hE hR dX7_claim_85 (congrArg (fun x => some (Value.int (i32 x))) (by unfold rv_claim; first | ((rw [if_pos (by omega), if_pos (by assumption)]) <;> rfl) | (rw [if_pos (by omega), if_neg (by assumption)]) | (rw [if_neg (by omega)]))) (by first | ((rw [if_pos ⟨by omega, by assumption⟩]) <;> rfl) | (rw [if_neg (fun q => absurd q.2 (by assumption))]) | (rw [if_neg (by omega)]))
        · refine z_ldc (a := -2000000002) hE zk_X7_128 (by decide) dX7_claim_54 ?_
          exact z_iret hE hR dX7_claim_56 (congrArg (fun x => some (Value.int (i32 x))) (by unfold rv_claim; first | ((rw [if_pos (by omega), if_pos (by assumption)]) <;> rfl) | (rw [if_pos (by omega), if_neg (by assumption)]) | (rw [if_neg (by omega)]))) (by first | ((rw [if_pos ⟨by omega, by assumption⟩]) <;> rfl) | (rw [if_neg (fun q => absurd q.2 (by assumption))]) | (rw [if_neg (by omega)]))
      · refine z_ldc (a := -2000000001) hE zk_X7_60 (by decide) dX7_claim_39 ?_
        exact z_iret hE hR dX7_claim_41 (congrArg (fun x => some (Value.int (i32 x))) (by unfold rv_claim; first | ((rw [if_pos (by omega), if_pos (by assumption)]) <;> rfl) | (rw [if_pos (by omega), if_neg (by assumption)]) | (rw [if_neg (by omega)]))) (by first | ((rw [if_pos ⟨by omega, by assumption⟩]) <;> rfl) | (rw [if_neg (fun q => absurd q.2 (by assumption))]) | (rw [if_neg (by omega)]))
theorem dX7_withdraw_0 : decode cX7_withdraw 0 = .ok (.aload_n 0, 1) := by decide +kernel
theorem dX7_withdraw_1 : decode cX7_withdraw 1 = .ok (.getfield 10, 3) := by decide +kernel
theorem dX7_withdraw_4 : decode cX7_withdraw 4 = .ok (.getfield 142, 3) := by decide +kernel
theorem dX7_withdraw_7 : decode cX7_withdraw 7 = .ok (.iload_n 1, 1) := by decide +kernel
theorem dX7_withdraw_8 : decode cX7_withdraw 8 = .ok (.invokevirtual 160, 3) := by decide +kernel
theorem dX7_withdraw_11 : decode cX7_withdraw 11 = .ok (.ifCond .ne 6, 3) := by decide +kernel
theorem dX7_withdraw_14 : decode cX7_withdraw 14 = .ok (.ldc 60, 2) := by decide +kernel
theorem dX7_withdraw_16 : decode cX7_withdraw 16 = .ok (.ireturn, 1) := by decide +kernel
theorem dX7_withdraw_17 : decode cX7_withdraw 17 = .ok (.aload_n 0, 1) := by decide +kernel
theorem dX7_withdraw_18 : decode cX7_withdraw 18 = .ok (.getfield 10, 3) := by decide +kernel
theorem dX7_withdraw_21 : decode cX7_withdraw 21 = .ok (.getfield 142, 3) := by decide +kernel
theorem dX7_withdraw_24 : decode cX7_withdraw 24 = .ok (.iload_n 1, 1) := by decide +kernel
theorem dX7_withdraw_25 : decode cX7_withdraw 25 = .ok (.invokevirtual 171, 3) := by decide +kernel
theorem dX7_withdraw_28 : decode cX7_withdraw 28 = .ok (.ifCond .ne 6, 3) := by decide +kernel
theorem dX7_withdraw_31 : decode cX7_withdraw 31 = .ok (.ldc 128, 2) := by decide +kernel
theorem dX7_withdraw_33 : decode cX7_withdraw 33 = .ok (.ireturn, 1) := by decide +kernel
theorem dX7_withdraw_34 : decode cX7_withdraw 34 = .ok (.aload_n 0, 1) := by decide +kernel
theorem dX7_withdraw_35 : decode cX7_withdraw 35 = .ok (.invokevirtual 49, 3) := by decide +kernel
theorem dX7_withdraw_38 : decode cX7_withdraw 38 = .ok (.aload_n 0, 1) := by decide +kernel
theorem dX7_withdraw_39 : decode cX7_withdraw 39 = .ok (.getfield 10, 3) := by decide +kernel
theorem dX7_withdraw_42 : decode cX7_withdraw 42 = .ok (.getfield 142, 3) := by decide +kernel
theorem dX7_withdraw_45 : decode cX7_withdraw 45 = .ok (.iload_n 1, 1) := by decide +kernel
theorem dX7_withdraw_46 : decode cX7_withdraw 46 = .ok (.invokevirtual 174, 3) := by decide +kernel
theorem dX7_withdraw_49 : decode cX7_withdraw 49 = .ok (.aload_n 0, 1) := by decide +kernel
theorem dX7_withdraw_50 : decode cX7_withdraw 50 = .ok (.getfield 10, 3) := by decide +kernel
theorem dX7_withdraw_53 : decode cX7_withdraw 53 = .ok (.getfield 142, 3) := by decide +kernel
theorem dX7_withdraw_56 : decode cX7_withdraw 56 = .ok (.getfield 177, 3) := by decide +kernel
theorem dX7_withdraw_59 : decode cX7_withdraw 59 = .ok (.iload_n 1, 1) := by decide +kernel
theorem dX7_withdraw_60 : decode cX7_withdraw 60 = .ok (.iaload, 1) := by decide +kernel
theorem dX7_withdraw_61 : decode cX7_withdraw 61 = .ok (.ireturn, 1) := by decide +kernel
theorem hy_X7_withdraw : yX7_withdraw.cls ≠ "java/lang/invoke/MethodHandle" ∧ yX7_withdraw.cls ≠ "java/lang/invoke/VarHandle" ∧ (parseMethodDescriptor yX7_withdraw.desc).map (fun d => d.parameters.length) = some 1 := ⟨by decide +kernel, by decide +kernel, by decide +kernel⟩
set_option maxHeartbeats 4000000 in
set_option maxRecDepth 100000 in
theorem c_X7_withdraw (l0 : Launch) (D0 : va_G) (cI0 cJ0 : ClassId) (ad : Nat → Nat → Nat) (S : zM) (o : Int) (n0 : Nat) (n1 : Nat) (n2 : Nat) (n3 : Nat) (n4 : Nat) (hn0 : n0 < 5) (hn1 : n1 < 5) (hn2 : n2 < 5) (hn3 : n3 < 5) (hn4 : n4 < 5) (e0 : S 5 1 = (n0 : Int)) (e1 : S 5 2 = (n1 : Int)) (e2 : S 5 3 = (n2 : Int)) (e3 : S 5 4 = (n3 : Int)) (e4 : S 5 5 = (n4 : Int)) (h04 : n0 ≠ n4) (hst : 0 ≤ S 5 0 ∧ S 5 0 ≤ 4) (hI : Inv (S n0)) (bb_o : -2147483648 ≤ o ∧ o < 2147483648) : Ct l0 D0 cI0 cJ0 ad yX7_withdraw cX7_withdraw 2 (some .int) 4 89 [.ref (ad 5 22), .int (i32 o)] S (some (.int (i32 (rv_withdraw (S n0) o)))) (fun X => X = if ok_withdraw (S n0) o then us (us (us S n4 (S n0)) 5 (kp5 (S 5) n1 n2 n3 n4)) n0 (nx_withdraw (S n0) o) else S) := by
  refine Ct.of (by decide) (Nat.le_of_ble_eq_true rfl) (fun E hE hR => ?_)
  have hE : zG E l0 D0 cI0 cJ0 ad cX7_withdraw 2 RX7 4 89 := hE
  show Z E S 0 [(0, .ref (ad 5 22)), (1, .int (i32 o))] []
  have hI0 := hI.1
  have hA := inA hI0
  unfold InvA at hA
  have h05 : n0 ≠ 5 := by omega
  have h50 : 5 ≠ n0 := by omega
  have h45 : n4 ≠ 5 := by omega
  have h54 : 5 ≠ n4 := by omega
  have h40 : n4 ≠ n0 := fun q => h04 q.symm
  refine z_aload_n hE 0 rfl rfl dX7_withdraw_0 ?_
  refine gf_7_0 hE (by decide) zf_X7_10 dX7_withdraw_1 ?_
  rw [show (S 5 1).toNat = n0 by omega]
  refine gf_4_3 hE (ks_m hn0 (by decide)) zf_X7_142 dX7_withdraw_4 ?_
  refine z_iload_n hE 1 rfl rfl dX7_withdraw_7 ?_
  refine z_callV hE (c_X3_has l0 D0 cI0 cJ0 ad S n0 hn0 o (by omega) (by omega)) (ks_m hn0 (by decide)) rfl rfl zm_X7_160 zi_yX3_has zs_yX3_has zn_RX3 zc_yX3_has (hy_X3_has) (Nat.le_of_ble_eq_true rfl) (Nat.le_of_ble_eq_true rfl) rfl rfl rfl (Nat.le_of_ble_eq_true rfl) dX7_withdraw_8 ?_
  refine z_ifb_ne (tgt := 17) hE dX7_withdraw_11 (by decide) (fun c1 => ?_) (fun c1 => ?_)
  · have ho := inO hI0 o (by omega) (by omega)
    refine z_aload_n hE 0 rfl rfl dX7_withdraw_17 ?_
    refine gf_7_0 hE (by decide) zf_X7_10 dX7_withdraw_18 ?_
    rw [show (S 5 1).toNat = n0 by omega]
    refine gf_4_3 hE (ks_m hn0 (by decide)) zf_X7_142 dX7_withdraw_21 ?_
    refine z_iload_n hE 1 rfl rfl dX7_withdraw_24 ?_
    refine z_callV hE (c_X3_isOpen l0 D0 cI0 cJ0 ad S n0 hn0 o (by omega) (by omega)) (ks_m hn0 (by decide)) rfl rfl zm_X7_171 zi_yX3_isOpen zs_yX3_isOpen zn_RX3 zc_yX3_isOpen (hy_X3_isOpen) (Nat.le_of_ble_eq_true rfl) (Nat.le_of_ble_eq_true rfl) rfl rfl rfl (Nat.le_of_ble_eq_true rfl) dX7_withdraw_25 ?_
    refine z_ifb_ne (tgt := 34) hE dX7_withdraw_28 (by decide) (fun c2 => ?_) (fun c2 => ?_)
    · refine z_aload_n hE 0 rfl rfl dX7_withdraw_34 ?_
      refine z_callV hE (c_X7_keepState l0 D0 cI0 cJ0 ad S n0 n1 n2 n3 n4 hn0 hn1 hn2 hn3 hn4 e0 e1 e2 e3 e4 h04 hst) (by decide) rfl rfl zm_X7_49 zi_yX7_keepState zs_yX7_keepState zn_RX7 zc_yX7_keepState (hy_X7_keepState) (Nat.le_of_ble_eq_true rfl) (Nat.le_of_ble_eq_true rfl) rfl rfl rfl (Nat.le_of_ble_eq_true rfl) dX7_withdraw_35 ?_
      try simp only [us_eq, us_us, us_ne h05, us_ne h50, us_ne h45, us_ne h54, us_ne h40, us_ne h04, us_in h45, us_in h54, us_in h05, us_in h50]
      refine z_aload_n hE 0 rfl rfl dX7_withdraw_38 ?_
      refine gf_7_0 hE (by decide) zf_X7_10 dX7_withdraw_39 ?_
      try simp only [us_eq, us_us, us_ne h05, us_ne h50, us_ne h45, us_ne h54, us_ne h40, us_ne h04, us_in h45, us_in h54, us_in h05, us_in h50]
      rw [kp5_1]
      rw [show (S 5 1).toNat = n0 by omega]
      refine gf_4_3 hE (ks_m hn0 (by decide)) zf_X7_142 dX7_withdraw_42 ?_
      refine z_iload_n hE 1 rfl rfl dX7_withdraw_45 ?_
      refine z_callV hE (c_X3_close l0 D0 cI0 cJ0 ad (us (us S n4 ((S n0))) 5 (kp5 ((S 5)) n1 n2 n3 n4)) n0 hn0 o (by first | omega | (simp only [us_eq, us_ne h05, us_ne h50, us_ne h45, us_ne h54, us_ne h40, us_ne h04]; omega))) (ks_m hn0 (by decide)) rfl rfl zm_X7_174 zi_yX3_close zs_yX3_close zn_RX3 zc_yX3_close (hy_X3_close) (Nat.le_of_ble_eq_true rfl) (Nat.le_of_ble_eq_true rfl) rfl rfl rfl (Nat.le_of_ble_eq_true rfl) dX7_withdraw_46 ?_
      try simp only [us_eq, us_us, us_ne h05, us_ne h50, us_ne h45, us_ne h54, us_ne h40, us_ne h04, us_in h45, us_in h54, us_in h05, us_in h50]
      refine z_aload_n hE 0 rfl rfl dX7_withdraw_49 ?_
      refine gf_7_0 hE (by decide) zf_X7_10 dX7_withdraw_50 ?_
      try simp only [us_eq, us_us, us_ne h05, us_ne h50, us_ne h45, us_ne h54, us_ne h40, us_ne h04, us_in h45, us_in h54, us_in h05, us_in h50]
      rw [kp5_1]
      rw [show (S 5 1).toNat = n0 by omega]
      refine gf_4_3 hE (ks_m hn0 (by decide)) zf_X7_142 dX7_withdraw_53 ?_
      refine gf_3_4 hE (ks_m hn0 (by decide)) zf_X7_177 dX7_withdraw_56 ?_
      refine z_iload_n hE 1 rfl rfl dX7_withdraw_59 ?_
      refine al_12 hE (ks_m hn0 (by decide)) (by omega) (by omega) dX7_withdraw_60 ?_
      try simp only [us_eq, us_us, us_ne h05, us_ne h50, us_ne h45, us_ne h54, us_ne h40, us_ne h04, us_in h45, us_in h54, us_in h05, us_in h50]
      rw [begin_ne (by omega) (by omega) (by omega) (by omega)]
      exact z_iret hE hR dX7_withdraw_61 (congrArg (fun x => some (Value.int (i32 x))) (by unfold rv_withdraw; first | ((rw [if_neg (by omega)]) <;> first | rfl | omega) | ((rw [if_pos (by omega), if_neg (by omega)]) <;> first | rfl | omega) | ((rw [if_pos (by omega), if_pos (by omega)]) <;> first | rfl | omega))) (by first | ((rw [if_pos (by omega)]) <;> (rfl)) | (rw [if_neg (by omega)]))
    · refine z_ldc (a := -2000000002) hE zk_X7_128 (by decide) dX7_withdraw_31 ?_
      exact z_iret hE hR dX7_withdraw_33 (congrArg (fun x => some (Value.int (i32 x))) (by unfold rv_withdraw; first | ((rw [if_neg (by omega)]) <;> first | rfl | omega) | ((rw [if_pos (by omega), if_neg (by omega)]) <;> first | rfl | omega) | ((rw [if_pos (by omega), if_pos (by omega)]) <;> first | rfl | omega))) (by first | ((rw [if_pos (by omega)]) <;> (rfl)) | (rw [if_neg (by omega)]))
  · refine z_ldc (a := -2000000001) hE zk_X7_60 (by decide) dX7_withdraw_14 ?_
    exact z_iret hE hR dX7_withdraw_16 (congrArg (fun x => some (Value.int (i32 x))) (by unfold rv_withdraw; first | ((rw [if_neg (by omega)]) <;> first | rfl | omega) | ((rw [if_pos (by omega), if_neg (by omega)]) <;> first | rfl | omega) | ((rw [if_pos (by omega), if_pos (by omega)]) <;> first | rfl | omega))) (by first | ((rw [if_pos (by omega)]) <;> (rfl)) | (rw [if_neg (by omega)]))
def un5 (t : Int → Int) (n0 n1 n2 n3 n4 : Int) : Int → Int := up (up (up (up (up (up t 1 n1) 2 n2) 3 n3) 4 n4) 5 n0) 0 (t 0 - 1)
def rv_undo (n : Int) : Int := if 0 < n then n - 1 else -2000000002
theorem dX7_undo_0 : decode cX7_undo 0 = .ok (.aload_n 0, 1) := by decide +kernel
theorem dX7_undo_1 : decode cX7_undo 1 = .ok (.getfield 28, 3) := by decide +kernel
theorem dX7_undo_4 : decode cX7_undo 4 = .ok (.ifCond .gt 6, 3) := by decide +kernel
theorem dX7_undo_7 : decode cX7_undo 7 = .ok (.ldc 128, 2) := by decide +kernel
theorem dX7_undo_9 : decode cX7_undo 9 = .ok (.ireturn, 1) := by decide +kernel
theorem dX7_undo_10 : decode cX7_undo 10 = .ok (.aload_n 0, 1) := by decide +kernel
theorem dX7_undo_11 : decode cX7_undo 11 = .ok (.getfield 10, 3) := by decide +kernel
theorem dX7_undo_14 : decode cX7_undo 14 = .ok (.astore_n 1, 1) := by decide +kernel
theorem dX7_undo_15 : decode cX7_undo 15 = .ok (.aload_n 0, 1) := by decide +kernel
theorem dX7_undo_16 : decode cX7_undo 16 = .ok (.aload_n 0, 1) := by decide +kernel
theorem dX7_undo_17 : decode cX7_undo 17 = .ok (.getfield 16, 3) := by decide +kernel
theorem dX7_undo_20 : decode cX7_undo 20 = .ok (.putfield 10, 3) := by decide +kernel
theorem dX7_undo_23 : decode cX7_undo 23 = .ok (.aload_n 0, 1) := by decide +kernel
theorem dX7_undo_24 : decode cX7_undo 24 = .ok (.aload_n 0, 1) := by decide +kernel
theorem dX7_undo_25 : decode cX7_undo 25 = .ok (.getfield 19, 3) := by decide +kernel
theorem dX7_undo_28 : decode cX7_undo 28 = .ok (.putfield 16, 3) := by decide +kernel
theorem dX7_undo_31 : decode cX7_undo 31 = .ok (.aload_n 0, 1) := by decide +kernel
theorem dX7_undo_32 : decode cX7_undo 32 = .ok (.aload_n 0, 1) := by decide +kernel
theorem dX7_undo_33 : decode cX7_undo 33 = .ok (.getfield 22, 3) := by decide +kernel
theorem dX7_undo_36 : decode cX7_undo 36 = .ok (.putfield 19, 3) := by decide +kernel
theorem dX7_undo_39 : decode cX7_undo 39 = .ok (.aload_n 0, 1) := by decide +kernel
theorem dX7_undo_40 : decode cX7_undo 40 = .ok (.aload_n 0, 1) := by decide +kernel
theorem dX7_undo_41 : decode cX7_undo 41 = .ok (.getfield 25, 3) := by decide +kernel
theorem dX7_undo_44 : decode cX7_undo 44 = .ok (.putfield 22, 3) := by decide +kernel
theorem dX7_undo_47 : decode cX7_undo 47 = .ok (.aload_n 0, 1) := by decide +kernel
theorem dX7_undo_48 : decode cX7_undo 48 = .ok (.aload_n 1, 1) := by decide +kernel
theorem dX7_undo_49 : decode cX7_undo 49 = .ok (.putfield 25, 3) := by decide +kernel
theorem dX7_undo_52 : decode cX7_undo 52 = .ok (.aload_n 0, 1) := by decide +kernel
theorem dX7_undo_53 : decode cX7_undo 53 = .ok (.dup, 1) := by decide +kernel
theorem dX7_undo_54 : decode cX7_undo 54 = .ok (.getfield 28, 3) := by decide +kernel
theorem dX7_undo_57 : decode cX7_undo 57 = .ok (.iconst 1, 1) := by decide +kernel
theorem dX7_undo_58 : decode cX7_undo 58 = .ok (.isub, 1) := by decide +kernel
theorem dX7_undo_59 : decode cX7_undo 59 = .ok (.putfield 28, 3) := by decide +kernel
theorem dX7_undo_62 : decode cX7_undo 62 = .ok (.aload_n 0, 1) := by decide +kernel
theorem dX7_undo_63 : decode cX7_undo 63 = .ok (.getfield 28, 3) := by decide +kernel
theorem dX7_undo_66 : decode cX7_undo 66 = .ok (.ireturn, 1) := by decide +kernel
theorem hy_X7_undo : yX7_undo.cls ≠ "java/lang/invoke/MethodHandle" ∧ yX7_undo.cls ≠ "java/lang/invoke/VarHandle" ∧ (parseMethodDescriptor yX7_undo.desc).map (fun d => d.parameters.length) = some 0 := ⟨by decide +kernel, by decide +kernel, by decide +kernel⟩
set_option maxHeartbeats 4000000 in
set_option maxRecDepth 100000 in
theorem c_X7_undo (l0 : Launch) (D0 : va_G) (cI0 cJ0 : ClassId) (ad : Nat → Nat → Nat) (S : zM) (n0 : Nat) (n1 : Nat) (n2 : Nat) (n3 : Nat) (n4 : Nat) (hn0 : n0 < 5) (hn1 : n1 < 5) (hn2 : n2 < 5) (hn3 : n3 < 5) (hn4 : n4 < 5) (e0 : S 5 1 = (n0 : Int)) (e1 : S 5 2 = (n1 : Int)) (e2 : S 5 3 = (n2 : Int)) (e3 : S 5 4 = (n3 : Int)) (e4 : S 5 5 = (n4 : Int)) (h04 : n0 ≠ n4) (hst : 0 ≤ S 5 0 ∧ S 5 0 ≤ 4) : Ct l0 D0 cI0 cJ0 ad yX7_undo cX7_undo 2 (some .int) 0 0 [.ref (ad 5 22)] S (some (.int (i32 (rv_undo (S 5 0))))) (fun X => X = if 0 < S 5 0 then us S 5 (un5 (S 5) n0 n1 n2 n3 n4) else S) := by
  refine Ct.of (by decide) (Nat.le_of_ble_eq_true rfl) (fun E hE hR => ?_)
  have hE : zG E l0 D0 cI0 cJ0 ad cX7_undo 2 RX7 0 0 := hE
  show Z E S 0 [(0, .ref (ad 5 22))] []
  have h05 : n0 ≠ 5 := by omega
  have h50 : 5 ≠ n0 := by omega
  have h45 : n4 ≠ 5 := by omega
  have h54 : 5 ≠ n4 := by omega
  have h40 : n4 ≠ n0 := fun q => h04 q.symm
  refine z_aload_n hE 0 rfl rfl dX7_undo_0 ?_
  refine gf_7_5 hE (by decide) zf_X7_28 dX7_undo_1 ?_
  refine z_if_gt (tgt := 10) hE dX7_undo_4 (by decide) ⟨by omega, by omega⟩ (fun c1 => ?_) (fun c1 => ?_)
  · refine z_aload_n hE 0 rfl rfl dX7_undo_10 ?_
    refine gf_7_0 hE (by decide) zf_X7_10 dX7_undo_11 ?_
    rw [show (S 5 1).toNat = n0 by omega]
    refine z_astore_n hE rfl (by decide) rfl dX7_undo_14 ?_
    refine z_aload_n hE 1 rfl rfl dX7_undo_15 ?_
    refine z_aload_n hE 1 rfl rfl dX7_undo_16 ?_
    refine gf_7_1 hE (by decide) zf_X7_16 dX7_undo_17 ?_
    rw [show (S 5 2).toNat = n1 by omega]
    refine pf_7_0 hE (by decide) zf_X7_10 dX7_undo_20 ?_
    refine z_aload_n hE 1 rfl rfl dX7_undo_23 ?_
    refine z_aload_n hE 1 rfl rfl dX7_undo_24 ?_
    refine gf_7_2 hE (by decide) zf_X7_19 dX7_undo_25 ?_
    try simp only [us_eq, us_us, us_ne h05, us_ne h50, us_ne h45, us_ne h54, us_ne h40, us_ne h04, us_in h45, us_in h54, us_in h05, us_in h50]
    rw [up_ne (show 3 ≠ 1 by omega)]
    rw [show (S 5 3).toNat = n2 by omega]
    refine pf_7_1 hE (by decide) zf_X7_16 dX7_undo_28 ?_
    try simp only [us_eq, us_us, us_ne h05, us_ne h50, us_ne h45, us_ne h54, us_ne h40, us_ne h04, us_in h45, us_in h54, us_in h05, us_in h50]
    refine z_aload_n hE 1 rfl rfl dX7_undo_31 ?_
    refine z_aload_n hE 1 rfl rfl dX7_undo_32 ?_
    refine gf_7_3 hE (by decide) zf_X7_22 dX7_undo_33 ?_
    try simp only [us_eq, us_us, us_ne h05, us_ne h50, us_ne h45, us_ne h54, us_ne h40, us_ne h04, us_in h45, us_in h54, us_in h05, us_in h50]
    rw [up_ne (show 4 ≠ 2 by omega)]
    rw [up_ne (show 4 ≠ 1 by omega)]
    rw [show (S 5 4).toNat = n3 by omega]
    refine pf_7_2 hE (by decide) zf_X7_19 dX7_undo_36 ?_
    try simp only [us_eq, us_us, us_ne h05, us_ne h50, us_ne h45, us_ne h54, us_ne h40, us_ne h04, us_in h45, us_in h54, us_in h05, us_in h50]
    refine z_aload_n hE 1 rfl rfl dX7_undo_39 ?_
    refine z_aload_n hE 1 rfl rfl dX7_undo_40 ?_
    refine gf_7_4 hE (by decide) zf_X7_25 dX7_undo_41 ?_
    try simp only [us_eq, us_us, us_ne h05, us_ne h50, us_ne h45, us_ne h54, us_ne h40, us_ne h04, us_in h45, us_in h54, us_in h05, us_in h50]
    rw [up_ne (show 5 ≠ 3 by omega)]
    rw [up_ne (show 5 ≠ 2 by omega)]
    rw [up_ne (show 5 ≠ 1 by omega)]
    rw [show (S 5 5).toNat = n4 by omega]
    refine pf_7_3 hE (by decide) zf_X7_22 dX7_undo_44 ?_
    try simp only [us_eq, us_us, us_ne h05, us_ne h50, us_ne h45, us_ne h54, us_ne h40, us_ne h04, us_in h45, us_in h54, us_in h05, us_in h50]
    refine z_aload_n hE 1 rfl rfl dX7_undo_47 ?_
    refine z_aload_n hE 0 rfl rfl dX7_undo_48 ?_
    refine pf_7_4 hE (by decide) zf_X7_25 dX7_undo_49 ?_
    try simp only [us_eq, us_us, us_ne h05, us_ne h50, us_ne h45, us_ne h54, us_ne h40, us_ne h04, us_in h45, us_in h54, us_in h05, us_in h50]
    refine z_aload_n hE 1 rfl rfl dX7_undo_52 ?_
    refine z_dup hE rfl dX7_undo_53 ?_
    refine gf_7_5 hE (by decide) zf_X7_28 dX7_undo_54 ?_
    try simp only [us_eq, us_us, us_ne h05, us_ne h50, us_ne h45, us_ne h54, us_ne h40, us_ne h04, us_in h45, us_in h54, us_in h05, us_in h50]
    rw [up_ne (show 0 ≠ 5 by omega)]
    rw [up_ne (show 0 ≠ 4 by omega)]
    rw [up_ne (show 0 ≠ 3 by omega)]
    rw [up_ne (show 0 ≠ 2 by omega)]
    rw [up_ne (show 0 ≠ 1 by omega)]
    refine z_iconst hE dX7_undo_57 ?_
    refine z_isub hE dX7_undo_58 ?_
    refine pf_7_5 hE (by decide) zf_X7_28 dX7_undo_59 ?_
    try simp only [us_eq, us_us, us_ne h05, us_ne h50, us_ne h45, us_ne h54, us_ne h40, us_ne h04, us_in h45, us_in h54, us_in h05, us_in h50]
    refine z_aload_n hE 1 rfl rfl dX7_undo_62 ?_
    refine gf_7_5 hE (by decide) zf_X7_28 dX7_undo_63 ?_
    try simp only [us_eq, us_us, us_ne h05, us_ne h50, us_ne h45, us_ne h54, us_ne h40, us_ne h04, us_in h45, us_in h54, us_in h05, us_in h50]
    rw [up_eq]
    exact z_iret hE hR dX7_undo_66 (congrArg (fun x => some (Value.int (i32 x))) (by unfold rv_undo; first | ((rw [if_neg (by omega)]) <;> first | rfl | omega) | ((rw [if_pos (by omega)]) <;> first | rfl | omega))) (by first | ((rw [if_pos (by omega)]) <;> rfl) | (rw [if_neg (by omega)]))
  · refine z_ldc (a := -2000000002) hE zk_X7_128 (by decide) dX7_undo_7 ?_
    exact z_iret hE hR dX7_undo_9 (congrArg (fun x => some (Value.int (i32 x))) (by unfold rv_undo; first | ((rw [if_neg (by omega)]) <;> first | rfl | omega) | ((rw [if_pos (by omega)]) <;> first | rfl | omega))) (by first | ((rw [if_pos (by omega)]) <;> rfl) | (rw [if_neg (by omega)]))
theorem dX7_passDays_0 : decode cX7_passDays 0 = .ok (.iload_n 1, 1) := by decide +kernel
theorem dX7_passDays_1 : decode cX7_passDays 1 = .ok (.iconst 1, 1) := by decide +kernel
theorem dX7_passDays_2 : decode cX7_passDays 2 = .ok (.bipush 60, 2) := by decide +kernel
theorem dX7_passDays_4 : decode cX7_passDays 4 = .ok (.invokestatic 56, 3) := by decide +kernel
theorem dX7_passDays_7 : decode cX7_passDays 7 = .ok (.ifCond .ne 6, 3) := by decide +kernel
theorem dX7_passDays_10 : decode cX7_passDays 10 = .ok (.ldc 60, 2) := by decide +kernel
theorem dX7_passDays_12 : decode cX7_passDays 12 = .ok (.ireturn, 1) := by decide +kernel
theorem dX7_passDays_13 : decode cX7_passDays 13 = .ok (.aload_n 0, 1) := by decide +kernel
theorem dX7_passDays_14 : decode cX7_passDays 14 = .ok (.invokevirtual 49, 3) := by decide +kernel
theorem dX7_passDays_17 : decode cX7_passDays 17 = .ok (.iconst 0, 1) := by decide +kernel
theorem dX7_passDays_18 : decode cX7_passDays 18 = .ok (.istore_n 2, 1) := by decide +kernel
theorem dX7_passDays_19 : decode cX7_passDays 19 = .ok (.iconst 0, 1) := by decide +kernel
theorem dX7_passDays_20 : decode cX7_passDays 20 = .ok (.istore_n 3, 1) := by decide +kernel
theorem dX7_passDays_21 : decode cX7_passDays 21 = .ok (.iload_n 3, 1) := by decide +kernel
theorem dX7_passDays_22 : decode cX7_passDays 22 = .ok (.iload_n 1, 1) := by decide +kernel
theorem dX7_passDays_23 : decode cX7_passDays 23 = .ok (.if_icmp .ge 23, 3) := by decide +kernel
theorem dX7_passDays_26 : decode cX7_passDays 26 = .ok (.iload_n 2, 1) := by decide +kernel
theorem dX7_passDays_27 : decode cX7_passDays 27 = .ok (.aload_n 0, 1) := by decide +kernel
theorem dX7_passDays_28 : decode cX7_passDays 28 = .ok (.getfield 10, 3) := by decide +kernel
theorem dX7_passDays_31 : decode cX7_passDays 31 = .ok (.aload_n 0, 1) := by decide +kernel
theorem dX7_passDays_32 : decode cX7_passDays 32 = .ok (.getfield 35, 3) := by decide +kernel
theorem dX7_passDays_35 : decode cX7_passDays 35 = .ok (.invokevirtual 180, 3) := by decide +kernel
theorem dX7_passDays_38 : decode cX7_passDays 38 = .ok (.iadd, 1) := by decide +kernel
theorem dX7_passDays_39 : decode cX7_passDays 39 = .ok (.istore_n 2, 1) := by decide +kernel
theorem dX7_passDays_40 : decode cX7_passDays 40 = .ok (.iinc 3 1, 3) := by decide +kernel
theorem dX7_passDays_43 : decode cX7_passDays 43 = .ok (.goto (-22), 3) := by decide +kernel
theorem dX7_passDays_46 : decode cX7_passDays 46 = .ok (.iload_n 2, 1) := by decide +kernel
theorem dX7_passDays_47 : decode cX7_passDays 47 = .ok (.ireturn, 1) := by decide +kernel
theorem hy_X7_passDays : yX7_passDays.cls ≠ "java/lang/invoke/MethodHandle" ∧ yX7_passDays.cls ≠ "java/lang/invoke/VarHandle" ∧ (parseMethodDescriptor yX7_passDays.desc).map (fun d => d.parameters.length) = some 1 := ⟨by decide +kernel, by decide +kernel, by decide +kernel⟩
set_option maxHeartbeats 4000000 in
set_option maxRecDepth 100000 in
theorem lp_X7_passDays {E : zE} {l0 : Launch} {D0 : va_G} {cI0 cJ0 : ClassId} {ad : Nat → Nat → Nat} (hE : zG E l0 D0 cI0 cJ0 ad cX7_passDays 4 RX7 6 143) (S : zM) (d : Int) (n0 : Nat) (n1 : Nat) (n2 : Nat) (n3 : Nat) (n4 : Nat) (hn0 : n0 < 5) (hn1 : n1 < 5) (hn2 : n2 < 5) (hn3 : n3 < 5) (hn4 : n4 < 5) (e0 : S 5 1 = (n0 : Int)) (e1 : S 5 2 = (n1 : Int)) (e2 : S 5 3 = (n2 : Int)) (e3 : S 5 4 = (n3 : Int)) (e4 : S 5 5 = (n4 : Int)) (h04 : n0 ≠ n4) (hst : 0 ≤ S 5 0 ∧ S 5 0 ≤ 4) (hI : Inv (S n0)) (bd : -2147483648 ≤ d ∧ d < 2147483648) (hR : zR E (some .int) (some (.int (i32 (rv_passDays (S n0) d)))) (fun X => if ok_passDays d then ∃ g : Int → Int, X = us (us (us S n4 (S n0)) 5 g) n0 (nx_passDays (S n0) d) ∧ ∀ q : Int, q < 100 → g q = kp5 (S 5) n1 n2 n3 n4 q else X = S)) : ∀ (fuel : Nat) (i : Int) (g : Int → Int) (hok : 1 ≤ d ∧ d ≤ 60) (h9 : 0 ≤ i ∧ i ≤ d) (hg : ∀ q : Int, q < 100 → g q = kp5 (S 5) n1 n2 n3 n4 q), (d - i).toNat < fuel → Z E (us (us (us S n4 (S n0)) 5 g) n0 (sp_days (S n0) i.toNat)) 21 [(3, .int (i32 i)), (2, .int (i32 (sp_daysN (S n0) i.toNat))), (0, .ref (ad 5 22)), (1, .int (i32 d))] [] := by
  intro fuel
  induction fuel with
  | zero => intro _ _ _ _ _ hz; omega
  | succ fuel ih =>
    intro i g hok h9 hg hz
    have hI0 := hI.1
    have hA := inA hI0
    unfold InvA at hA
    have h05 : n0 ≠ 5 := by omega
    have h50 : 5 ≠ n0 := by omega
    have h45 : n4 ≠ 5 := by omega
    have h54 : 5 ≠ n4 := by omega
    have h40 : n4 ≠ n0 := fun q => h04 q.symm
    have hdi := inv_days hI0 hI.2.1 i.toNat
    have hg1 : g 1 = (n0 : Int) := by rw [hg 1 (by omega), kp5_1]; exact e0
    refine z_iload_n hE 0 rfl rfl dX7_passDays_21 ?_
    refine z_iload_n hE 3 rfl rfl dX7_passDays_22 ?_
    refine z_icmp_ge (tgt := 46) hE dX7_passDays_23 (by decide) ⟨by omega, by omega⟩ ⟨by omega, by omega⟩ (fun c1 => ?_) (fun c1 => ?_)
    · rw [show i = d by omega]
      refine z_memA hE hn0 (g := nx_passDays (S n0) d) (fun q hq => ?_) ?_
      · have h18 : q ≠ 18 := fun e => hq (by rw [e]; decide)
        unfold nx_passDays; rw [uq_ne h18]
      refine z_iload_n hE 1 rfl rfl dX7_passDays_46 ?_
      exact z_iret hE hR dX7_passDays_47 (congrArg (fun x => some (Value.int (i32 x))) (by unfold rv_passDays; first | ((rw [if_neg (by omega)]) <;> first | rfl | omega) | ((rw [if_pos (by omega)]) <;> first | rfl | omega))) (by first | (rw [if_pos (by omega)]; exact ⟨g, rfl, hg⟩) | (rw [if_neg (by omega)]))
    · refine z_iload_n hE 1 rfl rfl dX7_passDays_26 ?_
      refine z_aload_n hE 2 rfl rfl dX7_passDays_27 ?_
      refine gf_7_0 hE (by decide) zf_X7_10 dX7_passDays_28 ?_
      try simp only [us_eq, us_us, us_ne h05, us_ne h50, us_ne h45, us_ne h54, us_ne h40, us_ne h04, us_in h45, us_in h54, us_in h05, us_in h50]
      rw [show (g 1).toNat = n0 by omega]
      refine z_aload_n hE 2 rfl rfl dX7_passDays_31 ?_
      refine gf_7_6 hE (by decide) zf_X7_35 dX7_passDays_32 ?_
      refine z_callVp hE (c_X4_runDay l0 D0 cI0 cJ0 ad (us (us (us S n4 (S n0)) 5 g) n0 (sp_days (S n0) i.toNat)) n0 hn0 (by rw [us_eq]; exact hdi.1) (by rw [us_eq]; exact hdi.2.1)) (ks_m hn0 (by decide)) rfl rfl zm_X7_180 zi_yX4_runDay zs_yX4_runDay zn_RX4 zc_yX4_runDay (hy_X4_runDay) (Nat.le_of_ble_eq_true rfl) (Nat.le_of_ble_eq_true rfl) rfl rfl rfl (Nat.le_of_ble_eq_true rfl) dX7_passDays_35 (fun M35 hM35 => ?_)
      obtain ⟨g35, rfl, hg35⟩ := hM35
      try simp only [us_eq, us_us, us_ne h05, us_ne h50, us_ne h45, us_ne h54, us_ne h40, us_ne h04, us_in h45, us_in h54, us_in h05, us_in h50]
      try simp only [us_eq, us_ne h05, us_ne h50, us_ne h45, us_ne h54, us_ne h40, us_ne h04] at hg35
      try simp only [us_eq, us_us, us_ne h05, us_ne h50, us_ne h45, us_ne h54, us_ne h40, us_ne h04, us_in h45, us_in h54, us_in h05, us_in h50]
      refine z_iadd hE dX7_passDays_38 ?_
      refine z_istore_n hE rfl (by decide) rfl dX7_passDays_39 ?_
      refine z_iinc hE 1 rfl (by decide) rfl dX7_passDays_40 ?_
      refine z_goto (tgt := 21) hE (d := dX7_passDays_43) (ht := by decide) ?_
      refine z_L (L' := [(3, .int (i32 (i + 1))), (2, .int (i32 (sp_daysN (S n0) (i + 1).toNat))), (0, .ref (ad 5 22)), (1, .int (i32 d))]) [0, 1, 2, 3] (by rw [show sp_daysN (S n0) (i + 1).toNat = (sp_daysN (S n0) i.toNat) + (sp_dayN ((sp_days (S n0) i.toNat))) from by first | rfl | (rw [(days_s h9.1).2])]; rfl) ?_
      rw [← (days_s h9.1).1]
      exact ih (i + 1) g35 hok ⟨by omega, by omega⟩ (fun q h1 => (hg35 q h1).trans (hg q h1)) (by omega)
set_option maxHeartbeats 4000000 in
set_option maxRecDepth 100000 in
theorem c_X7_passDays (l0 : Launch) (D0 : va_G) (cI0 cJ0 : ClassId) (ad : Nat → Nat → Nat) (S : zM) (d : Int) (n0 : Nat) (n1 : Nat) (n2 : Nat) (n3 : Nat) (n4 : Nat) (hn0 : n0 < 5) (hn1 : n1 < 5) (hn2 : n2 < 5) (hn3 : n3 < 5) (hn4 : n4 < 5) (e0 : S 5 1 = (n0 : Int)) (e1 : S 5 2 = (n1 : Int)) (e2 : S 5 3 = (n2 : Int)) (e3 : S 5 4 = (n3 : Int)) (e4 : S 5 5 = (n4 : Int)) (h04 : n0 ≠ n4) (hst : 0 ≤ S 5 0 ∧ S 5 0 ≤ 4) (hI : Inv (S n0)) (bd : -2147483648 ≤ d ∧ d < 2147483648) : Ct l0 D0 cI0 cJ0 ad yX7_passDays cX7_passDays 4 (some .int) 6 143 [.ref (ad 5 22), .int (i32 d)] S (some (.int (i32 (rv_passDays (S n0) d)))) (fun X => if ok_passDays d then ∃ g : Int → Int, X = us (us (us S n4 (S n0)) 5 g) n0 (nx_passDays (S n0) d) ∧ ∀ q : Int, q < 100 → g q = kp5 (S 5) n1 n2 n3 n4 q else X = S) := by
  refine Ct.of (by decide) (Nat.le_of_ble_eq_true rfl) (fun E hE hR => ?_)
  have hE : zG E l0 D0 cI0 cJ0 ad cX7_passDays 4 RX7 6 143 := hE
  show Z E S 0 [(0, .ref (ad 5 22)), (1, .int (i32 d))] []
  have hI0 := hI.1
  have hA := inA hI0
  unfold InvA at hA
  have h05 : n0 ≠ 5 := by omega
  have h50 : 5 ≠ n0 := by omega
  have h45 : n4 ≠ 5 := by omega
  have h54 : 5 ≠ n4 := by omega
  have h40 : n4 ≠ n0 := fun q => h04 q.symm
  refine z_iload_n hE 1 rfl rfl dX7_passDays_0 ?_
  refine z_iconst hE dX7_passDays_1 ?_
  refine z_bipush (a := 60) hE (by decide) dX7_passDays_2 ?_
  refine z_callS hE (c_X7_isWithin l0 D0 cI0 cJ0 ad S d 1 60 (⟨by omega, by omega⟩) (⟨by omega, by omega⟩) (⟨by omega, by omega⟩)) zm_X7_56 zt_yX7_isWithin zn_RX7 zc_yX7_isWithin (hy_X7_isWithin) (Nat.le_of_ble_eq_true rfl) (Nat.le_of_ble_eq_true rfl) rfl rfl rfl (Nat.le_of_ble_eq_true rfl) dX7_passDays_4 ?_
  refine z_ifb_ne (tgt := 13) hE dX7_passDays_7 (by decide) (fun c1 => ?_) (fun c1 => ?_)
  · refine z_aload_n hE 0 rfl rfl dX7_passDays_13 ?_
    refine z_callV hE (c_X7_keepState l0 D0 cI0 cJ0 ad S n0 n1 n2 n3 n4 hn0 hn1 hn2 hn3 hn4 e0 e1 e2 e3 e4 h04 hst) (by decide) rfl rfl zm_X7_49 zi_yX7_keepState zs_yX7_keepState zn_RX7 zc_yX7_keepState (hy_X7_keepState) (Nat.le_of_ble_eq_true rfl) (Nat.le_of_ble_eq_true rfl) rfl rfl rfl (Nat.le_of_ble_eq_true rfl) dX7_passDays_14 ?_
    try simp only [us_eq, us_us, us_ne h05, us_ne h50, us_ne h45, us_ne h54, us_ne h40, us_ne h04, us_in h45, us_in h54, us_in h05, us_in h50]
    refine z_iconst hE dX7_passDays_17 ?_
    refine z_istore_n hE rfl (by decide) rfl dX7_passDays_18 ?_
    refine z_iconst hE dX7_passDays_19 ?_
    refine z_istore_n hE rfl (by decide) rfl dX7_passDays_20 ?_
    refine z_L (L' := [(3, .int (i32 (0 : Int))), (2, .int (i32 (sp_daysN (S n0) ((0 : Int)).toNat))), (0, .ref (ad 5 22)), (1, .int (i32 d))]) [0, 1, 2, 3] (by rw [show sp_daysN (S n0) ((0 : Int)).toNat = 0 from by first | rfl | (rfl)]; rfl) ?_
    have em1 : us (us S n4 (S n0)) 5 (kp5 (S 5) n1 n2 n3 n4) n0 = S n0 := by rw [us_ne h05, us_ne h04]
    have em2 := us_id (us (us S n4 (S n0)) 5 (kp5 (S 5) n1 n2 n3 n4)) n0
    rw [em1] at em2
    rw [← em2]
    exact lp_X7_passDays hE S d n0 n1 n2 n3 n4 hn0 hn1 hn2 hn3 hn4 e0 e1 e2 e3 e4 h04 hst hI bd hR 61 ((0 : Int)) (kp5 (S 5) n1 n2 n3 n4) ⟨by omega, by omega⟩ ⟨by omega, by omega⟩ (fun q h1 => rfl) (by omega)
  · refine z_ldc (a := -2000000001) hE zk_X7_60 (by decide) dX7_passDays_10 ?_
    exact z_iret hE hR dX7_passDays_12 (congrArg (fun x => some (Value.int (i32 x))) (by unfold rv_passDays; first | ((rw [if_neg (by omega)]) <;> first | rfl | omega) | ((rw [if_pos (by omega)]) <;> first | rfl | omega))) (by first | (rw [if_pos (by omega)]; exact ⟨g, rfl, hg⟩) | (rw [if_neg (by omega)]))
