theorem dX7_memberCount_0 : decode cX7_memberCount 0 = .ok (.aload_n 0, 1) := by decide +kernel
theorem dX7_memberCount_1 : decode cX7_memberCount 1 = .ok (.getfield 10, 3) := by decide +kernel
theorem dX7_memberCount_4 : decode cX7_memberCount 4 = .ok (.getfield 39, 3) := by decide +kernel
theorem dX7_memberCount_7 : decode cX7_memberCount 7 = .ok (.getfield 43, 3) := by decide +kernel
theorem dX7_memberCount_10 : decode cX7_memberCount 10 = .ok (.ireturn, 1) := by decide +kernel
theorem hy_X7_memberCount : yX7_memberCount.cls ≠ "java/lang/invoke/MethodHandle" ∧ yX7_memberCount.cls ≠ "java/lang/invoke/VarHandle" ∧ (parseMethodDescriptor yX7_memberCount.desc).map (fun d => d.parameters.length) = some 0 := ⟨by decide +kernel, by decide +kernel, by decide +kernel⟩
set_option maxHeartbeats 4000000 in
set_option maxRecDepth 100000 in
theorem c_X7_memberCount (l0 : Launch) (D0 : va_G) (cI0 cJ0 : ClassId) (ad : Nat → Nat → Nat) (S : zM) (n0 : Nat) (hn0 : n0 < 5) (e0 : S 5 1 = (n0 : Int)) (hI : Inv (S n0)) : Ct l0 D0 cI0 cJ0 ad yX7_memberCount cX7_memberCount 1 (some .int) 0 0 [.ref (ad 5 22)] S (some (.int (i32 (S n0 0)))) (fun X => X = S) := by
  refine Ct.of (by decide) (Nat.le_of_ble_eq_true rfl) (fun E hE hR => ?_)
  have hE : zG E l0 D0 cI0 cJ0 ad cX7_memberCount 1 RX7 0 0 := hE
  show Z E S 0 [(0, .ref (ad 5 22))] []
  have hI0 := hI.1
  have hA := inA hI0
  unfold InvA at hA
  refine z_aload_n hE 0 rfl rfl dX7_memberCount_0 ?_
  refine gf_7_0 hE (by decide) zf_X7_10 dX7_memberCount_1 ?_
  rw [show (S 5 1).toNat = n0 by omega]
  refine gf_4_0 hE (ks_m hn0 (by decide)) zf_X7_39 dX7_memberCount_4 ?_
  refine gf_1_0 hE (ks_m hn0 (by decide)) zf_X7_43 dX7_memberCount_7 ?_
  exact z_iret hE hR dX7_memberCount_10 (congrArg (fun x => some (Value.int (i32 x))) (by first | rfl | omega)) (by first | rfl | (simp only [us_id]))
theorem dX7_allShares_0 : decode cX7_allShares 0 = .ok (.aload_n 0, 1) := by decide +kernel
theorem dX7_allShares_1 : decode cX7_allShares 1 = .ok (.getfield 10, 3) := by decide +kernel
theorem dX7_allShares_4 : decode cX7_allShares 4 = .ok (.invokevirtual 61, 3) := by decide +kernel
theorem dX7_allShares_7 : decode cX7_allShares 7 = .ok (.ireturn, 1) := by decide +kernel
theorem hy_X7_allShares : yX7_allShares.cls ≠ "java/lang/invoke/MethodHandle" ∧ yX7_allShares.cls ≠ "java/lang/invoke/VarHandle" ∧ (parseMethodDescriptor yX7_allShares.desc).map (fun d => d.parameters.length) = some 0 := ⟨by decide +kernel, by decide +kernel, by decide +kernel⟩
set_option maxHeartbeats 4000000 in
set_option maxRecDepth 100000 in
theorem c_X7_allShares (l0 : Launch) (D0 : va_G) (cI0 cJ0 : ClassId) (ad : Nat → Nat → Nat) (S : zM) (n0 : Nat) (hn0 : n0 < 5) (e0 : S 5 1 = (n0 : Int)) (hI : Inv (S n0)) : Ct l0 D0 cI0 cJ0 ad yX7_allShares cX7_allShares 1 (some .int) 1 22 [.ref (ad 5 22)] S (some (.int (i32 (sp_all (S n0))))) (fun X => X = S) := by
  refine Ct.of (by decide) (Nat.le_of_ble_eq_true rfl) (fun E hE hR => ?_)
  have hE : zG E l0 D0 cI0 cJ0 ad cX7_allShares 1 RX7 1 22 := hE
  show Z E S 0 [(0, .ref (ad 5 22))] []
  have hI0 := hI.1
  have hA := inA hI0
  unfold InvA at hA
  refine z_aload_n hE 0 rfl rfl dX7_allShares_0 ?_
  refine gf_7_0 hE (by decide) zf_X7_10 dX7_allShares_1 ?_
  rw [show (S 5 1).toNat = n0 by omega]
  refine z_callV hE (c_X4_countAllShares l0 D0 cI0 cJ0 ad S n0 hn0 hI0) (ks_m hn0 (by decide)) rfl rfl zm_X7_61 zi_yX4_countAllShares zs_yX4_countAllShares zn_RX4 zc_yX4_countAllShares (hy_X4_countAllShares) (Nat.le_of_ble_eq_true rfl) (Nat.le_of_ble_eq_true rfl) rfl rfl rfl (Nat.le_of_ble_eq_true rfl) dX7_allShares_4 ?_
  exact z_iret hE hR dX7_allShares_7 (congrArg (fun x => some (Value.int (i32 x))) (by first | rfl | omega)) (by first | rfl | (simp only [us_id]))
theorem dX7_treasury_0 : decode cX7_treasury 0 = .ok (.aload_n 0, 1) := by decide +kernel
theorem dX7_treasury_1 : decode cX7_treasury 1 = .ok (.getfield 10, 3) := by decide +kernel
theorem dX7_treasury_4 : decode cX7_treasury 4 = .ok (.getfield 110, 3) := by decide +kernel
theorem dX7_treasury_7 : decode cX7_treasury 7 = .ok (.ireturn, 1) := by decide +kernel
theorem hy_X7_treasury : yX7_treasury.cls ≠ "java/lang/invoke/MethodHandle" ∧ yX7_treasury.cls ≠ "java/lang/invoke/VarHandle" ∧ (parseMethodDescriptor yX7_treasury.desc).map (fun d => d.parameters.length) = some 0 := ⟨by decide +kernel, by decide +kernel, by decide +kernel⟩
set_option maxHeartbeats 4000000 in
set_option maxRecDepth 100000 in
theorem c_X7_treasury (l0 : Launch) (D0 : va_G) (cI0 cJ0 : ClassId) (ad : Nat → Nat → Nat) (S : zM) (n0 : Nat) (hn0 : n0 < 5) (e0 : S 5 1 = (n0 : Int)) (hI : Inv (S n0)) : Ct l0 D0 cI0 cJ0 ad yX7_treasury cX7_treasury 1 (some .int) 0 0 [.ref (ad 5 22)] S (some (.int (i32 (S n0 2)))) (fun X => X = S) := by
  refine Ct.of (by decide) (Nat.le_of_ble_eq_true rfl) (fun E hE hR => ?_)
  have hE : zG E l0 D0 cI0 cJ0 ad cX7_treasury 1 RX7 0 0 := hE
  show Z E S 0 [(0, .ref (ad 5 22))] []
  have hI0 := hI.1
  have hA := inA hI0
  unfold InvA at hA
  refine z_aload_n hE 0 rfl rfl dX7_treasury_0 ?_
  refine gf_7_0 hE (by decide) zf_X7_10 dX7_treasury_1 ?_
  rw [show (S 5 1).toNat = n0 by omega]
  refine gf_4_5 hE (ks_m hn0 (by decide)) zf_X7_110 dX7_treasury_4 ?_
  exact z_iret hE hR dX7_treasury_7 (congrArg (fun x => some (Value.int (i32 x))) (by first | rfl | omega)) (by first | rfl | (simp only [us_id]))
theorem dX7_price_0 : decode cX7_price 0 = .ok (.aload_n 0, 1) := by decide +kernel
theorem dX7_price_1 : decode cX7_price 1 = .ok (.getfield 10, 3) := by decide +kernel
theorem dX7_price_4 : decode cX7_price 4 = .ok (.getfield 73, 3) := by decide +kernel
theorem dX7_price_7 : decode cX7_price 7 = .ok (.getfield 77, 3) := by decide +kernel
theorem dX7_price_10 : decode cX7_price 10 = .ok (.ireturn, 1) := by decide +kernel
theorem hy_X7_price : yX7_price.cls ≠ "java/lang/invoke/MethodHandle" ∧ yX7_price.cls ≠ "java/lang/invoke/VarHandle" ∧ (parseMethodDescriptor yX7_price.desc).map (fun d => d.parameters.length) = some 0 := ⟨by decide +kernel, by decide +kernel, by decide +kernel⟩
set_option maxHeartbeats 4000000 in
set_option maxRecDepth 100000 in
theorem c_X7_price (l0 : Launch) (D0 : va_G) (cI0 cJ0 : ClassId) (ad : Nat → Nat → Nat) (S : zM) (n0 : Nat) (hn0 : n0 < 5) (e0 : S 5 1 = (n0 : Int)) (hI : Inv (S n0)) : Ct l0 D0 cI0 cJ0 ad yX7_price cX7_price 1 (some .int) 0 0 [.ref (ad 5 22)] S (some (.int (i32 (S n0 6)))) (fun X => X = S) := by
  refine Ct.of (by decide) (Nat.le_of_ble_eq_true rfl) (fun E hE hR => ?_)
  have hE : zG E l0 D0 cI0 cJ0 ad cX7_price 1 RX7 0 0 := hE
  show Z E S 0 [(0, .ref (ad 5 22))] []
  have hI0 := hI.1
  have hA := inA hI0
  unfold InvA at hA
  refine z_aload_n hE 0 rfl rfl dX7_price_0 ?_
  refine gf_7_0 hE (by decide) zf_X7_10 dX7_price_1 ?_
  rw [show (S 5 1).toNat = n0 by omega]
  refine gf_4_2 hE (ks_m hn0 (by decide)) zf_X7_73 dX7_price_4 ?_
  refine gf_0_2 hE (ks_m hn0 (by decide)) zf_X7_77 dX7_price_7 ?_
  exact z_iret hE hR dX7_price_10 (congrArg (fun x => some (Value.int (i32 x))) (by first | rfl | omega)) (by first | rfl | (simp only [us_id]))
theorem dX7_parValue_0 : decode cX7_parValue 0 = .ok (.aload_n 0, 1) := by decide +kernel
theorem dX7_parValue_1 : decode cX7_parValue 1 = .ok (.getfield 10, 3) := by decide +kernel
theorem dX7_parValue_4 : decode cX7_parValue 4 = .ok (.getfield 86, 3) := by decide +kernel
theorem dX7_parValue_7 : decode cX7_parValue 7 = .ok (.getfield 132, 3) := by decide +kernel
theorem dX7_parValue_10 : decode cX7_parValue 10 = .ok (.ireturn, 1) := by decide +kernel
theorem hy_X7_parValue : yX7_parValue.cls ≠ "java/lang/invoke/MethodHandle" ∧ yX7_parValue.cls ≠ "java/lang/invoke/VarHandle" ∧ (parseMethodDescriptor yX7_parValue.desc).map (fun d => d.parameters.length) = some 0 := ⟨by decide +kernel, by decide +kernel, by decide +kernel⟩
set_option maxHeartbeats 4000000 in
set_option maxRecDepth 100000 in
theorem c_X7_parValue (l0 : Launch) (D0 : va_G) (cI0 cJ0 : ClassId) (ad : Nat → Nat → Nat) (S : zM) (n0 : Nat) (hn0 : n0 < 5) (e0 : S 5 1 = (n0 : Int)) (hI : Inv (S n0)) : Ct l0 D0 cI0 cJ0 ad yX7_parValue cX7_parValue 1 (some .int) 0 0 [.ref (ad 5 22)] S (some (.int (i32 (S n0 5)))) (fun X => X = S) := by
  refine Ct.of (by decide) (Nat.le_of_ble_eq_true rfl) (fun E hE hR => ?_)
  have hE : zG E l0 D0 cI0 cJ0 ad cX7_parValue 1 RX7 0 0 := hE
  show Z E S 0 [(0, .ref (ad 5 22))] []
  have hI0 := hI.1
  have hA := inA hI0
  unfold InvA at hA
  refine z_aload_n hE 0 rfl rfl dX7_parValue_0 ?_
  refine gf_7_0 hE (by decide) zf_X7_10 dX7_parValue_1 ?_
  rw [show (S 5 1).toNat = n0 by omega]
  refine gf_4_1 hE (ks_m hn0 (by decide)) zf_X7_86 dX7_parValue_4 ?_
  refine gf_5_2 hE (ks_m hn0 (by decide)) zf_X7_132 dX7_parValue_7 ?_
  exact z_iret hE hR dX7_parValue_10 (congrArg (fun x => some (Value.int (i32 x))) (by first | rfl | omega)) (by first | rfl | (simp only [us_id]))
theorem dX7_offerCount_0 : decode cX7_offerCount 0 = .ok (.aload_n 0, 1) := by decide +kernel
theorem dX7_offerCount_1 : decode cX7_offerCount 1 = .ok (.getfield 10, 3) := by decide +kernel
theorem dX7_offerCount_4 : decode cX7_offerCount 4 = .ok (.getfield 142, 3) := by decide +kernel
theorem dX7_offerCount_7 : decode cX7_offerCount 7 = .ok (.getfield 146, 3) := by decide +kernel
theorem dX7_offerCount_10 : decode cX7_offerCount 10 = .ok (.ireturn, 1) := by decide +kernel
theorem hy_X7_offerCount : yX7_offerCount.cls ≠ "java/lang/invoke/MethodHandle" ∧ yX7_offerCount.cls ≠ "java/lang/invoke/VarHandle" ∧ (parseMethodDescriptor yX7_offerCount.desc).map (fun d => d.parameters.length) = some 0 := ⟨by decide +kernel, by decide +kernel, by decide +kernel⟩
set_option maxHeartbeats 4000000 in
set_option maxRecDepth 100000 in
theorem c_X7_offerCount (l0 : Launch) (D0 : va_G) (cI0 cJ0 : ClassId) (ad : Nat → Nat → Nat) (S : zM) (n0 : Nat) (hn0 : n0 < 5) (e0 : S 5 1 = (n0 : Int)) (hI : Inv (S n0)) : Ct l0 D0 cI0 cJ0 ad yX7_offerCount cX7_offerCount 1 (some .int) 0 0 [.ref (ad 5 22)] S (some (.int (i32 (S n0 14)))) (fun X => X = S) := by
  refine Ct.of (by decide) (Nat.le_of_ble_eq_true rfl) (fun E hE hR => ?_)
  have hE : zG E l0 D0 cI0 cJ0 ad cX7_offerCount 1 RX7 0 0 := hE
  show Z E S 0 [(0, .ref (ad 5 22))] []
  have hI0 := hI.1
  have hA := inA hI0
  unfold InvA at hA
  refine z_aload_n hE 0 rfl rfl dX7_offerCount_0 ?_
  refine gf_7_0 hE (by decide) zf_X7_10 dX7_offerCount_1 ?_
  rw [show (S 5 1).toNat = n0 by omega]
  refine gf_4_3 hE (ks_m hn0 (by decide)) zf_X7_142 dX7_offerCount_4 ?_
  refine gf_3_0 hE (ks_m hn0 (by decide)) zf_X7_146 dX7_offerCount_7 ?_
  exact z_iret hE hR dX7_offerCount_10 (congrArg (fun x => some (Value.int (i32 x))) (by first | rfl | omega)) (by first | rfl | (simp only [us_id]))
theorem dX7_day_0 : decode cX7_day 0 = .ok (.aload_n 0, 1) := by decide +kernel
theorem dX7_day_1 : decode cX7_day 1 = .ok (.getfield 10, 3) := by decide +kernel
theorem dX7_day_4 : decode cX7_day 4 = .ok (.getfield 245, 3) := by decide +kernel
theorem dX7_day_7 : decode cX7_day 7 = .ok (.ireturn, 1) := by decide +kernel
theorem hy_X7_day : yX7_day.cls ≠ "java/lang/invoke/MethodHandle" ∧ yX7_day.cls ≠ "java/lang/invoke/VarHandle" ∧ (parseMethodDescriptor yX7_day.desc).map (fun d => d.parameters.length) = some 0 := ⟨by decide +kernel, by decide +kernel, by decide +kernel⟩
set_option maxHeartbeats 4000000 in
set_option maxRecDepth 100000 in
theorem c_X7_day (l0 : Launch) (D0 : va_G) (cI0 cJ0 : ClassId) (ad : Nat → Nat → Nat) (S : zM) (n0 : Nat) (hn0 : n0 < 5) (e0 : S 5 1 = (n0 : Int)) (hI : Inv (S n0)) : Ct l0 D0 cI0 cJ0 ad yX7_day cX7_day 1 (some .int) 0 0 [.ref (ad 5 22)] S (some (.int (i32 (S n0 18)))) (fun X => X = S) := by
  refine Ct.of (by decide) (Nat.le_of_ble_eq_true rfl) (fun E hE hR => ?_)
  have hE : zG E l0 D0 cI0 cJ0 ad cX7_day 1 RX7 0 0 := hE
  show Z E S 0 [(0, .ref (ad 5 22))] []
  have hI0 := hI.1
  have hA := inA hI0
  unfold InvA at hA
  refine z_aload_n hE 0 rfl rfl dX7_day_0 ?_
  refine gf_7_0 hE (by decide) zf_X7_10 dX7_day_1 ?_
  rw [show (S 5 1).toNat = n0 by omega]
  refine gf_4_6 hE (ks_m hn0 (by decide)) zf_X7_245 dX7_day_4 ?_
  exact z_iret hE hR dX7_day_7 (congrArg (fun x => some (Value.int (i32 x))) (by exact hI.2.2)) (by first | rfl | (simp only [us_id]))
theorem dX7_shares_0 : decode cX7_shares 0 = .ok (.aload_n 0, 1) := by decide +kernel
theorem dX7_shares_1 : decode cX7_shares 1 = .ok (.getfield 10, 3) := by decide +kernel
theorem dX7_shares_4 : decode cX7_shares 4 = .ok (.getfield 39, 3) := by decide +kernel
theorem dX7_shares_7 : decode cX7_shares 7 = .ok (.iload_n 1, 1) := by decide +kernel
theorem dX7_shares_8 : decode cX7_shares 8 = .ok (.invokevirtual 52, 3) := by decide +kernel
theorem dX7_shares_11 : decode cX7_shares 11 = .ok (.ifCond .eq 18, 3) := by decide +kernel
theorem dX7_shares_14 : decode cX7_shares 14 = .ok (.aload_n 0, 1) := by decide +kernel
theorem dX7_shares_15 : decode cX7_shares 15 = .ok (.getfield 10, 3) := by decide +kernel
theorem dX7_shares_18 : decode cX7_shares 18 = .ok (.getfield 39, 3) := by decide +kernel
theorem dX7_shares_21 : decode cX7_shares 21 = .ok (.getfield 65, 3) := by decide +kernel
theorem dX7_shares_24 : decode cX7_shares 24 = .ok (.iload_n 1, 1) := by decide +kernel
theorem dX7_shares_25 : decode cX7_shares 25 = .ok (.iaload, 1) := by decide +kernel
theorem dX7_shares_26 : decode cX7_shares 26 = .ok (.goto 5, 3) := by decide +kernel
theorem dX7_shares_29 : decode cX7_shares 29 = .ok (.ldc 60, 2) := by decide +kernel
theorem dX7_shares_31 : decode cX7_shares 31 = .ok (.ireturn, 1) := by decide +kernel
theorem hy_X7_shares : yX7_shares.cls ≠ "java/lang/invoke/MethodHandle" ∧ yX7_shares.cls ≠ "java/lang/invoke/VarHandle" ∧ (parseMethodDescriptor yX7_shares.desc).map (fun d => d.parameters.length) = some 1 := ⟨by decide +kernel, by decide +kernel, by decide +kernel⟩
set_option maxHeartbeats 4000000 in
set_option maxRecDepth 100000 in
theorem c_X7_shares (l0 : Launch) (D0 : va_G) (cI0 cJ0 : ClassId) (ad : Nat → Nat → Nat) (S : zM) (m : Int) (n0 : Nat) (hn0 : n0 < 5) (e0 : S 5 1 = (n0 : Int)) (hI : Inv (S n0)) (bb_m : -2147483648 ≤ m ∧ m < 2147483648) : Ct l0 D0 cI0 cJ0 ad yX7_shares cX7_shares 2 (some .int) 1 21 [.ref (ad 5 22), .int (i32 m)] S (some (.int (i32 (rv_shares (S n0) m)))) (fun X => X = S) := by
  refine Ct.of (by decide) (Nat.le_of_ble_eq_true rfl) (fun E hE hR => ?_)
  have hE : zG E l0 D0 cI0 cJ0 ad cX7_shares 2 RX7 1 21 := hE
  show Z E S 0 [(0, .ref (ad 5 22)), (1, .int (i32 m))] []
  have hI0 := hI.1
  have hA := inA hI0
  unfold InvA at hA
  refine z_aload_n hE 0 rfl rfl dX7_shares_0 ?_
  refine gf_7_0 hE (by decide) zf_X7_10 dX7_shares_1 ?_
  rw [show (S 5 1).toNat = n0 by omega]
  refine gf_4_0 hE (ks_m hn0 (by decide)) zf_X7_39 dX7_shares_4 ?_
  refine z_iload_n hE 1 rfl rfl dX7_shares_7 ?_
  refine z_callV hE (c_X1_has l0 D0 cI0 cJ0 ad S n0 hn0 m (by omega) (by omega)) (ks_m hn0 (by decide)) rfl rfl zm_X7_52 zi_yX1_has zs_yX1_has zn_RX1 zc_yX1_has (hy_X1_has) (Nat.le_of_ble_eq_true rfl) (Nat.le_of_ble_eq_true rfl) rfl rfl rfl (Nat.le_of_ble_eq_true rfl) dX7_shares_8 ?_
  refine z_ifb_eq (tgt := 29) hE dX7_shares_11 (by decide) (fun c1 => ?_) (fun c1 => ?_)
  · refine z_ldc (a := -2000000001) hE zk_X7_60 (by decide) dX7_shares_29 ?_
    exact z_iret hE hR dX7_shares_31 (congrArg (fun x => some (Value.int (i32 x))) (by unfold rv_shares; first | ((rw [if_neg (by omega)]) <;> first | rfl | omega) | ((rw [if_pos (by omega)]) <;> first | rfl | omega))) (by first | rfl | (simp only [us_id]))
  · refine z_aload_n hE 0 rfl rfl dX7_shares_14 ?_
    refine gf_7_0 hE (by decide) zf_X7_10 dX7_shares_15 ?_
    rw [show (S 5 1).toNat = n0 by omega]
    refine gf_4_0 hE (ks_m hn0 (by decide)) zf_X7_39 dX7_shares_18 ?_
    refine gf_1_1 hE (ks_m hn0 (by decide)) zf_X7_65 dX7_shares_21 ?_
    refine z_iload_n hE 1 rfl rfl dX7_shares_24 ?_
    refine al_2 hE (ks_m hn0 (by decide)) (by omega) (by omega) dX7_shares_25 ?_
    refine z_goto (tgt := 31) hE (d := dX7_shares_26) (ht := by decide) ?_
    exact z_iret hE hR dX7_shares_31 (congrArg (fun x => some (Value.int (i32 x))) (by unfold rv_shares; first | ((rw [if_neg (by omega)]) <;> first | rfl | omega) | ((rw [if_pos (by omega)]) <;> first | rfl | omega))) (by first | rfl | (simp only [us_id]))
theorem dX7_account_0 : decode cX7_account 0 = .ok (.aload_n 0, 1) := by decide +kernel
theorem dX7_account_1 : decode cX7_account 1 = .ok (.getfield 10, 3) := by decide +kernel
theorem dX7_account_4 : decode cX7_account 4 = .ok (.getfield 39, 3) := by decide +kernel
theorem dX7_account_7 : decode cX7_account 7 = .ok (.iload_n 1, 1) := by decide +kernel
theorem dX7_account_8 : decode cX7_account 8 = .ok (.invokevirtual 52, 3) := by decide +kernel
theorem dX7_account_11 : decode cX7_account 11 = .ok (.ifCond .eq 18, 3) := by decide +kernel
theorem dX7_account_14 : decode cX7_account 14 = .ok (.aload_n 0, 1) := by decide +kernel
theorem dX7_account_15 : decode cX7_account 15 = .ok (.getfield 10, 3) := by decide +kernel
theorem dX7_account_18 : decode cX7_account 18 = .ok (.getfield 39, 3) := by decide +kernel
theorem dX7_account_21 : decode cX7_account 21 = .ok (.getfield 69, 3) := by decide +kernel
theorem dX7_account_24 : decode cX7_account 24 = .ok (.iload_n 1, 1) := by decide +kernel
theorem dX7_account_25 : decode cX7_account 25 = .ok (.laload, 1) := by decide +kernel
theorem dX7_account_26 : decode cX7_account 26 = .ok (.goto 6, 3) := by decide +kernel
theorem dX7_account_29 : decode cX7_account 29 = .ok (.ldc2_w 98, 3) := by decide +kernel
theorem dX7_account_32 : decode cX7_account 32 = .ok (.lreturn, 1) := by decide +kernel
theorem hy_X7_account : yX7_account.cls ≠ "java/lang/invoke/MethodHandle" ∧ yX7_account.cls ≠ "java/lang/invoke/VarHandle" ∧ (parseMethodDescriptor yX7_account.desc).map (fun d => d.parameters.length) = some 1 := ⟨by decide +kernel, by decide +kernel, by decide +kernel⟩
set_option maxHeartbeats 4000000 in
set_option maxRecDepth 100000 in
theorem c_X7_account (l0 : Launch) (D0 : va_G) (cI0 cJ0 : ClassId) (ad : Nat → Nat → Nat) (S : zM) (m : Int) (n0 : Nat) (hn0 : n0 < 5) (e0 : S 5 1 = (n0 : Int)) (hI : Inv (S n0)) (bb_m : -2147483648 ≤ m ∧ m < 2147483648) : Ct l0 D0 cI0 cJ0 ad yX7_account cX7_account 2 (some .long) 1 21 [.ref (ad 5 22), .int (i32 m)] S (some (.long (i64 (rv_account (S n0) m)))) (fun X => X = S) := by
  refine Ct.of (by decide) (Nat.le_of_ble_eq_true rfl) (fun E hE hR => ?_)
  have hE : zG E l0 D0 cI0 cJ0 ad cX7_account 2 RX7 1 21 := hE
  show Z E S 0 [(0, .ref (ad 5 22)), (1, .int (i32 m))] []
  have hI0 := hI.1
  have hA := inA hI0
  unfold InvA at hA
  refine z_aload_n hE 0 rfl rfl dX7_account_0 ?_
  refine gf_7_0 hE (by decide) zf_X7_10 dX7_account_1 ?_
  rw [show (S 5 1).toNat = n0 by omega]
  refine gf_4_0 hE (ks_m hn0 (by decide)) zf_X7_39 dX7_account_4 ?_
  refine z_iload_n hE 1 rfl rfl dX7_account_7 ?_
  refine z_callV hE (c_X1_has l0 D0 cI0 cJ0 ad S n0 hn0 m (by omega) (by omega)) (ks_m hn0 (by decide)) rfl rfl zm_X7_52 zi_yX1_has zs_yX1_has zn_RX1 zc_yX1_has (hy_X1_has) (Nat.le_of_ble_eq_true rfl) (Nat.le_of_ble_eq_true rfl) rfl rfl rfl (Nat.le_of_ble_eq_true rfl) dX7_account_8 ?_
  refine z_ifb_eq (tgt := 29) hE dX7_account_11 (by decide) (fun c1 => ?_) (fun c1 => ?_)
  · refine z_ldc2 (a := -2000000001) hE zl_X7_98 (by decide) dX7_account_29 ?_
    exact z_lret hE hR dX7_account_32 (congrArg (fun x => some (Value.long (i64 x))) (by unfold rv_account; first | ((rw [if_neg (by omega)]) <;> first | rfl | omega) | ((rw [if_pos (by omega)]) <;> first | rfl | omega))) (by first | rfl | (simp only [us_id]))
  · refine z_aload_n hE 0 rfl rfl dX7_account_14 ?_
    refine gf_7_0 hE (by decide) zf_X7_10 dX7_account_15 ?_
    rw [show (S 5 1).toNat = n0 by omega]
    refine gf_4_0 hE (ks_m hn0 (by decide)) zf_X7_39 dX7_account_18 ?_
    refine gf_1_3 hE (ks_m hn0 (by decide)) zf_X7_69 dX7_account_21 ?_
    refine z_iload_n hE 1 rfl rfl dX7_account_24 ?_
    refine al_4 hE (ks_m hn0 (by decide)) (by omega) (by omega) dX7_account_25 ?_
    refine z_goto (tgt := 32) hE (d := dX7_account_26) (ht := by decide) ?_
    exact z_lret hE hR dX7_account_32 (congrArg (fun x => some (Value.long (i64 x))) (by unfold rv_account; first | ((rw [if_neg (by omega)]) <;> first | rfl | omega) | ((rw [if_pos (by omega)]) <;> first | rfl | omega))) (by first | rfl | (simp only [us_id]))
theorem dX7_requirement_0 : decode cX7_requirement 0 = .ok (.aload_n 0, 1) := by decide +kernel
theorem dX7_requirement_1 : decode cX7_requirement 1 = .ok (.getfield 10, 3) := by decide +kernel
theorem dX7_requirement_4 : decode cX7_requirement 4 = .ok (.getfield 39, 3) := by decide +kernel
theorem dX7_requirement_7 : decode cX7_requirement 7 = .ok (.iload_n 1, 1) := by decide +kernel
theorem dX7_requirement_8 : decode cX7_requirement 8 = .ok (.invokevirtual 52, 3) := by decide +kernel
theorem dX7_requirement_11 : decode cX7_requirement 11 = .ok (.ifCond .eq 14, 3) := by decide +kernel
theorem dX7_requirement_14 : decode cX7_requirement 14 = .ok (.aload_n 0, 1) := by decide +kernel
theorem dX7_requirement_15 : decode cX7_requirement 15 = .ok (.getfield 10, 3) := by decide +kernel
theorem dX7_requirement_18 : decode cX7_requirement 18 = .ok (.iload_n 1, 1) := by decide +kernel
theorem dX7_requirement_19 : decode cX7_requirement 19 = .ok (.invokevirtual 100, 3) := by decide +kernel
theorem dX7_requirement_22 : decode cX7_requirement 22 = .ok (.goto 5, 3) := by decide +kernel
theorem dX7_requirement_25 : decode cX7_requirement 25 = .ok (.ldc 60, 2) := by decide +kernel
theorem dX7_requirement_27 : decode cX7_requirement 27 = .ok (.ireturn, 1) := by decide +kernel
theorem hy_X7_requirement : yX7_requirement.cls ≠ "java/lang/invoke/MethodHandle" ∧ yX7_requirement.cls ≠ "java/lang/invoke/VarHandle" ∧ (parseMethodDescriptor yX7_requirement.desc).map (fun d => d.parameters.length) = some 1 := ⟨by decide +kernel, by decide +kernel, by decide +kernel⟩
set_option maxHeartbeats 4000000 in
set_option maxRecDepth 100000 in
theorem c_X7_requirement (l0 : Launch) (D0 : va_G) (cI0 cJ0 : ClassId) (ad : Nat → Nat → Nat) (S : zM) (m : Int) (n0 : Nat) (hn0 : n0 < 5) (e0 : S 5 1 = (n0 : Int)) (hI : Inv (S n0)) (bb_m : -2147483648 ≤ m ∧ m < 2147483648) : Ct l0 D0 cI0 cJ0 ad yX7_requirement cX7_requirement 2 (some .int) 3 65 [.ref (ad 5 22), .int (i32 m)] S (some (.int (i32 (rv_requirement (S n0) m)))) (fun X => X = S) := by
  refine Ct.of (by decide) (Nat.le_of_ble_eq_true rfl) (fun E hE hR => ?_)
  have hE : zG E l0 D0 cI0 cJ0 ad cX7_requirement 2 RX7 3 65 := hE
  show Z E S 0 [(0, .ref (ad 5 22)), (1, .int (i32 m))] []
  have hI0 := hI.1
  have hA := inA hI0
  unfold InvA at hA
  refine z_aload_n hE 0 rfl rfl dX7_requirement_0 ?_
  refine gf_7_0 hE (by decide) zf_X7_10 dX7_requirement_1 ?_
  rw [show (S 5 1).toNat = n0 by omega]
  refine gf_4_0 hE (ks_m hn0 (by decide)) zf_X7_39 dX7_requirement_4 ?_
  refine z_iload_n hE 1 rfl rfl dX7_requirement_7 ?_
  refine z_callV hE (c_X1_has l0 D0 cI0 cJ0 ad S n0 hn0 m (by omega) (by omega)) (ks_m hn0 (by decide)) rfl rfl zm_X7_52 zi_yX1_has zs_yX1_has zn_RX1 zc_yX1_has (hy_X1_has) (Nat.le_of_ble_eq_true rfl) (Nat.le_of_ble_eq_true rfl) rfl rfl rfl (Nat.le_of_ble_eq_true rfl) dX7_requirement_8 ?_
  refine z_ifb_eq (tgt := 25) hE dX7_requirement_11 (by decide) (fun c1 => ?_) (fun c1 => ?_)
  · refine z_ldc (a := -2000000001) hE zk_X7_60 (by decide) dX7_requirement_25 ?_
    exact z_iret hE hR dX7_requirement_27 (congrArg (fun x => some (Value.int (i32 x))) (by unfold rv_requirement; first | ((rw [if_neg (by omega)]) <;> first | rfl | omega) | ((rw [if_pos (by omega)]) <;> first | rfl | omega))) (by first | rfl | (simp only [us_id]))
  · refine z_aload_n hE 0 rfl rfl dX7_requirement_14 ?_
    refine gf_7_0 hE (by decide) zf_X7_10 dX7_requirement_15 ?_
    rw [show (S 5 1).toNat = n0 by omega]
    refine z_iload_n hE 1 rfl rfl dX7_requirement_18 ?_
    refine z_callV hE (c_X4_requirementOf l0 D0 cI0 cJ0 ad S n0 hn0 m hI0 (by omega)) (ks_m hn0 (by decide)) rfl rfl zm_X7_100 zi_yX4_requirementOf zs_yX4_requirementOf zn_RX4 zc_yX4_requirementOf (hy_X4_requirementOf) (Nat.le_of_ble_eq_true rfl) (Nat.le_of_ble_eq_true rfl) rfl rfl rfl (Nat.le_of_ble_eq_true rfl) dX7_requirement_19 ?_
    refine z_goto (tgt := 27) hE (d := dX7_requirement_22) (ht := by decide) ?_
    exact z_iret hE hR dX7_requirement_27 (congrArg (fun x => some (Value.int (i32 x))) (by unfold rv_requirement; first | ((rw [if_neg (by omega)]) <;> first | rfl | omega) | ((rw [if_pos (by omega)]) <;> first | rfl | omega))) (by first | rfl | (simp only [us_id]))
theorem dX7_freeShares_0 : decode cX7_freeShares 0 = .ok (.aload_n 0, 1) := by decide +kernel
theorem dX7_freeShares_1 : decode cX7_freeShares 1 = .ok (.getfield 10, 3) := by decide +kernel
theorem dX7_freeShares_4 : decode cX7_freeShares 4 = .ok (.getfield 39, 3) := by decide +kernel
theorem dX7_freeShares_7 : decode cX7_freeShares 7 = .ok (.iload_n 1, 1) := by decide +kernel
theorem dX7_freeShares_8 : decode cX7_freeShares 8 = .ok (.invokevirtual 52, 3) := by decide +kernel
theorem dX7_freeShares_11 : decode cX7_freeShares 11 = .ok (.ifCond .eq 14, 3) := by decide +kernel
theorem dX7_freeShares_14 : decode cX7_freeShares 14 = .ok (.aload_n 0, 1) := by decide +kernel
theorem dX7_freeShares_15 : decode cX7_freeShares 15 = .ok (.getfield 10, 3) := by decide +kernel
theorem dX7_freeShares_18 : decode cX7_freeShares 18 = .ok (.iload_n 1, 1) := by decide +kernel
theorem dX7_freeShares_19 : decode cX7_freeShares 19 = .ok (.invokevirtual 104, 3) := by decide +kernel
theorem dX7_freeShares_22 : decode cX7_freeShares 22 = .ok (.goto 5, 3) := by decide +kernel
theorem dX7_freeShares_25 : decode cX7_freeShares 25 = .ok (.ldc 60, 2) := by decide +kernel
theorem dX7_freeShares_27 : decode cX7_freeShares 27 = .ok (.ireturn, 1) := by decide +kernel
theorem hy_X7_freeShares : yX7_freeShares.cls ≠ "java/lang/invoke/MethodHandle" ∧ yX7_freeShares.cls ≠ "java/lang/invoke/VarHandle" ∧ (parseMethodDescriptor yX7_freeShares.desc).map (fun d => d.parameters.length) = some 1 := ⟨by decide +kernel, by decide +kernel, by decide +kernel⟩
set_option maxHeartbeats 4000000 in
set_option maxRecDepth 100000 in
theorem c_X7_freeShares (l0 : Launch) (D0 : va_G) (cI0 cJ0 : ClassId) (ad : Nat → Nat → Nat) (S : zM) (m : Int) (n0 : Nat) (hn0 : n0 < 5) (e0 : S 5 1 = (n0 : Int)) (hI : Inv (S n0)) (bb_m : -2147483648 ≤ m ∧ m < 2147483648) : Ct l0 D0 cI0 cJ0 ad yX7_freeShares cX7_freeShares 2 (some .int) 4 87 [.ref (ad 5 22), .int (i32 m)] S (some (.int (i32 (rv_freeShares (S n0) m)))) (fun X => X = S) := by
  refine Ct.of (by decide) (Nat.le_of_ble_eq_true rfl) (fun E hE hR => ?_)
  have hE : zG E l0 D0 cI0 cJ0 ad cX7_freeShares 2 RX7 4 87 := hE
  show Z E S 0 [(0, .ref (ad 5 22)), (1, .int (i32 m))] []
  have hI0 := hI.1
  have hA := inA hI0
  unfold InvA at hA
  refine z_aload_n hE 0 rfl rfl dX7_freeShares_0 ?_
  refine gf_7_0 hE (by decide) zf_X7_10 dX7_freeShares_1 ?_
  rw [show (S 5 1).toNat = n0 by omega]
  refine gf_4_0 hE (ks_m hn0 (by decide)) zf_X7_39 dX7_freeShares_4 ?_
  refine z_iload_n hE 1 rfl rfl dX7_freeShares_7 ?_
  refine z_callV hE (c_X1_has l0 D0 cI0 cJ0 ad S n0 hn0 m (by omega) (by omega)) (ks_m hn0 (by decide)) rfl rfl zm_X7_52 zi_yX1_has zs_yX1_has zn_RX1 zc_yX1_has (hy_X1_has) (Nat.le_of_ble_eq_true rfl) (Nat.le_of_ble_eq_true rfl) rfl rfl rfl (Nat.le_of_ble_eq_true rfl) dX7_freeShares_8 ?_
  refine z_ifb_eq (tgt := 25) hE dX7_freeShares_11 (by decide) (fun c1 => ?_) (fun c1 => ?_)
  · refine z_ldc (a := -2000000001) hE zk_X7_60 (by decide) dX7_freeShares_25 ?_
    exact z_iret hE hR dX7_freeShares_27 (congrArg (fun x => some (Value.int (i32 x))) (by unfold rv_freeShares; first | ((rw [if_neg (by omega)]) <;> first | rfl | omega) | ((rw [if_pos (by omega)]) <;> first | rfl | omega))) (by first | rfl | (simp only [us_id]))
  · refine z_aload_n hE 0 rfl rfl dX7_freeShares_14 ?_
    refine gf_7_0 hE (by decide) zf_X7_10 dX7_freeShares_15 ?_
    rw [show (S 5 1).toNat = n0 by omega]
    refine z_iload_n hE 1 rfl rfl dX7_freeShares_18 ?_
    refine z_callV hE (c_X4_freeSharesOf l0 D0 cI0 cJ0 ad S n0 hn0 m hI0 (by omega)) (ks_m hn0 (by decide)) rfl rfl zm_X7_104 zi_yX4_freeSharesOf zs_yX4_freeSharesOf zn_RX4 zc_yX4_freeSharesOf (hy_X4_freeSharesOf) (Nat.le_of_ble_eq_true rfl) (Nat.le_of_ble_eq_true rfl) rfl rfl rfl (Nat.le_of_ble_eq_true rfl) dX7_freeShares_19 ?_
    refine z_goto (tgt := 27) hE (d := dX7_freeShares_22) (ht := by decide) ?_
    exact z_iret hE hR dX7_freeShares_27 (congrArg (fun x => some (Value.int (i32 x))) (by unfold rv_freeShares; first | ((rw [if_neg (by omega)]) <;> first | rfl | omega) | ((rw [if_pos (by omega)]) <;> first | rfl | omega))) (by first | rfl | (simp only [us_id]))
theorem dX7_room_0 : decode cX7_room 0 = .ok (.aload_n 0, 1) := by decide +kernel
theorem dX7_room_1 : decode cX7_room 1 = .ok (.getfield 10, 3) := by decide +kernel
theorem dX7_room_4 : decode cX7_room 4 = .ok (.getfield 39, 3) := by decide +kernel
theorem dX7_room_7 : decode cX7_room 7 = .ok (.iload_n 1, 1) := by decide +kernel
theorem dX7_room_8 : decode cX7_room 8 = .ok (.invokevirtual 52, 3) := by decide +kernel
theorem dX7_room_11 : decode cX7_room 11 = .ok (.ifCond .eq 14, 3) := by decide +kernel
theorem dX7_room_14 : decode cX7_room 14 = .ok (.aload_n 0, 1) := by decide +kernel
theorem dX7_room_15 : decode cX7_room 15 = .ok (.getfield 10, 3) := by decide +kernel
theorem dX7_room_18 : decode cX7_room 18 = .ok (.iload_n 1, 1) := by decide +kernel
theorem dX7_room_19 : decode cX7_room 19 = .ok (.invokevirtual 107, 3) := by decide +kernel
theorem dX7_room_22 : decode cX7_room 22 = .ok (.goto 5, 3) := by decide +kernel
theorem dX7_room_25 : decode cX7_room 25 = .ok (.ldc 60, 2) := by decide +kernel
theorem dX7_room_27 : decode cX7_room 27 = .ok (.ireturn, 1) := by decide +kernel
theorem hy_X7_room : yX7_room.cls ≠ "java/lang/invoke/MethodHandle" ∧ yX7_room.cls ≠ "java/lang/invoke/VarHandle" ∧ (parseMethodDescriptor yX7_room.desc).map (fun d => d.parameters.length) = some 1 := ⟨by decide +kernel, by decide +kernel, by decide +kernel⟩
set_option maxHeartbeats 4000000 in
set_option maxRecDepth 100000 in
theorem c_X7_room (l0 : Launch) (D0 : va_G) (cI0 cJ0 : ClassId) (ad : Nat → Nat → Nat) (S : zM) (m : Int) (n0 : Nat) (hn0 : n0 < 5) (e0 : S 5 1 = (n0 : Int)) (hI : Inv (S n0)) (bb_m : -2147483648 ≤ m ∧ m < 2147483648) : Ct l0 D0 cI0 cJ0 ad yX7_room cX7_room 2 (some .int) 3 65 [.ref (ad 5 22), .int (i32 m)] S (some (.int (i32 (rv_room (S n0) m)))) (fun X => X = S) := by
  refine Ct.of (by decide) (Nat.le_of_ble_eq_true rfl) (fun E hE hR => ?_)
  have hE : zG E l0 D0 cI0 cJ0 ad cX7_room 2 RX7 3 65 := hE
  show Z E S 0 [(0, .ref (ad 5 22)), (1, .int (i32 m))] []
  have hI0 := hI.1
  have hA := inA hI0
  unfold InvA at hA
  refine z_aload_n hE 0 rfl rfl dX7_room_0 ?_
  refine gf_7_0 hE (by decide) zf_X7_10 dX7_room_1 ?_
  rw [show (S 5 1).toNat = n0 by omega]
  refine gf_4_0 hE (ks_m hn0 (by decide)) zf_X7_39 dX7_room_4 ?_
  refine z_iload_n hE 1 rfl rfl dX7_room_7 ?_
  refine z_callV hE (c_X1_has l0 D0 cI0 cJ0 ad S n0 hn0 m (by omega) (by omega)) (ks_m hn0 (by decide)) rfl rfl zm_X7_52 zi_yX1_has zs_yX1_has zn_RX1 zc_yX1_has (hy_X1_has) (Nat.le_of_ble_eq_true rfl) (Nat.le_of_ble_eq_true rfl) rfl rfl rfl (Nat.le_of_ble_eq_true rfl) dX7_room_8 ?_
  refine z_ifb_eq (tgt := 25) hE dX7_room_11 (by decide) (fun c1 => ?_) (fun c1 => ?_)
  · refine z_ldc (a := -2000000001) hE zk_X7_60 (by decide) dX7_room_25 ?_
    exact z_iret hE hR dX7_room_27 (congrArg (fun x => some (Value.int (i32 x))) (by unfold rv_room; first | ((rw [if_neg (by omega)]) <;> first | rfl | omega) | ((rw [if_pos (by omega)]) <;> first | rfl | omega))) (by first | rfl | (simp only [us_id]))
  · refine z_aload_n hE 0 rfl rfl dX7_room_14 ?_
    refine gf_7_0 hE (by decide) zf_X7_10 dX7_room_15 ?_
    rw [show (S 5 1).toNat = n0 by omega]
    refine z_iload_n hE 1 rfl rfl dX7_room_18 ?_
    refine z_callV hE (c_X4_roomOf l0 D0 cI0 cJ0 ad S n0 hn0 m hI0 (by omega)) (ks_m hn0 (by decide)) rfl rfl zm_X7_107 zi_yX4_roomOf zs_yX4_roomOf zn_RX4 zc_yX4_roomOf (hy_X4_roomOf) (Nat.le_of_ble_eq_true rfl) (Nat.le_of_ble_eq_true rfl) rfl rfl rfl (Nat.le_of_ble_eq_true rfl) dX7_room_19 ?_
    refine z_goto (tgt := 27) hE (d := dX7_room_22) (ht := by decide) ?_
    exact z_iret hE hR dX7_room_27 (congrArg (fun x => some (Value.int (i32 x))) (by unfold rv_room; first | ((rw [if_neg (by omega)]) <;> first | rfl | omega) | ((rw [if_pos (by omega)]) <;> first | rfl | omega))) (by first | rfl | (simp only [us_id]))
theorem dX7_stage_0 : decode cX7_stage 0 = .ok (.aload_n 0, 1) := by decide +kernel
theorem dX7_stage_1 : decode cX7_stage 1 = .ok (.getfield 10, 3) := by decide +kernel
theorem dX7_stage_4 : decode cX7_stage 4 = .ok (.getfield 142, 3) := by decide +kernel
theorem dX7_stage_7 : decode cX7_stage 7 = .ok (.iload_n 1, 1) := by decide +kernel
theorem dX7_stage_8 : decode cX7_stage 8 = .ok (.invokevirtual 160, 3) := by decide +kernel
theorem dX7_stage_11 : decode cX7_stage 11 = .ok (.ifCond .eq 18, 3) := by decide +kernel
theorem dX7_stage_14 : decode cX7_stage 14 = .ok (.aload_n 0, 1) := by decide +kernel
theorem dX7_stage_15 : decode cX7_stage 15 = .ok (.getfield 10, 3) := by decide +kernel
theorem dX7_stage_18 : decode cX7_stage 18 = .ok (.getfield 142, 3) := by decide +kernel
theorem dX7_stage_21 : decode cX7_stage 21 = .ok (.getfield 184, 3) := by decide +kernel
theorem dX7_stage_24 : decode cX7_stage 24 = .ok (.iload_n 1, 1) := by decide +kernel
theorem dX7_stage_25 : decode cX7_stage 25 = .ok (.iaload, 1) := by decide +kernel
theorem dX7_stage_26 : decode cX7_stage 26 = .ok (.goto 5, 3) := by decide +kernel
theorem dX7_stage_29 : decode cX7_stage 29 = .ok (.ldc 60, 2) := by decide +kernel
theorem dX7_stage_31 : decode cX7_stage 31 = .ok (.ireturn, 1) := by decide +kernel
theorem hy_X7_stage : yX7_stage.cls ≠ "java/lang/invoke/MethodHandle" ∧ yX7_stage.cls ≠ "java/lang/invoke/VarHandle" ∧ (parseMethodDescriptor yX7_stage.desc).map (fun d => d.parameters.length) = some 1 := ⟨by decide +kernel, by decide +kernel, by decide +kernel⟩
set_option maxHeartbeats 4000000 in
set_option maxRecDepth 100000 in
theorem c_X7_stage (l0 : Launch) (D0 : va_G) (cI0 cJ0 : ClassId) (ad : Nat → Nat → Nat) (S : zM) (o : Int) (n0 : Nat) (hn0 : n0 < 5) (e0 : S 5 1 = (n0 : Int)) (hI : Inv (S n0)) (bb_o : -2147483648 ≤ o ∧ o < 2147483648) : Ct l0 D0 cI0 cJ0 ad yX7_stage cX7_stage 2 (some .int) 1 21 [.ref (ad 5 22), .int (i32 o)] S (some (.int (i32 (rv_stage (S n0) o)))) (fun X => X = S) := by
  refine Ct.of (by decide) (Nat.le_of_ble_eq_true rfl) (fun E hE hR => ?_)
  have hE : zG E l0 D0 cI0 cJ0 ad cX7_stage 2 RX7 1 21 := hE
  show Z E S 0 [(0, .ref (ad 5 22)), (1, .int (i32 o))] []
  have hI0 := hI.1
  have hA := inA hI0
  unfold InvA at hA
  refine z_aload_n hE 0 rfl rfl dX7_stage_0 ?_
  refine gf_7_0 hE (by decide) zf_X7_10 dX7_stage_1 ?_
  rw [show (S 5 1).toNat = n0 by omega]
  refine gf_4_3 hE (ks_m hn0 (by decide)) zf_X7_142 dX7_stage_4 ?_
  refine z_iload_n hE 1 rfl rfl dX7_stage_7 ?_
  refine z_callV hE (c_X3_has l0 D0 cI0 cJ0 ad S n0 hn0 o (by omega) (by omega)) (ks_m hn0 (by decide)) rfl rfl zm_X7_160 zi_yX3_has zs_yX3_has zn_RX3 zc_yX3_has (hy_X3_has) (Nat.le_of_ble_eq_true rfl) (Nat.le_of_ble_eq_true rfl) rfl rfl rfl (Nat.le_of_ble_eq_true rfl) dX7_stage_8 ?_
  refine z_ifb_eq (tgt := 29) hE dX7_stage_11 (by decide) (fun c1 => ?_) (fun c1 => ?_)
  · refine z_ldc (a := -2000000001) hE zk_X7_60 (by decide) dX7_stage_29 ?_
    exact z_iret hE hR dX7_stage_31 (congrArg (fun x => some (Value.int (i32 x))) (by unfold rv_stage; first | ((rw [if_neg (by omega)]) <;> first | rfl | omega) | ((rw [if_pos (by omega)]) <;> first | rfl | omega))) (by first | rfl | (simp only [us_id]))
  · refine z_aload_n hE 0 rfl rfl dX7_stage_14 ?_
    refine gf_7_0 hE (by decide) zf_X7_10 dX7_stage_15 ?_
    rw [show (S 5 1).toNat = n0 by omega]
    refine gf_4_3 hE (ks_m hn0 (by decide)) zf_X7_142 dX7_stage_18 ?_
    refine gf_3_5 hE (ks_m hn0 (by decide)) zf_X7_184 dX7_stage_21 ?_
    refine z_iload_n hE 1 rfl rfl dX7_stage_24 ?_
    refine al_13 hE (ks_m hn0 (by decide)) (by omega) (by omega) dX7_stage_25 ?_
    refine z_goto (tgt := 31) hE (d := dX7_stage_26) (ht := by decide) ?_
    exact z_iret hE hR dX7_stage_31 (congrArg (fun x => some (Value.int (i32 x))) (by unfold rv_stage; first | ((rw [if_neg (by omega)]) <;> first | rfl | omega) | ((rw [if_pos (by omega)]) <;> first | rfl | omega))) (by first | rfl | (simp only [us_id]))
theorem dX7_remaining_0 : decode cX7_remaining 0 = .ok (.aload_n 0, 1) := by decide +kernel
theorem dX7_remaining_1 : decode cX7_remaining 1 = .ok (.getfield 10, 3) := by decide +kernel
theorem dX7_remaining_4 : decode cX7_remaining 4 = .ok (.getfield 142, 3) := by decide +kernel
theorem dX7_remaining_7 : decode cX7_remaining 7 = .ok (.iload_n 1, 1) := by decide +kernel
theorem dX7_remaining_8 : decode cX7_remaining 8 = .ok (.invokevirtual 160, 3) := by decide +kernel
theorem dX7_remaining_11 : decode cX7_remaining 11 = .ok (.ifCond .eq 18, 3) := by decide +kernel
theorem dX7_remaining_14 : decode cX7_remaining 14 = .ok (.aload_n 0, 1) := by decide +kernel
theorem dX7_remaining_15 : decode cX7_remaining 15 = .ok (.getfield 10, 3) := by decide +kernel
theorem dX7_remaining_18 : decode cX7_remaining 18 = .ok (.getfield 142, 3) := by decide +kernel
theorem dX7_remaining_21 : decode cX7_remaining 21 = .ok (.getfield 177, 3) := by decide +kernel
theorem dX7_remaining_24 : decode cX7_remaining 24 = .ok (.iload_n 1, 1) := by decide +kernel
theorem dX7_remaining_25 : decode cX7_remaining 25 = .ok (.iaload, 1) := by decide +kernel
theorem dX7_remaining_26 : decode cX7_remaining 26 = .ok (.goto 5, 3) := by decide +kernel
theorem dX7_remaining_29 : decode cX7_remaining 29 = .ok (.ldc 60, 2) := by decide +kernel
theorem dX7_remaining_31 : decode cX7_remaining 31 = .ok (.ireturn, 1) := by decide +kernel
theorem hy_X7_remaining : yX7_remaining.cls ≠ "java/lang/invoke/MethodHandle" ∧ yX7_remaining.cls ≠ "java/lang/invoke/VarHandle" ∧ (parseMethodDescriptor yX7_remaining.desc).map (fun d => d.parameters.length) = some 1 := ⟨by decide +kernel, by decide +kernel, by decide +kernel⟩
set_option maxHeartbeats 4000000 in
set_option maxRecDepth 100000 in
theorem c_X7_remaining (l0 : Launch) (D0 : va_G) (cI0 cJ0 : ClassId) (ad : Nat → Nat → Nat) (S : zM) (o : Int) (n0 : Nat) (hn0 : n0 < 5) (e0 : S 5 1 = (n0 : Int)) (hI : Inv (S n0)) (bb_o : -2147483648 ≤ o ∧ o < 2147483648) : Ct l0 D0 cI0 cJ0 ad yX7_remaining cX7_remaining 2 (some .int) 1 21 [.ref (ad 5 22), .int (i32 o)] S (some (.int (i32 (rv_remaining (S n0) o)))) (fun X => X = S) := by
  refine Ct.of (by decide) (Nat.le_of_ble_eq_true rfl) (fun E hE hR => ?_)
  have hE : zG E l0 D0 cI0 cJ0 ad cX7_remaining 2 RX7 1 21 := hE
  show Z E S 0 [(0, .ref (ad 5 22)), (1, .int (i32 o))] []
  have hI0 := hI.1
  have hA := inA hI0
  unfold InvA at hA
  refine z_aload_n hE 0 rfl rfl dX7_remaining_0 ?_
  refine gf_7_0 hE (by decide) zf_X7_10 dX7_remaining_1 ?_
  rw [show (S 5 1).toNat = n0 by omega]
  refine gf_4_3 hE (ks_m hn0 (by decide)) zf_X7_142 dX7_remaining_4 ?_
  refine z_iload_n hE 1 rfl rfl dX7_remaining_7 ?_
  refine z_callV hE (c_X3_has l0 D0 cI0 cJ0 ad S n0 hn0 o (by omega) (by omega)) (ks_m hn0 (by decide)) rfl rfl zm_X7_160 zi_yX3_has zs_yX3_has zn_RX3 zc_yX3_has (hy_X3_has) (Nat.le_of_ble_eq_true rfl) (Nat.le_of_ble_eq_true rfl) rfl rfl rfl (Nat.le_of_ble_eq_true rfl) dX7_remaining_8 ?_
  refine z_ifb_eq (tgt := 29) hE dX7_remaining_11 (by decide) (fun c1 => ?_) (fun c1 => ?_)
  · refine z_ldc (a := -2000000001) hE zk_X7_60 (by decide) dX7_remaining_29 ?_
    exact z_iret hE hR dX7_remaining_31 (congrArg (fun x => some (Value.int (i32 x))) (by unfold rv_remaining; first | ((rw [if_neg (by omega)]) <;> first | rfl | omega) | ((rw [if_pos (by omega)]) <;> first | rfl | omega))) (by first | rfl | (simp only [us_id]))
  · refine z_aload_n hE 0 rfl rfl dX7_remaining_14 ?_
    refine gf_7_0 hE (by decide) zf_X7_10 dX7_remaining_15 ?_
    rw [show (S 5 1).toNat = n0 by omega]
    refine gf_4_3 hE (ks_m hn0 (by decide)) zf_X7_142 dX7_remaining_18 ?_
    refine gf_3_4 hE (ks_m hn0 (by decide)) zf_X7_177 dX7_remaining_21 ?_
    refine z_iload_n hE 1 rfl rfl dX7_remaining_24 ?_
    refine al_12 hE (ks_m hn0 (by decide)) (by omega) (by omega) dX7_remaining_25 ?_
    refine z_goto (tgt := 31) hE (d := dX7_remaining_26) (ht := by decide) ?_
    exact z_iret hE hR dX7_remaining_31 (congrArg (fun x => some (Value.int (i32 x))) (by unfold rv_remaining; first | ((rw [if_neg (by omega)]) <;> first | rfl | omega) | ((rw [if_pos (by omega)]) <;> first | rfl | omega))) (by first | rfl | (simp only [us_id]))
theorem dX7_daysLeft_0 : decode cX7_daysLeft 0 = .ok (.aload_n 0, 1) := by decide +kernel
theorem dX7_daysLeft_1 : decode cX7_daysLeft 1 = .ok (.getfield 10, 3) := by decide +kernel
theorem dX7_daysLeft_4 : decode cX7_daysLeft 4 = .ok (.getfield 142, 3) := by decide +kernel
theorem dX7_daysLeft_7 : decode cX7_daysLeft 7 = .ok (.iload_n 1, 1) := by decide +kernel
theorem dX7_daysLeft_8 : decode cX7_daysLeft 8 = .ok (.invokevirtual 160, 3) := by decide +kernel
theorem dX7_daysLeft_11 : decode cX7_daysLeft 11 = .ok (.ifCond .ne 6, 3) := by decide +kernel
theorem dX7_daysLeft_14 : decode cX7_daysLeft 14 = .ok (.ldc 60, 2) := by decide +kernel
theorem dX7_daysLeft_16 : decode cX7_daysLeft 16 = .ok (.ireturn, 1) := by decide +kernel
theorem dX7_daysLeft_17 : decode cX7_daysLeft 17 = .ok (.aload_n 0, 1) := by decide +kernel
theorem dX7_daysLeft_18 : decode cX7_daysLeft 18 = .ok (.getfield 10, 3) := by decide +kernel
theorem dX7_daysLeft_21 : decode cX7_daysLeft 21 = .ok (.getfield 142, 3) := by decide +kernel
theorem dX7_daysLeft_24 : decode cX7_daysLeft 24 = .ok (.iload_n 1, 1) := by decide +kernel
theorem dX7_daysLeft_25 : decode cX7_daysLeft 25 = .ok (.invokevirtual 171, 3) := by decide +kernel
theorem dX7_daysLeft_28 : decode cX7_daysLeft 28 = .ok (.ifCond .eq 18, 3) := by decide +kernel
theorem dX7_daysLeft_31 : decode cX7_daysLeft 31 = .ok (.aload_n 0, 1) := by decide +kernel
theorem dX7_daysLeft_32 : decode cX7_daysLeft 32 = .ok (.getfield 10, 3) := by decide +kernel
theorem dX7_daysLeft_35 : decode cX7_daysLeft 35 = .ok (.getfield 142, 3) := by decide +kernel
theorem dX7_daysLeft_38 : decode cX7_daysLeft 38 = .ok (.getfield 187, 3) := by decide +kernel
theorem dX7_daysLeft_41 : decode cX7_daysLeft 41 = .ok (.iload_n 1, 1) := by decide +kernel
theorem dX7_daysLeft_42 : decode cX7_daysLeft 42 = .ok (.iaload, 1) := by decide +kernel
theorem dX7_daysLeft_43 : decode cX7_daysLeft 43 = .ok (.goto 5, 3) := by decide +kernel
theorem dX7_daysLeft_46 : decode cX7_daysLeft 46 = .ok (.ldc 190, 2) := by decide +kernel
theorem dX7_daysLeft_48 : decode cX7_daysLeft 48 = .ok (.ireturn, 1) := by decide +kernel
theorem hy_X7_daysLeft : yX7_daysLeft.cls ≠ "java/lang/invoke/MethodHandle" ∧ yX7_daysLeft.cls ≠ "java/lang/invoke/VarHandle" ∧ (parseMethodDescriptor yX7_daysLeft.desc).map (fun d => d.parameters.length) = some 1 := ⟨by decide +kernel, by decide +kernel, by decide +kernel⟩
set_option maxHeartbeats 4000000 in
set_option maxRecDepth 100000 in
theorem c_X7_daysLeft (l0 : Launch) (D0 : va_G) (cI0 cJ0 : ClassId) (ad : Nat → Nat → Nat) (S : zM) (o : Int) (n0 : Nat) (hn0 : n0 < 5) (e0 : S 5 1 = (n0 : Int)) (hI : Inv (S n0)) (bb_o : -2147483648 ≤ o ∧ o < 2147483648) : Ct l0 D0 cI0 cJ0 ad yX7_daysLeft cX7_daysLeft 2 (some .int) 1 21 [.ref (ad 5 22), .int (i32 o)] S (some (.int (i32 (rv_daysLeft (S n0) o)))) (fun X => X = S) := by
  refine Ct.of (by decide) (Nat.le_of_ble_eq_true rfl) (fun E hE hR => ?_)
  have hE : zG E l0 D0 cI0 cJ0 ad cX7_daysLeft 2 RX7 1 21 := hE
  show Z E S 0 [(0, .ref (ad 5 22)), (1, .int (i32 o))] []
  have hI0 := hI.1
  have hA := inA hI0
  unfold InvA at hA
  refine z_aload_n hE 0 rfl rfl dX7_daysLeft_0 ?_
  refine gf_7_0 hE (by decide) zf_X7_10 dX7_daysLeft_1 ?_
  rw [show (S 5 1).toNat = n0 by omega]
  refine gf_4_3 hE (ks_m hn0 (by decide)) zf_X7_142 dX7_daysLeft_4 ?_
  refine z_iload_n hE 1 rfl rfl dX7_daysLeft_7 ?_
  refine z_callV hE (c_X3_has l0 D0 cI0 cJ0 ad S n0 hn0 o (by omega) (by omega)) (ks_m hn0 (by decide)) rfl rfl zm_X7_160 zi_yX3_has zs_yX3_has zn_RX3 zc_yX3_has (hy_X3_has) (Nat.le_of_ble_eq_true rfl) (Nat.le_of_ble_eq_true rfl) rfl rfl rfl (Nat.le_of_ble_eq_true rfl) dX7_daysLeft_8 ?_
  refine z_ifb_ne (tgt := 17) hE dX7_daysLeft_11 (by decide) (fun c1 => ?_) (fun c1 => ?_)
  · have ho := inO hI0 o (by omega) (by omega)
    refine z_aload_n hE 0 rfl rfl dX7_daysLeft_17 ?_
    refine gf_7_0 hE (by decide) zf_X7_10 dX7_daysLeft_18 ?_
    rw [show (S 5 1).toNat = n0 by omega]
    refine gf_4_3 hE (ks_m hn0 (by decide)) zf_X7_142 dX7_daysLeft_21 ?_
    refine z_iload_n hE 1 rfl rfl dX7_daysLeft_24 ?_
    refine z_callV hE (c_X3_isOpen l0 D0 cI0 cJ0 ad S n0 hn0 o (by omega) (by omega)) (ks_m hn0 (by decide)) rfl rfl zm_X7_171 zi_yX3_isOpen zs_yX3_isOpen zn_RX3 zc_yX3_isOpen (hy_X3_isOpen) (Nat.le_of_ble_eq_true rfl) (Nat.le_of_ble_eq_true rfl) rfl rfl rfl (Nat.le_of_ble_eq_true rfl) dX7_daysLeft_25 ?_
    refine z_ifb_eq (tgt := 46) hE dX7_daysLeft_28 (by decide) (fun c2 => ?_) (fun c2 => ?_)
    · refine z_ldc (a := -2000000004) hE zk_X7_190 (by decide) dX7_daysLeft_46 ?_
      exact z_iret hE hR dX7_daysLeft_48 (congrArg (fun x => some (Value.int (i32 x))) (by unfold rv_daysLeft; first | ((rw [if_neg (by omega)]) <;> first | rfl | omega) | ((rw [if_pos (by omega), if_neg (by omega)]) <;> first | rfl | omega) | ((rw [if_pos (by omega), if_pos (by omega)]) <;> first | rfl | omega))) (by first | rfl | (simp only [us_id]))
    · refine z_aload_n hE 0 rfl rfl dX7_daysLeft_31 ?_
      refine gf_7_0 hE (by decide) zf_X7_10 dX7_daysLeft_32 ?_
      rw [show (S 5 1).toNat = n0 by omega]
      refine gf_4_3 hE (ks_m hn0 (by decide)) zf_X7_142 dX7_daysLeft_35 ?_
      refine gf_3_6 hE (ks_m hn0 (by decide)) zf_X7_187 dX7_daysLeft_38 ?_
      refine z_iload_n hE 1 rfl rfl dX7_daysLeft_41 ?_
      refine al_14 hE (ks_m hn0 (by decide)) (by omega) (by omega) dX7_daysLeft_42 ?_
      refine z_goto (tgt := 48) hE (d := dX7_daysLeft_43) (ht := by decide) ?_
      exact z_iret hE hR dX7_daysLeft_48 (congrArg (fun x => some (Value.int (i32 x))) (by unfold rv_daysLeft; first | ((rw [if_neg (by omega)]) <;> first | rfl | omega) | ((rw [if_pos (by omega), if_neg (by omega)]) <;> first | rfl | omega) | ((rw [if_pos (by omega), if_pos (by omega)]) <;> first | rfl | omega))) (by first | rfl | (simp only [us_id]))
  · refine z_ldc (a := -2000000001) hE zk_X7_60 (by decide) dX7_daysLeft_14 ?_
    exact z_iret hE hR dX7_daysLeft_16 (congrArg (fun x => some (Value.int (i32 x))) (by unfold rv_daysLeft; first | ((rw [if_neg (by omega)]) <;> first | rfl | omega) | ((rw [if_pos (by omega), if_neg (by omega)]) <;> first | rfl | omega) | ((rw [if_pos (by omega), if_pos (by omega)]) <;> first | rfl | omega))) (by first | rfl | (simp only [us_id]))
theorem dX7_sold_0 : decode cX7_sold 0 = .ok (.aload_n 0, 1) := by decide +kernel
theorem dX7_sold_1 : decode cX7_sold 1 = .ok (.getfield 10, 3) := by decide +kernel
theorem dX7_sold_4 : decode cX7_sold 4 = .ok (.getfield 142, 3) := by decide +kernel
theorem dX7_sold_7 : decode cX7_sold 7 = .ok (.iload_n 1, 1) := by decide +kernel
theorem dX7_sold_8 : decode cX7_sold 8 = .ok (.invokevirtual 160, 3) := by decide +kernel
theorem dX7_sold_11 : decode cX7_sold 11 = .ok (.ifCond .eq 12, 3) := by decide +kernel
theorem dX7_sold_14 : decode cX7_sold 14 = .ok (.iload_n 2, 1) := by decide +kernel
theorem dX7_sold_15 : decode cX7_sold 15 = .ok (.iconst 0, 1) := by decide +kernel
theorem dX7_sold_16 : decode cX7_sold 16 = .ok (.iconst 3, 1) := by decide +kernel
theorem dX7_sold_17 : decode cX7_sold 17 = .ok (.invokestatic 56, 3) := by decide +kernel
theorem dX7_sold_20 : decode cX7_sold 20 = .ok (.ifCond .ne 6, 3) := by decide +kernel
theorem dX7_sold_23 : decode cX7_sold 23 = .ok (.ldc 60, 2) := by decide +kernel
theorem dX7_sold_25 : decode cX7_sold 25 = .ok (.ireturn, 1) := by decide +kernel
theorem dX7_sold_26 : decode cX7_sold 26 = .ok (.aload_n 0, 1) := by decide +kernel
theorem dX7_sold_27 : decode cX7_sold 27 = .ok (.getfield 10, 3) := by decide +kernel
theorem dX7_sold_30 : decode cX7_sold 30 = .ok (.getfield 142, 3) := by decide +kernel
theorem dX7_sold_33 : decode cX7_sold 33 = .ok (.iload_n 1, 1) := by decide +kernel
theorem dX7_sold_34 : decode cX7_sold 34 = .ok (.iload_n 2, 1) := by decide +kernel
theorem dX7_sold_35 : decode cX7_sold 35 = .ok (.invokevirtual 191, 3) := by decide +kernel
theorem dX7_sold_38 : decode cX7_sold 38 = .ok (.ireturn, 1) := by decide +kernel
theorem hy_X7_sold : yX7_sold.cls ≠ "java/lang/invoke/MethodHandle" ∧ yX7_sold.cls ≠ "java/lang/invoke/VarHandle" ∧ (parseMethodDescriptor yX7_sold.desc).map (fun d => d.parameters.length) = some 2 := ⟨by decide +kernel, by decide +kernel, by decide +kernel⟩
set_option maxHeartbeats 4000000 in
set_option maxRecDepth 100000 in
theorem c_X7_sold (l0 : Launch) (D0 : va_G) (cI0 cJ0 : ClassId) (ad : Nat → Nat → Nat) (S : zM) (o : Int) (w : Int) (n0 : Nat) (hn0 : n0 < 5) (e0 : S 5 1 = (n0 : Int)) (hI : Inv (S n0)) (bb_o : -2147483648 ≤ o ∧ o < 2147483648) (bb_w : -2147483648 ≤ w ∧ w < 2147483648) : Ct l0 D0 cI0 cJ0 ad yX7_sold cX7_sold 3 (some .int) 1 22 [.ref (ad 5 22), .int (i32 o), .int (i32 w)] S (some (.int (i32 (rv_sold (S n0) o w)))) (fun X => X = S) := by
  refine Ct.of (by decide) (Nat.le_of_ble_eq_true rfl) (fun E hE hR => ?_)
  have hE : zG E l0 D0 cI0 cJ0 ad cX7_sold 3 RX7 1 22 := hE
  show Z E S 0 [(0, .ref (ad 5 22)), (1, .int (i32 o)), (2, .int (i32 w))] []
  have hI0 := hI.1
  have hA := inA hI0
  unfold InvA at hA
  refine z_aload_n hE 0 rfl rfl dX7_sold_0 ?_
  refine gf_7_0 hE (by decide) zf_X7_10 dX7_sold_1 ?_
  rw [show (S 5 1).toNat = n0 by omega]
  refine gf_4_3 hE (ks_m hn0 (by decide)) zf_X7_142 dX7_sold_4 ?_
  refine z_iload_n hE 1 rfl rfl dX7_sold_7 ?_
  refine z_callV hE (c_X3_has l0 D0 cI0 cJ0 ad S n0 hn0 o (by omega) (by omega)) (ks_m hn0 (by decide)) rfl rfl zm_X7_160 zi_yX3_has zs_yX3_has zn_RX3 zc_yX3_has (hy_X3_has) (Nat.le_of_ble_eq_true rfl) (Nat.le_of_ble_eq_true rfl) rfl rfl rfl (Nat.le_of_ble_eq_true rfl) dX7_sold_8 ?_
  refine z_ifb_eq (tgt := 23) hE dX7_sold_11 (by decide) (fun c1 => ?_) (fun c1 => ?_)
  · refine z_ldc (a := -2000000001) hE zk_X7_60 (by decide) dX7_sold_23 ?_
    exact z_iret hE hR dX7_sold_25 (congrArg (fun x => some (Value.int (i32 x))) (by unfold rv_sold; first | ((rw [if_neg (by omega)]) <;> first | rfl | omega) | ((rw [if_pos (by omega)]) <;> first | rfl | omega))) (by first | rfl | (simp only [us_id]))
  · refine z_iload_n hE 2 rfl rfl dX7_sold_14 ?_
    refine z_iconst hE dX7_sold_15 ?_
    refine z_iconst hE dX7_sold_16 ?_
    refine z_callS hE (c_X7_isWithin l0 D0 cI0 cJ0 ad S w 0 3 (⟨by omega, by omega⟩) (⟨by omega, by omega⟩) (⟨by omega, by omega⟩)) zm_X7_56 zt_yX7_isWithin zn_RX7 zc_yX7_isWithin (hy_X7_isWithin) (Nat.le_of_ble_eq_true rfl) (Nat.le_of_ble_eq_true rfl) rfl rfl rfl (Nat.le_of_ble_eq_true rfl) dX7_sold_17 ?_
    refine z_ifb_ne (tgt := 26) hE dX7_sold_20 (by decide) (fun c2 => ?_) (fun c2 => ?_)
    · refine z_aload_n hE 0 rfl rfl dX7_sold_26 ?_
      refine gf_7_0 hE (by decide) zf_X7_10 dX7_sold_27 ?_
      rw [show (S 5 1).toNat = n0 by omega]
      refine gf_4_3 hE (ks_m hn0 (by decide)) zf_X7_142 dX7_sold_30 ?_
      refine z_iload_n hE 1 rfl rfl dX7_sold_33 ?_
      refine z_iload_n hE 2 rfl rfl dX7_sold_34 ?_
      refine z_callV hE (c_X3_soldTo l0 D0 cI0 cJ0 ad S n0 hn0 o w (by omega) (by omega)) (ks_m hn0 (by decide)) rfl rfl zm_X7_191 zi_yX3_soldTo zs_yX3_soldTo zn_RX3 zc_yX3_soldTo (hy_X3_soldTo) (Nat.le_of_ble_eq_true rfl) (Nat.le_of_ble_eq_true rfl) rfl rfl rfl (Nat.le_of_ble_eq_true rfl) dX7_sold_35 ?_
      exact z_iret hE hR dX7_sold_38 (congrArg (fun x => some (Value.int (i32 x))) (by unfold rv_sold; first | ((rw [if_neg (by omega)]) <;> first | rfl | omega) | ((rw [if_pos (by omega)]) <;> first | rfl | omega))) (by first | rfl | (simp only [us_id]))
    · refine z_ldc (a := -2000000001) hE zk_X7_60 (by decide) dX7_sold_23 ?_
      exact z_iret hE hR dX7_sold_25 (congrArg (fun x => some (Value.int (i32 x))) (by unfold rv_sold; first | ((rw [if_neg (by omega)]) <;> first | rfl | omega) | ((rw [if_pos (by omega)]) <;> first | rfl | omega))) (by first | rfl | (simp only [us_id]))
theorem dX7_claimOf_0 : decode cX7_claimOf 0 = .ok (.aload_n 0, 1) := by decide +kernel
theorem dX7_claimOf_1 : decode cX7_claimOf 1 = .ok (.getfield 10, 3) := by decide +kernel
theorem dX7_claimOf_4 : decode cX7_claimOf 4 = .ok (.getfield 142, 3) := by decide +kernel
theorem dX7_claimOf_7 : decode cX7_claimOf 7 = .ok (.iload_n 1, 1) := by decide +kernel
theorem dX7_claimOf_8 : decode cX7_claimOf 8 = .ok (.invokevirtual 160, 3) := by decide +kernel
theorem dX7_claimOf_11 : decode cX7_claimOf 11 = .ok (.ifCond .eq 17, 3) := by decide +kernel
theorem dX7_claimOf_14 : decode cX7_claimOf 14 = .ok (.aload_n 0, 1) := by decide +kernel
theorem dX7_claimOf_15 : decode cX7_claimOf 15 = .ok (.getfield 10, 3) := by decide +kernel
theorem dX7_claimOf_18 : decode cX7_claimOf 18 = .ok (.getfield 39, 3) := by decide +kernel
theorem dX7_claimOf_21 : decode cX7_claimOf 21 = .ok (.iload_n 2, 1) := by decide +kernel
theorem dX7_claimOf_22 : decode cX7_claimOf 22 = .ok (.invokevirtual 52, 3) := by decide +kernel
theorem dX7_claimOf_25 : decode cX7_claimOf 25 = .ok (.ifCond .ne 6, 3) := by decide +kernel
theorem dX7_claimOf_28 : decode cX7_claimOf 28 = .ok (.ldc 60, 2) := by decide +kernel
theorem dX7_claimOf_30 : decode cX7_claimOf 30 = .ok (.ireturn, 1) := by decide +kernel
theorem dX7_claimOf_31 : decode cX7_claimOf 31 = .ok (.aload_n 0, 1) := by decide +kernel
theorem dX7_claimOf_32 : decode cX7_claimOf 32 = .ok (.getfield 10, 3) := by decide +kernel
theorem dX7_claimOf_35 : decode cX7_claimOf 35 = .ok (.getfield 142, 3) := by decide +kernel
theorem dX7_claimOf_38 : decode cX7_claimOf 38 = .ok (.iload_n 1, 1) := by decide +kernel
theorem dX7_claimOf_39 : decode cX7_claimOf 39 = .ok (.iload_n 2, 1) := by decide +kernel
theorem dX7_claimOf_40 : decode cX7_claimOf 40 = .ok (.invokevirtual 194, 3) := by decide +kernel
theorem dX7_claimOf_43 : decode cX7_claimOf 43 = .ok (.ireturn, 1) := by decide +kernel
theorem hy_X7_claimOf : yX7_claimOf.cls ≠ "java/lang/invoke/MethodHandle" ∧ yX7_claimOf.cls ≠ "java/lang/invoke/VarHandle" ∧ (parseMethodDescriptor yX7_claimOf.desc).map (fun d => d.parameters.length) = some 2 := ⟨by decide +kernel, by decide +kernel, by decide +kernel⟩
set_option maxHeartbeats 4000000 in
set_option maxRecDepth 100000 in
theorem c_X7_claimOf (l0 : Launch) (D0 : va_G) (cI0 cJ0 : ClassId) (ad : Nat → Nat → Nat) (S : zM) (o : Int) (m : Int) (n0 : Nat) (hn0 : n0 < 5) (e0 : S 5 1 = (n0 : Int)) (hI : Inv (S n0)) (bb_o : -2147483648 ≤ o ∧ o < 2147483648) (bb_m : -2147483648 ≤ m ∧ m < 2147483648) : Ct l0 D0 cI0 cJ0 ad yX7_claimOf cX7_claimOf 3 (some .int) 1 22 [.ref (ad 5 22), .int (i32 o), .int (i32 m)] S (some (.int (i32 (rv_claimOf (S n0) o m)))) (fun X => X = S) := by
  refine Ct.of (by decide) (Nat.le_of_ble_eq_true rfl) (fun E hE hR => ?_)
  have hE : zG E l0 D0 cI0 cJ0 ad cX7_claimOf 3 RX7 1 22 := hE
  show Z E S 0 [(0, .ref (ad 5 22)), (1, .int (i32 o)), (2, .int (i32 m))] []
  have hI0 := hI.1
  have hA := inA hI0
  unfold InvA at hA
  refine z_aload_n hE 0 rfl rfl dX7_claimOf_0 ?_
  refine gf_7_0 hE (by decide) zf_X7_10 dX7_claimOf_1 ?_
  rw [show (S 5 1).toNat = n0 by omega]
  refine gf_4_3 hE (ks_m hn0 (by decide)) zf_X7_142 dX7_claimOf_4 ?_
  refine z_iload_n hE 1 rfl rfl dX7_claimOf_7 ?_
  refine z_callV hE (c_X3_has l0 D0 cI0 cJ0 ad S n0 hn0 o (by omega) (by omega)) (ks_m hn0 (by decide)) rfl rfl zm_X7_160 zi_yX3_has zs_yX3_has zn_RX3 zc_yX3_has (hy_X3_has) (Nat.le_of_ble_eq_true rfl) (Nat.le_of_ble_eq_true rfl) rfl rfl rfl (Nat.le_of_ble_eq_true rfl) dX7_claimOf_8 ?_
  refine z_ifb_eq (tgt := 28) hE dX7_claimOf_11 (by decide) (fun c1 => ?_) (fun c1 => ?_)
  · refine z_ldc (a := -2000000001) hE zk_X7_60 (by decide) dX7_claimOf_28 ?_
    exact z_iret hE hR dX7_claimOf_30 (congrArg (fun x => some (Value.int (i32 x))) (by unfold rv_claimOf; first | ((rw [if_neg (by omega)]) <;> first | rfl | omega) | ((rw [if_pos (by omega)]) <;> first | rfl | omega))) (by first | rfl | (simp only [us_id]))
  · refine z_aload_n hE 0 rfl rfl dX7_claimOf_14 ?_
    refine gf_7_0 hE (by decide) zf_X7_10 dX7_claimOf_15 ?_
    rw [show (S 5 1).toNat = n0 by omega]
    refine gf_4_0 hE (ks_m hn0 (by decide)) zf_X7_39 dX7_claimOf_18 ?_
    refine z_iload_n hE 2 rfl rfl dX7_claimOf_21 ?_
    refine z_callV hE (c_X1_has l0 D0 cI0 cJ0 ad S n0 hn0 m (by omega) (by omega)) (ks_m hn0 (by decide)) rfl rfl zm_X7_52 zi_yX1_has zs_yX1_has zn_RX1 zc_yX1_has (hy_X1_has) (Nat.le_of_ble_eq_true rfl) (Nat.le_of_ble_eq_true rfl) rfl rfl rfl (Nat.le_of_ble_eq_true rfl) dX7_claimOf_22 ?_
    refine z_ifb_ne (tgt := 31) hE dX7_claimOf_25 (by decide) (fun c2 => ?_) (fun c2 => ?_)
    · refine z_aload_n hE 0 rfl rfl dX7_claimOf_31 ?_
      refine gf_7_0 hE (by decide) zf_X7_10 dX7_claimOf_32 ?_
      rw [show (S 5 1).toNat = n0 by omega]
      refine gf_4_3 hE (ks_m hn0 (by decide)) zf_X7_142 dX7_claimOf_35 ?_
      refine z_iload_n hE 1 rfl rfl dX7_claimOf_38 ?_
      refine z_iload_n hE 2 rfl rfl dX7_claimOf_39 ?_
      refine z_callV hE (c_X3_claimBy l0 D0 cI0 cJ0 ad S n0 hn0 o m (by omega) (by omega)) (ks_m hn0 (by decide)) rfl rfl zm_X7_194 zi_yX3_claimBy zs_yX3_claimBy zn_RX3 zc_yX3_claimBy (hy_X3_claimBy) (Nat.le_of_ble_eq_true rfl) (Nat.le_of_ble_eq_true rfl) rfl rfl rfl (Nat.le_of_ble_eq_true rfl) dX7_claimOf_40 ?_
      exact z_iret hE hR dX7_claimOf_43 (congrArg (fun x => some (Value.int (i32 x))) (by unfold rv_claimOf; first | ((rw [if_neg (by omega)]) <;> first | rfl | omega) | ((rw [if_pos (by omega)]) <;> first | rfl | omega))) (by first | rfl | (simp only [us_id]))
    · refine z_ldc (a := -2000000001) hE zk_X7_60 (by decide) dX7_claimOf_28 ?_
      exact z_iret hE hR dX7_claimOf_30 (congrArg (fun x => some (Value.int (i32 x))) (by unfold rv_claimOf; first | ((rw [if_neg (by omega)]) <;> first | rfl | omega) | ((rw [if_pos (by omega)]) <;> first | rfl | omega))) (by first | rfl | (simp only [us_id]))
theorem dX7_historySize_0 : decode cX7_historySize 0 = .ok (.aload_n 0, 1) := by decide +kernel
theorem dX7_historySize_1 : decode cX7_historySize 1 = .ok (.getfield 28, 3) := by decide +kernel
theorem dX7_historySize_4 : decode cX7_historySize 4 = .ok (.ireturn, 1) := by decide +kernel
theorem hy_X7_historySize : yX7_historySize.cls ≠ "java/lang/invoke/MethodHandle" ∧ yX7_historySize.cls ≠ "java/lang/invoke/VarHandle" ∧ (parseMethodDescriptor yX7_historySize.desc).map (fun d => d.parameters.length) = some 0 := ⟨by decide +kernel, by decide +kernel, by decide +kernel⟩
set_option maxHeartbeats 4000000 in
set_option maxRecDepth 100000 in
theorem c_X7_historySize (l0 : Launch) (D0 : va_G) (cI0 cJ0 : ClassId) (ad : Nat → Nat → Nat) (S : zM) : Ct l0 D0 cI0 cJ0 ad yX7_historySize cX7_historySize 1 (some .int) 0 0 [.ref (ad 5 22)] S (some (.int (i32 (S 5 0)))) (fun X => X = S) := by
  refine Ct.of (by decide) (Nat.le_of_ble_eq_true rfl) (fun E hE hR => ?_)
  have hE : zG E l0 D0 cI0 cJ0 ad cX7_historySize 1 RX7 0 0 := hE
  show Z E S 0 [(0, .ref (ad 5 22))] []
  refine z_aload_n hE 0 rfl rfl dX7_historySize_0 ?_
  refine gf_7_5 hE (by decide) zf_X7_28 dX7_historySize_1 ?_
  exact z_iret hE hR dX7_historySize_4 (congrArg (fun x => some (Value.int (i32 x))) (by first | rfl | omega)) (by first | rfl | (simp only [us_id]))
theorem dX7_join_0 : decode cX7_join 0 = .ok (.aload_n 0, 1) := by decide +kernel
theorem dX7_join_1 : decode cX7_join 1 = .ok (.getfield 10, 3) := by decide +kernel
theorem dX7_join_4 : decode cX7_join 4 = .ok (.getfield 39, 3) := by decide +kernel
theorem dX7_join_7 : decode cX7_join 7 = .ok (.getfield 43, 3) := by decide +kernel
theorem dX7_join_10 : decode cX7_join 10 = .ok (.bipush 12, 2) := by decide +kernel
theorem dX7_join_12 : decode cX7_join 12 = .ok (.if_icmp .lt 6, 3) := by decide +kernel
theorem dX7_join_15 : decode cX7_join 15 = .ok (.ldc 48, 2) := by decide +kernel
theorem dX7_join_17 : decode cX7_join 17 = .ok (.ireturn, 1) := by decide +kernel
theorem dX7_join_18 : decode cX7_join 18 = .ok (.aload_n 0, 1) := by decide +kernel
theorem dX7_join_19 : decode cX7_join 19 = .ok (.invokevirtual 49, 3) := by decide +kernel
theorem dX7_join_22 : decode cX7_join 22 = .ok (.aload_n 0, 1) := by decide +kernel
theorem dX7_join_23 : decode cX7_join 23 = .ok (.getfield 10, 3) := by decide +kernel
theorem dX7_join_26 : decode cX7_join 26 = .ok (.getfield 39, 3) := by decide +kernel
theorem dX7_join_29 : decode cX7_join 29 = .ok (.dup, 1) := by decide +kernel
theorem dX7_join_30 : decode cX7_join 30 = .ok (.getfield 43, 3) := by decide +kernel
theorem dX7_join_33 : decode cX7_join 33 = .ok (.iconst 1, 1) := by decide +kernel
theorem dX7_join_34 : decode cX7_join 34 = .ok (.iadd, 1) := by decide +kernel
theorem dX7_join_35 : decode cX7_join 35 = .ok (.putfield 43, 3) := by decide +kernel
theorem dX7_join_38 : decode cX7_join 38 = .ok (.aload_n 0, 1) := by decide +kernel
theorem dX7_join_39 : decode cX7_join 39 = .ok (.getfield 10, 3) := by decide +kernel
theorem dX7_join_42 : decode cX7_join 42 = .ok (.getfield 39, 3) := by decide +kernel
theorem dX7_join_45 : decode cX7_join 45 = .ok (.getfield 43, 3) := by decide +kernel
theorem dX7_join_48 : decode cX7_join 48 = .ok (.iconst 1, 1) := by decide +kernel
theorem dX7_join_49 : decode cX7_join 49 = .ok (.isub, 1) := by decide +kernel
theorem dX7_join_50 : decode cX7_join 50 = .ok (.ireturn, 1) := by decide +kernel
theorem hy_X7_join : yX7_join.cls ≠ "java/lang/invoke/MethodHandle" ∧ yX7_join.cls ≠ "java/lang/invoke/VarHandle" ∧ (parseMethodDescriptor yX7_join.desc).map (fun d => d.parameters.length) = some 0 := ⟨by decide +kernel, by decide +kernel, by decide +kernel⟩
set_option maxHeartbeats 4000000 in
set_option maxRecDepth 100000 in
theorem c_X7_join (l0 : Launch) (D0 : va_G) (cI0 cJ0 : ClassId) (ad : Nat → Nat → Nat) (S : zM) (n0 : Nat) (n1 : Nat) (n2 : Nat) (n3 : Nat) (n4 : Nat) (hn0 : n0 < 5) (hn1 : n1 < 5) (hn2 : n2 < 5) (hn3 : n3 < 5) (hn4 : n4 < 5) (e0 : S 5 1 = (n0 : Int)) (e1 : S 5 2 = (n1 : Int)) (e2 : S 5 3 = (n2 : Int)) (e3 : S 5 4 = (n3 : Int)) (e4 : S 5 5 = (n4 : Int)) (h04 : n0 ≠ n4) (hst : 0 ≤ S 5 0 ∧ S 5 0 ≤ 4) (hI : Inv (S n0)) : Ct l0 D0 cI0 cJ0 ad yX7_join cX7_join 1 (some .int) 4 89 [.ref (ad 5 22)] S (some (.int (i32 (rv_join (S n0))))) (fun X => X = if ok_join (S n0) then us (us (us S n4 (S n0)) 5 (kp5 (S 5) n1 n2 n3 n4)) n0 (nx_join (S n0)) else S) := by
  refine Ct.of (by decide) (Nat.le_of_ble_eq_true rfl) (fun E hE hR => ?_)
  have hE : zG E l0 D0 cI0 cJ0 ad cX7_join 1 RX7 4 89 := hE
  show Z E S 0 [(0, .ref (ad 5 22))] []
  have hI0 := hI.1
  have hA := inA hI0
  unfold InvA at hA
  have h05 : n0 ≠ 5 := by omega
  have h50 : 5 ≠ n0 := by omega
  have h45 : n4 ≠ 5 := by omega
  have h54 : 5 ≠ n4 := by omega
  have h40 : n4 ≠ n0 := fun q => h04 q.symm
  refine z_aload_n hE 0 rfl rfl dX7_join_0 ?_
  refine gf_7_0 hE (by decide) zf_X7_10 dX7_join_1 ?_
  rw [show (S 5 1).toNat = n0 by omega]
  refine gf_4_0 hE (ks_m hn0 (by decide)) zf_X7_39 dX7_join_4 ?_
  refine gf_1_0 hE (ks_m hn0 (by decide)) zf_X7_43 dX7_join_7 ?_
  refine z_bipush (a := 12) hE (by decide) dX7_join_10 ?_
  refine z_icmp_lt (tgt := 18) hE dX7_join_12 (by decide) ⟨by omega, by omega⟩ ⟨by omega, by omega⟩ (fun c1 => ?_) (fun c1 => ?_)
  · refine z_aload_n hE 0 rfl rfl dX7_join_18 ?_
    refine z_callV hE (c_X7_keepState l0 D0 cI0 cJ0 ad S n0 n1 n2 n3 n4 hn0 hn1 hn2 hn3 hn4 e0 e1 e2 e3 e4 h04 hst) (by decide) rfl rfl zm_X7_49 zi_yX7_keepState zs_yX7_keepState zn_RX7 zc_yX7_keepState (hy_X7_keepState) (Nat.le_of_ble_eq_true rfl) (Nat.le_of_ble_eq_true rfl) rfl rfl rfl (Nat.le_of_ble_eq_true rfl) dX7_join_19 ?_
    try simp only [us_eq, us_us, us_ne h05, us_ne h50, us_ne h45, us_ne h54, us_ne h40, us_ne h04, us_in h45, us_in h54, us_in h05, us_in h50]
    refine z_aload_n hE 0 rfl rfl dX7_join_22 ?_
    refine gf_7_0 hE (by decide) zf_X7_10 dX7_join_23 ?_
    try simp only [us_eq, us_us, us_ne h05, us_ne h50, us_ne h45, us_ne h54, us_ne h40, us_ne h04, us_in h45, us_in h54, us_in h05, us_in h50]
    rw [kp5_1]
    rw [show (S 5 1).toNat = n0 by omega]
    refine gf_4_0 hE (ks_m hn0 (by decide)) zf_X7_39 dX7_join_26 ?_
    refine z_dup hE rfl dX7_join_29 ?_
    refine gf_1_0 hE (ks_m hn0 (by decide)) zf_X7_43 dX7_join_30 ?_
    try simp only [us_eq, us_us, us_ne h05, us_ne h50, us_ne h45, us_ne h54, us_ne h40, us_ne h04, us_in h45, us_in h54, us_in h05, us_in h50]
    refine z_iconst hE dX7_join_33 ?_
    refine z_iadd hE dX7_join_34 ?_
    refine pf_1_0 hE (ks_m hn0 (by decide)) zf_X7_43 dX7_join_35 ?_
    try simp only [us_eq, us_us, us_ne h05, us_ne h50, us_ne h45, us_ne h54, us_ne h40, us_ne h04, us_in h45, us_in h54, us_in h05, us_in h50]
    refine z_aload_n hE 0 rfl rfl dX7_join_38 ?_
    refine gf_7_0 hE (by decide) zf_X7_10 dX7_join_39 ?_
    try simp only [us_eq, us_us, us_ne h05, us_ne h50, us_ne h45, us_ne h54, us_ne h40, us_ne h04, us_in h45, us_in h54, us_in h05, us_in h50]
    rw [kp5_1]
    rw [show (S 5 1).toNat = n0 by omega]
    refine gf_4_0 hE (ks_m hn0 (by decide)) zf_X7_39 dX7_join_42 ?_
    refine gf_1_0 hE (ks_m hn0 (by decide)) zf_X7_43 dX7_join_45 ?_
    try simp only [us_eq, us_us, us_ne h05, us_ne h50, us_ne h45, us_ne h54, us_ne h40, us_ne h04, us_in h45, us_in h54, us_in h05, us_in h50]
    rw [up_eq]
    refine z_iconst hE dX7_join_48 ?_
    refine z_isub hE dX7_join_49 ?_
    exact z_iret hE hR dX7_join_50 (congrArg (fun x => some (Value.int (i32 x))) (by unfold rv_join; first | ((rw [if_neg (by omega)]) <;> first | rfl | omega) | ((rw [if_pos (by omega)]) <;> first | rfl | omega))) (by first | ((rw [if_pos (by omega)]) <;> (rfl)) | (rw [if_neg (by omega)]))
  · refine z_ldc (a := -2000000003) hE zk_X7_48 (by decide) dX7_join_15 ?_
    exact z_iret hE hR dX7_join_17 (congrArg (fun x => some (Value.int (i32 x))) (by unfold rv_join; first | ((rw [if_neg (by omega)]) <;> first | rfl | omega) | ((rw [if_pos (by omega)]) <;> first | rfl | omega))) (by first | ((rw [if_pos (by omega)]) <;> (rfl)) | (rw [if_neg (by omega)]))
theorem dX7_issue_0 : decode cX7_issue 0 = .ok (.aload_n 0, 1) := by decide +kernel
theorem dX7_issue_1 : decode cX7_issue 1 = .ok (.getfield 10, 3) := by decide +kernel
theorem dX7_issue_4 : decode cX7_issue 4 = .ok (.getfield 39, 3) := by decide +kernel
theorem dX7_issue_7 : decode cX7_issue 7 = .ok (.iload_n 1, 1) := by decide +kernel
theorem dX7_issue_8 : decode cX7_issue 8 = .ok (.invokevirtual 52, 3) := by decide +kernel
theorem dX7_issue_11 : decode cX7_issue 11 = .ok (.ifCond .eq 14, 3) := by decide +kernel
theorem dX7_issue_14 : decode cX7_issue 14 = .ok (.iload_n 2, 1) := by decide +kernel
theorem dX7_issue_15 : decode cX7_issue 15 = .ok (.iconst 1, 1) := by decide +kernel
theorem dX7_issue_16 : decode cX7_issue 16 = .ok (.sipush 1000, 3) := by decide +kernel
theorem dX7_issue_19 : decode cX7_issue 19 = .ok (.invokestatic 56, 3) := by decide +kernel
theorem dX7_issue_22 : decode cX7_issue 22 = .ok (.ifCond .ne 6, 3) := by decide +kernel
theorem dX7_issue_25 : decode cX7_issue 25 = .ok (.ldc 60, 2) := by decide +kernel
theorem dX7_issue_27 : decode cX7_issue 27 = .ok (.ireturn, 1) := by decide +kernel
theorem dX7_issue_28 : decode cX7_issue 28 = .ok (.aload_n 0, 1) := by decide +kernel
theorem dX7_issue_29 : decode cX7_issue 29 = .ok (.getfield 10, 3) := by decide +kernel
theorem dX7_issue_32 : decode cX7_issue 32 = .ok (.invokevirtual 61, 3) := by decide +kernel
theorem dX7_issue_35 : decode cX7_issue 35 = .ok (.iload_n 2, 1) := by decide +kernel
theorem dX7_issue_36 : decode cX7_issue 36 = .ok (.iadd, 1) := by decide +kernel
theorem dX7_issue_37 : decode cX7_issue 37 = .ok (.sipush 10000, 3) := by decide +kernel
theorem dX7_issue_40 : decode cX7_issue 40 = .ok (.if_icmp .le 6, 3) := by decide +kernel
theorem dX7_issue_43 : decode cX7_issue 43 = .ok (.ldc 48, 2) := by decide +kernel
theorem dX7_issue_45 : decode cX7_issue 45 = .ok (.ireturn, 1) := by decide +kernel
theorem dX7_issue_46 : decode cX7_issue 46 = .ok (.aload_n 0, 1) := by decide +kernel
theorem dX7_issue_47 : decode cX7_issue 47 = .ok (.invokevirtual 49, 3) := by decide +kernel
theorem dX7_issue_50 : decode cX7_issue 50 = .ok (.aload_n 0, 1) := by decide +kernel
theorem dX7_issue_51 : decode cX7_issue 51 = .ok (.getfield 10, 3) := by decide +kernel
theorem dX7_issue_54 : decode cX7_issue 54 = .ok (.getfield 39, 3) := by decide +kernel
theorem dX7_issue_57 : decode cX7_issue 57 = .ok (.getfield 65, 3) := by decide +kernel
theorem dX7_issue_60 : decode cX7_issue 60 = .ok (.iload_n 1, 1) := by decide +kernel
theorem dX7_issue_61 : decode cX7_issue 61 = .ok (.dup2, 1) := by decide +kernel
theorem dX7_issue_62 : decode cX7_issue 62 = .ok (.iaload, 1) := by decide +kernel
theorem dX7_issue_63 : decode cX7_issue 63 = .ok (.iload_n 2, 1) := by decide +kernel
theorem dX7_issue_64 : decode cX7_issue 64 = .ok (.iadd, 1) := by decide +kernel
theorem dX7_issue_65 : decode cX7_issue 65 = .ok (.iastore, 1) := by decide +kernel
theorem dX7_issue_66 : decode cX7_issue 66 = .ok (.aload_n 0, 1) := by decide +kernel
theorem dX7_issue_67 : decode cX7_issue 67 = .ok (.getfield 10, 3) := by decide +kernel
theorem dX7_issue_70 : decode cX7_issue 70 = .ok (.getfield 39, 3) := by decide +kernel
theorem dX7_issue_73 : decode cX7_issue 73 = .ok (.getfield 69, 3) := by decide +kernel
theorem dX7_issue_76 : decode cX7_issue 76 = .ok (.iload_n 1, 1) := by decide +kernel
theorem dX7_issue_77 : decode cX7_issue 77 = .ok (.dup2, 1) := by decide +kernel
theorem dX7_issue_78 : decode cX7_issue 78 = .ok (.laload, 1) := by decide +kernel
theorem dX7_issue_79 : decode cX7_issue 79 = .ok (.aload_n 0, 1) := by decide +kernel
theorem dX7_issue_80 : decode cX7_issue 80 = .ok (.getfield 10, 3) := by decide +kernel
theorem dX7_issue_83 : decode cX7_issue 83 = .ok (.getfield 73, 3) := by decide +kernel
theorem dX7_issue_86 : decode cX7_issue 86 = .ok (.getfield 77, 3) := by decide +kernel
theorem dX7_issue_89 : decode cX7_issue 89 = .ok (.i2l, 1) := by decide +kernel
theorem dX7_issue_90 : decode cX7_issue 90 = .ok (.iload_n 2, 1) := by decide +kernel
theorem dX7_issue_91 : decode cX7_issue 91 = .ok (.i2l, 1) := by decide +kernel
theorem dX7_issue_92 : decode cX7_issue 92 = .ok (.lmul, 1) := by decide +kernel
theorem dX7_issue_93 : decode cX7_issue 93 = .ok (.lsub, 1) := by decide +kernel
theorem dX7_issue_94 : decode cX7_issue 94 = .ok (.lastore, 1) := by decide +kernel
theorem dX7_issue_95 : decode cX7_issue 95 = .ok (.aload_n 0, 1) := by decide +kernel
theorem dX7_issue_96 : decode cX7_issue 96 = .ok (.getfield 10, 3) := by decide +kernel
theorem dX7_issue_99 : decode cX7_issue 99 = .ok (.invokevirtual 61, 3) := by decide +kernel
theorem dX7_issue_102 : decode cX7_issue 102 = .ok (.ireturn, 1) := by decide +kernel
theorem hy_X7_issue : yX7_issue.cls ≠ "java/lang/invoke/MethodHandle" ∧ yX7_issue.cls ≠ "java/lang/invoke/VarHandle" ∧ (parseMethodDescriptor yX7_issue.desc).map (fun d => d.parameters.length) = some 2 := ⟨by decide +kernel, by decide +kernel, by decide +kernel⟩
set_option maxHeartbeats 4000000 in
set_option maxRecDepth 100000 in
theorem c_X7_issue (l0 : Launch) (D0 : va_G) (cI0 cJ0 : ClassId) (ad : Nat → Nat → Nat) (S : zM) (m : Int) (n : Int) (n0 : Nat) (n1 : Nat) (n2 : Nat) (n3 : Nat) (n4 : Nat) (hn0 : n0 < 5) (hn1 : n1 < 5) (hn2 : n2 < 5) (hn3 : n3 < 5) (hn4 : n4 < 5) (e0 : S 5 1 = (n0 : Int)) (e1 : S 5 2 = (n1 : Int)) (e2 : S 5 3 = (n2 : Int)) (e3 : S 5 4 = (n3 : Int)) (e4 : S 5 5 = (n4 : Int)) (h04 : n0 ≠ n4) (hst : 0 ≤ S 5 0 ∧ S 5 0 ≤ 4) (hI : Inv (S n0)) (bb_m : -2147483648 ≤ m ∧ m < 2147483648) (bb_n : -2147483648 ≤ n ∧ n < 2147483648) : Ct l0 D0 cI0 cJ0 ad yX7_issue cX7_issue 3 (some .int) 4 89 [.ref (ad 5 22), .int (i32 m), .int (i32 n)] S (some (.int (i32 (rv_issue (S n0) m n)))) (fun X => X = if ok_issue (S n0) m n then us (us (us S n4 (S n0)) 5 (kp5 (S 5) n1 n2 n3 n4)) n0 (nx_issue (S n0) m n) else S) := by
  refine Ct.of (by decide) (Nat.le_of_ble_eq_true rfl) (fun E hE hR => ?_)
  have hE : zG E l0 D0 cI0 cJ0 ad cX7_issue 3 RX7 4 89 := hE
  show Z E S 0 [(0, .ref (ad 5 22)), (1, .int (i32 m)), (2, .int (i32 n))] []
  have hI0 := hI.1
  have hA := inA hI0
  unfold InvA at hA
  have h05 : n0 ≠ 5 := by omega
  have h50 : 5 ≠ n0 := by omega
  have h45 : n4 ≠ 5 := by omega
  have h54 : 5 ≠ n4 := by omega
  have h40 : n4 ≠ n0 := fun q => h04 q.symm
  have hT := inT hI0
  refine z_aload_n hE 0 rfl rfl dX7_issue_0 ?_
  refine gf_7_0 hE (by decide) zf_X7_10 dX7_issue_1 ?_
  rw [show (S 5 1).toNat = n0 by omega]
  refine gf_4_0 hE (ks_m hn0 (by decide)) zf_X7_39 dX7_issue_4 ?_
  refine z_iload_n hE 1 rfl rfl dX7_issue_7 ?_
  refine z_callV hE (c_X1_has l0 D0 cI0 cJ0 ad S n0 hn0 m (by omega) (by omega)) (ks_m hn0 (by decide)) rfl rfl zm_X7_52 zi_yX1_has zs_yX1_has zn_RX1 zc_yX1_has (hy_X1_has) (Nat.le_of_ble_eq_true rfl) (Nat.le_of_ble_eq_true rfl) rfl rfl rfl (Nat.le_of_ble_eq_true rfl) dX7_issue_8 ?_
  refine z_ifb_eq (tgt := 25) hE dX7_issue_11 (by decide) (fun c1 => ?_) (fun c1 => ?_)
  · refine z_ldc (a := -2000000001) hE zk_X7_60 (by decide) dX7_issue_25 ?_
    exact z_iret hE hR dX7_issue_27 (congrArg (fun x => some (Value.int (i32 x))) (by unfold rv_issue; first | ((rw [if_neg (by omega)]) <;> first | rfl | omega) | ((rw [if_pos (by omega), if_neg (by omega)]) <;> first | rfl | omega) | ((rw [if_pos (by omega), if_pos (by omega)]) <;> first | rfl | omega))) (by first | ((rw [if_pos (by omega)]) <;> (rfl)) | (rw [if_neg (by omega)]))
  · refine z_iload_n hE 2 rfl rfl dX7_issue_14 ?_
    refine z_iconst hE dX7_issue_15 ?_
    refine z_sipush (a := 1000) hE (by decide) dX7_issue_16 ?_
    refine z_callS hE (c_X7_isWithin l0 D0 cI0 cJ0 ad S n 1 1000 (⟨by omega, by omega⟩) (⟨by omega, by omega⟩) (⟨by omega, by omega⟩)) zm_X7_56 zt_yX7_isWithin zn_RX7 zc_yX7_isWithin (hy_X7_isWithin) (Nat.le_of_ble_eq_true rfl) (Nat.le_of_ble_eq_true rfl) rfl rfl rfl (Nat.le_of_ble_eq_true rfl) dX7_issue_19 ?_
    refine z_ifb_ne (tgt := 28) hE dX7_issue_22 (by decide) (fun c2 => ?_) (fun c2 => ?_)
    · refine z_aload_n hE 0 rfl rfl dX7_issue_28 ?_
      refine gf_7_0 hE (by decide) zf_X7_10 dX7_issue_29 ?_
      rw [show (S 5 1).toNat = n0 by omega]
      refine z_callV hE (c_X4_countAllShares l0 D0 cI0 cJ0 ad S n0 hn0 (by first | exact hI0 | (simp only [us_eq, us_ne h05, us_ne h50, us_ne h45, us_ne h54, us_ne h40, us_ne h04]; exact hI0))) (ks_m hn0 (by decide)) rfl rfl zm_X7_61 zi_yX4_countAllShares zs_yX4_countAllShares zn_RX4 zc_yX4_countAllShares (hy_X4_countAllShares) (Nat.le_of_ble_eq_true rfl) (Nat.le_of_ble_eq_true rfl) rfl rfl rfl (Nat.le_of_ble_eq_true rfl) dX7_issue_32 ?_
      refine z_iload_n hE 2 rfl rfl dX7_issue_35 ?_
      refine z_iadd hE dX7_issue_36 ?_
      refine z_sipush (a := 10000) hE (by decide) dX7_issue_37 ?_
      refine z_icmp_le (tgt := 46) hE dX7_issue_40 (by decide) ⟨by omega, by omega⟩ ⟨by omega, by omega⟩ (fun c3 => ?_) (fun c3 => ?_)
      · refine z_aload_n hE 0 rfl rfl dX7_issue_46 ?_
        refine z_callV hE (c_X7_keepState l0 D0 cI0 cJ0 ad S n0 n1 n2 n3 n4 hn0 hn1 hn2 hn3 hn4 e0 e1 e2 e3 e4 h04 hst) (by decide) rfl rfl zm_X7_49 zi_yX7_keepState zs_yX7_keepState zn_RX7 zc_yX7_keepState (hy_X7_keepState) (Nat.le_of_ble_eq_true rfl) (Nat.le_of_ble_eq_true rfl) rfl rfl rfl (Nat.le_of_ble_eq_true rfl) dX7_issue_47 ?_
        try simp only [us_eq, us_us, us_ne h05, us_ne h50, us_ne h45, us_ne h54, us_ne h40, us_ne h04, us_in h45, us_in h54, us_in h05, us_in h50]
        refine z_aload_n hE 0 rfl rfl dX7_issue_50 ?_
        refine gf_7_0 hE (by decide) zf_X7_10 dX7_issue_51 ?_
        try simp only [us_eq, us_us, us_ne h05, us_ne h50, us_ne h45, us_ne h54, us_ne h40, us_ne h04, us_in h45, us_in h54, us_in h05, us_in h50]
        rw [kp5_1]
        rw [show (S 5 1).toNat = n0 by omega]
        refine gf_4_0 hE (ks_m hn0 (by decide)) zf_X7_39 dX7_issue_54 ?_
        refine gf_1_1 hE (ks_m hn0 (by decide)) zf_X7_65 dX7_issue_57 ?_
        refine z_iload_n hE 1 rfl rfl dX7_issue_60 ?_
        refine z_dup2 hE rfl rfl dX7_issue_61 ?_
        refine al_2 hE (ks_m hn0 (by decide)) (by omega) (by omega) dX7_issue_62 ?_
        try simp only [us_eq, us_us, us_ne h05, us_ne h50, us_ne h45, us_ne h54, us_ne h40, us_ne h04, us_in h45, us_in h54, us_in h05, us_in h50]
        refine z_iload_n hE 2 rfl rfl dX7_issue_63 ?_
        refine z_iadd hE dX7_issue_64 ?_
        refine as_2 hE (ks_m hn0 (by decide)) (by omega) (by omega) dX7_issue_65 ?_
        try simp only [us_eq, us_us, us_ne h05, us_ne h50, us_ne h45, us_ne h54, us_ne h40, us_ne h04, us_in h45, us_in h54, us_in h05, us_in h50]
        refine z_aload_n hE 0 rfl rfl dX7_issue_66 ?_
        refine gf_7_0 hE (by decide) zf_X7_10 dX7_issue_67 ?_
        try simp only [us_eq, us_us, us_ne h05, us_ne h50, us_ne h45, us_ne h54, us_ne h40, us_ne h04, us_in h45, us_in h54, us_in h05, us_in h50]
        rw [kp5_1]
        rw [show (S 5 1).toNat = n0 by omega]
        refine gf_4_0 hE (ks_m hn0 (by decide)) zf_X7_39 dX7_issue_70 ?_
        refine gf_1_3 hE (ks_m hn0 (by decide)) zf_X7_69 dX7_issue_73 ?_
        refine z_iload_n hE 1 rfl rfl dX7_issue_76 ?_
        refine z_dup2 hE rfl rfl dX7_issue_77 ?_
        refine al_4 hE (ks_m hn0 (by decide)) (by omega) (by omega) dX7_issue_78 ?_
        try simp only [us_eq, us_us, us_ne h05, us_ne h50, us_ne h45, us_ne h54, us_ne h40, us_ne h04, us_in h45, us_in h54, us_in h05, us_in h50]
        rw [up_ne (show 21 + 3 * m ≠ 19 + 3 * m by omega)]
        refine z_aload_n hE 0 rfl rfl dX7_issue_79 ?_
        refine gf_7_0 hE (by decide) zf_X7_10 dX7_issue_80 ?_
        try simp only [us_eq, us_us, us_ne h05, us_ne h50, us_ne h45, us_ne h54, us_ne h40, us_ne h04, us_in h45, us_in h54, us_in h05, us_in h50]
        rw [kp5_1]
        rw [show (S 5 1).toNat = n0 by omega]
        refine gf_4_2 hE (ks_m hn0 (by decide)) zf_X7_73 dX7_issue_83 ?_
        refine gf_0_2 hE (ks_m hn0 (by decide)) zf_X7_77 dX7_issue_86 ?_
        try simp only [us_eq, us_us, us_ne h05, us_ne h50, us_ne h45, us_ne h54, us_ne h40, us_ne h04, us_in h45, us_in h54, us_in h05, us_in h50]
        rw [up_ne (show 6 ≠ 19 + 3 * m by omega)]
        refine z_i2l hE ⟨by omega, by omega⟩ dX7_issue_89 ?_
        refine z_iload_n hE 2 rfl rfl dX7_issue_90 ?_
        refine z_i2l hE ⟨by omega, by omega⟩ dX7_issue_91 ?_
        refine z_lmul hE dX7_issue_92 ?_
        refine z_lsub hE dX7_issue_93 ?_
        refine as_4 hE (ks_m hn0 (by decide)) (by omega) (by omega) dX7_issue_94 ?_
        try simp only [us_eq, us_us, us_ne h05, us_ne h50, us_ne h45, us_ne h54, us_ne h40, us_ne h04, us_in h45, us_in h54, us_in h05, us_in h50]
        have hi9 := inv_issue hI (m := m) (n := n) ⟨⟨by omega, by omega, by omega⟩, by omega⟩
        have ha9 := all_issue (s := S n0) (m := m) (n := n) ⟨by omega, by omega⟩
        rw [show up (S n0) (19 + 3 * m) (S n0 (19 + 3 * m) + n) = uq (S n0) (19 + 3 * m) n from rfl, Int.sub_eq_add_neg, uq_two (by omega), show uq (uq (S n0) (19 + 3 * m) n) (21 + 3 * m) (-(S n0 6 * n)) = nx_issue (S n0) m n from rfl]
        refine z_aload_n hE 0 rfl rfl dX7_issue_95 ?_
        refine gf_7_0 hE (by decide) zf_X7_10 dX7_issue_96 ?_
        try simp only [us_eq, us_us, us_ne h05, us_ne h50, us_ne h45, us_ne h54, us_ne h40, us_ne h04, us_in h45, us_in h54, us_in h05, us_in h50]
        rw [kp5_1]
        rw [show (S 5 1).toNat = n0 by omega]
        refine z_callV hE (c_X4_countAllShares l0 D0 cI0 cJ0 ad (us (us (us S n4 ((S n0))) 5 (kp5 ((S 5)) n1 n2 n3 n4)) n0 (nx_issue (S n0) m n)) n0 hn0 (by rw [us_eq]; exact hi9.1)) (ks_m hn0 (by decide)) rfl rfl zm_X7_61 zi_yX4_countAllShares zs_yX4_countAllShares zn_RX4 zc_yX4_countAllShares (hy_X4_countAllShares) (Nat.le_of_ble_eq_true rfl) (Nat.le_of_ble_eq_true rfl) rfl rfl rfl (Nat.le_of_ble_eq_true rfl) dX7_issue_99 ?_
        try simp only [us_eq, us_us, us_ne h05, us_ne h50, us_ne h45, us_ne h54, us_ne h40, us_ne h04, us_in h45, us_in h54, us_in h05, us_in h50]
        exact z_iret hE hR dX7_issue_102 (congrArg (fun x => some (Value.int (i32 x))) (by unfold rv_issue; first | ((rw [if_neg (by omega)]) <;> first | rfl | omega) | ((rw [if_pos (by omega), if_neg (by omega)]) <;> first | rfl | omega) | ((rw [if_pos (by omega), if_pos (by omega)]) <;> first | rfl | omega))) (by first | ((rw [if_pos (by omega)]) <;> (rfl)) | (rw [if_neg (by omega)]))
      · refine z_ldc (a := -2000000003) hE zk_X7_48 (by decide) dX7_issue_43 ?_
        exact z_iret hE hR dX7_issue_45 (congrArg (fun x => some (Value.int (i32 x))) (by unfold rv_issue; first | ((rw [if_neg (by omega)]) <;> first | rfl | omega) | ((rw [if_pos (by omega), if_neg (by omega)]) <;> first | rfl | omega) | ((rw [if_pos (by omega), if_pos (by omega)]) <;> first | rfl | omega))) (by first | ((rw [if_pos (by omega)]) <;> (rfl)) | (rw [if_neg (by omega)]))
    · refine z_ldc (a := -2000000001) hE zk_X7_60 (by decide) dX7_issue_25 ?_
      exact z_iret hE hR dX7_issue_27 (congrArg (fun x => some (Value.int (i32 x))) (by unfold rv_issue; first | ((rw [if_neg (by omega)]) <;> first | rfl | omega) | ((rw [if_pos (by omega), if_neg (by omega)]) <;> first | rfl | omega) | ((rw [if_pos (by omega), if_pos (by omega)]) <;> first | rfl | omega))) (by first | ((rw [if_pos (by omega)]) <;> (rfl)) | (rw [if_neg (by omega)]))
theorem dX7_setMilk_0 : decode cX7_setMilk 0 = .ok (.aload_n 0, 1) := by decide +kernel
theorem dX7_setMilk_1 : decode cX7_setMilk 1 = .ok (.getfield 10, 3) := by decide +kernel
theorem dX7_setMilk_4 : decode cX7_setMilk 4 = .ok (.getfield 39, 3) := by decide +kernel
theorem dX7_setMilk_7 : decode cX7_setMilk 7 = .ok (.iload_n 1, 1) := by decide +kernel
theorem dX7_setMilk_8 : decode cX7_setMilk 8 = .ok (.invokevirtual 52, 3) := by decide +kernel
theorem dX7_setMilk_11 : decode cX7_setMilk 11 = .ok (.ifCond .eq 13, 3) := by decide +kernel
theorem dX7_setMilk_14 : decode cX7_setMilk 14 = .ok (.iload_n 2, 1) := by decide +kernel
theorem dX7_setMilk_15 : decode cX7_setMilk 15 = .ok (.iconst 0, 1) := by decide +kernel
theorem dX7_setMilk_16 : decode cX7_setMilk 16 = .ok (.ldc 82, 2) := by decide +kernel
theorem dX7_setMilk_18 : decode cX7_setMilk 18 = .ok (.invokestatic 56, 3) := by decide +kernel
theorem dX7_setMilk_21 : decode cX7_setMilk 21 = .ok (.ifCond .ne 6, 3) := by decide +kernel
theorem dX7_setMilk_24 : decode cX7_setMilk 24 = .ok (.ldc 60, 2) := by decide +kernel
theorem dX7_setMilk_26 : decode cX7_setMilk 26 = .ok (.ireturn, 1) := by decide +kernel
theorem dX7_setMilk_27 : decode cX7_setMilk 27 = .ok (.aload_n 0, 1) := by decide +kernel
theorem dX7_setMilk_28 : decode cX7_setMilk 28 = .ok (.invokevirtual 49, 3) := by decide +kernel
theorem dX7_setMilk_31 : decode cX7_setMilk 31 = .ok (.aload_n 0, 1) := by decide +kernel
theorem dX7_setMilk_32 : decode cX7_setMilk 32 = .ok (.getfield 10, 3) := by decide +kernel
theorem dX7_setMilk_35 : decode cX7_setMilk 35 = .ok (.getfield 39, 3) := by decide +kernel
theorem dX7_setMilk_38 : decode cX7_setMilk 38 = .ok (.getfield 83, 3) := by decide +kernel
theorem dX7_setMilk_41 : decode cX7_setMilk 41 = .ok (.iload_n 1, 1) := by decide +kernel
theorem dX7_setMilk_42 : decode cX7_setMilk 42 = .ok (.iaload, 1) := by decide +kernel
theorem dX7_setMilk_43 : decode cX7_setMilk 43 = .ok (.istore_n 3, 1) := by decide +kernel
theorem dX7_setMilk_44 : decode cX7_setMilk 44 = .ok (.aload_n 0, 1) := by decide +kernel
theorem dX7_setMilk_45 : decode cX7_setMilk 45 = .ok (.getfield 10, 3) := by decide +kernel
theorem dX7_setMilk_48 : decode cX7_setMilk 48 = .ok (.getfield 39, 3) := by decide +kernel
theorem dX7_setMilk_51 : decode cX7_setMilk 51 = .ok (.getfield 83, 3) := by decide +kernel
theorem dX7_setMilk_54 : decode cX7_setMilk 54 = .ok (.iload_n 1, 1) := by decide +kernel
theorem dX7_setMilk_55 : decode cX7_setMilk 55 = .ok (.iload_n 2, 1) := by decide +kernel
theorem dX7_setMilk_56 : decode cX7_setMilk 56 = .ok (.iastore, 1) := by decide +kernel
theorem dX7_setMilk_57 : decode cX7_setMilk 57 = .ok (.iload_n 3, 1) := by decide +kernel
theorem dX7_setMilk_58 : decode cX7_setMilk 58 = .ok (.ireturn, 1) := by decide +kernel
theorem hy_X7_setMilk : yX7_setMilk.cls ≠ "java/lang/invoke/MethodHandle" ∧ yX7_setMilk.cls ≠ "java/lang/invoke/VarHandle" ∧ (parseMethodDescriptor yX7_setMilk.desc).map (fun d => d.parameters.length) = some 2 := ⟨by decide +kernel, by decide +kernel, by decide +kernel⟩
set_option maxHeartbeats 4000000 in
set_option maxRecDepth 100000 in
theorem c_X7_setMilk (l0 : Launch) (D0 : va_G) (cI0 cJ0 : ClassId) (ad : Nat → Nat → Nat) (S : zM) (m : Int) (v : Int) (n0 : Nat) (n1 : Nat) (n2 : Nat) (n3 : Nat) (n4 : Nat) (hn0 : n0 < 5) (hn1 : n1 < 5) (hn2 : n2 < 5) (hn3 : n3 < 5) (hn4 : n4 < 5) (e0 : S 5 1 = (n0 : Int)) (e1 : S 5 2 = (n1 : Int)) (e2 : S 5 3 = (n2 : Int)) (e3 : S 5 4 = (n3 : Int)) (e4 : S 5 5 = (n4 : Int)) (h04 : n0 ≠ n4) (hst : 0 ≤ S 5 0 ∧ S 5 0 ≤ 4) (hI : Inv (S n0)) (bb_m : -2147483648 ≤ m ∧ m < 2147483648) (bb_v : -2147483648 ≤ v ∧ v < 2147483648) : Ct l0 D0 cI0 cJ0 ad yX7_setMilk cX7_setMilk 4 (some .int) 4 89 [.ref (ad 5 22), .int (i32 m), .int (i32 v)] S (some (.int (i32 (rv_setMilk (S n0) m v)))) (fun X => X = if ok_setMilk (S n0) m v then us (us (us S n4 (S n0)) 5 (kp5 (S 5) n1 n2 n3 n4)) n0 (nx_setMilk (S n0) m v) else S) := by
  refine Ct.of (by decide) (Nat.le_of_ble_eq_true rfl) (fun E hE hR => ?_)
  have hE : zG E l0 D0 cI0 cJ0 ad cX7_setMilk 4 RX7 4 89 := hE
  show Z E S 0 [(0, .ref (ad 5 22)), (1, .int (i32 m)), (2, .int (i32 v))] []
  have hI0 := hI.1
  have hA := inA hI0
  unfold InvA at hA
  have h05 : n0 ≠ 5 := by omega
  have h50 : 5 ≠ n0 := by omega
  have h45 : n4 ≠ 5 := by omega
  have h54 : 5 ≠ n4 := by omega
  have h40 : n4 ≠ n0 := fun q => h04 q.symm
  refine z_aload_n hE 0 rfl rfl dX7_setMilk_0 ?_
  refine gf_7_0 hE (by decide) zf_X7_10 dX7_setMilk_1 ?_
  rw [show (S 5 1).toNat = n0 by omega]
  refine gf_4_0 hE (ks_m hn0 (by decide)) zf_X7_39 dX7_setMilk_4 ?_
  refine z_iload_n hE 1 rfl rfl dX7_setMilk_7 ?_
  refine z_callV hE (c_X1_has l0 D0 cI0 cJ0 ad S n0 hn0 m (by omega) (by omega)) (ks_m hn0 (by decide)) rfl rfl zm_X7_52 zi_yX1_has zs_yX1_has zn_RX1 zc_yX1_has (hy_X1_has) (Nat.le_of_ble_eq_true rfl) (Nat.le_of_ble_eq_true rfl) rfl rfl rfl (Nat.le_of_ble_eq_true rfl) dX7_setMilk_8 ?_
  refine z_ifb_eq (tgt := 24) hE dX7_setMilk_11 (by decide) (fun c1 => ?_) (fun c1 => ?_)
  · refine z_ldc (a := -2000000001) hE zk_X7_60 (by decide) dX7_setMilk_24 ?_
    exact z_iret hE hR dX7_setMilk_26 (congrArg (fun x => some (Value.int (i32 x))) (by unfold rv_setMilk; first | ((rw [if_neg (by omega)]) <;> first | rfl | omega) | ((rw [if_pos (by omega)]) <;> first | rfl | omega))) (by first | ((rw [if_pos (by omega)]) <;> (rfl)) | (rw [if_neg (by omega)]))
  · refine z_iload_n hE 2 rfl rfl dX7_setMilk_14 ?_
    refine z_iconst hE dX7_setMilk_15 ?_
    refine z_ldc (a := 1000000) hE zk_X7_82 (by decide) dX7_setMilk_16 ?_
    refine z_callS hE (c_X7_isWithin l0 D0 cI0 cJ0 ad S v 0 1000000 (⟨by omega, by omega⟩) (⟨by omega, by omega⟩) (⟨by omega, by omega⟩)) zm_X7_56 zt_yX7_isWithin zn_RX7 zc_yX7_isWithin (hy_X7_isWithin) (Nat.le_of_ble_eq_true rfl) (Nat.le_of_ble_eq_true rfl) rfl rfl rfl (Nat.le_of_ble_eq_true rfl) dX7_setMilk_18 ?_
    refine z_ifb_ne (tgt := 27) hE dX7_setMilk_21 (by decide) (fun c2 => ?_) (fun c2 => ?_)
    · refine z_aload_n hE 0 rfl rfl dX7_setMilk_27 ?_
      refine z_callV hE (c_X7_keepState l0 D0 cI0 cJ0 ad S n0 n1 n2 n3 n4 hn0 hn1 hn2 hn3 hn4 e0 e1 e2 e3 e4 h04 hst) (by decide) rfl rfl zm_X7_49 zi_yX7_keepState zs_yX7_keepState zn_RX7 zc_yX7_keepState (hy_X7_keepState) (Nat.le_of_ble_eq_true rfl) (Nat.le_of_ble_eq_true rfl) rfl rfl rfl (Nat.le_of_ble_eq_true rfl) dX7_setMilk_28 ?_
      try simp only [us_eq, us_us, us_ne h05, us_ne h50, us_ne h45, us_ne h54, us_ne h40, us_ne h04, us_in h45, us_in h54, us_in h05, us_in h50]
      refine z_aload_n hE 0 rfl rfl dX7_setMilk_31 ?_
      refine gf_7_0 hE (by decide) zf_X7_10 dX7_setMilk_32 ?_
      try simp only [us_eq, us_us, us_ne h05, us_ne h50, us_ne h45, us_ne h54, us_ne h40, us_ne h04, us_in h45, us_in h54, us_in h05, us_in h50]
      rw [kp5_1]
      rw [show (S 5 1).toNat = n0 by omega]
      refine gf_4_0 hE (ks_m hn0 (by decide)) zf_X7_39 dX7_setMilk_35 ?_
      refine gf_1_2 hE (ks_m hn0 (by decide)) zf_X7_83 dX7_setMilk_38 ?_
      refine z_iload_n hE 1 rfl rfl dX7_setMilk_41 ?_
      refine al_3 hE (ks_m hn0 (by decide)) (by omega) (by omega) dX7_setMilk_42 ?_
      try simp only [us_eq, us_us, us_ne h05, us_ne h50, us_ne h45, us_ne h54, us_ne h40, us_ne h04, us_in h45, us_in h54, us_in h05, us_in h50]
      refine z_istore_n hE rfl (by decide) rfl dX7_setMilk_43 ?_
      refine z_aload_n hE 1 rfl rfl dX7_setMilk_44 ?_
      refine gf_7_0 hE (by decide) zf_X7_10 dX7_setMilk_45 ?_
      try simp only [us_eq, us_us, us_ne h05, us_ne h50, us_ne h45, us_ne h54, us_ne h40, us_ne h04, us_in h45, us_in h54, us_in h05, us_in h50]
      rw [kp5_1]
      rw [show (S 5 1).toNat = n0 by omega]
      refine gf_4_0 hE (ks_m hn0 (by decide)) zf_X7_39 dX7_setMilk_48 ?_
      refine gf_1_2 hE (ks_m hn0 (by decide)) zf_X7_83 dX7_setMilk_51 ?_
      refine z_iload_n hE 2 rfl rfl dX7_setMilk_54 ?_
      refine z_iload_n hE 3 rfl rfl dX7_setMilk_55 ?_
      refine as_3 hE (ks_m hn0 (by decide)) (by omega) (by omega) dX7_setMilk_56 ?_
      try simp only [us_eq, us_us, us_ne h05, us_ne h50, us_ne h45, us_ne h54, us_ne h40, us_ne h04, us_in h45, us_in h54, us_in h05, us_in h50]
      refine z_iload_n hE 0 rfl rfl dX7_setMilk_57 ?_
      exact z_iret hE hR dX7_setMilk_58 (congrArg (fun x => some (Value.int (i32 x))) (by unfold rv_setMilk; first | ((rw [if_neg (by omega)]) <;> first | rfl | omega) | ((rw [if_pos (by omega)]) <;> first | rfl | omega))) (by first | ((rw [if_pos (by omega)]) <;> (rfl)) | (rw [if_neg (by omega)]))
    · refine z_ldc (a := -2000000001) hE zk_X7_60 (by decide) dX7_setMilk_24 ?_
      exact z_iret hE hR dX7_setMilk_26 (congrArg (fun x => some (Value.int (i32 x))) (by unfold rv_setMilk; first | ((rw [if_neg (by omega)]) <;> first | rfl | omega) | ((rw [if_pos (by omega)]) <;> first | rfl | omega))) (by first | ((rw [if_pos (by omega)]) <;> (rfl)) | (rw [if_neg (by omega)]))
theorem dX7_setLitersPerShare_0 : decode cX7_setLitersPerShare 0 = .ok (.iload_n 1, 1) := by decide +kernel
theorem dX7_setLitersPerShare_1 : decode cX7_setLitersPerShare 1 = .ok (.bipush 100, 2) := by decide +kernel
theorem dX7_setLitersPerShare_3 : decode cX7_setLitersPerShare 3 = .ok (.sipush 10000, 3) := by decide +kernel
theorem dX7_setLitersPerShare_6 : decode cX7_setLitersPerShare 6 = .ok (.invokestatic 56, 3) := by decide +kernel
theorem dX7_setLitersPerShare_9 : decode cX7_setLitersPerShare 9 = .ok (.ifCond .ne 6, 3) := by decide +kernel
theorem dX7_setLitersPerShare_12 : decode cX7_setLitersPerShare 12 = .ok (.ldc 60, 2) := by decide +kernel
theorem dX7_setLitersPerShare_14 : decode cX7_setLitersPerShare 14 = .ok (.ireturn, 1) := by decide +kernel
theorem dX7_setLitersPerShare_15 : decode cX7_setLitersPerShare 15 = .ok (.aload_n 0, 1) := by decide +kernel
theorem dX7_setLitersPerShare_16 : decode cX7_setLitersPerShare 16 = .ok (.invokevirtual 49, 3) := by decide +kernel
theorem dX7_setLitersPerShare_19 : decode cX7_setLitersPerShare 19 = .ok (.aload_n 0, 1) := by decide +kernel
theorem dX7_setLitersPerShare_20 : decode cX7_setLitersPerShare 20 = .ok (.getfield 10, 3) := by decide +kernel
theorem dX7_setLitersPerShare_23 : decode cX7_setLitersPerShare 23 = .ok (.getfield 86, 3) := by decide +kernel
theorem dX7_setLitersPerShare_26 : decode cX7_setLitersPerShare 26 = .ok (.getfield 90, 3) := by decide +kernel
theorem dX7_setLitersPerShare_29 : decode cX7_setLitersPerShare 29 = .ok (.istore_n 2, 1) := by decide +kernel
theorem dX7_setLitersPerShare_30 : decode cX7_setLitersPerShare 30 = .ok (.aload_n 0, 1) := by decide +kernel
theorem dX7_setLitersPerShare_31 : decode cX7_setLitersPerShare 31 = .ok (.getfield 10, 3) := by decide +kernel
theorem dX7_setLitersPerShare_34 : decode cX7_setLitersPerShare 34 = .ok (.getfield 86, 3) := by decide +kernel
theorem dX7_setLitersPerShare_37 : decode cX7_setLitersPerShare 37 = .ok (.iload_n 1, 1) := by decide +kernel
theorem dX7_setLitersPerShare_38 : decode cX7_setLitersPerShare 38 = .ok (.putfield 90, 3) := by decide +kernel
theorem dX7_setLitersPerShare_41 : decode cX7_setLitersPerShare 41 = .ok (.iload_n 2, 1) := by decide +kernel
theorem dX7_setLitersPerShare_42 : decode cX7_setLitersPerShare 42 = .ok (.ireturn, 1) := by decide +kernel
theorem hy_X7_setLitersPerShare : yX7_setLitersPerShare.cls ≠ "java/lang/invoke/MethodHandle" ∧ yX7_setLitersPerShare.cls ≠ "java/lang/invoke/VarHandle" ∧ (parseMethodDescriptor yX7_setLitersPerShare.desc).map (fun d => d.parameters.length) = some 1 := ⟨by decide +kernel, by decide +kernel, by decide +kernel⟩
set_option maxHeartbeats 4000000 in
set_option maxRecDepth 100000 in
theorem c_X7_setLitersPerShare (l0 : Launch) (D0 : va_G) (cI0 cJ0 : ClassId) (ad : Nat → Nat → Nat) (S : zM) (v : Int) (n0 : Nat) (n1 : Nat) (n2 : Nat) (n3 : Nat) (n4 : Nat) (hn0 : n0 < 5) (hn1 : n1 < 5) (hn2 : n2 < 5) (hn3 : n3 < 5) (hn4 : n4 < 5) (e0 : S 5 1 = (n0 : Int)) (e1 : S 5 2 = (n1 : Int)) (e2 : S 5 3 = (n2 : Int)) (e3 : S 5 4 = (n3 : Int)) (e4 : S 5 5 = (n4 : Int)) (h04 : n0 ≠ n4) (hst : 0 ≤ S 5 0 ∧ S 5 0 ≤ 4) (hI : Inv (S n0)) (bb_v : -2147483648 ≤ v ∧ v < 2147483648) : Ct l0 D0 cI0 cJ0 ad yX7_setLitersPerShare cX7_setLitersPerShare 3 (some .int) 4 89 [.ref (ad 5 22), .int (i32 v)] S (some (.int (i32 (rv_setLitersPerShare (S n0) v)))) (fun X => X = if ok_setLitersPerShare v then us (us (us S n4 (S n0)) 5 (kp5 (S 5) n1 n2 n3 n4)) n0 (nx_setLitersPerShare (S n0) v) else S) := by
  refine Ct.of (by decide) (Nat.le_of_ble_eq_true rfl) (fun E hE hR => ?_)
  have hE : zG E l0 D0 cI0 cJ0 ad cX7_setLitersPerShare 3 RX7 4 89 := hE
  show Z E S 0 [(0, .ref (ad 5 22)), (1, .int (i32 v))] []
  have hI0 := hI.1
  have hA := inA hI0
  unfold InvA at hA
  have h05 : n0 ≠ 5 := by omega
  have h50 : 5 ≠ n0 := by omega
  have h45 : n4 ≠ 5 := by omega
  have h54 : 5 ≠ n4 := by omega
  have h40 : n4 ≠ n0 := fun q => h04 q.symm
  refine z_iload_n hE 1 rfl rfl dX7_setLitersPerShare_0 ?_
  refine z_bipush (a := 100) hE (by decide) dX7_setLitersPerShare_1 ?_
  refine z_sipush (a := 10000) hE (by decide) dX7_setLitersPerShare_3 ?_
  refine z_callS hE (c_X7_isWithin l0 D0 cI0 cJ0 ad S v 100 10000 (⟨by omega, by omega⟩) (⟨by omega, by omega⟩) (⟨by omega, by omega⟩)) zm_X7_56 zt_yX7_isWithin zn_RX7 zc_yX7_isWithin (hy_X7_isWithin) (Nat.le_of_ble_eq_true rfl) (Nat.le_of_ble_eq_true rfl) rfl rfl rfl (Nat.le_of_ble_eq_true rfl) dX7_setLitersPerShare_6 ?_
  refine z_ifb_ne (tgt := 15) hE dX7_setLitersPerShare_9 (by decide) (fun c1 => ?_) (fun c1 => ?_)
  · refine z_aload_n hE 0 rfl rfl dX7_setLitersPerShare_15 ?_
    refine z_callV hE (c_X7_keepState l0 D0 cI0 cJ0 ad S n0 n1 n2 n3 n4 hn0 hn1 hn2 hn3 hn4 e0 e1 e2 e3 e4 h04 hst) (by decide) rfl rfl zm_X7_49 zi_yX7_keepState zs_yX7_keepState zn_RX7 zc_yX7_keepState (hy_X7_keepState) (Nat.le_of_ble_eq_true rfl) (Nat.le_of_ble_eq_true rfl) rfl rfl rfl (Nat.le_of_ble_eq_true rfl) dX7_setLitersPerShare_16 ?_
    try simp only [us_eq, us_us, us_ne h05, us_ne h50, us_ne h45, us_ne h54, us_ne h40, us_ne h04, us_in h45, us_in h54, us_in h05, us_in h50]
    refine z_aload_n hE 0 rfl rfl dX7_setLitersPerShare_19 ?_
    refine gf_7_0 hE (by decide) zf_X7_10 dX7_setLitersPerShare_20 ?_
    try simp only [us_eq, us_us, us_ne h05, us_ne h50, us_ne h45, us_ne h54, us_ne h40, us_ne h04, us_in h45, us_in h54, us_in h05, us_in h50]
    rw [kp5_1]
    rw [show (S 5 1).toNat = n0 by omega]
    refine gf_4_1 hE (ks_m hn0 (by decide)) zf_X7_86 dX7_setLitersPerShare_23 ?_
    refine gf_5_0 hE (ks_m hn0 (by decide)) zf_X7_90 dX7_setLitersPerShare_26 ?_
    try simp only [us_eq, us_us, us_ne h05, us_ne h50, us_ne h45, us_ne h54, us_ne h40, us_ne h04, us_in h45, us_in h54, us_in h05, us_in h50]
    refine z_istore_n hE rfl (by decide) rfl dX7_setLitersPerShare_29 ?_
    refine z_aload_n hE 1 rfl rfl dX7_setLitersPerShare_30 ?_
    refine gf_7_0 hE (by decide) zf_X7_10 dX7_setLitersPerShare_31 ?_
    try simp only [us_eq, us_us, us_ne h05, us_ne h50, us_ne h45, us_ne h54, us_ne h40, us_ne h04, us_in h45, us_in h54, us_in h05, us_in h50]
    rw [kp5_1]
    rw [show (S 5 1).toNat = n0 by omega]
    refine gf_4_1 hE (ks_m hn0 (by decide)) zf_X7_86 dX7_setLitersPerShare_34 ?_
    refine z_iload_n hE 2 rfl rfl dX7_setLitersPerShare_37 ?_
    refine pf_5_0 hE (ks_m hn0 (by decide)) zf_X7_90 dX7_setLitersPerShare_38 ?_
    try simp only [us_eq, us_us, us_ne h05, us_ne h50, us_ne h45, us_ne h54, us_ne h40, us_ne h04, us_in h45, us_in h54, us_in h05, us_in h50]
    refine z_iload_n hE 0 rfl rfl dX7_setLitersPerShare_41 ?_
    exact z_iret hE hR dX7_setLitersPerShare_42 (congrArg (fun x => some (Value.int (i32 x))) (by unfold rv_setLitersPerShare; first | ((rw [if_neg (by omega)]) <;> first | rfl | omega) | ((rw [if_pos (by omega)]) <;> first | rfl | omega))) (by first | ((rw [if_pos (by omega)]) <;> (rfl)) | (rw [if_neg (by omega)]))
  · refine z_ldc (a := -2000000001) hE zk_X7_60 (by decide) dX7_setLitersPerShare_12 ?_
    exact z_iret hE hR dX7_setLitersPerShare_14 (congrArg (fun x => some (Value.int (i32 x))) (by unfold rv_setLitersPerShare; first | ((rw [if_neg (by omega)]) <;> first | rfl | omega) | ((rw [if_pos (by omega)]) <;> first | rfl | omega))) (by first | ((rw [if_pos (by omega)]) <;> (rfl)) | (rw [if_neg (by omega)]))
theorem dX7_setTreasuryLimit_0 : decode cX7_setTreasuryLimit 0 = .ok (.iload_n 1, 1) := by decide +kernel
theorem dX7_setTreasuryLimit_1 : decode cX7_setTreasuryLimit 1 = .ok (.iconst 0, 1) := by decide +kernel
theorem dX7_setTreasuryLimit_2 : decode cX7_setTreasuryLimit 2 = .ok (.sipush 1000, 3) := by decide +kernel
theorem dX7_setTreasuryLimit_5 : decode cX7_setTreasuryLimit 5 = .ok (.invokestatic 56, 3) := by decide +kernel
theorem dX7_setTreasuryLimit_8 : decode cX7_setTreasuryLimit 8 = .ok (.ifCond .ne 6, 3) := by decide +kernel
theorem dX7_setTreasuryLimit_11 : decode cX7_setTreasuryLimit 11 = .ok (.ldc 60, 2) := by decide +kernel
theorem dX7_setTreasuryLimit_13 : decode cX7_setTreasuryLimit 13 = .ok (.ireturn, 1) := by decide +kernel
theorem dX7_setTreasuryLimit_14 : decode cX7_setTreasuryLimit 14 = .ok (.aload_n 0, 1) := by decide +kernel
theorem dX7_setTreasuryLimit_15 : decode cX7_setTreasuryLimit 15 = .ok (.invokevirtual 49, 3) := by decide +kernel
theorem dX7_setTreasuryLimit_18 : decode cX7_setTreasuryLimit 18 = .ok (.aload_n 0, 1) := by decide +kernel
theorem dX7_setTreasuryLimit_19 : decode cX7_setTreasuryLimit 19 = .ok (.getfield 10, 3) := by decide +kernel
theorem dX7_setTreasuryLimit_22 : decode cX7_setTreasuryLimit 22 = .ok (.getfield 86, 3) := by decide +kernel
theorem dX7_setTreasuryLimit_25 : decode cX7_setTreasuryLimit 25 = .ok (.getfield 95, 3) := by decide +kernel
theorem dX7_setTreasuryLimit_28 : decode cX7_setTreasuryLimit 28 = .ok (.istore_n 2, 1) := by decide +kernel
theorem dX7_setTreasuryLimit_29 : decode cX7_setTreasuryLimit 29 = .ok (.aload_n 0, 1) := by decide +kernel
theorem dX7_setTreasuryLimit_30 : decode cX7_setTreasuryLimit 30 = .ok (.getfield 10, 3) := by decide +kernel
theorem dX7_setTreasuryLimit_33 : decode cX7_setTreasuryLimit 33 = .ok (.getfield 86, 3) := by decide +kernel
theorem dX7_setTreasuryLimit_36 : decode cX7_setTreasuryLimit 36 = .ok (.iload_n 1, 1) := by decide +kernel
theorem dX7_setTreasuryLimit_37 : decode cX7_setTreasuryLimit 37 = .ok (.putfield 95, 3) := by decide +kernel
theorem dX7_setTreasuryLimit_40 : decode cX7_setTreasuryLimit 40 = .ok (.iload_n 2, 1) := by decide +kernel
theorem dX7_setTreasuryLimit_41 : decode cX7_setTreasuryLimit 41 = .ok (.ireturn, 1) := by decide +kernel
theorem hy_X7_setTreasuryLimit : yX7_setTreasuryLimit.cls ≠ "java/lang/invoke/MethodHandle" ∧ yX7_setTreasuryLimit.cls ≠ "java/lang/invoke/VarHandle" ∧ (parseMethodDescriptor yX7_setTreasuryLimit.desc).map (fun d => d.parameters.length) = some 1 := ⟨by decide +kernel, by decide +kernel, by decide +kernel⟩
set_option maxHeartbeats 4000000 in
set_option maxRecDepth 100000 in
theorem c_X7_setTreasuryLimit (l0 : Launch) (D0 : va_G) (cI0 cJ0 : ClassId) (ad : Nat → Nat → Nat) (S : zM) (v : Int) (n0 : Nat) (n1 : Nat) (n2 : Nat) (n3 : Nat) (n4 : Nat) (hn0 : n0 < 5) (hn1 : n1 < 5) (hn2 : n2 < 5) (hn3 : n3 < 5) (hn4 : n4 < 5) (e0 : S 5 1 = (n0 : Int)) (e1 : S 5 2 = (n1 : Int)) (e2 : S 5 3 = (n2 : Int)) (e3 : S 5 4 = (n3 : Int)) (e4 : S 5 5 = (n4 : Int)) (h04 : n0 ≠ n4) (hst : 0 ≤ S 5 0 ∧ S 5 0 ≤ 4) (hI : Inv (S n0)) (bb_v : -2147483648 ≤ v ∧ v < 2147483648) : Ct l0 D0 cI0 cJ0 ad yX7_setTreasuryLimit cX7_setTreasuryLimit 3 (some .int) 4 89 [.ref (ad 5 22), .int (i32 v)] S (some (.int (i32 (rv_setTreasuryLimit (S n0) v)))) (fun X => X = if ok_setTreasuryLimit v then us (us (us S n4 (S n0)) 5 (kp5 (S 5) n1 n2 n3 n4)) n0 (nx_setTreasuryLimit (S n0) v) else S) := by
  refine Ct.of (by decide) (Nat.le_of_ble_eq_true rfl) (fun E hE hR => ?_)
  have hE : zG E l0 D0 cI0 cJ0 ad cX7_setTreasuryLimit 3 RX7 4 89 := hE
  show Z E S 0 [(0, .ref (ad 5 22)), (1, .int (i32 v))] []
  have hI0 := hI.1
  have hA := inA hI0
  unfold InvA at hA
  have h05 : n0 ≠ 5 := by omega
  have h50 : 5 ≠ n0 := by omega
  have h45 : n4 ≠ 5 := by omega
  have h54 : 5 ≠ n4 := by omega
  have h40 : n4 ≠ n0 := fun q => h04 q.symm
  refine z_iload_n hE 1 rfl rfl dX7_setTreasuryLimit_0 ?_
  refine z_iconst hE dX7_setTreasuryLimit_1 ?_
  refine z_sipush (a := 1000) hE (by decide) dX7_setTreasuryLimit_2 ?_
  refine z_callS hE (c_X7_isWithin l0 D0 cI0 cJ0 ad S v 0 1000 (⟨by omega, by omega⟩) (⟨by omega, by omega⟩) (⟨by omega, by omega⟩)) zm_X7_56 zt_yX7_isWithin zn_RX7 zc_yX7_isWithin (hy_X7_isWithin) (Nat.le_of_ble_eq_true rfl) (Nat.le_of_ble_eq_true rfl) rfl rfl rfl (Nat.le_of_ble_eq_true rfl) dX7_setTreasuryLimit_5 ?_
  refine z_ifb_ne (tgt := 14) hE dX7_setTreasuryLimit_8 (by decide) (fun c1 => ?_) (fun c1 => ?_)
  · refine z_aload_n hE 0 rfl rfl dX7_setTreasuryLimit_14 ?_
    refine z_callV hE (c_X7_keepState l0 D0 cI0 cJ0 ad S n0 n1 n2 n3 n4 hn0 hn1 hn2 hn3 hn4 e0 e1 e2 e3 e4 h04 hst) (by decide) rfl rfl zm_X7_49 zi_yX7_keepState zs_yX7_keepState zn_RX7 zc_yX7_keepState (hy_X7_keepState) (Nat.le_of_ble_eq_true rfl) (Nat.le_of_ble_eq_true rfl) rfl rfl rfl (Nat.le_of_ble_eq_true rfl) dX7_setTreasuryLimit_15 ?_
    try simp only [us_eq, us_us, us_ne h05, us_ne h50, us_ne h45, us_ne h54, us_ne h40, us_ne h04, us_in h45, us_in h54, us_in h05, us_in h50]
    refine z_aload_n hE 0 rfl rfl dX7_setTreasuryLimit_18 ?_
    refine gf_7_0 hE (by decide) zf_X7_10 dX7_setTreasuryLimit_19 ?_
    try simp only [us_eq, us_us, us_ne h05, us_ne h50, us_ne h45, us_ne h54, us_ne h40, us_ne h04, us_in h45, us_in h54, us_in h05, us_in h50]
    rw [kp5_1]
    rw [show (S 5 1).toNat = n0 by omega]
    refine gf_4_1 hE (ks_m hn0 (by decide)) zf_X7_86 dX7_setTreasuryLimit_22 ?_
    refine gf_5_1 hE (ks_m hn0 (by decide)) zf_X7_95 dX7_setTreasuryLimit_25 ?_
    try simp only [us_eq, us_us, us_ne h05, us_ne h50, us_ne h45, us_ne h54, us_ne h40, us_ne h04, us_in h45, us_in h54, us_in h05, us_in h50]
    refine z_istore_n hE rfl (by decide) rfl dX7_setTreasuryLimit_28 ?_
    refine z_aload_n hE 1 rfl rfl dX7_setTreasuryLimit_29 ?_
    refine gf_7_0 hE (by decide) zf_X7_10 dX7_setTreasuryLimit_30 ?_
    try simp only [us_eq, us_us, us_ne h05, us_ne h50, us_ne h45, us_ne h54, us_ne h40, us_ne h04, us_in h45, us_in h54, us_in h05, us_in h50]
    rw [kp5_1]
    rw [show (S 5 1).toNat = n0 by omega]
    refine gf_4_1 hE (ks_m hn0 (by decide)) zf_X7_86 dX7_setTreasuryLimit_33 ?_
    refine z_iload_n hE 2 rfl rfl dX7_setTreasuryLimit_36 ?_
    refine pf_5_1 hE (ks_m hn0 (by decide)) zf_X7_95 dX7_setTreasuryLimit_37 ?_
    try simp only [us_eq, us_us, us_ne h05, us_ne h50, us_ne h45, us_ne h54, us_ne h40, us_ne h04, us_in h45, us_in h54, us_in h05, us_in h50]
    refine z_iload_n hE 0 rfl rfl dX7_setTreasuryLimit_40 ?_
    exact z_iret hE hR dX7_setTreasuryLimit_41 (congrArg (fun x => some (Value.int (i32 x))) (by unfold rv_setTreasuryLimit; first | ((rw [if_neg (by omega)]) <;> first | rfl | omega) | ((rw [if_pos (by omega)]) <;> first | rfl | omega))) (by first | ((rw [if_pos (by omega)]) <;> (rfl)) | (rw [if_neg (by omega)]))
  · refine z_ldc (a := -2000000001) hE zk_X7_60 (by decide) dX7_setTreasuryLimit_11 ?_
    exact z_iret hE hR dX7_setTreasuryLimit_13 (congrArg (fun x => some (Value.int (i32 x))) (by unfold rv_setTreasuryLimit; first | ((rw [if_neg (by omega)]) <;> first | rfl | omega) | ((rw [if_pos (by omega)]) <;> first | rfl | omega))) (by first | ((rw [if_pos (by omega)]) <;> (rfl)) | (rw [if_neg (by omega)]))
theorem dX7_setBooks_0 : decode cX7_setBooks 0 = .ok (.iload_n 1, 1) := by decide +kernel
theorem dX7_setBooks_1 : decode cX7_setBooks 1 = .ok (.iconst 0, 1) := by decide +kernel
theorem dX7_setBooks_2 : decode cX7_setBooks 2 = .ok (.ldc 113, 2) := by decide +kernel
theorem dX7_setBooks_4 : decode cX7_setBooks 4 = .ok (.invokestatic 56, 3) := by decide +kernel
theorem dX7_setBooks_7 : decode cX7_setBooks 7 = .ok (.ifCond .eq 13, 3) := by decide +kernel
theorem dX7_setBooks_10 : decode cX7_setBooks 10 = .ok (.iload_n 2, 1) := by decide +kernel
theorem dX7_setBooks_11 : decode cX7_setBooks 11 = .ok (.iconst 0, 1) := by decide +kernel
theorem dX7_setBooks_12 : decode cX7_setBooks 12 = .ok (.ldc 113, 2) := by decide +kernel
theorem dX7_setBooks_14 : decode cX7_setBooks 14 = .ok (.invokestatic 56, 3) := by decide +kernel
theorem dX7_setBooks_17 : decode cX7_setBooks 17 = .ok (.ifCond .ne 6, 3) := by decide +kernel
theorem dX7_setBooks_20 : decode cX7_setBooks 20 = .ok (.ldc 60, 2) := by decide +kernel
theorem dX7_setBooks_22 : decode cX7_setBooks 22 = .ok (.ireturn, 1) := by decide +kernel
theorem dX7_setBooks_23 : decode cX7_setBooks 23 = .ok (.aload_n 0, 1) := by decide +kernel
theorem dX7_setBooks_24 : decode cX7_setBooks 24 = .ok (.invokevirtual 49, 3) := by decide +kernel
theorem dX7_setBooks_27 : decode cX7_setBooks 27 = .ok (.aload_n 0, 1) := by decide +kernel
theorem dX7_setBooks_28 : decode cX7_setBooks 28 = .ok (.getfield 10, 3) := by decide +kernel
theorem dX7_setBooks_31 : decode cX7_setBooks 31 = .ok (.getfield 73, 3) := by decide +kernel
theorem dX7_setBooks_34 : decode cX7_setBooks 34 = .ok (.getfield 114, 3) := by decide +kernel
theorem dX7_setBooks_37 : decode cX7_setBooks 37 = .ok (.aload_n 0, 1) := by decide +kernel
theorem dX7_setBooks_38 : decode cX7_setBooks 38 = .ok (.getfield 10, 3) := by decide +kernel
theorem dX7_setBooks_41 : decode cX7_setBooks 41 = .ok (.getfield 73, 3) := by decide +kernel
theorem dX7_setBooks_44 : decode cX7_setBooks 44 = .ok (.getfield 117, 3) := by decide +kernel
theorem dX7_setBooks_47 : decode cX7_setBooks 47 = .ok (.isub, 1) := by decide +kernel
theorem dX7_setBooks_48 : decode cX7_setBooks 48 = .ok (.istore_n 3, 1) := by decide +kernel
theorem dX7_setBooks_49 : decode cX7_setBooks 49 = .ok (.aload_n 0, 1) := by decide +kernel
theorem dX7_setBooks_50 : decode cX7_setBooks 50 = .ok (.getfield 10, 3) := by decide +kernel
theorem dX7_setBooks_53 : decode cX7_setBooks 53 = .ok (.getfield 73, 3) := by decide +kernel
theorem dX7_setBooks_56 : decode cX7_setBooks 56 = .ok (.iload_n 1, 1) := by decide +kernel
theorem dX7_setBooks_57 : decode cX7_setBooks 57 = .ok (.putfield 114, 3) := by decide +kernel
theorem dX7_setBooks_60 : decode cX7_setBooks 60 = .ok (.aload_n 0, 1) := by decide +kernel
theorem dX7_setBooks_61 : decode cX7_setBooks 61 = .ok (.getfield 10, 3) := by decide +kernel
theorem dX7_setBooks_64 : decode cX7_setBooks 64 = .ok (.getfield 73, 3) := by decide +kernel
theorem dX7_setBooks_67 : decode cX7_setBooks 67 = .ok (.iload_n 2, 1) := by decide +kernel
theorem dX7_setBooks_68 : decode cX7_setBooks 68 = .ok (.putfield 117, 3) := by decide +kernel
theorem dX7_setBooks_71 : decode cX7_setBooks 71 = .ok (.iload_n 3, 1) := by decide +kernel
theorem dX7_setBooks_72 : decode cX7_setBooks 72 = .ok (.ireturn, 1) := by decide +kernel
theorem hy_X7_setBooks : yX7_setBooks.cls ≠ "java/lang/invoke/MethodHandle" ∧ yX7_setBooks.cls ≠ "java/lang/invoke/VarHandle" ∧ (parseMethodDescriptor yX7_setBooks.desc).map (fun d => d.parameters.length) = some 2 := ⟨by decide +kernel, by decide +kernel, by decide +kernel⟩
set_option maxHeartbeats 4000000 in
set_option maxRecDepth 100000 in
theorem c_X7_setBooks (l0 : Launch) (D0 : va_G) (cI0 cJ0 : ClassId) (ad : Nat → Nat → Nat) (S : zM) (a : Int) (bb : Int) (n0 : Nat) (n1 : Nat) (n2 : Nat) (n3 : Nat) (n4 : Nat) (hn0 : n0 < 5) (hn1 : n1 < 5) (hn2 : n2 < 5) (hn3 : n3 < 5) (hn4 : n4 < 5) (e0 : S 5 1 = (n0 : Int)) (e1 : S 5 2 = (n1 : Int)) (e2 : S 5 3 = (n2 : Int)) (e3 : S 5 4 = (n3 : Int)) (e4 : S 5 5 = (n4 : Int)) (h04 : n0 ≠ n4) (hst : 0 ≤ S 5 0 ∧ S 5 0 ≤ 4) (hI : Inv (S n0)) (bb_a : -2147483648 ≤ a ∧ a < 2147483648) (bb_bb : -2147483648 ≤ bb ∧ bb < 2147483648) : Ct l0 D0 cI0 cJ0 ad yX7_setBooks cX7_setBooks 4 (some .int) 4 89 [.ref (ad 5 22), .int (i32 a), .int (i32 bb)] S (some (.int (i32 (rv_setBooks (S n0) a bb)))) (fun X => X = if ok_setBooks a bb then us (us (us S n4 (S n0)) 5 (kp5 (S 5) n1 n2 n3 n4)) n0 (nx_setBooks (S n0) a bb) else S) := by
  refine Ct.of (by decide) (Nat.le_of_ble_eq_true rfl) (fun E hE hR => ?_)
  have hE : zG E l0 D0 cI0 cJ0 ad cX7_setBooks 4 RX7 4 89 := hE
  show Z E S 0 [(0, .ref (ad 5 22)), (1, .int (i32 a)), (2, .int (i32 bb))] []
  have hI0 := hI.1
  have hA := inA hI0
  unfold InvA at hA
  have h05 : n0 ≠ 5 := by omega
  have h50 : 5 ≠ n0 := by omega
  have h45 : n4 ≠ 5 := by omega
  have h54 : 5 ≠ n4 := by omega
  have h40 : n4 ≠ n0 := fun q => h04 q.symm
  refine z_iload_n hE 1 rfl rfl dX7_setBooks_0 ?_
  refine z_iconst hE dX7_setBooks_1 ?_
  refine z_ldc (a := 100000000) hE zk_X7_113 (by decide) dX7_setBooks_2 ?_
  refine z_callS hE (c_X7_isWithin l0 D0 cI0 cJ0 ad S a 0 100000000 (⟨by omega, by omega⟩) (⟨by omega, by omega⟩) (⟨by omega, by omega⟩)) zm_X7_56 zt_yX7_isWithin zn_RX7 zc_yX7_isWithin (hy_X7_isWithin) (Nat.le_of_ble_eq_true rfl) (Nat.le_of_ble_eq_true rfl) rfl rfl rfl (Nat.le_of_ble_eq_true rfl) dX7_setBooks_4 ?_
  refine z_ifb_eq (tgt := 20) hE dX7_setBooks_7 (by decide) (fun c1 => ?_) (fun c1 => ?_)
  · refine z_ldc (a := -2000000001) hE zk_X7_60 (by decide) dX7_setBooks_20 ?_
    exact z_iret hE hR dX7_setBooks_22 (congrArg (fun x => some (Value.int (i32 x))) (by unfold rv_setBooks; first | ((rw [if_neg (by omega)]) <;> first | rfl | omega) | ((rw [if_pos (by omega)]) <;> first | rfl | omega))) (by first | ((rw [if_pos (by omega)]) <;> (rfl)) | (rw [if_neg (by omega)]))
  · refine z_iload_n hE 2 rfl rfl dX7_setBooks_10 ?_
    refine z_iconst hE dX7_setBooks_11 ?_
    refine z_ldc (a := 100000000) hE zk_X7_113 (by decide) dX7_setBooks_12 ?_
    refine z_callS hE (c_X7_isWithin l0 D0 cI0 cJ0 ad S bb 0 100000000 (⟨by omega, by omega⟩) (⟨by omega, by omega⟩) (⟨by omega, by omega⟩)) zm_X7_56 zt_yX7_isWithin zn_RX7 zc_yX7_isWithin (hy_X7_isWithin) (Nat.le_of_ble_eq_true rfl) (Nat.le_of_ble_eq_true rfl) rfl rfl rfl (Nat.le_of_ble_eq_true rfl) dX7_setBooks_14 ?_
    refine z_ifb_ne (tgt := 23) hE dX7_setBooks_17 (by decide) (fun c2 => ?_) (fun c2 => ?_)
    · refine z_aload_n hE 0 rfl rfl dX7_setBooks_23 ?_
      refine z_callV hE (c_X7_keepState l0 D0 cI0 cJ0 ad S n0 n1 n2 n3 n4 hn0 hn1 hn2 hn3 hn4 e0 e1 e2 e3 e4 h04 hst) (by decide) rfl rfl zm_X7_49 zi_yX7_keepState zs_yX7_keepState zn_RX7 zc_yX7_keepState (hy_X7_keepState) (Nat.le_of_ble_eq_true rfl) (Nat.le_of_ble_eq_true rfl) rfl rfl rfl (Nat.le_of_ble_eq_true rfl) dX7_setBooks_24 ?_
      try simp only [us_eq, us_us, us_ne h05, us_ne h50, us_ne h45, us_ne h54, us_ne h40, us_ne h04, us_in h45, us_in h54, us_in h05, us_in h50]
      refine z_aload_n hE 0 rfl rfl dX7_setBooks_27 ?_
      refine gf_7_0 hE (by decide) zf_X7_10 dX7_setBooks_28 ?_
      try simp only [us_eq, us_us, us_ne h05, us_ne h50, us_ne h45, us_ne h54, us_ne h40, us_ne h04, us_in h45, us_in h54, us_in h05, us_in h50]
      rw [kp5_1]
      rw [show (S 5 1).toNat = n0 by omega]
      refine gf_4_2 hE (ks_m hn0 (by decide)) zf_X7_73 dX7_setBooks_31 ?_
      refine gf_0_0 hE (ks_m hn0 (by decide)) zf_X7_114 dX7_setBooks_34 ?_
      try simp only [us_eq, us_us, us_ne h05, us_ne h50, us_ne h45, us_ne h54, us_ne h40, us_ne h04, us_in h45, us_in h54, us_in h05, us_in h50]
      refine z_aload_n hE 0 rfl rfl dX7_setBooks_37 ?_
      refine gf_7_0 hE (by decide) zf_X7_10 dX7_setBooks_38 ?_
      try simp only [us_eq, us_us, us_ne h05, us_ne h50, us_ne h45, us_ne h54, us_ne h40, us_ne h04, us_in h45, us_in h54, us_in h05, us_in h50]
      rw [kp5_1]
      rw [show (S 5 1).toNat = n0 by omega]
      refine gf_4_2 hE (ks_m hn0 (by decide)) zf_X7_73 dX7_setBooks_41 ?_
      refine gf_0_1 hE (ks_m hn0 (by decide)) zf_X7_117 dX7_setBooks_44 ?_
      try simp only [us_eq, us_us, us_ne h05, us_ne h50, us_ne h45, us_ne h54, us_ne h40, us_ne h04, us_in h45, us_in h54, us_in h05, us_in h50]
      refine z_isub hE dX7_setBooks_47 ?_
      refine z_istore_n hE rfl (by decide) rfl dX7_setBooks_48 ?_
      refine z_aload_n hE 1 rfl rfl dX7_setBooks_49 ?_
      refine gf_7_0 hE (by decide) zf_X7_10 dX7_setBooks_50 ?_
      try simp only [us_eq, us_us, us_ne h05, us_ne h50, us_ne h45, us_ne h54, us_ne h40, us_ne h04, us_in h45, us_in h54, us_in h05, us_in h50]
      rw [kp5_1]
      rw [show (S 5 1).toNat = n0 by omega]
      refine gf_4_2 hE (ks_m hn0 (by decide)) zf_X7_73 dX7_setBooks_53 ?_
      refine z_iload_n hE 2 rfl rfl dX7_setBooks_56 ?_
      refine pf_0_0 hE (ks_m hn0 (by decide)) zf_X7_114 dX7_setBooks_57 ?_
      try simp only [us_eq, us_us, us_ne h05, us_ne h50, us_ne h45, us_ne h54, us_ne h40, us_ne h04, us_in h45, us_in h54, us_in h05, us_in h50]
      refine z_aload_n hE 1 rfl rfl dX7_setBooks_60 ?_
      refine gf_7_0 hE (by decide) zf_X7_10 dX7_setBooks_61 ?_
      try simp only [us_eq, us_us, us_ne h05, us_ne h50, us_ne h45, us_ne h54, us_ne h40, us_ne h04, us_in h45, us_in h54, us_in h05, us_in h50]
      rw [kp5_1]
      rw [show (S 5 1).toNat = n0 by omega]
      refine gf_4_2 hE (ks_m hn0 (by decide)) zf_X7_73 dX7_setBooks_64 ?_
      refine z_iload_n hE 3 rfl rfl dX7_setBooks_67 ?_
      refine pf_0_1 hE (ks_m hn0 (by decide)) zf_X7_117 dX7_setBooks_68 ?_
      try simp only [us_eq, us_us, us_ne h05, us_ne h50, us_ne h45, us_ne h54, us_ne h40, us_ne h04, us_in h45, us_in h54, us_in h05, us_in h50]
      refine z_iload_n hE 0 rfl rfl dX7_setBooks_71 ?_
      exact z_iret hE hR dX7_setBooks_72 (congrArg (fun x => some (Value.int (i32 x))) (by unfold rv_setBooks; first | ((rw [if_neg (by omega)]) <;> first | rfl | omega) | ((rw [if_pos (by omega)]) <;> first | rfl | omega))) (by first | ((rw [if_pos (by omega)]) <;> (rfl)) | (rw [if_neg (by omega)]))
    · refine z_ldc (a := -2000000001) hE zk_X7_60 (by decide) dX7_setBooks_20 ?_
      exact z_iret hE hR dX7_setBooks_22 (congrArg (fun x => some (Value.int (i32 x))) (by unfold rv_setBooks; first | ((rw [if_neg (by omega)]) <;> first | rfl | omega) | ((rw [if_pos (by omega)]) <;> first | rfl | omega))) (by first | ((rw [if_pos (by omega)]) <;> (rfl)) | (rw [if_neg (by omega)]))
