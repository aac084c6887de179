theorem dX4_endStage_0 : decode cX4_endStage 0 = .ok (.aload_n 0, 1) := by decide +kernel
theorem dX4_endStage_1 : decode cX4_endStage 1 = .ok (.getfield 35, 3) := by decide +kernel
theorem dX4_endStage_4 : decode cX4_endStage 4 = .ok (.getfield 108, 3) := by decide +kernel
theorem dX4_endStage_7 : decode cX4_endStage 7 = .ok (.iload_n 1, 1) := by decide +kernel
theorem dX4_endStage_8 : decode cX4_endStage 8 = .ok (.iaload, 1) := by decide +kernel
theorem dX4_endStage_9 : decode cX4_endStage 9 = .ok (.istore_n 3, 1) := by decide +kernel
theorem dX4_endStage_10 : decode cX4_endStage 10 = .ok (.iload_n 3, 1) := by decide +kernel
theorem dX4_endStage_11 : decode cX4_endStage 11 = .ok (.iconst 2, 1) := by decide +kernel
theorem dX4_endStage_12 : decode cX4_endStage 12 = .ok (.if_icmp .ne 16, 3) := by decide +kernel
theorem dX4_endStage_15 : decode cX4_endStage 15 = .ok (.aload_n 0, 1) := by decide +kernel
theorem dX4_endStage_16 : decode cX4_endStage 16 = .ok (.iload_n 1, 1) := by decide +kernel
theorem dX4_endStage_17 : decode cX4_endStage 17 = .ok (.invokevirtual 126, 3) := by decide +kernel
theorem dX4_endStage_20 : decode cX4_endStage 20 = .ok (.aload_n 0, 1) := by decide +kernel
theorem dX4_endStage_21 : decode cX4_endStage 21 = .ok (.iload_n 1, 1) := by decide +kernel
theorem dX4_endStage_22 : decode cX4_endStage 22 = .ok (.invokevirtual 130, 3) := by decide +kernel
theorem dX4_endStage_25 : decode cX4_endStage 25 = .ok (.goto 10, 3) := by decide +kernel
theorem dX4_endStage_28 : decode cX4_endStage 28 = .ok (.aload_n 0, 1) := by decide +kernel
theorem dX4_endStage_29 : decode cX4_endStage 29 = .ok (.iload_n 1, 1) := by decide +kernel
theorem dX4_endStage_30 : decode cX4_endStage 30 = .ok (.iload_n 3, 1) := by decide +kernel
theorem dX4_endStage_31 : decode cX4_endStage 31 = .ok (.aload_n 2, 1) := by decide +kernel
theorem dX4_endStage_32 : decode cX4_endStage 32 = .ok (.invokevirtual 133, 3) := by decide +kernel
theorem dX4_endStage_35 : decode cX4_endStage 35 = .ok (.iload_n 3, 1) := by decide +kernel
theorem dX4_endStage_36 : decode cX4_endStage 36 = .ok (.iconst 2, 1) := by decide +kernel
theorem dX4_endStage_37 : decode cX4_endStage 37 = .ok (.if_icmp .eq 15, 3) := by decide +kernel
theorem dX4_endStage_40 : decode cX4_endStage 40 = .ok (.aload_n 0, 1) := by decide +kernel
theorem dX4_endStage_41 : decode cX4_endStage 41 = .ok (.getfield 35, 3) := by decide +kernel
theorem dX4_endStage_44 : decode cX4_endStage 44 = .ok (.getfield 137, 3) := by decide +kernel
theorem dX4_endStage_47 : decode cX4_endStage 47 = .ok (.iload_n 1, 1) := by decide +kernel
theorem dX4_endStage_48 : decode cX4_endStage 48 = .ok (.iaload, 1) := by decide +kernel
theorem dX4_endStage_49 : decode cX4_endStage 49 = .ok (.ifCond .gt 14, 3) := by decide +kernel
theorem dX4_endStage_52 : decode cX4_endStage 52 = .ok (.aload_n 0, 1) := by decide +kernel
theorem dX4_endStage_53 : decode cX4_endStage 53 = .ok (.getfield 35, 3) := by decide +kernel
theorem dX4_endStage_56 : decode cX4_endStage 56 = .ok (.iload_n 1, 1) := by decide +kernel
theorem dX4_endStage_57 : decode cX4_endStage 57 = .ok (.invokevirtual 140, 3) := by decide +kernel
theorem dX4_endStage_60 : decode cX4_endStage 60 = .ok (.goto 21, 3) := by decide +kernel
theorem dX4_endStage_63 : decode cX4_endStage 63 = .ok (.aload_n 0, 1) := by decide +kernel
theorem dX4_endStage_64 : decode cX4_endStage 64 = .ok (.getfield 35, 3) := by decide +kernel
theorem dX4_endStage_67 : decode cX4_endStage 67 = .ok (.iload_n 1, 1) := by decide +kernel
theorem dX4_endStage_68 : decode cX4_endStage 68 = .ok (.iload_n 3, 1) := by decide +kernel
theorem dX4_endStage_69 : decode cX4_endStage 69 = .ok (.iconst 1, 1) := by decide +kernel
theorem dX4_endStage_70 : decode cX4_endStage 70 = .ok (.iadd, 1) := by decide +kernel
theorem dX4_endStage_71 : decode cX4_endStage 71 = .ok (.aload_n 0, 1) := by decide +kernel
theorem dX4_endStage_72 : decode cX4_endStage 72 = .ok (.getfield 21, 3) := by decide +kernel
theorem dX4_endStage_75 : decode cX4_endStage 75 = .ok (.getfield 143, 3) := by decide +kernel
theorem dX4_endStage_78 : decode cX4_endStage 78 = .ok (.invokevirtual 146, 3) := by decide +kernel
theorem dX4_endStage_81 : decode cX4_endStage 81 = .ok (.return_, 1) := by decide +kernel
theorem hy_X4_endStage : yX4_endStage.cls ≠ "java/lang/invoke/MethodHandle" ∧ yX4_endStage.cls ≠ "java/lang/invoke/VarHandle" ∧ (parseMethodDescriptor yX4_endStage.desc).map (fun d => d.parameters.length) = some 2 := ⟨by decide +kernel, by decide +kernel, by decide +kernel⟩
set_option maxHeartbeats 4000000 in
set_option maxRecDepth 100000 in
theorem c_X4_endStage (l0 : Launch) (D0 : va_G) (cI0 cJ0 : ClassId) (ad : Nat → Nat → Nat) (S : zM) (r : Nat) (hr : r < 5) (o : Int) (hI : Inv0 (S r)) (h1 : 0 ≤ o ∧ o < S r 14) (h2 : S r (59 + 22 * o) ≠ 3) : Ct l0 D0 cI0 cJ0 ad yX4_endStage cX4_endStage 4 none 4 97 [.ref (ad r 0), .int (i32 o), .ref (ad 5 23)] S none (fun X => ∃ g : Int → Int, X = us (us S 5 g) r (sp_end (S r) o) ∧ ∀ q : Int, q < 100 → g q = S 5 q) := by
  refine Ct.of (by decide) (Nat.le_of_ble_eq_true rfl) (fun E hE hR => ?_)
  have hE : zG E l0 D0 cI0 cJ0 ad cX4_endStage 4 RX4 4 97 := hE
  show Z E S 0 [(0, .ref (ad r 0)), (1, .int (i32 o)), (2, .ref (ad 5 23))] []
  have hA := inA hI
  unfold InvA at hA
  have ho := inO hI o h1.1 h1.2
  have h5 : r ≠ 5 := by omega
  have h5b : 5 ≠ r := by omega
  have hmi := inv_mid hI h1.1 h1.2 h2
  have m14 := mid_keep hI (q := 14) h1.1 h1.2 h2 (by omega) (by omega) (by omega) (by omega)
  have m13 := mid_keep hI (q := 13) h1.1 h1.2 h2 (by omega) (by omega) (by omega) (by omega)
  have hmo := inO hmi o h1.1 (by omega)
  refine z_aload_n hE 0 rfl rfl dX4_endStage_0 ?_
  refine gf_4_3 hE (ks_m hr (by decide)) zf_X4_35 dX4_endStage_1 ?_
  refine gf_3_5 hE (ks_m hr (by decide)) zf_X4_108 dX4_endStage_4 ?_
  refine z_iload_n hE 1 rfl rfl dX4_endStage_7 ?_
  refine al_13 hE (ks_m hr (by decide)) (by omega) (by omega) dX4_endStage_8 ?_
  refine z_istore_n hE rfl (by decide) rfl dX4_endStage_9 ?_
  refine z_iload_n hE 0 rfl rfl dX4_endStage_10 ?_
  refine z_iconst hE dX4_endStage_11 ?_
  refine z_icmp_ne (tgt := 28) hE dX4_endStage_12 (by decide) ⟨by omega, by omega⟩ ⟨by omega, by omega⟩ (fun c1 => ?_) (fun c1 => ?_)
  · refine z_aload_n hE 1 rfl rfl dX4_endStage_28 ?_
    refine z_iload_n hE 2 rfl rfl dX4_endStage_29 ?_
    refine z_iload_n hE 0 rfl rfl dX4_endStage_30 ?_
    refine z_aload_n hE 3 rfl rfl dX4_endStage_31 ?_
    refine z_callVp hE (c_X4_sellToClaimants l0 D0 cI0 cJ0 ad S r hr o (S r (59 + 22 * o)) hI (by omega) (⟨by omega, by omega⟩)) (ks_m hr (by decide)) rfl rfl zm_X4_133 zi_yX4_sellToClaimants zs_yX4_sellToClaimants zn_RX4 zc_yX4_sellToClaimants (hy_X4_sellToClaimants) (Nat.le_of_ble_eq_true rfl) (Nat.le_of_ble_eq_true rfl) rfl rfl rfl (Nat.le_of_ble_eq_true rfl) dX4_endStage_32 (fun M32 hM32 => ?_)
    obtain ⟨g3, rfl, hg4⟩ := hM32
    try simp only [us_eq] at hg4
    have em : sp_clm (S r) o (S r (59 + 22 * o)) = sp_mid (S r) o := by unfold sp_mid; rw [if_neg (by omega)]
    rw [em]
    refine z_iload_n hE 0 rfl rfl dX4_endStage_35 ?_
    refine z_iconst hE dX4_endStage_36 ?_
    refine z_icmp_eq (tgt := 52) hE dX4_endStage_37 (by decide) ⟨by omega, by omega⟩ ⟨by omega, by omega⟩ (fun c2 => ?_) (fun c2 => ?_)
    · refine z_aload_n hE 1 rfl rfl dX4_endStage_52 ?_
      refine gf_4_3 hE (ks_m hr (by decide)) zf_X4_35 dX4_endStage_53 ?_
      refine z_iload_n hE 2 rfl rfl dX4_endStage_56 ?_
      refine z_callV hE (c_X3_close l0 D0 cI0 cJ0 ad (us (us S 5 g3) r (sp_mid (S r) o)) r hr o (by first | omega | (simp only [us_eq, us_ne h5, us_ne h5b]; omega))) (ks_m hr (by decide)) rfl rfl zm_X4_140 zi_yX3_close zs_yX3_close zn_RX3 zc_yX3_close (hy_X3_close) (Nat.le_of_ble_eq_true rfl) (Nat.le_of_ble_eq_true rfl) rfl rfl rfl (Nat.le_of_ble_eq_true rfl) dX4_endStage_57 ?_
      try simp only [us_eq, us_us, us_ne h5, us_ne h5b, us_in h5b]
      refine z_goto (tgt := 81) hE (d := dX4_endStage_60) (ht := by decide) ?_
      exact z_vret hE hR dX4_endStage_81 rfl (by first | (exfalso; omega) | (refine ⟨g3, ?_, hg4⟩; unfold sp_end; first | rw [if_pos (by omega)] | rw [if_neg (by omega)]) | (refine ⟨S 5, ?_, fun q h => rfl⟩; rw [us_id]; unfold sp_end; rw [if_pos (by omega)]))
    · refine z_aload_n hE 1 rfl rfl dX4_endStage_40 ?_
      refine gf_4_3 hE (ks_m hr (by decide)) zf_X4_35 dX4_endStage_41 ?_
      refine gf_3_4 hE (ks_m hr (by decide)) zf_X4_137 dX4_endStage_44 ?_
      refine z_iload_n hE 2 rfl rfl dX4_endStage_47 ?_
      refine al_12 hE (ks_m hr (by decide)) (by omega) (by omega) dX4_endStage_48 ?_
      try simp only [us_eq, us_us, us_ne h5, us_ne h5b, us_in h5b]
      refine z_if_gt (tgt := 63) hE dX4_endStage_49 (by decide) ⟨by omega, by omega⟩ (fun c3 => ?_) (fun c3 => ?_)
      · refine z_aload_n hE 1 rfl rfl dX4_endStage_63 ?_
        refine gf_4_3 hE (ks_m hr (by decide)) zf_X4_35 dX4_endStage_64 ?_
        refine z_iload_n hE 2 rfl rfl dX4_endStage_67 ?_
        refine z_iload_n hE 0 rfl rfl dX4_endStage_68 ?_
        refine z_iconst hE dX4_endStage_69 ?_
        refine z_iadd hE dX4_endStage_70 ?_
        refine z_aload_n hE 1 rfl rfl dX4_endStage_71 ?_
        refine gf_4_1 hE (ks_m hr (by decide)) zf_X4_21 dX4_endStage_72 ?_
        refine gf_5_4 hE (ks_m hr (by decide)) zf_X4_143 dX4_endStage_75 ?_
        try simp only [us_eq, us_us, us_ne h5, us_ne h5b, us_in h5b]
        refine z_callV hE (c_X3_beginStage l0 D0 cI0 cJ0 ad (us (us S 5 g3) r (sp_mid (S r) o)) r hr o ((S r (59 + 22 * o)) + 1) ((sp_mid (S r) o) 13) (by first | omega | (simp only [us_eq, us_ne h5, us_ne h5b]; omega))) (ks_m hr (by decide)) rfl rfl zm_X4_146 zi_yX3_beginStage zs_yX3_beginStage zn_RX3 zc_yX3_beginStage (hy_X3_beginStage) (Nat.le_of_ble_eq_true rfl) (Nat.le_of_ble_eq_true rfl) rfl rfl rfl (Nat.le_of_ble_eq_true rfl) dX4_endStage_78 ?_
        try simp only [us_eq, us_us, us_ne h5, us_ne h5b, us_in h5b]
        exact z_vret hE hR dX4_endStage_81 rfl (by first | (exfalso; omega) | (refine ⟨g3, ?_, hg4⟩; unfold sp_end; first | rw [if_pos (by omega)] | rw [if_neg (by omega)]) | (refine ⟨S 5, ?_, fun q h => rfl⟩; rw [us_id]; unfold sp_end; rw [if_pos (by omega)]))
      · refine z_aload_n hE 1 rfl rfl dX4_endStage_52 ?_
        refine gf_4_3 hE (ks_m hr (by decide)) zf_X4_35 dX4_endStage_53 ?_
        refine z_iload_n hE 2 rfl rfl dX4_endStage_56 ?_
        refine z_callV hE (c_X3_close l0 D0 cI0 cJ0 ad (us (us S 5 g3) r (sp_mid (S r) o)) r hr o (by first | omega | (simp only [us_eq, us_ne h5, us_ne h5b]; omega))) (ks_m hr (by decide)) rfl rfl zm_X4_140 zi_yX3_close zs_yX3_close zn_RX3 zc_yX3_close (hy_X3_close) (Nat.le_of_ble_eq_true rfl) (Nat.le_of_ble_eq_true rfl) rfl rfl rfl (Nat.le_of_ble_eq_true rfl) dX4_endStage_57 ?_
        try simp only [us_eq, us_us, us_ne h5, us_ne h5b, us_in h5b]
        refine z_goto (tgt := 81) hE (d := dX4_endStage_60) (ht := by decide) ?_
        exact z_vret hE hR dX4_endStage_81 rfl (by first | (exfalso; omega) | (refine ⟨g3, ?_, hg4⟩; unfold sp_end; first | rw [if_pos (by omega)] | rw [if_neg (by omega)]) | (refine ⟨S 5, ?_, fun q h => rfl⟩; rw [us_id]; unfold sp_end; rw [if_pos (by omega)]))
  · refine z_aload_n hE 1 rfl rfl dX4_endStage_15 ?_
    refine z_iload_n hE 2 rfl rfl dX4_endStage_16 ?_
    have hti := inv_tre hI h1.1 h1.2 h2
    have t14 : sp_tre (S r) o 14 = S r 14 := tre_keep ⟨by omega, by omega⟩ h1.1 (by omega) (by omega) (by omega) (by omega)
    refine z_callV hE (c_X4_sellToTreasury l0 D0 cI0 cJ0 ad S r hr o hI (by omega)) (ks_m hr (by decide)) rfl rfl zm_X4_126 zi_yX4_sellToTreasury zs_yX4_sellToTreasury zn_RX4 zc_yX4_sellToTreasury (hy_X4_sellToTreasury) (Nat.le_of_ble_eq_true rfl) (Nat.le_of_ble_eq_true rfl) rfl rfl rfl (Nat.le_of_ble_eq_true rfl) dX4_endStage_17 ?_
    refine z_aload_n hE 1 rfl rfl dX4_endStage_20 ?_
    refine z_iload_n hE 2 rfl rfl dX4_endStage_21 ?_
    refine z_callV hE (c_X4_sellToBuyer l0 D0 cI0 cJ0 ad (us S r (sp_tre ((S r)) o)) r hr o (by rw [us_eq]; exact hti) (by rw [us_eq, t14]; exact h1)) (ks_m hr (by decide)) rfl rfl zm_X4_130 zi_yX4_sellToBuyer zs_yX4_sellToBuyer zn_RX4 zc_yX4_sellToBuyer (hy_X4_sellToBuyer) (Nat.le_of_ble_eq_true rfl) (Nat.le_of_ble_eq_true rfl) rfl rfl rfl (Nat.le_of_ble_eq_true rfl) dX4_endStage_22 ?_
    try simp only [us_eq, us_us, us_ne h5, us_ne h5b, us_in h5b]
    have em : sp_toB (sp_tre (S r) o) o = sp_mid (S r) o := by unfold sp_mid; rw [if_pos (by omega)]
    rw [em]
    refine z_goto (tgt := 35) hE (d := dX4_endStage_25) (ht := by decide) ?_
    refine z_iload_n hE 0 rfl rfl dX4_endStage_35 ?_
    refine z_iconst hE dX4_endStage_36 ?_
    refine z_icmp_eq (tgt := 52) hE dX4_endStage_37 (by decide) ⟨by omega, by omega⟩ ⟨by omega, by omega⟩ (fun c4 => ?_) (fun c4 => ?_)
    · refine z_aload_n hE 1 rfl rfl dX4_endStage_52 ?_
      refine gf_4_3 hE (ks_m hr (by decide)) zf_X4_35 dX4_endStage_53 ?_
      refine z_iload_n hE 2 rfl rfl dX4_endStage_56 ?_
      refine z_callV hE (c_X3_close l0 D0 cI0 cJ0 ad (us S r (sp_mid (S r) o)) r hr o (by first | omega | (simp only [us_eq, us_ne h5, us_ne h5b]; omega))) (ks_m hr (by decide)) rfl rfl zm_X4_140 zi_yX3_close zs_yX3_close zn_RX3 zc_yX3_close (hy_X3_close) (Nat.le_of_ble_eq_true rfl) (Nat.le_of_ble_eq_true rfl) rfl rfl rfl (Nat.le_of_ble_eq_true rfl) dX4_endStage_57 ?_
      try simp only [us_eq, us_us, us_ne h5, us_ne h5b, us_in h5b]
      refine z_goto (tgt := 81) hE (d := dX4_endStage_60) (ht := by decide) ?_
      exact z_vret hE hR dX4_endStage_81 rfl (by first | (exfalso; omega) | (refine ⟨g3, ?_, hg4⟩; unfold sp_end; first | rw [if_pos (by omega)] | rw [if_neg (by omega)]) | (refine ⟨S 5, ?_, fun q h => rfl⟩; rw [us_id]; unfold sp_end; rw [if_pos (by omega)]))
    · refine z_aload_n hE 1 rfl rfl dX4_endStage_40 ?_
      refine gf_4_3 hE (ks_m hr (by decide)) zf_X4_35 dX4_endStage_41 ?_
      refine gf_3_4 hE (ks_m hr (by decide)) zf_X4_137 dX4_endStage_44 ?_
      refine z_iload_n hE 2 rfl rfl dX4_endStage_47 ?_
      refine al_12 hE (ks_m hr (by decide)) (by omega) (by omega) dX4_endStage_48 ?_
      try simp only [us_eq, us_us, us_ne h5, us_ne h5b, us_in h5b]
      refine z_if_gt (tgt := 63) hE dX4_endStage_49 (by decide) ⟨by omega, by omega⟩ (fun c5 => ?_) (fun c5 => ?_)
      · refine z_aload_n hE 1 rfl rfl dX4_endStage_63 ?_
        refine gf_4_3 hE (ks_m hr (by decide)) zf_X4_35 dX4_endStage_64 ?_
        refine z_iload_n hE 2 rfl rfl dX4_endStage_67 ?_
        refine z_iload_n hE 0 rfl rfl dX4_endStage_68 ?_
        refine z_iconst hE dX4_endStage_69 ?_
        refine z_iadd hE dX4_endStage_70 ?_
        refine z_aload_n hE 1 rfl rfl dX4_endStage_71 ?_
        refine gf_4_1 hE (ks_m hr (by decide)) zf_X4_21 dX4_endStage_72 ?_
        refine gf_5_4 hE (ks_m hr (by decide)) zf_X4_143 dX4_endStage_75 ?_
        try simp only [us_eq, us_us, us_ne h5, us_ne h5b, us_in h5b]
        refine z_callV hE (c_X3_beginStage l0 D0 cI0 cJ0 ad (us S r (sp_mid (S r) o)) r hr o ((S r (59 + 22 * o)) + 1) ((sp_mid (S r) o) 13) (by first | omega | (simp only [us_eq, us_ne h5, us_ne h5b]; omega))) (ks_m hr (by decide)) rfl rfl zm_X4_146 zi_yX3_beginStage zs_yX3_beginStage zn_RX3 zc_yX3_beginStage (hy_X3_beginStage) (Nat.le_of_ble_eq_true rfl) (Nat.le_of_ble_eq_true rfl) rfl rfl rfl (Nat.le_of_ble_eq_true rfl) dX4_endStage_78 ?_
        try simp only [us_eq, us_us, us_ne h5, us_ne h5b, us_in h5b]
        exact z_vret hE hR dX4_endStage_81 rfl (by first | (exfalso; omega) | (refine ⟨g3, ?_, hg4⟩; unfold sp_end; first | rw [if_pos (by omega)] | rw [if_neg (by omega)]) | (refine ⟨S 5, ?_, fun q h => rfl⟩; rw [us_id]; unfold sp_end; rw [if_pos (by omega)]))
      · refine z_aload_n hE 1 rfl rfl dX4_endStage_52 ?_
        refine gf_4_3 hE (ks_m hr (by decide)) zf_X4_35 dX4_endStage_53 ?_
        refine z_iload_n hE 2 rfl rfl dX4_endStage_56 ?_
        refine z_callV hE (c_X3_close l0 D0 cI0 cJ0 ad (us S r (sp_mid (S r) o)) r hr o (by first | omega | (simp only [us_eq, us_ne h5, us_ne h5b]; omega))) (ks_m hr (by decide)) rfl rfl zm_X4_140 zi_yX3_close zs_yX3_close zn_RX3 zc_yX3_close (hy_X3_close) (Nat.le_of_ble_eq_true rfl) (Nat.le_of_ble_eq_true rfl) rfl rfl rfl (Nat.le_of_ble_eq_true rfl) dX4_endStage_57 ?_
        try simp only [us_eq, us_us, us_ne h5, us_ne h5b, us_in h5b]
        refine z_goto (tgt := 81) hE (d := dX4_endStage_60) (ht := by decide) ?_
        exact z_vret hE hR dX4_endStage_81 rfl (by first | (exfalso; omega) | (refine ⟨g3, ?_, hg4⟩; unfold sp_end; first | rw [if_pos (by omega)] | rw [if_neg (by omega)]) | (refine ⟨S 5, ?_, fun q h => rfl⟩; rw [us_id]; unfold sp_end; rw [if_pos (by omega)]))
theorem dayS_s {s : Int → Int} {i : Int} (h : 0 ≤ i) : sp_dayS s (i + 1).toNat = sp_off (sp_dayS s i.toNat) i := by
  rw [show (i + 1).toNat = i.toNat + 1 by omega]
  show sp_off _ (i.toNat : Int) = _
  rw [Int.toNat_of_nonneg h]
theorem dayC_s {s : Int → Int} {i : Int} (h : 0 ≤ i) : sp_dayC s (i + 1).toNat = sp_dayC s i.toNat + sp_offC (sp_dayS s i.toNat) i := by
  rw [show (i + 1).toNat = i.toNat + 1 by omega]
  show _ + sp_offC _ (i.toNat : Int) = _
  rw [Int.toNat_of_nonneg h]
theorem end_stage {s : Int → Int} (h : Inv0 s) {o : Int} (h0 : 0 ≤ o) (h1 : o < s 14) (hop : s (59 + 22 * o) ≠ 3) : (sp_end s o (59 + 22 * o) = 3 ↔ sp_shut s o) := by
  have ho := inO h o h0 h1
  unfold sp_end
  by_cases c : sp_shut s o
  · rw [if_pos c]; exact ⟨fun _ => c, fun _ => if_pos rfl⟩
  · rw [if_neg c]
    refine ⟨fun q => ?_, fun q => absurd q c⟩
    have e : sp_begin (sp_mid s o) o (s (59 + 22 * o) + 1) (sp_mid s o 13) (59 + 22 * o) = s (59 + 22 * o) + 1 := if_pos rfl
    rw [e] at q
    exact absurd (Or.inl (by omega)) c
theorem dayC_b {s : Int → Int} : ∀ n : Nat, 0 ≤ sp_dayC s n ∧ sp_dayC s n ≤ n
  | 0 => by unfold sp_dayC; omega
  | n + 1 => by
    have := dayC_b (s := s) n
    have h2 : 0 ≤ sp_offC (sp_dayS s n) n ∧ sp_offC (sp_dayS s n) n ≤ 1 := by unfold sp_offC; split <;> omega
    unfold sp_dayC
    omega
theorem off_A {s : Int → Int} {i : Int} (h : ¬ s (59 + 22 * i) ≠ 3) : sp_off s i = s ∧ sp_offC s i = 0 := by
  constructor
  · unfold sp_off; rw [if_neg h]
  · unfold sp_offC; rw [if_neg (fun q => h q.1.1)]
theorem off_B {s : Int → Int} {i : Int} (h : s (59 + 22 * i) ≠ 3) (h2 : ¬ s (645 + i) - 1 ≤ 0) : sp_off s i = sp_tick s i ∧ sp_offC s i = 0 := by
  constructor
  · unfold sp_off; rw [if_pos h, if_neg h2]
  · unfold sp_offC; rw [if_neg (fun q => h2 q.1.2)]
theorem off_C {s : Int → Int} {i : Int} (hI : Inv0 (sp_tick s i)) (h0 : 0 ≤ i) (h1 : i < sp_tick s i 14) (ht : sp_tick s i (59 + 22 * i) ≠ 3) (h : s (59 + 22 * i) ≠ 3) (h2 : s (645 + i) - 1 ≤ 0) (h3 : sp_end (sp_tick s i) i (59 + 22 * i) ≠ 3) : sp_off s i = sp_end (sp_tick s i) i ∧ sp_offC s i = 0 := by
  constructor
  · unfold sp_off; rw [if_pos h, if_pos h2]
  · unfold sp_offC; rw [if_neg (fun q => h3 ((end_stage hI h0 h1 ht).mpr q.2))]
theorem off_D {s : Int → Int} {i : Int} (hI : Inv0 (sp_tick s i)) (h0 : 0 ≤ i) (h1 : i < sp_tick s i 14) (ht : sp_tick s i (59 + 22 * i) ≠ 3) (h : s (59 + 22 * i) ≠ 3) (h2 : s (645 + i) - 1 ≤ 0) (h3 : ¬ sp_end (sp_tick s i) i (59 + 22 * i) ≠ 3) : sp_off s i = sp_end (sp_tick s i) i ∧ sp_offC s i = 1 := by
  constructor
  · unfold sp_off; rw [if_pos h, if_pos h2]
  · unfold sp_offC; rw [if_pos ⟨⟨h, h2⟩, (end_stage hI h0 h1 ht).mp (Classical.not_not.mp h3)⟩]
theorem dX4_runDay_0 : decode cX4_runDay 0 = .ok (.aload_n 0, 1) := by decide +kernel
theorem dX4_runDay_1 : decode cX4_runDay 1 = .ok (.dup, 1) := by decide +kernel
theorem dX4_runDay_2 : decode cX4_runDay 2 = .ok (.getfield 50, 3) := by decide +kernel
theorem dX4_runDay_5 : decode cX4_runDay 5 = .ok (.iconst 1, 1) := by decide +kernel
theorem dX4_runDay_6 : decode cX4_runDay 6 = .ok (.iadd, 1) := by decide +kernel
theorem dX4_runDay_7 : decode cX4_runDay 7 = .ok (.putfield 50, 3) := by decide +kernel
theorem dX4_runDay_10 : decode cX4_runDay 10 = .ok (.iconst 0, 1) := by decide +kernel
theorem dX4_runDay_11 : decode cX4_runDay 11 = .ok (.istore_n 2, 1) := by decide +kernel
theorem dX4_runDay_12 : decode cX4_runDay 12 = .ok (.iconst 0, 1) := by decide +kernel
theorem dX4_runDay_13 : decode cX4_runDay 13 = .ok (.istore_n 3, 1) := by decide +kernel
theorem dX4_runDay_14 : decode cX4_runDay 14 = .ok (.iload_n 3, 1) := by decide +kernel
theorem dX4_runDay_15 : decode cX4_runDay 15 = .ok (.aload_n 0, 1) := by decide +kernel
theorem dX4_runDay_16 : decode cX4_runDay 16 = .ok (.getfield 35, 3) := by decide +kernel
theorem dX4_runDay_19 : decode cX4_runDay 19 = .ok (.getfield 115, 3) := by decide +kernel
theorem dX4_runDay_22 : decode cX4_runDay 22 = .ok (.if_icmp .ge 56, 3) := by decide +kernel
theorem dX4_runDay_25 : decode cX4_runDay 25 = .ok (.aload_n 0, 1) := by decide +kernel
theorem dX4_runDay_26 : decode cX4_runDay 26 = .ok (.getfield 35, 3) := by decide +kernel
theorem dX4_runDay_29 : decode cX4_runDay 29 = .ok (.iload_n 3, 1) := by decide +kernel
theorem dX4_runDay_30 : decode cX4_runDay 30 = .ok (.invokevirtual 116, 3) := by decide +kernel
theorem dX4_runDay_33 : decode cX4_runDay 33 = .ok (.ifCond .eq 39, 3) := by decide +kernel
theorem dX4_runDay_36 : decode cX4_runDay 36 = .ok (.aload_n 0, 1) := by decide +kernel
theorem dX4_runDay_37 : decode cX4_runDay 37 = .ok (.getfield 35, 3) := by decide +kernel
theorem dX4_runDay_40 : decode cX4_runDay 40 = .ok (.iload_n 3, 1) := by decide +kernel
theorem dX4_runDay_41 : decode cX4_runDay 41 = .ok (.invokevirtual 119, 3) := by decide +kernel
theorem dX4_runDay_44 : decode cX4_runDay 44 = .ok (.ifCond .eq 28, 3) := by decide +kernel
theorem dX4_runDay_47 : decode cX4_runDay 47 = .ok (.aload_n 0, 1) := by decide +kernel
theorem dX4_runDay_48 : decode cX4_runDay 48 = .ok (.iload_n 3, 1) := by decide +kernel
theorem dX4_runDay_49 : decode cX4_runDay 49 = .ok (.aload_n 1, 1) := by decide +kernel
theorem dX4_runDay_50 : decode cX4_runDay 50 = .ok (.invokevirtual 122, 3) := by decide +kernel
theorem dX4_runDay_53 : decode cX4_runDay 53 = .ok (.iload_n 2, 1) := by decide +kernel
theorem dX4_runDay_54 : decode cX4_runDay 54 = .ok (.aload_n 0, 1) := by decide +kernel
theorem dX4_runDay_55 : decode cX4_runDay 55 = .ok (.getfield 35, 3) := by decide +kernel
theorem dX4_runDay_58 : decode cX4_runDay 58 = .ok (.iload_n 3, 1) := by decide +kernel
theorem dX4_runDay_59 : decode cX4_runDay 59 = .ok (.invokevirtual 116, 3) := by decide +kernel
theorem dX4_runDay_62 : decode cX4_runDay 62 = .ok (.ifCond .eq 7, 3) := by decide +kernel
theorem dX4_runDay_65 : decode cX4_runDay 65 = .ok (.iconst 0, 1) := by decide +kernel
theorem dX4_runDay_66 : decode cX4_runDay 66 = .ok (.goto 4, 3) := by decide +kernel
theorem dX4_runDay_69 : decode cX4_runDay 69 = .ok (.iconst 1, 1) := by decide +kernel
theorem dX4_runDay_70 : decode cX4_runDay 70 = .ok (.iadd, 1) := by decide +kernel
theorem dX4_runDay_71 : decode cX4_runDay 71 = .ok (.istore_n 2, 1) := by decide +kernel
theorem dX4_runDay_72 : decode cX4_runDay 72 = .ok (.iinc 3 1, 3) := by decide +kernel
theorem dX4_runDay_75 : decode cX4_runDay 75 = .ok (.goto (-61), 3) := by decide +kernel
theorem dX4_runDay_78 : decode cX4_runDay 78 = .ok (.iload_n 2, 1) := by decide +kernel
theorem dX4_runDay_79 : decode cX4_runDay 79 = .ok (.ireturn, 1) := by decide +kernel
theorem hy_X4_runDay : yX4_runDay.cls ≠ "java/lang/invoke/MethodHandle" ∧ yX4_runDay.cls ≠ "java/lang/invoke/VarHandle" ∧ (parseMethodDescriptor yX4_runDay.desc).map (fun d => d.parameters.length) = some 1 := ⟨by decide +kernel, by decide +kernel, by decide +kernel⟩
set_option maxHeartbeats 4000000 in
set_option maxRecDepth 100000 in
theorem lp_X4_runDay {E : zE} {l0 : Launch} {D0 : va_G} {cI0 cJ0 : ClassId} {ad : Nat → Nat → Nat} (hE : zG E l0 D0 cI0 cJ0 ad cX4_runDay 4 RX4 5 120) (S : zM) (r : Nat) (hr : r < 5) (hI : Inv0 (S r)) (hD : InvD (S r)) (hR : zR E (some .int) (some (.int (i32 (sp_dayN (S r))))) (fun X => ∃ g : Int → Int, X = us (us S 5 g) r (sp_day (S r)) ∧ ∀ q : Int, q < 100 → g q = S 5 q)) : ∀ (fuel : Nat) (i : Int) (g : Int → Int) (h9 : 0 ≤ i ∧ i ≤ S r 14) (hq : ∀ q : Int, q < 100 → g q = S 5 q), (S r 14 - i).toNat < fuel → Z E (us (us S 5 g) r (sp_dayS (uq (S r) 670 1) i.toNat)) 14 [(3, .int (i32 i)), (2, .int (i32 (sp_dayC (uq (S r) 670 1) i.toNat))), (0, .ref (ad r 0)), (1, .ref (ad 5 23))] [] := by
  intro fuel
  induction fuel with
  | zero => intro _ _ _ _ hz; omega
  | succ fuel ih =>
    intro i g h9 hq hz
    have hA := inA hI
    unfold InvA at hA
    have h5 : r ≠ 5 := by omega
    have h5b : 5 ≠ r := by omega
    have hu := inv_670 hI hD 1
    have hd := inv_dayS hu.1 hu.2.1 i.toNat (by omega)
    rw [hu.2.2] at hd
    have hdc := dayC_b (s := uq (S r) 670 1) i.toNat
    generalize hs1 : sp_dayS (uq (S r) 670 1) i.toNat = s1 at hd ⊢
    refine z_iload_n hE 0 rfl rfl dX4_runDay_14 ?_
    refine z_aload_n hE 2 rfl rfl dX4_runDay_15 ?_
    refine gf_4_3 hE (ks_m hr (by decide)) zf_X4_35 dX4_runDay_16 ?_
    refine gf_3_0 hE (ks_m hr (by decide)) zf_X4_115 dX4_runDay_19 ?_
    try simp only [us_eq, us_us, us_ne h5, us_ne h5b, us_in h5b]
    rw [hd.2.2]
    refine z_icmp_ge (tgt := 78) hE dX4_runDay_22 (by decide) ⟨by omega, by omega⟩ ⟨by omega, by omega⟩ (fun c1 => ?_) (fun c1 => ?_)
    · refine z_iload_n hE 1 rfl rfl dX4_runDay_78 ?_
      exact z_iret hE hR dX4_runDay_79 (congrArg (fun x => some (Value.int (i32 x))) (by unfold sp_dayN; rw [show i = S r 14 by omega])) (by exact ⟨g, by rw [← hs1, show i = S r 14 by omega]; rfl, hq⟩)
    · have hox := inO hd.1 i h9.1 (by omega)
      refine z_aload_n hE 2 rfl rfl dX4_runDay_25 ?_
      refine gf_4_3 hE (ks_m hr (by decide)) zf_X4_35 dX4_runDay_26 ?_
      refine z_iload_n hE 0 rfl rfl dX4_runDay_29 ?_
      refine z_callV hE (c_X3_isOpen l0 D0 cI0 cJ0 ad (us (us S 5 g) r s1) r hr i (by first | omega | (simp only [us_eq, us_ne h5, us_ne h5b]; omega)) (by rw [us_eq]; omega)) (ks_m hr (by decide)) rfl rfl zm_X4_116 zi_yX3_isOpen zs_yX3_isOpen zn_RX3 zc_yX3_isOpen (hy_X3_isOpen) (Nat.le_of_ble_eq_true rfl) (Nat.le_of_ble_eq_true rfl) rfl rfl rfl (Nat.le_of_ble_eq_true rfl) dX4_runDay_30 ?_
      try simp only [us_eq, us_us, us_ne h5, us_ne h5b, us_in h5b]
      refine z_ifb_eq (tgt := 72) hE dX4_runDay_33 (by decide) (fun co => ?_) (fun co => ?_)
      · have hoc : sp_off s1 i = s1 ∧ sp_offC s1 i = 0 := off_A co
        refine z_iinc hE 0 rfl (by decide) rfl dX4_runDay_72 ?_
        refine z_goto (tgt := 14) hE (d := dX4_runDay_75) (ht := by decide) ?_
        refine z_L (L' := [(3, .int (i32 (i + 1))), (2, .int (i32 (sp_dayC (uq (S r) 670 1) (i + 1).toNat))), (0, .ref (ad r 0)), (1, .ref (ad 5 23))]) [0, 1, 2, 3] (by rw [show sp_dayC (uq (S r) 670 1) (i + 1).toNat = sp_dayC (uq (S r) 670 1) i.toNat from by first | rfl | ((rw [dayC_s h9.1, hs1, hoc.2]) <;> omega)]; rfl) ?_
        rw [← hoc.1, ← hs1, ← dayS_s h9.1]
        exact ih (i + 1) g ⟨by omega, by omega⟩ hq (by omega)
      · have hdl := hd.2.1 i h9.1 (by omega) co
        refine z_aload_n hE 2 rfl rfl dX4_runDay_36 ?_
        refine gf_4_3 hE (ks_m hr (by decide)) zf_X4_35 dX4_runDay_37 ?_
        refine z_iload_n hE 0 rfl rfl dX4_runDay_40 ?_
        refine z_callV hE (c_X3_losesLastDay l0 D0 cI0 cJ0 ad (us (us S 5 g) r s1) r hr i (by first | omega | (simp only [us_eq, us_ne h5, us_ne h5b]; omega)) (by rw [us_eq]; omega)) (ks_m hr (by decide)) rfl rfl zm_X4_119 zi_yX3_losesLastDay zs_yX3_losesLastDay zn_RX3 zc_yX3_losesLastDay (hy_X3_losesLastDay) (Nat.le_of_ble_eq_true rfl) (Nat.le_of_ble_eq_true rfl) rfl rfl rfl (Nat.le_of_ble_eq_true rfl) dX4_runDay_41 ?_
        try simp only [us_eq, us_us, us_ne h5, us_ne h5b, us_in h5b]
        try simp only [us_eq, us_us, us_ne h5, us_ne h5b, us_in h5b]
        refine z_ifb_eq (tgt := 72) hE dX4_runDay_44 (by decide) (fun cl => ?_) (fun cl => ?_)
        · have hoc : sp_off s1 i = sp_tick (s1) i ∧ sp_offC s1 i = 0 := off_B co cl
          refine z_iinc hE 0 rfl (by decide) rfl dX4_runDay_72 ?_
          refine z_goto (tgt := 14) hE (d := dX4_runDay_75) (ht := by decide) ?_
          refine z_L (L' := [(3, .int (i32 (i + 1))), (2, .int (i32 (sp_dayC (uq (S r) 670 1) (i + 1).toNat))), (0, .ref (ad r 0)), (1, .ref (ad 5 23))]) [0, 1, 2, 3] (by rw [show sp_dayC (uq (S r) 670 1) (i + 1).toNat = sp_dayC (uq (S r) 670 1) i.toNat from by first | rfl | ((rw [dayC_s h9.1, hs1, hoc.2]) <;> omega)]; rfl) ?_
          rw [← hoc.1, ← hs1, ← dayS_s h9.1]
          exact ih (i + 1) g ⟨by omega, by omega⟩ hq (by omega)
        · have ht := inv_tick hd.1 h9.1 (by omega)
          have t14 : sp_tick s1 i 14 = s1 14 := tick_ne (by omega) (by omega)
          have t59 : sp_tick s1 i (59 + 22 * i) = s1 (59 + 22 * i) := tick_ne (by omega) (by omega)
          have hen := inv_end ht h9.1 (by omega) (by omega)
          have e14 := end_keep ht (q := 14) h9.1 (by omega) (by omega) (by omega) (by omega) (by omega) (by omega)
          have heo := inO hen i h9.1 (by omega)
          refine z_aload_n hE 2 rfl rfl dX4_runDay_47 ?_
          refine z_iload_n hE 0 rfl rfl dX4_runDay_48 ?_
          refine z_aload_n hE 3 rfl rfl dX4_runDay_49 ?_
          refine z_callVp hE (c_X4_endStage l0 D0 cI0 cJ0 ad (us (us S 5 g) r (sp_tick (s1) i)) r hr i (by rw [us_eq]; exact ht) (by rw [us_eq]; omega) (by rw [us_eq]; omega)) (ks_m hr (by decide)) rfl rfl zm_X4_122 zi_yX4_endStage zs_yX4_endStage zn_RX4 zc_yX4_endStage (hy_X4_endStage) (Nat.le_of_ble_eq_true rfl) (Nat.le_of_ble_eq_true rfl) rfl rfl rfl (Nat.le_of_ble_eq_true rfl) dX4_runDay_50 (fun M50 hM50 => ?_)
          obtain ⟨g50, rfl, hg50⟩ := hM50
          try simp only [us_eq, us_us, us_ne h5, us_ne h5b, us_in h5b]
          try simp only [us_eq, us_ne h5, us_ne h5b] at hg50
          refine z_iload_n hE 1 rfl rfl dX4_runDay_53 ?_
          refine z_aload_n hE 2 rfl rfl dX4_runDay_54 ?_
          refine gf_4_3 hE (ks_m hr (by decide)) zf_X4_35 dX4_runDay_55 ?_
          refine z_iload_n hE 0 rfl rfl dX4_runDay_58 ?_
          refine z_callV hE (c_X3_isOpen l0 D0 cI0 cJ0 ad (us (us S 5 g50) r (sp_end (sp_tick (s1) i) i)) r hr i (by first | omega | (simp only [us_eq, us_ne h5, us_ne h5b]; omega)) (by rw [us_eq]; omega)) (ks_m hr (by decide)) rfl rfl zm_X4_116 zi_yX3_isOpen zs_yX3_isOpen zn_RX3 zc_yX3_isOpen (hy_X3_isOpen) (Nat.le_of_ble_eq_true rfl) (Nat.le_of_ble_eq_true rfl) rfl rfl rfl (Nat.le_of_ble_eq_true rfl) dX4_runDay_59 ?_
          try simp only [us_eq, us_us, us_ne h5, us_ne h5b, us_in h5b]
          refine z_ifb_eq (tgt := 69) hE dX4_runDay_62 (by decide) (fun ce => ?_) (fun ce => ?_)
          · refine z_iconst hE dX4_runDay_69 ?_
            refine z_iadd hE dX4_runDay_70 ?_
            refine z_istore_n hE rfl (by decide) rfl dX4_runDay_71 ?_
            have hoc : sp_off s1 i = sp_end (sp_tick (s1) i) i ∧ sp_offC s1 i = 1 := off_D ht h9.1 (by omega) (by omega) co cl ce
            refine z_iinc hE 1 rfl (by decide) rfl dX4_runDay_72 ?_
            refine z_goto (tgt := 14) hE (d := dX4_runDay_75) (ht := by decide) ?_
            refine z_L (L' := [(3, .int (i32 (i + 1))), (2, .int (i32 (sp_dayC (uq (S r) 670 1) (i + 1).toNat))), (0, .ref (ad r 0)), (1, .ref (ad 5 23))]) [0, 1, 2, 3] (by rw [show sp_dayC (uq (S r) 670 1) (i + 1).toNat = (sp_dayC (uq (S r) 670 1) i.toNat) + 1 from by first | rfl | ((rw [dayC_s h9.1, hs1, hoc.2]) <;> omega)]; rfl) ?_
            rw [← hoc.1, ← hs1, ← dayS_s h9.1]
            exact ih (i + 1) g50 ⟨by omega, by omega⟩ (fun q h1 => (hg50 q h1).trans (hq q h1)) (by omega)
          · refine z_iconst hE dX4_runDay_65 ?_
            refine z_goto (tgt := 70) hE (d := dX4_runDay_66) (ht := by decide) ?_
            refine z_iadd hE dX4_runDay_70 ?_
            refine z_istore_n hE rfl (by decide) rfl dX4_runDay_71 ?_
            have hoc : sp_off s1 i = sp_end (sp_tick (s1) i) i ∧ sp_offC s1 i = 0 := off_C ht h9.1 (by omega) (by omega) co cl ce
            refine z_iinc hE 1 rfl (by decide) rfl dX4_runDay_72 ?_
            refine z_goto (tgt := 14) hE (d := dX4_runDay_75) (ht := by decide) ?_
            refine z_L (L' := [(3, .int (i32 (i + 1))), (2, .int (i32 (sp_dayC (uq (S r) 670 1) (i + 1).toNat))), (0, .ref (ad r 0)), (1, .ref (ad 5 23))]) [0, 1, 2, 3] (by rw [show sp_dayC (uq (S r) 670 1) (i + 1).toNat = (sp_dayC (uq (S r) 670 1) i.toNat) + 0 from by first | rfl | ((rw [dayC_s h9.1, hs1, hoc.2]) <;> omega)]; rfl) ?_
            rw [← hoc.1, ← hs1, ← dayS_s h9.1]
            exact ih (i + 1) g50 ⟨by omega, by omega⟩ (fun q h1 => (hg50 q h1).trans (hq q h1)) (by omega)
set_option maxHeartbeats 4000000 in
set_option maxRecDepth 100000 in
theorem c_X4_runDay (l0 : Launch) (D0 : va_G) (cI0 cJ0 : ClassId) (ad : Nat → Nat → Nat) (S : zM) (r : Nat) (hr : r < 5) (hI : Inv0 (S r)) (hD : InvD (S r)) : Ct l0 D0 cI0 cJ0 ad yX4_runDay cX4_runDay 4 (some .int) 5 120 [.ref (ad r 0), .ref (ad 5 23)] S (some (.int (i32 (sp_dayN (S r))))) (fun X => ∃ g : Int → Int, X = us (us S 5 g) r (sp_day (S r)) ∧ ∀ q : Int, q < 100 → g q = S 5 q) := by
  refine Ct.of (by decide) (Nat.le_of_ble_eq_true rfl) (fun E hE hR => ?_)
  have hE : zG E l0 D0 cI0 cJ0 ad cX4_runDay 4 RX4 5 120 := hE
  show Z E S 0 [(0, .ref (ad r 0)), (1, .ref (ad 5 23))] []
  have hA := inA hI
  unfold InvA at hA
  have h5 : r ≠ 5 := by omega
  have h5b : 5 ≠ r := by omega
  have hu := inv_670 hI hD 1
  refine z_aload_n hE 0 rfl rfl dX4_runDay_0 ?_
  refine z_dup hE rfl dX4_runDay_1 ?_
  refine gf_4_6 hE (ks_m hr (by decide)) zf_X4_50 dX4_runDay_2 ?_
  refine z_iconst hE dX4_runDay_5 ?_
  refine z_iadd hE dX4_runDay_6 ?_
  refine pf_4_6 hE (ks_m hr (by decide)) zf_X4_50 dX4_runDay_7 ?_
  refine z_iconst hE dX4_runDay_10 ?_
  refine z_istore_n hE rfl (by decide) rfl dX4_runDay_11 ?_
  refine z_iconst hE dX4_runDay_12 ?_
  refine z_istore_n hE rfl (by decide) rfl dX4_runDay_13 ?_
  refine z_L (L' := [(3, .int (i32 (0 : Int))), (2, .int (i32 (sp_dayC (uq (S r) 670 1) ((0 : Int)).toNat))), (0, .ref (ad r 0)), (1, .ref (ad 5 23))]) [0, 1, 2, 3] (by rw [show sp_dayC (uq (S r) 670 1) ((0 : Int)).toNat = 0 from by first | rfl | (rfl)]; rfl) ?_
  rw [show us S r (up (S r) 670 (S r 670 + 1)) = us (us S 5 (S 5)) r (sp_dayS (uq (S r) 670 1) (0 : Int).toNat) from by rw [us_id]; rfl]
  exact lp_X4_runDay hE S r hr hI hD hR 21 ((0 : Int)) (S 5) ⟨by omega, by omega⟩ (fun q h1 => rfl) (by omega)
