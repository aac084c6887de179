theorem zbo_T : zbo True = 1 := if_pos trivial
theorem dL_cell_0 : decode cL_cell 0 = .ok (.iload_n 1, 1) := by decide +kernel
theorem dL_cell_1 : decode cL_cell 1 = .ok (.aload_n 0, 1) := by decide +kernel
theorem dL_cell_2 : decode cL_cell 2 = .ok (.arraylength, 1) := by decide +kernel
theorem dL_cell_3 : decode cL_cell 3 = .ok (.if_icmp .ge 9, 3) := by decide +kernel
theorem dL_cell_6 : decode cL_cell 6 = .ok (.aload_n 0, 1) := by decide +kernel
theorem dL_cell_7 : decode cL_cell 7 = .ok (.iload_n 1, 1) := by decide +kernel
theorem dL_cell_8 : decode cL_cell 8 = .ok (.iaload, 1) := by decide +kernel
theorem dL_cell_9 : decode cL_cell 9 = .ok (.goto 11, 3) := by decide +kernel
theorem dL_cell_12 : decode cL_cell 12 = .ok (.sipush 16807, 3) := by decide +kernel
theorem dL_cell_15 : decode cL_cell 15 = .ok (.iload_n 1, 1) := by decide +kernel
theorem dL_cell_16 : decode cL_cell 16 = .ok (.bipush 13, 2) := by decide +kernel
theorem dL_cell_18 : decode cL_cell 18 = .ok (.iadd, 1) := by decide +kernel
theorem dL_cell_19 : decode cL_cell 19 = .ok (.imul, 1) := by decide +kernel
theorem dL_cell_20 : decode cL_cell 20 = .ok (.ldc 7, 2) := by decide +kernel
theorem dL_cell_22 : decode cL_cell 22 = .ok (.iand, 1) := by decide +kernel
theorem dL_cell_23 : decode cL_cell 23 = .ok (.ireturn, 1) := by decide +kernel
theorem hy_L_cell : yL_cell.cls ≠ "java/lang/invoke/MethodHandle" ∧ yL_cell.cls ≠ "java/lang/invoke/VarHandle" ∧ (parseMethodDescriptor yL_cell.desc).map (fun d => d.parameters.length) = some 2 := ⟨by decide +kernel, by decide +kernel, by decide +kernel⟩
theorem c_L_cell (l0 : Launch) (D0 : va_G) (cI0 cJ0 : ClassId) (ad : Nat → Nat → Nat) (S : zM) (b N : Nat) (xs : Nat → Int32) (k : Int) (hk : 0 ≤ k ∧ k < 100) : CtX l0 D0 cI0 cJ0 ad yL_cell cL_cell 2 (some .int) 0 0 [.ref b, .int (i32 k)] S (some (.int (i32 (cel N xs k)))) (fun X => X = S) b N xs := by
  refine CtX.of (by decide) (Nat.le_of_ble_eq_true rfl) (fun E hE hX hR => ?_)
  have hE : zG E l0 D0 cI0 cJ0 ad cL_cell 2 RL 0 0 := hE
  have hN : N ≤ 260 := by
    obtain ⟨p, l, e, R, s, m, args, below, meth, c, Q, A, D, cI, cJ, ad1, nL, cells, slots⟩ := E
    exact hX.2.2.2
  show Z E S 0 [(0, .ref b), (1, .int (i32 k))] []
  refine z_iload_n hE 1 rfl rfl dL_cell_0 ?_
  refine z_aload_n hE 0 rfl rfl dL_cell_1 ?_
  refine z_slen hE hX dL_cell_2 ?_
  refine z_icmp_ge (tgt := 12) hE dL_cell_3 (by decide) ⟨by omega, by omega⟩ ⟨by omega, by omega⟩ (fun c => ?_) (fun c => ?_)
  · refine z_sipush (a := 16807) hE (by decide) dL_cell_12 ?_
    refine z_iload_n hE 1 rfl rfl dL_cell_15 ?_
    refine z_bipush (a := 13) hE (by decide) dL_cell_16 ?_
    refine z_iadd hE dL_cell_18 ?_
    refine z_imul hE dL_cell_19 ?_
    refine z_ldc (a := 2147483647) hE zk_L_7 (by decide) dL_cell_20 ?_
    refine z_iandv hE dL_cell_22 ?_
    exact z_iret hE hR dL_cell_23 (congrArg (fun x => some (Value.int (i32 x))) (by unfold cel; rw [if_neg (by omega)])) rfl
  · refine z_aload_n hE 0 rfl rfl dL_cell_6 ?_
    refine z_iload_n hE 1 rfl rfl dL_cell_7 ?_
    refine z_sld hE hX (by omega) (by omega) dL_cell_8 ?_
    refine z_goto (tgt := 20) hE (d := dL_cell_9) (ht := by decide) ?_
    refine z_ldc (a := 2147483647) hE zk_L_7 (by decide) dL_cell_20 ?_
    refine z_iandv hE dL_cell_22 ?_
    exact z_iret hE hR dL_cell_23 (congrArg (fun x => some (Value.int (i32 x))) (by unfold cel; rw [if_pos (by omega), show i32 (xs k.toNat).toInt = xs k.toNat from Int32.ofInt_toInt _])) rfl
theorem dL_accounts_0 : decode cL_accounts 0 = .ok (.lconst 0, 1) := by decide +kernel
theorem dL_accounts_1 : decode cL_accounts 1 = .ok (.lstore_n 1, 1) := by decide +kernel
theorem dL_accounts_2 : decode cL_accounts 2 = .ok (.iconst 0, 1) := by decide +kernel
theorem dL_accounts_3 : decode cL_accounts 3 = .ok (.istore_n 3, 1) := by decide +kernel
theorem dL_accounts_4 : decode cL_accounts 4 = .ok (.iload_n 3, 1) := by decide +kernel
theorem dL_accounts_5 : decode cL_accounts 5 = .ok (.aload_n 0, 1) := by decide +kernel
theorem dL_accounts_6 : decode cL_accounts 6 = .ok (.invokevirtual 28, 3) := by decide +kernel
theorem dL_accounts_9 : decode cL_accounts 9 = .ok (.if_icmp .ge 17, 3) := by decide +kernel
theorem dL_accounts_12 : decode cL_accounts 12 = .ok (.lload_n 1, 1) := by decide +kernel
theorem dL_accounts_13 : decode cL_accounts 13 = .ok (.aload_n 0, 1) := by decide +kernel
theorem dL_accounts_14 : decode cL_accounts 14 = .ok (.iload_n 3, 1) := by decide +kernel
theorem dL_accounts_15 : decode cL_accounts 15 = .ok (.invokevirtual 31, 3) := by decide +kernel
theorem dL_accounts_18 : decode cL_accounts 18 = .ok (.ladd, 1) := by decide +kernel
theorem dL_accounts_19 : decode cL_accounts 19 = .ok (.lstore_n 1, 1) := by decide +kernel
theorem dL_accounts_20 : decode cL_accounts 20 = .ok (.iinc 3 1, 3) := by decide +kernel
theorem dL_accounts_23 : decode cL_accounts 23 = .ok (.goto (-19), 3) := by decide +kernel
theorem dL_accounts_26 : decode cL_accounts 26 = .ok (.lload_n 1, 1) := by decide +kernel
theorem dL_accounts_27 : decode cL_accounts 27 = .ok (.lreturn, 1) := by decide +kernel
theorem hy_L_accounts : yL_accounts.cls ≠ "java/lang/invoke/MethodHandle" ∧ yL_accounts.cls ≠ "java/lang/invoke/VarHandle" ∧ (parseMethodDescriptor yL_accounts.desc).map (fun d => d.parameters.length) = some 1 := ⟨by decide +kernel, by decide +kernel, by decide +kernel⟩
set_option maxHeartbeats 4000000 in
set_option maxRecDepth 100000 in
theorem lp_L_accounts {E : zE} {l0 : Launch} {D0 : va_G} {cI0 cJ0 : ClassId} {ad : Nat → Nat → Nat} (hE : zG E l0 D0 cI0 cJ0 ad cL_accounts 4 RL 2 42) (S : zM) (jS : RJ S) (iS : Inv (S 0)) (hR : zR E (some .long) (some (.long (i64 (fr_acc (S 0))))) (fun X => X = S)) : ∀ (fuel : Nat) (i : Int) (h9 : 0 ≤ i ∧ i ≤ S 0 0), (S 0 0 - i).toNat < fuel → Z E S 4 [(3, .int (i32 i)), (1, .long (i64 (sm (fun k => S 0 (21 + 3 * k)) i))), (0, .ref (ad 5 22))] [] := by
  intro fuel
  induction fuel with
  | zero => intro _ _ hz; omega
  | succ fuel ih =>
    intro i h9 hz
    have aS := inA iS.1
    unfold InvA at aS
    refine z_iload_n hE 0 rfl rfl dL_accounts_4 ?_
    refine z_aload_n hE 2 rfl rfl dL_accounts_5 ?_
    refine z_callV hE (c_X7_memberCount l0 D0 cI0 cJ0 ad S 0 (by decide) jS.1 iS) (by decide) rfl rfl zm_L_28 zi_yX7_memberCount zs_yX7_memberCount zn_RX7 zc_yX7_memberCount (hy_X7_memberCount) (Nat.le_of_ble_eq_true rfl) (Nat.le_of_ble_eq_true rfl) rfl rfl rfl (Nat.le_of_ble_eq_true rfl) dL_accounts_6 ?_
    refine z_icmp_ge (tgt := 26) hE dL_accounts_9 (by decide) ⟨by omega, by omega⟩ ⟨by omega, by omega⟩ (fun c1 => ?_) (fun c1 => ?_)
    · refine z_lload_n hE 1 rfl rfl dL_accounts_26 ?_
      exact z_lret hE hR dL_accounts_27 (congrArg (fun x => some (Value.long (i64 x))) (by unfold fr_acc; rw [show i = S 0 0 by omega])) (by rfl)
    · refine z_lload_n hE 1 rfl rfl dL_accounts_12 ?_
      refine z_aload_n hE 2 rfl rfl dL_accounts_13 ?_
      refine z_iload_n hE 0 rfl rfl dL_accounts_14 ?_
      refine z_callV hE (c_X7_account l0 D0 cI0 cJ0 ad S i 0 (by decide) jS.1 iS (⟨by omega, by omega⟩)) (by decide) rfl rfl zm_L_31 zi_yX7_account zs_yX7_account zn_RX7 zc_yX7_account (hy_X7_account) (Nat.le_of_ble_eq_true rfl) (Nat.le_of_ble_eq_true rfl) rfl rfl rfl (Nat.le_of_ble_eq_true rfl) dL_accounts_15 ?_
      rw [show rv_account ((S 0)) i = S 0 (21 + 3 * i) from if_pos (by omega)]
      refine z_ladd hE dL_accounts_18 ?_
      refine z_lstore_n hE rfl (by decide) rfl dL_accounts_19 ?_
      refine z_iinc hE 1 rfl (by decide) rfl dL_accounts_20 ?_
      refine z_goto (tgt := 4) hE (d := dL_accounts_23) (ht := by decide) ?_
      refine z_L (L' := [(3, .int (i32 (i + 1))), (1, .long (i64 (sm (fun k => S 0 (21 + 3 * k)) (i + 1)))), (0, .ref (ad 5 22))]) [0, 1, 2] (by rw [show sm (fun k => S 0 (21 + 3 * k)) (i + 1) = (sm (fun k => S 0 (21 + 3 * k)) i) + (S 0 (21 + 3 * i)) from by first | rfl | (exact sm_s h9.1)]; rfl) ?_
      exact ih (i + 1) ⟨by omega, by omega⟩ (by omega)
set_option maxHeartbeats 4000000 in
set_option maxRecDepth 100000 in
theorem c_L_accounts (l0 : Launch) (D0 : va_G) (cI0 cJ0 : ClassId) (ad : Nat → Nat → Nat) (S : zM) (jS : RJ S) (iS : Inv (S 0)) : Ct l0 D0 cI0 cJ0 ad yL_accounts cL_accounts 4 (some .long) 2 42 [.ref (ad 5 22)] S (some (.long (i64 (fr_acc (S 0))))) (fun X => X = S) := by
  refine Ct.of (by decide) (Nat.le_of_ble_eq_true rfl) (fun E hE hR => ?_)
  have hE : zG E l0 D0 cI0 cJ0 ad cL_accounts 4 RL 2 42 := hE
  show Z E S 0 [(0, .ref (ad 5 22))] []
  have aS := inA iS.1
  unfold InvA at aS
  refine z_lconst (a := 0) hE rfl dL_accounts_0 ?_
  refine z_lstore_n hE rfl (by decide) rfl dL_accounts_1 ?_
  refine z_iconst hE dL_accounts_2 ?_
  refine z_istore_n hE rfl (by decide) rfl dL_accounts_3 ?_
  refine z_L (L' := [(3, .int (i32 0)), (1, .long (i64 (sm (fun k => S 0 (21 + 3 * k)) 0))), (0, .ref (ad 5 22))]) [0, 1, 2] (by rw [show sm (fun k => S 0 (21 + 3 * k)) 0 = 0 from by first | rfl | (exact sm_0 _)]; rfl) ?_
  exact lp_L_accounts hE S jS iS hR 13 0 ⟨by omega, by omega⟩ (by omega)
theorem dL_offerHolds_0 : decode cL_offerHolds 0 = .ok (.iconst 0, 1) := by decide +kernel
theorem dL_offerHolds_1 : decode cL_offerHolds 1 = .ok (.istore_n 3, 1) := by decide +kernel
theorem dL_offerHolds_2 : decode cL_offerHolds 2 = .ok (.iconst 0, 1) := by decide +kernel
theorem dL_offerHolds_3 : decode cL_offerHolds 3 = .ok (.istore 4, 2) := by decide +kernel
theorem dL_offerHolds_5 : decode cL_offerHolds 5 = .ok (.iload 4, 2) := by decide +kernel
theorem dL_offerHolds_7 : decode cL_offerHolds 7 = .ok (.iconst 4, 1) := by decide +kernel
theorem dL_offerHolds_8 : decode cL_offerHolds 8 = .ok (.if_icmp .ge 19, 3) := by decide +kernel
theorem dL_offerHolds_11 : decode cL_offerHolds 11 = .ok (.iload_n 3, 1) := by decide +kernel
theorem dL_offerHolds_12 : decode cL_offerHolds 12 = .ok (.aload_n 0, 1) := by decide +kernel
theorem dL_offerHolds_13 : decode cL_offerHolds 13 = .ok (.iload_n 1, 1) := by decide +kernel
theorem dL_offerHolds_14 : decode cL_offerHolds 14 = .ok (.iload 4, 2) := by decide +kernel
theorem dL_offerHolds_16 : decode cL_offerHolds 16 = .ok (.invokevirtual 35, 3) := by decide +kernel
theorem dL_offerHolds_19 : decode cL_offerHolds 19 = .ok (.iadd, 1) := by decide +kernel
theorem dL_offerHolds_20 : decode cL_offerHolds 20 = .ok (.istore_n 3, 1) := by decide +kernel
theorem dL_offerHolds_21 : decode cL_offerHolds 21 = .ok (.iinc 4 1, 3) := by decide +kernel
theorem dL_offerHolds_24 : decode cL_offerHolds 24 = .ok (.goto (-19), 3) := by decide +kernel
theorem dL_offerHolds_27 : decode cL_offerHolds 27 = .ok (.aload_n 0, 1) := by decide +kernel
theorem dL_offerHolds_28 : decode cL_offerHolds 28 = .ok (.iload_n 1, 1) := by decide +kernel
theorem dL_offerHolds_29 : decode cL_offerHolds 29 = .ok (.invokevirtual 38, 3) := by decide +kernel
theorem dL_offerHolds_32 : decode cL_offerHolds 32 = .ok (.istore 4, 2) := by decide +kernel
theorem dL_offerHolds_34 : decode cL_offerHolds 34 = .ok (.iload 4, 2) := by decide +kernel
theorem dL_offerHolds_36 : decode cL_offerHolds 36 = .ok (.ifCond .lt 32, 3) := by decide +kernel
theorem dL_offerHolds_39 : decode cL_offerHolds 39 = .ok (.iload 4, 2) := by decide +kernel
theorem dL_offerHolds_41 : decode cL_offerHolds 41 = .ok (.iconst 3, 1) := by decide +kernel
theorem dL_offerHolds_42 : decode cL_offerHolds 42 = .ok (.if_icmp .gt 26, 3) := by decide +kernel
theorem dL_offerHolds_45 : decode cL_offerHolds 45 = .ok (.iload_n 3, 1) := by decide +kernel
theorem dL_offerHolds_46 : decode cL_offerHolds 46 = .ok (.aload_n 0, 1) := by decide +kernel
theorem dL_offerHolds_47 : decode cL_offerHolds 47 = .ok (.iload_n 1, 1) := by decide +kernel
theorem dL_offerHolds_48 : decode cL_offerHolds 48 = .ok (.invokevirtual 42, 3) := by decide +kernel
theorem dL_offerHolds_51 : decode cL_offerHolds 51 = .ok (.iadd, 1) := by decide +kernel
theorem dL_offerHolds_52 : decode cL_offerHolds 52 = .ok (.iload_n 2, 1) := by decide +kernel
theorem dL_offerHolds_53 : decode cL_offerHolds 53 = .ok (.if_icmp .ne 15, 3) := by decide +kernel
theorem dL_offerHolds_56 : decode cL_offerHolds 56 = .ok (.aload_n 0, 1) := by decide +kernel
theorem dL_offerHolds_57 : decode cL_offerHolds 57 = .ok (.iload_n 1, 1) := by decide +kernel
theorem dL_offerHolds_58 : decode cL_offerHolds 58 = .ok (.invokevirtual 42, 3) := by decide +kernel
theorem dL_offerHolds_61 : decode cL_offerHolds 61 = .ok (.ifCond .lt 7, 3) := by decide +kernel
theorem dL_offerHolds_64 : decode cL_offerHolds 64 = .ok (.iconst 1, 1) := by decide +kernel
theorem dL_offerHolds_65 : decode cL_offerHolds 65 = .ok (.goto 4, 3) := by decide +kernel
theorem dL_offerHolds_68 : decode cL_offerHolds 68 = .ok (.iconst 0, 1) := by decide +kernel
theorem dL_offerHolds_69 : decode cL_offerHolds 69 = .ok (.istore 5, 2) := by decide +kernel
theorem dL_offerHolds_71 : decode cL_offerHolds 71 = .ok (.iconst 0, 1) := by decide +kernel
theorem dL_offerHolds_72 : decode cL_offerHolds 72 = .ok (.istore 6, 2) := by decide +kernel
theorem dL_offerHolds_74 : decode cL_offerHolds 74 = .ok (.iload 6, 2) := by decide +kernel
theorem dL_offerHolds_76 : decode cL_offerHolds 76 = .ok (.aload_n 0, 1) := by decide +kernel
theorem dL_offerHolds_77 : decode cL_offerHolds 77 = .ok (.invokevirtual 28, 3) := by decide +kernel
theorem dL_offerHolds_80 : decode cL_offerHolds 80 = .ok (.if_icmp .ge 47, 3) := by decide +kernel
theorem dL_offerHolds_83 : decode cL_offerHolds 83 = .ok (.iload 5, 2) := by decide +kernel
theorem dL_offerHolds_85 : decode cL_offerHolds 85 = .ok (.ifCond .eq 42, 3) := by decide +kernel
theorem dL_offerHolds_88 : decode cL_offerHolds 88 = .ok (.aload_n 0, 1) := by decide +kernel
theorem dL_offerHolds_89 : decode cL_offerHolds 89 = .ok (.iload_n 1, 1) := by decide +kernel
theorem dL_offerHolds_90 : decode cL_offerHolds 90 = .ok (.iload 6, 2) := by decide +kernel
theorem dL_offerHolds_92 : decode cL_offerHolds 92 = .ok (.invokevirtual 45, 3) := by decide +kernel
theorem dL_offerHolds_95 : decode cL_offerHolds 95 = .ok (.ifCond .lt 23, 3) := by decide +kernel
theorem dL_offerHolds_98 : decode cL_offerHolds 98 = .ok (.iload 4, 2) := by decide +kernel
theorem dL_offerHolds_100 : decode cL_offerHolds 100 = .ok (.iconst 2, 1) := by decide +kernel
theorem dL_offerHolds_101 : decode cL_offerHolds 101 = .ok (.if_icmp .lt 13, 3) := by decide +kernel
theorem dL_offerHolds_104 : decode cL_offerHolds 104 = .ok (.aload_n 0, 1) := by decide +kernel
theorem dL_offerHolds_105 : decode cL_offerHolds 105 = .ok (.iload_n 1, 1) := by decide +kernel
theorem dL_offerHolds_106 : decode cL_offerHolds 106 = .ok (.iload 6, 2) := by decide +kernel
theorem dL_offerHolds_108 : decode cL_offerHolds 108 = .ok (.invokevirtual 45, 3) := by decide +kernel
theorem dL_offerHolds_111 : decode cL_offerHolds 111 = .ok (.ifCond .ne 7, 3) := by decide +kernel
theorem dL_offerHolds_114 : decode cL_offerHolds 114 = .ok (.iconst 1, 1) := by decide +kernel
theorem dL_offerHolds_115 : decode cL_offerHolds 115 = .ok (.goto 4, 3) := by decide +kernel
theorem dL_offerHolds_118 : decode cL_offerHolds 118 = .ok (.iconst 0, 1) := by decide +kernel
theorem dL_offerHolds_119 : decode cL_offerHolds 119 = .ok (.istore 5, 2) := by decide +kernel
theorem dL_offerHolds_121 : decode cL_offerHolds 121 = .ok (.iinc 6 1, 3) := by decide +kernel
theorem dL_offerHolds_124 : decode cL_offerHolds 124 = .ok (.goto (-50), 3) := by decide +kernel
theorem dL_offerHolds_127 : decode cL_offerHolds 127 = .ok (.aload_n 0, 1) := by decide +kernel
theorem dL_offerHolds_128 : decode cL_offerHolds 128 = .ok (.iload_n 1, 1) := by decide +kernel
theorem dL_offerHolds_129 : decode cL_offerHolds 129 = .ok (.invokevirtual 48, 3) := by decide +kernel
theorem dL_offerHolds_132 : decode cL_offerHolds 132 = .ok (.istore 6, 2) := by decide +kernel
theorem dL_offerHolds_134 : decode cL_offerHolds 134 = .ok (.iload 5, 2) := by decide +kernel
theorem dL_offerHolds_136 : decode cL_offerHolds 136 = .ok (.ifCond .eq 44, 3) := by decide +kernel
theorem dL_offerHolds_139 : decode cL_offerHolds 139 = .ok (.iload 4, 2) := by decide +kernel
theorem dL_offerHolds_141 : decode cL_offerHolds 141 = .ok (.iconst 3, 1) := by decide +kernel
theorem dL_offerHolds_142 : decode cL_offerHolds 142 = .ok (.if_icmp .ne 13, 3) := by decide +kernel
theorem dL_offerHolds_145 : decode cL_offerHolds 145 = .ok (.iload 6, 2) := by decide +kernel
theorem dL_offerHolds_147 : decode cL_offerHolds 147 = .ok (.ldc 51, 2) := by decide +kernel
theorem dL_offerHolds_149 : decode cL_offerHolds 149 = .ok (.if_icmp .ne 31, 3) := by decide +kernel
theorem dL_offerHolds_152 : decode cL_offerHolds 152 = .ok (.goto 24, 3) := by decide +kernel
theorem dL_offerHolds_155 : decode cL_offerHolds 155 = .ok (.iload 6, 2) := by decide +kernel
theorem dL_offerHolds_157 : decode cL_offerHolds 157 = .ok (.iconst 1, 1) := by decide +kernel
theorem dL_offerHolds_158 : decode cL_offerHolds 158 = .ok (.if_icmp .lt 22, 3) := by decide +kernel
theorem dL_offerHolds_161 : decode cL_offerHolds 161 = .ok (.iload 6, 2) := by decide +kernel
theorem dL_offerHolds_163 : decode cL_offerHolds 163 = .ok (.bipush 10, 2) := by decide +kernel
theorem dL_offerHolds_165 : decode cL_offerHolds 165 = .ok (.if_icmp .gt 15, 3) := by decide +kernel
theorem dL_offerHolds_168 : decode cL_offerHolds 168 = .ok (.aload_n 0, 1) := by decide +kernel
theorem dL_offerHolds_169 : decode cL_offerHolds 169 = .ok (.iload_n 1, 1) := by decide +kernel
theorem dL_offerHolds_170 : decode cL_offerHolds 170 = .ok (.invokevirtual 42, 3) := by decide +kernel
theorem dL_offerHolds_173 : decode cL_offerHolds 173 = .ok (.ifCond .le 7, 3) := by decide +kernel
theorem dL_offerHolds_176 : decode cL_offerHolds 176 = .ok (.iconst 1, 1) := by decide +kernel
theorem dL_offerHolds_177 : decode cL_offerHolds 177 = .ok (.goto 4, 3) := by decide +kernel
theorem dL_offerHolds_180 : decode cL_offerHolds 180 = .ok (.iconst 0, 1) := by decide +kernel
theorem dL_offerHolds_181 : decode cL_offerHolds 181 = .ok (.ireturn, 1) := by decide +kernel
theorem hy_L_offerHolds : yL_offerHolds.cls ≠ "java/lang/invoke/MethodHandle" ∧ yL_offerHolds.cls ≠ "java/lang/invoke/VarHandle" ∧ (parseMethodDescriptor yL_offerHolds.desc).map (fun d => d.parameters.length) = some 3 := ⟨by decide +kernel, by decide +kernel, by decide +kernel⟩
set_option maxHeartbeats 4000000 in
set_option maxRecDepth 100000 in
theorem lp_L_offerHolds_b {E : zE} {l0 : Launch} {D0 : va_G} {cI0 cJ0 : ClassId} {ad : Nat → Nat → Nat} (hE : zG E l0 D0 cI0 cJ0 ad cL_offerHolds 7 RL 2 44) (S : zM) (f : Int) (count : Int) (jS : RJ S) (iS : Inv (S 0)) (h4 : S 0 0 = 4) (hf : 0 ≤ f ∧ f < S 0 14) (hc : count = fr_tot (S 0) f) (hb : 1 ≤ count ∧ count ≤ 1000) (hp : PO (S 0) f) (hR : zR E (some .boolean) (some (.int (i32 (zbo (True))))) (fun X => X = S)) : ∀ (fuel : Nat) (j : Int) (h9 : 0 ≤ j ∧ j ≤ S 0 0), (S 0 0 - j).toNat < fuel → Z E S 74 [(6, .int (i32 j)), (5, .int (i32 1)), (4, .int (i32 (S 0 (59 + 22 * f)))), (0, .ref (ad 5 22)), (1, .int (i32 f)), (2, .int (i32 count))] [] := by
  intro fuel
  induction fuel with
  | zero => intro _ _ hz; omega
  | succ fuel ih =>
    intro j h9 hz
    have aS := inA iS.1
    unfold InvA at aS
    have ho := inO iS.1 f hf.1 hf.2
    have hc0 := hc
    unfold fr_tot at hc
    refine z_iload hE 0 rfl dL_offerHolds_74 ?_
    refine z_aload_n hE 3 rfl rfl dL_offerHolds_76 ?_
    refine z_callV hE (c_X7_memberCount l0 D0 cI0 cJ0 ad S 0 (by decide) jS.1 iS) (by decide) rfl rfl zm_L_28 zi_yX7_memberCount zs_yX7_memberCount zn_RX7 zc_yX7_memberCount (hy_X7_memberCount) (Nat.le_of_ble_eq_true rfl) (Nat.le_of_ble_eq_true rfl) rfl rfl rfl (Nat.le_of_ble_eq_true rfl) dL_offerHolds_77 ?_
    refine z_icmp_ge (tgt := 127) hE dL_offerHolds_80 (by decide) ⟨by omega, by omega⟩ ⟨by omega, by omega⟩ (fun c1 => ?_) (fun c1 => ?_)
    · refine z_aload_n hE 3 rfl rfl dL_offerHolds_127 ?_
      refine z_iload_n hE 4 rfl rfl dL_offerHolds_128 ?_
      refine z_callV hE (c_X7_daysLeft l0 D0 cI0 cJ0 ad S f 0 (by decide) jS.1 iS (⟨by omega, by omega⟩)) (by decide) rfl rfl zm_L_48 zi_yX7_daysLeft zs_yX7_daysLeft zn_RX7 zc_yX7_daysLeft (hy_X7_daysLeft) (Nat.le_of_ble_eq_true rfl) (Nat.le_of_ble_eq_true rfl) rfl rfl rfl (Nat.le_of_ble_eq_true rfl) dL_offerHolds_129 ?_
      by_cases h3 : S 0 (59 + 22 * f) = 3
      · rw [show rv_daysLeft ((S 0)) f = (-2000000004) from by unfold rv_daysLeft; rw [if_pos (by omega), if_neg (by omega)]]
        refine z_istore hE (by decide) rfl dL_offerHolds_132 ?_
        refine z_iload hE 1 rfl dL_offerHolds_134 ?_
        refine z_if_eq (tgt := 180) hE dL_offerHolds_136 (by decide) ⟨by omega, by omega⟩ (fun c2 => absurd c2 (by decide)) (fun c2 => ?_)
        refine z_iload hE 2 rfl dL_offerHolds_139 ?_
        refine z_iconst hE dL_offerHolds_141 ?_
        refine z_icmp_ne (tgt := 155) hE dL_offerHolds_142 (by decide) ⟨by omega, by omega⟩ ⟨by omega, by omega⟩ (fun c3 => ?_) (fun c3 => ?_)
        · exact by omega
        · refine z_iload hE 0 rfl dL_offerHolds_145 ?_
          refine z_ldc (a := -2000000004) hE zk_L_51 (by decide) dL_offerHolds_147 ?_
          refine z_icmp_ne (tgt := 180) hE dL_offerHolds_149 (by decide) ⟨by omega, by omega⟩ ⟨by omega, by omega⟩ (fun c4 => ?_) (fun c4 => ?_)
          · exact by omega
          · refine z_goto (tgt := 176) hE (d := dL_offerHolds_152) (ht := by decide) ?_
            refine z_iconst hE dL_offerHolds_176 ?_
            refine z_goto (tgt := 181) hE (d := dL_offerHolds_177) (ht := by decide) ?_
            exact z_zret hE hR dL_offerHolds_181 (by decide) (congrArg (fun x => some (Value.int (i32 x))) (by first | rfl | exact (if_pos trivial).symm | exact if_pos trivial)) (by rfl)
      · rw [show rv_daysLeft ((S 0)) f = S 0 (645 + f) from by unfold rv_daysLeft; rw [if_pos (by omega), if_pos (by omega)]]
        have hd := iS.2.1 f hf.1 hf.2 h3
        refine z_istore hE (by decide) rfl dL_offerHolds_132 ?_
        refine z_iload hE 1 rfl dL_offerHolds_134 ?_
        refine z_if_eq (tgt := 180) hE dL_offerHolds_136 (by decide) ⟨by omega, by omega⟩ (fun c5 => absurd c5 (by decide)) (fun c5 => ?_)
        refine z_iload hE 2 rfl dL_offerHolds_139 ?_
        refine z_iconst hE dL_offerHolds_141 ?_
        refine z_icmp_ne (tgt := 155) hE dL_offerHolds_142 (by decide) ⟨by omega, by omega⟩ ⟨by omega, by omega⟩ (fun c6 => ?_) (fun c6 => ?_)
        · refine z_iload hE 0 rfl dL_offerHolds_155 ?_
          refine z_iconst hE dL_offerHolds_157 ?_
          refine z_icmp_lt (tgt := 180) hE dL_offerHolds_158 (by decide) ⟨by omega, by omega⟩ ⟨by omega, by omega⟩ (fun c7 => ?_) (fun c7 => ?_)
          · exact by omega
          · refine z_iload hE 0 rfl dL_offerHolds_161 ?_
            refine z_bipush (a := 10) hE (by decide) dL_offerHolds_163 ?_
            refine z_icmp_gt (tgt := 180) hE dL_offerHolds_165 (by decide) ⟨by omega, by omega⟩ ⟨by omega, by omega⟩ (fun c8 => ?_) (fun c8 => ?_)
            · exact by omega
            · have hr := hp.2.1 h3
              refine z_aload_n hE 3 rfl rfl dL_offerHolds_168 ?_
              refine z_iload_n hE 4 rfl rfl dL_offerHolds_169 ?_
              refine z_callV hE (c_X7_remaining l0 D0 cI0 cJ0 ad S f 0 (by decide) jS.1 iS (⟨by omega, by omega⟩)) (by decide) rfl rfl zm_L_42 zi_yX7_remaining zs_yX7_remaining zn_RX7 zc_yX7_remaining (hy_X7_remaining) (Nat.le_of_ble_eq_true rfl) (Nat.le_of_ble_eq_true rfl) rfl rfl rfl (Nat.le_of_ble_eq_true rfl) dL_offerHolds_170 ?_
              rw [show rv_remaining ((S 0)) f = S 0 (57 + 22 * f) from if_pos (by omega)]
              refine z_if_le (tgt := 180) hE dL_offerHolds_173 (by decide) ⟨by omega, by omega⟩ (fun c9 => ?_) (fun c9 => ?_)
              · exact by omega
              · refine z_iconst hE dL_offerHolds_176 ?_
                refine z_goto (tgt := 181) hE (d := dL_offerHolds_177) (ht := by decide) ?_
                exact z_zret hE hR dL_offerHolds_181 (by decide) (congrArg (fun x => some (Value.int (i32 x))) (by first | rfl | exact (if_pos trivial).symm | exact if_pos trivial)) (by rfl)
        · exact by omega
    · refine z_iload hE 1 rfl dL_offerHolds_83 ?_
      refine z_if_eq (tgt := 127) hE dL_offerHolds_85 (by decide) ⟨by omega, by omega⟩ (fun c10 => absurd c10 (by decide)) (fun c10 => ?_)
      have hk := inC iS.1 f j (by omega) (by omega) (by omega) (by omega)
      refine z_aload_n hE 3 rfl rfl dL_offerHolds_88 ?_
      refine z_iload_n hE 4 rfl rfl dL_offerHolds_89 ?_
      refine z_iload hE 0 rfl dL_offerHolds_90 ?_
      refine z_callV hE (c_X7_claimOf l0 D0 cI0 cJ0 ad S f j 0 (by decide) jS.1 iS (⟨by omega, by omega⟩) (⟨by omega, by omega⟩)) (by decide) rfl rfl zm_L_45 zi_yX7_claimOf zs_yX7_claimOf zn_RX7 zc_yX7_claimOf (hy_X7_claimOf) (Nat.le_of_ble_eq_true rfl) (Nat.le_of_ble_eq_true rfl) rfl rfl rfl (Nat.le_of_ble_eq_true rfl) dL_offerHolds_92 ?_
      rw [show rv_claimOf ((S 0)) f j = S 0 (65 + 22 * f + j) from if_pos (by omega)]
      refine z_if_lt (tgt := 118) hE dL_offerHolds_95 (by decide) ⟨by omega, by omega⟩ (fun c11 => ?_) (fun c11 => ?_)
      · exact by omega
      · refine z_iload hE 2 rfl dL_offerHolds_98 ?_
        refine z_iconst hE dL_offerHolds_100 ?_
        refine z_icmp_lt (tgt := 114) hE dL_offerHolds_101 (by decide) ⟨by omega, by omega⟩ ⟨by omega, by omega⟩ (fun c12 => ?_) (fun c12 => ?_)
        · refine z_iconst hE dL_offerHolds_114 ?_
          refine z_goto (tgt := 119) hE (d := dL_offerHolds_115) (ht := by decide) ?_
          refine z_istore hE (by decide) rfl dL_offerHolds_119 ?_
          refine z_iinc hE 1 rfl (by decide) rfl dL_offerHolds_121 ?_
          refine z_goto (tgt := 74) hE (d := dL_offerHolds_124) (ht := by decide) ?_
          refine z_L (L' := [(6, .int (i32 (j + 1))), (5, .int (i32 1)), (4, .int (i32 (S 0 (59 + 22 * f)))), (0, .ref (ad 5 22)), (1, .int (i32 f)), (2, .int (i32 count))]) [0, 1, 2, 3, 4, 5] (by rfl) ?_
          exact ih (j + 1) ⟨by omega, by omega⟩ (by omega)
        · have hz := hp.2.2 (by omega) j (by omega) (by omega)
          refine z_aload_n hE 3 rfl rfl dL_offerHolds_104 ?_
          refine z_iload_n hE 4 rfl rfl dL_offerHolds_105 ?_
          refine z_iload hE 0 rfl dL_offerHolds_106 ?_
          refine z_callV hE (c_X7_claimOf l0 D0 cI0 cJ0 ad S f j 0 (by decide) jS.1 iS (⟨by omega, by omega⟩) (⟨by omega, by omega⟩)) (by decide) rfl rfl zm_L_45 zi_yX7_claimOf zs_yX7_claimOf zn_RX7 zc_yX7_claimOf (hy_X7_claimOf) (Nat.le_of_ble_eq_true rfl) (Nat.le_of_ble_eq_true rfl) rfl rfl rfl (Nat.le_of_ble_eq_true rfl) dL_offerHolds_108 ?_
          rw [show rv_claimOf ((S 0)) f j = S 0 (65 + 22 * f + j) from if_pos (by omega)]
          refine z_if_ne (tgt := 118) hE dL_offerHolds_111 (by decide) ⟨by omega, by omega⟩ (fun c13 => ?_) (fun c13 => ?_)
          · exact by omega
          · refine z_iconst hE dL_offerHolds_114 ?_
            refine z_goto (tgt := 119) hE (d := dL_offerHolds_115) (ht := by decide) ?_
            refine z_istore hE (by decide) rfl dL_offerHolds_119 ?_
            refine z_iinc hE 1 rfl (by decide) rfl dL_offerHolds_121 ?_
            refine z_goto (tgt := 74) hE (d := dL_offerHolds_124) (ht := by decide) ?_
            refine z_L (L' := [(6, .int (i32 (j + 1))), (5, .int (i32 1)), (4, .int (i32 (S 0 (59 + 22 * f)))), (0, .ref (ad 5 22)), (1, .int (i32 f)), (2, .int (i32 count))]) [0, 1, 2, 3, 4, 5] (by rfl) ?_
            exact ih (j + 1) ⟨by omega, by omega⟩ (by omega)
set_option maxHeartbeats 4000000 in
set_option maxRecDepth 100000 in
theorem lp_L_offerHolds_a {E : zE} {l0 : Launch} {D0 : va_G} {cI0 cJ0 : ClassId} {ad : Nat → Nat → Nat} (hE : zG E l0 D0 cI0 cJ0 ad cL_offerHolds 7 RL 2 44) (S : zM) (f : Int) (count : Int) (jS : RJ S) (iS : Inv (S 0)) (h4 : S 0 0 = 4) (hf : 0 ≤ f ∧ f < S 0 14) (hc : count = fr_tot (S 0) f) (hb : 1 ≤ count ∧ count ≤ 1000) (hp : PO (S 0) f) (hR : zR E (some .boolean) (some (.int (i32 (zbo (True))))) (fun X => X = S)) : ∀ (fuel : Nat) (k : Int) (h9 : 0 ≤ k ∧ k ≤ 4), (4 - k).toNat < fuel → Z E S 5 [(4, .int (i32 k)), (3, .int (i32 (sm (fun w => S 0 (61 + 22 * f + w)) k))), (0, .ref (ad 5 22)), (1, .int (i32 f)), (2, .int (i32 count))] [] := by
  intro fuel
  induction fuel with
  | zero => intro _ _ hz; omega
  | succ fuel ih =>
    intro k h9 hz
    have aS := inA iS.1
    unfold InvA at aS
    have ho := inO iS.1 f hf.1 hf.2
    have hc0 := hc
    unfold fr_tot at hc
    refine z_iload hE 0 rfl dL_offerHolds_5 ?_
    refine z_iconst hE dL_offerHolds_7 ?_
    refine z_icmp_ge (tgt := 27) hE dL_offerHolds_8 (by decide) ⟨by omega, by omega⟩ ⟨by omega, by omega⟩ (fun c1 => ?_) (fun c1 => ?_)
    · have e4 : k = 4 := by omega
      subst e4
      refine z_aload_n hE 2 rfl rfl dL_offerHolds_27 ?_
      refine z_iload_n hE 3 rfl rfl dL_offerHolds_28 ?_
      refine z_callV hE (c_X7_stage l0 D0 cI0 cJ0 ad S f 0 (by decide) jS.1 iS (⟨by omega, by omega⟩)) (by decide) rfl rfl zm_L_38 zi_yX7_stage zs_yX7_stage zn_RX7 zc_yX7_stage (hy_X7_stage) (Nat.le_of_ble_eq_true rfl) (Nat.le_of_ble_eq_true rfl) rfl rfl rfl (Nat.le_of_ble_eq_true rfl) dL_offerHolds_29 ?_
      rw [show rv_stage ((S 0)) f = S 0 (59 + 22 * f) from if_pos (by omega)]
      refine z_istore hE (by decide) rfl dL_offerHolds_32 ?_
      refine z_iload hE 0 rfl dL_offerHolds_34 ?_
      refine z_if_lt (tgt := 68) hE dL_offerHolds_36 (by decide) ⟨by omega, by omega⟩ (fun c2 => ?_) (fun c2 => ?_)
      · exact by omega
      · refine z_iload hE 0 rfl dL_offerHolds_39 ?_
        refine z_iconst hE dL_offerHolds_41 ?_
        refine z_icmp_gt (tgt := 68) hE dL_offerHolds_42 (by decide) ⟨by omega, by omega⟩ ⟨by omega, by omega⟩ (fun c3 => ?_) (fun c3 => ?_)
        · exact by omega
        · refine z_iload_n hE 1 rfl rfl dL_offerHolds_45 ?_
          refine z_aload_n hE 2 rfl rfl dL_offerHolds_46 ?_
          refine z_iload_n hE 3 rfl rfl dL_offerHolds_47 ?_
          refine z_callV hE (c_X7_remaining l0 D0 cI0 cJ0 ad S f 0 (by decide) jS.1 iS (⟨by omega, by omega⟩)) (by decide) rfl rfl zm_L_42 zi_yX7_remaining zs_yX7_remaining zn_RX7 zc_yX7_remaining (hy_X7_remaining) (Nat.le_of_ble_eq_true rfl) (Nat.le_of_ble_eq_true rfl) rfl rfl rfl (Nat.le_of_ble_eq_true rfl) dL_offerHolds_48 ?_
          rw [show rv_remaining ((S 0)) f = S 0 (57 + 22 * f) from if_pos (by omega)]
          refine z_iadd hE dL_offerHolds_51 ?_
          refine z_iload_n hE 4 rfl rfl dL_offerHolds_52 ?_
          refine z_icmp_ne (tgt := 68) hE dL_offerHolds_53 (by decide) ⟨by omega, by omega⟩ ⟨by omega, by omega⟩ (fun c4 => ?_) (fun c4 => ?_)
          · exact by omega
          · refine z_aload_n hE 2 rfl rfl dL_offerHolds_56 ?_
            refine z_iload_n hE 3 rfl rfl dL_offerHolds_57 ?_
            refine z_callV hE (c_X7_remaining l0 D0 cI0 cJ0 ad S f 0 (by decide) jS.1 iS (⟨by omega, by omega⟩)) (by decide) rfl rfl zm_L_42 zi_yX7_remaining zs_yX7_remaining zn_RX7 zc_yX7_remaining (hy_X7_remaining) (Nat.le_of_ble_eq_true rfl) (Nat.le_of_ble_eq_true rfl) rfl rfl rfl (Nat.le_of_ble_eq_true rfl) dL_offerHolds_58 ?_
            rw [show rv_remaining ((S 0)) f = S 0 (57 + 22 * f) from if_pos (by omega)]
            refine z_if_lt (tgt := 68) hE dL_offerHolds_61 (by decide) ⟨by omega, by omega⟩ (fun c5 => ?_) (fun c5 => ?_)
            · exact by omega
            · refine z_iconst hE dL_offerHolds_64 ?_
              refine z_goto (tgt := 69) hE (d := dL_offerHolds_65) (ht := by decide) ?_
              refine z_istore hE (by decide) rfl dL_offerHolds_69 ?_
              refine z_iconst hE dL_offerHolds_71 ?_
              refine z_istore hE (by decide) rfl dL_offerHolds_72 ?_
              refine z_L (L' := [(6, .int (i32 0)), (5, .int (i32 1)), (4, .int (i32 (S 0 (59 + 22 * f)))), (0, .ref (ad 5 22)), (1, .int (i32 f)), (2, .int (i32 count))]) [0, 1, 2, 4, 5, 6] (by rfl) ?_
              exact lp_L_offerHolds_b hE S f count jS iS h4 hf hc0 hb hp hR 5 0 ⟨by omega, by omega⟩ (by omega)
    · refine z_iload_n hE 1 rfl rfl dL_offerHolds_11 ?_
      refine z_aload_n hE 2 rfl rfl dL_offerHolds_12 ?_
      refine z_iload_n hE 3 rfl rfl dL_offerHolds_13 ?_
      refine z_iload hE 0 rfl dL_offerHolds_14 ?_
      refine z_callV hE (c_X7_sold l0 D0 cI0 cJ0 ad S f k 0 (by decide) jS.1 iS (⟨by omega, by omega⟩) (⟨by omega, by omega⟩)) (by decide) rfl rfl zm_L_35 zi_yX7_sold zs_yX7_sold zn_RX7 zc_yX7_sold (hy_X7_sold) (Nat.le_of_ble_eq_true rfl) (Nat.le_of_ble_eq_true rfl) rfl rfl rfl (Nat.le_of_ble_eq_true rfl) dL_offerHolds_16 ?_
      rw [show rv_sold ((S 0)) f k = S 0 (61 + 22 * f + k) from if_pos (by omega)]
      refine z_iadd hE dL_offerHolds_19 ?_
      refine z_istore_n hE rfl (by decide) rfl dL_offerHolds_20 ?_
      refine z_iinc hE 1 rfl (by decide) rfl dL_offerHolds_21 ?_
      refine z_goto (tgt := 5) hE (d := dL_offerHolds_24) (ht := by decide) ?_
      refine z_L (L' := [(4, .int (i32 (k + 1))), (3, .int (i32 (sm (fun w => S 0 (61 + 22 * f + w)) (k + 1)))), (0, .ref (ad 5 22)), (1, .int (i32 f)), (2, .int (i32 count))]) [0, 1, 2, 3, 4] (by rw [show sm (fun w => S 0 (61 + 22 * f + w)) (k + 1) = (sm (fun w => S 0 (61 + 22 * f + w)) k) + (S 0 (61 + 22 * f + k)) from by first | rfl | (exact sm_s h9.1)]; rfl) ?_
      exact ih (k + 1) ⟨by omega, by omega⟩ (by omega)
set_option maxHeartbeats 4000000 in
set_option maxRecDepth 100000 in
theorem c_L_offerHolds (l0 : Launch) (D0 : va_G) (cI0 cJ0 : ClassId) (ad : Nat → Nat → Nat) (S : zM) (f : Int) (count : Int) (jS : RJ S) (iS : Inv (S 0)) (h4 : S 0 0 = 4) (hf : 0 ≤ f ∧ f < S 0 14) (hc : count = fr_tot (S 0) f) (hb : 1 ≤ count ∧ count ≤ 1000) (hp : PO (S 0) f) : Ct l0 D0 cI0 cJ0 ad yL_offerHolds cL_offerHolds 7 (some .boolean) 2 44 [.ref (ad 5 22), .int (i32 f), .int (i32 count)] S (some (.int (i32 (zbo (True))))) (fun X => X = S) := by
  refine Ct.of (by decide) (Nat.le_of_ble_eq_true rfl) (fun E hE hR => ?_)
  have hE : zG E l0 D0 cI0 cJ0 ad cL_offerHolds 7 RL 2 44 := hE
  show Z E S 0 [(0, .ref (ad 5 22)), (1, .int (i32 f)), (2, .int (i32 count))] []
  have aS := inA iS.1
  unfold InvA at aS
  have ho := inO iS.1 f hf.1 hf.2
  have hc0 := hc
  unfold fr_tot at hc
  refine z_iconst hE dL_offerHolds_0 ?_
  refine z_istore_n hE rfl (by decide) rfl dL_offerHolds_1 ?_
  refine z_iconst hE dL_offerHolds_2 ?_
  refine z_istore hE (by decide) rfl dL_offerHolds_3 ?_
  refine z_L (L' := [(4, .int (i32 0)), (3, .int (i32 (sm (fun w => S 0 (61 + 22 * f + w)) 0))), (0, .ref (ad 5 22)), (1, .int (i32 f)), (2, .int (i32 count))]) [0, 1, 2, 3, 4] (by rw [show sm (fun w => S 0 (61 + 22 * f + w)) 0 = 0 from by first | rfl | (exact sm_0 _)]; rfl) ?_
  exact lp_L_offerHolds_a hE S f count jS iS h4 hf hc0 hb hp hR 5 0 ⟨by omega, by omega⟩ (by omega)
