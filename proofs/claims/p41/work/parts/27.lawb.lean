theorem dL_holds_0 : decode cL_holds 0 = .ok (.aload_n 0, 1) := by decide +kernel
theorem dL_holds_1 : decode cL_holds 1 = .ok (.invokevirtual 52, 3) := by decide +kernel
theorem dL_holds_4 : decode cL_holds 4 = .ok (.istore_n 3, 1) := by decide +kernel
theorem dL_holds_5 : decode cL_holds 5 = .ok (.aload_n 0, 1) := by decide +kernel
theorem dL_holds_6 : decode cL_holds 6 = .ok (.invokevirtual 52, 3) := by decide +kernel
theorem dL_holds_9 : decode cL_holds 9 = .ok (.ifCond .lt 17, 3) := by decide +kernel
theorem dL_holds_12 : decode cL_holds 12 = .ok (.aload_n 0, 1) := by decide +kernel
theorem dL_holds_13 : decode cL_holds 13 = .ok (.invokevirtual 55, 3) := by decide +kernel
theorem dL_holds_16 : decode cL_holds 16 = .ok (.sipush 10000, 3) := by decide +kernel
theorem dL_holds_19 : decode cL_holds 19 = .ok (.if_icmp .gt 7, 3) := by decide +kernel
theorem dL_holds_22 : decode cL_holds 22 = .ok (.iconst 1, 1) := by decide +kernel
theorem dL_holds_23 : decode cL_holds 23 = .ok (.goto 4, 3) := by decide +kernel
theorem dL_holds_26 : decode cL_holds 26 = .ok (.iconst 0, 1) := by decide +kernel
theorem dL_holds_27 : decode cL_holds 27 = .ok (.istore 4, 2) := by decide +kernel
theorem dL_holds_29 : decode cL_holds 29 = .ok (.iconst 0, 1) := by decide +kernel
theorem dL_holds_30 : decode cL_holds 30 = .ok (.istore 5, 2) := by decide +kernel
theorem dL_holds_32 : decode cL_holds 32 = .ok (.iload 5, 2) := by decide +kernel
theorem dL_holds_34 : decode cL_holds 34 = .ok (.aload_n 0, 1) := by decide +kernel
theorem dL_holds_35 : decode cL_holds 35 = .ok (.invokevirtual 28, 3) := by decide +kernel
theorem dL_holds_38 : decode cL_holds 38 = .ok (.if_icmp .ge 152, 3) := by decide +kernel
theorem dL_holds_41 : decode cL_holds 41 = .ok (.iload 4, 2) := by decide +kernel
theorem dL_holds_43 : decode cL_holds 43 = .ok (.ifCond .eq 147, 3) := by decide +kernel
theorem dL_holds_46 : decode cL_holds 46 = .ok (.iconst 0, 1) := by decide +kernel
theorem dL_holds_47 : decode cL_holds 47 = .ok (.istore 6, 2) := by decide +kernel
theorem dL_holds_49 : decode cL_holds 49 = .ok (.iconst 0, 1) := by decide +kernel
theorem dL_holds_50 : decode cL_holds 50 = .ok (.istore 7, 2) := by decide +kernel
theorem dL_holds_52 : decode cL_holds 52 = .ok (.iload 7, 2) := by decide +kernel
theorem dL_holds_54 : decode cL_holds 54 = .ok (.aload_n 0, 1) := by decide +kernel
theorem dL_holds_55 : decode cL_holds 55 = .ok (.invokevirtual 58, 3) := by decide +kernel
theorem dL_holds_58 : decode cL_holds 58 = .ok (.if_icmp .ge 43, 3) := by decide +kernel
theorem dL_holds_61 : decode cL_holds 61 = .ok (.iload 6, 2) := by decide +kernel
theorem dL_holds_63 : decode cL_holds 63 = .ok (.aload_n 2, 1) := by decide +kernel
theorem dL_holds_64 : decode cL_holds 64 = .ok (.iload 7, 2) := by decide +kernel
theorem dL_holds_66 : decode cL_holds 66 = .ok (.iaload, 1) := by decide +kernel
theorem dL_holds_67 : decode cL_holds 67 = .ok (.iload 5, 2) := by decide +kernel
theorem dL_holds_69 : decode cL_holds 69 = .ok (.if_icmp .ne 22, 3) := by decide +kernel
theorem dL_holds_72 : decode cL_holds 72 = .ok (.aload_n 0, 1) := by decide +kernel
theorem dL_holds_73 : decode cL_holds 73 = .ok (.iload 7, 2) := by decide +kernel
theorem dL_holds_75 : decode cL_holds 75 = .ok (.invokevirtual 38, 3) := by decide +kernel
theorem dL_holds_78 : decode cL_holds 78 = .ok (.iconst 3, 1) := by decide +kernel
theorem dL_holds_79 : decode cL_holds 79 = .ok (.if_icmp .ge 12, 3) := by decide +kernel
theorem dL_holds_82 : decode cL_holds 82 = .ok (.aload_n 0, 1) := by decide +kernel
theorem dL_holds_83 : decode cL_holds 83 = .ok (.iload 7, 2) := by decide +kernel
theorem dL_holds_85 : decode cL_holds 85 = .ok (.invokevirtual 42, 3) := by decide +kernel
theorem dL_holds_88 : decode cL_holds 88 = .ok (.goto 4, 3) := by decide +kernel
theorem dL_holds_91 : decode cL_holds 91 = .ok (.iconst 0, 1) := by decide +kernel
theorem dL_holds_92 : decode cL_holds 92 = .ok (.iadd, 1) := by decide +kernel
theorem dL_holds_93 : decode cL_holds 93 = .ok (.istore 6, 2) := by decide +kernel
theorem dL_holds_95 : decode cL_holds 95 = .ok (.iinc 7 1, 3) := by decide +kernel
theorem dL_holds_98 : decode cL_holds 98 = .ok (.goto (-46), 3) := by decide +kernel
theorem dL_holds_101 : decode cL_holds 101 = .ok (.aload_n 0, 1) := by decide +kernel
theorem dL_holds_102 : decode cL_holds 102 = .ok (.iload 5, 2) := by decide +kernel
theorem dL_holds_104 : decode cL_holds 104 = .ok (.invokevirtual 61, 3) := by decide +kernel
theorem dL_holds_107 : decode cL_holds 107 = .ok (.aload_n 0, 1) := by decide +kernel
theorem dL_holds_108 : decode cL_holds 108 = .ok (.iload 5, 2) := by decide +kernel
theorem dL_holds_110 : decode cL_holds 110 = .ok (.invokevirtual 64, 3) := by decide +kernel
theorem dL_holds_113 : decode cL_holds 113 = .ok (.isub, 1) := by decide +kernel
theorem dL_holds_114 : decode cL_holds 114 = .ok (.iload 6, 2) := by decide +kernel
theorem dL_holds_116 : decode cL_holds 116 = .ok (.isub, 1) := by decide +kernel
theorem dL_holds_117 : decode cL_holds 117 = .ok (.istore 7, 2) := by decide +kernel
theorem dL_holds_119 : decode cL_holds 119 = .ok (.aload_n 0, 1) := by decide +kernel
theorem dL_holds_120 : decode cL_holds 120 = .ok (.iload 5, 2) := by decide +kernel
theorem dL_holds_122 : decode cL_holds 122 = .ok (.invokevirtual 61, 3) := by decide +kernel
theorem dL_holds_125 : decode cL_holds 125 = .ok (.iload 6, 2) := by decide +kernel
theorem dL_holds_127 : decode cL_holds 127 = .ok (.if_icmp .lt 45, 3) := by decide +kernel
theorem dL_holds_130 : decode cL_holds 130 = .ok (.aload_n 0, 1) := by decide +kernel
theorem dL_holds_131 : decode cL_holds 131 = .ok (.iload 5, 2) := by decide +kernel
theorem dL_holds_133 : decode cL_holds 133 = .ok (.invokevirtual 67, 3) := by decide +kernel
theorem dL_holds_136 : decode cL_holds 136 = .ok (.ifCond .lt 36, 3) := by decide +kernel
theorem dL_holds_139 : decode cL_holds 139 = .ok (.aload_n 0, 1) := by decide +kernel
theorem dL_holds_140 : decode cL_holds 140 = .ok (.iload 5, 2) := by decide +kernel
theorem dL_holds_142 : decode cL_holds 142 = .ok (.invokevirtual 64, 3) := by decide +kernel
theorem dL_holds_145 : decode cL_holds 145 = .ok (.ifCond .lt 27, 3) := by decide +kernel
theorem dL_holds_148 : decode cL_holds 148 = .ok (.aload_n 0, 1) := by decide +kernel
theorem dL_holds_149 : decode cL_holds 149 = .ok (.iload 5, 2) := by decide +kernel
theorem dL_holds_151 : decode cL_holds 151 = .ok (.invokevirtual 70, 3) := by decide +kernel
theorem dL_holds_154 : decode cL_holds 154 = .ok (.iload 7, 2) := by decide +kernel
theorem dL_holds_156 : decode cL_holds 156 = .ok (.ifCond .le 8, 3) := by decide +kernel
theorem dL_holds_159 : decode cL_holds 159 = .ok (.iload 7, 2) := by decide +kernel
theorem dL_holds_161 : decode cL_holds 161 = .ok (.goto 4, 3) := by decide +kernel
theorem dL_holds_164 : decode cL_holds 164 = .ok (.iconst 0, 1) := by decide +kernel
theorem dL_holds_165 : decode cL_holds 165 = .ok (.if_icmp .ne 7, 3) := by decide +kernel
theorem dL_holds_168 : decode cL_holds 168 = .ok (.iconst 1, 1) := by decide +kernel
theorem dL_holds_169 : decode cL_holds 169 = .ok (.goto 4, 3) := by decide +kernel
theorem dL_holds_172 : decode cL_holds 172 = .ok (.iconst 0, 1) := by decide +kernel
theorem dL_holds_173 : decode cL_holds 173 = .ok (.istore 4, 2) := by decide +kernel
theorem dL_holds_175 : decode cL_holds 175 = .ok (.iload_n 3, 1) := by decide +kernel
theorem dL_holds_176 : decode cL_holds 176 = .ok (.aload_n 0, 1) := by decide +kernel
theorem dL_holds_177 : decode cL_holds 177 = .ok (.iload 5, 2) := by decide +kernel
theorem dL_holds_179 : decode cL_holds 179 = .ok (.invokevirtual 61, 3) := by decide +kernel
theorem dL_holds_182 : decode cL_holds 182 = .ok (.iadd, 1) := by decide +kernel
theorem dL_holds_183 : decode cL_holds 183 = .ok (.istore_n 3, 1) := by decide +kernel
theorem dL_holds_184 : decode cL_holds 184 = .ok (.iinc 5 1, 3) := by decide +kernel
theorem dL_holds_187 : decode cL_holds 187 = .ok (.goto (-155), 3) := by decide +kernel
theorem dL_holds_190 : decode cL_holds 190 = .ok (.iconst 0, 1) := by decide +kernel
theorem dL_holds_191 : decode cL_holds 191 = .ok (.istore 5, 2) := by decide +kernel
theorem dL_holds_193 : decode cL_holds 193 = .ok (.iload 5, 2) := by decide +kernel
theorem dL_holds_195 : decode cL_holds 195 = .ok (.aload_n 0, 1) := by decide +kernel
theorem dL_holds_196 : decode cL_holds 196 = .ok (.invokevirtual 58, 3) := by decide +kernel
theorem dL_holds_199 : decode cL_holds 199 = .ok (.if_icmp .ge 26, 3) := by decide +kernel
theorem dL_holds_202 : decode cL_holds 202 = .ok (.iload 4, 2) := by decide +kernel
theorem dL_holds_204 : decode cL_holds 204 = .ok (.ifCond .eq 21, 3) := by decide +kernel
theorem dL_holds_207 : decode cL_holds 207 = .ok (.aload_n 0, 1) := by decide +kernel
theorem dL_holds_208 : decode cL_holds 208 = .ok (.iload 5, 2) := by decide +kernel
theorem dL_holds_210 : decode cL_holds 210 = .ok (.aload_n 1, 1) := by decide +kernel
theorem dL_holds_211 : decode cL_holds 211 = .ok (.iload 5, 2) := by decide +kernel
theorem dL_holds_213 : decode cL_holds 213 = .ok (.iaload, 1) := by decide +kernel
theorem dL_holds_214 : decode cL_holds 214 = .ok (.invokestatic 73, 3) := by decide +kernel
theorem dL_holds_217 : decode cL_holds 217 = .ok (.istore 4, 2) := by decide +kernel
theorem dL_holds_219 : decode cL_holds 219 = .ok (.iinc 5 1, 3) := by decide +kernel
theorem dL_holds_222 : decode cL_holds 222 = .ok (.goto (-29), 3) := by decide +kernel
theorem dL_holds_225 : decode cL_holds 225 = .ok (.iload 4, 2) := by decide +kernel
theorem dL_holds_227 : decode cL_holds 227 = .ok (.ifCond .eq 15, 3) := by decide +kernel
theorem dL_holds_230 : decode cL_holds 230 = .ok (.iload_n 3, 1) := by decide +kernel
theorem dL_holds_231 : decode cL_holds 231 = .ok (.aload_n 0, 1) := by decide +kernel
theorem dL_holds_232 : decode cL_holds 232 = .ok (.invokevirtual 55, 3) := by decide +kernel
theorem dL_holds_235 : decode cL_holds 235 = .ok (.if_icmp .ne 7, 3) := by decide +kernel
theorem dL_holds_238 : decode cL_holds 238 = .ok (.iconst 1, 1) := by decide +kernel
theorem dL_holds_239 : decode cL_holds 239 = .ok (.goto 4, 3) := by decide +kernel
theorem dL_holds_242 : decode cL_holds 242 = .ok (.iconst 0, 1) := by decide +kernel
theorem dL_holds_243 : decode cL_holds 243 = .ok (.ireturn, 1) := by decide +kernel
theorem hy_L_holds : yL_holds.cls ≠ "java/lang/invoke/MethodHandle" ∧ yL_holds.cls ≠ "java/lang/invoke/VarHandle" ∧ (parseMethodDescriptor yL_holds.desc).map (fun d => d.parameters.length) = some 3 := ⟨by decide +kernel, by decide +kernel, by decide +kernel⟩
set_option maxHeartbeats 4000000 in
set_option maxRecDepth 100000 in
theorem lp_L_holds_c {E : zE} {l0 : Launch} {D0 : va_G} {cI0 cJ0 : ClassId} {ad : Nat → Nat → Nat} (hE : zG E l0 D0 cI0 cJ0 ad cL_holds 8 RL 5 108) (S : zM) (jS : RJ S) (iS : Inv (S 0)) (pS : PJ (S 0) (S 6)) (hR : zR E (some .boolean) (some (.int (i32 (zbo (True))))) (fun X => X = S)) : ∀ (fuel : Nat) (f : Int) (h9 : 0 ≤ f ∧ f ≤ S 0 14), (S 0 14 - f).toNat < fuel → Z E S 193 [(5, .int (i32 f)), (4, .int (i32 1)), (3, .int (i32 (sp_all (S 0)))), (0, .ref (ad 5 22)), (1, .ref (ad 6 27)), (2, .ref (ad 6 28))] [] := by
  intro fuel
  induction fuel with
  | zero => intro _ _ hz; omega
  | succ fuel ih =>
    intro f h9 hz
    have aS := inA iS.1
    unfold InvA at aS
    have hT := inT iS.1
    have hT2 := inTr iS.1
    have h4 := pS.1
    refine z_iload hE 0 rfl dL_holds_193 ?_
    refine z_aload_n hE 3 rfl rfl dL_holds_195 ?_
    refine z_callV hE (c_X7_offerCount l0 D0 cI0 cJ0 ad S 0 (by decide) jS.1 iS) (by decide) rfl rfl zm_L_58 zi_yX7_offerCount zs_yX7_offerCount zn_RX7 zc_yX7_offerCount (hy_X7_offerCount) (Nat.le_of_ble_eq_true rfl) (Nat.le_of_ble_eq_true rfl) rfl rfl rfl (Nat.le_of_ble_eq_true rfl) dL_holds_196 ?_
    refine z_icmp_ge (tgt := 225) hE dL_holds_199 (by decide) ⟨by omega, by omega⟩ ⟨by omega, by omega⟩ (fun c1 => ?_) (fun c1 => ?_)
    · refine z_iload hE 1 rfl dL_holds_225 ?_
      refine z_if_eq (tgt := 242) hE dL_holds_227 (by decide) ⟨by omega, by omega⟩ (fun c2 => absurd c2 (by decide)) (fun c2 => ?_)
      refine z_iload_n hE 2 rfl rfl dL_holds_230 ?_
      refine z_aload_n hE 3 rfl rfl dL_holds_231 ?_
      refine z_callV hE (c_X7_allShares l0 D0 cI0 cJ0 ad S 0 (by decide) jS.1 iS) (by decide) rfl rfl zm_L_55 zi_yX7_allShares zs_yX7_allShares zn_RX7 zc_yX7_allShares (hy_X7_allShares) (Nat.le_of_ble_eq_true rfl) (Nat.le_of_ble_eq_true rfl) rfl rfl rfl (Nat.le_of_ble_eq_true rfl) dL_holds_232 ?_
      refine z_icmp_ne (tgt := 242) hE dL_holds_235 (by decide) ⟨by omega, by omega⟩ ⟨by omega, by omega⟩ (fun c3 => ?_) (fun c3 => ?_)
      · exact by omega
      · refine z_iconst hE dL_holds_238 ?_
        refine z_goto (tgt := 243) hE (d := dL_holds_239) (ht := by decide) ?_
        exact z_zret hE hR dL_holds_243 (by decide) (congrArg (fun x => some (Value.int (i32 x))) (by first | rfl | exact (if_pos trivial).symm | exact if_pos trivial)) (by rfl)
    · refine z_iload hE 1 rfl dL_holds_202 ?_
      refine z_if_eq (tgt := 225) hE dL_holds_204 (by decide) ⟨by omega, by omega⟩ (fun c4 => absurd c4 (by decide)) (fun c4 => ?_)
      obtain ⟨hf1, hf2, hf3, hf4⟩ := pS.2 f (by omega) (by omega)
      refine z_aload_n hE 3 rfl rfl dL_holds_207 ?_
      refine z_iload hE 0 rfl dL_holds_208 ?_
      refine z_aload_n hE 4 rfl rfl dL_holds_210 ?_
      refine z_iload hE 0 rfl dL_holds_211 ?_
      refine al_27 hE (by decide) (by omega) (by omega) dL_holds_213 ?_
      refine z_callS hE (c_L_offerHolds l0 D0 cI0 cJ0 ad S f (S 6 (100 + f)) jS iS h4 (⟨by omega, by omega⟩) hf2 hf3 hf4) zm_L_73 zt_yL_offerHolds zn_RL zc_yL_offerHolds (hy_L_offerHolds) (Nat.le_of_ble_eq_true rfl) (Nat.le_of_ble_eq_true rfl) rfl rfl rfl (Nat.le_of_ble_eq_true rfl) dL_holds_214 ?_
      rw [zbo_T]
      refine z_istore hE (by decide) rfl dL_holds_217 ?_
      refine z_iinc hE 1 rfl (by decide) rfl dL_holds_219 ?_
      refine z_goto (tgt := 193) hE (d := dL_holds_222) (ht := by decide) ?_
      refine z_L (L' := [(5, .int (i32 (f + 1))), (4, .int (i32 1)), (3, .int (i32 (sp_all (S 0)))), (0, .ref (ad 5 22)), (1, .ref (ad 6 27)), (2, .ref (ad 6 28))]) [0, 1, 2, 3, 4, 5] (by rfl) ?_
      exact ih (f + 1) ⟨by omega, by omega⟩ (by omega)
set_option maxHeartbeats 4000000 in
set_option maxRecDepth 100000 in
theorem lp_L_holds_b {E : zE} {l0 : Launch} {D0 : va_G} {cI0 cJ0 : ClassId} {ad : Nat → Nat → Nat} (hE : zG E l0 D0 cI0 cJ0 ad cL_holds 8 RL 5 108) (S : zM) (jS : RJ S) (iS : Inv (S 0)) (pS : PJ (S 0) (S 6)) (hR : zR E (some .boolean) (some (.int (i32 (zbo (True))))) (fun X => X = S)) : ∀ (fuel : Nat) (k : Int) (f : Int) (h8 : 0 ≤ k ∧ k < S 0 0) (h9 : 0 ≤ f ∧ f ≤ S 0 14) (kk : Z E S 101 [(6, .int (i32 (sp_rem (S 0) k))), (5, .int (i32 k)), (4, .int (i32 1)), (3, .int (i32 (S 0 2 + sm (fun x => S 0 (19 + 3 * x)) k))), (0, .ref (ad 5 22)), (1, .ref (ad 6 27)), (2, .ref (ad 6 28))] []), (S 0 14 - f).toNat < fuel → Z E S 52 [(7, .int (i32 f)), (6, .int (i32 (sm (sp_ro (S 0) k) f))), (5, .int (i32 k)), (4, .int (i32 1)), (3, .int (i32 (S 0 2 + sm (fun x => S 0 (19 + 3 * x)) k))), (0, .ref (ad 5 22)), (1, .ref (ad 6 27)), (2, .ref (ad 6 28))] [] := by
  intro fuel
  induction fuel with
  | zero => intro _ _ _ _ _ hz; omega
  | succ fuel ih =>
    intro k f h8 h9 kk hz
    have aS := inA iS.1
    unfold InvA at aS
    have hT := inT iS.1
    have hT2 := inTr iS.1
    have h4 := pS.1
    refine z_iload hE 0 rfl dL_holds_52 ?_
    refine z_aload_n hE 5 rfl rfl dL_holds_54 ?_
    refine z_callV hE (c_X7_offerCount l0 D0 cI0 cJ0 ad S 0 (by decide) jS.1 iS) (by decide) rfl rfl zm_L_58 zi_yX7_offerCount zs_yX7_offerCount zn_RX7 zc_yX7_offerCount (hy_X7_offerCount) (Nat.le_of_ble_eq_true rfl) (Nat.le_of_ble_eq_true rfl) rfl rfl rfl (Nat.le_of_ble_eq_true rfl) dL_holds_55 ?_
    refine z_icmp_ge (tgt := 101) hE dL_holds_58 (by decide) ⟨by omega, by omega⟩ ⟨by omega, by omega⟩ (fun c1 => ?_) (fun c1 => ?_)
    · have ef : f = S 0 14 := by omega
      rw [ef]
      refine z_L (L' := [(6, .int (i32 (sp_rem (S 0) k))), (5, .int (i32 k)), (4, .int (i32 1)), (3, .int (i32 (S 0 2 + sm (fun x => S 0 (19 + 3 * x)) k))), (0, .ref (ad 5 22)), (1, .ref (ad 6 27)), (2, .ref (ad 6 28))]) [1, 2, 3, 4, 5, 6, 7] (by rfl) ?_
      exact kk
    · have hf := pS.2 f (by omega) (by omega)
      have ho := inO iS.1 f (by omega) (by omega)
      refine z_iload hE 1 rfl dL_holds_61 ?_
      refine z_aload_n hE 7 rfl rfl dL_holds_63 ?_
      refine z_iload hE 0 rfl dL_holds_64 ?_
      refine al_28 hE (by decide) (by omega) (by omega) dL_holds_66 ?_
      refine z_iload hE 2 rfl dL_holds_67 ?_
      refine z_icmp_ne (tgt := 91) hE dL_holds_69 (by decide) ⟨by omega, by omega⟩ ⟨by omega, by omega⟩ (fun c2 => ?_) (fun c2 => ?_)
      · refine z_iconst hE dL_holds_91 ?_
        refine z_iadd hE dL_holds_92 ?_
        refine z_istore hE (by decide) rfl dL_holds_93 ?_
        refine z_iinc hE 1 rfl (by decide) rfl dL_holds_95 ?_
        refine z_goto (tgt := 52) hE (d := dL_holds_98) (ht := by decide) ?_
        refine z_L (L' := [(7, .int (i32 (f + 1))), (6, .int (i32 (sm (sp_ro (S 0) k) (f + 1)))), (5, .int (i32 k)), (4, .int (i32 1)), (3, .int (i32 (S 0 2 + sm (fun x => S 0 (19 + 3 * x)) k))), (0, .ref (ad 5 22)), (1, .ref (ad 6 27)), (2, .ref (ad 6 28))]) [0, 1, 2, 3, 4, 5, 6, 7] (by rw [show sm (sp_ro (S 0) k) (f + 1) = (sm (sp_ro (S 0) k) f) + 0 from by first | rfl | ((rw [sm_s h9.1]; unfold sp_ro; first | rw [if_pos ⟨by omega, by omega⟩] | (rw [if_neg (by omega)])))]; rfl) ?_
        exact ih k (f + 1) h8 ⟨by omega, by omega⟩ kk (by omega)
      · refine z_aload_n hE 5 rfl rfl dL_holds_72 ?_
        refine z_iload hE 0 rfl dL_holds_73 ?_
        refine z_callV hE (c_X7_stage l0 D0 cI0 cJ0 ad S f 0 (by decide) jS.1 iS (⟨by omega, by omega⟩)) (by decide) rfl rfl zm_L_38 zi_yX7_stage zs_yX7_stage zn_RX7 zc_yX7_stage (hy_X7_stage) (Nat.le_of_ble_eq_true rfl) (Nat.le_of_ble_eq_true rfl) rfl rfl rfl (Nat.le_of_ble_eq_true rfl) dL_holds_75 ?_
        rw [show rv_stage ((S 0)) f = S 0 (59 + 22 * f) from if_pos (by omega)]
        refine z_iconst hE dL_holds_78 ?_
        refine z_icmp_ge (tgt := 91) hE dL_holds_79 (by decide) ⟨by omega, by omega⟩ ⟨by omega, by omega⟩ (fun c3 => ?_) (fun c3 => ?_)
        · refine z_iconst hE dL_holds_91 ?_
          refine z_iadd hE dL_holds_92 ?_
          refine z_istore hE (by decide) rfl dL_holds_93 ?_
          refine z_iinc hE 1 rfl (by decide) rfl dL_holds_95 ?_
          refine z_goto (tgt := 52) hE (d := dL_holds_98) (ht := by decide) ?_
          refine z_L (L' := [(7, .int (i32 (f + 1))), (6, .int (i32 (sm (sp_ro (S 0) k) (f + 1)))), (5, .int (i32 k)), (4, .int (i32 1)), (3, .int (i32 (S 0 2 + sm (fun x => S 0 (19 + 3 * x)) k))), (0, .ref (ad 5 22)), (1, .ref (ad 6 27)), (2, .ref (ad 6 28))]) [0, 1, 2, 3, 4, 5, 6, 7] (by rw [show sm (sp_ro (S 0) k) (f + 1) = (sm (sp_ro (S 0) k) f) + 0 from by first | rfl | ((rw [sm_s h9.1]; unfold sp_ro; first | rw [if_pos ⟨by omega, by omega⟩] | (rw [if_neg (by omega)])))]; rfl) ?_
          exact ih k (f + 1) h8 ⟨by omega, by omega⟩ kk (by omega)
        · refine z_aload_n hE 5 rfl rfl dL_holds_82 ?_
          refine z_iload hE 0 rfl dL_holds_83 ?_
          refine z_callV hE (c_X7_remaining l0 D0 cI0 cJ0 ad S f 0 (by decide) jS.1 iS (⟨by omega, by omega⟩)) (by decide) rfl rfl zm_L_42 zi_yX7_remaining zs_yX7_remaining zn_RX7 zc_yX7_remaining (hy_X7_remaining) (Nat.le_of_ble_eq_true rfl) (Nat.le_of_ble_eq_true rfl) rfl rfl rfl (Nat.le_of_ble_eq_true rfl) dL_holds_85 ?_
          rw [show rv_remaining ((S 0)) f = S 0 (57 + 22 * f) from if_pos (by omega)]
          refine z_goto (tgt := 92) hE (d := dL_holds_88) (ht := by decide) ?_
          refine z_iadd hE dL_holds_92 ?_
          refine z_istore hE (by decide) rfl dL_holds_93 ?_
          refine z_iinc hE 1 rfl (by decide) rfl dL_holds_95 ?_
          refine z_goto (tgt := 52) hE (d := dL_holds_98) (ht := by decide) ?_
          refine z_L (L' := [(7, .int (i32 (f + 1))), (6, .int (i32 (sm (sp_ro (S 0) k) (f + 1)))), (5, .int (i32 k)), (4, .int (i32 1)), (3, .int (i32 (S 0 2 + sm (fun x => S 0 (19 + 3 * x)) k))), (0, .ref (ad 5 22)), (1, .ref (ad 6 27)), (2, .ref (ad 6 28))]) [0, 1, 2, 3, 4, 5, 6, 7] (by rw [show sm (sp_ro (S 0) k) (f + 1) = (sm (sp_ro (S 0) k) f) + (S 0 (57 + 22 * f)) from by first | rfl | ((rw [sm_s h9.1]; unfold sp_ro; first | rw [if_pos ⟨by omega, by omega⟩] | (rw [if_neg (by omega)])))]; rfl) ?_
          exact ih k (f + 1) h8 ⟨by omega, by omega⟩ kk (by omega)
set_option maxHeartbeats 4000000 in
set_option maxRecDepth 100000 in
theorem lp_L_holds_a {E : zE} {l0 : Launch} {D0 : va_G} {cI0 cJ0 : ClassId} {ad : Nat → Nat → Nat} (hE : zG E l0 D0 cI0 cJ0 ad cL_holds 8 RL 5 108) (S : zM) (jS : RJ S) (iS : Inv (S 0)) (pS : PJ (S 0) (S 6)) (hR : zR E (some .boolean) (some (.int (i32 (zbo (True))))) (fun X => X = S)) : ∀ (fuel : Nat) (k : Int) (h9 : 0 ≤ k ∧ k ≤ S 0 0), (S 0 0 - k).toNat < fuel → Z E S 32 [(5, .int (i32 k)), (4, .int (i32 1)), (3, .int (i32 (S 0 2 + sm (fun x => S 0 (19 + 3 * x)) k))), (0, .ref (ad 5 22)), (1, .ref (ad 6 27)), (2, .ref (ad 6 28))] [] := by
  intro fuel
  induction fuel with
  | zero => intro _ _ hz; omega
  | succ fuel ih =>
    intro k h9 hz
    have aS := inA iS.1
    unfold InvA at aS
    have hT := inT iS.1
    have hT2 := inTr iS.1
    have h4 := pS.1
    refine z_iload hE 0 rfl dL_holds_32 ?_
    refine z_aload_n hE 3 rfl rfl dL_holds_34 ?_
    refine z_callV hE (c_X7_memberCount l0 D0 cI0 cJ0 ad S 0 (by decide) jS.1 iS) (by decide) rfl rfl zm_L_28 zi_yX7_memberCount zs_yX7_memberCount zn_RX7 zc_yX7_memberCount (hy_X7_memberCount) (Nat.le_of_ble_eq_true rfl) (Nat.le_of_ble_eq_true rfl) rfl rfl rfl (Nat.le_of_ble_eq_true rfl) dL_holds_35 ?_
    refine z_icmp_ge (tgt := 190) hE dL_holds_38 (by decide) ⟨by omega, by omega⟩ ⟨by omega, by omega⟩ (fun c1 => ?_) (fun c1 => ?_)
    · have ek : k = S 0 0 := by omega
      subst ek
      refine z_iconst hE dL_holds_190 ?_
      refine z_istore hE (by decide) rfl dL_holds_191 ?_
      refine z_L (L' := [(5, .int (i32 0)), (4, .int (i32 1)), (3, .int (i32 (sp_all (S 0)))), (0, .ref (ad 5 22)), (1, .ref (ad 6 27)), (2, .ref (ad 6 28))]) [0, 1, 2, 3, 4, 5] (by rw [show sp_all (S 0) = S 0 2 + sm (fun x => S 0 (19 + 3 * x)) (S 0 0) from by first | rfl | (rfl)]; rfl) ?_
      exact lp_L_holds_c hE S jS iS pS hR 21 0 ⟨by omega, by omega⟩ (by omega)
    · refine z_iload hE 1 rfl dL_holds_41 ?_
      refine z_if_eq (tgt := 190) hE dL_holds_43 (by decide) ⟨by omega, by omega⟩ (fun c2 => absurd c2 (by decide)) (fun c2 => ?_)
      refine z_iconst hE dL_holds_46 ?_
      refine z_istore hE (by decide) rfl dL_holds_47 ?_
      refine z_iconst hE dL_holds_49 ?_
      refine z_istore hE (by decide) rfl dL_holds_50 ?_
      refine z_L (L' := [(7, .int (i32 0)), (6, .int (i32 (sm (sp_ro (S 0) k) 0))), (5, .int (i32 k)), (4, .int (i32 1)), (3, .int (i32 (S 0 2 + sm (fun x => S 0 (19 + 3 * x)) k))), (0, .ref (ad 5 22)), (1, .ref (ad 6 27)), (2, .ref (ad 6 28))]) [0, 1, 2, 3, 4, 5, 6, 7] (by rw [show sm (sp_ro (S 0) k) 0 = 0 from by first | rfl | (exact sm_0 _)]; rfl) ?_
      refine lp_L_holds_b hE S jS iS pS hR 21 k 0 ⟨by omega, by omega⟩ ⟨by omega, by omega⟩ ?_ (by omega)
      have hB := inB iS.1 k (by omega) (by omega)
      have hm := inM iS.1 (show 0 ≤ k by omega) (show k < 12 by omega)
      have hq := req_b iS.1 (show 0 ≤ k by omega) (show k < 12 by omega)
      have hrb := rem_b iS.1 k
      have hro := room_b iS.1 (show 0 ≤ k by omega) (show k < 12 by omega)
      have hfr : sp_free (S 0) k = max (S 0 (19 + 3 * k) - (sp_req (S 0) k + sp_rem (S 0) k)) 0 := rfl
      refine z_aload_n hE 4 rfl rfl dL_holds_101 ?_
      refine z_iload hE 1 rfl dL_holds_102 ?_
      refine z_callV hE (c_X7_shares l0 D0 cI0 cJ0 ad S k 0 (by decide) jS.1 iS (⟨by omega, by omega⟩)) (by decide) rfl rfl zm_L_61 zi_yX7_shares zs_yX7_shares zn_RX7 zc_yX7_shares (hy_X7_shares) (Nat.le_of_ble_eq_true rfl) (Nat.le_of_ble_eq_true rfl) rfl rfl rfl (Nat.le_of_ble_eq_true rfl) dL_holds_104 ?_
      rw [show rv_shares ((S 0)) k = S 0 (19 + 3 * k) from if_pos (by omega)]
      refine z_aload_n hE 4 rfl rfl dL_holds_107 ?_
      refine z_iload hE 1 rfl dL_holds_108 ?_
      refine z_callV hE (c_X7_requirement l0 D0 cI0 cJ0 ad S k 0 (by decide) jS.1 iS (⟨by omega, by omega⟩)) (by decide) rfl rfl zm_L_64 zi_yX7_requirement zs_yX7_requirement zn_RX7 zc_yX7_requirement (hy_X7_requirement) (Nat.le_of_ble_eq_true rfl) (Nat.le_of_ble_eq_true rfl) rfl rfl rfl (Nat.le_of_ble_eq_true rfl) dL_holds_110 ?_
      rw [show rv_requirement ((S 0)) k = sp_req (S 0) k from if_pos (by omega)]
      refine z_isub hE dL_holds_113 ?_
      refine z_iload hE 0 rfl dL_holds_114 ?_
      refine z_isub hE dL_holds_116 ?_
      refine z_istore hE (by decide) rfl dL_holds_117 ?_
      refine z_aload_n hE 5 rfl rfl dL_holds_119 ?_
      refine z_iload hE 2 rfl dL_holds_120 ?_
      refine z_callV hE (c_X7_shares l0 D0 cI0 cJ0 ad S k 0 (by decide) jS.1 iS (⟨by omega, by omega⟩)) (by decide) rfl rfl zm_L_61 zi_yX7_shares zs_yX7_shares zn_RX7 zc_yX7_shares (hy_X7_shares) (Nat.le_of_ble_eq_true rfl) (Nat.le_of_ble_eq_true rfl) rfl rfl rfl (Nat.le_of_ble_eq_true rfl) dL_holds_122 ?_
      rw [show rv_shares ((S 0)) k = S 0 (19 + 3 * k) from if_pos (by omega)]
      refine z_iload hE 1 rfl dL_holds_125 ?_
      refine z_icmp_lt (tgt := 172) hE dL_holds_127 (by decide) ⟨by omega, by omega⟩ ⟨by omega, by omega⟩ (fun c3 => ?_) (fun c3 => ?_)
      · exact by omega
      · refine z_aload_n hE 5 rfl rfl dL_holds_130 ?_
        refine z_iload hE 2 rfl dL_holds_131 ?_
        refine z_callV hE (c_X7_room l0 D0 cI0 cJ0 ad S k 0 (by decide) jS.1 iS (⟨by omega, by omega⟩)) (by decide) rfl rfl zm_L_67 zi_yX7_room zs_yX7_room zn_RX7 zc_yX7_room (hy_X7_room) (Nat.le_of_ble_eq_true rfl) (Nat.le_of_ble_eq_true rfl) rfl rfl rfl (Nat.le_of_ble_eq_true rfl) dL_holds_133 ?_
        rw [show rv_room ((S 0)) k = sp_room (S 0) k from if_pos (by omega)]
        refine z_if_lt (tgt := 172) hE dL_holds_136 (by decide) ⟨by omega, by omega⟩ (fun c4 => ?_) (fun c4 => ?_)
        · exact by omega
        · refine z_aload_n hE 5 rfl rfl dL_holds_139 ?_
          refine z_iload hE 2 rfl dL_holds_140 ?_
          refine z_callV hE (c_X7_requirement l0 D0 cI0 cJ0 ad S k 0 (by decide) jS.1 iS (⟨by omega, by omega⟩)) (by decide) rfl rfl zm_L_64 zi_yX7_requirement zs_yX7_requirement zn_RX7 zc_yX7_requirement (hy_X7_requirement) (Nat.le_of_ble_eq_true rfl) (Nat.le_of_ble_eq_true rfl) rfl rfl rfl (Nat.le_of_ble_eq_true rfl) dL_holds_142 ?_
          rw [show rv_requirement ((S 0)) k = sp_req (S 0) k from if_pos (by omega)]
          refine z_if_lt (tgt := 172) hE dL_holds_145 (by decide) ⟨by omega, by omega⟩ (fun c5 => ?_) (fun c5 => ?_)
          · exact by omega
          · refine z_aload_n hE 5 rfl rfl dL_holds_148 ?_
            refine z_iload hE 2 rfl dL_holds_149 ?_
            refine z_callV hE (c_X7_freeShares l0 D0 cI0 cJ0 ad S k 0 (by decide) jS.1 iS (⟨by omega, by omega⟩)) (by decide) rfl rfl zm_L_70 zi_yX7_freeShares zs_yX7_freeShares zn_RX7 zc_yX7_freeShares (hy_X7_freeShares) (Nat.le_of_ble_eq_true rfl) (Nat.le_of_ble_eq_true rfl) rfl rfl rfl (Nat.le_of_ble_eq_true rfl) dL_holds_151 ?_
            rw [show rv_freeShares ((S 0)) k = sp_free (S 0) k from if_pos (by omega)]
            refine z_iload hE 0 rfl dL_holds_154 ?_
            refine z_if_le (tgt := 164) hE dL_holds_156 (by decide) ⟨by omega, by omega⟩ (fun c6 => ?_) (fun c6 => ?_)
            · refine z_iconst hE dL_holds_164 ?_
              refine z_icmp_ne (tgt := 172) hE dL_holds_165 (by decide) ⟨by omega, by omega⟩ ⟨by omega, by omega⟩ (fun c7 => ?_) (fun c7 => ?_)
              · exact by omega
              · refine z_iconst hE dL_holds_168 ?_
                refine z_goto (tgt := 173) hE (d := dL_holds_169) (ht := by decide) ?_
                refine z_istore hE (by decide) rfl dL_holds_173 ?_
                refine z_iload_n hE 4 rfl rfl dL_holds_175 ?_
                refine z_aload_n hE 5 rfl rfl dL_holds_176 ?_
                refine z_iload hE 3 rfl dL_holds_177 ?_
                refine z_callV hE (c_X7_shares l0 D0 cI0 cJ0 ad S k 0 (by decide) jS.1 iS (⟨by omega, by omega⟩)) (by decide) rfl rfl zm_L_61 zi_yX7_shares zs_yX7_shares zn_RX7 zc_yX7_shares (hy_X7_shares) (Nat.le_of_ble_eq_true rfl) (Nat.le_of_ble_eq_true rfl) rfl rfl rfl (Nat.le_of_ble_eq_true rfl) dL_holds_179 ?_
                rw [show rv_shares ((S 0)) k = S 0 (19 + 3 * k) from if_pos (by omega)]
                refine z_iadd hE dL_holds_182 ?_
                refine z_istore_n hE rfl (by decide) rfl dL_holds_183 ?_
                refine z_iinc hE 4 rfl (by decide) rfl dL_holds_184 ?_
                refine z_goto (tgt := 32) hE (d := dL_holds_187) (ht := by decide) ?_
                refine z_L (L' := [(5, .int (i32 (k + 1))), (4, .int (i32 1)), (3, .int (i32 (S 0 2 + sm (fun x => S 0 (19 + 3 * x)) (k + 1)))), (0, .ref (ad 5 22)), (1, .ref (ad 6 27)), (2, .ref (ad 6 28))]) [0, 2, 1, 5, 6, 7] (by rw [show S 0 2 + sm (fun x => S 0 (19 + 3 * x)) (k + 1) = (S 0 2 + sm (fun x => S 0 (19 + 3 * x)) k) + (S 0 (19 + 3 * k)) from by first | rfl | ((rw [sm_s h9.1]; omega))]; rfl) ?_
                exact ih (k + 1) ⟨by omega, by omega⟩ (by omega)
            · refine z_iload hE 0 rfl dL_holds_159 ?_
              refine z_goto (tgt := 165) hE (d := dL_holds_161) (ht := by decide) ?_
              refine z_icmp_ne (tgt := 172) hE dL_holds_165 (by decide) ⟨by omega, by omega⟩ ⟨by omega, by omega⟩ (fun c8 => ?_) (fun c8 => ?_)
              · exact by omega
              · refine z_iconst hE dL_holds_168 ?_
                refine z_goto (tgt := 173) hE (d := dL_holds_169) (ht := by decide) ?_
                refine z_istore hE (by decide) rfl dL_holds_173 ?_
                refine z_iload_n hE 4 rfl rfl dL_holds_175 ?_
                refine z_aload_n hE 5 rfl rfl dL_holds_176 ?_
                refine z_iload hE 3 rfl dL_holds_177 ?_
                refine z_callV hE (c_X7_shares l0 D0 cI0 cJ0 ad S k 0 (by decide) jS.1 iS (⟨by omega, by omega⟩)) (by decide) rfl rfl zm_L_61 zi_yX7_shares zs_yX7_shares zn_RX7 zc_yX7_shares (hy_X7_shares) (Nat.le_of_ble_eq_true rfl) (Nat.le_of_ble_eq_true rfl) rfl rfl rfl (Nat.le_of_ble_eq_true rfl) dL_holds_179 ?_
                rw [show rv_shares ((S 0)) k = S 0 (19 + 3 * k) from if_pos (by omega)]
                refine z_iadd hE dL_holds_182 ?_
                refine z_istore_n hE rfl (by decide) rfl dL_holds_183 ?_
                refine z_iinc hE 4 rfl (by decide) rfl dL_holds_184 ?_
                refine z_goto (tgt := 32) hE (d := dL_holds_187) (ht := by decide) ?_
                refine z_L (L' := [(5, .int (i32 (k + 1))), (4, .int (i32 1)), (3, .int (i32 (S 0 2 + sm (fun x => S 0 (19 + 3 * x)) (k + 1)))), (0, .ref (ad 5 22)), (1, .ref (ad 6 27)), (2, .ref (ad 6 28))]) [0, 2, 1, 5, 6, 7] (by rw [show S 0 2 + sm (fun x => S 0 (19 + 3 * x)) (k + 1) = (S 0 2 + sm (fun x => S 0 (19 + 3 * x)) k) + (S 0 (19 + 3 * k)) from by first | rfl | ((rw [sm_s h9.1]; omega))]; rfl) ?_
                exact ih (k + 1) ⟨by omega, by omega⟩ (by omega)
set_option maxHeartbeats 4000000 in
set_option maxRecDepth 100000 in
theorem c_L_holds (l0 : Launch) (D0 : va_G) (cI0 cJ0 : ClassId) (ad : Nat → Nat → Nat) (S : zM) (jS : RJ S) (iS : Inv (S 0)) (pS : PJ (S 0) (S 6)) : Ct l0 D0 cI0 cJ0 ad yL_holds cL_holds 8 (some .boolean) 5 108 [.ref (ad 5 22), .ref (ad 6 27), .ref (ad 6 28)] S (some (.int (i32 (zbo (True))))) (fun X => X = S) := by
  refine Ct.of (by decide) (Nat.le_of_ble_eq_true rfl) (fun E hE hR => ?_)
  have hE : zG E l0 D0 cI0 cJ0 ad cL_holds 8 RL 5 108 := hE
  show Z E S 0 [(0, .ref (ad 5 22)), (1, .ref (ad 6 27)), (2, .ref (ad 6 28))] []
  have aS := inA iS.1
  unfold InvA at aS
  have hT := inT iS.1
  have hT2 := inTr iS.1
  have h4 := pS.1
  refine z_aload_n hE 0 rfl rfl dL_holds_0 ?_
  refine z_callV hE (c_X7_treasury l0 D0 cI0 cJ0 ad S 0 (by decide) jS.1 iS) (by decide) rfl rfl zm_L_52 zi_yX7_treasury zs_yX7_treasury zn_RX7 zc_yX7_treasury (hy_X7_treasury) (Nat.le_of_ble_eq_true rfl) (Nat.le_of_ble_eq_true rfl) rfl rfl rfl (Nat.le_of_ble_eq_true rfl) dL_holds_1 ?_
  refine z_istore_n hE rfl (by decide) rfl dL_holds_4 ?_
  refine z_aload_n hE 1 rfl rfl dL_holds_5 ?_
  refine z_callV hE (c_X7_treasury l0 D0 cI0 cJ0 ad S 0 (by decide) jS.1 iS) (by decide) rfl rfl zm_L_52 zi_yX7_treasury zs_yX7_treasury zn_RX7 zc_yX7_treasury (hy_X7_treasury) (Nat.le_of_ble_eq_true rfl) (Nat.le_of_ble_eq_true rfl) rfl rfl rfl (Nat.le_of_ble_eq_true rfl) dL_holds_6 ?_
  refine z_if_lt (tgt := 26) hE dL_holds_9 (by decide) ⟨by omega, by omega⟩ (fun c1 => ?_) (fun c1 => ?_)
  · exact by omega
  · refine z_aload_n hE 1 rfl rfl dL_holds_12 ?_
    refine z_callV hE (c_X7_allShares l0 D0 cI0 cJ0 ad S 0 (by decide) jS.1 iS) (by decide) rfl rfl zm_L_55 zi_yX7_allShares zs_yX7_allShares zn_RX7 zc_yX7_allShares (hy_X7_allShares) (Nat.le_of_ble_eq_true rfl) (Nat.le_of_ble_eq_true rfl) rfl rfl rfl (Nat.le_of_ble_eq_true rfl) dL_holds_13 ?_
    refine z_sipush (a := 10000) hE (by decide) dL_holds_16 ?_
    refine z_icmp_gt (tgt := 26) hE dL_holds_19 (by decide) ⟨by omega, by omega⟩ ⟨by omega, by omega⟩ (fun c2 => ?_) (fun c2 => ?_)
    · exact by omega
    · refine z_iconst hE dL_holds_22 ?_
      refine z_goto (tgt := 27) hE (d := dL_holds_23) (ht := by decide) ?_
      refine z_istore hE (by decide) rfl dL_holds_27 ?_
      refine z_iconst hE dL_holds_29 ?_
      refine z_istore hE (by decide) rfl dL_holds_30 ?_
      refine z_L (L' := [(5, .int (i32 0)), (4, .int (i32 1)), (3, .int (i32 (S 0 2 + sm (fun x => S 0 (19 + 3 * x)) 0))), (0, .ref (ad 5 22)), (1, .ref (ad 6 27)), (2, .ref (ad 6 28))]) [0, 1, 2, 3, 4, 5] (by rw [show S 0 2 + sm (fun x => S 0 (19 + 3 * x)) 0 = (S 0) 2 from by first | rfl | ((rw [sm_0]; omega))]; rfl) ?_
      exact lp_L_holds_a hE S jS iS pS hR 13 0 ⟨by omega, by omega⟩ (by omega)
theorem val_x {s : Int → Int} : sp_all (nx_valuate s) = sp_all s ∧ nx_valuate s 5 = s 5 ∧ nx_valuate s 6 = max (sp_val s (sp_all s)) (s 5) := ⟨all_cg (up_ne (by omega)) (up_ne (by omega)) (fun k a b => up_ne (by omega)), up_ne (by omega), up_eq⟩
theorem dL_valuates_0 : decode cL_valuates 0 = .ok (.aload_n 0, 1) := by decide +kernel
theorem dL_valuates_1 : decode cL_valuates 1 = .ok (.invokevirtual 95, 3) := by decide +kernel
theorem dL_valuates_4 : decode cL_valuates 4 = .ok (.istore_n 1, 1) := by decide +kernel
theorem dL_valuates_5 : decode cL_valuates 5 = .ok (.aload_n 0, 1) := by decide +kernel
theorem dL_valuates_6 : decode cL_valuates 6 = .ok (.invokevirtual 55, 3) := by decide +kernel
theorem dL_valuates_9 : decode cL_valuates 9 = .ok (.ifCond .ne 15, 3) := by decide +kernel
theorem dL_valuates_12 : decode cL_valuates 12 = .ok (.iload_n 1, 1) := by decide +kernel
theorem dL_valuates_13 : decode cL_valuates 13 = .ok (.ldc 94, 2) := by decide +kernel
theorem dL_valuates_15 : decode cL_valuates 15 = .ok (.if_icmp .ne 7, 3) := by decide +kernel
theorem dL_valuates_18 : decode cL_valuates 18 = .ok (.iconst 1, 1) := by decide +kernel
theorem dL_valuates_19 : decode cL_valuates 19 = .ok (.goto 4, 3) := by decide +kernel
theorem dL_valuates_22 : decode cL_valuates 22 = .ok (.iconst 0, 1) := by decide +kernel
theorem dL_valuates_23 : decode cL_valuates 23 = .ok (.ireturn, 1) := by decide +kernel
theorem dL_valuates_24 : decode cL_valuates 24 = .ok (.iload_n 1, 1) := by decide +kernel
theorem dL_valuates_25 : decode cL_valuates 25 = .ok (.aload_n 0, 1) := by decide +kernel
theorem dL_valuates_26 : decode cL_valuates 26 = .ok (.invokevirtual 98, 3) := by decide +kernel
theorem dL_valuates_29 : decode cL_valuates 29 = .ok (.if_icmp .lt 15, 3) := by decide +kernel
theorem dL_valuates_32 : decode cL_valuates 32 = .ok (.aload_n 0, 1) := by decide +kernel
theorem dL_valuates_33 : decode cL_valuates 33 = .ok (.invokevirtual 84, 3) := by decide +kernel
theorem dL_valuates_36 : decode cL_valuates 36 = .ok (.iload_n 1, 1) := by decide +kernel
theorem dL_valuates_37 : decode cL_valuates 37 = .ok (.if_icmp .ne 7, 3) := by decide +kernel
theorem dL_valuates_40 : decode cL_valuates 40 = .ok (.iconst 1, 1) := by decide +kernel
theorem dL_valuates_41 : decode cL_valuates 41 = .ok (.goto 4, 3) := by decide +kernel
theorem dL_valuates_44 : decode cL_valuates 44 = .ok (.iconst 0, 1) := by decide +kernel
theorem dL_valuates_45 : decode cL_valuates 45 = .ok (.ireturn, 1) := by decide +kernel
theorem hy_L_valuates : yL_valuates.cls ≠ "java/lang/invoke/MethodHandle" ∧ yL_valuates.cls ≠ "java/lang/invoke/VarHandle" ∧ (parseMethodDescriptor yL_valuates.desc).map (fun d => d.parameters.length) = some 1 := ⟨by decide +kernel, by decide +kernel, by decide +kernel⟩
set_option maxHeartbeats 4000000 in
set_option maxRecDepth 100000 in
theorem c_L_valuates (l0 : Launch) (D0 : va_G) (cI0 cJ0 : ClassId) (ad : Nat → Nat → Nat) (S : zM) (jS : RJ S) (iS : Inv (S 0)) : Ct l0 D0 cI0 cJ0 ad yL_valuates cL_valuates 2 (some .boolean) 5 110 [.ref (ad 5 22)] S (some (.int (i32 (zbo (True))))) (fun X => AP S X (ok_valuate (S 0)) (nx_valuate (S 0))) := by
  refine Ct.of (by decide) (Nat.le_of_ble_eq_true rfl) (fun E hE hR => ?_)
  have hE : zG E l0 D0 cI0 cJ0 ad cL_valuates 2 RL 5 110 := hE
  show Z E S 0 [(0, .ref (ad 5 22))] []
  have aS := inA iS.1
  unfold InvA at aS
  have hT := inT iS.1
  by_cases ok : ok_valuate (S 0)
  · refine z_aload_n hE 0 rfl rfl dL_valuates_0 ?_
    obtain ⟨n1, n2, n3, n4, hn1, hn2, hn3, hn4, e1, e2, e3, e4, h01, h02, h03, h04⟩ := jS.2.2
    refine z_callVp hE (c_X7_valuate l0 D0 cI0 cJ0 ad S 0 n1 n2 n3 n4 (by decide) hn1 hn2 hn3 hn4 jS.1 e1 e2 e3 e4 h04 jS.2.1 iS) (by decide) rfl rfl zm_L_95 zi_yX7_valuate zs_yX7_valuate zn_RX7 zc_yX7_valuate (hy_X7_valuate) (Nat.le_of_ble_eq_true rfl) (Nat.le_of_ble_eq_true rfl) rfl rfl rfl (Nat.le_of_ble_eq_true rfl) dL_valuates_1 (fun M1 hM1 => ?_)
    have pM1 := ap_act jS hn1 hn2 hn3 hn4 h01 h02 h03 h04 hM1
    have jM1 := pM1.1
    have iM1 := ap_inv pM1 (fun ok => inv_valuate iS ok) iS
    have aM1 := inA iM1.1
    unfold InvA at aM1
    have xx := @val_x (S 0)
    rw [← pM1.2.2.1 ok] at xx
    rw [show rv_valuate ((S 0)) = max (sp_val (S 0) (sp_all (S 0))) (S 0 5) from if_pos ok]
    have hvb := val_b iS.1 (all := sp_all (S 0)) (by omega)
    refine z_istore_n hE rfl (by decide) rfl dL_valuates_4 ?_
    refine z_aload_n hE 1 rfl rfl dL_valuates_5 ?_
    refine z_callV hE (c_X7_allShares l0 D0 cI0 cJ0 ad M1 0 (by decide) jM1.1 iM1) (by decide) rfl rfl zm_L_55 zi_yX7_allShares zs_yX7_allShares zn_RX7 zc_yX7_allShares (hy_X7_allShares) (Nat.le_of_ble_eq_true rfl) (Nat.le_of_ble_eq_true rfl) rfl rfl rfl (Nat.le_of_ble_eq_true rfl) dL_valuates_6 ?_
    have hTM := inT iM1.1
    refine z_if_ne (tgt := 24) hE dL_valuates_9 (by decide) ⟨by omega, by omega⟩ (fun c1 => ?_) (fun c1 => ?_)
    · refine z_iload_n hE 0 rfl rfl dL_valuates_24 ?_
      refine z_aload_n hE 1 rfl rfl dL_valuates_25 ?_
      refine z_callV hE (c_X7_parValue l0 D0 cI0 cJ0 ad M1 0 (by decide) jM1.1 iM1) (by decide) rfl rfl zm_L_98 zi_yX7_parValue zs_yX7_parValue zn_RX7 zc_yX7_parValue (hy_X7_parValue) (Nat.le_of_ble_eq_true rfl) (Nat.le_of_ble_eq_true rfl) rfl rfl rfl (Nat.le_of_ble_eq_true rfl) dL_valuates_26 ?_
      refine z_icmp_lt (tgt := 44) hE dL_valuates_29 (by decide) ⟨by omega, by omega⟩ ⟨by omega, by omega⟩ (fun c2 => ?_) (fun c2 => ?_)
      · exact by omega
      · refine z_aload_n hE 1 rfl rfl dL_valuates_32 ?_
        refine z_callV hE (c_X7_price l0 D0 cI0 cJ0 ad M1 0 (by decide) jM1.1 iM1) (by decide) rfl rfl zm_L_84 zi_yX7_price zs_yX7_price zn_RX7 zc_yX7_price (hy_X7_price) (Nat.le_of_ble_eq_true rfl) (Nat.le_of_ble_eq_true rfl) rfl rfl rfl (Nat.le_of_ble_eq_true rfl) dL_valuates_33 ?_
        refine z_iload_n hE 0 rfl rfl dL_valuates_36 ?_
        refine z_icmp_ne (tgt := 44) hE dL_valuates_37 (by decide) ⟨by omega, by omega⟩ ⟨by omega, by omega⟩ (fun c3 => ?_) (fun c3 => ?_)
        · exact by omega
        · refine z_iconst hE dL_valuates_40 ?_
          refine z_goto (tgt := 45) hE (d := dL_valuates_41) (ht := by decide) ?_
          exact z_zret hE hR dL_valuates_45 (by decide) (congrArg (fun x => some (Value.int (i32 x))) (by first | rfl | exact (if_pos trivial).symm | exact if_pos trivial)) (by exact pM1)
    · exact by omega
  · refine z_aload_n hE 0 rfl rfl dL_valuates_0 ?_
    obtain ⟨n1, n2, n3, n4, hn1, hn2, hn3, hn4, e1, e2, e3, e4, h01, h02, h03, h04⟩ := jS.2.2
    refine z_callVp hE (c_X7_valuate l0 D0 cI0 cJ0 ad S 0 n1 n2 n3 n4 (by decide) hn1 hn2 hn3 hn4 jS.1 e1 e2 e3 e4 h04 jS.2.1 iS) (by decide) rfl rfl zm_L_95 zi_yX7_valuate zs_yX7_valuate zn_RX7 zc_yX7_valuate (hy_X7_valuate) (Nat.le_of_ble_eq_true rfl) (Nat.le_of_ble_eq_true rfl) rfl rfl rfl (Nat.le_of_ble_eq_true rfl) dL_valuates_1 (fun M1 hM1 => ?_)
    have pM1 := ap_act jS hn1 hn2 hn3 hn4 h01 h02 h03 h04 hM1
    have jM1 := pM1.1
    have iM1 := ap_inv pM1 (fun ok => inv_valuate iS ok) iS
    have aM1 := inA iM1.1
    unfold InvA at aM1
    have xx : sp_all (M1 0) = sp_all (S 0) := by rw [pM1.2.2.2 ok]
    rw [show rv_valuate ((S 0)) = -2000000002 from if_neg ok]
    refine z_istore_n hE rfl (by decide) rfl dL_valuates_4 ?_
    refine z_aload_n hE 1 rfl rfl dL_valuates_5 ?_
    refine z_callV hE (c_X7_allShares l0 D0 cI0 cJ0 ad M1 0 (by decide) jM1.1 iM1) (by decide) rfl rfl zm_L_55 zi_yX7_allShares zs_yX7_allShares zn_RX7 zc_yX7_allShares (hy_X7_allShares) (Nat.le_of_ble_eq_true rfl) (Nat.le_of_ble_eq_true rfl) rfl rfl rfl (Nat.le_of_ble_eq_true rfl) dL_valuates_6 ?_
    have hTM := inT iM1.1
    refine z_if_ne (tgt := 24) hE dL_valuates_9 (by decide) ⟨by omega, by omega⟩ (fun c4 => ?_) (fun c4 => ?_)
    · exact by omega
    · refine z_iload_n hE 0 rfl rfl dL_valuates_12 ?_
      refine z_ldc (a := -2000000002) hE zk_L_94 (by decide) dL_valuates_13 ?_
      refine z_icmp_ne (tgt := 22) hE dL_valuates_15 (by decide) ⟨by omega, by omega⟩ ⟨by omega, by omega⟩ (fun c5 => ?_) (fun c5 => ?_)
      · exact by omega
      · refine z_iconst hE dL_valuates_18 ?_
        refine z_goto (tgt := 23) hE (d := dL_valuates_19) (ht := by decide) ?_
        exact z_zret hE hR dL_valuates_23 (by decide) (congrArg (fun x => some (Value.int (i32 x))) (by first | rfl | exact (if_pos trivial).symm | exact if_pos trivial)) (by exact pM1)
theorem dL_claims_0 : decode cL_claims 0 = .ok (.aload_n 0, 1) := by decide +kernel
theorem dL_claims_1 : decode cL_claims 1 = .ok (.iload_n 1, 1) := by decide +kernel
theorem dL_claims_2 : decode cL_claims 2 = .ok (.invokevirtual 38, 3) := by decide +kernel
theorem dL_claims_5 : decode cL_claims 5 = .ok (.istore 5, 2) := by decide +kernel
theorem dL_claims_7 : decode cL_claims 7 = .ok (.iload 5, 2) := by decide +kernel
theorem dL_claims_9 : decode cL_claims 9 = .ok (.iconst 2, 1) := by decide +kernel
theorem dL_claims_10 : decode cL_claims 10 = .ok (.if_icmp .ge 31, 3) := by decide +kernel
theorem dL_claims_13 : decode cL_claims 13 = .ok (.iload_n 2, 1) := by decide +kernel
theorem dL_claims_14 : decode cL_claims 14 = .ok (.iload_n 3, 1) := by decide +kernel
theorem dL_claims_15 : decode cL_claims 15 = .ok (.if_icmp .eq 26, 3) := by decide +kernel
theorem dL_claims_18 : decode cL_claims 18 = .ok (.iload 5, 2) := by decide +kernel
theorem dL_claims_20 : decode cL_claims 20 = .ok (.iconst 1, 1) := by decide +kernel
theorem dL_claims_21 : decode cL_claims 21 = .ok (.if_icmp .eq 16, 3) := by decide +kernel
theorem dL_claims_24 : decode cL_claims 24 = .ok (.aload_n 0, 1) := by decide +kernel
theorem dL_claims_25 : decode cL_claims 25 = .ok (.iload_n 2, 1) := by decide +kernel
theorem dL_claims_26 : decode cL_claims 26 = .ok (.invokevirtual 61, 3) := by decide +kernel
theorem dL_claims_29 : decode cL_claims 29 = .ok (.aload_n 0, 1) := by decide +kernel
theorem dL_claims_30 : decode cL_claims 30 = .ok (.iload_n 2, 1) := by decide +kernel
theorem dL_claims_31 : decode cL_claims 31 = .ok (.invokevirtual 64, 3) := by decide +kernel
theorem dL_claims_34 : decode cL_claims 34 = .ok (.if_icmp .ge 7, 3) := by decide +kernel
theorem dL_claims_37 : decode cL_claims 37 = .ok (.iconst 1, 1) := by decide +kernel
theorem dL_claims_38 : decode cL_claims 38 = .ok (.goto 4, 3) := by decide +kernel
theorem dL_claims_41 : decode cL_claims 41 = .ok (.iconst 0, 1) := by decide +kernel
theorem dL_claims_42 : decode cL_claims 42 = .ok (.istore 6, 2) := by decide +kernel
theorem dL_claims_44 : decode cL_claims 44 = .ok (.aload_n 0, 1) := by decide +kernel
theorem dL_claims_45 : decode cL_claims 45 = .ok (.iload_n 1, 1) := by decide +kernel
theorem dL_claims_46 : decode cL_claims 46 = .ok (.iload_n 2, 1) := by decide +kernel
theorem dL_claims_47 : decode cL_claims 47 = .ok (.iload 4, 2) := by decide +kernel
theorem dL_claims_49 : decode cL_claims 49 = .ok (.invokevirtual 90, 3) := by decide +kernel
theorem dL_claims_52 : decode cL_claims 52 = .ok (.istore 7, 2) := by decide +kernel
theorem dL_claims_54 : decode cL_claims 54 = .ok (.iload 6, 2) := by decide +kernel
theorem dL_claims_56 : decode cL_claims 56 = .ok (.ifCond .ne 16, 3) := by decide +kernel
theorem dL_claims_59 : decode cL_claims 59 = .ok (.iload 7, 2) := by decide +kernel
theorem dL_claims_61 : decode cL_claims 61 = .ok (.ldc 94, 2) := by decide +kernel
theorem dL_claims_63 : decode cL_claims 63 = .ok (.if_icmp .ne 7, 3) := by decide +kernel
theorem dL_claims_66 : decode cL_claims 66 = .ok (.iconst 1, 1) := by decide +kernel
theorem dL_claims_67 : decode cL_claims 67 = .ok (.goto 4, 3) := by decide +kernel
theorem dL_claims_70 : decode cL_claims 70 = .ok (.iconst 0, 1) := by decide +kernel
theorem dL_claims_71 : decode cL_claims 71 = .ok (.ireturn, 1) := by decide +kernel
theorem dL_claims_72 : decode cL_claims 72 = .ok (.iconst 0, 1) := by decide +kernel
theorem dL_claims_73 : decode cL_claims 73 = .ok (.istore 8, 2) := by decide +kernel
theorem dL_claims_75 : decode cL_claims 75 = .ok (.iconst 0, 1) := by decide +kernel
theorem dL_claims_76 : decode cL_claims 76 = .ok (.istore 9, 2) := by decide +kernel
theorem dL_claims_78 : decode cL_claims 78 = .ok (.iload 9, 2) := by decide +kernel
theorem dL_claims_80 : decode cL_claims 80 = .ok (.aload_n 0, 1) := by decide +kernel
theorem dL_claims_81 : decode cL_claims 81 = .ok (.invokevirtual 28, 3) := by decide +kernel
theorem dL_claims_84 : decode cL_claims 84 = .ok (.if_icmp .ge 21, 3) := by decide +kernel
theorem dL_claims_87 : decode cL_claims 87 = .ok (.iload 8, 2) := by decide +kernel
theorem dL_claims_89 : decode cL_claims 89 = .ok (.aload_n 0, 1) := by decide +kernel
theorem dL_claims_90 : decode cL_claims 90 = .ok (.iload_n 1, 1) := by decide +kernel
theorem dL_claims_91 : decode cL_claims 91 = .ok (.iload 9, 2) := by decide +kernel
theorem dL_claims_93 : decode cL_claims 93 = .ok (.invokevirtual 45, 3) := by decide +kernel
theorem dL_claims_96 : decode cL_claims 96 = .ok (.iadd, 1) := by decide +kernel
theorem dL_claims_97 : decode cL_claims 97 = .ok (.istore 8, 2) := by decide +kernel
theorem dL_claims_99 : decode cL_claims 99 = .ok (.iinc 9 1, 3) := by decide +kernel
theorem dL_claims_102 : decode cL_claims 102 = .ok (.goto (-24), 3) := by decide +kernel
theorem dL_claims_105 : decode cL_claims 105 = .ok (.iload 7, 2) := by decide +kernel
theorem dL_claims_107 : decode cL_claims 107 = .ok (.iload 8, 2) := by decide +kernel
theorem dL_claims_109 : decode cL_claims 109 = .ok (.if_icmp .ne 18, 3) := by decide +kernel
theorem dL_claims_112 : decode cL_claims 112 = .ok (.aload_n 0, 1) := by decide +kernel
theorem dL_claims_113 : decode cL_claims 113 = .ok (.iload_n 1, 1) := by decide +kernel
theorem dL_claims_114 : decode cL_claims 114 = .ok (.iload_n 2, 1) := by decide +kernel
theorem dL_claims_115 : decode cL_claims 115 = .ok (.invokevirtual 45, 3) := by decide +kernel
theorem dL_claims_118 : decode cL_claims 118 = .ok (.iload 4, 2) := by decide +kernel
theorem dL_claims_120 : decode cL_claims 120 = .ok (.if_icmp .ne 7, 3) := by decide +kernel
theorem dL_claims_123 : decode cL_claims 123 = .ok (.iconst 1, 1) := by decide +kernel
theorem dL_claims_124 : decode cL_claims 124 = .ok (.goto 4, 3) := by decide +kernel
theorem dL_claims_127 : decode cL_claims 127 = .ok (.iconst 0, 1) := by decide +kernel
theorem dL_claims_128 : decode cL_claims 128 = .ok (.ireturn, 1) := by decide +kernel
theorem hy_L_claims : yL_claims.cls ≠ "java/lang/invoke/MethodHandle" ∧ yL_claims.cls ≠ "java/lang/invoke/VarHandle" ∧ (parseMethodDescriptor yL_claims.desc).map (fun d => d.parameters.length) = some 5 := ⟨by decide +kernel, by decide +kernel, by decide +kernel⟩
set_option maxHeartbeats 4000000 in
set_option maxRecDepth 100000 in
theorem lp_L_claims {E : zE} {l0 : Launch} {D0 : va_G} {cI0 cJ0 : ClassId} {ad : Nat → Nat → Nat} (hE : zG E l0 D0 cI0 cJ0 ad cL_claims 10 RL 6 131) (S : zM) (f : Int) (m : Int) (seller : Int) (n : Int) (jS : RJ S) (iS : Inv (S 0)) (pS : PJ (S 0) (S 6)) (hf : 0 ≤ f ∧ f < S 0 14) (hm : 0 ≤ m ∧ m < 4) (hs : seller = S 0 (55 + 22 * f)) (hn : 1 ≤ n ∧ n ≤ 1000) (hR : zR E (some .boolean) (some (.int (i32 (zbo (True))))) (fun X => AP S X (ok_claim (S 0) f m n) (nx_claim (S 0) f m n))) : ∀ (fuel : Nat) (X : zM) (j : Int) (pX : AP S X (ok_claim (S 0) f m n) (nx_claim (S 0) f m n)) (iX : Inv (X 0)) (x0 : X 0 0 = 4 ∧ X 0 14 = S 0 14) (xm : X 0 (65 + 22 * f + m) = n) (h9 : 0 ≤ j ∧ j ≤ 4), (4 - j).toNat < fuel → Z E X 78 [(9, .int (i32 j)), (8, .int (i32 (sm (fun k => X 0 (65 + 22 * f + k)) j))), (7, .int (i32 (sm (fun k => X 0 (65 + 22 * f + k)) 12))), (0, .ref (ad 5 22)), (1, .int (i32 f)), (2, .int (i32 m)), (4, .int (i32 n))] [] := by
  intro fuel
  induction fuel with
  | zero => intro _ _ _ _ _ _ _ hz; omega
  | succ fuel ih =>
    intro X j pX iX x0 xm h9 hz
    have aS := inA iS.1
    unfold InvA at aS
    have h4 := pS.1
    have ho := inO iS.1 f hf.1 hf.2
    have hmm := inM iS.1 hm.1 (show m < 12 by omega)
    have hqq := req_b iS.1 hm.1 (show m < 12 by omega)
    have jX := pX.1
    have aX := inA iX.1
    unfold InvA at aX
    refine z_iload hE 0 rfl dL_claims_78 ?_
    refine z_aload_n hE 3 rfl rfl dL_claims_80 ?_
    refine z_callV hE (c_X7_memberCount l0 D0 cI0 cJ0 ad X 0 (by decide) jX.1 iX) (by decide) rfl rfl zm_L_28 zi_yX7_memberCount zs_yX7_memberCount zn_RX7 zc_yX7_memberCount (hy_X7_memberCount) (Nat.le_of_ble_eq_true rfl) (Nat.le_of_ble_eq_true rfl) rfl rfl rfl (Nat.le_of_ble_eq_true rfl) dL_claims_81 ?_
    refine z_icmp_ge (tgt := 105) hE dL_claims_84 (by decide) ⟨by omega, by omega⟩ ⟨by omega, by omega⟩ (fun c1 => ?_) (fun c1 => ?_)
    · have ej : j = 4 := by omega
      subst ej
      have ht : sm (fun k => X 0 (65 + 22 * f + k)) 12 = sm (fun k => X 0 (65 + 22 * f + k)) 4 := sm_tail (by omega) (by omega) (fun k a b => (inC iX.1 f k (by omega) (by omega) (by omega) b).2.2 (by omega))
      have hb4 := sm_b (f := fun k => X 0 (65 + 22 * f + k)) (n := 4) (a := 0) (b := 1000) (by omega) (fun k a b => ⟨(inC iX.1 f k (by omega) (by omega) a (by omega)).1, (inC iX.1 f k (by omega) (by omega) a (by omega)).2.1⟩)
      refine z_iload hE 2 rfl dL_claims_105 ?_
      refine z_iload hE 1 rfl dL_claims_107 ?_
      refine z_icmp_ne (tgt := 127) hE dL_claims_109 (by decide) ⟨by omega, by omega⟩ ⟨by omega, by omega⟩ (fun c2 => ?_) (fun c2 => ?_)
      · exact by omega
      · refine z_aload_n hE 3 rfl rfl dL_claims_112 ?_
        refine z_iload_n hE 4 rfl rfl dL_claims_113 ?_
        refine z_iload_n hE 5 rfl rfl dL_claims_114 ?_
        refine z_callV hE (c_X7_claimOf l0 D0 cI0 cJ0 ad X f m 0 (by decide) jX.1 iX (⟨by omega, by omega⟩) (⟨by omega, by omega⟩)) (by decide) rfl rfl zm_L_45 zi_yX7_claimOf zs_yX7_claimOf zn_RX7 zc_yX7_claimOf (hy_X7_claimOf) (Nat.le_of_ble_eq_true rfl) (Nat.le_of_ble_eq_true rfl) rfl rfl rfl (Nat.le_of_ble_eq_true rfl) dL_claims_115 ?_
        rw [show rv_claimOf ((X 0)) f m = X 0 (65 + 22 * f + m) from if_pos (by omega)]
        refine z_iload hE 6 rfl dL_claims_118 ?_
        refine z_icmp_ne (tgt := 127) hE dL_claims_120 (by decide) ⟨by omega, by omega⟩ ⟨by omega, by omega⟩ (fun c3 => ?_) (fun c3 => ?_)
        · exact by omega
        · refine z_iconst hE dL_claims_123 ?_
          refine z_goto (tgt := 128) hE (d := dL_claims_124) (ht := by decide) ?_
          exact z_zret hE hR dL_claims_128 (by decide) (congrArg (fun x => some (Value.int (i32 x))) (by first | rfl | exact (if_pos trivial).symm | exact if_pos trivial)) (by first | exact pX | exact pM49)
    · refine z_iload hE 1 rfl dL_claims_87 ?_
      refine z_aload_n hE 3 rfl rfl dL_claims_89 ?_
      refine z_iload_n hE 4 rfl rfl dL_claims_90 ?_
      refine z_iload hE 0 rfl dL_claims_91 ?_
      refine z_callV hE (c_X7_claimOf l0 D0 cI0 cJ0 ad X f j 0 (by decide) jX.1 iX (⟨by omega, by omega⟩) (⟨by omega, by omega⟩)) (by decide) rfl rfl zm_L_45 zi_yX7_claimOf zs_yX7_claimOf zn_RX7 zc_yX7_claimOf (hy_X7_claimOf) (Nat.le_of_ble_eq_true rfl) (Nat.le_of_ble_eq_true rfl) rfl rfl rfl (Nat.le_of_ble_eq_true rfl) dL_claims_93 ?_
      rw [show rv_claimOf ((X 0)) f j = X 0 (65 + 22 * f + j) from if_pos (by omega)]
      refine z_iadd hE dL_claims_96 ?_
      refine z_istore hE (by decide) rfl dL_claims_97 ?_
      refine z_iinc hE 1 rfl (by decide) rfl dL_claims_99 ?_
      refine z_goto (tgt := 78) hE (d := dL_claims_102) (ht := by decide) ?_
      refine z_L (L' := [(9, .int (i32 (j + 1))), (8, .int (i32 (sm (fun k => X 0 (65 + 22 * f + k)) (j + 1)))), (7, .int (i32 (sm (fun k => X 0 (65 + 22 * f + k)) 12))), (0, .ref (ad 5 22)), (1, .int (i32 f)), (2, .int (i32 m)), (4, .int (i32 n))]) [0, 1, 2, 3, 4, 5, 6] (by rw [show sm (fun k => X 0 (65 + 22 * f + k)) (j + 1) = (sm (fun k => X 0 (65 + 22 * f + k)) j) + (X 0 (65 + 22 * f + j)) from by first | rfl | (exact sm_s h9.1)]; rfl) ?_
      exact ih X (j + 1) pX iX x0 xm ⟨by omega, by omega⟩ (by omega)
set_option maxHeartbeats 4000000 in
set_option maxRecDepth 100000 in
theorem c_L_claims (l0 : Launch) (D0 : va_G) (cI0 cJ0 : ClassId) (ad : Nat → Nat → Nat) (S : zM) (f : Int) (m : Int) (seller : Int) (n : Int) (jS : RJ S) (iS : Inv (S 0)) (pS : PJ (S 0) (S 6)) (hf : 0 ≤ f ∧ f < S 0 14) (hm : 0 ≤ m ∧ m < 4) (hs : seller = S 0 (55 + 22 * f)) (hn : 1 ≤ n ∧ n ≤ 1000) : Ct l0 D0 cI0 cJ0 ad yL_claims cL_claims 10 (some .boolean) 6 131 [.ref (ad 5 22), .int (i32 f), .int (i32 m), .int (i32 seller), .int (i32 n)] S (some (.int (i32 (zbo (True))))) (fun X => AP S X (ok_claim (S 0) f m n) (nx_claim (S 0) f m n)) := by
  refine Ct.of (by decide) (Nat.le_of_ble_eq_true rfl) (fun E hE hR => ?_)
  have hE : zG E l0 D0 cI0 cJ0 ad cL_claims 10 RL 6 131 := hE
  show Z E S 0 [(0, .ref (ad 5 22)), (1, .int (i32 f)), (2, .int (i32 m)), (3, .int (i32 seller)), (4, .int (i32 n))] []
  have aS := inA iS.1
  unfold InvA at aS
  have h4 := pS.1
  have ho := inO iS.1 f hf.1 hf.2
  have hmm := inM iS.1 hm.1 (show m < 12 by omega)
  have hqq := req_b iS.1 hm.1 (show m < 12 by omega)
  refine z_aload_n hE 0 rfl rfl dL_claims_0 ?_
  refine z_iload_n hE 1 rfl rfl dL_claims_1 ?_
  refine z_callV hE (c_X7_stage l0 D0 cI0 cJ0 ad S f 0 (by decide) jS.1 iS (⟨by omega, by omega⟩)) (by decide) rfl rfl zm_L_38 zi_yX7_stage zs_yX7_stage zn_RX7 zc_yX7_stage (hy_X7_stage) (Nat.le_of_ble_eq_true rfl) (Nat.le_of_ble_eq_true rfl) rfl rfl rfl (Nat.le_of_ble_eq_true rfl) dL_claims_2 ?_
  rw [show rv_stage ((S 0)) f = S 0 (59 + 22 * f) from if_pos (by omega)]
  refine z_istore hE (by decide) rfl dL_claims_5 ?_
  refine z_iload hE 0 rfl dL_claims_7 ?_
  refine z_iconst hE dL_claims_9 ?_
  refine z_icmp_ge (tgt := 41) hE dL_claims_10 (by decide) ⟨by omega, by omega⟩ ⟨by omega, by omega⟩ (fun c1 => ?_) (fun c1 => ?_)
  · refine z_iconst hE dL_claims_41 ?_
    refine z_istore hE (by decide) rfl dL_claims_42 ?_
    refine z_aload_n hE 2 rfl rfl dL_claims_44 ?_
    refine z_iload_n hE 3 rfl rfl dL_claims_45 ?_
    refine z_iload_n hE 4 rfl rfl dL_claims_46 ?_
    refine z_iload hE 6 rfl dL_claims_47 ?_
    obtain ⟨n1, n2, n3, n4, hn1, hn2, hn3, hn4, e1, e2, e3, e4, h01, h02, h03, h04⟩ := jS.2.2
    refine z_callVp hE (c_X7_claim l0 D0 cI0 cJ0 ad S f m n 0 n1 n2 n3 n4 (by decide) hn1 hn2 hn3 hn4 jS.1 e1 e2 e3 e4 h04 jS.2.1 iS (⟨by omega, by omega⟩) (⟨by omega, by omega⟩) (⟨by omega, by omega⟩)) (by decide) rfl rfl zm_L_90 zi_yX7_claim zs_yX7_claim zn_RX7 zc_yX7_claim (hy_X7_claim) (Nat.le_of_ble_eq_true rfl) (Nat.le_of_ble_eq_true rfl) rfl rfl rfl (Nat.le_of_ble_eq_true rfl) dL_claims_49 (fun M49 hM49 => ?_)
    have pM49 := ap_act jS hn1 hn2 hn3 hn4 h01 h02 h03 h04 hM49
    have jM49 := pM49.1
    have iM49 := ap_inv pM49 (fun ok => inv_claim iS ok) iS
    have aM49 := inA iM49.1
    unfold InvA at aM49
    have x0 : M49 0 0 = 4 ∧ M49 0 14 = S 0 14 := by
      by_cases c : ok_claim (S 0) f m n
      · rw [pM49.2.2.1 c]; unfold nx_claim; rw [up_ne (by omega), up_ne (by omega)]; exact ⟨pS.1, rfl⟩
      · rw [pM49.2.2.2 c]; exact ⟨pS.1, rfl⟩
    have nc : ¬ sp_can (S 0) f m := claim_no (by omega)
    rw [show rv_claim ((S 0)) f m n = -2000000002 from (if_pos ⟨⟨by omega, by omega⟩, ⟨by omega, by omega⟩, by omega, by omega⟩).trans (if_neg nc)]
    refine z_istore hE (by decide) rfl dL_claims_52 ?_
    refine z_iload hE 1 rfl dL_claims_54 ?_
    refine z_if_ne (tgt := 72) hE dL_claims_56 (by decide) ⟨by omega, by omega⟩ (fun c2 => absurd rfl c2) (fun c2 => ?_)
    refine z_iload hE 0 rfl dL_claims_59 ?_
    refine z_ldc (a := -2000000002) hE zk_L_94 (by decide) dL_claims_61 ?_
    refine z_icmp_ne (tgt := 70) hE dL_claims_63 (by decide) ⟨by omega, by omega⟩ ⟨by omega, by omega⟩ (fun c3 => ?_) (fun c3 => ?_)
    · exact by omega
    · refine z_iconst hE dL_claims_66 ?_
      refine z_goto (tgt := 71) hE (d := dL_claims_67) (ht := by decide) ?_
      exact z_zret hE hR dL_claims_71 (by decide) (congrArg (fun x => some (Value.int (i32 x))) (by first | rfl | exact (if_pos trivial).symm | exact if_pos trivial)) (by first | exact pX | exact pM49)
  · refine z_iload_n hE 3 rfl rfl dL_claims_13 ?_
    refine z_iload_n hE 4 rfl rfl dL_claims_14 ?_
    refine z_icmp_eq (tgt := 41) hE dL_claims_15 (by decide) ⟨by omega, by omega⟩ ⟨by omega, by omega⟩ (fun c4 => ?_) (fun c4 => ?_)
    · refine z_iconst hE dL_claims_41 ?_
      refine z_istore hE (by decide) rfl dL_claims_42 ?_
      refine z_aload_n hE 2 rfl rfl dL_claims_44 ?_
      refine z_iload_n hE 3 rfl rfl dL_claims_45 ?_
      refine z_iload_n hE 4 rfl rfl dL_claims_46 ?_
      refine z_iload hE 6 rfl dL_claims_47 ?_
      obtain ⟨n1, n2, n3, n4, hn1, hn2, hn3, hn4, e1, e2, e3, e4, h01, h02, h03, h04⟩ := jS.2.2
      refine z_callVp hE (c_X7_claim l0 D0 cI0 cJ0 ad S f m n 0 n1 n2 n3 n4 (by decide) hn1 hn2 hn3 hn4 jS.1 e1 e2 e3 e4 h04 jS.2.1 iS (⟨by omega, by omega⟩) (⟨by omega, by omega⟩) (⟨by omega, by omega⟩)) (by decide) rfl rfl zm_L_90 zi_yX7_claim zs_yX7_claim zn_RX7 zc_yX7_claim (hy_X7_claim) (Nat.le_of_ble_eq_true rfl) (Nat.le_of_ble_eq_true rfl) rfl rfl rfl (Nat.le_of_ble_eq_true rfl) dL_claims_49 (fun M49 hM49 => ?_)
      have pM49 := ap_act jS hn1 hn2 hn3 hn4 h01 h02 h03 h04 hM49
      have jM49 := pM49.1
      have iM49 := ap_inv pM49 (fun ok => inv_claim iS ok) iS
      have aM49 := inA iM49.1
      unfold InvA at aM49
      have x0 : M49 0 0 = 4 ∧ M49 0 14 = S 0 14 := by
        by_cases c : ok_claim (S 0) f m n
        · rw [pM49.2.2.1 c]; unfold nx_claim; rw [up_ne (by omega), up_ne (by omega)]; exact ⟨pS.1, rfl⟩
        · rw [pM49.2.2.2 c]; exact ⟨pS.1, rfl⟩
      have nc : ¬ sp_can (S 0) f m := claim_no (by omega)
      rw [show rv_claim ((S 0)) f m n = -2000000002 from (if_pos ⟨⟨by omega, by omega⟩, ⟨by omega, by omega⟩, by omega, by omega⟩).trans (if_neg nc)]
      refine z_istore hE (by decide) rfl dL_claims_52 ?_
      refine z_iload hE 1 rfl dL_claims_54 ?_
      refine z_if_ne (tgt := 72) hE dL_claims_56 (by decide) ⟨by omega, by omega⟩ (fun c5 => absurd rfl c5) (fun c5 => ?_)
      refine z_iload hE 0 rfl dL_claims_59 ?_
      refine z_ldc (a := -2000000002) hE zk_L_94 (by decide) dL_claims_61 ?_
      refine z_icmp_ne (tgt := 70) hE dL_claims_63 (by decide) ⟨by omega, by omega⟩ ⟨by omega, by omega⟩ (fun c6 => ?_) (fun c6 => ?_)
      · exact by omega
      · refine z_iconst hE dL_claims_66 ?_
        refine z_goto (tgt := 71) hE (d := dL_claims_67) (ht := by decide) ?_
        exact z_zret hE hR dL_claims_71 (by decide) (congrArg (fun x => some (Value.int (i32 x))) (by first | rfl | exact (if_pos trivial).symm | exact if_pos trivial)) (by first | exact pX | exact pM49)
    · refine z_iload hE 0 rfl dL_claims_18 ?_
      refine z_iconst hE dL_claims_20 ?_
      refine z_icmp_eq (tgt := 37) hE dL_claims_21 (by decide) ⟨by omega, by omega⟩ ⟨by omega, by omega⟩ (fun c7 => ?_) (fun c7 => ?_)
      · refine z_iconst hE dL_claims_37 ?_
        refine z_goto (tgt := 42) hE (d := dL_claims_38) (ht := by decide) ?_
        refine z_istore hE (by decide) rfl dL_claims_42 ?_
        refine z_aload_n hE 2 rfl rfl dL_claims_44 ?_
        refine z_iload_n hE 3 rfl rfl dL_claims_45 ?_
        refine z_iload_n hE 4 rfl rfl dL_claims_46 ?_
        refine z_iload hE 6 rfl dL_claims_47 ?_
        obtain ⟨n1, n2, n3, n4, hn1, hn2, hn3, hn4, e1, e2, e3, e4, h01, h02, h03, h04⟩ := jS.2.2
        refine z_callVp hE (c_X7_claim l0 D0 cI0 cJ0 ad S f m n 0 n1 n2 n3 n4 (by decide) hn1 hn2 hn3 hn4 jS.1 e1 e2 e3 e4 h04 jS.2.1 iS (⟨by omega, by omega⟩) (⟨by omega, by omega⟩) (⟨by omega, by omega⟩)) (by decide) rfl rfl zm_L_90 zi_yX7_claim zs_yX7_claim zn_RX7 zc_yX7_claim (hy_X7_claim) (Nat.le_of_ble_eq_true rfl) (Nat.le_of_ble_eq_true rfl) rfl rfl rfl (Nat.le_of_ble_eq_true rfl) dL_claims_49 (fun M49 hM49 => ?_)
        have pM49 := ap_act jS hn1 hn2 hn3 hn4 h01 h02 h03 h04 hM49
        have jM49 := pM49.1
        have iM49 := ap_inv pM49 (fun ok => inv_claim iS ok) iS
        have aM49 := inA iM49.1
        unfold InvA at aM49
        have x0 : M49 0 0 = 4 ∧ M49 0 14 = S 0 14 := by
          by_cases c : ok_claim (S 0) f m n
          · rw [pM49.2.2.1 c]; unfold nx_claim; rw [up_ne (by omega), up_ne (by omega)]; exact ⟨pS.1, rfl⟩
          · rw [pM49.2.2.2 c]; exact ⟨pS.1, rfl⟩
        have yc : sp_can (S 0) f m := claim_yes ho.2.2.2.2.2.1 (by omega) (by omega) (by omega)
        have ok : ok_claim (S 0) f m n := ⟨⟨by omega, by omega, by omega⟩, yc⟩
        have xn := pM49.2.2.1 ok
        have xm : M49 0 (65 + 22 * f + m) = n := by rw [xn]; exact up_eq
        rw [show rv_claim ((S 0)) f m n = sm (fun k => M49 0 (65 + 22 * f + k)) 12 from by rw [xn]; exact (if_pos ok.1).trans (if_pos yc)]
        refine z_istore hE (by decide) rfl dL_claims_52 ?_
        refine z_iload hE 1 rfl dL_claims_54 ?_
        refine z_if_ne (tgt := 72) hE dL_claims_56 (by decide) ⟨by omega, by omega⟩ (fun c8 => ?_) (fun c8 => absurd c8 (by decide))
        refine z_iconst hE dL_claims_72 ?_
        refine z_istore hE (by decide) rfl dL_claims_73 ?_
        refine z_iconst hE dL_claims_75 ?_
        refine z_istore hE (by decide) rfl dL_claims_76 ?_
        refine z_L (L' := [(9, .int (i32 0)), (8, .int (i32 (sm (fun k => M49 0 (65 + 22 * f + k)) 0))), (7, .int (i32 (sm (fun k => M49 0 (65 + 22 * f + k)) 12))), (0, .ref (ad 5 22)), (1, .int (i32 f)), (2, .int (i32 m)), (4, .int (i32 n))]) [0, 1, 2, 5, 6, 7, 9] (by rw [show sm (fun k => M49 0 (65 + 22 * f + k)) 0 = 0 from by first | rfl | (exact sm_0 _)]; rfl) ?_
        exact lp_L_claims hE S f m seller n jS iS pS hf hm hs hn hR 5 M49 0 pM49 iM49 x0 xm ⟨by omega, by omega⟩ (by omega)
      · refine z_aload_n hE 1 rfl rfl dL_claims_24 ?_
        refine z_iload_n hE 3 rfl rfl dL_claims_25 ?_
        refine z_callV hE (c_X7_shares l0 D0 cI0 cJ0 ad S m 0 (by decide) jS.1 iS (⟨by omega, by omega⟩)) (by decide) rfl rfl zm_L_61 zi_yX7_shares zs_yX7_shares zn_RX7 zc_yX7_shares (hy_X7_shares) (Nat.le_of_ble_eq_true rfl) (Nat.le_of_ble_eq_true rfl) rfl rfl rfl (Nat.le_of_ble_eq_true rfl) dL_claims_26 ?_
        rw [show rv_shares ((S 0)) m = S 0 (19 + 3 * m) from if_pos (by omega)]
        refine z_aload_n hE 1 rfl rfl dL_claims_29 ?_
        refine z_iload_n hE 3 rfl rfl dL_claims_30 ?_
        refine z_callV hE (c_X7_requirement l0 D0 cI0 cJ0 ad S m 0 (by decide) jS.1 iS (⟨by omega, by omega⟩)) (by decide) rfl rfl zm_L_64 zi_yX7_requirement zs_yX7_requirement zn_RX7 zc_yX7_requirement (hy_X7_requirement) (Nat.le_of_ble_eq_true rfl) (Nat.le_of_ble_eq_true rfl) rfl rfl rfl (Nat.le_of_ble_eq_true rfl) dL_claims_31 ?_
        rw [show rv_requirement ((S 0)) m = sp_req (S 0) m from if_pos (by omega)]
        refine z_icmp_ge (tgt := 41) hE dL_claims_34 (by decide) ⟨by omega, by omega⟩ ⟨by omega, by omega⟩ (fun c9 => ?_) (fun c9 => ?_)
        · refine z_iconst hE dL_claims_41 ?_
          refine z_istore hE (by decide) rfl dL_claims_42 ?_
          refine z_aload_n hE 2 rfl rfl dL_claims_44 ?_
          refine z_iload_n hE 3 rfl rfl dL_claims_45 ?_
          refine z_iload_n hE 4 rfl rfl dL_claims_46 ?_
          refine z_iload hE 6 rfl dL_claims_47 ?_
          obtain ⟨n1, n2, n3, n4, hn1, hn2, hn3, hn4, e1, e2, e3, e4, h01, h02, h03, h04⟩ := jS.2.2
          refine z_callVp hE (c_X7_claim l0 D0 cI0 cJ0 ad S f m n 0 n1 n2 n3 n4 (by decide) hn1 hn2 hn3 hn4 jS.1 e1 e2 e3 e4 h04 jS.2.1 iS (⟨by omega, by omega⟩) (⟨by omega, by omega⟩) (⟨by omega, by omega⟩)) (by decide) rfl rfl zm_L_90 zi_yX7_claim zs_yX7_claim zn_RX7 zc_yX7_claim (hy_X7_claim) (Nat.le_of_ble_eq_true rfl) (Nat.le_of_ble_eq_true rfl) rfl rfl rfl (Nat.le_of_ble_eq_true rfl) dL_claims_49 (fun M49 hM49 => ?_)
          have pM49 := ap_act jS hn1 hn2 hn3 hn4 h01 h02 h03 h04 hM49
          have jM49 := pM49.1
          have iM49 := ap_inv pM49 (fun ok => inv_claim iS ok) iS
          have aM49 := inA iM49.1
          unfold InvA at aM49
          have x0 : M49 0 0 = 4 ∧ M49 0 14 = S 0 14 := by
            by_cases c : ok_claim (S 0) f m n
            · rw [pM49.2.2.1 c]; unfold nx_claim; rw [up_ne (by omega), up_ne (by omega)]; exact ⟨pS.1, rfl⟩
            · rw [pM49.2.2.2 c]; exact ⟨pS.1, rfl⟩
          have nc : ¬ sp_can (S 0) f m := claim_no (by omega)
          rw [show rv_claim ((S 0)) f m n = -2000000002 from (if_pos ⟨⟨by omega, by omega⟩, ⟨by omega, by omega⟩, by omega, by omega⟩).trans (if_neg nc)]
          refine z_istore hE (by decide) rfl dL_claims_52 ?_
          refine z_iload hE 1 rfl dL_claims_54 ?_
          refine z_if_ne (tgt := 72) hE dL_claims_56 (by decide) ⟨by omega, by omega⟩ (fun c10 => absurd rfl c10) (fun c10 => ?_)
          refine z_iload hE 0 rfl dL_claims_59 ?_
          refine z_ldc (a := -2000000002) hE zk_L_94 (by decide) dL_claims_61 ?_
          refine z_icmp_ne (tgt := 70) hE dL_claims_63 (by decide) ⟨by omega, by omega⟩ ⟨by omega, by omega⟩ (fun c11 => ?_) (fun c11 => ?_)
          · exact by omega
          · refine z_iconst hE dL_claims_66 ?_
            refine z_goto (tgt := 71) hE (d := dL_claims_67) (ht := by decide) ?_
            exact z_zret hE hR dL_claims_71 (by decide) (congrArg (fun x => some (Value.int (i32 x))) (by first | rfl | exact (if_pos trivial).symm | exact if_pos trivial)) (by first | exact pX | exact pM49)
        · refine z_iconst hE dL_claims_37 ?_
          refine z_goto (tgt := 42) hE (d := dL_claims_38) (ht := by decide) ?_
          refine z_istore hE (by decide) rfl dL_claims_42 ?_
          refine z_aload_n hE 2 rfl rfl dL_claims_44 ?_
          refine z_iload_n hE 3 rfl rfl dL_claims_45 ?_
          refine z_iload_n hE 4 rfl rfl dL_claims_46 ?_
          refine z_iload hE 6 rfl dL_claims_47 ?_
          obtain ⟨n1, n2, n3, n4, hn1, hn2, hn3, hn4, e1, e2, e3, e4, h01, h02, h03, h04⟩ := jS.2.2
          refine z_callVp hE (c_X7_claim l0 D0 cI0 cJ0 ad S f m n 0 n1 n2 n3 n4 (by decide) hn1 hn2 hn3 hn4 jS.1 e1 e2 e3 e4 h04 jS.2.1 iS (⟨by omega, by omega⟩) (⟨by omega, by omega⟩) (⟨by omega, by omega⟩)) (by decide) rfl rfl zm_L_90 zi_yX7_claim zs_yX7_claim zn_RX7 zc_yX7_claim (hy_X7_claim) (Nat.le_of_ble_eq_true rfl) (Nat.le_of_ble_eq_true rfl) rfl rfl rfl (Nat.le_of_ble_eq_true rfl) dL_claims_49 (fun M49 hM49 => ?_)
          have pM49 := ap_act jS hn1 hn2 hn3 hn4 h01 h02 h03 h04 hM49
          have jM49 := pM49.1
          have iM49 := ap_inv pM49 (fun ok => inv_claim iS ok) iS
          have aM49 := inA iM49.1
          unfold InvA at aM49
          have x0 : M49 0 0 = 4 ∧ M49 0 14 = S 0 14 := by
            by_cases c : ok_claim (S 0) f m n
            · rw [pM49.2.2.1 c]; unfold nx_claim; rw [up_ne (by omega), up_ne (by omega)]; exact ⟨pS.1, rfl⟩
            · rw [pM49.2.2.2 c]; exact ⟨pS.1, rfl⟩
          have yc : sp_can (S 0) f m := claim_yes ho.2.2.2.2.2.1 (by omega) (by omega) (by omega)
          have ok : ok_claim (S 0) f m n := ⟨⟨by omega, by omega, by omega⟩, yc⟩
          have xn := pM49.2.2.1 ok
          have xm : M49 0 (65 + 22 * f + m) = n := by rw [xn]; exact up_eq
          rw [show rv_claim ((S 0)) f m n = sm (fun k => M49 0 (65 + 22 * f + k)) 12 from by rw [xn]; exact (if_pos ok.1).trans (if_pos yc)]
          refine z_istore hE (by decide) rfl dL_claims_52 ?_
          refine z_iload hE 1 rfl dL_claims_54 ?_
          refine z_if_ne (tgt := 72) hE dL_claims_56 (by decide) ⟨by omega, by omega⟩ (fun c12 => ?_) (fun c12 => absurd c12 (by decide))
          refine z_iconst hE dL_claims_72 ?_
          refine z_istore hE (by decide) rfl dL_claims_73 ?_
          refine z_iconst hE dL_claims_75 ?_
          refine z_istore hE (by decide) rfl dL_claims_76 ?_
          refine z_L (L' := [(9, .int (i32 0)), (8, .int (i32 (sm (fun k => M49 0 (65 + 22 * f + k)) 0))), (7, .int (i32 (sm (fun k => M49 0 (65 + 22 * f + k)) 12))), (0, .ref (ad 5 22)), (1, .int (i32 f)), (2, .int (i32 m)), (4, .int (i32 n))]) [0, 1, 2, 5, 6, 7, 9] (by rw [show sm (fun k => M49 0 (65 + 22 * f + k)) 0 = 0 from by first | rfl | (exact sm_0 _)]; rfl) ?_
          exact lp_L_claims hE S f m seller n jS iS pS hf hm hs hn hR 5 M49 0 pM49 iM49 x0 xm ⟨by omega, by omega⟩ (by omega)
theorem dL_passes_0 : decode cL_passes 0 = .ok (.aload_n 0, 1) := by decide +kernel
theorem dL_passes_1 : decode cL_passes 1 = .ok (.invokestatic 77, 3) := by decide +kernel
theorem dL_passes_4 : decode cL_passes 4 = .ok (.lstore_n 2, 1) := by decide +kernel
theorem dL_passes_5 : decode cL_passes 5 = .ok (.aload_n 0, 1) := by decide +kernel
theorem dL_passes_6 : decode cL_passes 6 = .ok (.invokevirtual 52, 3) := by decide +kernel
theorem dL_passes_9 : decode cL_passes 9 = .ok (.istore 4, 2) := by decide +kernel
theorem dL_passes_11 : decode cL_passes 11 = .ok (.aload_n 0, 1) := by decide +kernel
theorem dL_passes_12 : decode cL_passes 12 = .ok (.invokevirtual 55, 3) := by decide +kernel
theorem dL_passes_15 : decode cL_passes 15 = .ok (.istore 5, 2) := by decide +kernel
theorem dL_passes_17 : decode cL_passes 17 = .ok (.aload_n 0, 1) := by decide +kernel
theorem dL_passes_18 : decode cL_passes 18 = .ok (.invokevirtual 81, 3) := by decide +kernel
theorem dL_passes_21 : decode cL_passes 21 = .ok (.istore 6, 2) := by decide +kernel
theorem dL_passes_23 : decode cL_passes 23 = .ok (.aload_n 0, 1) := by decide +kernel
theorem dL_passes_24 : decode cL_passes 24 = .ok (.invokevirtual 84, 3) := by decide +kernel
theorem dL_passes_27 : decode cL_passes 27 = .ok (.istore 7, 2) := by decide +kernel
theorem dL_passes_29 : decode cL_passes 29 = .ok (.iconst 0, 1) := by decide +kernel
theorem dL_passes_30 : decode cL_passes 30 = .ok (.istore 8, 2) := by decide +kernel
theorem dL_passes_32 : decode cL_passes 32 = .ok (.iconst 0, 1) := by decide +kernel
theorem dL_passes_33 : decode cL_passes 33 = .ok (.istore 9, 2) := by decide +kernel
theorem dL_passes_35 : decode cL_passes 35 = .ok (.iload 9, 2) := by decide +kernel
theorem dL_passes_37 : decode cL_passes 37 = .ok (.aload_n 0, 1) := by decide +kernel
theorem dL_passes_38 : decode cL_passes 38 = .ok (.invokevirtual 58, 3) := by decide +kernel
theorem dL_passes_41 : decode cL_passes 41 = .ok (.if_icmp .ge 29, 3) := by decide +kernel
theorem dL_passes_44 : decode cL_passes 44 = .ok (.iload 8, 2) := by decide +kernel
theorem dL_passes_46 : decode cL_passes 46 = .ok (.aload_n 0, 1) := by decide +kernel
theorem dL_passes_47 : decode cL_passes 47 = .ok (.iload 9, 2) := by decide +kernel
theorem dL_passes_49 : decode cL_passes 49 = .ok (.invokevirtual 38, 3) := by decide +kernel
theorem dL_passes_52 : decode cL_passes 52 = .ok (.iconst 3, 1) := by decide +kernel
theorem dL_passes_53 : decode cL_passes 53 = .ok (.if_icmp .ge 7, 3) := by decide +kernel
theorem dL_passes_56 : decode cL_passes 56 = .ok (.iconst 1, 1) := by decide +kernel
theorem dL_passes_57 : decode cL_passes 57 = .ok (.goto 4, 3) := by decide +kernel
theorem dL_passes_60 : decode cL_passes 60 = .ok (.iconst 0, 1) := by decide +kernel
theorem dL_passes_61 : decode cL_passes 61 = .ok (.iadd, 1) := by decide +kernel
theorem dL_passes_62 : decode cL_passes 62 = .ok (.istore 8, 2) := by decide +kernel
theorem dL_passes_64 : decode cL_passes 64 = .ok (.iinc 9 1, 3) := by decide +kernel
theorem dL_passes_67 : decode cL_passes 67 = .ok (.goto (-32), 3) := by decide +kernel
theorem dL_passes_70 : decode cL_passes 70 = .ok (.aload_n 0, 1) := by decide +kernel
theorem dL_passes_71 : decode cL_passes 71 = .ok (.iload_n 1, 1) := by decide +kernel
theorem dL_passes_72 : decode cL_passes 72 = .ok (.invokevirtual 87, 3) := by decide +kernel
theorem dL_passes_75 : decode cL_passes 75 = .ok (.istore 9, 2) := by decide +kernel
theorem dL_passes_77 : decode cL_passes 77 = .ok (.iconst 0, 1) := by decide +kernel
theorem dL_passes_78 : decode cL_passes 78 = .ok (.istore 10, 2) := by decide +kernel
theorem dL_passes_80 : decode cL_passes 80 = .ok (.iconst 0, 1) := by decide +kernel
theorem dL_passes_81 : decode cL_passes 81 = .ok (.istore 11, 2) := by decide +kernel
theorem dL_passes_83 : decode cL_passes 83 = .ok (.iload 11, 2) := by decide +kernel
theorem dL_passes_85 : decode cL_passes 85 = .ok (.aload_n 0, 1) := by decide +kernel
theorem dL_passes_86 : decode cL_passes 86 = .ok (.invokevirtual 58, 3) := by decide +kernel
theorem dL_passes_89 : decode cL_passes 89 = .ok (.if_icmp .ge 29, 3) := by decide +kernel
theorem dL_passes_92 : decode cL_passes 92 = .ok (.iload 10, 2) := by decide +kernel
theorem dL_passes_94 : decode cL_passes 94 = .ok (.aload_n 0, 1) := by decide +kernel
theorem dL_passes_95 : decode cL_passes 95 = .ok (.iload 11, 2) := by decide +kernel
theorem dL_passes_97 : decode cL_passes 97 = .ok (.invokevirtual 38, 3) := by decide +kernel
theorem dL_passes_100 : decode cL_passes 100 = .ok (.iconst 3, 1) := by decide +kernel
theorem dL_passes_101 : decode cL_passes 101 = .ok (.if_icmp .ge 7, 3) := by decide +kernel
theorem dL_passes_104 : decode cL_passes 104 = .ok (.iconst 1, 1) := by decide +kernel
theorem dL_passes_105 : decode cL_passes 105 = .ok (.goto 4, 3) := by decide +kernel
theorem dL_passes_108 : decode cL_passes 108 = .ok (.iconst 0, 1) := by decide +kernel
theorem dL_passes_109 : decode cL_passes 109 = .ok (.iadd, 1) := by decide +kernel
theorem dL_passes_110 : decode cL_passes 110 = .ok (.istore 10, 2) := by decide +kernel
theorem dL_passes_112 : decode cL_passes 112 = .ok (.iinc 11 1, 3) := by decide +kernel
theorem dL_passes_115 : decode cL_passes 115 = .ok (.goto (-32), 3) := by decide +kernel
theorem dL_passes_118 : decode cL_passes 118 = .ok (.iload 9, 2) := by decide +kernel
theorem dL_passes_120 : decode cL_passes 120 = .ok (.iload 8, 2) := by decide +kernel
theorem dL_passes_122 : decode cL_passes 122 = .ok (.iload 10, 2) := by decide +kernel
theorem dL_passes_124 : decode cL_passes 124 = .ok (.isub, 1) := by decide +kernel
theorem dL_passes_125 : decode cL_passes 125 = .ok (.if_icmp .ne 58, 3) := by decide +kernel
theorem dL_passes_128 : decode cL_passes 128 = .ok (.aload_n 0, 1) := by decide +kernel
theorem dL_passes_129 : decode cL_passes 129 = .ok (.invokevirtual 55, 3) := by decide +kernel
theorem dL_passes_132 : decode cL_passes 132 = .ok (.iload 5, 2) := by decide +kernel
theorem dL_passes_134 : decode cL_passes 134 = .ok (.if_icmp .ne 49, 3) := by decide +kernel
theorem dL_passes_137 : decode cL_passes 137 = .ok (.aload_n 0, 1) := by decide +kernel
theorem dL_passes_138 : decode cL_passes 138 = .ok (.invokevirtual 81, 3) := by decide +kernel
theorem dL_passes_141 : decode cL_passes 141 = .ok (.iload 6, 2) := by decide +kernel
theorem dL_passes_143 : decode cL_passes 143 = .ok (.iload_n 1, 1) := by decide +kernel
theorem dL_passes_144 : decode cL_passes 144 = .ok (.iadd, 1) := by decide +kernel
theorem dL_passes_145 : decode cL_passes 145 = .ok (.if_icmp .ne 38, 3) := by decide +kernel
theorem dL_passes_148 : decode cL_passes 148 = .ok (.aload_n 0, 1) := by decide +kernel
theorem dL_passes_149 : decode cL_passes 149 = .ok (.invokevirtual 84, 3) := by decide +kernel
theorem dL_passes_152 : decode cL_passes 152 = .ok (.iload 7, 2) := by decide +kernel
theorem dL_passes_154 : decode cL_passes 154 = .ok (.if_icmp .ne 29, 3) := by decide +kernel
theorem dL_passes_157 : decode cL_passes 157 = .ok (.aload_n 0, 1) := by decide +kernel
theorem dL_passes_158 : decode cL_passes 158 = .ok (.invokestatic 77, 3) := by decide +kernel
theorem dL_passes_161 : decode cL_passes 161 = .ok (.lload_n 2, 1) := by decide +kernel
theorem dL_passes_162 : decode cL_passes 162 = .ok (.lsub, 1) := by decide +kernel
theorem dL_passes_163 : decode cL_passes 163 = .ok (.iload 7, 2) := by decide +kernel
theorem dL_passes_165 : decode cL_passes 165 = .ok (.i2l, 1) := by decide +kernel
theorem dL_passes_166 : decode cL_passes 166 = .ok (.aload_n 0, 1) := by decide +kernel
theorem dL_passes_167 : decode cL_passes 167 = .ok (.invokevirtual 52, 3) := by decide +kernel
theorem dL_passes_170 : decode cL_passes 170 = .ok (.iload 4, 2) := by decide +kernel
theorem dL_passes_172 : decode cL_passes 172 = .ok (.isub, 1) := by decide +kernel
theorem dL_passes_173 : decode cL_passes 173 = .ok (.i2l, 1) := by decide +kernel
theorem dL_passes_174 : decode cL_passes 174 = .ok (.lmul, 1) := by decide +kernel
theorem dL_passes_175 : decode cL_passes 175 = .ok (.lcmp, 1) := by decide +kernel
theorem dL_passes_176 : decode cL_passes 176 = .ok (.ifCond .ne 7, 3) := by decide +kernel
theorem dL_passes_179 : decode cL_passes 179 = .ok (.iconst 1, 1) := by decide +kernel
theorem dL_passes_180 : decode cL_passes 180 = .ok (.goto 4, 3) := by decide +kernel
theorem dL_passes_183 : decode cL_passes 183 = .ok (.iconst 0, 1) := by decide +kernel
theorem dL_passes_184 : decode cL_passes 184 = .ok (.ireturn, 1) := by decide +kernel
theorem hy_L_passes : yL_passes.cls ≠ "java/lang/invoke/MethodHandle" ∧ yL_passes.cls ≠ "java/lang/invoke/VarHandle" ∧ (parseMethodDescriptor yL_passes.desc).map (fun d => d.parameters.length) = some 2 := ⟨by decide +kernel, by decide +kernel, by decide +kernel⟩
set_option maxHeartbeats 4000000 in
set_option maxRecDepth 100000 in
theorem lp_L_passes_b {E : zE} {l0 : Launch} {D0 : va_G} {cI0 cJ0 : ClassId} {ad : Nat → Nat → Nat} (hE : zG E l0 D0 cI0 cJ0 ad cL_passes 12 RL 7 166) (S : zM) (d : Int) (jS : RJ S) (iS : Inv (S 0)) (hd : 1 ≤ d ∧ d ≤ 60) (hR : zR E (some .boolean) (some (.int (i32 (zbo (True))))) (fun X => AP S X (ok_passDays d) (nx_passDays (S 0) d))) : ∀ (fuel : Nat) (X : zM) (k : Int) (pX : AP S X (ok_passDays d) (nx_passDays (S 0) d)) (iX : Inv (X 0)) (o1 : sp_all (X 0) = sp_all (S 0)) (o2 : fr_w (X 0) = fr_w (S 0)) (o3 : X 0 6 = S 0 6) (o5 : fr_open (X 0) = fr_open (S 0) - sp_daysN (S 0) d.toNat) (o18 : X 0 18 = S 0 18 + d) (hb1 : S 0 14 * 0 ≤ fr_open (S 0) ∧ fr_open (S 0) ≤ S 0 14 * 1) (hb2 : X 0 14 * 0 ≤ fr_open (X 0) ∧ fr_open (X 0) ≤ X 0 14 * 1) (h9 : 0 ≤ k ∧ k ≤ X 0 14), (X 0 14 - k).toNat < fuel → Z E X 83 [(11, .int (i32 k)), (10, .int (i32 (sm (fr_is (X 0)) k))), (9, .int (i32 (sp_daysN (S 0) d.toNat))), (8, .int (i32 (fr_open (S 0)))), (2, .long (i64 (fr_acc (S 0)))), (4, .int (i32 (S 0 2))), (5, .int (i32 (sp_all (S 0)))), (6, .int (i32 (S 0 18))), (7, .int (i32 (S 0 6))), (0, .ref (ad 5 22)), (1, .int (i32 d))] [] := by
  intro fuel
  induction fuel with
  | zero => intro _ _ _ _ _ _ _ _ _ _ _ _ hz; omega
  | succ fuel ih =>
    intro X k pX iX o1 o2 o3 o5 o18 hb1 hb2 h9 hz
    have aS := inA iS.1
    unfold InvA at aS
    have jX := pX.1
    have aX := inA iX.1
    unfold InvA at aX
    have hT := inT iS.1
    have hTX := inT iX.1
    have hd7 := iS.2.2
    refine z_iload hE 0 rfl dL_passes_83 ?_
    refine z_aload_n hE 9 rfl rfl dL_passes_85 ?_
    refine z_callV hE (c_X7_offerCount l0 D0 cI0 cJ0 ad X 0 (by decide) jX.1 iX) (by decide) rfl rfl zm_L_58 zi_yX7_offerCount zs_yX7_offerCount zn_RX7 zc_yX7_offerCount (hy_X7_offerCount) (Nat.le_of_ble_eq_true rfl) (Nat.le_of_ble_eq_true rfl) rfl rfl rfl (Nat.le_of_ble_eq_true rfl) dL_passes_86 ?_
    refine z_icmp_ge (tgt := 118) hE dL_passes_89 (by decide) ⟨by omega, by omega⟩ ⟨by omega, by omega⟩ (fun c1 => ?_) (fun c1 => ?_)
    · have ek : k = X 0 14 := by omega
      rw [ek, show sm (fr_is (X 0)) (X 0 14) = fr_open (X 0) from rfl]
      have hw1 : fr_w (X 0) = fr_acc (X 0) - X 0 6 * X 0 2 := rfl
      have hw2 : fr_w (S 0) = fr_acc (S 0) - S 0 6 * S 0 2 := rfl
      rw [o3] at hw1
      have hw3 : S 0 6 * (X 0 2 - S 0 2) = S 0 6 * X 0 2 - S 0 6 * S 0 2 := Int.mul_sub _ _ _
      have ht2 := inTr iS.1
      have ht3 := inTr iX.1
      refine z_iload hE 2 rfl dL_passes_118 ?_
      refine z_iload hE 3 rfl dL_passes_120 ?_
      refine z_iload hE 1 rfl dL_passes_122 ?_
      refine z_isub hE dL_passes_124 ?_
      refine z_icmp_ne (tgt := 183) hE dL_passes_125 (by decide) ⟨by omega, by omega⟩ ⟨by omega, by omega⟩ (fun c2 => ?_) (fun c2 => ?_)
      · exact by omega
      · refine z_aload_n hE 9 rfl rfl dL_passes_128 ?_
        refine z_callV hE (c_X7_allShares l0 D0 cI0 cJ0 ad X 0 (by decide) jX.1 iX) (by decide) rfl rfl zm_L_55 zi_yX7_allShares zs_yX7_allShares zn_RX7 zc_yX7_allShares (hy_X7_allShares) (Nat.le_of_ble_eq_true rfl) (Nat.le_of_ble_eq_true rfl) rfl rfl rfl (Nat.le_of_ble_eq_true rfl) dL_passes_129 ?_
        refine z_iload hE 6 rfl dL_passes_132 ?_
        refine z_icmp_ne (tgt := 183) hE dL_passes_134 (by decide) ⟨by omega, by omega⟩ ⟨by omega, by omega⟩ (fun c3 => ?_) (fun c3 => ?_)
        · exact by omega
        · refine z_aload_n hE 9 rfl rfl dL_passes_137 ?_
          refine z_callV hE (c_X7_day l0 D0 cI0 cJ0 ad X 0 (by decide) jX.1 iX) (by decide) rfl rfl zm_L_81 zi_yX7_day zs_yX7_day zn_RX7 zc_yX7_day (hy_X7_day) (Nat.le_of_ble_eq_true rfl) (Nat.le_of_ble_eq_true rfl) rfl rfl rfl (Nat.le_of_ble_eq_true rfl) dL_passes_138 ?_
          refine z_iload hE 7 rfl dL_passes_141 ?_
          refine z_iload_n hE 10 rfl rfl dL_passes_143 ?_
          refine z_iadd hE dL_passes_144 ?_
          rw [show (X 0) 18 = S 0 18 + d from o18]
          refine z_samen (tgt := 183) hE dL_passes_145 (by decide) ?_
          refine z_aload_n hE 9 rfl rfl dL_passes_148 ?_
          refine z_callV hE (c_X7_price l0 D0 cI0 cJ0 ad X 0 (by decide) jX.1 iX) (by decide) rfl rfl zm_L_84 zi_yX7_price zs_yX7_price zn_RX7 zc_yX7_price (hy_X7_price) (Nat.le_of_ble_eq_true rfl) (Nat.le_of_ble_eq_true rfl) rfl rfl rfl (Nat.le_of_ble_eq_true rfl) dL_passes_149 ?_
          refine z_iload hE 8 rfl dL_passes_152 ?_
          refine z_icmp_ne (tgt := 183) hE dL_passes_154 (by decide) ⟨by omega, by omega⟩ ⟨by omega, by omega⟩ (fun c4 => ?_) (fun c4 => ?_)
          · exact by omega
          · refine z_aload_n hE 9 rfl rfl dL_passes_157 ?_
            refine z_callS hE (c_L_accounts l0 D0 cI0 cJ0 ad X jX iX) zm_L_77 zt_yL_accounts zn_RL zc_yL_accounts (hy_L_accounts) (Nat.le_of_ble_eq_true rfl) (Nat.le_of_ble_eq_true rfl) rfl rfl rfl (Nat.le_of_ble_eq_true rfl) dL_passes_158 ?_
            refine z_lload_n hE 4 rfl rfl dL_passes_161 ?_
            refine z_lsub hE dL_passes_162 ?_
            refine z_iload hE 8 rfl dL_passes_163 ?_
            refine z_i2l hE ⟨by omega, by omega⟩ dL_passes_165 ?_
            refine z_aload_n hE 9 rfl rfl dL_passes_166 ?_
            refine z_callV hE (c_X7_treasury l0 D0 cI0 cJ0 ad X 0 (by decide) jX.1 iX) (by decide) rfl rfl zm_L_52 zi_yX7_treasury zs_yX7_treasury zn_RX7 zc_yX7_treasury (hy_X7_treasury) (Nat.le_of_ble_eq_true rfl) (Nat.le_of_ble_eq_true rfl) rfl rfl rfl (Nat.le_of_ble_eq_true rfl) dL_passes_167 ?_
            refine z_iload hE 5 rfl dL_passes_170 ?_
            refine z_isub hE dL_passes_172 ?_
            refine z_i2l hE ⟨by omega, by omega⟩ dL_passes_173 ?_
            refine z_lmul hE dL_passes_174 ?_
            rw [show (fr_acc ((X 0))) - (fr_acc (S 0)) = (S 0 6) * (((X 0) 2) - (S 0 2)) from by omega]
            refine z_lsame hE dL_passes_175 ?_
            refine z_if_ne (tgt := 183) hE dL_passes_176 (by decide) ⟨by omega, by omega⟩ (fun c5 => absurd rfl c5) (fun c5 => ?_)
            refine z_iconst hE dL_passes_179 ?_
            refine z_goto (tgt := 184) hE (d := dL_passes_180) (ht := by decide) ?_
            exact z_zret hE hR dL_passes_184 (by decide) (congrArg (fun x => some (Value.int (i32 x))) (by first | rfl | exact (if_pos trivial).symm | exact if_pos trivial)) (by exact pX)
    · have ho := inO iX.1 k (by omega) (by omega)
      refine z_iload hE 1 rfl dL_passes_92 ?_
      refine z_aload_n hE 9 rfl rfl dL_passes_94 ?_
      refine z_iload hE 0 rfl dL_passes_95 ?_
      refine z_callV hE (c_X7_stage l0 D0 cI0 cJ0 ad X k 0 (by decide) jX.1 iX (⟨by omega, by omega⟩)) (by decide) rfl rfl zm_L_38 zi_yX7_stage zs_yX7_stage zn_RX7 zc_yX7_stage (hy_X7_stage) (Nat.le_of_ble_eq_true rfl) (Nat.le_of_ble_eq_true rfl) rfl rfl rfl (Nat.le_of_ble_eq_true rfl) dL_passes_97 ?_
      rw [show rv_stage ((X 0)) k = X 0 (59 + 22 * k) from if_pos (by omega)]
      refine z_iconst hE dL_passes_100 ?_
      refine z_icmp_ge (tgt := 108) hE dL_passes_101 (by decide) ⟨by omega, by omega⟩ ⟨by omega, by omega⟩ (fun c6 => ?_) (fun c6 => ?_)
      · refine z_iconst hE dL_passes_108 ?_
        refine z_iadd hE dL_passes_109 ?_
        refine z_istore hE (by decide) rfl dL_passes_110 ?_
        refine z_iinc hE 1 rfl (by decide) rfl dL_passes_112 ?_
        refine z_goto (tgt := 83) hE (d := dL_passes_115) (ht := by decide) ?_
        refine z_L (L' := [(11, .int (i32 (k + 1))), (10, .int (i32 (sm (fr_is (X 0)) (k + 1)))), (9, .int (i32 (sp_daysN (S 0) d.toNat))), (8, .int (i32 (fr_open (S 0)))), (2, .long (i64 (fr_acc (S 0)))), (4, .int (i32 (S 0 2))), (5, .int (i32 (sp_all (S 0)))), (6, .int (i32 (S 0 18))), (7, .int (i32 (S 0 6))), (0, .ref (ad 5 22)), (1, .int (i32 d))]) [0, 1, 2, 3, 4, 5, 6, 7, 8, 9, 10] (by rw [show sm (fr_is (X 0)) (k + 1) = (sm (fr_is (X 0)) k) + 0 from by first | rfl | ((rw [sm_s h9.1]; unfold fr_is; first | rw [if_pos (by omega)] | rw [if_neg (by omega)]))]; rfl) ?_
        exact ih X (k + 1) pX iX o1 o2 o3 o5 o18 hb1 hb2 ⟨by omega, by omega⟩ (by omega)
      · refine z_iconst hE dL_passes_104 ?_
        refine z_goto (tgt := 109) hE (d := dL_passes_105) (ht := by decide) ?_
        refine z_iadd hE dL_passes_109 ?_
        refine z_istore hE (by decide) rfl dL_passes_110 ?_
        refine z_iinc hE 1 rfl (by decide) rfl dL_passes_112 ?_
        refine z_goto (tgt := 83) hE (d := dL_passes_115) (ht := by decide) ?_
        refine z_L (L' := [(11, .int (i32 (k + 1))), (10, .int (i32 (sm (fr_is (X 0)) (k + 1)))), (9, .int (i32 (sp_daysN (S 0) d.toNat))), (8, .int (i32 (fr_open (S 0)))), (2, .long (i64 (fr_acc (S 0)))), (4, .int (i32 (S 0 2))), (5, .int (i32 (sp_all (S 0)))), (6, .int (i32 (S 0 18))), (7, .int (i32 (S 0 6))), (0, .ref (ad 5 22)), (1, .int (i32 d))]) [0, 1, 2, 3, 4, 5, 6, 7, 8, 9, 10] (by rw [show sm (fr_is (X 0)) (k + 1) = (sm (fr_is (X 0)) k) + 1 from by first | rfl | ((rw [sm_s h9.1]; unfold fr_is; first | rw [if_pos (by omega)] | rw [if_neg (by omega)]))]; rfl) ?_
        exact ih X (k + 1) pX iX o1 o2 o3 o5 o18 hb1 hb2 ⟨by omega, by omega⟩ (by omega)
set_option maxHeartbeats 4000000 in
set_option maxRecDepth 100000 in
theorem lp_L_passes_a {E : zE} {l0 : Launch} {D0 : va_G} {cI0 cJ0 : ClassId} {ad : Nat → Nat → Nat} (hE : zG E l0 D0 cI0 cJ0 ad cL_passes 12 RL 7 166) (S : zM) (d : Int) (jS : RJ S) (iS : Inv (S 0)) (hd : 1 ≤ d ∧ d ≤ 60) (hR : zR E (some .boolean) (some (.int (i32 (zbo (True))))) (fun X => AP S X (ok_passDays d) (nx_passDays (S 0) d))) : ∀ (fuel : Nat) (k : Int) (h9 : 0 ≤ k ∧ k ≤ S 0 14), (S 0 14 - k).toNat < fuel → Z E S 35 [(9, .int (i32 k)), (8, .int (i32 (sm (fr_is (S 0)) k))), (2, .long (i64 (fr_acc (S 0)))), (4, .int (i32 (S 0 2))), (5, .int (i32 (sp_all (S 0)))), (6, .int (i32 (S 0 18))), (7, .int (i32 (S 0 6))), (0, .ref (ad 5 22)), (1, .int (i32 d))] [] := by
  intro fuel
  induction fuel with
  | zero => intro _ _ hz; omega
  | succ fuel ih =>
    intro k h9 hz
    have aS := inA iS.1
    unfold InvA at aS
    refine z_iload hE 0 rfl dL_passes_35 ?_
    refine z_aload_n hE 7 rfl rfl dL_passes_37 ?_
    refine z_callV hE (c_X7_offerCount l0 D0 cI0 cJ0 ad S 0 (by decide) jS.1 iS) (by decide) rfl rfl zm_L_58 zi_yX7_offerCount zs_yX7_offerCount zn_RX7 zc_yX7_offerCount (hy_X7_offerCount) (Nat.le_of_ble_eq_true rfl) (Nat.le_of_ble_eq_true rfl) rfl rfl rfl (Nat.le_of_ble_eq_true rfl) dL_passes_38 ?_
    refine z_icmp_ge (tgt := 70) hE dL_passes_41 (by decide) ⟨by omega, by omega⟩ ⟨by omega, by omega⟩ (fun c1 => ?_) (fun c1 => ?_)
    · have ek : k = S 0 14 := by omega
      rw [ek, show sm (fr_is (S 0)) (S 0 14) = fr_open (S 0) from rfl]
      refine z_aload_n hE 7 rfl rfl dL_passes_70 ?_
      refine z_iload_n hE 8 rfl rfl dL_passes_71 ?_
      obtain ⟨n1, n2, n3, n4, hn1, hn2, hn3, hn4, e1, e2, e3, e4, h01, h02, h03, h04⟩ := jS.2.2
      refine z_callVp hE (c_X7_passDays l0 D0 cI0 cJ0 ad S d 0 n1 n2 n3 n4 (by decide) hn1 hn2 hn3 hn4 jS.1 e1 e2 e3 e4 h04 jS.2.1 iS (⟨by omega, by omega⟩)) (by decide) rfl rfl zm_L_87 zi_yX7_passDays zs_yX7_passDays zn_RX7 zc_yX7_passDays (hy_X7_passDays) (Nat.le_of_ble_eq_true rfl) (Nat.le_of_ble_eq_true rfl) rfl rfl rfl (Nat.le_of_ble_eq_true rfl) dL_passes_72 (fun M72 hM72 => ?_)
      have pM72 := ap_days jS hn1 hn2 hn3 hn4 h01 h02 h03 h04 hM72
      have jM72 := pM72.1
      have iM72 := ap_inv pM72 (fun ok => inv_passDays iS ok) iS
      have aM72 := inA iM72.1
      unfold InvA at aM72
      have ok : ok_passDays d := ⟨by omega, by omega⟩
      obtain ⟨⟨o1, o2, o3, o4, o5, o6⟩, o14, o18⟩ := pass_od iS d
      rw [← pM72.2.2.1 ok] at o1 o2 o3 o4 o5 o14 o18
      clear o6
      have hb1 := sm_b (f := fr_is (S 0)) (n := S 0 14) (a := 0) (b := 1) (by omega) (fun k a b => by unfold fr_is; split <;> omega)
      rw [show sm (fr_is (S 0)) (S 0 14) = fr_open (S 0) from rfl] at hb1
      have hb2 := sm_b (f := fr_is (M72 0)) (n := M72 0 14) (a := 0) (b := 1) (by omega) (fun k a b => by unfold fr_is; split <;> omega)
      rw [show sm (fr_is (M72 0)) (M72 0 14) = fr_open (M72 0) from rfl] at hb2
      rw [show rv_passDays ((S 0)) d = sp_daysN (S 0) d.toNat from if_pos ok]
      refine z_istore hE (by decide) rfl dL_passes_75 ?_
      refine z_iconst hE dL_passes_77 ?_
      refine z_istore hE (by decide) rfl dL_passes_78 ?_
      refine z_iconst hE dL_passes_80 ?_
      refine z_istore hE (by decide) rfl dL_passes_81 ?_
      refine z_L (L' := [(11, .int (i32 0)), (10, .int (i32 (sm (fr_is (M72 0)) 0))), (9, .int (i32 (sp_daysN (S 0) d.toNat))), (8, .int (i32 (fr_open (S 0)))), (2, .long (i64 (fr_acc (S 0)))), (4, .int (i32 (S 0 2))), (5, .int (i32 (sp_all (S 0)))), (6, .int (i32 (S 0 18))), (7, .int (i32 (S 0 6))), (0, .ref (ad 5 22)), (1, .int (i32 d))]) [0, 1, 2, 3, 4, 5, 6, 7, 8, 9, 10] (by rw [show sm (fr_is (M72 0)) 0 = 0 from by first | rfl | (exact sm_0 _)]; rfl) ?_
      exact lp_L_passes_b hE S d jS iS hd hR 21 M72 0 pM72 iM72 o1 o2 o3 o5 o18 hb1 hb2 ⟨by omega, by omega⟩ (by omega)
    · have ho := inO iS.1 k (by omega) (by omega)
      refine z_iload hE 1 rfl dL_passes_44 ?_
      refine z_aload_n hE 7 rfl rfl dL_passes_46 ?_
      refine z_iload hE 0 rfl dL_passes_47 ?_
      refine z_callV hE (c_X7_stage l0 D0 cI0 cJ0 ad S k 0 (by decide) jS.1 iS (⟨by omega, by omega⟩)) (by decide) rfl rfl zm_L_38 zi_yX7_stage zs_yX7_stage zn_RX7 zc_yX7_stage (hy_X7_stage) (Nat.le_of_ble_eq_true rfl) (Nat.le_of_ble_eq_true rfl) rfl rfl rfl (Nat.le_of_ble_eq_true rfl) dL_passes_49 ?_
      rw [show rv_stage ((S 0)) k = S 0 (59 + 22 * k) from if_pos (by omega)]
      refine z_iconst hE dL_passes_52 ?_
      refine z_icmp_ge (tgt := 60) hE dL_passes_53 (by decide) ⟨by omega, by omega⟩ ⟨by omega, by omega⟩ (fun c2 => ?_) (fun c2 => ?_)
      · refine z_iconst hE dL_passes_60 ?_
        refine z_iadd hE dL_passes_61 ?_
        refine z_istore hE (by decide) rfl dL_passes_62 ?_
        refine z_iinc hE 1 rfl (by decide) rfl dL_passes_64 ?_
        refine z_goto (tgt := 35) hE (d := dL_passes_67) (ht := by decide) ?_
        refine z_L (L' := [(9, .int (i32 (k + 1))), (8, .int (i32 (sm (fr_is (S 0)) (k + 1)))), (2, .long (i64 (fr_acc (S 0)))), (4, .int (i32 (S 0 2))), (5, .int (i32 (sp_all (S 0)))), (6, .int (i32 (S 0 18))), (7, .int (i32 (S 0 6))), (0, .ref (ad 5 22)), (1, .int (i32 d))]) [0, 1, 2, 3, 4, 5, 6, 7, 8] (by rw [show sm (fr_is (S 0)) (k + 1) = (sm (fr_is (S 0)) k) + 0 from by first | rfl | ((rw [sm_s h9.1]; unfold fr_is; first | rw [if_pos (by omega)] | rw [if_neg (by omega)]))]; rfl) ?_
        exact ih (k + 1) ⟨by omega, by omega⟩ (by omega)
      · refine z_iconst hE dL_passes_56 ?_
        refine z_goto (tgt := 61) hE (d := dL_passes_57) (ht := by decide) ?_
        refine z_iadd hE dL_passes_61 ?_
        refine z_istore hE (by decide) rfl dL_passes_62 ?_
        refine z_iinc hE 1 rfl (by decide) rfl dL_passes_64 ?_
        refine z_goto (tgt := 35) hE (d := dL_passes_67) (ht := by decide) ?_
        refine z_L (L' := [(9, .int (i32 (k + 1))), (8, .int (i32 (sm (fr_is (S 0)) (k + 1)))), (2, .long (i64 (fr_acc (S 0)))), (4, .int (i32 (S 0 2))), (5, .int (i32 (sp_all (S 0)))), (6, .int (i32 (S 0 18))), (7, .int (i32 (S 0 6))), (0, .ref (ad 5 22)), (1, .int (i32 d))]) [0, 1, 2, 3, 4, 5, 6, 7, 8] (by rw [show sm (fr_is (S 0)) (k + 1) = (sm (fr_is (S 0)) k) + 1 from by first | rfl | ((rw [sm_s h9.1]; unfold fr_is; first | rw [if_pos (by omega)] | rw [if_neg (by omega)]))]; rfl) ?_
        exact ih (k + 1) ⟨by omega, by omega⟩ (by omega)
set_option maxHeartbeats 4000000 in
set_option maxRecDepth 100000 in
theorem c_L_passes (l0 : Launch) (D0 : va_G) (cI0 cJ0 : ClassId) (ad : Nat → Nat → Nat) (S : zM) (d : Int) (jS : RJ S) (iS : Inv (S 0)) (hd : 1 ≤ d ∧ d ≤ 60) : Ct l0 D0 cI0 cJ0 ad yL_passes cL_passes 12 (some .boolean) 7 166 [.ref (ad 5 22), .int (i32 d)] S (some (.int (i32 (zbo (True))))) (fun X => AP S X (ok_passDays d) (nx_passDays (S 0) d)) := by
  refine Ct.of (by decide) (Nat.le_of_ble_eq_true rfl) (fun E hE hR => ?_)
  have hE : zG E l0 D0 cI0 cJ0 ad cL_passes 12 RL 7 166 := hE
  show Z E S 0 [(0, .ref (ad 5 22)), (1, .int (i32 d))] []
  have aS := inA iS.1
  unfold InvA at aS
  have hT := inT iS.1
  refine z_aload_n hE 0 rfl rfl dL_passes_0 ?_
  refine z_callS hE (c_L_accounts l0 D0 cI0 cJ0 ad S jS iS) zm_L_77 zt_yL_accounts zn_RL zc_yL_accounts (hy_L_accounts) (Nat.le_of_ble_eq_true rfl) (Nat.le_of_ble_eq_true rfl) rfl rfl rfl (Nat.le_of_ble_eq_true rfl) dL_passes_1 ?_
  refine z_lstore_n hE rfl (by decide) rfl dL_passes_4 ?_
  refine z_aload_n hE 1 rfl rfl dL_passes_5 ?_
  refine z_callV hE (c_X7_treasury l0 D0 cI0 cJ0 ad S 0 (by decide) jS.1 iS) (by decide) rfl rfl zm_L_52 zi_yX7_treasury zs_yX7_treasury zn_RX7 zc_yX7_treasury (hy_X7_treasury) (Nat.le_of_ble_eq_true rfl) (Nat.le_of_ble_eq_true rfl) rfl rfl rfl (Nat.le_of_ble_eq_true rfl) dL_passes_6 ?_
  refine z_istore hE (by decide) rfl dL_passes_9 ?_
  refine z_aload_n hE 2 rfl rfl dL_passes_11 ?_
  refine z_callV hE (c_X7_allShares l0 D0 cI0 cJ0 ad S 0 (by decide) jS.1 iS) (by decide) rfl rfl zm_L_55 zi_yX7_allShares zs_yX7_allShares zn_RX7 zc_yX7_allShares (hy_X7_allShares) (Nat.le_of_ble_eq_true rfl) (Nat.le_of_ble_eq_true rfl) rfl rfl rfl (Nat.le_of_ble_eq_true rfl) dL_passes_12 ?_
  refine z_istore hE (by decide) rfl dL_passes_15 ?_
  refine z_aload_n hE 3 rfl rfl dL_passes_17 ?_
  refine z_callV hE (c_X7_day l0 D0 cI0 cJ0 ad S 0 (by decide) jS.1 iS) (by decide) rfl rfl zm_L_81 zi_yX7_day zs_yX7_day zn_RX7 zc_yX7_day (hy_X7_day) (Nat.le_of_ble_eq_true rfl) (Nat.le_of_ble_eq_true rfl) rfl rfl rfl (Nat.le_of_ble_eq_true rfl) dL_passes_18 ?_
  refine z_istore hE (by decide) rfl dL_passes_21 ?_
  refine z_aload_n hE 4 rfl rfl dL_passes_23 ?_
  refine z_callV hE (c_X7_price l0 D0 cI0 cJ0 ad S 0 (by decide) jS.1 iS) (by decide) rfl rfl zm_L_84 zi_yX7_price zs_yX7_price zn_RX7 zc_yX7_price (hy_X7_price) (Nat.le_of_ble_eq_true rfl) (Nat.le_of_ble_eq_true rfl) rfl rfl rfl (Nat.le_of_ble_eq_true rfl) dL_passes_24 ?_
  refine z_istore hE (by decide) rfl dL_passes_27 ?_
  refine z_iconst hE dL_passes_29 ?_
  refine z_istore hE (by decide) rfl dL_passes_30 ?_
  refine z_iconst hE dL_passes_32 ?_
  refine z_istore hE (by decide) rfl dL_passes_33 ?_
  refine z_L (L' := [(9, .int (i32 0)), (8, .int (i32 (sm (fr_is (S 0)) 0))), (2, .long (i64 (fr_acc (S 0)))), (4, .int (i32 (S 0 2))), (5, .int (i32 (sp_all (S 0)))), (6, .int (i32 (S 0 18))), (7, .int (i32 (S 0 6))), (0, .ref (ad 5 22)), (1, .int (i32 d))]) [0, 1, 6, 5, 4, 3, 2, 7, 8] (by rw [show sm (fr_is (S 0)) 0 = 0 from by first | rfl | (exact sm_0 _), show fr_acc (S 0) = fr_acc ((S 0)) from by first | rfl | (exact sm_0 _), show S 0 2 = (S 0) 2 from by first | rfl | (exact sm_0 _), show sp_all (S 0) = sp_all ((S 0)) from by first | rfl | (exact sm_0 _), show S 0 18 = (S 0) 18 from by first | rfl | (exact sm_0 _), show S 0 6 = (S 0) 6 from by first | rfl | (exact sm_0 _)]; rfl) ?_
  exact lp_L_passes_a hE S d jS iS hd hR 21 0 ⟨by omega, by omega⟩ (by omega)
theorem dL_begins_0 : decode cL_begins 0 = .ok (.iconst 1, 1) := by decide +kernel
theorem dL_begins_1 : decode cL_begins 1 = .ok (.istore_n 3, 1) := by decide +kernel
theorem dL_begins_2 : decode cL_begins 2 = .ok (.iconst 0, 1) := by decide +kernel
theorem dL_begins_3 : decode cL_begins 3 = .ok (.istore 4, 2) := by decide +kernel
theorem dL_begins_5 : decode cL_begins 5 = .ok (.iload 4, 2) := by decide +kernel
theorem dL_begins_7 : decode cL_begins 7 = .ok (.iload_n 2, 1) := by decide +kernel
theorem dL_begins_8 : decode cL_begins 8 = .ok (.if_icmp .ge 71, 3) := by decide +kernel
theorem dL_begins_11 : decode cL_begins 11 = .ok (.iload_n 3, 1) := by decide +kernel
theorem dL_begins_12 : decode cL_begins 12 = .ok (.ifCond .eq 67, 3) := by decide +kernel
theorem dL_begins_15 : decode cL_begins 15 = .ok (.aload_n 1, 1) := by decide +kernel
theorem dL_begins_16 : decode cL_begins 16 = .ok (.iload 4, 2) := by decide +kernel
theorem dL_begins_18 : decode cL_begins 18 = .ok (.invokestatic 8, 3) := by decide +kernel
theorem dL_begins_21 : decode cL_begins 21 = .ok (.istore 5, 2) := by decide +kernel
theorem dL_begins_23 : decode cL_begins 23 = .ok (.aload_n 0, 1) := by decide +kernel
theorem dL_begins_24 : decode cL_begins 24 = .ok (.invokevirtual 14, 3) := by decide +kernel
theorem dL_begins_27 : decode cL_begins 27 = .ok (.iload 4, 2) := by decide +kernel
theorem dL_begins_29 : decode cL_begins 29 = .ok (.if_icmp .ne 42, 3) := by decide +kernel
theorem dL_begins_32 : decode cL_begins 32 = .ok (.aload_n 0, 1) := by decide +kernel
theorem dL_begins_33 : decode cL_begins 33 = .ok (.iload 4, 2) := by decide +kernel
theorem dL_begins_35 : decode cL_begins 35 = .ok (.iconst 1, 1) := by decide +kernel
theorem dL_begins_36 : decode cL_begins 36 = .ok (.iload 5, 2) := by decide +kernel
theorem dL_begins_38 : decode cL_begins 38 = .ok (.sipush 200, 3) := by decide +kernel
theorem dL_begins_41 : decode cL_begins 41 = .ok (.irem, 1) := by decide +kernel
theorem dL_begins_42 : decode cL_begins 42 = .ok (.iadd, 1) := by decide +kernel
theorem dL_begins_43 : decode cL_begins 43 = .ok (.invokevirtual 20, 3) := by decide +kernel
theorem dL_begins_46 : decode cL_begins 46 = .ok (.ifCond .le 25, 3) := by decide +kernel
theorem dL_begins_49 : decode cL_begins 49 = .ok (.aload_n 0, 1) := by decide +kernel
theorem dL_begins_50 : decode cL_begins 50 = .ok (.iload 4, 2) := by decide +kernel
theorem dL_begins_52 : decode cL_begins 52 = .ok (.iload 5, 2) := by decide +kernel
theorem dL_begins_54 : decode cL_begins 54 = .ok (.sipush 256, 3) := by decide +kernel
theorem dL_begins_57 : decode cL_begins 57 = .ok (.idiv, 1) := by decide +kernel
theorem dL_begins_58 : decode cL_begins 58 = .ok (.ldc 24, 2) := by decide +kernel
theorem dL_begins_60 : decode cL_begins 60 = .ok (.irem, 1) := by decide +kernel
theorem dL_begins_61 : decode cL_begins 61 = .ok (.invokevirtual 25, 3) := by decide +kernel
theorem dL_begins_64 : decode cL_begins 64 = .ok (.ifCond .ne 7, 3) := by decide +kernel
theorem dL_begins_67 : decode cL_begins 67 = .ok (.iconst 1, 1) := by decide +kernel
theorem dL_begins_68 : decode cL_begins 68 = .ok (.goto 4, 3) := by decide +kernel
theorem dL_begins_71 : decode cL_begins 71 = .ok (.iconst 0, 1) := by decide +kernel
theorem dL_begins_72 : decode cL_begins 72 = .ok (.istore_n 3, 1) := by decide +kernel
theorem dL_begins_73 : decode cL_begins 73 = .ok (.iinc 4 1, 3) := by decide +kernel
theorem dL_begins_76 : decode cL_begins 76 = .ok (.goto (-71), 3) := by decide +kernel
theorem dL_begins_79 : decode cL_begins 79 = .ok (.iload_n 3, 1) := by decide +kernel
theorem dL_begins_80 : decode cL_begins 80 = .ok (.ireturn, 1) := by decide +kernel
theorem hy_L_begins : yL_begins.cls ≠ "java/lang/invoke/MethodHandle" ∧ yL_begins.cls ≠ "java/lang/invoke/VarHandle" ∧ (parseMethodDescriptor yL_begins.desc).map (fun d => d.parameters.length) = some 3 := ⟨by decide +kernel, by decide +kernel, by decide +kernel⟩
theorem all_join {s : Int → Int} (h : Inv s) (hv : ok_join s) : sp_all (nx_join s) = sp_all s := by
  have hA := inA h.1
  unfold InvA at hA
  have e : ∀ q : Int, q ≠ 0 → nx_join s q = s q := fun q hq => up_ne hq
  have e0 : nx_join s 0 = s 0 + 1 := up_eq
  unfold sp_all
  rw [e0, e 2 (by omega), sm_s hA.1.1, e _ (by omega), (inMm h.1 (s 0) (by omega) (by omega)).2.2.2 (Int.le_refl _), sm_cg fun k a b => e (19 + 3 * k) (by omega)]
  omega
set_option maxHeartbeats 4000000 in
set_option maxRecDepth 100000 in
theorem lp_L_begins {E : zE} {l0 : Launch} {D0 : va_G} {cI0 cJ0 : ClassId} {ad : Nat → Nat → Nat} (hE : zG E l0 D0 cI0 cJ0 ad cL_begins 6 RL 5 112) (S : zM) (b N : Nat) (xs : Nat → Int32) (n : Int) (jS : RJ S) (iS : Inv (S 0)) (h0 : S 0 0 = 0) (h14 : S 0 14 = 0) (ha : sp_all (S 0) = 0) (hz0 : ∀ x : Int, 0 ≤ x → x < 12 → S 0 (20 + 3 * x) = 0) (hn : n = 4) (hX : zX E b N xs) (hR : zR E (some .boolean) (some (.int (i32 (zbo (True))))) (fun X => RJ X ∧ Inv (X 0) ∧ X 6 = S 6 ∧ X 0 0 = 4 ∧ X 0 14 = 0 ∧ sp_all (X 0) ≤ 800)) : ∀ (fuel : Nat) (X : zM) (k : Int) (jX : RJ X) (iX : Inv (X 0)) (gX : X 6 = S 6) (b0 : X 0 0 = k) (b14 : X 0 14 = 0) (ba : sp_all (X 0) ≤ 200 * k) (bm : ∀ x : Int, k ≤ x → x < 12 → X 0 (20 + 3 * x) = 0) (h9 : 0 ≤ k ∧ k ≤ n), (4 - k).toNat < fuel → Z E X 5 [(4, .int (i32 k)), (3, .int (i32 1)), (0, .ref (ad 5 22)), (1, .ref b), (2, .int (i32 n))] [] := by
  intro fuel
  induction fuel with
  | zero => intro _ _ _ _ _ _ _ _ _ _ hz; omega
  | succ fuel ih =>
    intro X k jX iX gX b0 b14 ba bm h9 hz
    have aX := inA iX.1
    unfold InvA at aX
    have hTX := inT iX.1
    refine z_iload hE 0 rfl dL_begins_5 ?_
    refine z_iload_n hE 4 rfl rfl dL_begins_7 ?_
    refine z_icmp_ge (tgt := 79) hE dL_begins_8 (by decide) ⟨by omega, by omega⟩ ⟨by omega, by omega⟩ (fun c1 => ?_) (fun c1 => ?_)
    · refine z_iload_n hE 1 rfl rfl dL_begins_79 ?_
      exact z_zret hE hR dL_begins_80 (by decide) (congrArg (fun x => some (Value.int (i32 x))) (by first | rfl | exact (if_pos trivial).symm | exact if_pos trivial)) ⟨jX, iX, gX, by omega, b14, by omega⟩
    · refine z_iload_n hE 1 rfl rfl dL_begins_11 ?_
      refine z_if_eq (tgt := 79) hE dL_begins_12 (by decide) ⟨by omega, by omega⟩ (fun c2 => absurd c2 (by decide)) (fun c2 => ?_)
      have hc := cel_b N xs k
      refine z_aload_n hE 3 rfl rfl dL_begins_15 ?_
      refine z_iload hE 0 rfl dL_begins_16 ?_
      refine z_callX hE hX (c_L_cell l0 D0 cI0 cJ0 ad X b N xs k (by omega)) zm_L_8 zt_yL_cell zn_RL zc_yL_cell hy_L_cell (Nat.le_of_ble_eq_true rfl) (Nat.le_of_ble_eq_true rfl) rfl rfl rfl (Nat.le_of_ble_eq_true rfl) dL_begins_18 (fun M18 hM18 => ?_)
      have hM18 : M18 = X := hM18
      rw [hM18]
      refine z_istore hE (by decide) rfl dL_begins_21 ?_
      refine z_aload_n hE 3 rfl rfl dL_begins_23 ?_
      obtain ⟨n1, n2, n3, n4, hn1, hn2, hn3, hn4, e1, e2, e3, e4, h01, h02, h03, h04⟩ := jX.2.2
      refine z_callVp hE (c_X7_join l0 D0 cI0 cJ0 ad X 0 n1 n2 n3 n4 (by decide) hn1 hn2 hn3 hn4 jX.1 e1 e2 e3 e4 h04 jX.2.1 iX) (by decide) rfl rfl zm_L_14 zi_yX7_join zs_yX7_join zn_RX7 zc_yX7_join (hy_X7_join) (Nat.le_of_ble_eq_true rfl) (Nat.le_of_ble_eq_true rfl) rfl rfl rfl (Nat.le_of_ble_eq_true rfl) dL_begins_24 (fun M24 hM24 => ?_)
      have pM24 := ap_act jX hn1 hn2 hn3 hn4 h01 h02 h03 h04 hM24
      have jM24 := pM24.1
      have iM24 := ap_inv pM24 (fun ok => inv_join iX ok) iX
      have aM24 := inA iM24.1
      unfold InvA at aM24
      have okj : ok_join (X 0) := by omega
      have n1x := pM24.2.2.1 okj
      have x0 : M24 0 0 = k + 1 := by rw [n1x]; exact up_eq.trans (by omega)
      have x14 : M24 0 14 = 0 := by rw [n1x]; exact (up_ne (by omega)).trans b14
      have xa : sp_all (M24 0) = sp_all (X 0) := by rw [n1x]; exact all_join iX okj
      have xm : ∀ x : Int, k ≤ x → x < 12 → M24 0 (20 + 3 * x) = 0 := fun x a c => by rw [n1x]; exact (up_ne (by omega)).trans (bm x a c)
      rw [show rv_join ((X 0)) = k from (if_pos okj).trans b0]
      refine z_iload hE 1 rfl dL_begins_27 ?_
      refine z_icmp_ne (tgt := 71) hE dL_begins_29 (by decide) ⟨by omega, by omega⟩ ⟨by omega, by omega⟩ (fun c3 => ?_) (fun c3 => ?_)
      · exact by omega
      · refine z_aload_n hE 3 rfl rfl dL_begins_32 ?_
        refine z_iload hE 1 rfl dL_begins_33 ?_
        refine z_iconst hE dL_begins_35 ?_
        refine z_iload hE 0 rfl dL_begins_36 ?_
        refine z_sipush (a := 200) hE (by decide) dL_begins_38 ?_
        refine z_irem hE ⟨by omega, by omega⟩ ⟨by omega, by omega⟩ (by omega) dL_begins_41 ?_
        rw [zx_tdiv (show 0 ≤ cel N xs k by omega)]
        refine z_iadd hE dL_begins_42 ?_
        obtain ⟨n1, n2, n3, n4, hn1, hn2, hn3, hn4, e1, e2, e3, e4, h01, h02, h03, h04⟩ := jM24.2.2
        refine z_callVp hE (c_X7_issue l0 D0 cI0 cJ0 ad M24 k (1 + ((cel N xs k) - (cel N xs k) / 200 * 200)) 0 n1 n2 n3 n4 (by decide) hn1 hn2 hn3 hn4 jM24.1 e1 e2 e3 e4 h04 jM24.2.1 iM24 (⟨by omega, by omega⟩) (⟨by omega, by omega⟩)) (by decide) rfl rfl zm_L_20 zi_yX7_issue zs_yX7_issue zn_RX7 zc_yX7_issue (hy_X7_issue) (Nat.le_of_ble_eq_true rfl) (Nat.le_of_ble_eq_true rfl) rfl rfl rfl (Nat.le_of_ble_eq_true rfl) dL_begins_43 (fun M43 hM43 => ?_)
        have pM43 := ap_act jM24 hn1 hn2 hn3 hn4 h01 h02 h03 h04 hM43
        have jM43 := pM43.1
        have iM43 := ap_inv pM43 (fun ok => inv_issue iM24 ok) iM24
        have aM43 := inA iM43.1
        unfold InvA at aM43
        obtain ⟨q, hq⟩ : ∃ q : Int, q = 1 + ((cel N xs k) - (cel N xs k) / 200 * 200) := ⟨_, rfl⟩
        rw [← hq] at pM43 ⊢
        have hq2 : 1 ≤ q ∧ q ≤ 200 := by omega
        have oki : ok_issue (M24 0) k q := ⟨⟨⟨by omega, by omega⟩, by omega, by omega⟩, by omega⟩
        have n2x := pM43.2.2.1 oki
        have y0 : M43 0 0 = k + 1 := by rw [n2x]; unfold nx_issue; rw [uq_ne (by omega), uq_ne (by omega)]; exact x0
        have y14 : M43 0 14 = 0 := by rw [n2x]; unfold nx_issue; rw [uq_ne (by omega), uq_ne (by omega)]; exact x14
        have ya : sp_all (M43 0) = sp_all (M24 0) + q := by rw [n2x]; exact all_issue ⟨by omega, by omega⟩
        have ym : ∀ x : Int, k ≤ x → x < 12 → M43 0 (20 + 3 * x) = 0 := fun x a c => by rw [n2x]; unfold nx_issue; rw [uq_ne (by omega), uq_ne (by omega)]; exact xm x a c
        have hT4 := inT iM24.1
        rw [show rv_issue (M24 0) k q = sp_all (M24 0) + q from (if_pos oki.1).trans (if_pos oki.2)]
        refine z_if_le (tgt := 71) hE dL_begins_46 (by decide) ⟨by omega, by omega⟩ (fun c4 => ?_) (fun c4 => ?_)
        · exact by omega
        · refine z_aload_n hE 3 rfl rfl dL_begins_49 ?_
          refine z_iload hE 1 rfl dL_begins_50 ?_
          refine z_iload hE 0 rfl dL_begins_52 ?_
          refine z_sipush (a := 256) hE (by decide) dL_begins_54 ?_
          refine z_idiv hE ⟨by omega, by omega⟩ ⟨by omega, by omega⟩ (by omega) dL_begins_57 ?_
          rw [zx_tdiv (show 0 ≤ cel N xs k by omega)]
          refine z_ldc (a := 250000) hE zk_L_24 (by decide) dL_begins_58 ?_
          refine z_irem hE ⟨by omega, by omega⟩ ⟨by omega, by omega⟩ (by omega) dL_begins_60 ?_
          rw [zx_tdiv (show 0 ≤ (cel N xs k) / 256 by omega)]
          obtain ⟨n1, n2, n3, n4, hn1, hn2, hn3, hn4, e1, e2, e3, e4, h01, h02, h03, h04⟩ := jM43.2.2
          refine z_callVp hE (c_X7_setMilk l0 D0 cI0 cJ0 ad M43 k (((cel N xs k) / 256) - ((cel N xs k) / 256) / 250000 * 250000) 0 n1 n2 n3 n4 (by decide) hn1 hn2 hn3 hn4 jM43.1 e1 e2 e3 e4 h04 jM43.2.1 iM43 (⟨by omega, by omega⟩) (⟨by omega, by omega⟩)) (by decide) rfl rfl zm_L_25 zi_yX7_setMilk zs_yX7_setMilk zn_RX7 zc_yX7_setMilk (hy_X7_setMilk) (Nat.le_of_ble_eq_true rfl) (Nat.le_of_ble_eq_true rfl) rfl rfl rfl (Nat.le_of_ble_eq_true rfl) dL_begins_61 (fun M61 hM61 => ?_)
          have pM61 := ap_act jM43 hn1 hn2 hn3 hn4 h01 h02 h03 h04 hM61
          have jM61 := pM61.1
          have iM61 := ap_inv pM61 (fun ok => inv_setMilk iM43 ok) iM43
          have aM61 := inA iM61.1
          unfold InvA at aM61
          obtain ⟨w, hw⟩ : ∃ w : Int, w = ((cel N xs k) / 256) - ((cel N xs k) / 256) / 250000 * 250000 := ⟨_, rfl⟩
          rw [← hw] at pM61 ⊢
          have hw2 : 0 ≤ w ∧ w ≤ 1000000 := by omega
          have okm : ok_setMilk (M43 0) k w := ⟨⟨by omega, by omega⟩, by omega, by omega⟩
          have n3x := pM61.2.2.1 okm
          have z0 : M61 0 0 = k + 1 := by rw [n3x]; exact (up_ne (by omega)).trans y0
          have z14 : M61 0 14 = 0 := by rw [n3x]; exact (up_ne (by omega)).trans y14
          have za : sp_all (M61 0) = sp_all (M43 0) := by rw [n3x]; exact all_cg (up_ne (by omega)) (up_ne (by omega)) (fun x a c => up_ne (by omega))
          have zm : ∀ x : Int, k + 1 ≤ x → x < 12 → M61 0 (20 + 3 * x) = 0 := fun x a c => by rw [n3x]; exact (up_ne (by omega)).trans (ym x (by omega) c)
          rw [show rv_setMilk (M43 0) k w = 0 from (if_pos okm).trans (ym k (by omega) (by omega))]
          refine z_if_ne (tgt := 71) hE dL_begins_64 (by decide) ⟨by omega, by omega⟩ (fun c5 => absurd rfl c5) (fun c5 => ?_)
          refine z_iconst hE dL_begins_67 ?_
          refine z_goto (tgt := 72) hE (d := dL_begins_68) (ht := by decide) ?_
          refine z_istore_n hE rfl (by decide) rfl dL_begins_72 ?_
          refine z_iinc hE 2 rfl (by decide) rfl dL_begins_73 ?_
          refine z_goto (tgt := 5) hE (d := dL_begins_76) (ht := by decide) ?_
          refine z_L (L' := [(4, .int (i32 (k + 1))), (3, .int (i32 1)), (0, .ref (ad 5 22)), (1, .ref b), (2, .int (i32 n))]) [0, 1, 3, 4, 5] rfl ?_
          exact ih M61 (k + 1) jM61 iM61 (pM61.2.1.trans (pM43.2.1.trans (pM24.2.1.trans gX))) z0 z14 (by omega) zm ⟨by omega, by omega⟩ (by omega)
set_option maxHeartbeats 4000000 in
set_option maxRecDepth 100000 in
theorem c_L_begins (l0 : Launch) (D0 : va_G) (cI0 cJ0 : ClassId) (ad : Nat → Nat → Nat) (S : zM) (b N : Nat) (xs : Nat → Int32) (n : Int) (jS : RJ S) (iS : Inv (S 0)) (h0 : S 0 0 = 0) (h14 : S 0 14 = 0) (ha : sp_all (S 0) = 0) (hz0 : ∀ x : Int, 0 ≤ x → x < 12 → S 0 (20 + 3 * x) = 0) (hn : n = 4) : CtX l0 D0 cI0 cJ0 ad yL_begins cL_begins 6 (some .boolean) 5 112 [.ref (ad 5 22), .ref b, .int (i32 n)] S (some (.int (i32 (zbo (True))))) (fun X => RJ X ∧ Inv (X 0) ∧ X 6 = S 6 ∧ X 0 0 = 4 ∧ X 0 14 = 0 ∧ sp_all (X 0) ≤ 800) b N xs := by
  refine CtX.of (by decide) (Nat.le_of_ble_eq_true rfl) (fun E hE hX hR => ?_)
  have hE : zG E l0 D0 cI0 cJ0 ad cL_begins 6 RL 5 112 := hE
  show Z E S 0 [(0, .ref (ad 5 22)), (1, .ref b), (2, .int (i32 n))] []
  refine z_iconst hE dL_begins_0 ?_
  refine z_istore_n hE rfl (by decide) rfl dL_begins_1 ?_
  refine z_iconst hE dL_begins_2 ?_
  refine z_istore hE (by decide) rfl dL_begins_3 ?_
  exact lp_L_begins hE S b N xs n jS iS h0 h14 ha hz0 hn hX hR 5 S 0 jS iS rfl h0 h14 (by omega) hz0 ⟨by omega, by omega⟩ (by omega)
