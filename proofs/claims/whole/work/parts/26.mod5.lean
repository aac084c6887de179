theorem dX8_claimed_0 : decode cX8_claimed 0 = .ok (.iconst 0, 1) := by decide +kernel
theorem dX8_claimed_1 : decode cX8_claimed 1 = .ok (.istore_n 2, 1) := by decide +kernel
theorem dX8_claimed_2 : decode cX8_claimed 2 = .ok (.iload_n 2, 1) := by decide +kernel
theorem dX8_claimed_3 : decode cX8_claimed 3 = .ok (.bipush 12, 2) := by decide +kernel
theorem dX8_claimed_5 : decode cX8_claimed 5 = .ok (.if_icmp .ge 52, 3) := by decide +kernel
theorem dX8_claimed_8 : decode cX8_claimed 8 = .ok (.aload_n 0, 1) := by decide +kernel
theorem dX8_claimed_9 : decode cX8_claimed 9 = .ok (.getfield 16, 3) := by decide +kernel
theorem dX8_claimed_12 : decode cX8_claimed 12 = .ok (.iload_n 2, 1) := by decide +kernel
theorem dX8_claimed_13 : decode cX8_claimed 13 = .ok (.iload_n 2, 1) := by decide +kernel
theorem dX8_claimed_14 : decode cX8_claimed 14 = .ok (.i2l, 1) := by decide +kernel
theorem dX8_claimed_15 : decode cX8_claimed 15 = .ok (.aload_n 0, 1) := by decide +kernel
theorem dX8_claimed_16 : decode cX8_claimed 16 = .ok (.getfield 7, 3) := by decide +kernel
theorem dX8_claimed_19 : decode cX8_claimed 19 = .ok (.iconst 0, 1) := by decide +kernel
theorem dX8_claimed_20 : decode cX8_claimed 20 = .ok (.laload, 1) := by decide +kernel
theorem dX8_claimed_21 : decode cX8_claimed 21 = .ok (.lcmp, 1) := by decide +kernel
theorem dX8_claimed_22 : decode cX8_claimed 22 = .ok (.ifCond .ge 27, 3) := by decide +kernel
theorem dX8_claimed_25 : decode cX8_claimed 25 = .ok (.aload_n 0, 1) := by decide +kernel
theorem dX8_claimed_26 : decode cX8_claimed 26 = .ok (.getfield 7, 3) := by decide +kernel
theorem dX8_claimed_29 : decode cX8_claimed 29 = .ok (.iload_n 1, 1) := by decide +kernel
theorem dX8_claimed_30 : decode cX8_claimed 30 = .ok (.bipush 10, 2) := by decide +kernel
theorem dX8_claimed_32 : decode cX8_claimed 32 = .ok (.iload_n 2, 1) := by decide +kernel
theorem dX8_claimed_33 : decode cX8_claimed 33 = .ok (.iadd, 1) := by decide +kernel
theorem dX8_claimed_34 : decode cX8_claimed 34 = .ok (.invokestatic 54, 3) := by decide +kernel
theorem dX8_claimed_37 : decode cX8_claimed 37 = .ok (.laload, 1) := by decide +kernel
theorem dX8_claimed_38 : decode cX8_claimed 38 = .ok (.aload_n 0, 1) := by decide +kernel
theorem dX8_claimed_39 : decode cX8_claimed 39 = .ok (.iload_n 2, 1) := by decide +kernel
theorem dX8_claimed_40 : decode cX8_claimed 40 = .ok (.invokevirtual 81, 3) := by decide +kernel
theorem dX8_claimed_43 : decode cX8_claimed 43 = .ok (.invokestatic 125, 3) := by decide +kernel
theorem dX8_claimed_46 : decode cX8_claimed 46 = .ok (.goto 4, 3) := by decide +kernel
theorem dX8_claimed_49 : decode cX8_claimed 49 = .ok (.lconst 0, 1) := by decide +kernel
theorem dX8_claimed_50 : decode cX8_claimed 50 = .ok (.lastore, 1) := by decide +kernel
theorem dX8_claimed_51 : decode cX8_claimed 51 = .ok (.iinc 2 1, 3) := by decide +kernel
theorem dX8_claimed_54 : decode cX8_claimed 54 = .ok (.goto (-52), 3) := by decide +kernel
theorem dX8_claimed_57 : decode cX8_claimed 57 = .ok (.aload_n 0, 1) := by decide +kernel
theorem dX8_claimed_58 : decode cX8_claimed 58 = .ok (.aload_n 0, 1) := by decide +kernel
theorem dX8_claimed_59 : decode cX8_claimed 59 = .ok (.getfield 7, 3) := by decide +kernel
theorem dX8_claimed_62 : decode cX8_claimed 62 = .ok (.iload_n 1, 1) := by decide +kernel
theorem dX8_claimed_63 : decode cX8_claimed 63 = .ok (.iconst 2, 1) := by decide +kernel
theorem dX8_claimed_64 : decode cX8_claimed 64 = .ok (.invokestatic 54, 3) := by decide +kernel
theorem dX8_claimed_67 : decode cX8_claimed 67 = .ok (.laload, 1) := by decide +kernel
theorem dX8_claimed_68 : decode cX8_claimed 68 = .ok (.invokevirtual 128, 3) := by decide +kernel
theorem dX8_claimed_71 : decode cX8_claimed 71 = .ok (.aload_n 0, 1) := by decide +kernel
theorem dX8_claimed_72 : decode cX8_claimed 72 = .ok (.getfield 7, 3) := by decide +kernel
theorem dX8_claimed_75 : decode cX8_claimed 75 = .ok (.iload_n 1, 1) := by decide +kernel
theorem dX8_claimed_76 : decode cX8_claimed 76 = .ok (.iconst 4, 1) := by decide +kernel
theorem dX8_claimed_77 : decode cX8_claimed 77 = .ok (.invokestatic 54, 3) := by decide +kernel
theorem dX8_claimed_80 : decode cX8_claimed 80 = .ok (.laload, 1) := by decide +kernel
theorem dX8_claimed_81 : decode cX8_claimed 81 = .ok (.l2i, 1) := by decide +kernel
theorem dX8_claimed_82 : decode cX8_claimed 82 = .ok (.istore_n 2, 1) := by decide +kernel
theorem dX8_claimed_83 : decode cX8_claimed 83 = .ok (.iconst 0, 1) := by decide +kernel
theorem dX8_claimed_84 : decode cX8_claimed 84 = .ok (.istore_n 3, 1) := by decide +kernel
theorem dX8_claimed_85 : decode cX8_claimed 85 = .ok (.iload_n 3, 1) := by decide +kernel
theorem dX8_claimed_86 : decode cX8_claimed 86 = .ok (.bipush 12, 2) := by decide +kernel
theorem dX8_claimed_88 : decode cX8_claimed 88 = .ok (.if_icmp .ge 40, 3) := by decide +kernel
theorem dX8_claimed_91 : decode cX8_claimed 91 = .ok (.aload_n 0, 1) := by decide +kernel
theorem dX8_claimed_92 : decode cX8_claimed 92 = .ok (.getfield 19, 3) := by decide +kernel
theorem dX8_claimed_95 : decode cX8_claimed 95 = .ok (.iload_n 3, 1) := by decide +kernel
theorem dX8_claimed_96 : decode cX8_claimed 96 = .ok (.laload, 1) := by decide +kernel
theorem dX8_claimed_97 : decode cX8_claimed 97 = .ok (.lconst 0, 1) := by decide +kernel
theorem dX8_claimed_98 : decode cX8_claimed 98 = .ok (.lcmp, 1) := by decide +kernel
theorem dX8_claimed_99 : decode cX8_claimed 99 = .ok (.ifCond .le 23, 3) := by decide +kernel
theorem dX8_claimed_102 : decode cX8_claimed 102 = .ok (.aload_n 0, 1) := by decide +kernel
theorem dX8_claimed_103 : decode cX8_claimed 103 = .ok (.iload_n 1, 1) := by decide +kernel
theorem dX8_claimed_104 : decode cX8_claimed 104 = .ok (.iload_n 3, 1) := by decide +kernel
theorem dX8_claimed_105 : decode cX8_claimed 105 = .ok (.aload_n 0, 1) := by decide +kernel
theorem dX8_claimed_106 : decode cX8_claimed 106 = .ok (.getfield 19, 3) := by decide +kernel
theorem dX8_claimed_109 : decode cX8_claimed 109 = .ok (.iload_n 3, 1) := by decide +kernel
theorem dX8_claimed_110 : decode cX8_claimed 110 = .ok (.laload, 1) := by decide +kernel
theorem dX8_claimed_111 : decode cX8_claimed 111 = .ok (.aload_n 0, 1) := by decide +kernel
theorem dX8_claimed_112 : decode cX8_claimed 112 = .ok (.getfield 7, 3) := by decide +kernel
theorem dX8_claimed_115 : decode cX8_claimed 115 = .ok (.bipush 6, 2) := by decide +kernel
theorem dX8_claimed_117 : decode cX8_claimed 117 = .ok (.laload, 1) := by decide +kernel
theorem dX8_claimed_118 : decode cX8_claimed 118 = .ok (.iload_n 2, 1) := by decide +kernel
theorem dX8_claimed_119 : decode cX8_claimed 119 = .ok (.invokevirtual 132, 3) := by decide +kernel
theorem dX8_claimed_122 : decode cX8_claimed 122 = .ok (.iinc 3 1, 3) := by decide +kernel
theorem dX8_claimed_125 : decode cX8_claimed 125 = .ok (.goto (-40), 3) := by decide +kernel
theorem dX8_claimed_128 : decode cX8_claimed 128 = .ok (.return_, 1) := by decide +kernel
theorem hy_X8_claimed : yX8_claimed.cls ≠ "java/lang/invoke/MethodHandle" ∧ yX8_claimed.cls ≠ "java/lang/invoke/VarHandle" ∧ (parseMethodDescriptor yX8_claimed.desc).map (fun d => d.parameters.length) = some 1 := ⟨by decide +kernel, by decide +kernel, by decide +kernel⟩
set_option maxHeartbeats 4000000 in
set_option maxRecDepth 100000 in
theorem lp_X8_claimed_b {E : zE} {l0 : Launch} {D0 : va_G} {cI0 cJ0 : ClassId} {ad : Nat → Nat → Nat} (hE : zG E l0 D0 cI0 cJ0 ad cX8_claimed 4 RX8 3 67) (S : zM) (o : Int) (hI : Inv0 (S 7)) (h1 : 0 ≤ o ∧ o < S 7 14) (h2 : S 7 (59 + 22 * o) ≠ 3) (h3 : S 7 (59 + 22 * o) < 2) (hR : zR E none none (fun X => ∃ g : Int → Int, X = us (us S 6 g) 7 (sp_clm (S 7) o (S 7 (59 + 22 * o))) ∧ ∀ q : Int, q < 100 → g q = S 6 q)) : ∀ (fuel : Nat) (i : Int) (g : Int → Int) (h9 : 0 ≤ i ∧ i ≤ 12) (hg : ∀ k : Int, 0 ≤ k → k < 12 → g (200 + k) = (sp_gets (sp_dem (S 7) o) (S 7 (57 + 22 * o))) k) (hq : ∀ q : Int, q < 100 → g q = S 6 q), (12 - i).toNat < fuel → Z E (us (us S 6 g) 7 (sp_sells (sp_gets (sp_dem (S 7) o) (S 7 (57 + 22 * o))) o (S 7 (59 + 22 * o)) (S 7) i.toNat)) 85 [(3, .int (i32 i)), (2, .int (i32 (S 7 (59 + 22 * o)))), (0, .ref (ad 6 27)), (1, .int (i32 o))] [] := by
  intro fuel
  induction fuel with
  | zero => intro _ _ _ _ _ hz; omega
  | succ fuel ih =>
    intro i g h9 hg hq hz
    have h67 : (6 : Nat) ≠ 7 := by decide
    have h76 : (7 : Nat) ≠ 6 := by decide
    have h68 : (6 : Nat) ≠ 8 := by decide
    have h86 : (8 : Nat) ≠ 6 := by decide
    have h78 : (7 : Nat) ≠ 8 := by decide
    have h87 : (8 : Nat) ≠ 7 := by decide
    have hA := inA hI
    unfold InvA at hA
    have ho := inO hI o h1.1 h1.2
    have hdm := dem_ok hI h1.1 h1.2
    refine z_iload_n hE 0 rfl rfl dX8_claimed_85 ?_
    refine z_bipush (a := 12) hE (by decide) dX8_claimed_86 ?_
    refine z_icmp_ge (tgt := 128) hE dX8_claimed_88 (by decide) ⟨by omega, by omega⟩ ⟨by omega, by omega⟩ (fun c1 => ?_) (fun c1 => ?_)
    · exact z_vret hE hR dX8_claimed_128 rfl (by exact ⟨g, by rw [show i = 12 by omega]; rfl, hq⟩)
    · have hk := fun q => sells_keep (g := sp_gets (sp_dem (S 7) o) (S 7 (57 + 22 * o))) (o := o) (st := S 7 (59 + 22 * o)) (s := S 7) ⟨by omega, by omega⟩ (by omega) ⟨by omega, by omega⟩ (n := i.toNat) (q := q) (by omega)
      have hgb := gets_b (d := sp_dem (S 7) o) (w := S 7 (57 + 22 * o)) (fun k a b => dem_b hI (by omega) (by omega) a b) ⟨by omega, by omega⟩ i h9.1 (by omega)
      refine z_aload_n hE 2 rfl rfl dX8_claimed_91 ?_
      refine gf_8_4 hE (by decide) zf_X8_19 dX8_claimed_92 ?_
      refine z_iload_n hE 0 rfl rfl dX8_claimed_95 ?_
      refine al_31 hE (by decide) (by omega) (by omega) dX8_claimed_96 ?_
      try simp only [us_eq, us_us, us_ne h67, us_ne h76, us_ne h68, us_ne h86, us_ne h78, us_ne h87, us_in h67, us_in h76]
      rw [hg i h9.1 (by omega)]
      refine z_lconst (a := 0) hE rfl dX8_claimed_97 ?_
      refine z_lcmp hE ⟨by omega, by omega⟩ ⟨by omega, by omega⟩ dX8_claimed_98 ?_
      refine z_ifl_le (tgt := 122) hE dX8_claimed_99 (by decide) (fun c2 => ?_) (fun c2 => ?_)
      · refine z_iinc hE 0 rfl (by decide) rfl dX8_claimed_122 ?_
        refine z_goto (tgt := 85) hE (d := dX8_claimed_125) (ht := by decide) ?_
        refine z_L (L' := [(3, .int (i32 (i + 1))), (2, .int (i32 (S 7 (59 + 22 * o)))), (0, .ref (ad 6 27)), (1, .int (i32 o))]) [0, 1, 2, 3] (by rfl) ?_
        rw [show sp_sells (sp_gets (sp_dem (S 7) o) (S 7 (57 + 22 * o))) o (S 7 (59 + 22 * o)) (S 7) i.toNat = sp_sells (sp_gets (sp_dem (S 7) o) (S 7 (57 + 22 * o))) o (S 7 (59 + 22 * o)) (S 7) (i + 1).toNat from by rw [sells_s h9.1, show (sp_gets (sp_dem (S 7) o) (S 7 (57 + 22 * o))) i = 0 by omega, sell_0]]
        exact ih (i + 1) g ⟨by omega, by omega⟩ hg hq (by omega)
      · refine z_aload_n hE 2 rfl rfl dX8_claimed_102 ?_
        refine z_iload_n hE 3 rfl rfl dX8_claimed_103 ?_
        refine z_iload_n hE 0 rfl rfl dX8_claimed_104 ?_
        refine z_aload_n hE 2 rfl rfl dX8_claimed_105 ?_
        refine gf_8_4 hE (by decide) zf_X8_19 dX8_claimed_106 ?_
        refine z_iload_n hE 0 rfl rfl dX8_claimed_109 ?_
        refine al_31 hE (by decide) (by omega) (by omega) dX8_claimed_110 ?_
        try simp only [us_eq, us_us, us_ne h67, us_ne h76, us_ne h68, us_ne h86, us_ne h78, us_ne h87, us_in h67, us_in h76]
        rw [hg i h9.1 (by omega)]
        refine z_aload_n hE 2 rfl rfl dX8_claimed_111 ?_
        refine gf_8_0 hE (by decide) zf_X8_7 dX8_claimed_112 ?_
        refine z_bipush (a := 6) hE (by decide) dX8_claimed_115 ?_
        refine al_28 hE (by decide) (by omega) (by omega) dX8_claimed_117 ?_
        try simp only [us_eq, us_us, us_ne h67, us_ne h76, us_ne h68, us_ne h86, us_ne h78, us_ne h87, us_in h67, us_in h76]
        rw [hk 6 (by omega) (by omega) (by omega)]
        refine z_iload_n hE 1 rfl rfl dX8_claimed_118 ?_
        refine z_callV hE (c_X8_sells l0 D0 cI0 cJ0 ad (us (us S 6 g) 7 (sp_sells (sp_gets (sp_dem (S 7) o) (S 7 (57 + 22 * o))) o (S 7 (59 + 22 * o)) (S 7) i.toNat)) o i ((sp_gets (sp_dem (S 7) o) (S 7 (57 + 22 * o))) i) (S 7 6) (S 7 (59 + 22 * o)) (by first | omega | (simp only [us_eq, us_ne h67, us_ne h76, us_ne h68, us_ne h86, us_ne h78, us_ne h87]; omega)) (by rw [us_eq, hk _ (by omega) (by omega) (by omega)]; omega) (by first | omega | (simp only [us_eq, us_ne h67, us_ne h76, us_ne h68, us_ne h86, us_ne h78, us_ne h87]; omega)) (by first | omega | (simp only [us_eq, us_ne h67, us_ne h76, us_ne h68, us_ne h86, us_ne h78, us_ne h87]; omega))) (by decide) rfl rfl zm_X8_132 zi_yX8_sells zs_yX8_sells zn_RX8 zc_yX8_sells (hy_X8_sells) (Nat.le_of_ble_eq_true rfl) (Nat.le_of_ble_eq_true rfl) rfl rfl rfl (Nat.le_of_ble_eq_true rfl) dX8_claimed_119 ?_
        try simp only [us_eq, us_us, us_ne h67, us_ne h76, us_ne h68, us_ne h86, us_ne h78, us_ne h87, us_in h67, us_in h76]
        refine z_iinc hE 0 rfl (by decide) rfl dX8_claimed_122 ?_
        refine z_goto (tgt := 85) hE (d := dX8_claimed_125) (ht := by decide) ?_
        refine z_L (L' := [(3, .int (i32 (i + 1))), (2, .int (i32 (S 7 (59 + 22 * o)))), (0, .ref (ad 6 27)), (1, .int (i32 o))]) [0, 1, 2, 3] (by rfl) ?_
        rw [if_neg (show ¬ i < 0 by omega), ← hk 6 (by omega) (by omega) (by omega), ← sells_s h9.1]
        exact ih (i + 1) g ⟨by omega, by omega⟩ hg hq (by omega)
set_option maxHeartbeats 4000000 in
set_option maxRecDepth 100000 in
theorem lp_X8_claimed_a {E : zE} {l0 : Launch} {D0 : va_G} {cI0 cJ0 : ClassId} {ad : Nat → Nat → Nat} (hE : zG E l0 D0 cI0 cJ0 ad cX8_claimed 4 RX8 3 67) (S : zM) (o : Int) (hI : Inv0 (S 7)) (h1 : 0 ≤ o ∧ o < S 7 14) (h2 : S 7 (59 + 22 * o) ≠ 3) (h3 : S 7 (59 + 22 * o) < 2) (hR : zR E none none (fun X => ∃ g : Int → Int, X = us (us S 6 g) 7 (sp_clm (S 7) o (S 7 (59 + 22 * o))) ∧ ∀ q : Int, q < 100 → g q = S 6 q)) : ∀ (fuel : Nat) (i : Int) (g : Int → Int) (h9 : 0 ≤ i ∧ i ≤ 12) (hg : ∀ k : Int, 0 ≤ k → k < i → g (100 + k) = sp_dem (S 7) o k) (hq : ∀ q : Int, q < 100 → g q = S 6 q), (12 - i).toNat < fuel → Z E (us S 6 g) 2 [(2, .int (i32 i)), (0, .ref (ad 6 27)), (1, .int (i32 o))] [] := by
  intro fuel
  induction fuel with
  | zero => intro _ _ _ _ _ hz; omega
  | succ fuel ih =>
    intro i g h9 hg hq hz
    have h67 : (6 : Nat) ≠ 7 := by decide
    have h76 : (7 : Nat) ≠ 6 := by decide
    have h68 : (6 : Nat) ≠ 8 := by decide
    have h86 : (8 : Nat) ≠ 6 := by decide
    have h78 : (7 : Nat) ≠ 8 := by decide
    have h87 : (8 : Nat) ≠ 7 := by decide
    have hA := inA hI
    unfold InvA at hA
    have ho := inO hI o h1.1 h1.2
    have hdm := dem_ok hI h1.1 h1.2
    refine z_iload_n hE 0 rfl rfl dX8_claimed_2 ?_
    refine z_bipush (a := 12) hE (by decide) dX8_claimed_3 ?_
    refine z_icmp_ge (tgt := 57) hE dX8_claimed_5 (by decide) ⟨by omega, by omega⟩ ⟨by omega, by omega⟩ (fun c1 => ?_) (fun c1 => ?_)
    · refine z_aload_n hE 1 rfl rfl dX8_claimed_57 ?_
      refine z_aload_n hE 1 rfl rfl dX8_claimed_58 ?_
      refine gf_8_0 hE (by decide) zf_X8_7 dX8_claimed_59 ?_
      refine z_iload_n hE 2 rfl rfl dX8_claimed_62 ?_
      refine z_iconst hE dX8_claimed_63 ?_
      refine z_callS hE (c_X8_o l0 D0 cI0 cJ0 ad (us S 6 g) o 2 (57 + 22 * o) (by first | omega | (simp only [us_eq, us_ne h67, us_ne h76, us_ne h68, us_ne h86, us_ne h78, us_ne h87]; omega))) zm_X8_54 zt_yX8_o zn_RX8 zc_yX8_o (hy_X8_o) (Nat.le_of_ble_eq_true rfl) (Nat.le_of_ble_eq_true rfl) rfl rfl rfl (Nat.le_of_ble_eq_true rfl) dX8_claimed_64 ?_
      try simp only [us_eq, us_us, us_ne h67, us_ne h76, us_ne h68, us_ne h86, us_ne h78, us_ne h87, us_in h67, us_in h76]
      refine al_28 hE (by decide) (by omega) (by omega) dX8_claimed_67 ?_
      try simp only [us_eq, us_us, us_ne h67, us_ne h76, us_ne h68, us_ne h86, us_ne h78, us_ne h87, us_in h67, us_in h76]
      refine z_callVp hE (c_X8_parts l0 D0 cI0 cJ0 ad (us S 6 g) (S 7 (((57 + 22 * o)))) (by first | omega | (simp only [us_eq, us_ne h67, us_ne h76, us_ne h68, us_ne h86, us_ne h78, us_ne h87]; omega)) (by rw [us_eq]; exact fun k a b => by rw [hg k a (by omega)]; exact dem_b hI (by omega) (by omega) a b)) (by decide) rfl rfl zm_X8_128 zi_yX8_parts zs_yX8_parts zn_RX8 zc_yX8_parts (hy_X8_parts) (Nat.le_of_ble_eq_true rfl) (Nat.le_of_ble_eq_true rfl) rfl rfl rfl (Nat.le_of_ble_eq_true rfl) dX8_claimed_68 (fun M68 hM68 => ?_)
      obtain ⟨g3, rfl, hg3, hg4⟩ := hM68
      try simp only [us_eq, us_us, us_ne h67, us_ne h76, us_ne h68, us_ne h86, us_ne h78, us_ne h87, us_in h67, us_in h76]
      try simp only [us_eq] at hg3 hg4
      refine z_aload_n hE 1 rfl rfl dX8_claimed_71 ?_
      refine gf_8_0 hE (by decide) zf_X8_7 dX8_claimed_72 ?_
      refine z_iload_n hE 2 rfl rfl dX8_claimed_75 ?_
      refine z_iconst hE dX8_claimed_76 ?_
      refine z_callS hE (c_X8_o l0 D0 cI0 cJ0 ad (us S 6 g3) o 4 (59 + 22 * o) (by first | omega | (simp only [us_eq, us_ne h67, us_ne h76, us_ne h68, us_ne h86, us_ne h78, us_ne h87]; omega))) zm_X8_54 zt_yX8_o zn_RX8 zc_yX8_o (hy_X8_o) (Nat.le_of_ble_eq_true rfl) (Nat.le_of_ble_eq_true rfl) rfl rfl rfl (Nat.le_of_ble_eq_true rfl) dX8_claimed_77 ?_
      try simp only [us_eq, us_us, us_ne h67, us_ne h76, us_ne h68, us_ne h86, us_ne h78, us_ne h87, us_in h67, us_in h76]
      refine al_28 hE (by decide) (by omega) (by omega) dX8_claimed_80 ?_
      try simp only [us_eq, us_us, us_ne h67, us_ne h76, us_ne h68, us_ne h86, us_ne h78, us_ne h87, us_in h67, us_in h76]
      refine z_l2i hE dX8_claimed_81 ?_
      refine z_istore_n hE rfl (by decide) rfl dX8_claimed_82 ?_
      refine z_iconst hE dX8_claimed_83 ?_
      refine z_istore_n hE rfl (by decide) rfl dX8_claimed_84 ?_
      refine z_L (L' := [(3, .int (i32 (0 : Int))), (2, .int (i32 (S 7 (59 + 22 * o)))), (0, .ref (ad 6 27)), (1, .int (i32 o))]) [0, 1, 2, 3] (by rw [show S 7 (59 + 22 * o) = S 7 (((59 + 22 * o))) from by first | rfl | (omega)]; rfl) ?_
      rw [us_add67 (S := S) (g := sp_sells (sp_gets (sp_dem (S 7) o) (S 7 (57 + 22 * o))) o (S 7 (59 + 22 * o)) (S 7) (0 : Int).toNat) rfl]
      exact lp_X8_claimed_b hE S o hI h1 h2 h3 hR 13 ((0 : Int)) g3 ⟨by omega, by omega⟩ (fun k h1 h2 => by rw [hg3 k h1 h2]; exact gets_cg (fun j h3 h4 => by rw [hg j h3 (by omega)]) k h1 h2) (fun q h1 => by rw [hg4 q (by omega)]; exact hq q h1) (by omega)
    · have hc := inC hI o i (by omega) (by omega) h9.1 (by omega)
      have hro := room_b hI h9.1 (show i < 12 by omega)
      refine z_aload_n hE 1 rfl rfl dX8_claimed_8 ?_
      refine gf_8_3 hE (by decide) zf_X8_16 dX8_claimed_9 ?_
      refine z_iload_n hE 0 rfl rfl dX8_claimed_12 ?_
      refine z_iload_n hE 0 rfl rfl dX8_claimed_13 ?_
      refine z_i2l hE ⟨by omega, by omega⟩ dX8_claimed_14 ?_
      refine z_aload_n hE 1 rfl rfl dX8_claimed_15 ?_
      refine gf_8_0 hE (by decide) zf_X8_7 dX8_claimed_16 ?_
      refine z_iconst hE dX8_claimed_19 ?_
      refine al_28 hE (by decide) (by omega) (by omega) dX8_claimed_20 ?_
      try simp only [us_eq, us_us, us_ne h67, us_ne h76, us_ne h68, us_ne h86, us_ne h78, us_ne h87, us_in h67, us_in h76]
      refine z_lcmp hE ⟨by omega, by omega⟩ ⟨by omega, by omega⟩ dX8_claimed_21 ?_
      refine z_ifl_ge (tgt := 49) hE dX8_claimed_22 (by decide) (fun c2 => ?_) (fun c2 => ?_)
      · refine z_lconst (a := 0) hE rfl dX8_claimed_49 ?_
        refine as_30 hE (by decide) (by omega) (by omega) dX8_claimed_50 ?_
        try simp only [us_eq, us_us, us_ne h67, us_ne h76, us_ne h68, us_ne h86, us_ne h78, us_ne h87, us_in h67, us_in h76]
        refine z_iinc hE 0 rfl (by decide) rfl dX8_claimed_51 ?_
        refine z_goto (tgt := 2) hE (d := dX8_claimed_54) (ht := by decide) ?_
        refine z_L (L' := [(2, .int (i32 (i + 1))), (0, .ref (ad 6 27)), (1, .int (i32 o))]) [0, 1, 2] (by rfl) ?_
        exact ih (i + 1) (up g (100 + i) 0) ⟨by omega, by omega⟩ (gd_1 (hdm.2 i h9.1 (by omega) (by omega)).symm h9.1 (by omega) hg) (fun q h1 => by rw [up_ne (by omega)]; exact hq q h1) (by omega)
      · refine z_aload_n hE 1 rfl rfl dX8_claimed_25 ?_
        refine gf_8_0 hE (by decide) zf_X8_7 dX8_claimed_26 ?_
        refine z_iload_n hE 2 rfl rfl dX8_claimed_29 ?_
        refine z_bipush (a := 10) hE (by decide) dX8_claimed_30 ?_
        refine z_iload_n hE 0 rfl rfl dX8_claimed_32 ?_
        refine z_iadd hE dX8_claimed_33 ?_
        refine z_callS hE (c_X8_o l0 D0 cI0 cJ0 ad (us S 6 g) o (10 + i) (65 + 22 * o + i) (by first | omega | (simp only [us_eq, us_ne h67, us_ne h76, us_ne h68, us_ne h86, us_ne h78, us_ne h87]; omega))) zm_X8_54 zt_yX8_o zn_RX8 zc_yX8_o (hy_X8_o) (Nat.le_of_ble_eq_true rfl) (Nat.le_of_ble_eq_true rfl) rfl rfl rfl (Nat.le_of_ble_eq_true rfl) dX8_claimed_34 ?_
        try simp only [us_eq, us_us, us_ne h67, us_ne h76, us_ne h68, us_ne h86, us_ne h78, us_ne h87, us_in h67, us_in h76]
        refine al_28 hE (by decide) (by omega) (by omega) dX8_claimed_37 ?_
        try simp only [us_eq, us_us, us_ne h67, us_ne h76, us_ne h68, us_ne h86, us_ne h78, us_ne h87, us_in h67, us_in h76]
        refine z_aload_n hE 1 rfl rfl dX8_claimed_38 ?_
        refine z_iload_n hE 0 rfl rfl dX8_claimed_39 ?_
        refine z_callV hE (c_X8_roomOf l0 D0 cI0 cJ0 ad (us S 6 g) i (by first | exact hI | (simp only [us_ne h76]; exact hI)) (by first | omega | (simp only [us_eq, us_ne h67, us_ne h76, us_ne h68, us_ne h86, us_ne h78, us_ne h87]; omega))) (by decide) rfl rfl zm_X8_81 zi_yX8_roomOf zs_yX8_roomOf zn_RX8 zc_yX8_roomOf (hy_X8_roomOf) (Nat.le_of_ble_eq_true rfl) (Nat.le_of_ble_eq_true rfl) rfl rfl rfl (Nat.le_of_ble_eq_true rfl) dX8_claimed_40 ?_
        try simp only [us_eq, us_us, us_ne h67, us_ne h76, us_ne h68, us_ne h86, us_ne h78, us_ne h87, us_in h67, us_in h76]
        refine z_callS hE (c_X8_least l0 D0 cI0 cJ0 ad (us S 6 g) (S 7 (((65 + 22 * o + i)))) (sp_room ((S 7)) i) (⟨by omega, by omega⟩) (⟨by omega, by omega⟩)) zm_X8_125 zt_yX8_least zn_RX8 zc_yX8_least (hy_X8_least) (Nat.le_of_ble_eq_true rfl) (Nat.le_of_ble_eq_true rfl) rfl rfl rfl (Nat.le_of_ble_eq_true rfl) dX8_claimed_43 ?_
        try simp only [us_eq, us_us, us_ne h67, us_ne h76, us_ne h68, us_ne h86, us_ne h78, us_ne h87, us_in h67, us_in h76]
        refine z_goto (tgt := 50) hE (d := dX8_claimed_46) (ht := by decide) ?_
        refine as_30 hE (by decide) (by omega) (by omega) dX8_claimed_50 ?_
        try simp only [us_eq, us_us, us_ne h67, us_ne h76, us_ne h68, us_ne h86, us_ne h78, us_ne h87, us_in h67, us_in h76]
        refine z_iinc hE 0 rfl (by decide) rfl dX8_claimed_51 ?_
        refine z_goto (tgt := 2) hE (d := dX8_claimed_54) (ht := by decide) ?_
        refine z_L (L' := [(2, .int (i32 (i + 1))), (0, .ref (ad 6 27)), (1, .int (i32 o))]) [0, 1, 2] (by rfl) ?_
        exact ih (i + 1) (up g (100 + i) (min (S 7 (((65 + 22 * o + i)))) (sp_room ((S 7)) i))) ⟨by omega, by omega⟩ (gd_1 rfl h9.1 (by omega) hg) (fun q h1 => by rw [up_ne (by omega)]; exact hq q h1) (by omega)
set_option maxHeartbeats 4000000 in
set_option maxRecDepth 100000 in
theorem c_X8_claimed (l0 : Launch) (D0 : va_G) (cI0 cJ0 : ClassId) (ad : Nat → Nat → Nat) (S : zM) (o : Int) (hI : Inv0 (S 7)) (h1 : 0 ≤ o ∧ o < S 7 14) (h2 : S 7 (59 + 22 * o) ≠ 3) (h3 : S 7 (59 + 22 * o) < 2) : Ct l0 D0 cI0 cJ0 ad yX8_claimed cX8_claimed 4 none 3 67 [.ref (ad 6 27), .int (i32 o)] S none (fun X => ∃ g : Int → Int, X = us (us S 6 g) 7 (sp_clm (S 7) o (S 7 (59 + 22 * o))) ∧ ∀ q : Int, q < 100 → g q = S 6 q) := by
  refine Ct.of (by decide) (Nat.le_of_ble_eq_true rfl) (fun E hE hR => ?_)
  have hE : zG E l0 D0 cI0 cJ0 ad cX8_claimed 4 RX8 3 67 := hE
  show Z E S 0 [(0, .ref (ad 6 27)), (1, .int (i32 o))] []
  have h67 : (6 : Nat) ≠ 7 := by decide
  have h76 : (7 : Nat) ≠ 6 := by decide
  have h68 : (6 : Nat) ≠ 8 := by decide
  have h86 : (8 : Nat) ≠ 6 := by decide
  have h78 : (7 : Nat) ≠ 8 := by decide
  have h87 : (8 : Nat) ≠ 7 := by decide
  have hA := inA hI
  unfold InvA at hA
  have ho := inO hI o h1.1 h1.2
  have hdm := dem_ok hI h1.1 h1.2
  refine z_iconst hE dX8_claimed_0 ?_
  refine z_istore_n hE rfl (by decide) rfl dX8_claimed_1 ?_
  refine z_L (L' := [(2, .int (i32 0)), (0, .ref (ad 6 27)), (1, .int (i32 o))]) [0, 1, 2] (by rfl) ?_
  rw [show S = us S 6 (S 6) from (us_id S 6).symm]
  exact lp_X8_claimed_a hE S o hI h1 h2 h3 hR 13 0 (S 6) ⟨by omega, by omega⟩ (fun k h1 h2 => by omega) (fun q h1 => rfl) (by omega)
theorem dX8_bought_0 : decode cX8_bought 0 = .ok (.aload_n 0, 1) := by decide +kernel
theorem dX8_bought_1 : decode cX8_bought 1 = .ok (.getfield 7, 3) := by decide +kernel
theorem dX8_bought_4 : decode cX8_bought 4 = .ok (.iconst 3, 1) := by decide +kernel
theorem dX8_bought_5 : decode cX8_bought 5 = .ok (.laload, 1) := by decide +kernel
theorem dX8_bought_6 : decode cX8_bought 6 = .ok (.aload_n 0, 1) := by decide +kernel
theorem dX8_bought_7 : decode cX8_bought 7 = .ok (.getfield 7, 3) := by decide +kernel
theorem dX8_bought_10 : decode cX8_bought 10 = .ok (.iconst 2, 1) := by decide +kernel
theorem dX8_bought_11 : decode cX8_bought 11 = .ok (.laload, 1) := by decide +kernel
theorem dX8_bought_12 : decode cX8_bought 12 = .ok (.lsub, 1) := by decide +kernel
theorem dX8_bought_13 : decode cX8_bought 13 = .ok (.lstore_n 2, 1) := by decide +kernel
theorem dX8_bought_14 : decode cX8_bought 14 = .ok (.aload_n 0, 1) := by decide +kernel
theorem dX8_bought_15 : decode cX8_bought 15 = .ok (.iload_n 1, 1) := by decide +kernel
theorem dX8_bought_16 : decode cX8_bought 16 = .ok (.iconst (-1), 1) := by decide +kernel
theorem dX8_bought_17 : decode cX8_bought 17 = .ok (.aload_n 0, 1) := by decide +kernel
theorem dX8_bought_18 : decode cX8_bought 18 = .ok (.getfield 7, 3) := by decide +kernel
theorem dX8_bought_21 : decode cX8_bought 21 = .ok (.iload_n 1, 1) := by decide +kernel
theorem dX8_bought_22 : decode cX8_bought 22 = .ok (.iconst 2, 1) := by decide +kernel
theorem dX8_bought_23 : decode cX8_bought 23 = .ok (.invokestatic 54, 3) := by decide +kernel
theorem dX8_bought_26 : decode cX8_bought 26 = .ok (.laload, 1) := by decide +kernel
theorem dX8_bought_27 : decode cX8_bought 27 = .ok (.lload_n 2, 1) := by decide +kernel
theorem dX8_bought_28 : decode cX8_bought 28 = .ok (.lconst 0, 1) := by decide +kernel
theorem dX8_bought_29 : decode cX8_bought 29 = .ok (.lcmp, 1) := by decide +kernel
theorem dX8_bought_30 : decode cX8_bought 30 = .ok (.ifCond .le 7, 3) := by decide +kernel
theorem dX8_bought_33 : decode cX8_bought 33 = .ok (.lload_n 2, 1) := by decide +kernel
theorem dX8_bought_34 : decode cX8_bought 34 = .ok (.goto 4, 3) := by decide +kernel
theorem dX8_bought_37 : decode cX8_bought 37 = .ok (.lconst 0, 1) := by decide +kernel
theorem dX8_bought_38 : decode cX8_bought 38 = .ok (.invokestatic 125, 3) := by decide +kernel
theorem dX8_bought_41 : decode cX8_bought 41 = .ok (.aload_n 0, 1) := by decide +kernel
theorem dX8_bought_42 : decode cX8_bought 42 = .ok (.getfield 7, 3) := by decide +kernel
theorem dX8_bought_45 : decode cX8_bought 45 = .ok (.bipush 6, 2) := by decide +kernel
theorem dX8_bought_47 : decode cX8_bought 47 = .ok (.laload, 1) := by decide +kernel
theorem dX8_bought_48 : decode cX8_bought 48 = .ok (.iconst 2, 1) := by decide +kernel
theorem dX8_bought_49 : decode cX8_bought 49 = .ok (.invokevirtual 132, 3) := by decide +kernel
theorem dX8_bought_52 : decode cX8_bought 52 = .ok (.aload_n 0, 1) := by decide +kernel
theorem dX8_bought_53 : decode cX8_bought 53 = .ok (.getfield 7, 3) := by decide +kernel
theorem dX8_bought_56 : decode cX8_bought 56 = .ok (.iload_n 1, 1) := by decide +kernel
theorem dX8_bought_57 : decode cX8_bought 57 = .ok (.iconst 1, 1) := by decide +kernel
theorem dX8_bought_58 : decode cX8_bought 58 = .ok (.invokestatic 54, 3) := by decide +kernel
theorem dX8_bought_61 : decode cX8_bought 61 = .ok (.laload, 1) := by decide +kernel
theorem dX8_bought_62 : decode cX8_bought 62 = .ok (.l2i, 1) := by decide +kernel
theorem dX8_bought_63 : decode cX8_bought 63 = .ok (.istore 4, 2) := by decide +kernel
theorem dX8_bought_65 : decode cX8_bought 65 = .ok (.aload_n 0, 1) := by decide +kernel
theorem dX8_bought_66 : decode cX8_bought 66 = .ok (.iload_n 1, 1) := by decide +kernel
theorem dX8_bought_67 : decode cX8_bought 67 = .ok (.iload 4, 2) := by decide +kernel
theorem dX8_bought_69 : decode cX8_bought 69 = .ok (.aload_n 0, 1) := by decide +kernel
theorem dX8_bought_70 : decode cX8_bought 70 = .ok (.getfield 7, 3) := by decide +kernel
theorem dX8_bought_73 : decode cX8_bought 73 = .ok (.iload_n 1, 1) := by decide +kernel
theorem dX8_bought_74 : decode cX8_bought 74 = .ok (.iconst 2, 1) := by decide +kernel
theorem dX8_bought_75 : decode cX8_bought 75 = .ok (.invokestatic 54, 3) := by decide +kernel
theorem dX8_bought_78 : decode cX8_bought 78 = .ok (.laload, 1) := by decide +kernel
theorem dX8_bought_79 : decode cX8_bought 79 = .ok (.aload_n 0, 1) := by decide +kernel
theorem dX8_bought_80 : decode cX8_bought 80 = .ok (.iload 4, 2) := by decide +kernel
theorem dX8_bought_82 : decode cX8_bought 82 = .ok (.invokevirtual 81, 3) := by decide +kernel
theorem dX8_bought_85 : decode cX8_bought 85 = .ok (.invokestatic 125, 3) := by decide +kernel
theorem dX8_bought_88 : decode cX8_bought 88 = .ok (.aload_n 0, 1) := by decide +kernel
theorem dX8_bought_89 : decode cX8_bought 89 = .ok (.getfield 7, 3) := by decide +kernel
theorem dX8_bought_92 : decode cX8_bought 92 = .ok (.iload_n 1, 1) := by decide +kernel
theorem dX8_bought_93 : decode cX8_bought 93 = .ok (.iconst 3, 1) := by decide +kernel
theorem dX8_bought_94 : decode cX8_bought 94 = .ok (.invokestatic 54, 3) := by decide +kernel
theorem dX8_bought_97 : decode cX8_bought 97 = .ok (.laload, 1) := by decide +kernel
theorem dX8_bought_98 : decode cX8_bought 98 = .ok (.iconst 3, 1) := by decide +kernel
theorem dX8_bought_99 : decode cX8_bought 99 = .ok (.invokevirtual 132, 3) := by decide +kernel
theorem dX8_bought_102 : decode cX8_bought 102 = .ok (.return_, 1) := by decide +kernel
theorem hy_X8_bought : yX8_bought.cls ≠ "java/lang/invoke/MethodHandle" ∧ yX8_bought.cls ≠ "java/lang/invoke/VarHandle" ∧ (parseMethodDescriptor yX8_bought.desc).map (fun d => d.parameters.length) = some 1 := ⟨by decide +kernel, by decide +kernel, by decide +kernel⟩
set_option maxHeartbeats 4000000 in
set_option maxRecDepth 100000 in
theorem c_X8_bought (l0 : Launch) (D0 : va_G) (cI0 cJ0 : ClassId) (ad : Nat → Nat → Nat) (S : zM) (o : Int) (hI : Inv0 (S 7)) (h1 : 0 ≤ o ∧ o < S 7 14) (h2 : S 7 (59 + 22 * o) ≠ 3) : Ct l0 D0 cI0 cJ0 ad yX8_bought cX8_bought 5 none 3 67 [.ref (ad 6 27), .int (i32 o)] S none (fun X => X = (us S 7 (sp_toB (sp_tre (S 7) o) o))) := by
  refine Ct.of (by decide) (Nat.le_of_ble_eq_true rfl) (fun E hE hR => ?_)
  have hE : zG E l0 D0 cI0 cJ0 ad cX8_bought 5 RX8 3 67 := hE
  show Z E S 0 [(0, .ref (ad 6 27)), (1, .int (i32 o))] []
  have h67 : (6 : Nat) ≠ 7 := by decide
  have h76 : (7 : Nat) ≠ 6 := by decide
  have h68 : (6 : Nat) ≠ 8 := by decide
  have h86 : (8 : Nat) ≠ 6 := by decide
  have h78 : (7 : Nat) ≠ 8 := by decide
  have h87 : (8 : Nat) ≠ 7 := by decide
  have hA := inA hI
  unfold InvA at hA
  have ho := inO hI o h1.1 h1.2
  have ht := inTr hI
  have hti := inv_tre hI h1.1 h1.2 h2
  have t14 : sp_tre (S 7) o 14 = S 7 14 := tre_keep ⟨by omega, by omega⟩ h1.1 (by omega) (by omega) (by omega) (by omega)
  have t55 : sp_tre (S 7) o (55 + 22 * o) = S 7 (55 + 22 * o) := tre_keep ⟨by omega, by omega⟩ h1.1 (by omega) (by omega) (by omega) (by omega)
  have hto := inO hti o h1.1 (by omega)
  have hA2 := inA hti
  unfold InvA at hA2
  have hro := room_b hti (m := sp_tre (S 7) o (56 + 22 * o)) (by omega) (by omega)
  refine z_aload_n hE 0 rfl rfl dX8_bought_0 ?_
  refine gf_8_0 hE (by decide) zf_X8_7 dX8_bought_1 ?_
  refine z_iconst hE dX8_bought_4 ?_
  refine al_28 hE (by decide) (by omega) (by omega) dX8_bought_5 ?_
  refine z_aload_n hE 0 rfl rfl dX8_bought_6 ?_
  refine gf_8_0 hE (by decide) zf_X8_7 dX8_bought_7 ?_
  refine z_iconst hE dX8_bought_10 ?_
  refine al_28 hE (by decide) (by omega) (by omega) dX8_bought_11 ?_
  refine z_lsub hE dX8_bought_12 ?_
  refine z_lstore_n hE rfl (by decide) rfl dX8_bought_13 ?_
  refine z_aload_n hE 1 rfl rfl dX8_bought_14 ?_
  refine z_iload_n hE 2 rfl rfl dX8_bought_15 ?_
  refine z_iconst hE dX8_bought_16 ?_
  refine z_aload_n hE 1 rfl rfl dX8_bought_17 ?_
  refine gf_8_0 hE (by decide) zf_X8_7 dX8_bought_18 ?_
  refine z_iload_n hE 2 rfl rfl dX8_bought_21 ?_
  refine z_iconst hE dX8_bought_22 ?_
  refine z_callS hE (c_X8_o l0 D0 cI0 cJ0 ad S o 2 (57 + 22 * o) (by omega)) zm_X8_54 zt_yX8_o zn_RX8 zc_yX8_o (hy_X8_o) (Nat.le_of_ble_eq_true rfl) (Nat.le_of_ble_eq_true rfl) rfl rfl rfl (Nat.le_of_ble_eq_true rfl) dX8_bought_23 ?_
  refine al_28 hE (by decide) (by omega) (by omega) dX8_bought_26 ?_
  refine z_lload_n hE 0 rfl rfl dX8_bought_27 ?_
  refine z_lconst (a := 0) hE rfl dX8_bought_28 ?_
  refine z_lcmp hE ⟨by omega, by omega⟩ ⟨by omega, by omega⟩ dX8_bought_29 ?_
  refine z_ifl_le (tgt := 37) hE dX8_bought_30 (by decide) (fun c1 => ?_) (fun c1 => ?_)
  · refine z_lconst (a := 0) hE rfl dX8_bought_37 ?_
    refine z_callS hE (c_X8_least l0 D0 cI0 cJ0 ad S (S 7 (((57 + 22 * o)))) 0 (⟨by omega, by omega⟩) (⟨by omega, by omega⟩)) zm_X8_125 zt_yX8_least zn_RX8 zc_yX8_least (hy_X8_least) (Nat.le_of_ble_eq_true rfl) (Nat.le_of_ble_eq_true rfl) rfl rfl rfl (Nat.le_of_ble_eq_true rfl) dX8_bought_38 ?_
    refine z_aload_n hE 1 rfl rfl dX8_bought_41 ?_
    refine gf_8_0 hE (by decide) zf_X8_7 dX8_bought_42 ?_
    refine z_bipush (a := 6) hE (by decide) dX8_bought_45 ?_
    refine al_28 hE (by decide) (by omega) (by omega) dX8_bought_47 ?_
    refine z_iconst hE dX8_bought_48 ?_
    refine z_callV hE (c_X8_sells l0 D0 cI0 cJ0 ad S o ((-1)) (min (S 7 (((57 + 22 * o)))) 0) (S 7 6) 2 (by omega) (by omega) (by omega) (by omega)) (by decide) rfl rfl zm_X8_132 zi_yX8_sells zs_yX8_sells zn_RX8 zc_yX8_sells (hy_X8_sells) (Nat.le_of_ble_eq_true rfl) (Nat.le_of_ble_eq_true rfl) rfl rfl rfl (Nat.le_of_ble_eq_true rfl) dX8_bought_49 ?_
    rw [if_pos (show (-1 : Int) < 0 by decide)]
    rw [show sp_take (uq ((S 7)) 2 (min (S 7 (((57 + 22 * o)))) 0)) o 2 (min (S 7 (((57 + 22 * o)))) 0) (S 7 6) = sp_tre (S 7) o from by unfold sp_tre; rw [show sp_tn (S 7) o = (min (S 7 (((57 + 22 * o)))) 0) by unfold sp_tn; omega]]
    refine z_aload_n hE 1 rfl rfl dX8_bought_52 ?_
    refine gf_8_0 hE (by decide) zf_X8_7 dX8_bought_53 ?_
    refine z_iload_n hE 2 rfl rfl dX8_bought_56 ?_
    refine z_iconst hE dX8_bought_57 ?_
    refine z_callS hE (c_X8_o l0 D0 cI0 cJ0 ad (us S 7 (sp_tre (S 7) o)) o 1 (56 + 22 * o) (by first | omega | (simp only [us_eq, us_ne h67, us_ne h76, us_ne h68, us_ne h86, us_ne h78, us_ne h87]; omega))) zm_X8_54 zt_yX8_o zn_RX8 zc_yX8_o (hy_X8_o) (Nat.le_of_ble_eq_true rfl) (Nat.le_of_ble_eq_true rfl) rfl rfl rfl (Nat.le_of_ble_eq_true rfl) dX8_bought_58 ?_
    try simp only [us_eq, us_us, us_ne h67, us_ne h76, us_ne h68, us_ne h86, us_ne h78, us_ne h87, us_in h67, us_in h76]
    refine al_28 hE (by decide) (by omega) (by omega) dX8_bought_61 ?_
    try simp only [us_eq, us_us, us_ne h67, us_ne h76, us_ne h68, us_ne h86, us_ne h78, us_ne h87, us_in h67, us_in h76]
    refine z_l2i hE dX8_bought_62 ?_
    refine z_istore hE (by decide) rfl dX8_bought_63 ?_
    refine z_aload_n hE 2 rfl rfl dX8_bought_65 ?_
    refine z_iload_n hE 3 rfl rfl dX8_bought_66 ?_
    refine z_iload hE 0 rfl dX8_bought_67 ?_
    refine z_aload_n hE 2 rfl rfl dX8_bought_69 ?_
    refine gf_8_0 hE (by decide) zf_X8_7 dX8_bought_70 ?_
    refine z_iload_n hE 3 rfl rfl dX8_bought_73 ?_
    refine z_iconst hE dX8_bought_74 ?_
    refine z_callS hE (c_X8_o l0 D0 cI0 cJ0 ad (us S 7 (sp_tre (S 7) o)) o 2 (57 + 22 * o) (by first | omega | (simp only [us_eq, us_ne h67, us_ne h76, us_ne h68, us_ne h86, us_ne h78, us_ne h87]; omega))) zm_X8_54 zt_yX8_o zn_RX8 zc_yX8_o (hy_X8_o) (Nat.le_of_ble_eq_true rfl) (Nat.le_of_ble_eq_true rfl) rfl rfl rfl (Nat.le_of_ble_eq_true rfl) dX8_bought_75 ?_
    try simp only [us_eq, us_us, us_ne h67, us_ne h76, us_ne h68, us_ne h86, us_ne h78, us_ne h87, us_in h67, us_in h76]
    refine al_28 hE (by decide) (by omega) (by omega) dX8_bought_78 ?_
    try simp only [us_eq, us_us, us_ne h67, us_ne h76, us_ne h68, us_ne h86, us_ne h78, us_ne h87, us_in h67, us_in h76]
    refine z_aload_n hE 2 rfl rfl dX8_bought_79 ?_
    refine z_iload hE 0 rfl dX8_bought_80 ?_
    refine z_callV hE (c_X8_roomOf l0 D0 cI0 cJ0 ad (us S 7 (sp_tre (S 7) o)) ((sp_tre (S 7) o) (((56 + 22 * o)))) (by rw [us_eq]; exact hti) (by first | omega | (simp only [us_eq, us_ne h67, us_ne h76, us_ne h68, us_ne h86, us_ne h78, us_ne h87]; omega))) (by decide) rfl rfl zm_X8_81 zi_yX8_roomOf zs_yX8_roomOf zn_RX8 zc_yX8_roomOf (hy_X8_roomOf) (Nat.le_of_ble_eq_true rfl) (Nat.le_of_ble_eq_true rfl) rfl rfl rfl (Nat.le_of_ble_eq_true rfl) dX8_bought_82 ?_
    try simp only [us_eq, us_us, us_ne h67, us_ne h76, us_ne h68, us_ne h86, us_ne h78, us_ne h87, us_in h67, us_in h76]
    refine z_callS hE (c_X8_least l0 D0 cI0 cJ0 ad (us S 7 (sp_tre (S 7) o)) ((sp_tre (S 7) o) (((57 + 22 * o)))) (sp_room ((sp_tre (S 7) o)) ((sp_tre (S 7) o) (((56 + 22 * o))))) (⟨by omega, by omega⟩) (⟨by omega, by omega⟩)) zm_X8_125 zt_yX8_least zn_RX8 zc_yX8_least (hy_X8_least) (Nat.le_of_ble_eq_true rfl) (Nat.le_of_ble_eq_true rfl) rfl rfl rfl (Nat.le_of_ble_eq_true rfl) dX8_bought_85 ?_
    try simp only [us_eq, us_us, us_ne h67, us_ne h76, us_ne h68, us_ne h86, us_ne h78, us_ne h87, us_in h67, us_in h76]
    refine z_aload_n hE 2 rfl rfl dX8_bought_88 ?_
    refine gf_8_0 hE (by decide) zf_X8_7 dX8_bought_89 ?_
    refine z_iload_n hE 3 rfl rfl dX8_bought_92 ?_
    refine z_iconst hE dX8_bought_93 ?_
    refine z_callS hE (c_X8_o l0 D0 cI0 cJ0 ad (us S 7 (sp_tre (S 7) o)) o 3 (58 + 22 * o) (by first | omega | (simp only [us_eq, us_ne h67, us_ne h76, us_ne h68, us_ne h86, us_ne h78, us_ne h87]; omega))) zm_X8_54 zt_yX8_o zn_RX8 zc_yX8_o (hy_X8_o) (Nat.le_of_ble_eq_true rfl) (Nat.le_of_ble_eq_true rfl) rfl rfl rfl (Nat.le_of_ble_eq_true rfl) dX8_bought_94 ?_
    try simp only [us_eq, us_us, us_ne h67, us_ne h76, us_ne h68, us_ne h86, us_ne h78, us_ne h87, us_in h67, us_in h76]
    refine al_28 hE (by decide) (by omega) (by omega) dX8_bought_97 ?_
    try simp only [us_eq, us_us, us_ne h67, us_ne h76, us_ne h68, us_ne h86, us_ne h78, us_ne h87, us_in h67, us_in h76]
    refine z_iconst hE dX8_bought_98 ?_
    refine z_callV hE (c_X8_sells l0 D0 cI0 cJ0 ad (us S 7 (sp_tre (S 7) o)) o ((sp_tre (S 7) o) (((56 + 22 * o)))) (min ((sp_tre (S 7) o) (((57 + 22 * o)))) (sp_room ((sp_tre (S 7) o)) ((sp_tre (S 7) o) (((56 + 22 * o)))))) ((sp_tre (S 7) o) (((58 + 22 * o)))) 3 (by first | omega | (simp only [us_eq, us_ne h67, us_ne h76, us_ne h68, us_ne h86, us_ne h78, us_ne h87]; omega)) (by rw [us_eq]; omega) (by first | omega | (simp only [us_eq, us_ne h67, us_ne h76, us_ne h68, us_ne h86, us_ne h78, us_ne h87]; omega)) (by first | omega | (simp only [us_eq, us_ne h67, us_ne h76, us_ne h68, us_ne h86, us_ne h78, us_ne h87]; omega))) (by decide) rfl rfl zm_X8_132 zi_yX8_sells zs_yX8_sells zn_RX8 zc_yX8_sells (hy_X8_sells) (Nat.le_of_ble_eq_true rfl) (Nat.le_of_ble_eq_true rfl) rfl rfl rfl (Nat.le_of_ble_eq_true rfl) dX8_bought_99 ?_
    try simp only [us_eq, us_us, us_ne h67, us_ne h76, us_ne h68, us_ne h86, us_ne h78, us_ne h87, us_in h67, us_in h76]
    exact z_vret hE hR dX8_bought_102 rfl (by rw [if_neg (by omega)]; rfl)
  · refine z_lload_n hE 0 rfl rfl dX8_bought_33 ?_
    refine z_goto (tgt := 38) hE (d := dX8_bought_34) (ht := by decide) ?_
    refine z_callS hE (c_X8_least l0 D0 cI0 cJ0 ad S (S 7 (((57 + 22 * o)))) ((S 7 3) - (S 7 2)) (⟨by omega, by omega⟩) (⟨by omega, by omega⟩)) zm_X8_125 zt_yX8_least zn_RX8 zc_yX8_least (hy_X8_least) (Nat.le_of_ble_eq_true rfl) (Nat.le_of_ble_eq_true rfl) rfl rfl rfl (Nat.le_of_ble_eq_true rfl) dX8_bought_38 ?_
    refine z_aload_n hE 1 rfl rfl dX8_bought_41 ?_
    refine gf_8_0 hE (by decide) zf_X8_7 dX8_bought_42 ?_
    refine z_bipush (a := 6) hE (by decide) dX8_bought_45 ?_
    refine al_28 hE (by decide) (by omega) (by omega) dX8_bought_47 ?_
    refine z_iconst hE dX8_bought_48 ?_
    refine z_callV hE (c_X8_sells l0 D0 cI0 cJ0 ad S o ((-1)) (min (S 7 (((57 + 22 * o)))) ((S 7 3) - (S 7 2))) (S 7 6) 2 (by omega) (by omega) (by omega) (by omega)) (by decide) rfl rfl zm_X8_132 zi_yX8_sells zs_yX8_sells zn_RX8 zc_yX8_sells (hy_X8_sells) (Nat.le_of_ble_eq_true rfl) (Nat.le_of_ble_eq_true rfl) rfl rfl rfl (Nat.le_of_ble_eq_true rfl) dX8_bought_49 ?_
    rw [if_pos (show (-1 : Int) < 0 by decide)]
    rw [show sp_take (uq ((S 7)) 2 (min (S 7 (((57 + 22 * o)))) ((S 7 3) - (S 7 2)))) o 2 (min (S 7 (((57 + 22 * o)))) ((S 7 3) - (S 7 2))) (S 7 6) = sp_tre (S 7) o from by unfold sp_tre; rw [show sp_tn (S 7) o = (min (S 7 (((57 + 22 * o)))) ((S 7 3) - (S 7 2))) by unfold sp_tn; omega]]
    refine z_aload_n hE 1 rfl rfl dX8_bought_52 ?_
    refine gf_8_0 hE (by decide) zf_X8_7 dX8_bought_53 ?_
    refine z_iload_n hE 2 rfl rfl dX8_bought_56 ?_
    refine z_iconst hE dX8_bought_57 ?_
    refine z_callS hE (c_X8_o l0 D0 cI0 cJ0 ad (us S 7 (sp_tre (S 7) o)) o 1 (56 + 22 * o) (by first | omega | (simp only [us_eq, us_ne h67, us_ne h76, us_ne h68, us_ne h86, us_ne h78, us_ne h87]; omega))) zm_X8_54 zt_yX8_o zn_RX8 zc_yX8_o (hy_X8_o) (Nat.le_of_ble_eq_true rfl) (Nat.le_of_ble_eq_true rfl) rfl rfl rfl (Nat.le_of_ble_eq_true rfl) dX8_bought_58 ?_
    try simp only [us_eq, us_us, us_ne h67, us_ne h76, us_ne h68, us_ne h86, us_ne h78, us_ne h87, us_in h67, us_in h76]
    refine al_28 hE (by decide) (by omega) (by omega) dX8_bought_61 ?_
    try simp only [us_eq, us_us, us_ne h67, us_ne h76, us_ne h68, us_ne h86, us_ne h78, us_ne h87, us_in h67, us_in h76]
    refine z_l2i hE dX8_bought_62 ?_
    refine z_istore hE (by decide) rfl dX8_bought_63 ?_
    refine z_aload_n hE 2 rfl rfl dX8_bought_65 ?_
    refine z_iload_n hE 3 rfl rfl dX8_bought_66 ?_
    refine z_iload hE 0 rfl dX8_bought_67 ?_
    refine z_aload_n hE 2 rfl rfl dX8_bought_69 ?_
    refine gf_8_0 hE (by decide) zf_X8_7 dX8_bought_70 ?_
    refine z_iload_n hE 3 rfl rfl dX8_bought_73 ?_
    refine z_iconst hE dX8_bought_74 ?_
    refine z_callS hE (c_X8_o l0 D0 cI0 cJ0 ad (us S 7 (sp_tre (S 7) o)) o 2 (57 + 22 * o) (by first | omega | (simp only [us_eq, us_ne h67, us_ne h76, us_ne h68, us_ne h86, us_ne h78, us_ne h87]; omega))) zm_X8_54 zt_yX8_o zn_RX8 zc_yX8_o (hy_X8_o) (Nat.le_of_ble_eq_true rfl) (Nat.le_of_ble_eq_true rfl) rfl rfl rfl (Nat.le_of_ble_eq_true rfl) dX8_bought_75 ?_
    try simp only [us_eq, us_us, us_ne h67, us_ne h76, us_ne h68, us_ne h86, us_ne h78, us_ne h87, us_in h67, us_in h76]
    refine al_28 hE (by decide) (by omega) (by omega) dX8_bought_78 ?_
    try simp only [us_eq, us_us, us_ne h67, us_ne h76, us_ne h68, us_ne h86, us_ne h78, us_ne h87, us_in h67, us_in h76]
    refine z_aload_n hE 2 rfl rfl dX8_bought_79 ?_
    refine z_iload hE 0 rfl dX8_bought_80 ?_
    refine z_callV hE (c_X8_roomOf l0 D0 cI0 cJ0 ad (us S 7 (sp_tre (S 7) o)) ((sp_tre (S 7) o) (((56 + 22 * o)))) (by rw [us_eq]; exact hti) (by first | omega | (simp only [us_eq, us_ne h67, us_ne h76, us_ne h68, us_ne h86, us_ne h78, us_ne h87]; omega))) (by decide) rfl rfl zm_X8_81 zi_yX8_roomOf zs_yX8_roomOf zn_RX8 zc_yX8_roomOf (hy_X8_roomOf) (Nat.le_of_ble_eq_true rfl) (Nat.le_of_ble_eq_true rfl) rfl rfl rfl (Nat.le_of_ble_eq_true rfl) dX8_bought_82 ?_
    try simp only [us_eq, us_us, us_ne h67, us_ne h76, us_ne h68, us_ne h86, us_ne h78, us_ne h87, us_in h67, us_in h76]
    refine z_callS hE (c_X8_least l0 D0 cI0 cJ0 ad (us S 7 (sp_tre (S 7) o)) ((sp_tre (S 7) o) (((57 + 22 * o)))) (sp_room ((sp_tre (S 7) o)) ((sp_tre (S 7) o) (((56 + 22 * o))))) (⟨by omega, by omega⟩) (⟨by omega, by omega⟩)) zm_X8_125 zt_yX8_least zn_RX8 zc_yX8_least (hy_X8_least) (Nat.le_of_ble_eq_true rfl) (Nat.le_of_ble_eq_true rfl) rfl rfl rfl (Nat.le_of_ble_eq_true rfl) dX8_bought_85 ?_
    try simp only [us_eq, us_us, us_ne h67, us_ne h76, us_ne h68, us_ne h86, us_ne h78, us_ne h87, us_in h67, us_in h76]
    refine z_aload_n hE 2 rfl rfl dX8_bought_88 ?_
    refine gf_8_0 hE (by decide) zf_X8_7 dX8_bought_89 ?_
    refine z_iload_n hE 3 rfl rfl dX8_bought_92 ?_
    refine z_iconst hE dX8_bought_93 ?_
    refine z_callS hE (c_X8_o l0 D0 cI0 cJ0 ad (us S 7 (sp_tre (S 7) o)) o 3 (58 + 22 * o) (by first | omega | (simp only [us_eq, us_ne h67, us_ne h76, us_ne h68, us_ne h86, us_ne h78, us_ne h87]; omega))) zm_X8_54 zt_yX8_o zn_RX8 zc_yX8_o (hy_X8_o) (Nat.le_of_ble_eq_true rfl) (Nat.le_of_ble_eq_true rfl) rfl rfl rfl (Nat.le_of_ble_eq_true rfl) dX8_bought_94 ?_
    try simp only [us_eq, us_us, us_ne h67, us_ne h76, us_ne h68, us_ne h86, us_ne h78, us_ne h87, us_in h67, us_in h76]
    refine al_28 hE (by decide) (by omega) (by omega) dX8_bought_97 ?_
    try simp only [us_eq, us_us, us_ne h67, us_ne h76, us_ne h68, us_ne h86, us_ne h78, us_ne h87, us_in h67, us_in h76]
    refine z_iconst hE dX8_bought_98 ?_
    refine z_callV hE (c_X8_sells l0 D0 cI0 cJ0 ad (us S 7 (sp_tre (S 7) o)) o ((sp_tre (S 7) o) (((56 + 22 * o)))) (min ((sp_tre (S 7) o) (((57 + 22 * o)))) (sp_room ((sp_tre (S 7) o)) ((sp_tre (S 7) o) (((56 + 22 * o)))))) ((sp_tre (S 7) o) (((58 + 22 * o)))) 3 (by first | omega | (simp only [us_eq, us_ne h67, us_ne h76, us_ne h68, us_ne h86, us_ne h78, us_ne h87]; omega)) (by rw [us_eq]; omega) (by first | omega | (simp only [us_eq, us_ne h67, us_ne h76, us_ne h68, us_ne h86, us_ne h78, us_ne h87]; omega)) (by first | omega | (simp only [us_eq, us_ne h67, us_ne h76, us_ne h68, us_ne h86, us_ne h78, us_ne h87]; omega))) (by decide) rfl rfl zm_X8_132 zi_yX8_sells zs_yX8_sells zn_RX8 zc_yX8_sells (hy_X8_sells) (Nat.le_of_ble_eq_true rfl) (Nat.le_of_ble_eq_true rfl) rfl rfl rfl (Nat.le_of_ble_eq_true rfl) dX8_bought_99 ?_
    try simp only [us_eq, us_us, us_ne h67, us_ne h76, us_ne h68, us_ne h86, us_ne h78, us_ne h87, us_in h67, us_in h76]
    exact z_vret hE hR dX8_bought_102 rfl (by rw [if_neg (by omega)]; rfl)
theorem tick_7 {s : Int → Int} {j q : Int} (hj : 0 ≤ j) (h0 : 0 ≤ q) (h1 : q < 645) : up s (60 + 22 * j) (s (60 + 22 * j) - 1) q = sp_tick s j q := by
  unfold sp_tick
  by_cases e : q = 60 + 22 * j
  · rw [e, up_eq, uq_eq, uq_ne (by omega), Int.sub_eq_add_neg]
  · rw [up_ne e, uq_ne e, uq_ne (by omega)]
theorem off_E {s : Int → Int} {i : Int} (h : s (59 + 22 * i) ≠ 3) (h2 : s (645 + i) - 1 ≤ 0) (h3 : sp_shut (sp_tick s i) i) : sp_off s i = sp_end (sp_tick s i) i ∧ sp_offC s i = 1 := by
  constructor
  · unfold sp_off; rw [if_pos h, if_pos h2]
  · unfold sp_offC; rw [if_pos ⟨⟨h, h2⟩, h3⟩]
theorem off_F {s : Int → Int} {i : Int} (h : s (59 + 22 * i) ≠ 3) (h2 : s (645 + i) - 1 ≤ 0) (h3 : ¬ sp_shut (sp_tick s i) i) : sp_off s i = sp_end (sp_tick s i) i ∧ sp_offC s i = 0 := by
  constructor
  · unfold sp_off; rw [if_pos h, if_pos h2]
  · unfold sp_offC; rw [if_neg (fun q => h3 q.2)]
theorem dX8_ends_0 : decode cX8_ends 0 = .ok (.aload_n 0, 1) := by decide +kernel
theorem dX8_ends_1 : decode cX8_ends 1 = .ok (.getfield 7, 3) := by decide +kernel
theorem dX8_ends_4 : decode cX8_ends 4 = .ok (.iload_n 1, 1) := by decide +kernel
theorem dX8_ends_5 : decode cX8_ends 5 = .ok (.iconst 4, 1) := by decide +kernel
theorem dX8_ends_6 : decode cX8_ends 6 = .ok (.invokestatic 54, 3) := by decide +kernel
theorem dX8_ends_9 : decode cX8_ends 9 = .ok (.laload, 1) := by decide +kernel
theorem dX8_ends_10 : decode cX8_ends 10 = .ok (.lstore_n 2, 1) := by decide +kernel
theorem dX8_ends_11 : decode cX8_ends 11 = .ok (.lload_n 2, 1) := by decide +kernel
theorem dX8_ends_12 : decode cX8_ends 12 = .ok (.ldc2_w 93, 3) := by decide +kernel
theorem dX8_ends_15 : decode cX8_ends 15 = .ok (.lcmp, 1) := by decide +kernel
theorem dX8_ends_16 : decode cX8_ends 16 = .ok (.ifCond .ge 11, 3) := by decide +kernel
theorem dX8_ends_19 : decode cX8_ends 19 = .ok (.aload_n 0, 1) := by decide +kernel
theorem dX8_ends_20 : decode cX8_ends 20 = .ok (.iload_n 1, 1) := by decide +kernel
theorem dX8_ends_21 : decode cX8_ends 21 = .ok (.invokevirtual 136, 3) := by decide +kernel
theorem dX8_ends_24 : decode cX8_ends 24 = .ok (.goto 8, 3) := by decide +kernel
theorem dX8_ends_27 : decode cX8_ends 27 = .ok (.aload_n 0, 1) := by decide +kernel
theorem dX8_ends_28 : decode cX8_ends 28 = .ok (.iload_n 1, 1) := by decide +kernel
theorem dX8_ends_29 : decode cX8_ends 29 = .ok (.invokevirtual 140, 3) := by decide +kernel
theorem dX8_ends_32 : decode cX8_ends 32 = .ok (.lload_n 2, 1) := by decide +kernel
theorem dX8_ends_33 : decode cX8_ends 33 = .ok (.ldc2_w 93, 3) := by decide +kernel
theorem dX8_ends_36 : decode cX8_ends 36 = .ok (.lcmp, 1) := by decide +kernel
theorem dX8_ends_37 : decode cX8_ends 37 = .ok (.ifCond .eq 18, 3) := by decide +kernel
theorem dX8_ends_40 : decode cX8_ends 40 = .ok (.aload_n 0, 1) := by decide +kernel
theorem dX8_ends_41 : decode cX8_ends 41 = .ok (.getfield 7, 3) := by decide +kernel
theorem dX8_ends_44 : decode cX8_ends 44 = .ok (.iload_n 1, 1) := by decide +kernel
theorem dX8_ends_45 : decode cX8_ends 45 = .ok (.iconst 2, 1) := by decide +kernel
theorem dX8_ends_46 : decode cX8_ends 46 = .ok (.invokestatic 54, 3) := by decide +kernel
theorem dX8_ends_49 : decode cX8_ends 49 = .ok (.laload, 1) := by decide +kernel
theorem dX8_ends_50 : decode cX8_ends 50 = .ok (.lconst 0, 1) := by decide +kernel
theorem dX8_ends_51 : decode cX8_ends 51 = .ok (.lcmp, 1) := by decide +kernel
theorem dX8_ends_52 : decode cX8_ends 52 = .ok (.ifCond .ne 7, 3) := by decide +kernel
theorem dX8_ends_55 : decode cX8_ends 55 = .ok (.iconst 1, 1) := by decide +kernel
theorem dX8_ends_56 : decode cX8_ends 56 = .ok (.goto 4, 3) := by decide +kernel
theorem dX8_ends_59 : decode cX8_ends 59 = .ok (.iconst 0, 1) := by decide +kernel
theorem dX8_ends_60 : decode cX8_ends 60 = .ok (.istore 4, 2) := by decide +kernel
theorem dX8_ends_62 : decode cX8_ends 62 = .ok (.aload_n 0, 1) := by decide +kernel
theorem dX8_ends_63 : decode cX8_ends 63 = .ok (.iload_n 1, 1) := by decide +kernel
theorem dX8_ends_64 : decode cX8_ends 64 = .ok (.iload 4, 2) := by decide +kernel
theorem dX8_ends_66 : decode cX8_ends 66 = .ok (.ifCond .eq 9, 3) := by decide +kernel
theorem dX8_ends_69 : decode cX8_ends 69 = .ok (.ldc2_w 33, 3) := by decide +kernel
theorem dX8_ends_72 : decode cX8_ends 72 = .ok (.goto 6, 3) := by decide +kernel
theorem dX8_ends_75 : decode cX8_ends 75 = .ok (.lload_n 2, 1) := by decide +kernel
theorem dX8_ends_76 : decode cX8_ends 76 = .ok (.lconst 1, 1) := by decide +kernel
theorem dX8_ends_77 : decode cX8_ends 77 = .ok (.ladd, 1) := by decide +kernel
theorem dX8_ends_78 : decode cX8_ends 78 = .ok (.invokevirtual 117, 3) := by decide +kernel
theorem dX8_ends_81 : decode cX8_ends 81 = .ok (.iload 4, 2) := by decide +kernel
theorem dX8_ends_83 : decode cX8_ends 83 = .ok (.ireturn, 1) := by decide +kernel
theorem hy_X8_ends : yX8_ends.cls ≠ "java/lang/invoke/MethodHandle" ∧ yX8_ends.cls ≠ "java/lang/invoke/VarHandle" ∧ (parseMethodDescriptor yX8_ends.desc).map (fun d => d.parameters.length) = some 1 := ⟨by decide +kernel, by decide +kernel, by decide +kernel⟩
set_option maxHeartbeats 4000000 in
set_option maxRecDepth 100000 in
theorem c_X8_ends (l0 : Launch) (D0 : va_G) (cI0 cJ0 : ClassId) (ad : Nat → Nat → Nat) (S : zM) (o : Int) (hI : Inv0 (S 7)) (h1 : 0 ≤ o ∧ o < S 7 14) (h2 : S 7 (59 + 22 * o) ≠ 3) : Ct l0 D0 cI0 cJ0 ad yX8_ends cX8_ends 5 (some .boolean) 4 91 [.ref (ad 6 27), .int (i32 o)] S (some (.int (i32 (zbo (sp_shut (S 7) o))))) (fun X => ∃ g : Int → Int, X = us (us S 6 g) 7 (sp_end (S 7) o) ∧ ∀ q : Int, q < 100 → g q = S 6 q) := by
  refine Ct.of (by decide) (Nat.le_of_ble_eq_true rfl) (fun E hE hR => ?_)
  have hE : zG E l0 D0 cI0 cJ0 ad cX8_ends 5 RX8 4 91 := hE
  show Z E S 0 [(0, .ref (ad 6 27)), (1, .int (i32 o))] []
  have h67 : (6 : Nat) ≠ 7 := by decide
  have h76 : (7 : Nat) ≠ 6 := by decide
  have h68 : (6 : Nat) ≠ 8 := by decide
  have h86 : (8 : Nat) ≠ 6 := by decide
  have h78 : (7 : Nat) ≠ 8 := by decide
  have h87 : (8 : Nat) ≠ 7 := by decide
  have hA := inA hI
  unfold InvA at hA
  have ho := inO hI o h1.1 h1.2
  have hmi := inv_mid hI h1.1 h1.2 h2
  have m14 := mid_keep hI (q := 14) h1.1 h1.2 h2 (by omega) (by omega) (by omega) (by omega)
  have m13 := mid_keep hI (q := 13) h1.1 h1.2 h2 (by omega) (by omega) (by omega) (by omega)
  have hmo := inO hmi o h1.1 (by omega)
  refine z_aload_n hE 0 rfl rfl dX8_ends_0 ?_
  refine gf_8_0 hE (by decide) zf_X8_7 dX8_ends_1 ?_
  refine z_iload_n hE 1 rfl rfl dX8_ends_4 ?_
  refine z_iconst hE dX8_ends_5 ?_
  refine z_callS hE (c_X8_o l0 D0 cI0 cJ0 ad S o 4 (59 + 22 * o) (by omega)) zm_X8_54 zt_yX8_o zn_RX8 zc_yX8_o (hy_X8_o) (Nat.le_of_ble_eq_true rfl) (Nat.le_of_ble_eq_true rfl) rfl rfl rfl (Nat.le_of_ble_eq_true rfl) dX8_ends_6 ?_
  refine al_28 hE (by decide) (by omega) (by omega) dX8_ends_9 ?_
  refine z_lstore_n hE rfl (by decide) rfl dX8_ends_10 ?_
  refine z_lload_n hE 0 rfl rfl dX8_ends_11 ?_
  refine z_ldc2 (a := 2) hE zl_X8_93 (by decide) dX8_ends_12 ?_
  refine z_lcmp hE ⟨by omega, by omega⟩ ⟨by omega, by omega⟩ dX8_ends_15 ?_
  refine z_ifl_ge (tgt := 27) hE dX8_ends_16 (by decide) (fun c1 => ?_) (fun c1 => ?_)
  · refine z_aload_n hE 1 rfl rfl dX8_ends_27 ?_
    refine z_iload_n hE 2 rfl rfl dX8_ends_28 ?_
    refine z_callV hE (c_X8_bought l0 D0 cI0 cJ0 ad S o hI (by omega) h2) (by decide) rfl rfl zm_X8_140 zi_yX8_bought zs_yX8_bought zn_RX8 zc_yX8_bought (hy_X8_bought) (Nat.le_of_ble_eq_true rfl) (Nat.le_of_ble_eq_true rfl) rfl rfl rfl (Nat.le_of_ble_eq_true rfl) dX8_ends_29 ?_
    have em : sp_toB (sp_tre (S 7) o) o = sp_mid (S 7) o := by unfold sp_mid; rw [if_pos (by omega)]
    rw [em]
    refine z_lload_n hE 0 rfl rfl dX8_ends_32 ?_
    refine z_ldc2 (a := 2) hE zl_X8_93 (by decide) dX8_ends_33 ?_
    refine z_lcmp hE ⟨by omega, by omega⟩ ⟨by omega, by omega⟩ dX8_ends_36 ?_
    refine z_ifl_eq (tgt := 55) hE dX8_ends_37 (by decide) (fun c2 => ?_) (fun c2 => ?_)
    · refine z_iconst hE dX8_ends_55 ?_
      refine z_goto (tgt := 60) hE (d := dX8_ends_56) (ht := by decide) ?_
      have hsh : sp_shut (S 7) o := by first | exact Or.inl (by omega) | exact Or.inr (by omega)
      refine z_istore hE (by decide) rfl dX8_ends_60 ?_
      refine z_aload_n hE 2 rfl rfl dX8_ends_62 ?_
      refine z_iload_n hE 3 rfl rfl dX8_ends_63 ?_
      refine z_iload hE 0 rfl dX8_ends_64 ?_
      refine z_if_eq (tgt := 75) hE dX8_ends_66 (by decide) ⟨by omega, by omega⟩ (fun c3 => absurd c3 (by decide)) (fun c3 => ?_)
      refine z_ldc2 (a := 3) hE zl_X8_33 (by decide) dX8_ends_69 ?_
      refine z_goto (tgt := 78) hE (d := dX8_ends_72) (ht := by decide) ?_
      refine z_callV hE (c_X8_begins l0 D0 cI0 cJ0 ad (us S 7 (sp_mid (S 7) o)) o 3 0 (by first | omega | (simp only [us_eq, us_ne h67, us_ne h76, us_ne h68, us_ne h86, us_ne h78, us_ne h87]; omega)) (by first | omega | (simp only [us_eq, us_ne h67, us_ne h76, us_ne h68, us_ne h86, us_ne h78, us_ne h87]; omega))) (by decide) rfl rfl zm_X8_117 zi_yX8_begins zs_yX8_begins zn_RX8 zc_yX8_begins (hy_X8_begins) (Nat.le_of_ble_eq_true rfl) (Nat.le_of_ble_eq_true rfl) rfl rfl rfl (Nat.le_of_ble_eq_true rfl) dX8_ends_78 ?_
      try simp only [us_eq, us_us, us_ne h67, us_ne h76, us_ne h68, us_ne h86, us_ne h78, us_ne h87, us_in h67, us_in h76]
      refine z_iload hE 0 rfl dX8_ends_81 ?_
      exact z_zret hE hR dX8_ends_83 (by decide) (congrArg (fun x => some (Value.int (i32 x))) (by first | exact zbo_t hsh | exact zbo_f hsh)) (by first | (refine ⟨g21, ?_, hg21⟩; unfold sp_end; first | (rw [if_pos hsh]; done) | (rw [if_neg hsh]; done)) | (refine ⟨S 6, ?_, fun q h => rfl⟩; rw [us_id]; unfold sp_end; first | (rw [if_pos hsh]; done) | (rw [if_neg hsh]; done)))
    · refine z_aload_n hE 1 rfl rfl dX8_ends_40 ?_
      refine gf_8_0 hE (by decide) zf_X8_7 dX8_ends_41 ?_
      refine z_iload_n hE 2 rfl rfl dX8_ends_44 ?_
      refine z_iconst hE dX8_ends_45 ?_
      refine z_callS hE (c_X8_o l0 D0 cI0 cJ0 ad (us S 7 (sp_mid (S 7) o)) o 2 (57 + 22 * o) (by first | omega | (simp only [us_eq, us_ne h67, us_ne h76, us_ne h68, us_ne h86, us_ne h78, us_ne h87]; omega))) zm_X8_54 zt_yX8_o zn_RX8 zc_yX8_o (hy_X8_o) (Nat.le_of_ble_eq_true rfl) (Nat.le_of_ble_eq_true rfl) rfl rfl rfl (Nat.le_of_ble_eq_true rfl) dX8_ends_46 ?_
      try simp only [us_eq, us_us, us_ne h67, us_ne h76, us_ne h68, us_ne h86, us_ne h78, us_ne h87, us_in h67, us_in h76]
      refine al_28 hE (by decide) (by omega) (by omega) dX8_ends_49 ?_
      try simp only [us_eq, us_us, us_ne h67, us_ne h76, us_ne h68, us_ne h86, us_ne h78, us_ne h87, us_in h67, us_in h76]
      refine z_lconst (a := 0) hE rfl dX8_ends_50 ?_
      refine z_lcmp hE ⟨by omega, by omega⟩ ⟨by omega, by omega⟩ dX8_ends_51 ?_
      refine z_ifl_ne (tgt := 59) hE dX8_ends_52 (by decide) (fun c4 => ?_) (fun c4 => ?_)
      · refine z_iconst hE dX8_ends_59 ?_
        have hsh : ¬ sp_shut (S 7) o := fun h => by rcases h with h | h <;> omega
        refine z_istore hE (by decide) rfl dX8_ends_60 ?_
        refine z_aload_n hE 2 rfl rfl dX8_ends_62 ?_
        refine z_iload_n hE 3 rfl rfl dX8_ends_63 ?_
        refine z_iload hE 0 rfl dX8_ends_64 ?_
        refine z_if_eq (tgt := 75) hE dX8_ends_66 (by decide) ⟨by omega, by omega⟩ (fun c5 => ?_) (fun c5 => absurd (by decide) c5)
        refine z_lload_n hE 1 rfl rfl dX8_ends_75 ?_
        refine z_lconst (a := 1) hE rfl dX8_ends_76 ?_
        refine z_ladd hE dX8_ends_77 ?_
        refine z_callV hE (c_X8_begins l0 D0 cI0 cJ0 ad (us S 7 (sp_mid (S 7) o)) o ((S 7 (((59 + 22 * o)))) + 1) (sp_mid (S 7) o 13) (by first | omega | (simp only [us_eq, us_ne h67, us_ne h76, us_ne h68, us_ne h86, us_ne h78, us_ne h87]; omega)) (by first | omega | (simp only [us_eq, us_ne h67, us_ne h76, us_ne h68, us_ne h86, us_ne h78, us_ne h87]; omega))) (by decide) rfl rfl zm_X8_117 zi_yX8_begins zs_yX8_begins zn_RX8 zc_yX8_begins (hy_X8_begins) (Nat.le_of_ble_eq_true rfl) (Nat.le_of_ble_eq_true rfl) rfl rfl rfl (Nat.le_of_ble_eq_true rfl) dX8_ends_78 ?_
        try simp only [us_eq, us_us, us_ne h67, us_ne h76, us_ne h68, us_ne h86, us_ne h78, us_ne h87, us_in h67, us_in h76]
        refine z_iload hE 0 rfl dX8_ends_81 ?_
        exact z_zret hE hR dX8_ends_83 (by decide) (congrArg (fun x => some (Value.int (i32 x))) (by first | exact zbo_t hsh | exact zbo_f hsh)) (by first | (refine ⟨g21, ?_, hg21⟩; unfold sp_end; first | (rw [if_pos hsh]; done) | (rw [if_neg hsh]; done)) | (refine ⟨S 6, ?_, fun q h => rfl⟩; rw [us_id]; unfold sp_end; first | (rw [if_pos hsh]; done) | (rw [if_neg hsh]; done)))
      · refine z_iconst hE dX8_ends_55 ?_
        refine z_goto (tgt := 60) hE (d := dX8_ends_56) (ht := by decide) ?_
        have hsh : sp_shut (S 7) o := by first | exact Or.inl (by omega) | exact Or.inr (by omega)
        refine z_istore hE (by decide) rfl dX8_ends_60 ?_
        refine z_aload_n hE 2 rfl rfl dX8_ends_62 ?_
        refine z_iload_n hE 3 rfl rfl dX8_ends_63 ?_
        refine z_iload hE 0 rfl dX8_ends_64 ?_
        refine z_if_eq (tgt := 75) hE dX8_ends_66 (by decide) ⟨by omega, by omega⟩ (fun c6 => absurd c6 (by decide)) (fun c6 => ?_)
        refine z_ldc2 (a := 3) hE zl_X8_33 (by decide) dX8_ends_69 ?_
        refine z_goto (tgt := 78) hE (d := dX8_ends_72) (ht := by decide) ?_
        refine z_callV hE (c_X8_begins l0 D0 cI0 cJ0 ad (us S 7 (sp_mid (S 7) o)) o 3 0 (by first | omega | (simp only [us_eq, us_ne h67, us_ne h76, us_ne h68, us_ne h86, us_ne h78, us_ne h87]; omega)) (by first | omega | (simp only [us_eq, us_ne h67, us_ne h76, us_ne h68, us_ne h86, us_ne h78, us_ne h87]; omega))) (by decide) rfl rfl zm_X8_117 zi_yX8_begins zs_yX8_begins zn_RX8 zc_yX8_begins (hy_X8_begins) (Nat.le_of_ble_eq_true rfl) (Nat.le_of_ble_eq_true rfl) rfl rfl rfl (Nat.le_of_ble_eq_true rfl) dX8_ends_78 ?_
        try simp only [us_eq, us_us, us_ne h67, us_ne h76, us_ne h68, us_ne h86, us_ne h78, us_ne h87, us_in h67, us_in h76]
        refine z_iload hE 0 rfl dX8_ends_81 ?_
        exact z_zret hE hR dX8_ends_83 (by decide) (congrArg (fun x => some (Value.int (i32 x))) (by first | exact zbo_t hsh | exact zbo_f hsh)) (by first | (refine ⟨g21, ?_, hg21⟩; unfold sp_end; first | (rw [if_pos hsh]; done) | (rw [if_neg hsh]; done)) | (refine ⟨S 6, ?_, fun q h => rfl⟩; rw [us_id]; unfold sp_end; first | (rw [if_pos hsh]; done) | (rw [if_neg hsh]; done)))
  · refine z_aload_n hE 1 rfl rfl dX8_ends_19 ?_
    refine z_iload_n hE 2 rfl rfl dX8_ends_20 ?_
    refine z_callVp hE (c_X8_claimed l0 D0 cI0 cJ0 ad S o hI (by omega) h2 (by omega)) (by decide) rfl rfl zm_X8_136 zi_yX8_claimed zs_yX8_claimed zn_RX8 zc_yX8_claimed (hy_X8_claimed) (Nat.le_of_ble_eq_true rfl) (Nat.le_of_ble_eq_true rfl) rfl rfl rfl (Nat.le_of_ble_eq_true rfl) dX8_ends_21 (fun M21 hM21 => ?_)
    obtain ⟨g21, rfl, hg21⟩ := hM21
    try simp only [us_eq, us_ne h67, us_ne h76, us_ne h68, us_ne h86, us_ne h78, us_ne h87] at hg21
    refine z_goto (tgt := 32) hE (d := dX8_ends_24) (ht := by decide) ?_
    have em : sp_clm (S 7) o (S 7 (59 + 22 * o)) = sp_mid (S 7) o := by unfold sp_mid; rw [if_neg (by omega)]
    rw [em]
    refine z_lload_n hE 0 rfl rfl dX8_ends_32 ?_
    refine z_ldc2 (a := 2) hE zl_X8_93 (by decide) dX8_ends_33 ?_
    refine z_lcmp hE ⟨by omega, by omega⟩ ⟨by omega, by omega⟩ dX8_ends_36 ?_
    refine z_ifl_eq (tgt := 55) hE dX8_ends_37 (by decide) (fun c7 => ?_) (fun c7 => ?_)
    · refine z_iconst hE dX8_ends_55 ?_
      refine z_goto (tgt := 60) hE (d := dX8_ends_56) (ht := by decide) ?_
      have hsh : sp_shut (S 7) o := by first | exact Or.inl (by omega) | exact Or.inr (by omega)
      refine z_istore hE (by decide) rfl dX8_ends_60 ?_
      refine z_aload_n hE 2 rfl rfl dX8_ends_62 ?_
      refine z_iload_n hE 3 rfl rfl dX8_ends_63 ?_
      refine z_iload hE 0 rfl dX8_ends_64 ?_
      refine z_if_eq (tgt := 75) hE dX8_ends_66 (by decide) ⟨by omega, by omega⟩ (fun c8 => absurd c8 (by decide)) (fun c8 => ?_)
      refine z_ldc2 (a := 3) hE zl_X8_33 (by decide) dX8_ends_69 ?_
      refine z_goto (tgt := 78) hE (d := dX8_ends_72) (ht := by decide) ?_
      refine z_callV hE (c_X8_begins l0 D0 cI0 cJ0 ad (us (us S 6 g21) 7 (sp_mid (S 7) o)) o 3 0 (by first | omega | (simp only [us_eq, us_ne h67, us_ne h76, us_ne h68, us_ne h86, us_ne h78, us_ne h87]; omega)) (by first | omega | (simp only [us_eq, us_ne h67, us_ne h76, us_ne h68, us_ne h86, us_ne h78, us_ne h87]; omega))) (by decide) rfl rfl zm_X8_117 zi_yX8_begins zs_yX8_begins zn_RX8 zc_yX8_begins (hy_X8_begins) (Nat.le_of_ble_eq_true rfl) (Nat.le_of_ble_eq_true rfl) rfl rfl rfl (Nat.le_of_ble_eq_true rfl) dX8_ends_78 ?_
      try simp only [us_eq, us_us, us_ne h67, us_ne h76, us_ne h68, us_ne h86, us_ne h78, us_ne h87, us_in h67, us_in h76]
      refine z_iload hE 0 rfl dX8_ends_81 ?_
      exact z_zret hE hR dX8_ends_83 (by decide) (congrArg (fun x => some (Value.int (i32 x))) (by first | exact zbo_t hsh | exact zbo_f hsh)) (by first | (refine ⟨g21, ?_, hg21⟩; unfold sp_end; first | (rw [if_pos hsh]; done) | (rw [if_neg hsh]; done)) | (refine ⟨S 6, ?_, fun q h => rfl⟩; rw [us_id]; unfold sp_end; first | (rw [if_pos hsh]; done) | (rw [if_neg hsh]; done)))
    · refine z_aload_n hE 1 rfl rfl dX8_ends_40 ?_
      refine gf_8_0 hE (by decide) zf_X8_7 dX8_ends_41 ?_
      refine z_iload_n hE 2 rfl rfl dX8_ends_44 ?_
      refine z_iconst hE dX8_ends_45 ?_
      refine z_callS hE (c_X8_o l0 D0 cI0 cJ0 ad (us (us S 6 g21) 7 (sp_mid (S 7) o)) o 2 (57 + 22 * o) (by first | omega | (simp only [us_eq, us_ne h67, us_ne h76, us_ne h68, us_ne h86, us_ne h78, us_ne h87]; omega))) zm_X8_54 zt_yX8_o zn_RX8 zc_yX8_o (hy_X8_o) (Nat.le_of_ble_eq_true rfl) (Nat.le_of_ble_eq_true rfl) rfl rfl rfl (Nat.le_of_ble_eq_true rfl) dX8_ends_46 ?_
      try simp only [us_eq, us_us, us_ne h67, us_ne h76, us_ne h68, us_ne h86, us_ne h78, us_ne h87, us_in h67, us_in h76]
      refine al_28 hE (by decide) (by omega) (by omega) dX8_ends_49 ?_
      try simp only [us_eq, us_us, us_ne h67, us_ne h76, us_ne h68, us_ne h86, us_ne h78, us_ne h87, us_in h67, us_in h76]
      refine z_lconst (a := 0) hE rfl dX8_ends_50 ?_
      refine z_lcmp hE ⟨by omega, by omega⟩ ⟨by omega, by omega⟩ dX8_ends_51 ?_
      refine z_ifl_ne (tgt := 59) hE dX8_ends_52 (by decide) (fun c9 => ?_) (fun c9 => ?_)
      · refine z_iconst hE dX8_ends_59 ?_
        have hsh : ¬ sp_shut (S 7) o := fun h => by rcases h with h | h <;> omega
        refine z_istore hE (by decide) rfl dX8_ends_60 ?_
        refine z_aload_n hE 2 rfl rfl dX8_ends_62 ?_
        refine z_iload_n hE 3 rfl rfl dX8_ends_63 ?_
        refine z_iload hE 0 rfl dX8_ends_64 ?_
        refine z_if_eq (tgt := 75) hE dX8_ends_66 (by decide) ⟨by omega, by omega⟩ (fun c10 => ?_) (fun c10 => absurd (by decide) c10)
        refine z_lload_n hE 1 rfl rfl dX8_ends_75 ?_
        refine z_lconst (a := 1) hE rfl dX8_ends_76 ?_
        refine z_ladd hE dX8_ends_77 ?_
        refine z_callV hE (c_X8_begins l0 D0 cI0 cJ0 ad (us (us S 6 g21) 7 (sp_mid (S 7) o)) o ((S 7 (((59 + 22 * o)))) + 1) (sp_mid (S 7) o 13) (by first | omega | (simp only [us_eq, us_ne h67, us_ne h76, us_ne h68, us_ne h86, us_ne h78, us_ne h87]; omega)) (by first | omega | (simp only [us_eq, us_ne h67, us_ne h76, us_ne h68, us_ne h86, us_ne h78, us_ne h87]; omega))) (by decide) rfl rfl zm_X8_117 zi_yX8_begins zs_yX8_begins zn_RX8 zc_yX8_begins (hy_X8_begins) (Nat.le_of_ble_eq_true rfl) (Nat.le_of_ble_eq_true rfl) rfl rfl rfl (Nat.le_of_ble_eq_true rfl) dX8_ends_78 ?_
        try simp only [us_eq, us_us, us_ne h67, us_ne h76, us_ne h68, us_ne h86, us_ne h78, us_ne h87, us_in h67, us_in h76]
        refine z_iload hE 0 rfl dX8_ends_81 ?_
        exact z_zret hE hR dX8_ends_83 (by decide) (congrArg (fun x => some (Value.int (i32 x))) (by first | exact zbo_t hsh | exact zbo_f hsh)) (by first | (refine ⟨g21, ?_, hg21⟩; unfold sp_end; first | (rw [if_pos hsh]; done) | (rw [if_neg hsh]; done)) | (refine ⟨S 6, ?_, fun q h => rfl⟩; rw [us_id]; unfold sp_end; first | (rw [if_pos hsh]; done) | (rw [if_neg hsh]; done)))
      · refine z_iconst hE dX8_ends_55 ?_
        refine z_goto (tgt := 60) hE (d := dX8_ends_56) (ht := by decide) ?_
        have hsh : sp_shut (S 7) o := by first | exact Or.inl (by omega) | exact Or.inr (by omega)
        refine z_istore hE (by decide) rfl dX8_ends_60 ?_
        refine z_aload_n hE 2 rfl rfl dX8_ends_62 ?_
        refine z_iload_n hE 3 rfl rfl dX8_ends_63 ?_
        refine z_iload hE 0 rfl dX8_ends_64 ?_
        refine z_if_eq (tgt := 75) hE dX8_ends_66 (by decide) ⟨by omega, by omega⟩ (fun c11 => absurd c11 (by decide)) (fun c11 => ?_)
        refine z_ldc2 (a := 3) hE zl_X8_33 (by decide) dX8_ends_69 ?_
        refine z_goto (tgt := 78) hE (d := dX8_ends_72) (ht := by decide) ?_
        refine z_callV hE (c_X8_begins l0 D0 cI0 cJ0 ad (us (us S 6 g21) 7 (sp_mid (S 7) o)) o 3 0 (by first | omega | (simp only [us_eq, us_ne h67, us_ne h76, us_ne h68, us_ne h86, us_ne h78, us_ne h87]; omega)) (by first | omega | (simp only [us_eq, us_ne h67, us_ne h76, us_ne h68, us_ne h86, us_ne h78, us_ne h87]; omega))) (by decide) rfl rfl zm_X8_117 zi_yX8_begins zs_yX8_begins zn_RX8 zc_yX8_begins (hy_X8_begins) (Nat.le_of_ble_eq_true rfl) (Nat.le_of_ble_eq_true rfl) rfl rfl rfl (Nat.le_of_ble_eq_true rfl) dX8_ends_78 ?_
        try simp only [us_eq, us_us, us_ne h67, us_ne h76, us_ne h68, us_ne h86, us_ne h78, us_ne h87, us_in h67, us_in h76]
        refine z_iload hE 0 rfl dX8_ends_81 ?_
        exact z_zret hE hR dX8_ends_83 (by decide) (congrArg (fun x => some (Value.int (i32 x))) (by first | exact zbo_t hsh | exact zbo_f hsh)) (by first | (refine ⟨g21, ?_, hg21⟩; unfold sp_end; first | (rw [if_pos hsh]; done) | (rw [if_neg hsh]; done)) | (refine ⟨S 6, ?_, fun q h => rfl⟩; rw [us_id]; unfold sp_end; first | (rw [if_pos hsh]; done) | (rw [if_neg hsh]; done)))
theorem dX8_passDays_0 : decode cX8_passDays 0 = .ok (.iload_n 1, 1) := by decide +kernel
theorem dX8_passDays_1 : decode cX8_passDays 1 = .ok (.i2l, 1) := by decide +kernel
theorem dX8_passDays_2 : decode cX8_passDays 2 = .ok (.lconst 1, 1) := by decide +kernel
theorem dX8_passDays_3 : decode cX8_passDays 3 = .ok (.ldc2_w 143, 3) := by decide +kernel
theorem dX8_passDays_6 : decode cX8_passDays 6 = .ok (.invokestatic 35, 3) := by decide +kernel
theorem dX8_passDays_9 : decode cX8_passDays 9 = .ok (.ifCond .ne 6, 3) := by decide +kernel
theorem dX8_passDays_12 : decode cX8_passDays 12 = .ok (.ldc 68, 2) := by decide +kernel
theorem dX8_passDays_14 : decode cX8_passDays 14 = .ok (.ireturn, 1) := by decide +kernel
theorem dX8_passDays_15 : decode cX8_passDays 15 = .ok (.aload_n 0, 1) := by decide +kernel
theorem dX8_passDays_16 : decode cX8_passDays 16 = .ok (.invokevirtual 43, 3) := by decide +kernel
theorem dX8_passDays_19 : decode cX8_passDays 19 = .ok (.iconst 0, 1) := by decide +kernel
theorem dX8_passDays_20 : decode cX8_passDays 20 = .ok (.istore_n 2, 1) := by decide +kernel
theorem dX8_passDays_21 : decode cX8_passDays 21 = .ok (.iconst 0, 1) := by decide +kernel
theorem dX8_passDays_22 : decode cX8_passDays 22 = .ok (.istore_n 3, 1) := by decide +kernel
theorem dX8_passDays_23 : decode cX8_passDays 23 = .ok (.iload_n 3, 1) := by decide +kernel
theorem dX8_passDays_24 : decode cX8_passDays 24 = .ok (.iload_n 1, 1) := by decide +kernel
theorem dX8_passDays_25 : decode cX8_passDays 25 = .ok (.if_icmp .ge 98, 3) := by decide +kernel
theorem dX8_passDays_28 : decode cX8_passDays 28 = .ok (.iconst 0, 1) := by decide +kernel
theorem dX8_passDays_29 : decode cX8_passDays 29 = .ok (.istore 4, 2) := by decide +kernel
theorem dX8_passDays_31 : decode cX8_passDays 31 = .ok (.iload 4, 2) := by decide +kernel
theorem dX8_passDays_33 : decode cX8_passDays 33 = .ok (.i2l, 1) := by decide +kernel
theorem dX8_passDays_34 : decode cX8_passDays 34 = .ok (.aload_n 0, 1) := by decide +kernel
theorem dX8_passDays_35 : decode cX8_passDays 35 = .ok (.getfield 7, 3) := by decide +kernel
theorem dX8_passDays_38 : decode cX8_passDays 38 = .ok (.bipush 14, 2) := by decide +kernel
theorem dX8_passDays_40 : decode cX8_passDays 40 = .ok (.laload, 1) := by decide +kernel
theorem dX8_passDays_41 : decode cX8_passDays 41 = .ok (.lcmp, 1) := by decide +kernel
theorem dX8_passDays_42 : decode cX8_passDays 42 = .ok (.ifCond .ge 75, 3) := by decide +kernel
theorem dX8_passDays_45 : decode cX8_passDays 45 = .ok (.aload_n 0, 1) := by decide +kernel
theorem dX8_passDays_46 : decode cX8_passDays 46 = .ok (.getfield 7, 3) := by decide +kernel
theorem dX8_passDays_49 : decode cX8_passDays 49 = .ok (.iload 4, 2) := by decide +kernel
theorem dX8_passDays_51 : decode cX8_passDays 51 = .ok (.iconst 4, 1) := by decide +kernel
theorem dX8_passDays_52 : decode cX8_passDays 52 = .ok (.invokestatic 54, 3) := by decide +kernel
theorem dX8_passDays_55 : decode cX8_passDays 55 = .ok (.laload, 1) := by decide +kernel
theorem dX8_passDays_56 : decode cX8_passDays 56 = .ok (.ldc2_w 33, 3) := by decide +kernel
theorem dX8_passDays_59 : decode cX8_passDays 59 = .ok (.lcmp, 1) := by decide +kernel
theorem dX8_passDays_60 : decode cX8_passDays 60 = .ok (.ifCond .ge 51, 3) := by decide +kernel
theorem dX8_passDays_63 : decode cX8_passDays 63 = .ok (.aload_n 0, 1) := by decide +kernel
theorem dX8_passDays_64 : decode cX8_passDays 64 = .ok (.getfield 7, 3) := by decide +kernel
theorem dX8_passDays_67 : decode cX8_passDays 67 = .ok (.iload 4, 2) := by decide +kernel
theorem dX8_passDays_69 : decode cX8_passDays 69 = .ok (.iconst 5, 1) := by decide +kernel
theorem dX8_passDays_70 : decode cX8_passDays 70 = .ok (.invokestatic 54, 3) := by decide +kernel
theorem dX8_passDays_73 : decode cX8_passDays 73 = .ok (.dup2, 1) := by decide +kernel
theorem dX8_passDays_74 : decode cX8_passDays 74 = .ok (.laload, 1) := by decide +kernel
theorem dX8_passDays_75 : decode cX8_passDays 75 = .ok (.lconst 1, 1) := by decide +kernel
theorem dX8_passDays_76 : decode cX8_passDays 76 = .ok (.lsub, 1) := by decide +kernel
theorem dX8_passDays_77 : decode cX8_passDays 77 = .ok (.lastore, 1) := by decide +kernel
theorem dX8_passDays_78 : decode cX8_passDays 78 = .ok (.iload_n 2, 1) := by decide +kernel
theorem dX8_passDays_79 : decode cX8_passDays 79 = .ok (.aload_n 0, 1) := by decide +kernel
theorem dX8_passDays_80 : decode cX8_passDays 80 = .ok (.getfield 7, 3) := by decide +kernel
theorem dX8_passDays_83 : decode cX8_passDays 83 = .ok (.iload 4, 2) := by decide +kernel
theorem dX8_passDays_85 : decode cX8_passDays 85 = .ok (.iconst 5, 1) := by decide +kernel
theorem dX8_passDays_86 : decode cX8_passDays 86 = .ok (.invokestatic 54, 3) := by decide +kernel
theorem dX8_passDays_89 : decode cX8_passDays 89 = .ok (.laload, 1) := by decide +kernel
theorem dX8_passDays_90 : decode cX8_passDays 90 = .ok (.lconst 0, 1) := by decide +kernel
theorem dX8_passDays_91 : decode cX8_passDays 91 = .ok (.lcmp, 1) := by decide +kernel
theorem dX8_passDays_92 : decode cX8_passDays 92 = .ok (.ifCond .ne 16, 3) := by decide +kernel
theorem dX8_passDays_95 : decode cX8_passDays 95 = .ok (.aload_n 0, 1) := by decide +kernel
theorem dX8_passDays_96 : decode cX8_passDays 96 = .ok (.iload 4, 2) := by decide +kernel
theorem dX8_passDays_98 : decode cX8_passDays 98 = .ok (.invokevirtual 145, 3) := by decide +kernel
theorem dX8_passDays_101 : decode cX8_passDays 101 = .ok (.ifCond .eq 7, 3) := by decide +kernel
theorem dX8_passDays_104 : decode cX8_passDays 104 = .ok (.iconst 1, 1) := by decide +kernel
theorem dX8_passDays_105 : decode cX8_passDays 105 = .ok (.goto 4, 3) := by decide +kernel
theorem dX8_passDays_108 : decode cX8_passDays 108 = .ok (.iconst 0, 1) := by decide +kernel
theorem dX8_passDays_109 : decode cX8_passDays 109 = .ok (.iadd, 1) := by decide +kernel
theorem dX8_passDays_110 : decode cX8_passDays 110 = .ok (.istore_n 2, 1) := by decide +kernel
theorem dX8_passDays_111 : decode cX8_passDays 111 = .ok (.iinc 4 1, 3) := by decide +kernel
theorem dX8_passDays_114 : decode cX8_passDays 114 = .ok (.goto (-83), 3) := by decide +kernel
theorem dX8_passDays_117 : decode cX8_passDays 117 = .ok (.iinc 3 1, 3) := by decide +kernel
theorem dX8_passDays_120 : decode cX8_passDays 120 = .ok (.goto (-97), 3) := by decide +kernel
theorem dX8_passDays_123 : decode cX8_passDays 123 = .ok (.aload_n 0, 1) := by decide +kernel
theorem dX8_passDays_124 : decode cX8_passDays 124 = .ok (.getfield 7, 3) := by decide +kernel
theorem dX8_passDays_127 : decode cX8_passDays 127 = .ok (.bipush 18, 2) := by decide +kernel
theorem dX8_passDays_129 : decode cX8_passDays 129 = .ok (.dup2, 1) := by decide +kernel
theorem dX8_passDays_130 : decode cX8_passDays 130 = .ok (.laload, 1) := by decide +kernel
theorem dX8_passDays_131 : decode cX8_passDays 131 = .ok (.iload_n 1, 1) := by decide +kernel
theorem dX8_passDays_132 : decode cX8_passDays 132 = .ok (.i2l, 1) := by decide +kernel
theorem dX8_passDays_133 : decode cX8_passDays 133 = .ok (.ladd, 1) := by decide +kernel
theorem dX8_passDays_134 : decode cX8_passDays 134 = .ok (.lastore, 1) := by decide +kernel
theorem dX8_passDays_135 : decode cX8_passDays 135 = .ok (.iload_n 2, 1) := by decide +kernel
theorem dX8_passDays_136 : decode cX8_passDays 136 = .ok (.ireturn, 1) := by decide +kernel
theorem hy_X8_passDays : yX8_passDays.cls ≠ "java/lang/invoke/MethodHandle" ∧ yX8_passDays.cls ≠ "java/lang/invoke/VarHandle" ∧ (parseMethodDescriptor yX8_passDays.desc).map (fun d => d.parameters.length) = some 1 := ⟨by decide +kernel, by decide +kernel, by decide +kernel⟩
set_option maxHeartbeats 4000000 in
set_option maxRecDepth 100000 in
theorem lp_X8_passDays_in {E : zE} {l0 : Launch} {D0 : va_G} {cI0 cJ0 : ClassId} {ad : Nat → Nat → Nat} (hE : zG E l0 D0 cI0 cJ0 ad cX8_passDays 5 RX8 5 115) (S : zM) (d : Int) (h6 : 0 ≤ S 6 0 ∧ S 6 0 ≤ 4) (hI : Inv (S 7)) (bd : -2147483648 ≤ d ∧ d < 2147483648) (hR : zR E (some .int) (some (.int (i32 (rv_passDays (S 7) d)))) (fun X => if ok_passDays d then ∃ g : Int → Int, X = us (us (us S 8 (mp (S 8) (S 7) (S 6 0))) 6 g) 7 (nx_passDays (S 7) d) ∧ ∀ q : Int, q < 100 → g q = (up (S 6) 0 (min (S 6 0 + 1) 4)) q else X = S)) : ∀ (fuel : Nat) (i : Int) (j : Int) (g : Int → Int) (hok : 1 ≤ d ∧ d ≤ 60) (hi : 0 ≤ i ∧ i < d) (hout : ∀ g : Int → Int, (∀ q : Int, q < 100 → g q = (up (S 6) 0 (min (S 6 0 + 1) 4)) q) → Z E (us (us (us S 8 (mp (S 8) (S 7) (S 6 0))) 6 g) 7 (sp_days (S 7) (i + 1).toNat)) 23 [(3, .int (i32 (i + 1))), (2, .int (i32 (sp_daysN (S 7) (i + 1).toNat))), (0, .ref (ad 6 27)), (1, .int (i32 d))] []) (h9 : 0 ≤ j ∧ j ≤ S 7 14) (hq : ∀ q : Int, q < 100 → g q = (up (S 6) 0 (min (S 6 0 + 1) 4)) q), (S 7 14 - j).toNat < fuel → Z E (us (us (us S 8 (mp (S 8) (S 7) (S 6 0))) 6 g) 7 (sp_dayS (uq (sp_days (S 7) i.toNat) 670 1) j.toNat)) 31 [(4, .int (i32 j)), (3, .int (i32 i)), (2, .int (i32 (sp_daysN (S 7) i.toNat + sp_dayC (uq (sp_days (S 7) i.toNat) 670 1) j.toNat))), (0, .ref (ad 6 27)), (1, .int (i32 d))] [] := by
  intro fuel
  induction fuel with
  | zero => intro _ _ _ _ _ _ _ _ hz; omega
  | succ fuel ih =>
    intro i j g hok hi hout h9 hq hz
    have h67 : (6 : Nat) ≠ 7 := by decide
    have h76 : (7 : Nat) ≠ 6 := by decide
    have h68 : (6 : Nat) ≠ 8 := by decide
    have h86 : (8 : Nat) ≠ 6 := by decide
    have h78 : (7 : Nat) ≠ 8 := by decide
    have h87 : (8 : Nat) ≠ 7 := by decide
    have hI0 := hI.1
    have hA := inA hI0
    unfold InvA at hA
    have hdi := inv_days hI0 hI.2.1 i.toNat
    have hu := inv_670 hdi.1 hdi.2.1 1
    have u14 : (uq (sp_days (S 7) i.toNat) 670 1) 14 = S 7 14 := by rw [hu.2.2, hdi.2.2]
    have hd := inv_dayS hu.1 hu.2.1 j.toNat (by omega)
    rw [hu.2.2, hdi.2.2] at hd
    have hAd := inA hd.1
    unfold InvA at hAd
    refine z_iload hE 0 rfl dX8_passDays_31 ?_
    refine z_i2l hE ⟨by omega, by omega⟩ dX8_passDays_33 ?_
    refine z_aload_n hE 3 rfl rfl dX8_passDays_34 ?_
    refine gf_8_0 hE (by decide) zf_X8_7 dX8_passDays_35 ?_
    refine z_bipush (a := 14) hE (by decide) dX8_passDays_38 ?_
    refine al_28 hE (by decide) (by omega) (by omega) dX8_passDays_40 ?_
    try simp only [us_eq, us_us, us_ne h67, us_ne h76, us_ne h68, us_ne h86, us_ne h78, us_ne h87, us_in h67, us_in h76]
    rw [hd.2.2]
    refine z_lcmp hE ⟨by omega, by omega⟩ ⟨by omega, by omega⟩ dX8_passDays_41 ?_
    refine z_ifl_ge (tgt := 117) hE dX8_passDays_42 (by decide) (fun c1 => ?_) (fun c1 => ?_)
    · refine z_iinc hE 1 rfl (by decide) rfl dX8_passDays_117 ?_
      refine z_goto (tgt := 23) hE (d := dX8_passDays_120) (ht := by decide) ?_
      refine z_L (L' := [(3, .int (i32 (i + 1))), (2, .int (i32 (sp_daysN (S 7) (i + 1).toNat))), (0, .ref (ad 6 27)), (1, .int (i32 d))]) [0, 2, 3, 4] (by rw [show sp_daysN (S 7) (i + 1).toNat = sp_daysN (S 7) i.toNat + sp_dayC (uq (sp_days (S 7) i.toNat) 670 1) j.toNat from by rw [(days_s hi.1).2, show j = (uq (sp_days (S 7) i.toNat) 670 1) 14 by omega]; rfl]; rfl) ?_
      rw [show sp_dayS (uq (sp_days (S 7) i.toNat) 670 1) j.toNat = sp_days (S 7) (i + 1).toNat from by rw [(days_s hi.1).1, show j = (uq (sp_days (S 7) i.toNat) 670 1) 14 by omega]; rfl]
      exact hout g hq
    · have hox := inO hd.1 j h9.1 (by omega)
      refine z_aload_n hE 3 rfl rfl dX8_passDays_45 ?_
      refine gf_8_0 hE (by decide) zf_X8_7 dX8_passDays_46 ?_
      refine z_iload hE 0 rfl dX8_passDays_49 ?_
      refine z_iconst hE dX8_passDays_51 ?_
      refine z_callS hE (c_X8_o l0 D0 cI0 cJ0 ad (us (us (us S 8 (mp (S 8) (S 7) (S 6 0))) 6 g) 7 (sp_dayS (uq (sp_days (S 7) i.toNat) 670 1) j.toNat)) j 4 (59 + 22 * j) (by first | omega | (simp only [us_eq, us_ne h67, us_ne h76, us_ne h68, us_ne h86, us_ne h78, us_ne h87]; omega))) zm_X8_54 zt_yX8_o zn_RX8 zc_yX8_o (hy_X8_o) (Nat.le_of_ble_eq_true rfl) (Nat.le_of_ble_eq_true rfl) rfl rfl rfl (Nat.le_of_ble_eq_true rfl) dX8_passDays_52 ?_
      try simp only [us_eq, us_us, us_ne h67, us_ne h76, us_ne h68, us_ne h86, us_ne h78, us_ne h87, us_in h67, us_in h76]
      refine al_28 hE (by decide) (by omega) (by omega) dX8_passDays_55 ?_
      try simp only [us_eq, us_us, us_ne h67, us_ne h76, us_ne h68, us_ne h86, us_ne h78, us_ne h87, us_in h67, us_in h76]
      refine z_ldc2 (a := 3) hE zl_X8_33 (by decide) dX8_passDays_56 ?_
      refine z_lcmp hE ⟨by omega, by omega⟩ ⟨by omega, by omega⟩ dX8_passDays_59 ?_
      refine z_ifl_ge (tgt := 111) hE dX8_passDays_60 (by decide) (fun c2 => ?_) (fun c2 => ?_)
      · have hoc : sp_off (sp_dayS (uq (sp_days (S 7) i.toNat) 670 1) j.toNat) j = sp_dayS (uq (sp_days (S 7) i.toNat) 670 1) j.toNat ∧ sp_offC (sp_dayS (uq (sp_days (S 7) i.toNat) 670 1) j.toNat) j = 0 := off_A (by omega)
        refine z_iinc hE 0 rfl (by decide) rfl dX8_passDays_111 ?_
        refine z_goto (tgt := 31) hE (d := dX8_passDays_114) (ht := by decide) ?_
        have hd := inv_dayS hu.1 hu.2.1 j.toNat (by omega)
        rw [hu.2.2, hdi.2.2] at hd
        have hAd := inA hd.1
        unfold InvA at hAd
        refine z_L (L' := [(4, .int (i32 (j + 1))), (3, .int (i32 i)), (2, .int (i32 (sp_daysN (S 7) i.toNat + sp_dayC (uq (sp_days (S 7) i.toNat) 670 1) (j + 1).toNat))), (0, .ref (ad 6 27)), (1, .int (i32 d))]) [0, 1, 2, 3, 4] (by rw [show sp_daysN (S 7) i.toNat + sp_dayC (uq (sp_days (S 7) i.toNat) 670 1) (j + 1).toNat = sp_daysN (S 7) i.toNat + sp_dayC (uq (sp_days (S 7) i.toNat) 670 1) j.toNat from by first | rfl | ((rw [dayC_s h9.1, hoc.2]) <;> omega)]; rfl) ?_
        rw [← hoc.1, ← dayS_s h9.1]
        exact ih i (j + 1) g hok hi hout ⟨by omega, by omega⟩ hq (by omega)
      · refine z_aload_n hE 3 rfl rfl dX8_passDays_63 ?_
        refine gf_8_0 hE (by decide) zf_X8_7 dX8_passDays_64 ?_
        refine z_iload hE 0 rfl dX8_passDays_67 ?_
        refine z_iconst hE dX8_passDays_69 ?_
        refine z_callS hE (c_X8_o l0 D0 cI0 cJ0 ad (us (us (us S 8 (mp (S 8) (S 7) (S 6 0))) 6 g) 7 (sp_dayS (uq (sp_days (S 7) i.toNat) 670 1) j.toNat)) j 5 (60 + 22 * j) (by first | omega | (simp only [us_eq, us_ne h67, us_ne h76, us_ne h68, us_ne h86, us_ne h78, us_ne h87]; omega))) zm_X8_54 zt_yX8_o zn_RX8 zc_yX8_o (hy_X8_o) (Nat.le_of_ble_eq_true rfl) (Nat.le_of_ble_eq_true rfl) rfl rfl rfl (Nat.le_of_ble_eq_true rfl) dX8_passDays_70 ?_
        try simp only [us_eq, us_us, us_ne h67, us_ne h76, us_ne h68, us_ne h86, us_ne h78, us_ne h87, us_in h67, us_in h76]
        refine z_dup2 hE rfl rfl dX8_passDays_73 ?_
        refine al_28 hE (by decide) (by omega) (by omega) dX8_passDays_74 ?_
        try simp only [us_eq, us_us, us_ne h67, us_ne h76, us_ne h68, us_ne h86, us_ne h78, us_ne h87, us_in h67, us_in h76]
        refine z_lconst (a := 1) hE rfl dX8_passDays_75 ?_
        refine z_lsub hE dX8_passDays_76 ?_
        refine as_28 hE (by decide) (by omega) (by omega) dX8_passDays_77 ?_
        try simp only [us_eq, us_us, us_ne h67, us_ne h76, us_ne h68, us_ne h86, us_ne h78, us_ne h87, us_in h67, us_in h76]
        have hdl := hd.2.1 j h9.1 (by omega) (by omega)
        refine z_mem7 hE (g := sp_tick (sp_dayS (uq (sp_days (S 7) i.toNat) 670 1) j.toNat) j) (fun q hq1 hq2 => tick_7 h9.1 hq1 hq2) ?_
        have ht := inv_tick hd.1 h9.1 (by omega)
        have t14 : (sp_tick (sp_dayS (uq (sp_days (S 7) i.toNat) 670 1) j.toNat) j) 14 = (sp_dayS (uq (sp_days (S 7) i.toNat) 670 1) j.toNat) 14 := tick_ne (by omega) (by omega)
        have t59 : (sp_tick (sp_dayS (uq (sp_days (S 7) i.toNat) 670 1) j.toNat) j) (59 + 22 * j) = (sp_dayS (uq (sp_days (S 7) i.toNat) 670 1) j.toNat) (59 + 22 * j) := tick_ne (by omega) (by omega)
        have t60 : (sp_tick (sp_dayS (uq (sp_days (S 7) i.toNat) 670 1) j.toNat) j) (60 + 22 * j) = (sp_dayS (uq (sp_days (S 7) i.toNat) 670 1) j.toNat) (60 + 22 * j) - 1 := by unfold sp_tick; (rw [uq_eq, uq_ne (by omega)]) <;> omega
        refine z_iload_n hE 2 rfl rfl dX8_passDays_78 ?_
        refine z_aload_n hE 3 rfl rfl dX8_passDays_79 ?_
        refine gf_8_0 hE (by decide) zf_X8_7 dX8_passDays_80 ?_
        refine z_iload hE 0 rfl dX8_passDays_83 ?_
        refine z_iconst hE dX8_passDays_85 ?_
        refine z_callS hE (c_X8_o l0 D0 cI0 cJ0 ad (us (us (us S 8 (mp (S 8) (S 7) (S 6 0))) 6 g) 7 (sp_tick (sp_dayS (uq (sp_days (S 7) i.toNat) 670 1) j.toNat) j)) j 5 (60 + 22 * j) (by first | omega | (simp only [us_eq, us_ne h67, us_ne h76, us_ne h68, us_ne h86, us_ne h78, us_ne h87]; omega))) zm_X8_54 zt_yX8_o zn_RX8 zc_yX8_o (hy_X8_o) (Nat.le_of_ble_eq_true rfl) (Nat.le_of_ble_eq_true rfl) rfl rfl rfl (Nat.le_of_ble_eq_true rfl) dX8_passDays_86 ?_
        try simp only [us_eq, us_us, us_ne h67, us_ne h76, us_ne h68, us_ne h86, us_ne h78, us_ne h87, us_in h67, us_in h76]
        refine al_28 hE (by decide) (by omega) (by omega) dX8_passDays_89 ?_
        try simp only [us_eq, us_us, us_ne h67, us_ne h76, us_ne h68, us_ne h86, us_ne h78, us_ne h87, us_in h67, us_in h76]
        refine z_lconst (a := 0) hE rfl dX8_passDays_90 ?_
        refine z_lcmp hE ⟨by omega, by omega⟩ ⟨by omega, by omega⟩ dX8_passDays_91 ?_
        refine z_ifl_ne (tgt := 108) hE dX8_passDays_92 (by decide) (fun c3 => ?_) (fun c3 => ?_)
        · refine z_iconst hE dX8_passDays_108 ?_
          refine z_iadd hE dX8_passDays_109 ?_
          refine z_istore_n hE rfl (by decide) rfl dX8_passDays_110 ?_
          have hoc : sp_off (sp_dayS (uq (sp_days (S 7) i.toNat) 670 1) j.toNat) j = sp_tick (sp_dayS (uq (sp_days (S 7) i.toNat) 670 1) j.toNat) j ∧ sp_offC (sp_dayS (uq (sp_days (S 7) i.toNat) 670 1) j.toNat) j = 0 := off_B (by omega) (by omega)
          refine z_iinc hE 1 rfl (by decide) rfl dX8_passDays_111 ?_
          refine z_goto (tgt := 31) hE (d := dX8_passDays_114) (ht := by decide) ?_
          refine z_L (L' := [(4, .int (i32 (j + 1))), (3, .int (i32 i)), (2, .int (i32 (sp_daysN (S 7) i.toNat + sp_dayC (uq (sp_days (S 7) i.toNat) 670 1) (j + 1).toNat))), (0, .ref (ad 6 27)), (1, .int (i32 d))]) [0, 2, 1, 3, 4] (by rw [show sp_daysN (S 7) i.toNat + sp_dayC (uq (sp_days (S 7) i.toNat) 670 1) (j + 1).toNat = (sp_daysN (S 7) i.toNat + sp_dayC (uq (sp_days (S 7) i.toNat) 670 1) j.toNat) + 0 from by first | rfl | ((rw [dayC_s h9.1, hoc.2]) <;> omega)]; rfl) ?_
          rw [← hoc.1, ← dayS_s h9.1]
          exact ih i (j + 1) g hok hi hout ⟨by omega, by omega⟩ hq (by omega)
        · refine z_aload_n hE 3 rfl rfl dX8_passDays_95 ?_
          refine z_iload hE 0 rfl dX8_passDays_96 ?_
          refine z_callVp hE (c_X8_ends l0 D0 cI0 cJ0 ad (us (us (us S 8 (mp (S 8) (S 7) (S 6 0))) 6 g) 7 (sp_tick (sp_dayS (uq (sp_days (S 7) i.toNat) 670 1) j.toNat) j)) j (by rw [us_eq]; exact ht) (by rw [us_eq]; omega) (by rw [us_eq]; omega)) (by decide) rfl rfl zm_X8_145 zi_yX8_ends zs_yX8_ends zn_RX8 zc_yX8_ends (hy_X8_ends) (Nat.le_of_ble_eq_true rfl) (Nat.le_of_ble_eq_true rfl) rfl rfl rfl (Nat.le_of_ble_eq_true rfl) dX8_passDays_98 (fun M98 hM98 => ?_)
          obtain ⟨g98, rfl, hg98⟩ := hM98
          try simp only [us_eq, us_us, us_ne h67, us_ne h76, us_ne h68, us_ne h86, us_ne h78, us_ne h87, us_in h67, us_in h76]
          try simp only [us_eq, us_ne h67, us_ne h76, us_ne h68, us_ne h86, us_ne h78, us_ne h87] at hg98
          try simp only [us_eq, us_us, us_ne h67, us_ne h76, us_ne h68, us_ne h86, us_ne h78, us_ne h87, us_in h67, us_in h76]
          refine z_ifb_eq (tgt := 108) hE dX8_passDays_101 (by decide) (fun ce => ?_) (fun ce => ?_)
          · refine z_iconst hE dX8_passDays_108 ?_
            refine z_iadd hE dX8_passDays_109 ?_
            refine z_istore_n hE rfl (by decide) rfl dX8_passDays_110 ?_
            have hoc : sp_off (sp_dayS (uq (sp_days (S 7) i.toNat) 670 1) j.toNat) j = sp_end (sp_tick (sp_dayS (uq (sp_days (S 7) i.toNat) 670 1) j.toNat) j) j ∧ sp_offC (sp_dayS (uq (sp_days (S 7) i.toNat) 670 1) j.toNat) j = 0 := off_F (by omega) (by omega) ce
            refine z_iinc hE 1 rfl (by decide) rfl dX8_passDays_111 ?_
            refine z_goto (tgt := 31) hE (d := dX8_passDays_114) (ht := by decide) ?_
            refine z_L (L' := [(4, .int (i32 (j + 1))), (3, .int (i32 i)), (2, .int (i32 (sp_daysN (S 7) i.toNat + sp_dayC (uq (sp_days (S 7) i.toNat) 670 1) (j + 1).toNat))), (0, .ref (ad 6 27)), (1, .int (i32 d))]) [0, 2, 1, 3, 4] (by rw [show sp_daysN (S 7) i.toNat + sp_dayC (uq (sp_days (S 7) i.toNat) 670 1) (j + 1).toNat = (sp_daysN (S 7) i.toNat + sp_dayC (uq (sp_days (S 7) i.toNat) 670 1) j.toNat) + 0 from by first | rfl | ((rw [dayC_s h9.1, hoc.2]) <;> omega)]; rfl) ?_
            rw [← hoc.1, ← dayS_s h9.1]
            exact ih i (j + 1) g98 hok hi hout ⟨by omega, by omega⟩ (fun q h1 => (hg98 q h1).trans (hq q h1)) (by omega)
          · refine z_iconst hE dX8_passDays_104 ?_
            refine z_goto (tgt := 109) hE (d := dX8_passDays_105) (ht := by decide) ?_
            refine z_iadd hE dX8_passDays_109 ?_
            refine z_istore_n hE rfl (by decide) rfl dX8_passDays_110 ?_
            have hoc : sp_off (sp_dayS (uq (sp_days (S 7) i.toNat) 670 1) j.toNat) j = sp_end (sp_tick (sp_dayS (uq (sp_days (S 7) i.toNat) 670 1) j.toNat) j) j ∧ sp_offC (sp_dayS (uq (sp_days (S 7) i.toNat) 670 1) j.toNat) j = 1 := off_E (by omega) (by omega) ce
            refine z_iinc hE 1 rfl (by decide) rfl dX8_passDays_111 ?_
            refine z_goto (tgt := 31) hE (d := dX8_passDays_114) (ht := by decide) ?_
            refine z_L (L' := [(4, .int (i32 (j + 1))), (3, .int (i32 i)), (2, .int (i32 (sp_daysN (S 7) i.toNat + sp_dayC (uq (sp_days (S 7) i.toNat) 670 1) (j + 1).toNat))), (0, .ref (ad 6 27)), (1, .int (i32 d))]) [0, 2, 1, 3, 4] (by rw [show sp_daysN (S 7) i.toNat + sp_dayC (uq (sp_days (S 7) i.toNat) 670 1) (j + 1).toNat = (sp_daysN (S 7) i.toNat + sp_dayC (uq (sp_days (S 7) i.toNat) 670 1) j.toNat) + 1 from by first | rfl | ((rw [dayC_s h9.1, hoc.2]) <;> omega)]; rfl) ?_
            rw [← hoc.1, ← dayS_s h9.1]
            exact ih i (j + 1) g98 hok hi hout ⟨by omega, by omega⟩ (fun q h1 => (hg98 q h1).trans (hq q h1)) (by omega)
set_option maxHeartbeats 4000000 in
set_option maxRecDepth 100000 in
theorem lp_X8_passDays {E : zE} {l0 : Launch} {D0 : va_G} {cI0 cJ0 : ClassId} {ad : Nat → Nat → Nat} (hE : zG E l0 D0 cI0 cJ0 ad cX8_passDays 5 RX8 5 115) (S : zM) (d : Int) (h6 : 0 ≤ S 6 0 ∧ S 6 0 ≤ 4) (hI : Inv (S 7)) (bd : -2147483648 ≤ d ∧ d < 2147483648) (hR : zR E (some .int) (some (.int (i32 (rv_passDays (S 7) d)))) (fun X => if ok_passDays d then ∃ g : Int → Int, X = us (us (us S 8 (mp (S 8) (S 7) (S 6 0))) 6 g) 7 (nx_passDays (S 7) d) ∧ ∀ q : Int, q < 100 → g q = (up (S 6) 0 (min (S 6 0 + 1) 4)) q else X = S)) : ∀ (fuel : Nat) (i : Int) (g : Int → Int) (hok : 1 ≤ d ∧ d ≤ 60) (hi : 0 ≤ i ∧ i ≤ d) (hg : ∀ q : Int, q < 100 → g q = (up (S 6) 0 (min (S 6 0 + 1) 4)) q), (d - i).toNat < fuel → Z E (us (us (us S 8 (mp (S 8) (S 7) (S 6 0))) 6 g) 7 (sp_days (S 7) i.toNat)) 23 [(3, .int (i32 i)), (2, .int (i32 (sp_daysN (S 7) i.toNat))), (0, .ref (ad 6 27)), (1, .int (i32 d))] [] := by
  intro fuel
  induction fuel with
  | zero => intro _ _ _ _ _ hz; omega
  | succ fuel ih =>
    intro i g hok hi hg hz
    have h67 : (6 : Nat) ≠ 7 := by decide
    have h76 : (7 : Nat) ≠ 6 := by decide
    have h68 : (6 : Nat) ≠ 8 := by decide
    have h86 : (8 : Nat) ≠ 6 := by decide
    have h78 : (7 : Nat) ≠ 8 := by decide
    have h87 : (8 : Nat) ≠ 7 := by decide
    have hI0 := hI.1
    have hA := inA hI0
    unfold InvA at hA
    have hdi := inv_days hI0 hI.2.1 i.toNat
    have hu := inv_670 hdi.1 hdi.2.1 1
    have u14 : (uq (sp_days (S 7) i.toNat) 670 1) 14 = S 7 14 := by rw [hu.2.2, hdi.2.2]
    refine z_iload_n hE 0 rfl rfl dX8_passDays_23 ?_
    refine z_iload_n hE 3 rfl rfl dX8_passDays_24 ?_
    refine z_icmp_ge (tgt := 123) hE dX8_passDays_25 (by decide) ⟨by omega, by omega⟩ ⟨by omega, by omega⟩ (fun c1 => ?_) (fun c1 => ?_)
    · rw [show i = d by omega]
      refine z_aload_n hE 2 rfl rfl dX8_passDays_123 ?_
      refine gf_8_0 hE (by decide) zf_X8_7 dX8_passDays_124 ?_
      refine z_bipush (a := 18) hE (by decide) dX8_passDays_127 ?_
      refine z_dup2 hE rfl rfl dX8_passDays_129 ?_
      refine al_28 hE (by decide) (by omega) (by omega) dX8_passDays_130 ?_
      try simp only [us_eq, us_us, us_ne h67, us_ne h76, us_ne h68, us_ne h86, us_ne h78, us_ne h87, us_in h67, us_in h76]
      refine z_iload_n hE 3 rfl rfl dX8_passDays_131 ?_
      refine z_i2l hE ⟨by omega, by omega⟩ dX8_passDays_132 ?_
      refine z_ladd hE dX8_passDays_133 ?_
      refine as_28 hE (by decide) (by omega) (by omega) dX8_passDays_134 ?_
      try simp only [us_eq, us_us, us_ne h67, us_ne h76, us_ne h68, us_ne h86, us_ne h78, us_ne h87, us_in h67, us_in h76]
      refine z_iload_n hE 1 rfl rfl dX8_passDays_135 ?_
      exact z_iret hE hR dX8_passDays_136 (congrArg (fun x => some (Value.int (i32 x))) (by unfold rv_passDays; first | ((rw [if_neg (by omega)]) <;> first | rfl | omega) | ((rw [if_pos (by omega)]) <;> first | rfl | omega))) (by first | (rw [if_pos (by omega)]; exact ⟨g, rfl, hg⟩) | (rw [if_neg (by omega)]))
    · refine z_iconst hE dX8_passDays_28 ?_
      refine z_istore hE (by decide) rfl dX8_passDays_29 ?_
      refine z_L (L' := [(4, .int (i32 (0 : Int))), (3, .int (i32 i)), (2, .int (i32 (sp_daysN (S 7) i.toNat + sp_dayC (uq (sp_days (S 7) i.toNat) 670 1) ((0 : Int)).toNat))), (0, .ref (ad 6 27)), (1, .int (i32 d))]) [0, 1, 2, 3, 4] (by rw [show sp_daysN (S 7) i.toNat + sp_dayC (uq (sp_days (S 7) i.toNat) 670 1) ((0 : Int)).toNat = sp_daysN (S 7) i.toNat from by first | rfl | ((show sp_daysN (S 7) i.toNat + sp_dayC (uq (sp_days (S 7) i.toNat) 670 1) 0 = _; unfold sp_dayC; omega))]; rfl) ?_
      refine z_mem7 hE (g := sp_dayS (uq (sp_days (S 7) i.toNat) 670 1) (0 : Int).toNat) (fun q hq1 hq2 => (uq_ne (show q ≠ 670 by omega)).symm) ?_
      exact lp_X8_passDays_in hE S d h6 hI bd hR 21 i ((0 : Int)) g hok ⟨by omega, by omega⟩ (fun g' hg' => ih (i + 1) g' hok ⟨by omega, by omega⟩ hg' (by omega)) ⟨by omega, by omega⟩ hg (by omega)
set_option maxHeartbeats 4000000 in
set_option maxRecDepth 100000 in
theorem c_X8_passDays (l0 : Launch) (D0 : va_G) (cI0 cJ0 : ClassId) (ad : Nat → Nat → Nat) (S : zM) (d : Int) (h6 : 0 ≤ S 6 0 ∧ S 6 0 ≤ 4) (hI : Inv (S 7)) (bd : -2147483648 ≤ d ∧ d < 2147483648) : Ct l0 D0 cI0 cJ0 ad yX8_passDays cX8_passDays 5 (some .int) 5 115 [.ref (ad 6 27), .int (i32 d)] S (some (.int (i32 (rv_passDays (S 7) d)))) (fun X => if ok_passDays d then ∃ g : Int → Int, X = us (us (us S 8 (mp (S 8) (S 7) (S 6 0))) 6 g) 7 (nx_passDays (S 7) d) ∧ ∀ q : Int, q < 100 → g q = (up (S 6) 0 (min (S 6 0 + 1) 4)) q else X = S) := by
  refine Ct.of (by decide) (Nat.le_of_ble_eq_true rfl) (fun E hE hR => ?_)
  have hE : zG E l0 D0 cI0 cJ0 ad cX8_passDays 5 RX8 5 115 := hE
  show Z E S 0 [(0, .ref (ad 6 27)), (1, .int (i32 d))] []
  have h67 : (6 : Nat) ≠ 7 := by decide
  have h76 : (7 : Nat) ≠ 6 := by decide
  have h68 : (6 : Nat) ≠ 8 := by decide
  have h86 : (8 : Nat) ≠ 6 := by decide
  have h78 : (7 : Nat) ≠ 8 := by decide
  have h87 : (8 : Nat) ≠ 7 := by decide
  have hI0 := hI.1
  have hA := inA hI0
  unfold InvA at hA
  refine z_iload_n hE 1 rfl rfl dX8_passDays_0 ?_
  refine z_i2l hE ⟨by omega, by omega⟩ dX8_passDays_1 ?_
  refine z_lconst (a := 1) hE rfl dX8_passDays_2 ?_
  refine z_ldc2 (a := 60) hE zl_X8_143 (by decide) dX8_passDays_3 ?_
  refine z_callS hE (c_X8_in l0 D0 cI0 cJ0 ad S d 1 60 (⟨by omega, by omega⟩) (⟨by omega, by omega⟩) (⟨by omega, by omega⟩)) zm_X8_35 zt_yX8_in zn_RX8 zc_yX8_in (hy_X8_in) (Nat.le_of_ble_eq_true rfl) (Nat.le_of_ble_eq_true rfl) rfl rfl rfl (Nat.le_of_ble_eq_true rfl) dX8_passDays_6 ?_
  refine z_ifb_ne (tgt := 15) hE dX8_passDays_9 (by decide) (fun c1 => ?_) (fun c1 => ?_)
  · refine z_aload_n hE 0 rfl rfl dX8_passDays_15 ?_
    refine z_callV hE (c_X8_notes l0 D0 cI0 cJ0 ad S (by omega)) (by decide) rfl rfl zm_X8_43 zi_yX8_notes zs_yX8_notes zn_RX8 zc_yX8_notes (hy_X8_notes) (Nat.le_of_ble_eq_true rfl) (Nat.le_of_ble_eq_true rfl) rfl rfl rfl (Nat.le_of_ble_eq_true rfl) dX8_passDays_16 ?_
    try simp only [us_eq, us_us, us_ne h67, us_ne h76, us_ne h68, us_ne h86, us_ne h78, us_ne h87, us_in h67, us_in h76]
    refine z_iconst hE dX8_passDays_19 ?_
    refine z_istore_n hE rfl (by decide) rfl dX8_passDays_20 ?_
    refine z_iconst hE dX8_passDays_21 ?_
    refine z_istore_n hE rfl (by decide) rfl dX8_passDays_22 ?_
    refine z_L (L' := [(3, .int (i32 (0 : Int))), (2, .int (i32 (sp_daysN (S 7) ((0 : Int)).toNat))), (0, .ref (ad 6 27)), (1, .int (i32 d))]) [0, 1, 2, 3] (by rw [show sp_daysN (S 7) ((0 : Int)).toNat = 0 from by first | rfl | (rfl)]; rfl) ?_
    rw [us_add7 (S := S) (g := sp_days (S 7) (0 : Int).toNat) rfl]
    exact lp_X8_passDays hE S d h6 hI bd hR 61 ((0 : Int)) (up (S 6) 0 (min (S 6 0 + 1) 4)) ⟨by omega, by omega⟩ ⟨by omega, by omega⟩ (fun q h1 => rfl) (by omega)
  · refine z_ldc (a := -2000000001) hE zk_X8_68 (by decide) dX8_passDays_12 ?_
    exact z_iret hE hR dX8_passDays_14 (congrArg (fun x => some (Value.int (i32 x))) (by unfold rv_passDays; first | ((rw [if_neg (by omega)]) <;> first | rfl | omega) | ((rw [if_pos (by omega)]) <;> first | rfl | omega))) (by first | (rw [if_pos (by omega)]; exact ⟨g, rfl, hg⟩) | (rw [if_neg (by omega)]))
