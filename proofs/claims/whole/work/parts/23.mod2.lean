theorem us_add7 {S : zM} {A B g : Int → Int} (hg : g = S 7) : us (us S 8 A) 6 B = us (us (us S 8 A) 6 B) 7 g := by
  have em := us_id (us (us S 8 A) 6 B) 7
  have e7 : us (us S 8 A) 6 B 7 = S 7 := by rw [us_ne (by decide), us_ne (by decide)]
  rw [e7] at em
  rw [hg]; exact em.symm
theorem clr_n {s : Int → Int} {a i q : Int} (h : q < a ∨ a + i ≤ q) : clr s a i q = s q := if_neg (by omega)
theorem begin_7 {s : Int → Int} {o st len : Int} (ho : 0 ≤ o ∧ o < 20) {q : Int} (h0 : 0 ≤ q) (h1 : q < 645) : clr (up (up s (59 + 22 * o) st) (60 + 22 * o) (s 13)) (65 + 22 * o) 12 q = sp_begin s o st len q := by
  unfold clr sp_begin up
  (repeat' split) <;> first | rfl | omega
theorem offer_7 {s : Int → Int} (h : Inv0 s) (h14 : 0 ≤ s 14 ∧ s 14 < 20) {se bu n pr : Int} {q : Int} (h0 : 0 ≤ q) (h1 : q < 645) : up (up (up (up (up (up (clr s (55 + 22 * s 14) 22) (55 + 22 * s 14) se) (56 + 22 * s 14) bu) (57 + 22 * s 14) n) (58 + 22 * s 14) pr) (60 + 22 * s 14) (s 13)) 14 (s 14 + 1) q = sp_offer s se bu n pr q := by
  have hz : 61 + 22 * s 14 ≤ q → q < 65 + 22 * s 14 → s q = 0 := fun a b => by
    have := inZ h (s 14) (q - 61 - 22 * s 14) (by omega) (by omega) (by omega) (by omega)
    rw [show 61 + 22 * s 14 + (q - 61 - 22 * s 14) = q by omega] at this
    exact this
  unfold sp_offer sp_begin up clr
  by_cases e14 : q = 14
  · simp only [e14, if_true]
    rw [if_neg (by omega), if_neg (by omega), if_neg (by omega), if_neg (by omega), if_neg (by omega), if_neg (by omega), if_neg (by omega), if_neg (by omega)]
  · by_cases e : 55 + 22 * s 14 ≤ q ∧ q < 77 + 22 * s 14
    · rw [if_neg e14]
      by_cases c0 : q = 55 + 22 * s 14
      · subst c0; simp (disch := omega) only [if_neg, if_pos, if_true]
      by_cases c1 : q = 56 + 22 * s 14
      · subst c1; simp (disch := omega) only [if_neg, if_pos, if_true]
      by_cases c2 : q = 57 + 22 * s 14
      · subst c2; simp (disch := omega) only [if_neg, if_pos, if_true]
      by_cases c3 : q = 58 + 22 * s 14
      · subst c3; simp (disch := omega) only [if_neg, if_pos, if_true]
      by_cases c4 : q = 59 + 22 * s 14
      · subst c4; simp (disch := omega) only [if_neg, if_pos, if_true]
      by_cases c5 : q = 60 + 22 * s 14
      · subst c5; simp (disch := omega) only [if_neg, if_pos, if_true]
      rw [if_neg c5, if_neg c3, if_neg c2, if_neg c1, if_neg c0, if_pos (by omega), if_neg c4, if_neg c5, if_neg (by omega)]
      by_cases c6 : q < 65 + 22 * s 14
      · rw [if_neg (by omega), if_neg c3, if_neg c2, if_neg c1, if_neg c0, if_neg e14]; exact (hz (by omega) c6).symm
      · rw [if_pos (by omega)]
    · simp (disch := omega) only [if_neg]
theorem prop_7 {s : Int → Int} (h : Inv0 s) (h15 : 0 ≤ s 15 ∧ s 15 < 10) {kd v : Int} {q : Int} : up (up (up (clr s (495 + 15 * s 15) 15) (495 + 15 * s 15) kd) (496 + 15 * s 15) v) 15 (s 15 + 1) q = sp_prop s kd v q := by
  have hz : 498 + 15 * s 15 ≤ q → q < 510 + 15 * s 15 → s q = 0 := fun a b => by
    have := (inV h (s 15) (q - 498 - 15 * s 15) (by omega) (by omega) (by omega) (by omega)).2.2 (by omega)
    rw [show 498 + 15 * s 15 + (q - 498 - 15 * s 15) = q by omega] at this
    exact this
  unfold sp_prop up clr
  by_cases e15 : q = 15
  · simp (disch := omega) only [e15, if_true, if_neg]
  · by_cases e : 495 + 15 * s 15 ≤ q ∧ q < 510 + 15 * s 15
    · rw [if_neg e15]
      by_cases c0 : q = 495 + 15 * s 15
      · subst c0; simp (disch := omega) only [if_neg, if_pos, if_true]
      by_cases c1 : q = 496 + 15 * s 15
      · subst c1; simp (disch := omega) only [if_neg, if_pos, if_true]
      by_cases c2 : q = 497 + 15 * s 15
      · subst c2; simp (disch := omega) only [if_neg, if_pos, if_true]
      rw [if_neg c1, if_neg c0, if_pos (by omega), if_neg c2, if_neg c1, if_neg c0, if_neg e15]
      exact (hz (by omega) (by omega)).symm
    · simp (disch := omega) only [if_neg]
theorem dX8_votesOf_0 : decode cX8_votesOf 0 = .ok (.aload_n 0, 1) := by decide +kernel
theorem dX8_votesOf_1 : decode cX8_votesOf 1 = .ok (.getfield 7, 3) := by decide +kernel
theorem dX8_votesOf_4 : decode cX8_votesOf 4 = .ok (.iload_n 1, 1) := by decide +kernel
theorem dX8_votesOf_5 : decode cX8_votesOf 5 = .ok (.iconst 0, 1) := by decide +kernel
theorem dX8_votesOf_6 : decode cX8_votesOf 6 = .ok (.invokestatic 46, 3) := by decide +kernel
theorem dX8_votesOf_9 : decode cX8_votesOf 9 = .ok (.laload, 1) := by decide +kernel
theorem dX8_votesOf_10 : decode cX8_votesOf 10 = .ok (.lstore_n 2, 1) := by decide +kernel
theorem dX8_votesOf_11 : decode cX8_votesOf 11 = .ok (.lload_n 2, 1) := by decide +kernel
theorem dX8_votesOf_12 : decode cX8_votesOf 12 = .ok (.lconst 0, 1) := by decide +kernel
theorem dX8_votesOf_13 : decode cX8_votesOf 13 = .ok (.lcmp, 1) := by decide +kernel
theorem dX8_votesOf_14 : decode cX8_votesOf 14 = .ok (.ifCond .ne 5, 3) := by decide +kernel
theorem dX8_votesOf_17 : decode cX8_votesOf 17 = .ok (.lconst 0, 1) := by decide +kernel
theorem dX8_votesOf_18 : decode cX8_votesOf 18 = .ok (.lreturn, 1) := by decide +kernel
theorem dX8_votesOf_19 : decode cX8_votesOf 19 = .ok (.aload_n 0, 1) := by decide +kernel
theorem dX8_votesOf_20 : decode cX8_votesOf 20 = .ok (.getfield 7, 3) := by decide +kernel
theorem dX8_votesOf_23 : decode cX8_votesOf 23 = .ok (.bipush 16, 2) := by decide +kernel
theorem dX8_votesOf_25 : decode cX8_votesOf 25 = .ok (.laload, 1) := by decide +kernel
theorem dX8_votesOf_26 : decode cX8_votesOf 26 = .ok (.lconst 0, 1) := by decide +kernel
theorem dX8_votesOf_27 : decode cX8_votesOf 27 = .ok (.lcmp, 1) := by decide +kernel
theorem dX8_votesOf_28 : decode cX8_votesOf 28 = .ok (.ifCond .ne 5, 3) := by decide +kernel
theorem dX8_votesOf_31 : decode cX8_votesOf 31 = .ok (.lconst 1, 1) := by decide +kernel
theorem dX8_votesOf_32 : decode cX8_votesOf 32 = .ok (.lreturn, 1) := by decide +kernel
theorem dX8_votesOf_33 : decode cX8_votesOf 33 = .ok (.aload_n 0, 1) := by decide +kernel
theorem dX8_votesOf_34 : decode cX8_votesOf 34 = .ok (.getfield 7, 3) := by decide +kernel
theorem dX8_votesOf_37 : decode cX8_votesOf 37 = .ok (.bipush 16, 2) := by decide +kernel
theorem dX8_votesOf_39 : decode cX8_votesOf 39 = .ok (.laload, 1) := by decide +kernel
theorem dX8_votesOf_40 : decode cX8_votesOf 40 = .ok (.lconst 1, 1) := by decide +kernel
theorem dX8_votesOf_41 : decode cX8_votesOf 41 = .ok (.lcmp, 1) := by decide +kernel
theorem dX8_votesOf_42 : decode cX8_votesOf 42 = .ok (.ifCond .ne 5, 3) := by decide +kernel
theorem dX8_votesOf_45 : decode cX8_votesOf 45 = .ok (.lload_n 2, 1) := by decide +kernel
theorem dX8_votesOf_46 : decode cX8_votesOf 46 = .ok (.lreturn, 1) := by decide +kernel
theorem dX8_votesOf_47 : decode cX8_votesOf 47 = .ok (.aload_n 0, 1) := by decide +kernel
theorem dX8_votesOf_48 : decode cX8_votesOf 48 = .ok (.getfield 7, 3) := by decide +kernel
theorem dX8_votesOf_51 : decode cX8_votesOf 51 = .ok (.bipush 16, 2) := by decide +kernel
theorem dX8_votesOf_53 : decode cX8_votesOf 53 = .ok (.laload, 1) := by decide +kernel
theorem dX8_votesOf_54 : decode cX8_votesOf 54 = .ok (.ldc2_w 93, 3) := by decide +kernel
theorem dX8_votesOf_57 : decode cX8_votesOf 57 = .ok (.lcmp, 1) := by decide +kernel
theorem dX8_votesOf_58 : decode cX8_votesOf 58 = .ok (.ifCond .ne 20, 3) := by decide +kernel
theorem dX8_votesOf_61 : decode cX8_votesOf 61 = .ok (.aload_n 0, 1) := by decide +kernel
theorem dX8_votesOf_62 : decode cX8_votesOf 62 = .ok (.getfield 7, 3) := by decide +kernel
theorem dX8_votesOf_65 : decode cX8_votesOf 65 = .ok (.iload_n 1, 1) := by decide +kernel
theorem dX8_votesOf_66 : decode cX8_votesOf 66 = .ok (.iconst 1, 1) := by decide +kernel
theorem dX8_votesOf_67 : decode cX8_votesOf 67 = .ok (.invokestatic 46, 3) := by decide +kernel
theorem dX8_votesOf_70 : decode cX8_votesOf 70 = .ok (.laload, 1) := by decide +kernel
theorem dX8_votesOf_71 : decode cX8_votesOf 71 = .ok (.ldc2_w 25, 3) := by decide +kernel
theorem dX8_votesOf_74 : decode cX8_votesOf 74 = .ok (.ldiv, 1) := by decide +kernel
theorem dX8_votesOf_75 : decode cX8_votesOf 75 = .ok (.lconst 1, 1) := by decide +kernel
theorem dX8_votesOf_76 : decode cX8_votesOf 76 = .ok (.ladd, 1) := by decide +kernel
theorem dX8_votesOf_77 : decode cX8_votesOf 77 = .ok (.lreturn, 1) := by decide +kernel
theorem dX8_votesOf_78 : decode cX8_votesOf 78 = .ok (.lconst 0, 1) := by decide +kernel
theorem dX8_votesOf_79 : decode cX8_votesOf 79 = .ok (.lstore 4, 2) := by decide +kernel
theorem dX8_votesOf_81 : decode cX8_votesOf 81 = .ok (.lload 4, 2) := by decide +kernel
theorem dX8_votesOf_83 : decode cX8_votesOf 83 = .ok (.lconst 1, 1) := by decide +kernel
theorem dX8_votesOf_84 : decode cX8_votesOf 84 = .ok (.ladd, 1) := by decide +kernel
theorem dX8_votesOf_85 : decode cX8_votesOf 85 = .ok (.lload 4, 2) := by decide +kernel
theorem dX8_votesOf_87 : decode cX8_votesOf 87 = .ok (.lconst 1, 1) := by decide +kernel
theorem dX8_votesOf_88 : decode cX8_votesOf 88 = .ok (.ladd, 1) := by decide +kernel
theorem dX8_votesOf_89 : decode cX8_votesOf 89 = .ok (.lmul, 1) := by decide +kernel
theorem dX8_votesOf_90 : decode cX8_votesOf 90 = .ok (.lload_n 2, 1) := by decide +kernel
theorem dX8_votesOf_91 : decode cX8_votesOf 91 = .ok (.lcmp, 1) := by decide +kernel
theorem dX8_votesOf_92 : decode cX8_votesOf 92 = .ok (.ifCond .gt 12, 3) := by decide +kernel
theorem dX8_votesOf_95 : decode cX8_votesOf 95 = .ok (.lload 4, 2) := by decide +kernel
theorem dX8_votesOf_97 : decode cX8_votesOf 97 = .ok (.lconst 1, 1) := by decide +kernel
theorem dX8_votesOf_98 : decode cX8_votesOf 98 = .ok (.ladd, 1) := by decide +kernel
theorem dX8_votesOf_99 : decode cX8_votesOf 99 = .ok (.lstore 4, 2) := by decide +kernel
theorem dX8_votesOf_101 : decode cX8_votesOf 101 = .ok (.goto (-20), 3) := by decide +kernel
theorem dX8_votesOf_104 : decode cX8_votesOf 104 = .ok (.lload 4, 2) := by decide +kernel
theorem dX8_votesOf_106 : decode cX8_votesOf 106 = .ok (.lreturn, 1) := by decide +kernel
theorem hy_X8_votesOf : yX8_votesOf.cls ≠ "java/lang/invoke/MethodHandle" ∧ yX8_votesOf.cls ≠ "java/lang/invoke/VarHandle" ∧ (parseMethodDescriptor yX8_votesOf.desc).map (fun d => d.parameters.length) = some 1 := ⟨by decide +kernel, by decide +kernel, by decide +kernel⟩
set_option maxHeartbeats 4000000 in
set_option maxRecDepth 100000 in
theorem lp_X8_votesOf {E : zE} {l0 : Launch} {D0 : va_G} {cI0 cJ0 : ClassId} {ad : Nat → Nat → Nat} (hE : zG E l0 D0 cI0 cJ0 ad cX8_votesOf 6 RX8 1 21) (S : zM) (m : Int) (hI : Inv0 (S 7)) (h0 : 0 ≤ m ∧ m < 12) (hR : zR E (some .long) (some (.long (i64 (sp_votes (S 7) m)))) (fun X => X = S)) : ∀ (fuel : Nat) (k : Int) (hp : 0 < S 7 (19 + 3 * m)) (hr : S 7 16 = 3) (h9 : 0 ≤ k ∧ k ≤ 100) (h8 : k * k ≤ S 7 (19 + 3 * m)) (h7 : rtl (10000 - k).toNat k (S 7 (19 + 3 * m)) = sp_root (S 7 (19 + 3 * m))), (10000 - k).toNat < fuel → Z E S 81 [(4, .long (i64 k)), (2, .long (i64 (S 7 (19 + 3 * m)))), (0, .ref (ad 6 27)), (1, .int (i32 m))] [] := by
  intro fuel
  induction fuel with
  | zero => intro _ _ _ _ _ _ hz; omega
  | succ fuel ih =>
    intro k hp hr h9 h8 h7 hz
    have h67 : (6 : Nat) ≠ 7 := by decide
    have h76 : (7 : Nat) ≠ 6 := by decide
    have h68 : (6 : Nat) ≠ 8 := by decide
    have h86 : (8 : Nat) ≠ 6 := by decide
    have h78 : (7 : Nat) ≠ 8 := by decide
    have h87 : (8 : Nat) ≠ 7 := by decide
    have hA := inA hI
    unfold InvA at hA
    have hm := inM hI h0.1 h0.2
    have h6 := zx_mul (a := k + 1) (b := k + 1) (A := 101) (B := 101) (by omega) (by omega) (by omega) (by omega)
    have h5 : rtl (10000 - k).toNat k (S 7 (19 + 3 * m)) = if (k + 1) * (k + 1) ≤ S 7 (19 + 3 * m) then rtl (10000 - (k + 1)).toNat (k + 1) (S 7 (19 + 3 * m)) else k := by
      rw [show (10000 - k).toNat = (10000 - (k + 1)).toNat + 1 by omega]; rfl
    refine z_lload hE 0 rfl dX8_votesOf_81 ?_
    refine z_lconst (a := 1) hE rfl dX8_votesOf_83 ?_
    refine z_ladd hE dX8_votesOf_84 ?_
    refine z_lload hE 0 rfl dX8_votesOf_85 ?_
    refine z_lconst (a := 1) hE rfl dX8_votesOf_87 ?_
    refine z_ladd hE dX8_votesOf_88 ?_
    refine z_lmul hE dX8_votesOf_89 ?_
    refine z_lload_n hE 1 rfl rfl dX8_votesOf_90 ?_
    refine z_lcmp hE ⟨by omega, by omega⟩ ⟨by omega, by omega⟩ dX8_votesOf_91 ?_
    refine z_ifl_gt (tgt := 104) hE dX8_votesOf_92 (by decide) (fun c1 => ?_) (fun c1 => ?_)
    · refine z_lload hE 0 rfl dX8_votesOf_104 ?_
      exact z_lret hE hR dX8_votesOf_106 (congrArg (fun x => some (Value.long (i64 x))) (by unfold sp_votes; rw [if_neg (by omega), if_neg (by omega), if_neg (by omega), if_pos hr, ← h7, h5, if_neg (by omega)])) (by first | rfl | (simp only [us_id]))
    · refine z_lload hE 0 rfl dX8_votesOf_95 ?_
      refine z_lconst (a := 1) hE rfl dX8_votesOf_97 ?_
      refine z_ladd hE dX8_votesOf_98 ?_
      refine z_lstore hE (by decide) rfl dX8_votesOf_99 ?_
      refine z_goto (tgt := 81) hE (d := dX8_votesOf_101) (ht := by decide) ?_
      refine z_L (L' := [(4, .long (i64 (k + 1))), (2, .long (i64 (S 7 (19 + 3 * m)))), (0, .ref (ad 6 27)), (1, .int (i32 m))]) [0, 1, 2, 3] (by rfl) ?_
      exact ih (k + 1) hp hr (by have h4 : k + 1 ≤ 100 := by { rcases Int.lt_or_le 100 (k + 1) with q | q; · { have := Int.mul_le_mul (show (101 : Int) ≤ k + 1 by omega) (show (101 : Int) ≤ k + 1 by omega) (by omega) (by omega); omega }; · exact q }; omega) (by omega) (by rw [if_pos (by omega)] at h5; rw [← h5]; exact h7) (by omega)
set_option maxHeartbeats 4000000 in
set_option maxRecDepth 100000 in
theorem c_X8_votesOf (l0 : Launch) (D0 : va_G) (cI0 cJ0 : ClassId) (ad : Nat → Nat → Nat) (S : zM) (m : Int) (hI : Inv0 (S 7)) (h0 : 0 ≤ m ∧ m < 12) : Ct l0 D0 cI0 cJ0 ad yX8_votesOf cX8_votesOf 6 (some .long) 1 21 [.ref (ad 6 27), .int (i32 m)] S (some (.long (i64 (sp_votes (S 7) m)))) (fun X => X = S) := by
  refine Ct.of (by decide) (Nat.le_of_ble_eq_true rfl) (fun E hE hR => ?_)
  have hE : zG E l0 D0 cI0 cJ0 ad cX8_votesOf 6 RX8 1 21 := hE
  show Z E S 0 [(0, .ref (ad 6 27)), (1, .int (i32 m))] []
  have h67 : (6 : Nat) ≠ 7 := by decide
  have h76 : (7 : Nat) ≠ 6 := by decide
  have h68 : (6 : Nat) ≠ 8 := by decide
  have h86 : (8 : Nat) ≠ 6 := by decide
  have h78 : (7 : Nat) ≠ 8 := by decide
  have h87 : (8 : Nat) ≠ 7 := by decide
  have hA := inA hI
  unfold InvA at hA
  have hm := inM hI h0.1 h0.2
  refine z_aload_n hE 0 rfl rfl dX8_votesOf_0 ?_
  refine gf_8_0 hE (by decide) zf_X8_7 dX8_votesOf_1 ?_
  refine z_iload_n hE 1 rfl rfl dX8_votesOf_4 ?_
  refine z_iconst hE dX8_votesOf_5 ?_
  refine z_callS hE (c_X8_m l0 D0 cI0 cJ0 ad S m 0 (19 + 3 * m) (by omega)) zm_X8_46 zt_yX8_m zn_RX8 zc_yX8_m (hy_X8_m) (Nat.le_of_ble_eq_true rfl) (Nat.le_of_ble_eq_true rfl) rfl rfl rfl (Nat.le_of_ble_eq_true rfl) dX8_votesOf_6 ?_
  refine al_28 hE (by decide) (by omega) (by omega) dX8_votesOf_9 ?_
  refine z_lstore_n hE rfl (by decide) rfl dX8_votesOf_10 ?_
  refine z_lload_n hE 0 rfl rfl dX8_votesOf_11 ?_
  refine z_lconst (a := 0) hE rfl dX8_votesOf_12 ?_
  refine z_lcmp hE ⟨by omega, by omega⟩ ⟨by omega, by omega⟩ dX8_votesOf_13 ?_
  refine z_ifl_ne (tgt := 19) hE dX8_votesOf_14 (by decide) (fun c1 => ?_) (fun c1 => ?_)
  · refine z_aload_n hE 1 rfl rfl dX8_votesOf_19 ?_
    refine gf_8_0 hE (by decide) zf_X8_7 dX8_votesOf_20 ?_
    refine z_bipush (a := 16) hE (by decide) dX8_votesOf_23 ?_
    refine al_28 hE (by decide) (by omega) (by omega) dX8_votesOf_25 ?_
    refine z_lconst (a := 0) hE rfl dX8_votesOf_26 ?_
    refine z_lcmp hE ⟨by omega, by omega⟩ ⟨by omega, by omega⟩ dX8_votesOf_27 ?_
    refine z_ifl_ne (tgt := 33) hE dX8_votesOf_28 (by decide) (fun c2 => ?_) (fun c2 => ?_)
    · refine z_aload_n hE 1 rfl rfl dX8_votesOf_33 ?_
      refine gf_8_0 hE (by decide) zf_X8_7 dX8_votesOf_34 ?_
      refine z_bipush (a := 16) hE (by decide) dX8_votesOf_37 ?_
      refine al_28 hE (by decide) (by omega) (by omega) dX8_votesOf_39 ?_
      refine z_lconst (a := 1) hE rfl dX8_votesOf_40 ?_
      refine z_lcmp hE ⟨by omega, by omega⟩ ⟨by omega, by omega⟩ dX8_votesOf_41 ?_
      refine z_ifl_ne (tgt := 47) hE dX8_votesOf_42 (by decide) (fun c3 => ?_) (fun c3 => ?_)
      · refine z_aload_n hE 1 rfl rfl dX8_votesOf_47 ?_
        refine gf_8_0 hE (by decide) zf_X8_7 dX8_votesOf_48 ?_
        refine z_bipush (a := 16) hE (by decide) dX8_votesOf_51 ?_
        refine al_28 hE (by decide) (by omega) (by omega) dX8_votesOf_53 ?_
        refine z_ldc2 (a := 2) hE zl_X8_93 (by decide) dX8_votesOf_54 ?_
        refine z_lcmp hE ⟨by omega, by omega⟩ ⟨by omega, by omega⟩ dX8_votesOf_57 ?_
        refine z_ifl_ne (tgt := 78) hE dX8_votesOf_58 (by decide) (fun c4 => ?_) (fun c4 => ?_)
        · refine z_lconst (a := 0) hE rfl dX8_votesOf_78 ?_
          refine z_lstore hE (by decide) rfl dX8_votesOf_79 ?_
          refine z_L (L' := [(4, .long (i64 0)), (2, .long (i64 (S 7 (19 + 3 * m)))), (0, .ref (ad 6 27)), (1, .int (i32 m))]) [0, 1, 2, 3] (by rw [show S 7 (19 + 3 * m) = S 7 (((19 + 3 * m))) from by first | rfl | (omega)]; rfl) ?_
          exact lp_X8_votesOf hE S m hI h0 hR 10001 0 (by omega) (by omega) ⟨by omega, by omega⟩ (by omega) rfl (by omega)
        · refine z_aload_n hE 1 rfl rfl dX8_votesOf_61 ?_
          refine gf_8_0 hE (by decide) zf_X8_7 dX8_votesOf_62 ?_
          refine z_iload_n hE 2 rfl rfl dX8_votesOf_65 ?_
          refine z_iconst hE dX8_votesOf_66 ?_
          refine z_callS hE (c_X8_m l0 D0 cI0 cJ0 ad S m 1 (20 + 3 * m) (by omega)) zm_X8_46 zt_yX8_m zn_RX8 zc_yX8_m (hy_X8_m) (Nat.le_of_ble_eq_true rfl) (Nat.le_of_ble_eq_true rfl) rfl rfl rfl (Nat.le_of_ble_eq_true rfl) dX8_votesOf_67 ?_
          refine al_28 hE (by decide) (by omega) (by omega) dX8_votesOf_70 ?_
          refine z_ldc2 (a := 1000) hE zl_X8_25 (by decide) dX8_votesOf_71 ?_
          refine z_ldiv hE ⟨by omega, by omega⟩ ⟨by omega, by omega⟩ (by omega) dX8_votesOf_74 ?_
          rw [zx_tdiv (show 0 ≤ S 7 (((20 + 3 * m))) by omega)]
          refine z_lconst (a := 1) hE rfl dX8_votesOf_75 ?_
          refine z_ladd hE dX8_votesOf_76 ?_
          exact z_lret hE hR dX8_votesOf_77 (congrArg (fun x => some (Value.long (i64 x))) (by unfold sp_votes; first | (rw [if_pos (by omega)]; done) | (rw [if_neg (by omega), if_pos (by omega)]; done) | (rw [if_neg (by omega), if_neg (by omega), if_pos (by omega)]; done) | (rw [if_neg (by omega), if_neg (by omega), if_neg (by omega), if_pos (by omega)]; done) | (rw [if_neg (by omega), if_neg (by omega), if_neg (by omega), if_neg (by omega)]; done))) (by first | rfl | (simp only [us_id]))
      · refine z_lload_n hE 0 rfl rfl dX8_votesOf_45 ?_
        exact z_lret hE hR dX8_votesOf_46 (congrArg (fun x => some (Value.long (i64 x))) (by unfold sp_votes; first | (rw [if_pos (by omega)]; done) | (rw [if_neg (by omega), if_pos (by omega)]; done) | (rw [if_neg (by omega), if_neg (by omega), if_pos (by omega)]; done) | (rw [if_neg (by omega), if_neg (by omega), if_neg (by omega), if_pos (by omega)]; done) | (rw [if_neg (by omega), if_neg (by omega), if_neg (by omega), if_neg (by omega)]; done))) (by first | rfl | (simp only [us_id]))
    · refine z_lconst (a := 1) hE rfl dX8_votesOf_31 ?_
      exact z_lret hE hR dX8_votesOf_32 (congrArg (fun x => some (Value.long (i64 x))) (by unfold sp_votes; first | (rw [if_pos (by omega)]; done) | (rw [if_neg (by omega), if_pos (by omega)]; done) | (rw [if_neg (by omega), if_neg (by omega), if_pos (by omega)]; done) | (rw [if_neg (by omega), if_neg (by omega), if_neg (by omega), if_pos (by omega)]; done) | (rw [if_neg (by omega), if_neg (by omega), if_neg (by omega), if_neg (by omega)]; done))) (by first | rfl | (simp only [us_id]))
  · refine z_lconst (a := 0) hE rfl dX8_votesOf_17 ?_
    exact z_lret hE hR dX8_votesOf_18 (congrArg (fun x => some (Value.long (i64 x))) (by unfold sp_votes; first | (rw [if_pos (by omega)]; done) | (rw [if_neg (by omega), if_pos (by omega)]; done) | (rw [if_neg (by omega), if_neg (by omega), if_pos (by omega)]; done) | (rw [if_neg (by omega), if_neg (by omega), if_neg (by omega), if_pos (by omega)]; done) | (rw [if_neg (by omega), if_neg (by omega), if_neg (by omega), if_neg (by omega)]; done))) (by first | rfl | (simp only [us_id]))
theorem dX8_sum_0 : decode cX8_sum 0 = .ok (.lconst 0, 1) := by decide +kernel
theorem dX8_sum_1 : decode cX8_sum 1 = .ok (.lstore 4, 2) := by decide +kernel
theorem dX8_sum_3 : decode cX8_sum 3 = .ok (.iconst 0, 1) := by decide +kernel
theorem dX8_sum_4 : decode cX8_sum 4 = .ok (.istore 6, 2) := by decide +kernel
theorem dX8_sum_6 : decode cX8_sum 6 = .ok (.iload 6, 2) := by decide +kernel
theorem dX8_sum_8 : decode cX8_sum 8 = .ok (.i2l, 1) := by decide +kernel
theorem dX8_sum_9 : decode cX8_sum 9 = .ok (.aload_n 0, 1) := by decide +kernel
theorem dX8_sum_10 : decode cX8_sum 10 = .ok (.getfield 7, 3) := by decide +kernel
theorem dX8_sum_13 : decode cX8_sum 13 = .ok (.iconst 0, 1) := by decide +kernel
theorem dX8_sum_14 : decode cX8_sum 14 = .ok (.laload, 1) := by decide +kernel
theorem dX8_sum_15 : decode cX8_sum 15 = .ok (.lcmp, 1) := by decide +kernel
theorem dX8_sum_16 : decode cX8_sum 16 = .ok (.ifCond .ge 42, 3) := by decide +kernel
theorem dX8_sum_19 : decode cX8_sum 19 = .ok (.lload 4, 2) := by decide +kernel
theorem dX8_sum_21 : decode cX8_sum 21 = .ok (.aload_n 0, 1) := by decide +kernel
theorem dX8_sum_22 : decode cX8_sum 22 = .ok (.getfield 7, 3) := by decide +kernel
theorem dX8_sum_25 : decode cX8_sum 25 = .ok (.iload_n 1, 1) := by decide +kernel
theorem dX8_sum_26 : decode cX8_sum 26 = .ok (.iconst 3, 1) := by decide +kernel
theorem dX8_sum_27 : decode cX8_sum 27 = .ok (.iload 6, 2) := by decide +kernel
theorem dX8_sum_29 : decode cX8_sum 29 = .ok (.iadd, 1) := by decide +kernel
theorem dX8_sum_30 : decode cX8_sum 30 = .ok (.invokestatic 152, 3) := by decide +kernel
theorem dX8_sum_33 : decode cX8_sum 33 = .ok (.laload, 1) := by decide +kernel
theorem dX8_sum_34 : decode cX8_sum 34 = .ok (.lload_n 2, 1) := by decide +kernel
theorem dX8_sum_35 : decode cX8_sum 35 = .ok (.lcmp, 1) := by decide +kernel
theorem dX8_sum_36 : decode cX8_sum 36 = .ok (.ifCond .ne 12, 3) := by decide +kernel
theorem dX8_sum_39 : decode cX8_sum 39 = .ok (.aload_n 0, 1) := by decide +kernel
theorem dX8_sum_40 : decode cX8_sum 40 = .ok (.iload 6, 2) := by decide +kernel
theorem dX8_sum_42 : decode cX8_sum 42 = .ok (.invokevirtual 161, 3) := by decide +kernel
theorem dX8_sum_45 : decode cX8_sum 45 = .ok (.goto 4, 3) := by decide +kernel
theorem dX8_sum_48 : decode cX8_sum 48 = .ok (.lconst 0, 1) := by decide +kernel
theorem dX8_sum_49 : decode cX8_sum 49 = .ok (.ladd, 1) := by decide +kernel
theorem dX8_sum_50 : decode cX8_sum 50 = .ok (.lstore 4, 2) := by decide +kernel
theorem dX8_sum_52 : decode cX8_sum 52 = .ok (.iinc 6 1, 3) := by decide +kernel
theorem dX8_sum_55 : decode cX8_sum 55 = .ok (.goto (-49), 3) := by decide +kernel
theorem dX8_sum_58 : decode cX8_sum 58 = .ok (.lload 4, 2) := by decide +kernel
theorem dX8_sum_60 : decode cX8_sum 60 = .ok (.lreturn, 1) := by decide +kernel
theorem hy_X8_sum : yX8_sum.cls ≠ "java/lang/invoke/MethodHandle" ∧ yX8_sum.cls ≠ "java/lang/invoke/VarHandle" ∧ (parseMethodDescriptor yX8_sum.desc).map (fun d => d.parameters.length) = some 2 := ⟨by decide +kernel, by decide +kernel, by decide +kernel⟩
set_option maxHeartbeats 4000000 in
set_option maxRecDepth 100000 in
theorem lp_X8_sum {E : zE} {l0 : Launch} {D0 : va_G} {cI0 cJ0 : ClassId} {ad : Nat → Nat → Nat} (hE : zG E l0 D0 cI0 cJ0 ad cX8_sum 7 RX8 2 46) (S : zM) (q : Int) (b : Int) (hI : Inv0 (S 7)) (h0 : 0 ≤ q ∧ q < 10) (h1 : 0 ≤ b ∧ b ≤ 2) (hR : zR E (some .long) (some (.long (i64 (sp_sum (S 7) q b)))) (fun X => X = S)) : ∀ (fuel : Nat) (i : Int) (h9 : 0 ≤ i ∧ i ≤ S 7 0), (S 7 0 - i).toNat < fuel → Z E S 6 [(6, .int (i32 i)), (4, .long (i64 (sm (sp_vf (S 7) q b) i))), (0, .ref (ad 6 27)), (1, .int (i32 q)), (2, .long (i64 b))] [] := by
  intro fuel
  induction fuel with
  | zero => intro _ _ hz; omega
  | succ fuel ih =>
    intro i h9 hz
    have h67 : (6 : Nat) ≠ 7 := by decide
    have h76 : (7 : Nat) ≠ 6 := by decide
    have h68 : (6 : Nat) ≠ 8 := by decide
    have h86 : (8 : Nat) ≠ 6 := by decide
    have h78 : (7 : Nat) ≠ 8 := by decide
    have h87 : (8 : Nat) ≠ 7 := by decide
    have hA := inA hI
    unfold InvA at hA
    refine z_iload hE 0 rfl dX8_sum_6 ?_
    refine z_i2l hE ⟨by omega, by omega⟩ dX8_sum_8 ?_
    refine z_aload_n hE 2 rfl rfl dX8_sum_9 ?_
    refine gf_8_0 hE (by decide) zf_X8_7 dX8_sum_10 ?_
    refine z_iconst hE dX8_sum_13 ?_
    refine al_28 hE (by decide) (by omega) (by omega) dX8_sum_14 ?_
    refine z_lcmp hE ⟨by omega, by omega⟩ ⟨by omega, by omega⟩ dX8_sum_15 ?_
    refine z_ifl_ge (tgt := 58) hE dX8_sum_16 (by decide) (fun c1 => ?_) (fun c1 => ?_)
    · refine z_lload hE 1 rfl dX8_sum_58 ?_
      exact z_lret hE hR dX8_sum_60 (congrArg (fun x => some (Value.long (i64 x))) (by unfold sp_sum; rw [show i = S 7 0 by omega])) (by first | rfl | (simp only [us_id]))
    · have h8 := inV hI q i h0.1 h0.2 h9.1 (by omega)
      refine z_lload hE 1 rfl dX8_sum_19 ?_
      refine z_aload_n hE 2 rfl rfl dX8_sum_21 ?_
      refine gf_8_0 hE (by decide) zf_X8_7 dX8_sum_22 ?_
      refine z_iload_n hE 3 rfl rfl dX8_sum_25 ?_
      refine z_iconst hE dX8_sum_26 ?_
      refine z_iload hE 0 rfl dX8_sum_27 ?_
      refine z_iadd hE dX8_sum_29 ?_
      refine z_callS hE (c_X8_q l0 D0 cI0 cJ0 ad S q (3 + i) (498 + 15 * q + i) (by omega)) zm_X8_152 zt_yX8_q zn_RX8 zc_yX8_q (hy_X8_q) (Nat.le_of_ble_eq_true rfl) (Nat.le_of_ble_eq_true rfl) rfl rfl rfl (Nat.le_of_ble_eq_true rfl) dX8_sum_30 ?_
      refine al_28 hE (by decide) (by omega) (by omega) dX8_sum_33 ?_
      refine z_lload_n hE 4 rfl rfl dX8_sum_34 ?_
      refine z_lcmp hE ⟨by omega, by omega⟩ ⟨by omega, by omega⟩ dX8_sum_35 ?_
      refine z_ifl_ne (tgt := 48) hE dX8_sum_36 (by decide) (fun c2 => ?_) (fun c2 => ?_)
      · refine z_lconst (a := 0) hE rfl dX8_sum_48 ?_
        refine z_ladd hE dX8_sum_49 ?_
        refine z_lstore hE (by decide) rfl dX8_sum_50 ?_
        refine z_iinc hE 1 rfl (by decide) rfl dX8_sum_52 ?_
        refine z_goto (tgt := 6) hE (d := dX8_sum_55) (ht := by decide) ?_
        refine z_L (L' := [(6, .int (i32 (i + 1))), (4, .long (i64 (sm (sp_vf (S 7) q b) (i + 1)))), (0, .ref (ad 6 27)), (1, .int (i32 q)), (2, .long (i64 b))]) [0, 1, 2, 3, 4] (by rw [show sm (sp_vf (S 7) q b) (i + 1) = (sm (sp_vf (S 7) q b) i) + 0 from by first | rfl | ((rw [sm_s h9.1]; unfold sp_vf; first | rw [if_pos (by omega)] | ((rw [if_neg (by omega)]) <;> omega)))]; rfl) ?_
        exact ih (i + 1) ⟨by omega, by omega⟩ (by omega)
      · refine z_aload_n hE 2 rfl rfl dX8_sum_39 ?_
        refine z_iload hE 0 rfl dX8_sum_40 ?_
        refine z_callV hE (c_X8_votesOf l0 D0 cI0 cJ0 ad S i hI (by omega)) (by decide) rfl rfl zm_X8_161 zi_yX8_votesOf zs_yX8_votesOf zn_RX8 zc_yX8_votesOf (hy_X8_votesOf) (Nat.le_of_ble_eq_true rfl) (Nat.le_of_ble_eq_true rfl) rfl rfl rfl (Nat.le_of_ble_eq_true rfl) dX8_sum_42 ?_
        refine z_goto (tgt := 49) hE (d := dX8_sum_45) (ht := by decide) ?_
        refine z_ladd hE dX8_sum_49 ?_
        refine z_lstore hE (by decide) rfl dX8_sum_50 ?_
        refine z_iinc hE 1 rfl (by decide) rfl dX8_sum_52 ?_
        refine z_goto (tgt := 6) hE (d := dX8_sum_55) (ht := by decide) ?_
        refine z_L (L' := [(6, .int (i32 (i + 1))), (4, .long (i64 (sm (sp_vf (S 7) q b) (i + 1)))), (0, .ref (ad 6 27)), (1, .int (i32 q)), (2, .long (i64 b))]) [0, 1, 2, 3, 4] (by rw [show sm (sp_vf (S 7) q b) (i + 1) = (sm (sp_vf (S 7) q b) i) + (sp_votes ((S 7)) i) from by first | rfl | ((rw [sm_s h9.1]; unfold sp_vf; first | rw [if_pos (by omega)] | ((rw [if_neg (by omega)]) <;> omega)))]; rfl) ?_
        exact ih (i + 1) ⟨by omega, by omega⟩ (by omega)
set_option maxHeartbeats 4000000 in
set_option maxRecDepth 100000 in
theorem c_X8_sum (l0 : Launch) (D0 : va_G) (cI0 cJ0 : ClassId) (ad : Nat → Nat → Nat) (S : zM) (q : Int) (b : Int) (hI : Inv0 (S 7)) (h0 : 0 ≤ q ∧ q < 10) (h1 : 0 ≤ b ∧ b ≤ 2) : Ct l0 D0 cI0 cJ0 ad yX8_sum cX8_sum 7 (some .long) 2 46 [.ref (ad 6 27), .int (i32 q), .long (i64 b)] S (some (.long (i64 (sp_sum (S 7) q b)))) (fun X => X = S) := by
  refine Ct.of (by decide) (Nat.le_of_ble_eq_true rfl) (fun E hE hR => ?_)
  have hE : zG E l0 D0 cI0 cJ0 ad cX8_sum 7 RX8 2 46 := hE
  show Z E S 0 [(0, .ref (ad 6 27)), (1, .int (i32 q)), (2, .long (i64 b))] []
  have h67 : (6 : Nat) ≠ 7 := by decide
  have h76 : (7 : Nat) ≠ 6 := by decide
  have h68 : (6 : Nat) ≠ 8 := by decide
  have h86 : (8 : Nat) ≠ 6 := by decide
  have h78 : (7 : Nat) ≠ 8 := by decide
  have h87 : (8 : Nat) ≠ 7 := by decide
  have hA := inA hI
  unfold InvA at hA
  refine z_lconst (a := 0) hE rfl dX8_sum_0 ?_
  refine z_lstore hE (by decide) rfl dX8_sum_1 ?_
  refine z_iconst hE dX8_sum_3 ?_
  refine z_istore hE (by decide) rfl dX8_sum_4 ?_
  refine z_L (L' := [(6, .int (i32 0)), (4, .long (i64 (sm (sp_vf (S 7) q b) 0))), (0, .ref (ad 6 27)), (1, .int (i32 q)), (2, .long (i64 b))]) [0, 1, 2, 3, 4] (by rw [show sm (sp_vf (S 7) q b) 0 = 0 from by first | rfl | (exact sm_0 _)]; rfl) ?_
  exact lp_X8_sum hE S q b hI h0 h1 hR 13 0 ⟨by omega, by omega⟩ (by omega)
theorem dX8_voters_0 : decode cX8_voters 0 = .ok (.iconst 0, 1) := by decide +kernel
theorem dX8_voters_1 : decode cX8_voters 1 = .ok (.istore_n 2, 1) := by decide +kernel
theorem dX8_voters_2 : decode cX8_voters 2 = .ok (.iconst 0, 1) := by decide +kernel
theorem dX8_voters_3 : decode cX8_voters 3 = .ok (.istore_n 3, 1) := by decide +kernel
theorem dX8_voters_4 : decode cX8_voters 4 = .ok (.iload_n 3, 1) := by decide +kernel
theorem dX8_voters_5 : decode cX8_voters 5 = .ok (.bipush 12, 2) := by decide +kernel
theorem dX8_voters_7 : decode cX8_voters 7 = .ok (.if_icmp .ge 34, 3) := by decide +kernel
theorem dX8_voters_10 : decode cX8_voters 10 = .ok (.iload_n 2, 1) := by decide +kernel
theorem dX8_voters_11 : decode cX8_voters 11 = .ok (.aload_n 0, 1) := by decide +kernel
theorem dX8_voters_12 : decode cX8_voters 12 = .ok (.getfield 7, 3) := by decide +kernel
theorem dX8_voters_15 : decode cX8_voters 15 = .ok (.iload_n 1, 1) := by decide +kernel
theorem dX8_voters_16 : decode cX8_voters 16 = .ok (.iconst 3, 1) := by decide +kernel
theorem dX8_voters_17 : decode cX8_voters 17 = .ok (.iload_n 3, 1) := by decide +kernel
theorem dX8_voters_18 : decode cX8_voters 18 = .ok (.iadd, 1) := by decide +kernel
theorem dX8_voters_19 : decode cX8_voters 19 = .ok (.invokestatic 152, 3) := by decide +kernel
theorem dX8_voters_22 : decode cX8_voters 22 = .ok (.laload, 1) := by decide +kernel
theorem dX8_voters_23 : decode cX8_voters 23 = .ok (.lconst 0, 1) := by decide +kernel
theorem dX8_voters_24 : decode cX8_voters 24 = .ok (.lcmp, 1) := by decide +kernel
theorem dX8_voters_25 : decode cX8_voters 25 = .ok (.ifCond .le 7, 3) := by decide +kernel
theorem dX8_voters_28 : decode cX8_voters 28 = .ok (.iconst 1, 1) := by decide +kernel
theorem dX8_voters_29 : decode cX8_voters 29 = .ok (.goto 4, 3) := by decide +kernel
theorem dX8_voters_32 : decode cX8_voters 32 = .ok (.iconst 0, 1) := by decide +kernel
theorem dX8_voters_33 : decode cX8_voters 33 = .ok (.iadd, 1) := by decide +kernel
theorem dX8_voters_34 : decode cX8_voters 34 = .ok (.istore_n 2, 1) := by decide +kernel
theorem dX8_voters_35 : decode cX8_voters 35 = .ok (.iinc 3 1, 3) := by decide +kernel
theorem dX8_voters_38 : decode cX8_voters 38 = .ok (.goto (-34), 3) := by decide +kernel
theorem dX8_voters_41 : decode cX8_voters 41 = .ok (.iload_n 2, 1) := by decide +kernel
theorem dX8_voters_42 : decode cX8_voters 42 = .ok (.ireturn, 1) := by decide +kernel
theorem hy_X8_voters : yX8_voters.cls ≠ "java/lang/invoke/MethodHandle" ∧ yX8_voters.cls ≠ "java/lang/invoke/VarHandle" ∧ (parseMethodDescriptor yX8_voters.desc).map (fun d => d.parameters.length) = some 1 := ⟨by decide +kernel, by decide +kernel, by decide +kernel⟩
set_option maxHeartbeats 4000000 in
set_option maxRecDepth 100000 in
theorem lp_X8_voters {E : zE} {l0 : Launch} {D0 : va_G} {cI0 cJ0 : ClassId} {ad : Nat → Nat → Nat} (hE : zG E l0 D0 cI0 cJ0 ad cX8_voters 4 RX8 1 21) (S : zM) (q : Int) (h0 : 0 ≤ q ∧ q < 10) (hb : ∀ k : Int, 0 ≤ k → k < 12 → 0 ≤ S 7 (498 + 15 * q + k) ∧ S 7 (498 + 15 * q + k) ≤ 2) (hR : zR E (some .int) (some (.int (i32 (sp_cnt (S 7) q)))) (fun X => X = S)) : ∀ (fuel : Nat) (i : Int) (h9 : 0 ≤ i ∧ i ≤ 12), (12 - i).toNat < fuel → Z E S 4 [(3, .int (i32 i)), (2, .int (i32 (sm (fun k => if S 7 (498 + 15 * q + k) ≠ 0 then 1 else 0) i))), (0, .ref (ad 6 27)), (1, .int (i32 q))] [] := by
  intro fuel
  induction fuel with
  | zero => intro _ _ hz; omega
  | succ fuel ih =>
    intro i h9 hz
    refine z_iload_n hE 0 rfl rfl dX8_voters_4 ?_
    refine z_bipush (a := 12) hE (by decide) dX8_voters_5 ?_
    refine z_icmp_ge (tgt := 41) hE dX8_voters_7 (by decide) ⟨by omega, by omega⟩ ⟨by omega, by omega⟩ (fun c1 => ?_) (fun c1 => ?_)
    · refine z_iload_n hE 1 rfl rfl dX8_voters_41 ?_
      exact z_iret hE hR dX8_voters_42 (congrArg (fun x => some (Value.int (i32 x))) (by unfold sp_cnt; rw [show i = 12 by omega])) (by first | rfl | (simp only [us_id]))
    · have h8 := hb i h9.1 (by omega)
      refine z_iload_n hE 1 rfl rfl dX8_voters_10 ?_
      refine z_aload_n hE 2 rfl rfl dX8_voters_11 ?_
      refine gf_8_0 hE (by decide) zf_X8_7 dX8_voters_12 ?_
      refine z_iload_n hE 3 rfl rfl dX8_voters_15 ?_
      refine z_iconst hE dX8_voters_16 ?_
      refine z_iload_n hE 0 rfl rfl dX8_voters_17 ?_
      refine z_iadd hE dX8_voters_18 ?_
      refine z_callS hE (c_X8_q l0 D0 cI0 cJ0 ad S q (3 + i) (498 + 15 * q + i) (by omega)) zm_X8_152 zt_yX8_q zn_RX8 zc_yX8_q (hy_X8_q) (Nat.le_of_ble_eq_true rfl) (Nat.le_of_ble_eq_true rfl) rfl rfl rfl (Nat.le_of_ble_eq_true rfl) dX8_voters_19 ?_
      refine al_28 hE (by decide) (by omega) (by omega) dX8_voters_22 ?_
      refine z_lconst (a := 0) hE rfl dX8_voters_23 ?_
      refine z_lcmp hE ⟨by omega, by omega⟩ ⟨by omega, by omega⟩ dX8_voters_24 ?_
      refine z_ifl_le (tgt := 32) hE dX8_voters_25 (by decide) (fun c2 => ?_) (fun c2 => ?_)
      · refine z_iconst hE dX8_voters_32 ?_
        refine z_iadd hE dX8_voters_33 ?_
        refine z_istore_n hE rfl (by decide) rfl dX8_voters_34 ?_
        refine z_iinc hE 1 rfl (by decide) rfl dX8_voters_35 ?_
        refine z_goto (tgt := 4) hE (d := dX8_voters_38) (ht := by decide) ?_
        refine z_L (L' := [(3, .int (i32 (i + 1))), (2, .int (i32 (sm (fun k => if S 7 (498 + 15 * q + k) ≠ 0 then 1 else 0) (i + 1)))), (0, .ref (ad 6 27)), (1, .int (i32 q))]) [0, 1, 2, 3] (by rw [show sm (fun k => if S 7 (498 + 15 * q + k) ≠ 0 then 1 else 0) (i + 1) = (sm (fun k => if S 7 (498 + 15 * q + k) ≠ 0 then 1 else 0) i) + 0 from by first | rfl | ((rw [sm_s h9.1]; first | rw [if_pos (by omega)] | (rw [if_neg (by omega)])))]; rfl) ?_
        exact ih (i + 1) ⟨by omega, by omega⟩ (by omega)
      · refine z_iconst hE dX8_voters_28 ?_
        refine z_goto (tgt := 33) hE (d := dX8_voters_29) (ht := by decide) ?_
        refine z_iadd hE dX8_voters_33 ?_
        refine z_istore_n hE rfl (by decide) rfl dX8_voters_34 ?_
        refine z_iinc hE 1 rfl (by decide) rfl dX8_voters_35 ?_
        refine z_goto (tgt := 4) hE (d := dX8_voters_38) (ht := by decide) ?_
        refine z_L (L' := [(3, .int (i32 (i + 1))), (2, .int (i32 (sm (fun k => if S 7 (498 + 15 * q + k) ≠ 0 then 1 else 0) (i + 1)))), (0, .ref (ad 6 27)), (1, .int (i32 q))]) [0, 1, 2, 3] (by rw [show sm (fun k => if S 7 (498 + 15 * q + k) ≠ 0 then 1 else 0) (i + 1) = (sm (fun k => if S 7 (498 + 15 * q + k) ≠ 0 then 1 else 0) i) + 1 from by first | rfl | ((rw [sm_s h9.1]; first | rw [if_pos (by omega)] | (rw [if_neg (by omega)])))]; rfl) ?_
        exact ih (i + 1) ⟨by omega, by omega⟩ (by omega)
set_option maxHeartbeats 4000000 in
set_option maxRecDepth 100000 in
theorem c_X8_voters (l0 : Launch) (D0 : va_G) (cI0 cJ0 : ClassId) (ad : Nat → Nat → Nat) (S : zM) (q : Int) (h0 : 0 ≤ q ∧ q < 10) (hb : ∀ k : Int, 0 ≤ k → k < 12 → 0 ≤ S 7 (498 + 15 * q + k) ∧ S 7 (498 + 15 * q + k) ≤ 2) : Ct l0 D0 cI0 cJ0 ad yX8_voters cX8_voters 4 (some .int) 1 21 [.ref (ad 6 27), .int (i32 q)] S (some (.int (i32 (sp_cnt (S 7) q)))) (fun X => X = S) := by
  refine Ct.of (by decide) (Nat.le_of_ble_eq_true rfl) (fun E hE hR => ?_)
  have hE : zG E l0 D0 cI0 cJ0 ad cX8_voters 4 RX8 1 21 := hE
  show Z E S 0 [(0, .ref (ad 6 27)), (1, .int (i32 q))] []
  have h67 : (6 : Nat) ≠ 7 := by decide
  have h76 : (7 : Nat) ≠ 6 := by decide
  have h68 : (6 : Nat) ≠ 8 := by decide
  have h86 : (8 : Nat) ≠ 6 := by decide
  have h78 : (7 : Nat) ≠ 8 := by decide
  have h87 : (8 : Nat) ≠ 7 := by decide
  refine z_iconst hE dX8_voters_0 ?_
  refine z_istore_n hE rfl (by decide) rfl dX8_voters_1 ?_
  refine z_iconst hE dX8_voters_2 ?_
  refine z_istore_n hE rfl (by decide) rfl dX8_voters_3 ?_
  refine z_L (L' := [(3, .int (i32 0)), (2, .int (i32 (sm (fun k => if S 7 (498 + 15 * q + k) ≠ 0 then 1 else 0) 0))), (0, .ref (ad 6 27)), (1, .int (i32 q))]) [0, 1, 2, 3] (by rw [show sm (fun k => if S 7 (498 + 15 * q + k) ≠ 0 then 1 else 0) 0 = 0 from by first | rfl | (exact sm_0 _)]; rfl) ?_
  exact lp_X8_voters hE S q h0 hb hR 13 0 ⟨by omega, by omega⟩ (by omega)
theorem dX8_claims_0 : decode cX8_claims 0 = .ok (.iconst 0, 1) := by decide +kernel
theorem dX8_claims_1 : decode cX8_claims 1 = .ok (.istore_n 2, 1) := by decide +kernel
theorem dX8_claims_2 : decode cX8_claims 2 = .ok (.iconst 0, 1) := by decide +kernel
theorem dX8_claims_3 : decode cX8_claims 3 = .ok (.istore_n 3, 1) := by decide +kernel
theorem dX8_claims_4 : decode cX8_claims 4 = .ok (.iload_n 3, 1) := by decide +kernel
theorem dX8_claims_5 : decode cX8_claims 5 = .ok (.bipush 12, 2) := by decide +kernel
theorem dX8_claims_7 : decode cX8_claims 7 = .ok (.if_icmp .ge 26, 3) := by decide +kernel
theorem dX8_claims_10 : decode cX8_claims 10 = .ok (.iload_n 2, 1) := by decide +kernel
theorem dX8_claims_11 : decode cX8_claims 11 = .ok (.aload_n 0, 1) := by decide +kernel
theorem dX8_claims_12 : decode cX8_claims 12 = .ok (.getfield 7, 3) := by decide +kernel
theorem dX8_claims_15 : decode cX8_claims 15 = .ok (.iload_n 1, 1) := by decide +kernel
theorem dX8_claims_16 : decode cX8_claims 16 = .ok (.bipush 10, 2) := by decide +kernel
theorem dX8_claims_18 : decode cX8_claims 18 = .ok (.iload_n 3, 1) := by decide +kernel
theorem dX8_claims_19 : decode cX8_claims 19 = .ok (.iadd, 1) := by decide +kernel
theorem dX8_claims_20 : decode cX8_claims 20 = .ok (.invokestatic 54, 3) := by decide +kernel
theorem dX8_claims_23 : decode cX8_claims 23 = .ok (.laload, 1) := by decide +kernel
theorem dX8_claims_24 : decode cX8_claims 24 = .ok (.l2i, 1) := by decide +kernel
theorem dX8_claims_25 : decode cX8_claims 25 = .ok (.iadd, 1) := by decide +kernel
theorem dX8_claims_26 : decode cX8_claims 26 = .ok (.istore_n 2, 1) := by decide +kernel
theorem dX8_claims_27 : decode cX8_claims 27 = .ok (.iinc 3 1, 3) := by decide +kernel
theorem dX8_claims_30 : decode cX8_claims 30 = .ok (.goto (-26), 3) := by decide +kernel
theorem dX8_claims_33 : decode cX8_claims 33 = .ok (.iload_n 2, 1) := by decide +kernel
theorem dX8_claims_34 : decode cX8_claims 34 = .ok (.ireturn, 1) := by decide +kernel
theorem hy_X8_claims : yX8_claims.cls ≠ "java/lang/invoke/MethodHandle" ∧ yX8_claims.cls ≠ "java/lang/invoke/VarHandle" ∧ (parseMethodDescriptor yX8_claims.desc).map (fun d => d.parameters.length) = some 1 := ⟨by decide +kernel, by decide +kernel, by decide +kernel⟩
set_option maxHeartbeats 4000000 in
set_option maxRecDepth 100000 in
theorem lp_X8_claims {E : zE} {l0 : Launch} {D0 : va_G} {cI0 cJ0 : ClassId} {ad : Nat → Nat → Nat} (hE : zG E l0 D0 cI0 cJ0 ad cX8_claims 4 RX8 1 21) (S : zM) (o : Int) (h0 : 0 ≤ o ∧ o < 20) (hR : zR E (some .int) (some (.int (i32 (sm (fun k => S 7 (65 + 22 * o + k)) 12)))) (fun X => X = S)) : ∀ (fuel : Nat) (i : Int) (h9 : 0 ≤ i ∧ i ≤ 12), (12 - i).toNat < fuel → Z E S 4 [(3, .int (i32 i)), (2, .int (i32 (sm (fun k => S 7 (65 + 22 * o + k)) i))), (0, .ref (ad 6 27)), (1, .int (i32 o))] [] := by
  intro fuel
  induction fuel with
  | zero => intro _ _ hz; omega
  | succ fuel ih =>
    intro i h9 hz
    refine z_iload_n hE 0 rfl rfl dX8_claims_4 ?_
    refine z_bipush (a := 12) hE (by decide) dX8_claims_5 ?_
    refine z_icmp_ge (tgt := 33) hE dX8_claims_7 (by decide) ⟨by omega, by omega⟩ ⟨by omega, by omega⟩ (fun c1 => ?_) (fun c1 => ?_)
    · refine z_iload_n hE 1 rfl rfl dX8_claims_33 ?_
      exact z_iret hE hR dX8_claims_34 (congrArg (fun x => some (Value.int (i32 x))) (by rw [show i = 12 by omega])) (by first | rfl | (simp only [us_id]))
    · refine z_iload_n hE 1 rfl rfl dX8_claims_10 ?_
      refine z_aload_n hE 2 rfl rfl dX8_claims_11 ?_
      refine gf_8_0 hE (by decide) zf_X8_7 dX8_claims_12 ?_
      refine z_iload_n hE 3 rfl rfl dX8_claims_15 ?_
      refine z_bipush (a := 10) hE (by decide) dX8_claims_16 ?_
      refine z_iload_n hE 0 rfl rfl dX8_claims_18 ?_
      refine z_iadd hE dX8_claims_19 ?_
      refine z_callS hE (c_X8_o l0 D0 cI0 cJ0 ad S o (10 + i) (65 + 22 * o + i) (by omega)) zm_X8_54 zt_yX8_o zn_RX8 zc_yX8_o (hy_X8_o) (Nat.le_of_ble_eq_true rfl) (Nat.le_of_ble_eq_true rfl) rfl rfl rfl (Nat.le_of_ble_eq_true rfl) dX8_claims_20 ?_
      refine al_28 hE (by decide) (by omega) (by omega) dX8_claims_23 ?_
      refine z_l2i hE dX8_claims_24 ?_
      refine z_iadd hE dX8_claims_25 ?_
      refine z_istore_n hE rfl (by decide) rfl dX8_claims_26 ?_
      refine z_iinc hE 1 rfl (by decide) rfl dX8_claims_27 ?_
      refine z_goto (tgt := 4) hE (d := dX8_claims_30) (ht := by decide) ?_
      refine z_L (L' := [(3, .int (i32 (i + 1))), (2, .int (i32 (sm (fun k => S 7 (65 + 22 * o + k)) (i + 1)))), (0, .ref (ad 6 27)), (1, .int (i32 o))]) [0, 1, 2, 3] (by rw [show sm (fun k => S 7 (65 + 22 * o + k)) (i + 1) = (sm (fun k => S 7 (65 + 22 * o + k)) i) + (S 7 (((65 + 22 * o + i)))) from by first | rfl | (exact sm_s h9.1)]; rfl) ?_
      exact ih (i + 1) ⟨by omega, by omega⟩ (by omega)
set_option maxHeartbeats 4000000 in
set_option maxRecDepth 100000 in
theorem c_X8_claims (l0 : Launch) (D0 : va_G) (cI0 cJ0 : ClassId) (ad : Nat → Nat → Nat) (S : zM) (o : Int) (h0 : 0 ≤ o ∧ o < 20) : Ct l0 D0 cI0 cJ0 ad yX8_claims cX8_claims 4 (some .int) 1 21 [.ref (ad 6 27), .int (i32 o)] S (some (.int (i32 (sm (fun k => S 7 (65 + 22 * o + k)) 12)))) (fun X => X = S) := by
  refine Ct.of (by decide) (Nat.le_of_ble_eq_true rfl) (fun E hE hR => ?_)
  have hE : zG E l0 D0 cI0 cJ0 ad cX8_claims 4 RX8 1 21 := hE
  show Z E S 0 [(0, .ref (ad 6 27)), (1, .int (i32 o))] []
  have h67 : (6 : Nat) ≠ 7 := by decide
  have h76 : (7 : Nat) ≠ 6 := by decide
  have h68 : (6 : Nat) ≠ 8 := by decide
  have h86 : (8 : Nat) ≠ 6 := by decide
  have h78 : (7 : Nat) ≠ 8 := by decide
  have h87 : (8 : Nat) ≠ 7 := by decide
  refine z_iconst hE dX8_claims_0 ?_
  refine z_istore_n hE rfl (by decide) rfl dX8_claims_1 ?_
  refine z_iconst hE dX8_claims_2 ?_
  refine z_istore_n hE rfl (by decide) rfl dX8_claims_3 ?_
  refine z_L (L' := [(3, .int (i32 0)), (2, .int (i32 (sm (fun k => S 7 (65 + 22 * o + k)) 0))), (0, .ref (ad 6 27)), (1, .int (i32 o))]) [0, 1, 2, 3] (by rw [show sm (fun k => S 7 (65 + 22 * o + k)) 0 = 0 from by first | rfl | (exact sm_0 _)]; rfl) ?_
  exact lp_X8_claims hE S o h0 hR 13 0 ⟨by omega, by omega⟩ (by omega)
theorem dX8_canClaim_0 : decode cX8_canClaim 0 = .ok (.aload_n 0, 1) := by decide +kernel
theorem dX8_canClaim_1 : decode cX8_canClaim 1 = .ok (.getfield 7, 3) := by decide +kernel
theorem dX8_canClaim_4 : decode cX8_canClaim 4 = .ok (.iload_n 1, 1) := by decide +kernel
theorem dX8_canClaim_5 : decode cX8_canClaim 5 = .ok (.iconst 4, 1) := by decide +kernel
theorem dX8_canClaim_6 : decode cX8_canClaim 6 = .ok (.invokestatic 54, 3) := by decide +kernel
theorem dX8_canClaim_9 : decode cX8_canClaim 9 = .ok (.laload, 1) := by decide +kernel
theorem dX8_canClaim_10 : decode cX8_canClaim 10 = .ok (.lstore_n 3, 1) := by decide +kernel
theorem dX8_canClaim_11 : decode cX8_canClaim 11 = .ok (.aload_n 0, 1) := by decide +kernel
theorem dX8_canClaim_12 : decode cX8_canClaim 12 = .ok (.getfield 7, 3) := by decide +kernel
theorem dX8_canClaim_15 : decode cX8_canClaim 15 = .ok (.iload_n 2, 1) := by decide +kernel
theorem dX8_canClaim_16 : decode cX8_canClaim 16 = .ok (.iconst 0, 1) := by decide +kernel
theorem dX8_canClaim_17 : decode cX8_canClaim 17 = .ok (.invokestatic 46, 3) := by decide +kernel
theorem dX8_canClaim_20 : decode cX8_canClaim 20 = .ok (.laload, 1) := by decide +kernel
theorem dX8_canClaim_21 : decode cX8_canClaim 21 = .ok (.aload_n 0, 1) := by decide +kernel
theorem dX8_canClaim_22 : decode cX8_canClaim 22 = .ok (.iload_n 2, 1) := by decide +kernel
theorem dX8_canClaim_23 : decode cX8_canClaim 23 = .ok (.invokevirtual 50, 3) := by decide +kernel
theorem dX8_canClaim_26 : decode cX8_canClaim 26 = .ok (.lcmp, 1) := by decide +kernel
theorem dX8_canClaim_27 : decode cX8_canClaim 27 = .ok (.ifCond .ge 7, 3) := by decide +kernel
theorem dX8_canClaim_30 : decode cX8_canClaim 30 = .ok (.iconst 1, 1) := by decide +kernel
theorem dX8_canClaim_31 : decode cX8_canClaim 31 = .ok (.goto 4, 3) := by decide +kernel
theorem dX8_canClaim_34 : decode cX8_canClaim 34 = .ok (.iconst 0, 1) := by decide +kernel
theorem dX8_canClaim_35 : decode cX8_canClaim 35 = .ok (.istore 5, 2) := by decide +kernel
theorem dX8_canClaim_37 : decode cX8_canClaim 37 = .ok (.lload_n 3, 1) := by decide +kernel
theorem dX8_canClaim_38 : decode cX8_canClaim 38 = .ok (.ldc2_w 93, 3) := by decide +kernel
theorem dX8_canClaim_41 : decode cX8_canClaim 41 = .ok (.lcmp, 1) := by decide +kernel
theorem dX8_canClaim_42 : decode cX8_canClaim 42 = .ok (.ifCond .ge 34, 3) := by decide +kernel
theorem dX8_canClaim_45 : decode cX8_canClaim 45 = .ok (.aload_n 0, 1) := by decide +kernel
theorem dX8_canClaim_46 : decode cX8_canClaim 46 = .ok (.getfield 7, 3) := by decide +kernel
theorem dX8_canClaim_49 : decode cX8_canClaim 49 = .ok (.iload_n 1, 1) := by decide +kernel
theorem dX8_canClaim_50 : decode cX8_canClaim 50 = .ok (.iconst 0, 1) := by decide +kernel
theorem dX8_canClaim_51 : decode cX8_canClaim 51 = .ok (.invokestatic 54, 3) := by decide +kernel
theorem dX8_canClaim_54 : decode cX8_canClaim 54 = .ok (.laload, 1) := by decide +kernel
theorem dX8_canClaim_55 : decode cX8_canClaim 55 = .ok (.iload_n 2, 1) := by decide +kernel
theorem dX8_canClaim_56 : decode cX8_canClaim 56 = .ok (.i2l, 1) := by decide +kernel
theorem dX8_canClaim_57 : decode cX8_canClaim 57 = .ok (.lcmp, 1) := by decide +kernel
theorem dX8_canClaim_58 : decode cX8_canClaim 58 = .ok (.ifCond .eq 18, 3) := by decide +kernel
theorem dX8_canClaim_61 : decode cX8_canClaim 61 = .ok (.lload_n 3, 1) := by decide +kernel
theorem dX8_canClaim_62 : decode cX8_canClaim 62 = .ok (.lconst 1, 1) := by decide +kernel
theorem dX8_canClaim_63 : decode cX8_canClaim 63 = .ok (.lcmp, 1) := by decide +kernel
theorem dX8_canClaim_64 : decode cX8_canClaim 64 = .ok (.ifCond .eq 8, 3) := by decide +kernel
theorem dX8_canClaim_67 : decode cX8_canClaim 67 = .ok (.iload 5, 2) := by decide +kernel
theorem dX8_canClaim_69 : decode cX8_canClaim 69 = .ok (.ifCond .eq 7, 3) := by decide +kernel
theorem dX8_canClaim_72 : decode cX8_canClaim 72 = .ok (.iconst 1, 1) := by decide +kernel
theorem dX8_canClaim_73 : decode cX8_canClaim 73 = .ok (.goto 4, 3) := by decide +kernel
theorem dX8_canClaim_76 : decode cX8_canClaim 76 = .ok (.iconst 0, 1) := by decide +kernel
theorem dX8_canClaim_77 : decode cX8_canClaim 77 = .ok (.ireturn, 1) := by decide +kernel
theorem hy_X8_canClaim : yX8_canClaim.cls ≠ "java/lang/invoke/MethodHandle" ∧ yX8_canClaim.cls ≠ "java/lang/invoke/VarHandle" ∧ (parseMethodDescriptor yX8_canClaim.desc).map (fun d => d.parameters.length) = some 2 := ⟨by decide +kernel, by decide +kernel, by decide +kernel⟩
set_option maxHeartbeats 4000000 in
set_option maxRecDepth 100000 in
theorem c_X8_canClaim (l0 : Launch) (D0 : va_G) (cI0 cJ0 : ClassId) (ad : Nat → Nat → Nat) (S : zM) (o : Int) (m : Int) (hI : Inv0 (S 7)) (h1 : 0 ≤ o ∧ o < S 7 14) (h0 : 0 ≤ m ∧ m < 12) : Ct l0 D0 cI0 cJ0 ad yX8_canClaim cX8_canClaim 6 (some .boolean) 2 42 [.ref (ad 6 27), .int (i32 o), .int (i32 m)] S (some (.int (i32 (zbo (sp_can (S 7) o m))))) (fun X => X = S) := by
  refine Ct.of (by decide) (Nat.le_of_ble_eq_true rfl) (fun E hE hR => ?_)
  have hE : zG E l0 D0 cI0 cJ0 ad cX8_canClaim 6 RX8 2 42 := hE
  show Z E S 0 [(0, .ref (ad 6 27)), (1, .int (i32 o)), (2, .int (i32 m))] []
  have h67 : (6 : Nat) ≠ 7 := by decide
  have h76 : (7 : Nat) ≠ 6 := by decide
  have h68 : (6 : Nat) ≠ 8 := by decide
  have h86 : (8 : Nat) ≠ 6 := by decide
  have h78 : (7 : Nat) ≠ 8 := by decide
  have h87 : (8 : Nat) ≠ 7 := by decide
  have hA := inA hI
  unfold InvA at hA
  have hm := inM hI h0.1 h0.2
  have ho := inO hI o h1.1 h1.2
  have h3 := req_b hI h0.1 h0.2
  refine z_aload_n hE 0 rfl rfl dX8_canClaim_0 ?_
  refine gf_8_0 hE (by decide) zf_X8_7 dX8_canClaim_1 ?_
  refine z_iload_n hE 1 rfl rfl dX8_canClaim_4 ?_
  refine z_iconst hE dX8_canClaim_5 ?_
  refine z_callS hE (c_X8_o l0 D0 cI0 cJ0 ad S o 4 (59 + 22 * o) (by omega)) zm_X8_54 zt_yX8_o zn_RX8 zc_yX8_o (hy_X8_o) (Nat.le_of_ble_eq_true rfl) (Nat.le_of_ble_eq_true rfl) rfl rfl rfl (Nat.le_of_ble_eq_true rfl) dX8_canClaim_6 ?_
  refine al_28 hE (by decide) (by omega) (by omega) dX8_canClaim_9 ?_
  refine z_lstore_n hE rfl (by decide) rfl dX8_canClaim_10 ?_
  refine z_aload_n hE 1 rfl rfl dX8_canClaim_11 ?_
  refine gf_8_0 hE (by decide) zf_X8_7 dX8_canClaim_12 ?_
  refine z_iload_n hE 3 rfl rfl dX8_canClaim_15 ?_
  refine z_iconst hE dX8_canClaim_16 ?_
  refine z_callS hE (c_X8_m l0 D0 cI0 cJ0 ad S m 0 (19 + 3 * m) (by omega)) zm_X8_46 zt_yX8_m zn_RX8 zc_yX8_m (hy_X8_m) (Nat.le_of_ble_eq_true rfl) (Nat.le_of_ble_eq_true rfl) rfl rfl rfl (Nat.le_of_ble_eq_true rfl) dX8_canClaim_17 ?_
  refine al_28 hE (by decide) (by omega) (by omega) dX8_canClaim_20 ?_
  refine z_aload_n hE 1 rfl rfl dX8_canClaim_21 ?_
  refine z_iload_n hE 3 rfl rfl dX8_canClaim_22 ?_
  refine z_callV hE (c_X8_requirementOf l0 D0 cI0 cJ0 ad S m hI (by omega)) (by decide) rfl rfl zm_X8_50 zi_yX8_requirementOf zs_yX8_requirementOf zn_RX8 zc_yX8_requirementOf (hy_X8_requirementOf) (Nat.le_of_ble_eq_true rfl) (Nat.le_of_ble_eq_true rfl) rfl rfl rfl (Nat.le_of_ble_eq_true rfl) dX8_canClaim_23 ?_
  refine z_lcmp hE ⟨by omega, by omega⟩ ⟨by omega, by omega⟩ dX8_canClaim_26 ?_
  refine z_ifl_ge (tgt := 34) hE dX8_canClaim_27 (by decide) (fun c1 => ?_) (fun c1 => ?_)
  · refine z_iconst hE dX8_canClaim_34 ?_
    refine z_istore hE (by decide) rfl dX8_canClaim_35 ?_
    refine z_lload_n hE 1 rfl rfl dX8_canClaim_37 ?_
    refine z_ldc2 (a := 2) hE zl_X8_93 (by decide) dX8_canClaim_38 ?_
    refine z_lcmp hE ⟨by omega, by omega⟩ ⟨by omega, by omega⟩ dX8_canClaim_41 ?_
    refine z_ifl_ge (tgt := 76) hE dX8_canClaim_42 (by decide) (fun c2 => ?_) (fun c2 => ?_)
    · refine z_iconst hE dX8_canClaim_76 ?_
      exact z_zret hE hR dX8_canClaim_77 (by decide) (congrArg (fun x => some (Value.int (i32 x))) (by first | exact (zbo_t (by omega)).symm | exact (zbo_f (by omega)).symm | exact zbo_t (by omega) | exact zbo_f (by omega))) (by first | rfl | (simp only [us_id]))
    · refine z_aload_n hE 2 rfl rfl dX8_canClaim_45 ?_
      refine gf_8_0 hE (by decide) zf_X8_7 dX8_canClaim_46 ?_
      refine z_iload_n hE 3 rfl rfl dX8_canClaim_49 ?_
      refine z_iconst hE dX8_canClaim_50 ?_
      refine z_callS hE (c_X8_o l0 D0 cI0 cJ0 ad S o 0 (55 + 22 * o) (by omega)) zm_X8_54 zt_yX8_o zn_RX8 zc_yX8_o (hy_X8_o) (Nat.le_of_ble_eq_true rfl) (Nat.le_of_ble_eq_true rfl) rfl rfl rfl (Nat.le_of_ble_eq_true rfl) dX8_canClaim_51 ?_
      refine al_28 hE (by decide) (by omega) (by omega) dX8_canClaim_54 ?_
      refine z_iload_n hE 4 rfl rfl dX8_canClaim_55 ?_
      refine z_i2l hE ⟨by omega, by omega⟩ dX8_canClaim_56 ?_
      refine z_lcmp hE ⟨by omega, by omega⟩ ⟨by omega, by omega⟩ dX8_canClaim_57 ?_
      refine z_ifl_eq (tgt := 76) hE dX8_canClaim_58 (by decide) (fun c3 => ?_) (fun c3 => ?_)
      · refine z_iconst hE dX8_canClaim_76 ?_
        exact z_zret hE hR dX8_canClaim_77 (by decide) (congrArg (fun x => some (Value.int (i32 x))) (by first | exact (zbo_t (by omega)).symm | exact (zbo_f (by omega)).symm | exact zbo_t (by omega) | exact zbo_f (by omega))) (by first | rfl | (simp only [us_id]))
      · refine z_lload_n hE 1 rfl rfl dX8_canClaim_61 ?_
        refine z_lconst (a := 1) hE rfl dX8_canClaim_62 ?_
        refine z_lcmp hE ⟨by omega, by omega⟩ ⟨by omega, by omega⟩ dX8_canClaim_63 ?_
        refine z_ifl_eq (tgt := 72) hE dX8_canClaim_64 (by decide) (fun c4 => ?_) (fun c4 => ?_)
        · refine z_iconst hE dX8_canClaim_72 ?_
          refine z_goto (tgt := 77) hE (d := dX8_canClaim_73) (ht := by decide) ?_
          exact z_zret hE hR dX8_canClaim_77 (by decide) (congrArg (fun x => some (Value.int (i32 x))) (by first | exact (zbo_t (by omega)).symm | exact (zbo_f (by omega)).symm | exact zbo_t (by omega) | exact zbo_f (by omega))) (by first | rfl | (simp only [us_id]))
        · refine z_iload hE 0 rfl dX8_canClaim_67 ?_
          refine z_if_eq (tgt := 76) hE dX8_canClaim_69 (by decide) ⟨by omega, by omega⟩ (fun c5 => ?_) (fun c5 => absurd (by decide) c5)
          refine z_iconst hE dX8_canClaim_76 ?_
          exact z_zret hE hR dX8_canClaim_77 (by decide) (congrArg (fun x => some (Value.int (i32 x))) (by first | exact (zbo_t (by omega)).symm | exact (zbo_f (by omega)).symm | exact zbo_t (by omega) | exact zbo_f (by omega))) (by first | rfl | (simp only [us_id]))
  · refine z_iconst hE dX8_canClaim_30 ?_
    refine z_goto (tgt := 35) hE (d := dX8_canClaim_31) (ht := by decide) ?_
    refine z_istore hE (by decide) rfl dX8_canClaim_35 ?_
    refine z_lload_n hE 1 rfl rfl dX8_canClaim_37 ?_
    refine z_ldc2 (a := 2) hE zl_X8_93 (by decide) dX8_canClaim_38 ?_
    refine z_lcmp hE ⟨by omega, by omega⟩ ⟨by omega, by omega⟩ dX8_canClaim_41 ?_
    refine z_ifl_ge (tgt := 76) hE dX8_canClaim_42 (by decide) (fun c6 => ?_) (fun c6 => ?_)
    · refine z_iconst hE dX8_canClaim_76 ?_
      exact z_zret hE hR dX8_canClaim_77 (by decide) (congrArg (fun x => some (Value.int (i32 x))) (by first | exact (zbo_t (by omega)).symm | exact (zbo_f (by omega)).symm | exact zbo_t (by omega) | exact zbo_f (by omega))) (by first | rfl | (simp only [us_id]))
    · refine z_aload_n hE 2 rfl rfl dX8_canClaim_45 ?_
      refine gf_8_0 hE (by decide) zf_X8_7 dX8_canClaim_46 ?_
      refine z_iload_n hE 3 rfl rfl dX8_canClaim_49 ?_
      refine z_iconst hE dX8_canClaim_50 ?_
      refine z_callS hE (c_X8_o l0 D0 cI0 cJ0 ad S o 0 (55 + 22 * o) (by omega)) zm_X8_54 zt_yX8_o zn_RX8 zc_yX8_o (hy_X8_o) (Nat.le_of_ble_eq_true rfl) (Nat.le_of_ble_eq_true rfl) rfl rfl rfl (Nat.le_of_ble_eq_true rfl) dX8_canClaim_51 ?_
      refine al_28 hE (by decide) (by omega) (by omega) dX8_canClaim_54 ?_
      refine z_iload_n hE 4 rfl rfl dX8_canClaim_55 ?_
      refine z_i2l hE ⟨by omega, by omega⟩ dX8_canClaim_56 ?_
      refine z_lcmp hE ⟨by omega, by omega⟩ ⟨by omega, by omega⟩ dX8_canClaim_57 ?_
      refine z_ifl_eq (tgt := 76) hE dX8_canClaim_58 (by decide) (fun c7 => ?_) (fun c7 => ?_)
      · refine z_iconst hE dX8_canClaim_76 ?_
        exact z_zret hE hR dX8_canClaim_77 (by decide) (congrArg (fun x => some (Value.int (i32 x))) (by first | exact (zbo_t (by omega)).symm | exact (zbo_f (by omega)).symm | exact zbo_t (by omega) | exact zbo_f (by omega))) (by first | rfl | (simp only [us_id]))
      · refine z_lload_n hE 1 rfl rfl dX8_canClaim_61 ?_
        refine z_lconst (a := 1) hE rfl dX8_canClaim_62 ?_
        refine z_lcmp hE ⟨by omega, by omega⟩ ⟨by omega, by omega⟩ dX8_canClaim_63 ?_
        refine z_ifl_eq (tgt := 72) hE dX8_canClaim_64 (by decide) (fun c8 => ?_) (fun c8 => ?_)
        · refine z_iconst hE dX8_canClaim_72 ?_
          refine z_goto (tgt := 77) hE (d := dX8_canClaim_73) (ht := by decide) ?_
          exact z_zret hE hR dX8_canClaim_77 (by decide) (congrArg (fun x => some (Value.int (i32 x))) (by first | exact (zbo_t (by omega)).symm | exact (zbo_f (by omega)).symm | exact zbo_t (by omega) | exact zbo_f (by omega))) (by first | rfl | (simp only [us_id]))
        · refine z_iload hE 0 rfl dX8_canClaim_67 ?_
          refine z_if_eq (tgt := 76) hE dX8_canClaim_69 (by decide) ⟨by omega, by omega⟩ (fun c9 => absurd c9 (by decide)) (fun c9 => ?_)
          refine z_iconst hE dX8_canClaim_72 ?_
          refine z_goto (tgt := 77) hE (d := dX8_canClaim_73) (ht := by decide) ?_
          exact z_zret hE hR dX8_canClaim_77 (by decide) (congrArg (fun x => some (Value.int (i32 x))) (by first | exact (zbo_t (by omega)).symm | exact (zbo_f (by omega)).symm | exact zbo_t (by omega) | exact zbo_f (by omega))) (by first | rfl | (simp only [us_id]))
theorem dX8_mean_0 : decode cX8_mean 0 = .ok (.lconst 0, 1) := by decide +kernel
theorem dX8_mean_1 : decode cX8_mean 1 = .ok (.lstore_n 1, 1) := by decide +kernel
theorem dX8_mean_2 : decode cX8_mean 2 = .ok (.iconst 0, 1) := by decide +kernel
theorem dX8_mean_3 : decode cX8_mean 3 = .ok (.istore_n 3, 1) := by decide +kernel
theorem dX8_mean_4 : decode cX8_mean 4 = .ok (.iload_n 3, 1) := by decide +kernel
theorem dX8_mean_5 : decode cX8_mean 5 = .ok (.i2l, 1) := by decide +kernel
theorem dX8_mean_6 : decode cX8_mean 6 = .ok (.aload_n 0, 1) := by decide +kernel
theorem dX8_mean_7 : decode cX8_mean 7 = .ok (.getfield 7, 3) := by decide +kernel
theorem dX8_mean_10 : decode cX8_mean 10 = .ok (.bipush 9, 2) := by decide +kernel
theorem dX8_mean_12 : decode cX8_mean 12 = .ok (.laload, 1) := by decide +kernel
theorem dX8_mean_13 : decode cX8_mean 13 = .ok (.lcmp, 1) := by decide +kernel
theorem dX8_mean_14 : decode cX8_mean 14 = .ok (.ifCond .ge 21, 3) := by decide +kernel
theorem dX8_mean_17 : decode cX8_mean 17 = .ok (.lload_n 1, 1) := by decide +kernel
theorem dX8_mean_18 : decode cX8_mean 18 = .ok (.aload_n 0, 1) := by decide +kernel
theorem dX8_mean_19 : decode cX8_mean 19 = .ok (.getfield 7, 3) := by decide +kernel
theorem dX8_mean_22 : decode cX8_mean 22 = .ok (.bipush 10, 2) := by decide +kernel
theorem dX8_mean_24 : decode cX8_mean 24 = .ok (.iload_n 3, 1) := by decide +kernel
theorem dX8_mean_25 : decode cX8_mean 25 = .ok (.iadd, 1) := by decide +kernel
theorem dX8_mean_26 : decode cX8_mean 26 = .ok (.laload, 1) := by decide +kernel
theorem dX8_mean_27 : decode cX8_mean 27 = .ok (.ladd, 1) := by decide +kernel
theorem dX8_mean_28 : decode cX8_mean 28 = .ok (.lstore_n 1, 1) := by decide +kernel
theorem dX8_mean_29 : decode cX8_mean 29 = .ok (.iinc 3 1, 3) := by decide +kernel
theorem dX8_mean_32 : decode cX8_mean 32 = .ok (.goto (-28), 3) := by decide +kernel
theorem dX8_mean_35 : decode cX8_mean 35 = .ok (.aload_n 0, 1) := by decide +kernel
theorem dX8_mean_36 : decode cX8_mean 36 = .ok (.getfield 7, 3) := by decide +kernel
theorem dX8_mean_39 : decode cX8_mean 39 = .ok (.bipush 9, 2) := by decide +kernel
theorem dX8_mean_41 : decode cX8_mean 41 = .ok (.laload, 1) := by decide +kernel
theorem dX8_mean_42 : decode cX8_mean 42 = .ok (.lconst 0, 1) := by decide +kernel
theorem dX8_mean_43 : decode cX8_mean 43 = .ok (.lcmp, 1) := by decide +kernel
theorem dX8_mean_44 : decode cX8_mean 44 = .ok (.ifCond .ne 7, 3) := by decide +kernel
theorem dX8_mean_47 : decode cX8_mean 47 = .ok (.lconst 0, 1) := by decide +kernel
theorem dX8_mean_48 : decode cX8_mean 48 = .ok (.goto 14, 3) := by decide +kernel
theorem dX8_mean_51 : decode cX8_mean 51 = .ok (.lload_n 1, 1) := by decide +kernel
theorem dX8_mean_52 : decode cX8_mean 52 = .ok (.aload_n 0, 1) := by decide +kernel
theorem dX8_mean_53 : decode cX8_mean 53 = .ok (.getfield 7, 3) := by decide +kernel
theorem dX8_mean_56 : decode cX8_mean 56 = .ok (.bipush 9, 2) := by decide +kernel
theorem dX8_mean_58 : decode cX8_mean 58 = .ok (.laload, 1) := by decide +kernel
theorem dX8_mean_59 : decode cX8_mean 59 = .ok (.invokestatic 88, 3) := by decide +kernel
theorem dX8_mean_62 : decode cX8_mean 62 = .ok (.lreturn, 1) := by decide +kernel
theorem hy_X8_mean : yX8_mean.cls ≠ "java/lang/invoke/MethodHandle" ∧ yX8_mean.cls ≠ "java/lang/invoke/VarHandle" ∧ (parseMethodDescriptor yX8_mean.desc).map (fun d => d.parameters.length) = some 0 := ⟨by decide +kernel, by decide +kernel, by decide +kernel⟩
set_option maxHeartbeats 4000000 in
set_option maxRecDepth 100000 in
theorem lp_X8_mean {E : zE} {l0 : Launch} {D0 : va_G} {cI0 cJ0 : ClassId} {ad : Nat → Nat → Nat} (hE : zG E l0 D0 cI0 cJ0 ad cX8_mean 4 RX8 1 25) (S : zM) (hI : Inv0 (S 7)) (hR : zR E (some .long) (some (.long (i64 (sp_mean (S 7))))) (fun X => X = S)) : ∀ (fuel : Nat) (i : Int) (h9 : 0 ≤ i ∧ i ≤ S 7 9), (S 7 9 - i).toNat < fuel → Z E S 4 [(3, .int (i32 i)), (1, .long (i64 (sm (fun k => S 7 (10 + k)) i))), (0, .ref (ad 6 27))] [] := by
  intro fuel
  induction fuel with
  | zero => intro _ _ hz; omega
  | succ fuel ih =>
    intro i h9 hz
    have h67 : (6 : Nat) ≠ 7 := by decide
    have h76 : (7 : Nat) ≠ 6 := by decide
    have h68 : (6 : Nat) ≠ 8 := by decide
    have h86 : (8 : Nat) ≠ 6 := by decide
    have h78 : (7 : Nat) ≠ 8 := by decide
    have h87 : (8 : Nat) ≠ 7 := by decide
    have hA := inA hI
    unfold InvA at hA
    have hs := sm_b (f := fun k => S 7 (10 + k)) (n := i) (a := -1000000) (b := 1000000) h9.1 (fun k h1 h2 => inS hI k h1 (by omega))
    refine z_iload_n hE 0 rfl rfl dX8_mean_4 ?_
    refine z_i2l hE ⟨by omega, by omega⟩ dX8_mean_5 ?_
    refine z_aload_n hE 2 rfl rfl dX8_mean_6 ?_
    refine gf_8_0 hE (by decide) zf_X8_7 dX8_mean_7 ?_
    refine z_bipush (a := 9) hE (by decide) dX8_mean_10 ?_
    refine al_28 hE (by decide) (by omega) (by omega) dX8_mean_12 ?_
    refine z_lcmp hE ⟨by omega, by omega⟩ ⟨by omega, by omega⟩ dX8_mean_13 ?_
    refine z_ifl_ge (tgt := 35) hE dX8_mean_14 (by decide) (fun c1 => ?_) (fun c1 => ?_)
    · have ei : i = S 7 9 := by omega
      rw [ei] at hs ⊢
      refine z_aload_n hE 2 rfl rfl dX8_mean_35 ?_
      refine gf_8_0 hE (by decide) zf_X8_7 dX8_mean_36 ?_
      refine z_bipush (a := 9) hE (by decide) dX8_mean_39 ?_
      refine al_28 hE (by decide) (by omega) (by omega) dX8_mean_41 ?_
      refine z_lconst (a := 0) hE rfl dX8_mean_42 ?_
      refine z_lcmp hE ⟨by omega, by omega⟩ ⟨by omega, by omega⟩ dX8_mean_43 ?_
      refine z_ifl_ne (tgt := 51) hE dX8_mean_44 (by decide) (fun c2 => ?_) (fun c2 => ?_)
      · refine z_lload_n hE 1 rfl rfl dX8_mean_51 ?_
        refine z_aload_n hE 2 rfl rfl dX8_mean_52 ?_
        refine gf_8_0 hE (by decide) zf_X8_7 dX8_mean_53 ?_
        refine z_bipush (a := 9) hE (by decide) dX8_mean_56 ?_
        refine al_28 hE (by decide) (by omega) (by omega) dX8_mean_58 ?_
        refine z_callS hE (c_X8_by l0 D0 cI0 cJ0 ad S (sm (fun k => S 7 (10 + k)) (S 7 9)) (S 7 9) (⟨by omega, by omega⟩) (⟨by omega, by omega⟩) (by omega)) zm_X8_88 zt_yX8_by zn_RX8 zc_yX8_by (hy_X8_by) (Nat.le_of_ble_eq_true rfl) (Nat.le_of_ble_eq_true rfl) rfl rfl rfl (Nat.le_of_ble_eq_true rfl) dX8_mean_59 ?_
        exact z_lret hE hR dX8_mean_62 (congrArg (fun x => some (Value.long (i64 x))) (by unfold sp_mean; first | rfl | (rw [show S 7 9 = 0 by omega, Int.ediv_zero]))) (by first | rfl | (simp only [us_id]))
      · refine z_lconst (a := 0) hE rfl dX8_mean_47 ?_
        refine z_goto (tgt := 62) hE (d := dX8_mean_48) (ht := by decide) ?_
        exact z_lret hE hR dX8_mean_62 (congrArg (fun x => some (Value.long (i64 x))) (by unfold sp_mean; first | rfl | (rw [show S 7 9 = 0 by omega, Int.ediv_zero]))) (by first | rfl | (simp only [us_id]))
    · refine z_lload_n hE 1 rfl rfl dX8_mean_17 ?_
      refine z_aload_n hE 2 rfl rfl dX8_mean_18 ?_
      refine gf_8_0 hE (by decide) zf_X8_7 dX8_mean_19 ?_
      refine z_bipush (a := 10) hE (by decide) dX8_mean_22 ?_
      refine z_iload_n hE 0 rfl rfl dX8_mean_24 ?_
      refine z_iadd hE dX8_mean_25 ?_
      refine al_28 hE (by decide) (by omega) (by omega) dX8_mean_26 ?_
      refine z_ladd hE dX8_mean_27 ?_
      refine z_lstore_n hE rfl (by decide) rfl dX8_mean_28 ?_
      refine z_iinc hE 1 rfl (by decide) rfl dX8_mean_29 ?_
      refine z_goto (tgt := 4) hE (d := dX8_mean_32) (ht := by decide) ?_
      refine z_L (L' := [(3, .int (i32 (i + 1))), (1, .long (i64 (sm (fun k => S 7 (10 + k)) (i + 1)))), (0, .ref (ad 6 27))]) [0, 1, 2] (by rw [show sm (fun k => S 7 (10 + k)) (i + 1) = (sm (fun k => S 7 (10 + k)) i) + (S 7 ((10 + i))) from by first | rfl | (exact sm_s h9.1)]; rfl) ?_
      exact ih (i + 1) ⟨by omega, by omega⟩ (by omega)
set_option maxHeartbeats 4000000 in
set_option maxRecDepth 100000 in
theorem c_X8_mean (l0 : Launch) (D0 : va_G) (cI0 cJ0 : ClassId) (ad : Nat → Nat → Nat) (S : zM) (hI : Inv0 (S 7)) : Ct l0 D0 cI0 cJ0 ad yX8_mean cX8_mean 4 (some .long) 1 25 [.ref (ad 6 27)] S (some (.long (i64 (sp_mean (S 7))))) (fun X => X = S) := by
  refine Ct.of (by decide) (Nat.le_of_ble_eq_true rfl) (fun E hE hR => ?_)
  have hE : zG E l0 D0 cI0 cJ0 ad cX8_mean 4 RX8 1 25 := hE
  show Z E S 0 [(0, .ref (ad 6 27))] []
  have h67 : (6 : Nat) ≠ 7 := by decide
  have h76 : (7 : Nat) ≠ 6 := by decide
  have h68 : (6 : Nat) ≠ 8 := by decide
  have h86 : (8 : Nat) ≠ 6 := by decide
  have h78 : (7 : Nat) ≠ 8 := by decide
  have h87 : (8 : Nat) ≠ 7 := by decide
  have hA := inA hI
  unfold InvA at hA
  refine z_lconst (a := 0) hE rfl dX8_mean_0 ?_
  refine z_lstore_n hE rfl (by decide) rfl dX8_mean_1 ?_
  refine z_iconst hE dX8_mean_2 ?_
  refine z_istore_n hE rfl (by decide) rfl dX8_mean_3 ?_
  refine z_L (L' := [(3, .int (i32 0)), (1, .long (i64 (sm (fun k => S 7 (10 + k)) 0))), (0, .ref (ad 6 27))]) [0, 1, 2] (by rw [show sm (fun k => S 7 (10 + k)) 0 = 0 from by first | rfl | (exact sm_0 _)]; rfl) ?_
  exact lp_X8_mean hE S hI hR 4 0 ⟨by omega, by omega⟩ (by omega)
theorem dX8_memberCount_0 : decode cX8_memberCount 0 = .ok (.aload_n 0, 1) := by decide +kernel
theorem dX8_memberCount_1 : decode cX8_memberCount 1 = .ok (.getfield 7, 3) := by decide +kernel
theorem dX8_memberCount_4 : decode cX8_memberCount 4 = .ok (.iconst 0, 1) := by decide +kernel
theorem dX8_memberCount_5 : decode cX8_memberCount 5 = .ok (.laload, 1) := by decide +kernel
theorem dX8_memberCount_6 : decode cX8_memberCount 6 = .ok (.l2i, 1) := by decide +kernel
theorem dX8_memberCount_7 : decode cX8_memberCount 7 = .ok (.ireturn, 1) := by decide +kernel
theorem hy_X8_memberCount : yX8_memberCount.cls ≠ "java/lang/invoke/MethodHandle" ∧ yX8_memberCount.cls ≠ "java/lang/invoke/VarHandle" ∧ (parseMethodDescriptor yX8_memberCount.desc).map (fun d => d.parameters.length) = some 0 := ⟨by decide +kernel, by decide +kernel, by decide +kernel⟩
set_option maxHeartbeats 4000000 in
set_option maxRecDepth 100000 in
theorem c_X8_memberCount (l0 : Launch) (D0 : va_G) (cI0 cJ0 : ClassId) (ad : Nat → Nat → Nat) (S : zM) (hI : Inv (S 7)) : Ct l0 D0 cI0 cJ0 ad yX8_memberCount cX8_memberCount 1 (some .int) 0 0 [.ref (ad 6 27)] S (some (.int (i32 (S 7 0)))) (fun X => X = S) := by
  refine Ct.of (by decide) (Nat.le_of_ble_eq_true rfl) (fun E hE hR => ?_)
  have hE : zG E l0 D0 cI0 cJ0 ad cX8_memberCount 1 RX8 0 0 := hE
  show Z E S 0 [(0, .ref (ad 6 27))] []
  have h67 : (6 : Nat) ≠ 7 := by decide
  have h76 : (7 : Nat) ≠ 6 := by decide
  have h68 : (6 : Nat) ≠ 8 := by decide
  have h86 : (8 : Nat) ≠ 6 := by decide
  have h78 : (7 : Nat) ≠ 8 := by decide
  have h87 : (8 : Nat) ≠ 7 := by decide
  have hI0 := hI.1
  have hA := inA hI0
  unfold InvA at hA
  refine z_aload_n hE 0 rfl rfl dX8_memberCount_0 ?_
  refine gf_8_0 hE (by decide) zf_X8_7 dX8_memberCount_1 ?_
  refine z_iconst hE dX8_memberCount_4 ?_
  refine al_28 hE (by decide) (by omega) (by omega) dX8_memberCount_5 ?_
  refine z_l2i hE dX8_memberCount_6 ?_
  exact z_iret hE hR dX8_memberCount_7 (congrArg (fun x => some (Value.int (i32 x))) (by first | rfl | omega)) (by first | rfl | (simp only [us_id]))
theorem dX8_allShares_0 : decode cX8_allShares 0 = .ok (.aload_n 0, 1) := by decide +kernel
theorem dX8_allShares_1 : decode cX8_allShares 1 = .ok (.invokevirtual 57, 3) := by decide +kernel
theorem dX8_allShares_4 : decode cX8_allShares 4 = .ok (.l2i, 1) := by decide +kernel
theorem dX8_allShares_5 : decode cX8_allShares 5 = .ok (.ireturn, 1) := by decide +kernel
theorem hy_X8_allShares : yX8_allShares.cls ≠ "java/lang/invoke/MethodHandle" ∧ yX8_allShares.cls ≠ "java/lang/invoke/VarHandle" ∧ (parseMethodDescriptor yX8_allShares.desc).map (fun d => d.parameters.length) = some 0 := ⟨by decide +kernel, by decide +kernel, by decide +kernel⟩
set_option maxHeartbeats 4000000 in
set_option maxRecDepth 100000 in
theorem c_X8_allShares (l0 : Launch) (D0 : va_G) (cI0 cJ0 : ClassId) (ad : Nat → Nat → Nat) (S : zM) (hI : Inv (S 7)) : Ct l0 D0 cI0 cJ0 ad yX8_allShares cX8_allShares 1 (some .int) 2 44 [.ref (ad 6 27)] S (some (.int (i32 (sp_all (S 7))))) (fun X => X = S) := by
  refine Ct.of (by decide) (Nat.le_of_ble_eq_true rfl) (fun E hE hR => ?_)
  have hE : zG E l0 D0 cI0 cJ0 ad cX8_allShares 1 RX8 2 44 := hE
  show Z E S 0 [(0, .ref (ad 6 27))] []
  have h67 : (6 : Nat) ≠ 7 := by decide
  have h76 : (7 : Nat) ≠ 6 := by decide
  have h68 : (6 : Nat) ≠ 8 := by decide
  have h86 : (8 : Nat) ≠ 6 := by decide
  have h78 : (7 : Nat) ≠ 8 := by decide
  have h87 : (8 : Nat) ≠ 7 := by decide
  have hI0 := hI.1
  have hA := inA hI0
  unfold InvA at hA
  refine z_aload_n hE 0 rfl rfl dX8_allShares_0 ?_
  refine z_callV hE (c_X8_all l0 D0 cI0 cJ0 ad S hI0) (by decide) rfl rfl zm_X8_57 zi_yX8_all zs_yX8_all zn_RX8 zc_yX8_all (hy_X8_all) (Nat.le_of_ble_eq_true rfl) (Nat.le_of_ble_eq_true rfl) rfl rfl rfl (Nat.le_of_ble_eq_true rfl) dX8_allShares_1 ?_
  refine z_l2i hE dX8_allShares_4 ?_
  exact z_iret hE hR dX8_allShares_5 (congrArg (fun x => some (Value.int (i32 x))) (by first | rfl | omega)) (by first | rfl | (simp only [us_id]))
theorem dX8_treasury_0 : decode cX8_treasury 0 = .ok (.aload_n 0, 1) := by decide +kernel
theorem dX8_treasury_1 : decode cX8_treasury 1 = .ok (.getfield 7, 3) := by decide +kernel
theorem dX8_treasury_4 : decode cX8_treasury 4 = .ok (.iconst 2, 1) := by decide +kernel
theorem dX8_treasury_5 : decode cX8_treasury 5 = .ok (.laload, 1) := by decide +kernel
theorem dX8_treasury_6 : decode cX8_treasury 6 = .ok (.l2i, 1) := by decide +kernel
theorem dX8_treasury_7 : decode cX8_treasury 7 = .ok (.ireturn, 1) := by decide +kernel
theorem hy_X8_treasury : yX8_treasury.cls ≠ "java/lang/invoke/MethodHandle" ∧ yX8_treasury.cls ≠ "java/lang/invoke/VarHandle" ∧ (parseMethodDescriptor yX8_treasury.desc).map (fun d => d.parameters.length) = some 0 := ⟨by decide +kernel, by decide +kernel, by decide +kernel⟩
set_option maxHeartbeats 4000000 in
set_option maxRecDepth 100000 in
theorem c_X8_treasury (l0 : Launch) (D0 : va_G) (cI0 cJ0 : ClassId) (ad : Nat → Nat → Nat) (S : zM) (hI : Inv (S 7)) : Ct l0 D0 cI0 cJ0 ad yX8_treasury cX8_treasury 1 (some .int) 0 0 [.ref (ad 6 27)] S (some (.int (i32 (S 7 2)))) (fun X => X = S) := by
  refine Ct.of (by decide) (Nat.le_of_ble_eq_true rfl) (fun E hE hR => ?_)
  have hE : zG E l0 D0 cI0 cJ0 ad cX8_treasury 1 RX8 0 0 := hE
  show Z E S 0 [(0, .ref (ad 6 27))] []
  have h67 : (6 : Nat) ≠ 7 := by decide
  have h76 : (7 : Nat) ≠ 6 := by decide
  have h68 : (6 : Nat) ≠ 8 := by decide
  have h86 : (8 : Nat) ≠ 6 := by decide
  have h78 : (7 : Nat) ≠ 8 := by decide
  have h87 : (8 : Nat) ≠ 7 := by decide
  have hI0 := hI.1
  have hA := inA hI0
  unfold InvA at hA
  refine z_aload_n hE 0 rfl rfl dX8_treasury_0 ?_
  refine gf_8_0 hE (by decide) zf_X8_7 dX8_treasury_1 ?_
  refine z_iconst hE dX8_treasury_4 ?_
  refine al_28 hE (by decide) (by omega) (by omega) dX8_treasury_5 ?_
  refine z_l2i hE dX8_treasury_6 ?_
  exact z_iret hE hR dX8_treasury_7 (congrArg (fun x => some (Value.int (i32 x))) (by first | rfl | omega)) (by first | rfl | (simp only [us_id]))
theorem dX8_price_0 : decode cX8_price 0 = .ok (.aload_n 0, 1) := by decide +kernel
theorem dX8_price_1 : decode cX8_price 1 = .ok (.getfield 7, 3) := by decide +kernel
theorem dX8_price_4 : decode cX8_price 4 = .ok (.bipush 6, 2) := by decide +kernel
theorem dX8_price_6 : decode cX8_price 6 = .ok (.laload, 1) := by decide +kernel
theorem dX8_price_7 : decode cX8_price 7 = .ok (.l2i, 1) := by decide +kernel
theorem dX8_price_8 : decode cX8_price 8 = .ok (.ireturn, 1) := by decide +kernel
theorem hy_X8_price : yX8_price.cls ≠ "java/lang/invoke/MethodHandle" ∧ yX8_price.cls ≠ "java/lang/invoke/VarHandle" ∧ (parseMethodDescriptor yX8_price.desc).map (fun d => d.parameters.length) = some 0 := ⟨by decide +kernel, by decide +kernel, by decide +kernel⟩
set_option maxHeartbeats 4000000 in
set_option maxRecDepth 100000 in
theorem c_X8_price (l0 : Launch) (D0 : va_G) (cI0 cJ0 : ClassId) (ad : Nat → Nat → Nat) (S : zM) (hI : Inv (S 7)) : Ct l0 D0 cI0 cJ0 ad yX8_price cX8_price 1 (some .int) 0 0 [.ref (ad 6 27)] S (some (.int (i32 (S 7 6)))) (fun X => X = S) := by
  refine Ct.of (by decide) (Nat.le_of_ble_eq_true rfl) (fun E hE hR => ?_)
  have hE : zG E l0 D0 cI0 cJ0 ad cX8_price 1 RX8 0 0 := hE
  show Z E S 0 [(0, .ref (ad 6 27))] []
  have h67 : (6 : Nat) ≠ 7 := by decide
  have h76 : (7 : Nat) ≠ 6 := by decide
  have h68 : (6 : Nat) ≠ 8 := by decide
  have h86 : (8 : Nat) ≠ 6 := by decide
  have h78 : (7 : Nat) ≠ 8 := by decide
  have h87 : (8 : Nat) ≠ 7 := by decide
  have hI0 := hI.1
  have hA := inA hI0
  unfold InvA at hA
  refine z_aload_n hE 0 rfl rfl dX8_price_0 ?_
  refine gf_8_0 hE (by decide) zf_X8_7 dX8_price_1 ?_
  refine z_bipush (a := 6) hE (by decide) dX8_price_4 ?_
  refine al_28 hE (by decide) (by omega) (by omega) dX8_price_6 ?_
  refine z_l2i hE dX8_price_7 ?_
  exact z_iret hE hR dX8_price_8 (congrArg (fun x => some (Value.int (i32 x))) (by first | rfl | omega)) (by first | rfl | (simp only [us_id]))
theorem dX8_parValue_0 : decode cX8_parValue 0 = .ok (.aload_n 0, 1) := by decide +kernel
theorem dX8_parValue_1 : decode cX8_parValue 1 = .ok (.getfield 7, 3) := by decide +kernel
theorem dX8_parValue_4 : decode cX8_parValue 4 = .ok (.iconst 5, 1) := by decide +kernel
theorem dX8_parValue_5 : decode cX8_parValue 5 = .ok (.laload, 1) := by decide +kernel
theorem dX8_parValue_6 : decode cX8_parValue 6 = .ok (.l2i, 1) := by decide +kernel
theorem dX8_parValue_7 : decode cX8_parValue 7 = .ok (.ireturn, 1) := by decide +kernel
theorem hy_X8_parValue : yX8_parValue.cls ≠ "java/lang/invoke/MethodHandle" ∧ yX8_parValue.cls ≠ "java/lang/invoke/VarHandle" ∧ (parseMethodDescriptor yX8_parValue.desc).map (fun d => d.parameters.length) = some 0 := ⟨by decide +kernel, by decide +kernel, by decide +kernel⟩
set_option maxHeartbeats 4000000 in
set_option maxRecDepth 100000 in
theorem c_X8_parValue (l0 : Launch) (D0 : va_G) (cI0 cJ0 : ClassId) (ad : Nat → Nat → Nat) (S : zM) (hI : Inv (S 7)) : Ct l0 D0 cI0 cJ0 ad yX8_parValue cX8_parValue 1 (some .int) 0 0 [.ref (ad 6 27)] S (some (.int (i32 (S 7 5)))) (fun X => X = S) := by
  refine Ct.of (by decide) (Nat.le_of_ble_eq_true rfl) (fun E hE hR => ?_)
  have hE : zG E l0 D0 cI0 cJ0 ad cX8_parValue 1 RX8 0 0 := hE
  show Z E S 0 [(0, .ref (ad 6 27))] []
  have h67 : (6 : Nat) ≠ 7 := by decide
  have h76 : (7 : Nat) ≠ 6 := by decide
  have h68 : (6 : Nat) ≠ 8 := by decide
  have h86 : (8 : Nat) ≠ 6 := by decide
  have h78 : (7 : Nat) ≠ 8 := by decide
  have h87 : (8 : Nat) ≠ 7 := by decide
  have hI0 := hI.1
  have hA := inA hI0
  unfold InvA at hA
  refine z_aload_n hE 0 rfl rfl dX8_parValue_0 ?_
  refine gf_8_0 hE (by decide) zf_X8_7 dX8_parValue_1 ?_
  refine z_iconst hE dX8_parValue_4 ?_
  refine al_28 hE (by decide) (by omega) (by omega) dX8_parValue_5 ?_
  refine z_l2i hE dX8_parValue_6 ?_
  exact z_iret hE hR dX8_parValue_7 (congrArg (fun x => some (Value.int (i32 x))) (by first | rfl | omega)) (by first | rfl | (simp only [us_id]))
theorem dX8_offerCount_0 : decode cX8_offerCount 0 = .ok (.aload_n 0, 1) := by decide +kernel
theorem dX8_offerCount_1 : decode cX8_offerCount 1 = .ok (.getfield 7, 3) := by decide +kernel
theorem dX8_offerCount_4 : decode cX8_offerCount 4 = .ok (.bipush 14, 2) := by decide +kernel
theorem dX8_offerCount_6 : decode cX8_offerCount 6 = .ok (.laload, 1) := by decide +kernel
theorem dX8_offerCount_7 : decode cX8_offerCount 7 = .ok (.l2i, 1) := by decide +kernel
theorem dX8_offerCount_8 : decode cX8_offerCount 8 = .ok (.ireturn, 1) := by decide +kernel
theorem hy_X8_offerCount : yX8_offerCount.cls ≠ "java/lang/invoke/MethodHandle" ∧ yX8_offerCount.cls ≠ "java/lang/invoke/VarHandle" ∧ (parseMethodDescriptor yX8_offerCount.desc).map (fun d => d.parameters.length) = some 0 := ⟨by decide +kernel, by decide +kernel, by decide +kernel⟩
set_option maxHeartbeats 4000000 in
set_option maxRecDepth 100000 in
theorem c_X8_offerCount (l0 : Launch) (D0 : va_G) (cI0 cJ0 : ClassId) (ad : Nat → Nat → Nat) (S : zM) (hI : Inv (S 7)) : Ct l0 D0 cI0 cJ0 ad yX8_offerCount cX8_offerCount 1 (some .int) 0 0 [.ref (ad 6 27)] S (some (.int (i32 (S 7 14)))) (fun X => X = S) := by
  refine Ct.of (by decide) (Nat.le_of_ble_eq_true rfl) (fun E hE hR => ?_)
  have hE : zG E l0 D0 cI0 cJ0 ad cX8_offerCount 1 RX8 0 0 := hE
  show Z E S 0 [(0, .ref (ad 6 27))] []
  have h67 : (6 : Nat) ≠ 7 := by decide
  have h76 : (7 : Nat) ≠ 6 := by decide
  have h68 : (6 : Nat) ≠ 8 := by decide
  have h86 : (8 : Nat) ≠ 6 := by decide
  have h78 : (7 : Nat) ≠ 8 := by decide
  have h87 : (8 : Nat) ≠ 7 := by decide
  have hI0 := hI.1
  have hA := inA hI0
  unfold InvA at hA
  refine z_aload_n hE 0 rfl rfl dX8_offerCount_0 ?_
  refine gf_8_0 hE (by decide) zf_X8_7 dX8_offerCount_1 ?_
  refine z_bipush (a := 14) hE (by decide) dX8_offerCount_4 ?_
  refine al_28 hE (by decide) (by omega) (by omega) dX8_offerCount_6 ?_
  refine z_l2i hE dX8_offerCount_7 ?_
  exact z_iret hE hR dX8_offerCount_8 (congrArg (fun x => some (Value.int (i32 x))) (by first | rfl | omega)) (by first | rfl | (simp only [us_id]))
theorem dX8_day_0 : decode cX8_day 0 = .ok (.aload_n 0, 1) := by decide +kernel
theorem dX8_day_1 : decode cX8_day 1 = .ok (.getfield 7, 3) := by decide +kernel
theorem dX8_day_4 : decode cX8_day 4 = .ok (.bipush 18, 2) := by decide +kernel
theorem dX8_day_6 : decode cX8_day 6 = .ok (.laload, 1) := by decide +kernel
theorem dX8_day_7 : decode cX8_day 7 = .ok (.l2i, 1) := by decide +kernel
theorem dX8_day_8 : decode cX8_day 8 = .ok (.ireturn, 1) := by decide +kernel
theorem hy_X8_day : yX8_day.cls ≠ "java/lang/invoke/MethodHandle" ∧ yX8_day.cls ≠ "java/lang/invoke/VarHandle" ∧ (parseMethodDescriptor yX8_day.desc).map (fun d => d.parameters.length) = some 0 := ⟨by decide +kernel, by decide +kernel, by decide +kernel⟩
set_option maxHeartbeats 4000000 in
set_option maxRecDepth 100000 in
theorem c_X8_day (l0 : Launch) (D0 : va_G) (cI0 cJ0 : ClassId) (ad : Nat → Nat → Nat) (S : zM) (hI : Inv (S 7)) : Ct l0 D0 cI0 cJ0 ad yX8_day cX8_day 1 (some .int) 0 0 [.ref (ad 6 27)] S (some (.int (i32 (S 7 18)))) (fun X => X = S) := by
  refine Ct.of (by decide) (Nat.le_of_ble_eq_true rfl) (fun E hE hR => ?_)
  have hE : zG E l0 D0 cI0 cJ0 ad cX8_day 1 RX8 0 0 := hE
  show Z E S 0 [(0, .ref (ad 6 27))] []
  have h67 : (6 : Nat) ≠ 7 := by decide
  have h76 : (7 : Nat) ≠ 6 := by decide
  have h68 : (6 : Nat) ≠ 8 := by decide
  have h86 : (8 : Nat) ≠ 6 := by decide
  have h78 : (7 : Nat) ≠ 8 := by decide
  have h87 : (8 : Nat) ≠ 7 := by decide
  have hI0 := hI.1
  have hA := inA hI0
  unfold InvA at hA
  refine z_aload_n hE 0 rfl rfl dX8_day_0 ?_
  refine gf_8_0 hE (by decide) zf_X8_7 dX8_day_1 ?_
  refine z_bipush (a := 18) hE (by decide) dX8_day_4 ?_
  refine al_28 hE (by decide) (by omega) (by omega) dX8_day_6 ?_
  refine z_l2i hE dX8_day_7 ?_
  exact z_iret hE hR dX8_day_8 (congrArg (fun x => some (Value.int (i32 x))) (by first | rfl | omega)) (by first | rfl | (simp only [us_id]))
theorem dX8_shares_0 : decode cX8_shares 0 = .ok (.aload_n 0, 1) := by decide +kernel
theorem dX8_shares_1 : decode cX8_shares 1 = .ok (.iload_n 1, 1) := by decide +kernel
theorem dX8_shares_2 : decode cX8_shares 2 = .ok (.invokevirtual 64, 3) := by decide +kernel
theorem dX8_shares_5 : decode cX8_shares 5 = .ok (.ifCond .eq 17, 3) := by decide +kernel
theorem dX8_shares_8 : decode cX8_shares 8 = .ok (.aload_n 0, 1) := by decide +kernel
theorem dX8_shares_9 : decode cX8_shares 9 = .ok (.getfield 7, 3) := by decide +kernel
theorem dX8_shares_12 : decode cX8_shares 12 = .ok (.iload_n 1, 1) := by decide +kernel
theorem dX8_shares_13 : decode cX8_shares 13 = .ok (.iconst 0, 1) := by decide +kernel
theorem dX8_shares_14 : decode cX8_shares 14 = .ok (.invokestatic 46, 3) := by decide +kernel
theorem dX8_shares_17 : decode cX8_shares 17 = .ok (.laload, 1) := by decide +kernel
theorem dX8_shares_18 : decode cX8_shares 18 = .ok (.l2i, 1) := by decide +kernel
theorem dX8_shares_19 : decode cX8_shares 19 = .ok (.goto 5, 3) := by decide +kernel
theorem dX8_shares_22 : decode cX8_shares 22 = .ok (.ldc 68, 2) := by decide +kernel
theorem dX8_shares_24 : decode cX8_shares 24 = .ok (.ireturn, 1) := by decide +kernel
theorem hy_X8_shares : yX8_shares.cls ≠ "java/lang/invoke/MethodHandle" ∧ yX8_shares.cls ≠ "java/lang/invoke/VarHandle" ∧ (parseMethodDescriptor yX8_shares.desc).map (fun d => d.parameters.length) = some 1 := ⟨by decide +kernel, by decide +kernel, by decide +kernel⟩
set_option maxHeartbeats 4000000 in
set_option maxRecDepth 100000 in
theorem c_X8_shares (l0 : Launch) (D0 : va_G) (cI0 cJ0 : ClassId) (ad : Nat → Nat → Nat) (S : zM) (m : Int) (hI : Inv (S 7)) (bb_m : -2147483648 ≤ m ∧ m < 2147483648) : Ct l0 D0 cI0 cJ0 ad yX8_shares cX8_shares 2 (some .int) 2 46 [.ref (ad 6 27), .int (i32 m)] S (some (.int (i32 (rv_shares (S 7) m)))) (fun X => X = S) := by
  refine Ct.of (by decide) (Nat.le_of_ble_eq_true rfl) (fun E hE hR => ?_)
  have hE : zG E l0 D0 cI0 cJ0 ad cX8_shares 2 RX8 2 46 := hE
  show Z E S 0 [(0, .ref (ad 6 27)), (1, .int (i32 m))] []
  have h67 : (6 : Nat) ≠ 7 := by decide
  have h76 : (7 : Nat) ≠ 6 := by decide
  have h68 : (6 : Nat) ≠ 8 := by decide
  have h86 : (8 : Nat) ≠ 6 := by decide
  have h78 : (7 : Nat) ≠ 8 := by decide
  have h87 : (8 : Nat) ≠ 7 := by decide
  have hI0 := hI.1
  have hA := inA hI0
  unfold InvA at hA
  refine z_aload_n hE 0 rfl rfl dX8_shares_0 ?_
  refine z_iload_n hE 1 rfl rfl dX8_shares_1 ?_
  refine z_callV hE (c_X8_isMember l0 D0 cI0 cJ0 ad S m (by omega) (by omega)) (by decide) rfl rfl zm_X8_64 zi_yX8_isMember zs_yX8_isMember zn_RX8 zc_yX8_isMember (hy_X8_isMember) (Nat.le_of_ble_eq_true rfl) (Nat.le_of_ble_eq_true rfl) rfl rfl rfl (Nat.le_of_ble_eq_true rfl) dX8_shares_2 ?_
  refine z_ifb_eq (tgt := 22) hE dX8_shares_5 (by decide) (fun c1 => ?_) (fun c1 => ?_)
  · refine z_ldc (a := -2000000001) hE zk_X8_68 (by decide) dX8_shares_22 ?_
    exact z_iret hE hR dX8_shares_24 (congrArg (fun x => some (Value.int (i32 x))) (by unfold rv_shares; first | ((rw [if_neg (by omega)]) <;> first | rfl | omega) | ((rw [if_pos (by omega)]) <;> first | rfl | omega))) (by first | rfl | (simp only [us_id]))
  · refine z_aload_n hE 0 rfl rfl dX8_shares_8 ?_
    refine gf_8_0 hE (by decide) zf_X8_7 dX8_shares_9 ?_
    refine z_iload_n hE 1 rfl rfl dX8_shares_12 ?_
    refine z_iconst hE dX8_shares_13 ?_
    refine z_callS hE (c_X8_m l0 D0 cI0 cJ0 ad S m 0 (19 + 3 * m) (by omega)) zm_X8_46 zt_yX8_m zn_RX8 zc_yX8_m (hy_X8_m) (Nat.le_of_ble_eq_true rfl) (Nat.le_of_ble_eq_true rfl) rfl rfl rfl (Nat.le_of_ble_eq_true rfl) dX8_shares_14 ?_
    refine al_28 hE (by decide) (by omega) (by omega) dX8_shares_17 ?_
    refine z_l2i hE dX8_shares_18 ?_
    refine z_goto (tgt := 24) hE (d := dX8_shares_19) (ht := by decide) ?_
    exact z_iret hE hR dX8_shares_24 (congrArg (fun x => some (Value.int (i32 x))) (by unfold rv_shares; first | ((rw [if_neg (by omega)]) <;> first | rfl | omega) | ((rw [if_pos (by omega)]) <;> first | rfl | omega))) (by first | rfl | (simp only [us_id]))
theorem dX8_account_0 : decode cX8_account 0 = .ok (.aload_n 0, 1) := by decide +kernel
theorem dX8_account_1 : decode cX8_account 1 = .ok (.iload_n 1, 1) := by decide +kernel
theorem dX8_account_2 : decode cX8_account 2 = .ok (.invokevirtual 64, 3) := by decide +kernel
theorem dX8_account_5 : decode cX8_account 5 = .ok (.ifCond .eq 16, 3) := by decide +kernel
theorem dX8_account_8 : decode cX8_account 8 = .ok (.aload_n 0, 1) := by decide +kernel
theorem dX8_account_9 : decode cX8_account 9 = .ok (.getfield 7, 3) := by decide +kernel
theorem dX8_account_12 : decode cX8_account 12 = .ok (.iload_n 1, 1) := by decide +kernel
theorem dX8_account_13 : decode cX8_account 13 = .ok (.iconst 2, 1) := by decide +kernel
theorem dX8_account_14 : decode cX8_account 14 = .ok (.invokestatic 46, 3) := by decide +kernel
theorem dX8_account_17 : decode cX8_account 17 = .ok (.laload, 1) := by decide +kernel
theorem dX8_account_18 : decode cX8_account 18 = .ok (.goto 6, 3) := by decide +kernel
theorem dX8_account_21 : decode cX8_account 21 = .ok (.ldc2_w 76, 3) := by decide +kernel
theorem dX8_account_24 : decode cX8_account 24 = .ok (.lreturn, 1) := by decide +kernel
theorem hy_X8_account : yX8_account.cls ≠ "java/lang/invoke/MethodHandle" ∧ yX8_account.cls ≠ "java/lang/invoke/VarHandle" ∧ (parseMethodDescriptor yX8_account.desc).map (fun d => d.parameters.length) = some 1 := ⟨by decide +kernel, by decide +kernel, by decide +kernel⟩
set_option maxHeartbeats 4000000 in
set_option maxRecDepth 100000 in
theorem c_X8_account (l0 : Launch) (D0 : va_G) (cI0 cJ0 : ClassId) (ad : Nat → Nat → Nat) (S : zM) (m : Int) (hI : Inv (S 7)) (bb_m : -2147483648 ≤ m ∧ m < 2147483648) : Ct l0 D0 cI0 cJ0 ad yX8_account cX8_account 2 (some .long) 2 46 [.ref (ad 6 27), .int (i32 m)] S (some (.long (i64 (rv_account (S 7) m)))) (fun X => X = S) := by
  refine Ct.of (by decide) (Nat.le_of_ble_eq_true rfl) (fun E hE hR => ?_)
  have hE : zG E l0 D0 cI0 cJ0 ad cX8_account 2 RX8 2 46 := hE
  show Z E S 0 [(0, .ref (ad 6 27)), (1, .int (i32 m))] []
  have h67 : (6 : Nat) ≠ 7 := by decide
  have h76 : (7 : Nat) ≠ 6 := by decide
  have h68 : (6 : Nat) ≠ 8 := by decide
  have h86 : (8 : Nat) ≠ 6 := by decide
  have h78 : (7 : Nat) ≠ 8 := by decide
  have h87 : (8 : Nat) ≠ 7 := by decide
  have hI0 := hI.1
  have hA := inA hI0
  unfold InvA at hA
  refine z_aload_n hE 0 rfl rfl dX8_account_0 ?_
  refine z_iload_n hE 1 rfl rfl dX8_account_1 ?_
  refine z_callV hE (c_X8_isMember l0 D0 cI0 cJ0 ad S m (by omega) (by omega)) (by decide) rfl rfl zm_X8_64 zi_yX8_isMember zs_yX8_isMember zn_RX8 zc_yX8_isMember (hy_X8_isMember) (Nat.le_of_ble_eq_true rfl) (Nat.le_of_ble_eq_true rfl) rfl rfl rfl (Nat.le_of_ble_eq_true rfl) dX8_account_2 ?_
  refine z_ifb_eq (tgt := 21) hE dX8_account_5 (by decide) (fun c1 => ?_) (fun c1 => ?_)
  · refine z_ldc2 (a := -2000000001) hE zl_X8_76 (by decide) dX8_account_21 ?_
    exact z_lret hE hR dX8_account_24 (congrArg (fun x => some (Value.long (i64 x))) (by unfold rv_account; first | ((rw [if_neg (by omega)]) <;> first | rfl | omega) | ((rw [if_pos (by omega)]) <;> first | rfl | omega))) (by first | rfl | (simp only [us_id]))
  · refine z_aload_n hE 0 rfl rfl dX8_account_8 ?_
    refine gf_8_0 hE (by decide) zf_X8_7 dX8_account_9 ?_
    refine z_iload_n hE 1 rfl rfl dX8_account_12 ?_
    refine z_iconst hE dX8_account_13 ?_
    refine z_callS hE (c_X8_m l0 D0 cI0 cJ0 ad S m 2 (21 + 3 * m) (by omega)) zm_X8_46 zt_yX8_m zn_RX8 zc_yX8_m (hy_X8_m) (Nat.le_of_ble_eq_true rfl) (Nat.le_of_ble_eq_true rfl) rfl rfl rfl (Nat.le_of_ble_eq_true rfl) dX8_account_14 ?_
    refine al_28 hE (by decide) (by omega) (by omega) dX8_account_17 ?_
    refine z_goto (tgt := 24) hE (d := dX8_account_18) (ht := by decide) ?_
    exact z_lret hE hR dX8_account_24 (congrArg (fun x => some (Value.long (i64 x))) (by unfold rv_account; first | ((rw [if_neg (by omega)]) <;> first | rfl | omega) | ((rw [if_pos (by omega)]) <;> first | rfl | omega))) (by first | rfl | (simp only [us_id]))
theorem dX8_requirement_0 : decode cX8_requirement 0 = .ok (.aload_n 0, 1) := by decide +kernel
theorem dX8_requirement_1 : decode cX8_requirement 1 = .ok (.iload_n 1, 1) := by decide +kernel
theorem dX8_requirement_2 : decode cX8_requirement 2 = .ok (.invokevirtual 64, 3) := by decide +kernel
theorem dX8_requirement_5 : decode cX8_requirement 5 = .ok (.ifCond .eq 12, 3) := by decide +kernel
theorem dX8_requirement_8 : decode cX8_requirement 8 = .ok (.aload_n 0, 1) := by decide +kernel
theorem dX8_requirement_9 : decode cX8_requirement 9 = .ok (.iload_n 1, 1) := by decide +kernel
theorem dX8_requirement_10 : decode cX8_requirement 10 = .ok (.invokevirtual 50, 3) := by decide +kernel
theorem dX8_requirement_13 : decode cX8_requirement 13 = .ok (.l2i, 1) := by decide +kernel
theorem dX8_requirement_14 : decode cX8_requirement 14 = .ok (.goto 5, 3) := by decide +kernel
theorem dX8_requirement_17 : decode cX8_requirement 17 = .ok (.ldc 68, 2) := by decide +kernel
theorem dX8_requirement_19 : decode cX8_requirement 19 = .ok (.ireturn, 1) := by decide +kernel
theorem hy_X8_requirement : yX8_requirement.cls ≠ "java/lang/invoke/MethodHandle" ∧ yX8_requirement.cls ≠ "java/lang/invoke/VarHandle" ∧ (parseMethodDescriptor yX8_requirement.desc).map (fun d => d.parameters.length) = some 1 := ⟨by decide +kernel, by decide +kernel, by decide +kernel⟩
set_option maxHeartbeats 4000000 in
set_option maxRecDepth 100000 in
theorem c_X8_requirement (l0 : Launch) (D0 : va_G) (cI0 cJ0 : ClassId) (ad : Nat → Nat → Nat) (S : zM) (m : Int) (hI : Inv (S 7)) (bb_m : -2147483648 ≤ m ∧ m < 2147483648) : Ct l0 D0 cI0 cJ0 ad yX8_requirement cX8_requirement 2 (some .int) 2 46 [.ref (ad 6 27), .int (i32 m)] S (some (.int (i32 (rv_requirement (S 7) m)))) (fun X => X = S) := by
  refine Ct.of (by decide) (Nat.le_of_ble_eq_true rfl) (fun E hE hR => ?_)
  have hE : zG E l0 D0 cI0 cJ0 ad cX8_requirement 2 RX8 2 46 := hE
  show Z E S 0 [(0, .ref (ad 6 27)), (1, .int (i32 m))] []
  have h67 : (6 : Nat) ≠ 7 := by decide
  have h76 : (7 : Nat) ≠ 6 := by decide
  have h68 : (6 : Nat) ≠ 8 := by decide
  have h86 : (8 : Nat) ≠ 6 := by decide
  have h78 : (7 : Nat) ≠ 8 := by decide
  have h87 : (8 : Nat) ≠ 7 := by decide
  have hI0 := hI.1
  have hA := inA hI0
  unfold InvA at hA
  refine z_aload_n hE 0 rfl rfl dX8_requirement_0 ?_
  refine z_iload_n hE 1 rfl rfl dX8_requirement_1 ?_
  refine z_callV hE (c_X8_isMember l0 D0 cI0 cJ0 ad S m (by omega) (by omega)) (by decide) rfl rfl zm_X8_64 zi_yX8_isMember zs_yX8_isMember zn_RX8 zc_yX8_isMember (hy_X8_isMember) (Nat.le_of_ble_eq_true rfl) (Nat.le_of_ble_eq_true rfl) rfl rfl rfl (Nat.le_of_ble_eq_true rfl) dX8_requirement_2 ?_
  refine z_ifb_eq (tgt := 17) hE dX8_requirement_5 (by decide) (fun c1 => ?_) (fun c1 => ?_)
  · refine z_ldc (a := -2000000001) hE zk_X8_68 (by decide) dX8_requirement_17 ?_
    exact z_iret hE hR dX8_requirement_19 (congrArg (fun x => some (Value.int (i32 x))) (by unfold rv_requirement; first | ((rw [if_neg (by omega)]) <;> first | rfl | omega) | ((rw [if_pos (by omega)]) <;> first | rfl | omega))) (by first | rfl | (simp only [us_id]))
  · refine z_aload_n hE 0 rfl rfl dX8_requirement_8 ?_
    refine z_iload_n hE 1 rfl rfl dX8_requirement_9 ?_
    refine z_callV hE (c_X8_requirementOf l0 D0 cI0 cJ0 ad S m hI0 (by omega)) (by decide) rfl rfl zm_X8_50 zi_yX8_requirementOf zs_yX8_requirementOf zn_RX8 zc_yX8_requirementOf (hy_X8_requirementOf) (Nat.le_of_ble_eq_true rfl) (Nat.le_of_ble_eq_true rfl) rfl rfl rfl (Nat.le_of_ble_eq_true rfl) dX8_requirement_10 ?_
    refine z_l2i hE dX8_requirement_13 ?_
    refine z_goto (tgt := 19) hE (d := dX8_requirement_14) (ht := by decide) ?_
    exact z_iret hE hR dX8_requirement_19 (congrArg (fun x => some (Value.int (i32 x))) (by unfold rv_requirement; first | ((rw [if_neg (by omega)]) <;> first | rfl | omega) | ((rw [if_pos (by omega)]) <;> first | rfl | omega))) (by first | rfl | (simp only [us_id]))
theorem dX8_freeShares_0 : decode cX8_freeShares 0 = .ok (.aload_n 0, 1) := by decide +kernel
theorem dX8_freeShares_1 : decode cX8_freeShares 1 = .ok (.iload_n 1, 1) := by decide +kernel
theorem dX8_freeShares_2 : decode cX8_freeShares 2 = .ok (.invokevirtual 64, 3) := by decide +kernel
theorem dX8_freeShares_5 : decode cX8_freeShares 5 = .ok (.ifCond .eq 12, 3) := by decide +kernel
theorem dX8_freeShares_8 : decode cX8_freeShares 8 = .ok (.aload_n 0, 1) := by decide +kernel
theorem dX8_freeShares_9 : decode cX8_freeShares 9 = .ok (.iload_n 1, 1) := by decide +kernel
theorem dX8_freeShares_10 : decode cX8_freeShares 10 = .ok (.invokevirtual 78, 3) := by decide +kernel
theorem dX8_freeShares_13 : decode cX8_freeShares 13 = .ok (.l2i, 1) := by decide +kernel
theorem dX8_freeShares_14 : decode cX8_freeShares 14 = .ok (.goto 5, 3) := by decide +kernel
theorem dX8_freeShares_17 : decode cX8_freeShares 17 = .ok (.ldc 68, 2) := by decide +kernel
theorem dX8_freeShares_19 : decode cX8_freeShares 19 = .ok (.ireturn, 1) := by decide +kernel
theorem hy_X8_freeShares : yX8_freeShares.cls ≠ "java/lang/invoke/MethodHandle" ∧ yX8_freeShares.cls ≠ "java/lang/invoke/VarHandle" ∧ (parseMethodDescriptor yX8_freeShares.desc).map (fun d => d.parameters.length) = some 1 := ⟨by decide +kernel, by decide +kernel, by decide +kernel⟩
set_option maxHeartbeats 4000000 in
set_option maxRecDepth 100000 in
theorem c_X8_freeShares (l0 : Launch) (D0 : va_G) (cI0 cJ0 : ClassId) (ad : Nat → Nat → Nat) (S : zM) (m : Int) (hI : Inv (S 7)) (bb_m : -2147483648 ≤ m ∧ m < 2147483648) : Ct l0 D0 cI0 cJ0 ad yX8_freeShares cX8_freeShares 2 (some .int) 3 66 [.ref (ad 6 27), .int (i32 m)] S (some (.int (i32 (rv_freeShares (S 7) m)))) (fun X => X = S) := by
  refine Ct.of (by decide) (Nat.le_of_ble_eq_true rfl) (fun E hE hR => ?_)
  have hE : zG E l0 D0 cI0 cJ0 ad cX8_freeShares 2 RX8 3 66 := hE
  show Z E S 0 [(0, .ref (ad 6 27)), (1, .int (i32 m))] []
  have h67 : (6 : Nat) ≠ 7 := by decide
  have h76 : (7 : Nat) ≠ 6 := by decide
  have h68 : (6 : Nat) ≠ 8 := by decide
  have h86 : (8 : Nat) ≠ 6 := by decide
  have h78 : (7 : Nat) ≠ 8 := by decide
  have h87 : (8 : Nat) ≠ 7 := by decide
  have hI0 := hI.1
  have hA := inA hI0
  unfold InvA at hA
  refine z_aload_n hE 0 rfl rfl dX8_freeShares_0 ?_
  refine z_iload_n hE 1 rfl rfl dX8_freeShares_1 ?_
  refine z_callV hE (c_X8_isMember l0 D0 cI0 cJ0 ad S m (by omega) (by omega)) (by decide) rfl rfl zm_X8_64 zi_yX8_isMember zs_yX8_isMember zn_RX8 zc_yX8_isMember (hy_X8_isMember) (Nat.le_of_ble_eq_true rfl) (Nat.le_of_ble_eq_true rfl) rfl rfl rfl (Nat.le_of_ble_eq_true rfl) dX8_freeShares_2 ?_
  refine z_ifb_eq (tgt := 17) hE dX8_freeShares_5 (by decide) (fun c1 => ?_) (fun c1 => ?_)
  · refine z_ldc (a := -2000000001) hE zk_X8_68 (by decide) dX8_freeShares_17 ?_
    exact z_iret hE hR dX8_freeShares_19 (congrArg (fun x => some (Value.int (i32 x))) (by unfold rv_freeShares; first | ((rw [if_neg (by omega)]) <;> first | rfl | omega) | ((rw [if_pos (by omega)]) <;> first | rfl | omega))) (by first | rfl | (simp only [us_id]))
  · refine z_aload_n hE 0 rfl rfl dX8_freeShares_8 ?_
    refine z_iload_n hE 1 rfl rfl dX8_freeShares_9 ?_
    refine z_callV hE (c_X8_freeOf l0 D0 cI0 cJ0 ad S m hI0 (by omega)) (by decide) rfl rfl zm_X8_78 zi_yX8_freeOf zs_yX8_freeOf zn_RX8 zc_yX8_freeOf (hy_X8_freeOf) (Nat.le_of_ble_eq_true rfl) (Nat.le_of_ble_eq_true rfl) rfl rfl rfl (Nat.le_of_ble_eq_true rfl) dX8_freeShares_10 ?_
    refine z_l2i hE dX8_freeShares_13 ?_
    refine z_goto (tgt := 19) hE (d := dX8_freeShares_14) (ht := by decide) ?_
    exact z_iret hE hR dX8_freeShares_19 (congrArg (fun x => some (Value.int (i32 x))) (by unfold rv_freeShares; first | ((rw [if_neg (by omega)]) <;> first | rfl | omega) | ((rw [if_pos (by omega)]) <;> first | rfl | omega))) (by first | rfl | (simp only [us_id]))
theorem dX8_room_0 : decode cX8_room 0 = .ok (.aload_n 0, 1) := by decide +kernel
theorem dX8_room_1 : decode cX8_room 1 = .ok (.iload_n 1, 1) := by decide +kernel
theorem dX8_room_2 : decode cX8_room 2 = .ok (.invokevirtual 64, 3) := by decide +kernel
theorem dX8_room_5 : decode cX8_room 5 = .ok (.ifCond .eq 12, 3) := by decide +kernel
theorem dX8_room_8 : decode cX8_room 8 = .ok (.aload_n 0, 1) := by decide +kernel
theorem dX8_room_9 : decode cX8_room 9 = .ok (.iload_n 1, 1) := by decide +kernel
theorem dX8_room_10 : decode cX8_room 10 = .ok (.invokevirtual 81, 3) := by decide +kernel
theorem dX8_room_13 : decode cX8_room 13 = .ok (.l2i, 1) := by decide +kernel
theorem dX8_room_14 : decode cX8_room 14 = .ok (.goto 5, 3) := by decide +kernel
theorem dX8_room_17 : decode cX8_room 17 = .ok (.ldc 68, 2) := by decide +kernel
theorem dX8_room_19 : decode cX8_room 19 = .ok (.ireturn, 1) := by decide +kernel
theorem hy_X8_room : yX8_room.cls ≠ "java/lang/invoke/MethodHandle" ∧ yX8_room.cls ≠ "java/lang/invoke/VarHandle" ∧ (parseMethodDescriptor yX8_room.desc).map (fun d => d.parameters.length) = some 1 := ⟨by decide +kernel, by decide +kernel, by decide +kernel⟩
set_option maxHeartbeats 4000000 in
set_option maxRecDepth 100000 in
theorem c_X8_room (l0 : Launch) (D0 : va_G) (cI0 cJ0 : ClassId) (ad : Nat → Nat → Nat) (S : zM) (m : Int) (hI : Inv (S 7)) (bb_m : -2147483648 ≤ m ∧ m < 2147483648) : Ct l0 D0 cI0 cJ0 ad yX8_room cX8_room 2 (some .int) 3 67 [.ref (ad 6 27), .int (i32 m)] S (some (.int (i32 (rv_room (S 7) m)))) (fun X => X = S) := by
  refine Ct.of (by decide) (Nat.le_of_ble_eq_true rfl) (fun E hE hR => ?_)
  have hE : zG E l0 D0 cI0 cJ0 ad cX8_room 2 RX8 3 67 := hE
  show Z E S 0 [(0, .ref (ad 6 27)), (1, .int (i32 m))] []
  have h67 : (6 : Nat) ≠ 7 := by decide
  have h76 : (7 : Nat) ≠ 6 := by decide
  have h68 : (6 : Nat) ≠ 8 := by decide
  have h86 : (8 : Nat) ≠ 6 := by decide
  have h78 : (7 : Nat) ≠ 8 := by decide
  have h87 : (8 : Nat) ≠ 7 := by decide
  have hI0 := hI.1
  have hA := inA hI0
  unfold InvA at hA
  refine z_aload_n hE 0 rfl rfl dX8_room_0 ?_
  refine z_iload_n hE 1 rfl rfl dX8_room_1 ?_
  refine z_callV hE (c_X8_isMember l0 D0 cI0 cJ0 ad S m (by omega) (by omega)) (by decide) rfl rfl zm_X8_64 zi_yX8_isMember zs_yX8_isMember zn_RX8 zc_yX8_isMember (hy_X8_isMember) (Nat.le_of_ble_eq_true rfl) (Nat.le_of_ble_eq_true rfl) rfl rfl rfl (Nat.le_of_ble_eq_true rfl) dX8_room_2 ?_
  refine z_ifb_eq (tgt := 17) hE dX8_room_5 (by decide) (fun c1 => ?_) (fun c1 => ?_)
  · refine z_ldc (a := -2000000001) hE zk_X8_68 (by decide) dX8_room_17 ?_
    exact z_iret hE hR dX8_room_19 (congrArg (fun x => some (Value.int (i32 x))) (by unfold rv_room; first | ((rw [if_neg (by omega)]) <;> first | rfl | omega) | ((rw [if_pos (by omega)]) <;> first | rfl | omega))) (by first | rfl | (simp only [us_id]))
  · refine z_aload_n hE 0 rfl rfl dX8_room_8 ?_
    refine z_iload_n hE 1 rfl rfl dX8_room_9 ?_
    refine z_callV hE (c_X8_roomOf l0 D0 cI0 cJ0 ad S m hI0 (by omega)) (by decide) rfl rfl zm_X8_81 zi_yX8_roomOf zs_yX8_roomOf zn_RX8 zc_yX8_roomOf (hy_X8_roomOf) (Nat.le_of_ble_eq_true rfl) (Nat.le_of_ble_eq_true rfl) rfl rfl rfl (Nat.le_of_ble_eq_true rfl) dX8_room_10 ?_
    refine z_l2i hE dX8_room_13 ?_
    refine z_goto (tgt := 19) hE (d := dX8_room_14) (ht := by decide) ?_
    exact z_iret hE hR dX8_room_19 (congrArg (fun x => some (Value.int (i32 x))) (by unfold rv_room; first | ((rw [if_neg (by omega)]) <;> first | rfl | omega) | ((rw [if_pos (by omega)]) <;> first | rfl | omega))) (by first | rfl | (simp only [us_id]))
theorem dX8_votes_0 : decode cX8_votes 0 = .ok (.aload_n 0, 1) := by decide +kernel
theorem dX8_votes_1 : decode cX8_votes 1 = .ok (.iload_n 1, 1) := by decide +kernel
theorem dX8_votes_2 : decode cX8_votes 2 = .ok (.invokevirtual 64, 3) := by decide +kernel
theorem dX8_votes_5 : decode cX8_votes 5 = .ok (.ifCond .eq 12, 3) := by decide +kernel
theorem dX8_votes_8 : decode cX8_votes 8 = .ok (.aload_n 0, 1) := by decide +kernel
theorem dX8_votes_9 : decode cX8_votes 9 = .ok (.iload_n 1, 1) := by decide +kernel
theorem dX8_votes_10 : decode cX8_votes 10 = .ok (.invokevirtual 161, 3) := by decide +kernel
theorem dX8_votes_13 : decode cX8_votes 13 = .ok (.l2i, 1) := by decide +kernel
theorem dX8_votes_14 : decode cX8_votes 14 = .ok (.goto 5, 3) := by decide +kernel
theorem dX8_votes_17 : decode cX8_votes 17 = .ok (.ldc 68, 2) := by decide +kernel
theorem dX8_votes_19 : decode cX8_votes 19 = .ok (.ireturn, 1) := by decide +kernel
theorem hy_X8_votes : yX8_votes.cls ≠ "java/lang/invoke/MethodHandle" ∧ yX8_votes.cls ≠ "java/lang/invoke/VarHandle" ∧ (parseMethodDescriptor yX8_votes.desc).map (fun d => d.parameters.length) = some 1 := ⟨by decide +kernel, by decide +kernel, by decide +kernel⟩
set_option maxHeartbeats 4000000 in
set_option maxRecDepth 100000 in
theorem c_X8_votes (l0 : Launch) (D0 : va_G) (cI0 cJ0 : ClassId) (ad : Nat → Nat → Nat) (S : zM) (m : Int) (hI : Inv (S 7)) (bb_m : -2147483648 ≤ m ∧ m < 2147483648) : Ct l0 D0 cI0 cJ0 ad yX8_votes cX8_votes 2 (some .int) 2 46 [.ref (ad 6 27), .int (i32 m)] S (some (.int (i32 (rv_votes (S 7) m)))) (fun X => X = S) := by
  refine Ct.of (by decide) (Nat.le_of_ble_eq_true rfl) (fun E hE hR => ?_)
  have hE : zG E l0 D0 cI0 cJ0 ad cX8_votes 2 RX8 2 46 := hE
  show Z E S 0 [(0, .ref (ad 6 27)), (1, .int (i32 m))] []
  have h67 : (6 : Nat) ≠ 7 := by decide
  have h76 : (7 : Nat) ≠ 6 := by decide
  have h68 : (6 : Nat) ≠ 8 := by decide
  have h86 : (8 : Nat) ≠ 6 := by decide
  have h78 : (7 : Nat) ≠ 8 := by decide
  have h87 : (8 : Nat) ≠ 7 := by decide
  have hI0 := hI.1
  have hA := inA hI0
  unfold InvA at hA
  refine z_aload_n hE 0 rfl rfl dX8_votes_0 ?_
  refine z_iload_n hE 1 rfl rfl dX8_votes_1 ?_
  refine z_callV hE (c_X8_isMember l0 D0 cI0 cJ0 ad S m (by omega) (by omega)) (by decide) rfl rfl zm_X8_64 zi_yX8_isMember zs_yX8_isMember zn_RX8 zc_yX8_isMember (hy_X8_isMember) (Nat.le_of_ble_eq_true rfl) (Nat.le_of_ble_eq_true rfl) rfl rfl rfl (Nat.le_of_ble_eq_true rfl) dX8_votes_2 ?_
  refine z_ifb_eq (tgt := 17) hE dX8_votes_5 (by decide) (fun c1 => ?_) (fun c1 => ?_)
  · refine z_ldc (a := -2000000001) hE zk_X8_68 (by decide) dX8_votes_17 ?_
    exact z_iret hE hR dX8_votes_19 (congrArg (fun x => some (Value.int (i32 x))) (by unfold rv_votes; first | ((rw [if_neg (by omega)]) <;> first | rfl | omega) | ((rw [if_pos (by omega)]) <;> first | rfl | omega))) (by first | rfl | (simp only [us_id]))
  · refine z_aload_n hE 0 rfl rfl dX8_votes_8 ?_
    refine z_iload_n hE 1 rfl rfl dX8_votes_9 ?_
    refine z_callV hE (c_X8_votesOf l0 D0 cI0 cJ0 ad S m hI0 (by omega)) (by decide) rfl rfl zm_X8_161 zi_yX8_votesOf zs_yX8_votesOf zn_RX8 zc_yX8_votesOf (hy_X8_votesOf) (Nat.le_of_ble_eq_true rfl) (Nat.le_of_ble_eq_true rfl) rfl rfl rfl (Nat.le_of_ble_eq_true rfl) dX8_votes_10 ?_
    refine z_l2i hE dX8_votes_13 ?_
    refine z_goto (tgt := 19) hE (d := dX8_votes_14) (ht := by decide) ?_
    exact z_iret hE hR dX8_votes_19 (congrArg (fun x => some (Value.int (i32 x))) (by unfold rv_votes; first | ((rw [if_neg (by omega)]) <;> first | rfl | omega) | ((rw [if_pos (by omega)]) <;> first | rfl | omega))) (by first | rfl | (simp only [us_id]))
theorem dX8_stage_0 : decode cX8_stage 0 = .ok (.aload_n 0, 1) := by decide +kernel
theorem dX8_stage_1 : decode cX8_stage 1 = .ok (.iload_n 1, 1) := by decide +kernel
theorem dX8_stage_2 : decode cX8_stage 2 = .ok (.invokevirtual 106, 3) := by decide +kernel
theorem dX8_stage_5 : decode cX8_stage 5 = .ok (.ifCond .eq 17, 3) := by decide +kernel
theorem dX8_stage_8 : decode cX8_stage 8 = .ok (.aload_n 0, 1) := by decide +kernel
theorem dX8_stage_9 : decode cX8_stage 9 = .ok (.getfield 7, 3) := by decide +kernel
theorem dX8_stage_12 : decode cX8_stage 12 = .ok (.iload_n 1, 1) := by decide +kernel
theorem dX8_stage_13 : decode cX8_stage 13 = .ok (.iconst 4, 1) := by decide +kernel
theorem dX8_stage_14 : decode cX8_stage 14 = .ok (.invokestatic 54, 3) := by decide +kernel
theorem dX8_stage_17 : decode cX8_stage 17 = .ok (.laload, 1) := by decide +kernel
theorem dX8_stage_18 : decode cX8_stage 18 = .ok (.l2i, 1) := by decide +kernel
theorem dX8_stage_19 : decode cX8_stage 19 = .ok (.goto 5, 3) := by decide +kernel
theorem dX8_stage_22 : decode cX8_stage 22 = .ok (.ldc 68, 2) := by decide +kernel
theorem dX8_stage_24 : decode cX8_stage 24 = .ok (.ireturn, 1) := by decide +kernel
theorem hy_X8_stage : yX8_stage.cls ≠ "java/lang/invoke/MethodHandle" ∧ yX8_stage.cls ≠ "java/lang/invoke/VarHandle" ∧ (parseMethodDescriptor yX8_stage.desc).map (fun d => d.parameters.length) = some 1 := ⟨by decide +kernel, by decide +kernel, by decide +kernel⟩
set_option maxHeartbeats 4000000 in
set_option maxRecDepth 100000 in
theorem c_X8_stage (l0 : Launch) (D0 : va_G) (cI0 cJ0 : ClassId) (ad : Nat → Nat → Nat) (S : zM) (o : Int) (hI : Inv (S 7)) (bb_o : -2147483648 ≤ o ∧ o < 2147483648) : Ct l0 D0 cI0 cJ0 ad yX8_stage cX8_stage 2 (some .int) 2 46 [.ref (ad 6 27), .int (i32 o)] S (some (.int (i32 (rv_stage (S 7) o)))) (fun X => X = S) := by
  refine Ct.of (by decide) (Nat.le_of_ble_eq_true rfl) (fun E hE hR => ?_)
  have hE : zG E l0 D0 cI0 cJ0 ad cX8_stage 2 RX8 2 46 := hE
  show Z E S 0 [(0, .ref (ad 6 27)), (1, .int (i32 o))] []
  have h67 : (6 : Nat) ≠ 7 := by decide
  have h76 : (7 : Nat) ≠ 6 := by decide
  have h68 : (6 : Nat) ≠ 8 := by decide
  have h86 : (8 : Nat) ≠ 6 := by decide
  have h78 : (7 : Nat) ≠ 8 := by decide
  have h87 : (8 : Nat) ≠ 7 := by decide
  have hI0 := hI.1
  have hA := inA hI0
  unfold InvA at hA
  refine z_aload_n hE 0 rfl rfl dX8_stage_0 ?_
  refine z_iload_n hE 1 rfl rfl dX8_stage_1 ?_
  refine z_callV hE (c_X8_isOffer l0 D0 cI0 cJ0 ad S o (by omega) (by omega)) (by decide) rfl rfl zm_X8_106 zi_yX8_isOffer zs_yX8_isOffer zn_RX8 zc_yX8_isOffer (hy_X8_isOffer) (Nat.le_of_ble_eq_true rfl) (Nat.le_of_ble_eq_true rfl) rfl rfl rfl (Nat.le_of_ble_eq_true rfl) dX8_stage_2 ?_
  refine z_ifb_eq (tgt := 22) hE dX8_stage_5 (by decide) (fun c1 => ?_) (fun c1 => ?_)
  · refine z_ldc (a := -2000000001) hE zk_X8_68 (by decide) dX8_stage_22 ?_
    exact z_iret hE hR dX8_stage_24 (congrArg (fun x => some (Value.int (i32 x))) (by unfold rv_stage; first | ((rw [if_neg (by omega)]) <;> first | rfl | omega) | ((rw [if_pos (by omega)]) <;> first | rfl | omega))) (by first | rfl | (simp only [us_id]))
  · refine z_aload_n hE 0 rfl rfl dX8_stage_8 ?_
    refine gf_8_0 hE (by decide) zf_X8_7 dX8_stage_9 ?_
    refine z_iload_n hE 1 rfl rfl dX8_stage_12 ?_
    refine z_iconst hE dX8_stage_13 ?_
    refine z_callS hE (c_X8_o l0 D0 cI0 cJ0 ad S o 4 (59 + 22 * o) (by omega)) zm_X8_54 zt_yX8_o zn_RX8 zc_yX8_o (hy_X8_o) (Nat.le_of_ble_eq_true rfl) (Nat.le_of_ble_eq_true rfl) rfl rfl rfl (Nat.le_of_ble_eq_true rfl) dX8_stage_14 ?_
    refine al_28 hE (by decide) (by omega) (by omega) dX8_stage_17 ?_
    refine z_l2i hE dX8_stage_18 ?_
    refine z_goto (tgt := 24) hE (d := dX8_stage_19) (ht := by decide) ?_
    exact z_iret hE hR dX8_stage_24 (congrArg (fun x => some (Value.int (i32 x))) (by unfold rv_stage; first | ((rw [if_neg (by omega)]) <;> first | rfl | omega) | ((rw [if_pos (by omega)]) <;> first | rfl | omega))) (by first | rfl | (simp only [us_id]))
theorem dX8_remaining_0 : decode cX8_remaining 0 = .ok (.aload_n 0, 1) := by decide +kernel
theorem dX8_remaining_1 : decode cX8_remaining 1 = .ok (.iload_n 1, 1) := by decide +kernel
theorem dX8_remaining_2 : decode cX8_remaining 2 = .ok (.invokevirtual 106, 3) := by decide +kernel
theorem dX8_remaining_5 : decode cX8_remaining 5 = .ok (.ifCond .eq 17, 3) := by decide +kernel
theorem dX8_remaining_8 : decode cX8_remaining 8 = .ok (.aload_n 0, 1) := by decide +kernel
theorem dX8_remaining_9 : decode cX8_remaining 9 = .ok (.getfield 7, 3) := by decide +kernel
theorem dX8_remaining_12 : decode cX8_remaining 12 = .ok (.iload_n 1, 1) := by decide +kernel
theorem dX8_remaining_13 : decode cX8_remaining 13 = .ok (.iconst 2, 1) := by decide +kernel
theorem dX8_remaining_14 : decode cX8_remaining 14 = .ok (.invokestatic 54, 3) := by decide +kernel
theorem dX8_remaining_17 : decode cX8_remaining 17 = .ok (.laload, 1) := by decide +kernel
theorem dX8_remaining_18 : decode cX8_remaining 18 = .ok (.l2i, 1) := by decide +kernel
theorem dX8_remaining_19 : decode cX8_remaining 19 = .ok (.goto 5, 3) := by decide +kernel
theorem dX8_remaining_22 : decode cX8_remaining 22 = .ok (.ldc 68, 2) := by decide +kernel
theorem dX8_remaining_24 : decode cX8_remaining 24 = .ok (.ireturn, 1) := by decide +kernel
theorem hy_X8_remaining : yX8_remaining.cls ≠ "java/lang/invoke/MethodHandle" ∧ yX8_remaining.cls ≠ "java/lang/invoke/VarHandle" ∧ (parseMethodDescriptor yX8_remaining.desc).map (fun d => d.parameters.length) = some 1 := ⟨by decide +kernel, by decide +kernel, by decide +kernel⟩
set_option maxHeartbeats 4000000 in
set_option maxRecDepth 100000 in
theorem c_X8_remaining (l0 : Launch) (D0 : va_G) (cI0 cJ0 : ClassId) (ad : Nat → Nat → Nat) (S : zM) (o : Int) (hI : Inv (S 7)) (bb_o : -2147483648 ≤ o ∧ o < 2147483648) : Ct l0 D0 cI0 cJ0 ad yX8_remaining cX8_remaining 2 (some .int) 2 46 [.ref (ad 6 27), .int (i32 o)] S (some (.int (i32 (rv_remaining (S 7) o)))) (fun X => X = S) := by
  refine Ct.of (by decide) (Nat.le_of_ble_eq_true rfl) (fun E hE hR => ?_)
  have hE : zG E l0 D0 cI0 cJ0 ad cX8_remaining 2 RX8 2 46 := hE
  show Z E S 0 [(0, .ref (ad 6 27)), (1, .int (i32 o))] []
  have h67 : (6 : Nat) ≠ 7 := by decide
  have h76 : (7 : Nat) ≠ 6 := by decide
  have h68 : (6 : Nat) ≠ 8 := by decide
  have h86 : (8 : Nat) ≠ 6 := by decide
  have h78 : (7 : Nat) ≠ 8 := by decide
  have h87 : (8 : Nat) ≠ 7 := by decide
  have hI0 := hI.1
  have hA := inA hI0
  unfold InvA at hA
  refine z_aload_n hE 0 rfl rfl dX8_remaining_0 ?_
  refine z_iload_n hE 1 rfl rfl dX8_remaining_1 ?_
  refine z_callV hE (c_X8_isOffer l0 D0 cI0 cJ0 ad S o (by omega) (by omega)) (by decide) rfl rfl zm_X8_106 zi_yX8_isOffer zs_yX8_isOffer zn_RX8 zc_yX8_isOffer (hy_X8_isOffer) (Nat.le_of_ble_eq_true rfl) (Nat.le_of_ble_eq_true rfl) rfl rfl rfl (Nat.le_of_ble_eq_true rfl) dX8_remaining_2 ?_
  refine z_ifb_eq (tgt := 22) hE dX8_remaining_5 (by decide) (fun c1 => ?_) (fun c1 => ?_)
  · refine z_ldc (a := -2000000001) hE zk_X8_68 (by decide) dX8_remaining_22 ?_
    exact z_iret hE hR dX8_remaining_24 (congrArg (fun x => some (Value.int (i32 x))) (by unfold rv_remaining; first | ((rw [if_neg (by omega)]) <;> first | rfl | omega) | ((rw [if_pos (by omega)]) <;> first | rfl | omega))) (by first | rfl | (simp only [us_id]))
  · refine z_aload_n hE 0 rfl rfl dX8_remaining_8 ?_
    refine gf_8_0 hE (by decide) zf_X8_7 dX8_remaining_9 ?_
    refine z_iload_n hE 1 rfl rfl dX8_remaining_12 ?_
    refine z_iconst hE dX8_remaining_13 ?_
    refine z_callS hE (c_X8_o l0 D0 cI0 cJ0 ad S o 2 (57 + 22 * o) (by omega)) zm_X8_54 zt_yX8_o zn_RX8 zc_yX8_o (hy_X8_o) (Nat.le_of_ble_eq_true rfl) (Nat.le_of_ble_eq_true rfl) rfl rfl rfl (Nat.le_of_ble_eq_true rfl) dX8_remaining_14 ?_
    refine al_28 hE (by decide) (by omega) (by omega) dX8_remaining_17 ?_
    refine z_l2i hE dX8_remaining_18 ?_
    refine z_goto (tgt := 24) hE (d := dX8_remaining_19) (ht := by decide) ?_
    exact z_iret hE hR dX8_remaining_24 (congrArg (fun x => some (Value.int (i32 x))) (by unfold rv_remaining; first | ((rw [if_neg (by omega)]) <;> first | rfl | omega) | ((rw [if_pos (by omega)]) <;> first | rfl | omega))) (by first | rfl | (simp only [us_id]))
theorem dX8_daysLeft_0 : decode cX8_daysLeft 0 = .ok (.aload_n 0, 1) := by decide +kernel
theorem dX8_daysLeft_1 : decode cX8_daysLeft 1 = .ok (.iload_n 1, 1) := by decide +kernel
theorem dX8_daysLeft_2 : decode cX8_daysLeft 2 = .ok (.invokevirtual 106, 3) := by decide +kernel
theorem dX8_daysLeft_5 : decode cX8_daysLeft 5 = .ok (.ifCond .ne 6, 3) := by decide +kernel
theorem dX8_daysLeft_8 : decode cX8_daysLeft 8 = .ok (.ldc 68, 2) := by decide +kernel
theorem dX8_daysLeft_10 : decode cX8_daysLeft 10 = .ok (.ireturn, 1) := by decide +kernel
theorem dX8_daysLeft_11 : decode cX8_daysLeft 11 = .ok (.aload_n 0, 1) := by decide +kernel
theorem dX8_daysLeft_12 : decode cX8_daysLeft 12 = .ok (.getfield 7, 3) := by decide +kernel
theorem dX8_daysLeft_15 : decode cX8_daysLeft 15 = .ok (.iload_n 1, 1) := by decide +kernel
theorem dX8_daysLeft_16 : decode cX8_daysLeft 16 = .ok (.iconst 4, 1) := by decide +kernel
theorem dX8_daysLeft_17 : decode cX8_daysLeft 17 = .ok (.invokestatic 54, 3) := by decide +kernel
theorem dX8_daysLeft_20 : decode cX8_daysLeft 20 = .ok (.laload, 1) := by decide +kernel
theorem dX8_daysLeft_21 : decode cX8_daysLeft 21 = .ok (.ldc2_w 33, 3) := by decide +kernel
theorem dX8_daysLeft_24 : decode cX8_daysLeft 24 = .ok (.lcmp, 1) := by decide +kernel
theorem dX8_daysLeft_25 : decode cX8_daysLeft 25 = .ok (.ifCond .ne 8, 3) := by decide +kernel
theorem dX8_daysLeft_28 : decode cX8_daysLeft 28 = .ok (.ldc 148, 2) := by decide +kernel
theorem dX8_daysLeft_30 : decode cX8_daysLeft 30 = .ok (.goto 14, 3) := by decide +kernel
theorem dX8_daysLeft_33 : decode cX8_daysLeft 33 = .ok (.aload_n 0, 1) := by decide +kernel
theorem dX8_daysLeft_34 : decode cX8_daysLeft 34 = .ok (.getfield 7, 3) := by decide +kernel
theorem dX8_daysLeft_37 : decode cX8_daysLeft 37 = .ok (.iload_n 1, 1) := by decide +kernel
theorem dX8_daysLeft_38 : decode cX8_daysLeft 38 = .ok (.iconst 5, 1) := by decide +kernel
theorem dX8_daysLeft_39 : decode cX8_daysLeft 39 = .ok (.invokestatic 54, 3) := by decide +kernel
theorem dX8_daysLeft_42 : decode cX8_daysLeft 42 = .ok (.laload, 1) := by decide +kernel
theorem dX8_daysLeft_43 : decode cX8_daysLeft 43 = .ok (.l2i, 1) := by decide +kernel
theorem dX8_daysLeft_44 : decode cX8_daysLeft 44 = .ok (.ireturn, 1) := by decide +kernel
theorem hy_X8_daysLeft : yX8_daysLeft.cls ≠ "java/lang/invoke/MethodHandle" ∧ yX8_daysLeft.cls ≠ "java/lang/invoke/VarHandle" ∧ (parseMethodDescriptor yX8_daysLeft.desc).map (fun d => d.parameters.length) = some 1 := ⟨by decide +kernel, by decide +kernel, by decide +kernel⟩
set_option maxHeartbeats 4000000 in
set_option maxRecDepth 100000 in
theorem c_X8_daysLeft (l0 : Launch) (D0 : va_G) (cI0 cJ0 : ClassId) (ad : Nat → Nat → Nat) (S : zM) (o : Int) (hI : Inv (S 7)) (bb_o : -2147483648 ≤ o ∧ o < 2147483648) : Ct l0 D0 cI0 cJ0 ad yX8_daysLeft cX8_daysLeft 2 (some .int) 2 46 [.ref (ad 6 27), .int (i32 o)] S (some (.int (i32 (rv_daysLeft (S 7) o)))) (fun X => X = S) := by
  refine Ct.of (by decide) (Nat.le_of_ble_eq_true rfl) (fun E hE hR => ?_)
  have hE : zG E l0 D0 cI0 cJ0 ad cX8_daysLeft 2 RX8 2 46 := hE
  show Z E S 0 [(0, .ref (ad 6 27)), (1, .int (i32 o))] []
  have h67 : (6 : Nat) ≠ 7 := by decide
  have h76 : (7 : Nat) ≠ 6 := by decide
  have h68 : (6 : Nat) ≠ 8 := by decide
  have h86 : (8 : Nat) ≠ 6 := by decide
  have h78 : (7 : Nat) ≠ 8 := by decide
  have h87 : (8 : Nat) ≠ 7 := by decide
  have hI0 := hI.1
  have hA := inA hI0
  unfold InvA at hA
  refine z_aload_n hE 0 rfl rfl dX8_daysLeft_0 ?_
  refine z_iload_n hE 1 rfl rfl dX8_daysLeft_1 ?_
  refine z_callV hE (c_X8_isOffer l0 D0 cI0 cJ0 ad S o (by omega) (by omega)) (by decide) rfl rfl zm_X8_106 zi_yX8_isOffer zs_yX8_isOffer zn_RX8 zc_yX8_isOffer (hy_X8_isOffer) (Nat.le_of_ble_eq_true rfl) (Nat.le_of_ble_eq_true rfl) rfl rfl rfl (Nat.le_of_ble_eq_true rfl) dX8_daysLeft_2 ?_
  refine z_ifb_ne (tgt := 11) hE dX8_daysLeft_5 (by decide) (fun c1 => ?_) (fun c1 => ?_)
  · have ho := inO hI0 o (by omega) (by omega)
    refine z_aload_n hE 0 rfl rfl dX8_daysLeft_11 ?_
    refine gf_8_0 hE (by decide) zf_X8_7 dX8_daysLeft_12 ?_
    refine z_iload_n hE 1 rfl rfl dX8_daysLeft_15 ?_
    refine z_iconst hE dX8_daysLeft_16 ?_
    refine z_callS hE (c_X8_o l0 D0 cI0 cJ0 ad S o 4 (59 + 22 * o) (by omega)) zm_X8_54 zt_yX8_o zn_RX8 zc_yX8_o (hy_X8_o) (Nat.le_of_ble_eq_true rfl) (Nat.le_of_ble_eq_true rfl) rfl rfl rfl (Nat.le_of_ble_eq_true rfl) dX8_daysLeft_17 ?_
    refine al_28 hE (by decide) (by omega) (by omega) dX8_daysLeft_20 ?_
    refine z_ldc2 (a := 3) hE zl_X8_33 (by decide) dX8_daysLeft_21 ?_
    refine z_lcmp hE ⟨by omega, by omega⟩ ⟨by omega, by omega⟩ dX8_daysLeft_24 ?_
    refine z_ifl_ne (tgt := 33) hE dX8_daysLeft_25 (by decide) (fun c2 => ?_) (fun c2 => ?_)
    · refine z_aload_n hE 0 rfl rfl dX8_daysLeft_33 ?_
      refine gf_8_0 hE (by decide) zf_X8_7 dX8_daysLeft_34 ?_
      refine z_iload_n hE 1 rfl rfl dX8_daysLeft_37 ?_
      refine z_iconst hE dX8_daysLeft_38 ?_
      refine z_callS hE (c_X8_o l0 D0 cI0 cJ0 ad S o 5 (60 + 22 * o) (by omega)) zm_X8_54 zt_yX8_o zn_RX8 zc_yX8_o (hy_X8_o) (Nat.le_of_ble_eq_true rfl) (Nat.le_of_ble_eq_true rfl) rfl rfl rfl (Nat.le_of_ble_eq_true rfl) dX8_daysLeft_39 ?_
      refine al_28 hE (by decide) (by omega) (by omega) dX8_daysLeft_42 ?_
      refine z_l2i hE dX8_daysLeft_43 ?_
      exact z_iret hE hR dX8_daysLeft_44 (congrArg (fun x => some (Value.int (i32 x))) (by unfold rv_daysLeft; first | rw [if_pos (by omega), if_neg (by omega)] | (rw [if_pos (by omega), if_pos (by omega)]; exact (hI.2.1 o (by omega) (by omega) (by omega)).2.symm))) (by first | rfl | (simp only [us_id]))
    · refine z_ldc (a := -2000000004) hE zk_X8_148 (by decide) dX8_daysLeft_28 ?_
      refine z_goto (tgt := 44) hE (d := dX8_daysLeft_30) (ht := by decide) ?_
      exact z_iret hE hR dX8_daysLeft_44 (congrArg (fun x => some (Value.int (i32 x))) (by unfold rv_daysLeft; first | rw [if_pos (by omega), if_neg (by omega)] | (rw [if_pos (by omega), if_pos (by omega)]; exact (hI.2.1 o (by omega) (by omega) (by omega)).2.symm))) (by first | rfl | (simp only [us_id]))
  · refine z_ldc (a := -2000000001) hE zk_X8_68 (by decide) dX8_daysLeft_8 ?_
    exact z_iret hE hR dX8_daysLeft_10 (congrArg (fun x => some (Value.int (i32 x))) (by unfold rv_daysLeft; first | ((rw [if_neg (by omega)]) <;> first | rfl | omega) | ((rw [if_pos (by omega), if_neg (by omega)]) <;> first | rfl | omega) | ((rw [if_pos (by omega), if_pos (by omega)]) <;> first | rfl | omega))) (by first | rfl | (simp only [us_id]))
theorem dX8_sold_0 : decode cX8_sold 0 = .ok (.aload_n 0, 1) := by decide +kernel
theorem dX8_sold_1 : decode cX8_sold 1 = .ok (.iload_n 1, 1) := by decide +kernel
theorem dX8_sold_2 : decode cX8_sold 2 = .ok (.invokevirtual 106, 3) := by decide +kernel
theorem dX8_sold_5 : decode cX8_sold 5 = .ok (.ifCond .eq 32, 3) := by decide +kernel
theorem dX8_sold_8 : decode cX8_sold 8 = .ok (.iload_n 2, 1) := by decide +kernel
theorem dX8_sold_9 : decode cX8_sold 9 = .ok (.i2l, 1) := by decide +kernel
theorem dX8_sold_10 : decode cX8_sold 10 = .ok (.lconst 0, 1) := by decide +kernel
theorem dX8_sold_11 : decode cX8_sold 11 = .ok (.ldc2_w 33, 3) := by decide +kernel
theorem dX8_sold_14 : decode cX8_sold 14 = .ok (.invokestatic 35, 3) := by decide +kernel
theorem dX8_sold_17 : decode cX8_sold 17 = .ok (.ifCond .eq 20, 3) := by decide +kernel
theorem dX8_sold_20 : decode cX8_sold 20 = .ok (.aload_n 0, 1) := by decide +kernel
theorem dX8_sold_21 : decode cX8_sold 21 = .ok (.getfield 7, 3) := by decide +kernel
theorem dX8_sold_24 : decode cX8_sold 24 = .ok (.iload_n 1, 1) := by decide +kernel
theorem dX8_sold_25 : decode cX8_sold 25 = .ok (.bipush 6, 2) := by decide +kernel
theorem dX8_sold_27 : decode cX8_sold 27 = .ok (.iload_n 2, 1) := by decide +kernel
theorem dX8_sold_28 : decode cX8_sold 28 = .ok (.iadd, 1) := by decide +kernel
theorem dX8_sold_29 : decode cX8_sold 29 = .ok (.invokestatic 54, 3) := by decide +kernel
theorem dX8_sold_32 : decode cX8_sold 32 = .ok (.laload, 1) := by decide +kernel
theorem dX8_sold_33 : decode cX8_sold 33 = .ok (.l2i, 1) := by decide +kernel
theorem dX8_sold_34 : decode cX8_sold 34 = .ok (.goto 5, 3) := by decide +kernel
theorem dX8_sold_37 : decode cX8_sold 37 = .ok (.ldc 68, 2) := by decide +kernel
theorem dX8_sold_39 : decode cX8_sold 39 = .ok (.ireturn, 1) := by decide +kernel
theorem hy_X8_sold : yX8_sold.cls ≠ "java/lang/invoke/MethodHandle" ∧ yX8_sold.cls ≠ "java/lang/invoke/VarHandle" ∧ (parseMethodDescriptor yX8_sold.desc).map (fun d => d.parameters.length) = some 2 := ⟨by decide +kernel, by decide +kernel, by decide +kernel⟩
set_option maxHeartbeats 4000000 in
set_option maxRecDepth 100000 in
theorem c_X8_sold (l0 : Launch) (D0 : va_G) (cI0 cJ0 : ClassId) (ad : Nat → Nat → Nat) (S : zM) (o : Int) (w : Int) (hI : Inv (S 7)) (bb_o : -2147483648 ≤ o ∧ o < 2147483648) (bb_w : -2147483648 ≤ w ∧ w < 2147483648) : Ct l0 D0 cI0 cJ0 ad yX8_sold cX8_sold 3 (some .int) 2 46 [.ref (ad 6 27), .int (i32 o), .int (i32 w)] S (some (.int (i32 (rv_sold (S 7) o w)))) (fun X => X = S) := by
  refine Ct.of (by decide) (Nat.le_of_ble_eq_true rfl) (fun E hE hR => ?_)
  have hE : zG E l0 D0 cI0 cJ0 ad cX8_sold 3 RX8 2 46 := hE
  show Z E S 0 [(0, .ref (ad 6 27)), (1, .int (i32 o)), (2, .int (i32 w))] []
  have h67 : (6 : Nat) ≠ 7 := by decide
  have h76 : (7 : Nat) ≠ 6 := by decide
  have h68 : (6 : Nat) ≠ 8 := by decide
  have h86 : (8 : Nat) ≠ 6 := by decide
  have h78 : (7 : Nat) ≠ 8 := by decide
  have h87 : (8 : Nat) ≠ 7 := by decide
  have hI0 := hI.1
  have hA := inA hI0
  unfold InvA at hA
  refine z_aload_n hE 0 rfl rfl dX8_sold_0 ?_
  refine z_iload_n hE 1 rfl rfl dX8_sold_1 ?_
  refine z_callV hE (c_X8_isOffer l0 D0 cI0 cJ0 ad S o (by omega) (by omega)) (by decide) rfl rfl zm_X8_106 zi_yX8_isOffer zs_yX8_isOffer zn_RX8 zc_yX8_isOffer (hy_X8_isOffer) (Nat.le_of_ble_eq_true rfl) (Nat.le_of_ble_eq_true rfl) rfl rfl rfl (Nat.le_of_ble_eq_true rfl) dX8_sold_2 ?_
  refine z_ifb_eq (tgt := 37) hE dX8_sold_5 (by decide) (fun c1 => ?_) (fun c1 => ?_)
  · refine z_ldc (a := -2000000001) hE zk_X8_68 (by decide) dX8_sold_37 ?_
    exact z_iret hE hR dX8_sold_39 (congrArg (fun x => some (Value.int (i32 x))) (by unfold rv_sold; first | ((rw [if_neg (by omega)]) <;> first | rfl | omega) | ((rw [if_pos (by omega)]) <;> first | rfl | omega))) (by first | rfl | (simp only [us_id]))
  · refine z_iload_n hE 2 rfl rfl dX8_sold_8 ?_
    refine z_i2l hE ⟨by omega, by omega⟩ dX8_sold_9 ?_
    refine z_lconst (a := 0) hE rfl dX8_sold_10 ?_
    refine z_ldc2 (a := 3) hE zl_X8_33 (by decide) dX8_sold_11 ?_
    refine z_callS hE (c_X8_in l0 D0 cI0 cJ0 ad S w 0 3 (⟨by omega, by omega⟩) (⟨by omega, by omega⟩) (⟨by omega, by omega⟩)) zm_X8_35 zt_yX8_in zn_RX8 zc_yX8_in (hy_X8_in) (Nat.le_of_ble_eq_true rfl) (Nat.le_of_ble_eq_true rfl) rfl rfl rfl (Nat.le_of_ble_eq_true rfl) dX8_sold_14 ?_
    refine z_ifb_eq (tgt := 37) hE dX8_sold_17 (by decide) (fun c2 => ?_) (fun c2 => ?_)
    · refine z_ldc (a := -2000000001) hE zk_X8_68 (by decide) dX8_sold_37 ?_
      exact z_iret hE hR dX8_sold_39 (congrArg (fun x => some (Value.int (i32 x))) (by unfold rv_sold; first | ((rw [if_neg (by omega)]) <;> first | rfl | omega) | ((rw [if_pos (by omega)]) <;> first | rfl | omega))) (by first | rfl | (simp only [us_id]))
    · refine z_aload_n hE 0 rfl rfl dX8_sold_20 ?_
      refine gf_8_0 hE (by decide) zf_X8_7 dX8_sold_21 ?_
      refine z_iload_n hE 1 rfl rfl dX8_sold_24 ?_
      refine z_bipush (a := 6) hE (by decide) dX8_sold_25 ?_
      refine z_iload_n hE 2 rfl rfl dX8_sold_27 ?_
      refine z_iadd hE dX8_sold_28 ?_
      refine z_callS hE (c_X8_o l0 D0 cI0 cJ0 ad S o (6 + w) (61 + 22 * o + w) (by omega)) zm_X8_54 zt_yX8_o zn_RX8 zc_yX8_o (hy_X8_o) (Nat.le_of_ble_eq_true rfl) (Nat.le_of_ble_eq_true rfl) rfl rfl rfl (Nat.le_of_ble_eq_true rfl) dX8_sold_29 ?_
      refine al_28 hE (by decide) (by omega) (by omega) dX8_sold_32 ?_
      refine z_l2i hE dX8_sold_33 ?_
      refine z_goto (tgt := 39) hE (d := dX8_sold_34) (ht := by decide) ?_
      exact z_iret hE hR dX8_sold_39 (congrArg (fun x => some (Value.int (i32 x))) (by unfold rv_sold; first | ((rw [if_neg (by omega)]) <;> first | rfl | omega) | ((rw [if_pos (by omega)]) <;> first | rfl | omega))) (by first | rfl | (simp only [us_id]))
theorem dX8_claimOf_0 : decode cX8_claimOf 0 = .ok (.aload_n 0, 1) := by decide +kernel
theorem dX8_claimOf_1 : decode cX8_claimOf 1 = .ok (.iload_n 1, 1) := by decide +kernel
theorem dX8_claimOf_2 : decode cX8_claimOf 2 = .ok (.invokevirtual 106, 3) := by decide +kernel
theorem dX8_claimOf_5 : decode cX8_claimOf 5 = .ok (.ifCond .eq 28, 3) := by decide +kernel
theorem dX8_claimOf_8 : decode cX8_claimOf 8 = .ok (.aload_n 0, 1) := by decide +kernel
theorem dX8_claimOf_9 : decode cX8_claimOf 9 = .ok (.iload_n 2, 1) := by decide +kernel
theorem dX8_claimOf_10 : decode cX8_claimOf 10 = .ok (.invokevirtual 64, 3) := by decide +kernel
theorem dX8_claimOf_13 : decode cX8_claimOf 13 = .ok (.ifCond .eq 20, 3) := by decide +kernel
theorem dX8_claimOf_16 : decode cX8_claimOf 16 = .ok (.aload_n 0, 1) := by decide +kernel
theorem dX8_claimOf_17 : decode cX8_claimOf 17 = .ok (.getfield 7, 3) := by decide +kernel
theorem dX8_claimOf_20 : decode cX8_claimOf 20 = .ok (.iload_n 1, 1) := by decide +kernel
theorem dX8_claimOf_21 : decode cX8_claimOf 21 = .ok (.bipush 10, 2) := by decide +kernel
theorem dX8_claimOf_23 : decode cX8_claimOf 23 = .ok (.iload_n 2, 1) := by decide +kernel
theorem dX8_claimOf_24 : decode cX8_claimOf 24 = .ok (.iadd, 1) := by decide +kernel
theorem dX8_claimOf_25 : decode cX8_claimOf 25 = .ok (.invokestatic 54, 3) := by decide +kernel
theorem dX8_claimOf_28 : decode cX8_claimOf 28 = .ok (.laload, 1) := by decide +kernel
theorem dX8_claimOf_29 : decode cX8_claimOf 29 = .ok (.l2i, 1) := by decide +kernel
theorem dX8_claimOf_30 : decode cX8_claimOf 30 = .ok (.goto 5, 3) := by decide +kernel
theorem dX8_claimOf_33 : decode cX8_claimOf 33 = .ok (.ldc 68, 2) := by decide +kernel
theorem dX8_claimOf_35 : decode cX8_claimOf 35 = .ok (.ireturn, 1) := by decide +kernel
theorem hy_X8_claimOf : yX8_claimOf.cls ≠ "java/lang/invoke/MethodHandle" ∧ yX8_claimOf.cls ≠ "java/lang/invoke/VarHandle" ∧ (parseMethodDescriptor yX8_claimOf.desc).map (fun d => d.parameters.length) = some 2 := ⟨by decide +kernel, by decide +kernel, by decide +kernel⟩
set_option maxHeartbeats 4000000 in
set_option maxRecDepth 100000 in
theorem c_X8_claimOf (l0 : Launch) (D0 : va_G) (cI0 cJ0 : ClassId) (ad : Nat → Nat → Nat) (S : zM) (o : Int) (m : Int) (hI : Inv (S 7)) (bb_o : -2147483648 ≤ o ∧ o < 2147483648) (bb_m : -2147483648 ≤ m ∧ m < 2147483648) : Ct l0 D0 cI0 cJ0 ad yX8_claimOf cX8_claimOf 3 (some .int) 2 46 [.ref (ad 6 27), .int (i32 o), .int (i32 m)] S (some (.int (i32 (rv_claimOf (S 7) o m)))) (fun X => X = S) := by
  refine Ct.of (by decide) (Nat.le_of_ble_eq_true rfl) (fun E hE hR => ?_)
  have hE : zG E l0 D0 cI0 cJ0 ad cX8_claimOf 3 RX8 2 46 := hE
  show Z E S 0 [(0, .ref (ad 6 27)), (1, .int (i32 o)), (2, .int (i32 m))] []
  have h67 : (6 : Nat) ≠ 7 := by decide
  have h76 : (7 : Nat) ≠ 6 := by decide
  have h68 : (6 : Nat) ≠ 8 := by decide
  have h86 : (8 : Nat) ≠ 6 := by decide
  have h78 : (7 : Nat) ≠ 8 := by decide
  have h87 : (8 : Nat) ≠ 7 := by decide
  have hI0 := hI.1
  have hA := inA hI0
  unfold InvA at hA
  refine z_aload_n hE 0 rfl rfl dX8_claimOf_0 ?_
  refine z_iload_n hE 1 rfl rfl dX8_claimOf_1 ?_
  refine z_callV hE (c_X8_isOffer l0 D0 cI0 cJ0 ad S o (by omega) (by omega)) (by decide) rfl rfl zm_X8_106 zi_yX8_isOffer zs_yX8_isOffer zn_RX8 zc_yX8_isOffer (hy_X8_isOffer) (Nat.le_of_ble_eq_true rfl) (Nat.le_of_ble_eq_true rfl) rfl rfl rfl (Nat.le_of_ble_eq_true rfl) dX8_claimOf_2 ?_
  refine z_ifb_eq (tgt := 33) hE dX8_claimOf_5 (by decide) (fun c1 => ?_) (fun c1 => ?_)
  · refine z_ldc (a := -2000000001) hE zk_X8_68 (by decide) dX8_claimOf_33 ?_
    exact z_iret hE hR dX8_claimOf_35 (congrArg (fun x => some (Value.int (i32 x))) (by unfold rv_claimOf; first | ((rw [if_neg (by omega)]) <;> first | rfl | omega) | ((rw [if_pos (by omega)]) <;> first | rfl | omega))) (by first | rfl | (simp only [us_id]))
  · refine z_aload_n hE 0 rfl rfl dX8_claimOf_8 ?_
    refine z_iload_n hE 2 rfl rfl dX8_claimOf_9 ?_
    refine z_callV hE (c_X8_isMember l0 D0 cI0 cJ0 ad S m (by omega) (by omega)) (by decide) rfl rfl zm_X8_64 zi_yX8_isMember zs_yX8_isMember zn_RX8 zc_yX8_isMember (hy_X8_isMember) (Nat.le_of_ble_eq_true rfl) (Nat.le_of_ble_eq_true rfl) rfl rfl rfl (Nat.le_of_ble_eq_true rfl) dX8_claimOf_10 ?_
    refine z_ifb_eq (tgt := 33) hE dX8_claimOf_13 (by decide) (fun c2 => ?_) (fun c2 => ?_)
    · refine z_ldc (a := -2000000001) hE zk_X8_68 (by decide) dX8_claimOf_33 ?_
      exact z_iret hE hR dX8_claimOf_35 (congrArg (fun x => some (Value.int (i32 x))) (by unfold rv_claimOf; first | ((rw [if_neg (by omega)]) <;> first | rfl | omega) | ((rw [if_pos (by omega)]) <;> first | rfl | omega))) (by first | rfl | (simp only [us_id]))
    · refine z_aload_n hE 0 rfl rfl dX8_claimOf_16 ?_
      refine gf_8_0 hE (by decide) zf_X8_7 dX8_claimOf_17 ?_
      refine z_iload_n hE 1 rfl rfl dX8_claimOf_20 ?_
      refine z_bipush (a := 10) hE (by decide) dX8_claimOf_21 ?_
      refine z_iload_n hE 2 rfl rfl dX8_claimOf_23 ?_
      refine z_iadd hE dX8_claimOf_24 ?_
      refine z_callS hE (c_X8_o l0 D0 cI0 cJ0 ad S o (10 + m) (65 + 22 * o + m) (by omega)) zm_X8_54 zt_yX8_o zn_RX8 zc_yX8_o (hy_X8_o) (Nat.le_of_ble_eq_true rfl) (Nat.le_of_ble_eq_true rfl) rfl rfl rfl (Nat.le_of_ble_eq_true rfl) dX8_claimOf_25 ?_
      refine al_28 hE (by decide) (by omega) (by omega) dX8_claimOf_28 ?_
      refine z_l2i hE dX8_claimOf_29 ?_
      refine z_goto (tgt := 35) hE (d := dX8_claimOf_30) (ht := by decide) ?_
      exact z_iret hE hR dX8_claimOf_35 (congrArg (fun x => some (Value.int (i32 x))) (by unfold rv_claimOf; first | ((rw [if_neg (by omega)]) <;> first | rfl | omega) | ((rw [if_pos (by omega)]) <;> first | rfl | omega))) (by first | rfl | (simp only [us_id]))
theorem dX8_motionState_0 : decode cX8_motionState 0 = .ok (.aload_n 0, 1) := by decide +kernel
theorem dX8_motionState_1 : decode cX8_motionState 1 = .ok (.iload_n 1, 1) := by decide +kernel
theorem dX8_motionState_2 : decode cX8_motionState 2 = .ok (.invokevirtual 155, 3) := by decide +kernel
theorem dX8_motionState_5 : decode cX8_motionState 5 = .ok (.ifCond .eq 17, 3) := by decide +kernel
theorem dX8_motionState_8 : decode cX8_motionState 8 = .ok (.aload_n 0, 1) := by decide +kernel
theorem dX8_motionState_9 : decode cX8_motionState 9 = .ok (.getfield 7, 3) := by decide +kernel
theorem dX8_motionState_12 : decode cX8_motionState 12 = .ok (.iload_n 1, 1) := by decide +kernel
theorem dX8_motionState_13 : decode cX8_motionState 13 = .ok (.iconst 2, 1) := by decide +kernel
theorem dX8_motionState_14 : decode cX8_motionState 14 = .ok (.invokestatic 152, 3) := by decide +kernel
theorem dX8_motionState_17 : decode cX8_motionState 17 = .ok (.laload, 1) := by decide +kernel
theorem dX8_motionState_18 : decode cX8_motionState 18 = .ok (.l2i, 1) := by decide +kernel
theorem dX8_motionState_19 : decode cX8_motionState 19 = .ok (.goto 5, 3) := by decide +kernel
theorem dX8_motionState_22 : decode cX8_motionState 22 = .ok (.ldc 68, 2) := by decide +kernel
theorem dX8_motionState_24 : decode cX8_motionState 24 = .ok (.ireturn, 1) := by decide +kernel
theorem hy_X8_motionState : yX8_motionState.cls ≠ "java/lang/invoke/MethodHandle" ∧ yX8_motionState.cls ≠ "java/lang/invoke/VarHandle" ∧ (parseMethodDescriptor yX8_motionState.desc).map (fun d => d.parameters.length) = some 1 := ⟨by decide +kernel, by decide +kernel, by decide +kernel⟩
set_option maxHeartbeats 4000000 in
set_option maxRecDepth 100000 in
theorem c_X8_motionState (l0 : Launch) (D0 : va_G) (cI0 cJ0 : ClassId) (ad : Nat → Nat → Nat) (S : zM) (q : Int) (hI : Inv (S 7)) (bb_q : -2147483648 ≤ q ∧ q < 2147483648) : Ct l0 D0 cI0 cJ0 ad yX8_motionState cX8_motionState 2 (some .int) 2 46 [.ref (ad 6 27), .int (i32 q)] S (some (.int (i32 (rv_motionState (S 7) q)))) (fun X => X = S) := by
  refine Ct.of (by decide) (Nat.le_of_ble_eq_true rfl) (fun E hE hR => ?_)
  have hE : zG E l0 D0 cI0 cJ0 ad cX8_motionState 2 RX8 2 46 := hE
  show Z E S 0 [(0, .ref (ad 6 27)), (1, .int (i32 q))] []
  have h67 : (6 : Nat) ≠ 7 := by decide
  have h76 : (7 : Nat) ≠ 6 := by decide
  have h68 : (6 : Nat) ≠ 8 := by decide
  have h86 : (8 : Nat) ≠ 6 := by decide
  have h78 : (7 : Nat) ≠ 8 := by decide
  have h87 : (8 : Nat) ≠ 7 := by decide
  have hI0 := hI.1
  have hA := inA hI0
  unfold InvA at hA
  refine z_aload_n hE 0 rfl rfl dX8_motionState_0 ?_
  refine z_iload_n hE 1 rfl rfl dX8_motionState_1 ?_
  refine z_callV hE (c_X8_isMotion l0 D0 cI0 cJ0 ad S q (by omega) (by omega)) (by decide) rfl rfl zm_X8_155 zi_yX8_isMotion zs_yX8_isMotion zn_RX8 zc_yX8_isMotion (hy_X8_isMotion) (Nat.le_of_ble_eq_true rfl) (Nat.le_of_ble_eq_true rfl) rfl rfl rfl (Nat.le_of_ble_eq_true rfl) dX8_motionState_2 ?_
  refine z_ifb_eq (tgt := 22) hE dX8_motionState_5 (by decide) (fun c1 => ?_) (fun c1 => ?_)
  · refine z_ldc (a := -2000000001) hE zk_X8_68 (by decide) dX8_motionState_22 ?_
    exact z_iret hE hR dX8_motionState_24 (congrArg (fun x => some (Value.int (i32 x))) (by unfold rv_motionState; first | ((rw [if_neg (by omega)]) <;> first | rfl | omega) | ((rw [if_pos (by omega)]) <;> first | rfl | omega))) (by first | rfl | (simp only [us_id]))
  · refine z_aload_n hE 0 rfl rfl dX8_motionState_8 ?_
    refine gf_8_0 hE (by decide) zf_X8_7 dX8_motionState_9 ?_
    refine z_iload_n hE 1 rfl rfl dX8_motionState_12 ?_
    refine z_iconst hE dX8_motionState_13 ?_
    refine z_callS hE (c_X8_q l0 D0 cI0 cJ0 ad S q 2 (497 + 15 * q) (by omega)) zm_X8_152 zt_yX8_q zn_RX8 zc_yX8_q (hy_X8_q) (Nat.le_of_ble_eq_true rfl) (Nat.le_of_ble_eq_true rfl) rfl rfl rfl (Nat.le_of_ble_eq_true rfl) dX8_motionState_14 ?_
    refine al_28 hE (by decide) (by omega) (by omega) dX8_motionState_17 ?_
    refine z_l2i hE dX8_motionState_18 ?_
    refine z_goto (tgt := 24) hE (d := dX8_motionState_19) (ht := by decide) ?_
    exact z_iret hE hR dX8_motionState_24 (congrArg (fun x => some (Value.int (i32 x))) (by unfold rv_motionState; first | ((rw [if_neg (by omega)]) <;> first | rfl | omega) | ((rw [if_pos (by omega)]) <;> first | rfl | omega))) (by first | rfl | (simp only [us_id]))
theorem dX8_votesFor_0 : decode cX8_votesFor 0 = .ok (.aload_n 0, 1) := by decide +kernel
theorem dX8_votesFor_1 : decode cX8_votesFor 1 = .ok (.iload_n 1, 1) := by decide +kernel
theorem dX8_votesFor_2 : decode cX8_votesFor 2 = .ok (.invokevirtual 155, 3) := by decide +kernel
theorem dX8_votesFor_5 : decode cX8_votesFor 5 = .ok (.ifCond .eq 13, 3) := by decide +kernel
theorem dX8_votesFor_8 : decode cX8_votesFor 8 = .ok (.aload_n 0, 1) := by decide +kernel
theorem dX8_votesFor_9 : decode cX8_votesFor 9 = .ok (.iload_n 1, 1) := by decide +kernel
theorem dX8_votesFor_10 : decode cX8_votesFor 10 = .ok (.lconst 1, 1) := by decide +kernel
theorem dX8_votesFor_11 : decode cX8_votesFor 11 = .ok (.invokevirtual 164, 3) := by decide +kernel
theorem dX8_votesFor_14 : decode cX8_votesFor 14 = .ok (.l2i, 1) := by decide +kernel
theorem dX8_votesFor_15 : decode cX8_votesFor 15 = .ok (.goto 5, 3) := by decide +kernel
theorem dX8_votesFor_18 : decode cX8_votesFor 18 = .ok (.ldc 68, 2) := by decide +kernel
theorem dX8_votesFor_20 : decode cX8_votesFor 20 = .ok (.ireturn, 1) := by decide +kernel
theorem hy_X8_votesFor : yX8_votesFor.cls ≠ "java/lang/invoke/MethodHandle" ∧ yX8_votesFor.cls ≠ "java/lang/invoke/VarHandle" ∧ (parseMethodDescriptor yX8_votesFor.desc).map (fun d => d.parameters.length) = some 1 := ⟨by decide +kernel, by decide +kernel, by decide +kernel⟩
set_option maxHeartbeats 4000000 in
set_option maxRecDepth 100000 in
theorem c_X8_votesFor (l0 : Launch) (D0 : va_G) (cI0 cJ0 : ClassId) (ad : Nat → Nat → Nat) (S : zM) (q : Int) (hI : Inv (S 7)) (bb_q : -2147483648 ≤ q ∧ q < 2147483648) : Ct l0 D0 cI0 cJ0 ad yX8_votesFor cX8_votesFor 2 (some .int) 3 72 [.ref (ad 6 27), .int (i32 q)] S (some (.int (i32 (rv_votesFor (S 7) q)))) (fun X => X = S) := by
  refine Ct.of (by decide) (Nat.le_of_ble_eq_true rfl) (fun E hE hR => ?_)
  have hE : zG E l0 D0 cI0 cJ0 ad cX8_votesFor 2 RX8 3 72 := hE
  show Z E S 0 [(0, .ref (ad 6 27)), (1, .int (i32 q))] []
  have h67 : (6 : Nat) ≠ 7 := by decide
  have h76 : (7 : Nat) ≠ 6 := by decide
  have h68 : (6 : Nat) ≠ 8 := by decide
  have h86 : (8 : Nat) ≠ 6 := by decide
  have h78 : (7 : Nat) ≠ 8 := by decide
  have h87 : (8 : Nat) ≠ 7 := by decide
  have hI0 := hI.1
  have hA := inA hI0
  unfold InvA at hA
  refine z_aload_n hE 0 rfl rfl dX8_votesFor_0 ?_
  refine z_iload_n hE 1 rfl rfl dX8_votesFor_1 ?_
  refine z_callV hE (c_X8_isMotion l0 D0 cI0 cJ0 ad S q (by omega) (by omega)) (by decide) rfl rfl zm_X8_155 zi_yX8_isMotion zs_yX8_isMotion zn_RX8 zc_yX8_isMotion (hy_X8_isMotion) (Nat.le_of_ble_eq_true rfl) (Nat.le_of_ble_eq_true rfl) rfl rfl rfl (Nat.le_of_ble_eq_true rfl) dX8_votesFor_2 ?_
  refine z_ifb_eq (tgt := 18) hE dX8_votesFor_5 (by decide) (fun c1 => ?_) (fun c1 => ?_)
  · refine z_ldc (a := -2000000001) hE zk_X8_68 (by decide) dX8_votesFor_18 ?_
    exact z_iret hE hR dX8_votesFor_20 (congrArg (fun x => some (Value.int (i32 x))) (by unfold rv_votesFor; first | ((rw [if_neg (by omega)]) <;> first | rfl | omega) | ((rw [if_pos (by omega)]) <;> first | rfl | omega))) (by first | rfl | (simp only [us_id]))
  · refine z_aload_n hE 0 rfl rfl dX8_votesFor_8 ?_
    refine z_iload_n hE 1 rfl rfl dX8_votesFor_9 ?_
    refine z_lconst (a := 1) hE rfl dX8_votesFor_10 ?_
    refine z_callV hE (c_X8_sum l0 D0 cI0 cJ0 ad S q 1 hI0 (by omega) (by omega)) (by decide) rfl rfl zm_X8_164 zi_yX8_sum zs_yX8_sum zn_RX8 zc_yX8_sum (hy_X8_sum) (Nat.le_of_ble_eq_true rfl) (Nat.le_of_ble_eq_true rfl) rfl rfl rfl (Nat.le_of_ble_eq_true rfl) dX8_votesFor_11 ?_
    refine z_l2i hE dX8_votesFor_14 ?_
    refine z_goto (tgt := 20) hE (d := dX8_votesFor_15) (ht := by decide) ?_
    exact z_iret hE hR dX8_votesFor_20 (congrArg (fun x => some (Value.int (i32 x))) (by unfold rv_votesFor; first | ((rw [if_neg (by omega)]) <;> first | rfl | omega) | ((rw [if_pos (by omega)]) <;> first | rfl | omega))) (by first | rfl | (simp only [us_id]))
theorem dX8_historySize_0 : decode cX8_historySize 0 = .ok (.aload_n 0, 1) := by decide +kernel
theorem dX8_historySize_1 : decode cX8_historySize 1 = .ok (.getfield 39, 3) := by decide +kernel
theorem dX8_historySize_4 : decode cX8_historySize 4 = .ok (.ireturn, 1) := by decide +kernel
theorem hy_X8_historySize : yX8_historySize.cls ≠ "java/lang/invoke/MethodHandle" ∧ yX8_historySize.cls ≠ "java/lang/invoke/VarHandle" ∧ (parseMethodDescriptor yX8_historySize.desc).map (fun d => d.parameters.length) = some 0 := ⟨by decide +kernel, by decide +kernel, by decide +kernel⟩
set_option maxHeartbeats 4000000 in
set_option maxRecDepth 100000 in
theorem c_X8_historySize (l0 : Launch) (D0 : va_G) (cI0 cJ0 : ClassId) (ad : Nat → Nat → Nat) (S : zM) : Ct l0 D0 cI0 cJ0 ad yX8_historySize cX8_historySize 1 (some .int) 0 0 [.ref (ad 6 27)] S (some (.int (i32 (S 6 0)))) (fun X => X = S) := by
  refine Ct.of (by decide) (Nat.le_of_ble_eq_true rfl) (fun E hE hR => ?_)
  have hE : zG E l0 D0 cI0 cJ0 ad cX8_historySize 1 RX8 0 0 := hE
  show Z E S 0 [(0, .ref (ad 6 27))] []
  refine z_aload_n hE 0 rfl rfl dX8_historySize_0 ?_
  refine gf_8_2 hE (by decide) zf_X8_39 dX8_historySize_1 ?_
  exact z_iret hE hR dX8_historySize_4 (congrArg (fun x => some (Value.int (i32 x))) (by first | rfl | omega)) (by first | rfl | (simp only [us_id]))
