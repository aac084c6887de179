theorem fdl_s {a b : Int} (hb : 0 < b) : -b < a - a.tdiv b * b ∧ a - a.tdiv b * b < b := by
  have e := @tdiv_mul a b
  have h1 : a.tmod b < b := Int.tmod_lt_of_pos a hb
  have h3 : -b < a.tmod b := Int.lt_tmod_of_pos a hb
  omega
theorem fdl_b {a b : Int} (hb : 0 < b) (h : b64 b) : b64 (a - a.tdiv b * b) := by
  have := fdl_s (a := a) hb
  have := h.2
  exact ⟨by omega, by omega⟩
theorem fdl_1 {a b : Int} (hb : 0 < b) (h : ¬ 0 ≤ a - a.tdiv b * b) : a.tdiv b - 1 = a / b := by
  have e := @tdiv_mul a b
  refine fdiv_3 hb (fun q => ?_) (by omega)
  have h5 := Int.tmod_nonneg b q
  omega
theorem fdl_2 {a b : Int} (hb : 0 < b) (h : 0 ≤ a - a.tdiv b * b) : a.tdiv b = a / b := by
  have e := @tdiv_mul a b
  rcases Int.le_total 0 a with q | q
  · exact fdiv_1 hb q
  · have h5 := Int.tmod_nonneg b (a := -a) (by omega)
    rw [Int.neg_tmod] at h5
    exact fdiv_2 hb (by omega)
theorem z_mem7 {E : zE} {l0 : Launch} {D0 : va_G} {cI0 cJ0 : ClassId} {ad : Nat → Nat → Nat} {cc : ByteArray} {nL0 fr lo : Nat} {own : String} {S : zM} {pc : Nat} {L : List (Nat × Value)} {st : List Value} {f g : Int → Int} (hE : zG E l0 D0 cI0 cJ0 ad cc nL0 own fr lo) (h : ∀ q : Int, 0 ≤ q → q < 645 → f q = g q) (k : Z E (us S 7 g) pc L st) : Z E (us S 7 f) pc L st := by
  refine z_mem hE (fun r' j hk => cf_cg fun q hq => ?_) k
  unfold us
  split
  · rename_i e
    subst e
    have hj : j = 28 := by
      have key : ∀ x ∈ ks, x.1 = 7 → x.2 = 28 := by decide +kernel
      exact key _ hk rfl
    subst hj
    unfold kz at hq
    rw [if_neg (by decide), if_neg (by decide), if_pos rfl] at hq
    exact h q hq.1 hq.2
  · rfl
def shf (p : Int → Int) (i : Int) : Int → Int := fun q => if 0 ≤ q ∧ q < i then p (q + 645) else p q
theorem shf_0 (p : Int → Int) : shf p 0 = p := by funext q; unfold shf; rw [if_neg (by omega)]
theorem shf_s {p : Int → Int} {i : Int} (h : 0 ≤ i) : up (shf p i) i (shf p i (i + 645)) = shf p (i + 1) := by
  funext q
  by_cases e : q = i
  · rw [e, up_eq]; unfold shf; rw [if_neg (by omega), if_pos (by omega)]
  · rw [up_ne e]; unfold shf
    by_cases c : 0 ≤ q ∧ q < i
    · rw [if_pos c, if_pos (by omega)]
    · rw [if_neg c, if_neg (by omega)]
def pcy (p s : Int → Int) (n i : Int) : Int → Int := fun q => if 645 * n ≤ q ∧ q < 645 * n + i then s (q - 645 * n) else p q
theorem pcy_0 (p s : Int → Int) (n : Int) : pcy p s n 0 = p := by funext q; unfold pcy; rw [if_neg (by omega)]
theorem pcy_s {p s : Int → Int} {n i : Int} (h : 0 ≤ i) : up (pcy p s n i) (645 * n + i) (s i) = pcy p s n (i + 1) := by
  funext q
  by_cases e : q = 645 * n + i
  · rw [e, up_eq]; unfold pcy; rw [if_pos (by omega), show 645 * n + i - 645 * n = i by omega]
  · rw [up_ne e]; unfold pcy
    by_cases c : 645 * n ≤ q ∧ q < 645 * n + i
    · rw [if_pos c, if_pos (by omega)]
    · rw [if_neg c, if_neg (by omega)]
/-- the model's row of states with one more -/
def mp (p t : Int → Int) (n : Int) : Int → Int := pcy (if n = 4 then shf p 1935 else p) t (min n 3) 645
theorem dX8_in_0 : decode cX8_in 0 = .ok (.lload_n 0, 1) := by decide +kernel
theorem dX8_in_1 : decode cX8_in 1 = .ok (.lload_n 2, 1) := by decide +kernel
theorem dX8_in_2 : decode cX8_in 2 = .ok (.lcmp, 1) := by decide +kernel
theorem dX8_in_3 : decode cX8_in 3 = .ok (.ifCond .lt 14, 3) := by decide +kernel
theorem dX8_in_6 : decode cX8_in 6 = .ok (.lload_n 0, 1) := by decide +kernel
theorem dX8_in_7 : decode cX8_in 7 = .ok (.lload 4, 2) := by decide +kernel
theorem dX8_in_9 : decode cX8_in 9 = .ok (.lcmp, 1) := by decide +kernel
theorem dX8_in_10 : decode cX8_in 10 = .ok (.ifCond .gt 7, 3) := by decide +kernel
theorem dX8_in_13 : decode cX8_in 13 = .ok (.iconst 1, 1) := by decide +kernel
theorem dX8_in_14 : decode cX8_in 14 = .ok (.goto 4, 3) := by decide +kernel
theorem dX8_in_17 : decode cX8_in 17 = .ok (.iconst 0, 1) := by decide +kernel
theorem dX8_in_18 : decode cX8_in 18 = .ok (.ireturn, 1) := by decide +kernel
theorem hy_X8_in : yX8_in.cls ≠ "java/lang/invoke/MethodHandle" ∧ yX8_in.cls ≠ "java/lang/invoke/VarHandle" ∧ (parseMethodDescriptor yX8_in.desc).map (fun d => d.parameters.length) = some 3 := ⟨by decide +kernel, by decide +kernel, by decide +kernel⟩
set_option maxHeartbeats 4000000 in
set_option maxRecDepth 100000 in
theorem c_X8_in (l0 : Launch) (D0 : va_G) (cI0 cJ0 : ClassId) (ad : Nat → Nat → Nat) (S : zM) (a : Int) (b : Int) (c : Int) (ha : b64 a) (hb : b64 b) (hc : b64 c) : Ct l0 D0 cI0 cJ0 ad yX8_in cX8_in 6 (some .boolean) 0 0 [.long (i64 a), .long (i64 b), .long (i64 c)] S (some (.int (i32 (zbo (b ≤ a ∧ a ≤ c))))) (fun X => X = S) := by
  refine Ct.of (by decide) (Nat.le_of_ble_eq_true rfl) (fun E hE hR => ?_)
  have hE : zG E l0 D0 cI0 cJ0 ad cX8_in 6 RX8 0 0 := hE
  show Z E S 0 [(0, .long (i64 a)), (2, .long (i64 b)), (4, .long (i64 c))] []
  refine z_lload_n hE 0 rfl rfl dX8_in_0 ?_
  refine z_lload_n hE 1 rfl rfl dX8_in_1 ?_
  refine z_lcmp hE ⟨by first | exact ha.1 | exact ha.2 | exact hb.1 | exact hb.2 | exact hc.1 | exact hc.2, by first | exact ha.1 | exact ha.2 | exact hb.1 | exact hb.2 | exact hc.1 | exact hc.2⟩ ⟨by first | exact ha.1 | exact ha.2 | exact hb.1 | exact hb.2 | exact hc.1 | exact hc.2, by first | exact ha.1 | exact ha.2 | exact hb.1 | exact hb.2 | exact hc.1 | exact hc.2⟩ dX8_in_2 ?_
  refine z_ifl_lt (tgt := 17) hE dX8_in_3 (by decide) (fun c1 => ?_) (fun c1 => ?_)
  · refine z_iconst hE dX8_in_17 ?_
    exact z_zret hE hR dX8_in_18 (by decide) (congrArg (fun x => some (Value.int (i32 x))) (by unfold zbo; first | rw [if_pos (by omega)] | rw [if_neg (by omega)])) (by first | rfl | (simp only [us_id]))
  · refine z_lload_n hE 0 rfl rfl dX8_in_6 ?_
    refine z_lload hE 2 rfl dX8_in_7 ?_
    refine z_lcmp hE ⟨by first | exact ha.1 | exact ha.2 | exact hb.1 | exact hb.2 | exact hc.1 | exact hc.2, by first | exact ha.1 | exact ha.2 | exact hb.1 | exact hb.2 | exact hc.1 | exact hc.2⟩ ⟨by first | exact ha.1 | exact ha.2 | exact hb.1 | exact hb.2 | exact hc.1 | exact hc.2, by first | exact ha.1 | exact ha.2 | exact hb.1 | exact hb.2 | exact hc.1 | exact hc.2⟩ dX8_in_9 ?_
    refine z_ifl_gt (tgt := 17) hE dX8_in_10 (by decide) (fun c2 => ?_) (fun c2 => ?_)
    · refine z_iconst hE dX8_in_17 ?_
      exact z_zret hE hR dX8_in_18 (by decide) (congrArg (fun x => some (Value.int (i32 x))) (by unfold zbo; first | rw [if_pos (by omega)] | rw [if_neg (by omega)])) (by first | rfl | (simp only [us_id]))
    · refine z_iconst hE dX8_in_13 ?_
      refine z_goto (tgt := 18) hE (d := dX8_in_14) (ht := by decide) ?_
      exact z_zret hE hR dX8_in_18 (by decide) (congrArg (fun x => some (Value.int (i32 x))) (by unfold zbo; first | rw [if_pos (by omega)] | rw [if_neg (by omega)])) (by first | rfl | (simp only [us_id]))
theorem dX8_least_0 : decode cX8_least 0 = .ok (.lload_n 0, 1) := by decide +kernel
theorem dX8_least_1 : decode cX8_least 1 = .ok (.lload_n 2, 1) := by decide +kernel
theorem dX8_least_2 : decode cX8_least 2 = .ok (.lcmp, 1) := by decide +kernel
theorem dX8_least_3 : decode cX8_least 3 = .ok (.ifCond .ge 7, 3) := by decide +kernel
theorem dX8_least_6 : decode cX8_least 6 = .ok (.lload_n 0, 1) := by decide +kernel
theorem dX8_least_7 : decode cX8_least 7 = .ok (.goto 4, 3) := by decide +kernel
theorem dX8_least_10 : decode cX8_least 10 = .ok (.lload_n 2, 1) := by decide +kernel
theorem dX8_least_11 : decode cX8_least 11 = .ok (.lreturn, 1) := by decide +kernel
theorem hy_X8_least : yX8_least.cls ≠ "java/lang/invoke/MethodHandle" ∧ yX8_least.cls ≠ "java/lang/invoke/VarHandle" ∧ (parseMethodDescriptor yX8_least.desc).map (fun d => d.parameters.length) = some 2 := ⟨by decide +kernel, by decide +kernel, by decide +kernel⟩
set_option maxHeartbeats 4000000 in
set_option maxRecDepth 100000 in
theorem c_X8_least (l0 : Launch) (D0 : va_G) (cI0 cJ0 : ClassId) (ad : Nat → Nat → Nat) (S : zM) (a : Int) (b : Int) (ha : b64 a) (hb : b64 b) : Ct l0 D0 cI0 cJ0 ad yX8_least cX8_least 4 (some .long) 0 0 [.long (i64 a), .long (i64 b)] S (some (.long (i64 (min a b)))) (fun X => X = S) := by
  refine Ct.of (by decide) (Nat.le_of_ble_eq_true rfl) (fun E hE hR => ?_)
  have hE : zG E l0 D0 cI0 cJ0 ad cX8_least 4 RX8 0 0 := hE
  show Z E S 0 [(0, .long (i64 a)), (2, .long (i64 b))] []
  refine z_lload_n hE 0 rfl rfl dX8_least_0 ?_
  refine z_lload_n hE 1 rfl rfl dX8_least_1 ?_
  refine z_lcmp hE ⟨by first | exact ha.1 | exact ha.2 | exact hb.1 | exact hb.2, by first | exact ha.1 | exact ha.2 | exact hb.1 | exact hb.2⟩ ⟨by first | exact ha.1 | exact ha.2 | exact hb.1 | exact hb.2, by first | exact ha.1 | exact ha.2 | exact hb.1 | exact hb.2⟩ dX8_least_2 ?_
  refine z_ifl_ge (tgt := 10) hE dX8_least_3 (by decide) (fun c1 => ?_) (fun c1 => ?_)
  · refine z_lload_n hE 1 rfl rfl dX8_least_10 ?_
    exact z_lret hE hR dX8_least_11 (congrArg (fun x => some (Value.long (i64 x))) (by omega)) (by first | rfl | (simp only [us_id]))
  · refine z_lload_n hE 0 rfl rfl dX8_least_6 ?_
    refine z_goto (tgt := 11) hE (d := dX8_least_7) (ht := by decide) ?_
    exact z_lret hE hR dX8_least_11 (congrArg (fun x => some (Value.long (i64 x))) (by omega)) (by first | rfl | (simp only [us_id]))
theorem dX8_by_0 : decode cX8_by 0 = .ok (.lload_n 0, 1) := by decide +kernel
theorem dX8_by_1 : decode cX8_by 1 = .ok (.lload_n 2, 1) := by decide +kernel
theorem dX8_by_2 : decode cX8_by 2 = .ok (.ldiv, 1) := by decide +kernel
theorem dX8_by_3 : decode cX8_by 3 = .ok (.lstore 4, 2) := by decide +kernel
theorem dX8_by_5 : decode cX8_by 5 = .ok (.lload_n 0, 1) := by decide +kernel
theorem dX8_by_6 : decode cX8_by 6 = .ok (.lload_n 2, 1) := by decide +kernel
theorem dX8_by_7 : decode cX8_by 7 = .ok (.lrem, 1) := by decide +kernel
theorem dX8_by_8 : decode cX8_by 8 = .ok (.lconst 0, 1) := by decide +kernel
theorem dX8_by_9 : decode cX8_by 9 = .ok (.lcmp, 1) := by decide +kernel
theorem dX8_by_10 : decode cX8_by 10 = .ok (.ifCond .ge 10, 3) := by decide +kernel
theorem dX8_by_13 : decode cX8_by 13 = .ok (.lload 4, 2) := by decide +kernel
theorem dX8_by_15 : decode cX8_by 15 = .ok (.lconst 1, 1) := by decide +kernel
theorem dX8_by_16 : decode cX8_by 16 = .ok (.lsub, 1) := by decide +kernel
theorem dX8_by_17 : decode cX8_by 17 = .ok (.goto 5, 3) := by decide +kernel
theorem dX8_by_20 : decode cX8_by 20 = .ok (.lload 4, 2) := by decide +kernel
theorem dX8_by_22 : decode cX8_by 22 = .ok (.lreturn, 1) := by decide +kernel
theorem hy_X8_by : yX8_by.cls ≠ "java/lang/invoke/MethodHandle" ∧ yX8_by.cls ≠ "java/lang/invoke/VarHandle" ∧ (parseMethodDescriptor yX8_by.desc).map (fun d => d.parameters.length) = some 2 := ⟨by decide +kernel, by decide +kernel, by decide +kernel⟩
set_option maxHeartbeats 4000000 in
set_option maxRecDepth 100000 in
theorem c_X8_by (l0 : Launch) (D0 : va_G) (cI0 cJ0 : ClassId) (ad : Nat → Nat → Nat) (S : zM) (a : Int) (b : Int) (ha : b64 a) (hb : b64 b) (h0 : 0 < b) : Ct l0 D0 cI0 cJ0 ad yX8_by cX8_by 6 (some .long) 0 0 [.long (i64 a), .long (i64 b)] S (some (.long (i64 (a / b)))) (fun X => X = S) := by
  refine Ct.of (by decide) (Nat.le_of_ble_eq_true rfl) (fun E hE hR => ?_)
  have hE : zG E l0 D0 cI0 cJ0 ad cX8_by 6 RX8 0 0 := hE
  show Z E S 0 [(0, .long (i64 a)), (2, .long (i64 b))] []
  refine z_lload_n hE 0 rfl rfl dX8_by_0 ?_
  refine z_lload_n hE 1 rfl rfl dX8_by_1 ?_
  refine z_ldiv hE ⟨by first | exact ha.1 | exact ha.2 | exact hb.1 | exact hb.2 | exact h0 | exact (fdl_b h0 hb).1 | exact (fdl_b h0 hb).2 | exact b64_0.1 | exact b64_0.2, by first | exact ha.1 | exact ha.2 | exact hb.1 | exact hb.2 | exact h0 | exact (fdl_b h0 hb).1 | exact (fdl_b h0 hb).2 | exact b64_0.1 | exact b64_0.2⟩ ⟨by first | exact ha.1 | exact ha.2 | exact hb.1 | exact hb.2 | exact h0 | exact (fdl_b h0 hb).1 | exact (fdl_b h0 hb).2 | exact b64_0.1 | exact b64_0.2, by first | exact ha.1 | exact ha.2 | exact hb.1 | exact hb.2 | exact h0 | exact (fdl_b h0 hb).1 | exact (fdl_b h0 hb).2 | exact b64_0.1 | exact b64_0.2⟩ (by first | exact ha.1 | exact ha.2 | exact hb.1 | exact hb.2 | exact h0 | exact (fdl_b h0 hb).1 | exact (fdl_b h0 hb).2 | exact b64_0.1 | exact b64_0.2) dX8_by_2 ?_
  refine z_lstore hE (by decide) rfl dX8_by_3 ?_
  refine z_lload_n hE 1 rfl rfl dX8_by_5 ?_
  refine z_lload_n hE 2 rfl rfl dX8_by_6 ?_
  refine z_lrem hE ⟨by first | exact ha.1 | exact ha.2 | exact hb.1 | exact hb.2 | exact h0 | exact (fdl_b h0 hb).1 | exact (fdl_b h0 hb).2 | exact b64_0.1 | exact b64_0.2, by first | exact ha.1 | exact ha.2 | exact hb.1 | exact hb.2 | exact h0 | exact (fdl_b h0 hb).1 | exact (fdl_b h0 hb).2 | exact b64_0.1 | exact b64_0.2⟩ ⟨by first | exact ha.1 | exact ha.2 | exact hb.1 | exact hb.2 | exact h0 | exact (fdl_b h0 hb).1 | exact (fdl_b h0 hb).2 | exact b64_0.1 | exact b64_0.2, by first | exact ha.1 | exact ha.2 | exact hb.1 | exact hb.2 | exact h0 | exact (fdl_b h0 hb).1 | exact (fdl_b h0 hb).2 | exact b64_0.1 | exact b64_0.2⟩ (by first | exact ha.1 | exact ha.2 | exact hb.1 | exact hb.2 | exact h0 | exact (fdl_b h0 hb).1 | exact (fdl_b h0 hb).2 | exact b64_0.1 | exact b64_0.2) dX8_by_7 ?_
  refine z_lconst (a := 0) hE rfl dX8_by_8 ?_
  refine z_lcmp hE ⟨by first | exact ha.1 | exact ha.2 | exact hb.1 | exact hb.2 | exact h0 | exact (fdl_b h0 hb).1 | exact (fdl_b h0 hb).2 | exact b64_0.1 | exact b64_0.2, by first | exact ha.1 | exact ha.2 | exact hb.1 | exact hb.2 | exact h0 | exact (fdl_b h0 hb).1 | exact (fdl_b h0 hb).2 | exact b64_0.1 | exact b64_0.2⟩ ⟨by first | exact ha.1 | exact ha.2 | exact hb.1 | exact hb.2 | exact h0 | exact (fdl_b h0 hb).1 | exact (fdl_b h0 hb).2 | exact b64_0.1 | exact b64_0.2, by first | exact ha.1 | exact ha.2 | exact hb.1 | exact hb.2 | exact h0 | exact (fdl_b h0 hb).1 | exact (fdl_b h0 hb).2 | exact b64_0.1 | exact b64_0.2⟩ dX8_by_9 ?_
  refine z_ifl_ge (tgt := 20) hE dX8_by_10 (by decide) (fun c1 => ?_) (fun c1 => ?_)
  · refine z_lload hE 0 rfl dX8_by_20 ?_
    exact z_lret hE hR dX8_by_22 (congrArg (fun x => some (Value.long (i64 x))) (by first | exact (fdl_1 h0 c1).symm | exact (fdl_2 h0 c1).symm)) (by first | rfl | (simp only [us_id]))
  · refine z_lload hE 0 rfl dX8_by_13 ?_
    refine z_lconst (a := 1) hE rfl dX8_by_15 ?_
    refine z_lsub hE dX8_by_16 ?_
    refine z_goto (tgt := 22) hE (d := dX8_by_17) (ht := by decide) ?_
    exact z_lret hE hR dX8_by_22 (congrArg (fun x => some (Value.long (i64 x))) (by first | exact (fdl_1 h0 c1).symm | exact (fdl_2 h0 c1).symm)) (by first | rfl | (simp only [us_id]))
theorem dX8_m_0 : decode cX8_m 0 = .ok (.bipush 19, 2) := by decide +kernel
theorem dX8_m_2 : decode cX8_m 2 = .ok (.iconst 3, 1) := by decide +kernel
theorem dX8_m_3 : decode cX8_m 3 = .ok (.iload_n 0, 1) := by decide +kernel
theorem dX8_m_4 : decode cX8_m 4 = .ok (.imul, 1) := by decide +kernel
theorem dX8_m_5 : decode cX8_m 5 = .ok (.iadd, 1) := by decide +kernel
theorem dX8_m_6 : decode cX8_m 6 = .ok (.iload_n 1, 1) := by decide +kernel
theorem dX8_m_7 : decode cX8_m 7 = .ok (.iadd, 1) := by decide +kernel
theorem dX8_m_8 : decode cX8_m 8 = .ok (.ireturn, 1) := by decide +kernel
theorem hy_X8_m : yX8_m.cls ≠ "java/lang/invoke/MethodHandle" ∧ yX8_m.cls ≠ "java/lang/invoke/VarHandle" ∧ (parseMethodDescriptor yX8_m.desc).map (fun d => d.parameters.length) = some 2 := ⟨by decide +kernel, by decide +kernel, by decide +kernel⟩
set_option maxHeartbeats 4000000 in
set_option maxRecDepth 100000 in
theorem c_X8_m (l0 : Launch) (D0 : va_G) (cI0 cJ0 : ClassId) (ad : Nat → Nat → Nat) (S : zM) (k : Int) (w : Int) (v : Int) (hv : v = 19 + 3 * k + w) : Ct l0 D0 cI0 cJ0 ad yX8_m cX8_m 2 (some .int) 0 0 [.int (i32 k), .int (i32 w)] S (some (.int (i32 (v)))) (fun X => X = S) := by
  refine Ct.of (by decide) (Nat.le_of_ble_eq_true rfl) (fun E hE hR => ?_)
  have hE : zG E l0 D0 cI0 cJ0 ad cX8_m 2 RX8 0 0 := hE
  show Z E S 0 [(0, .int (i32 k)), (1, .int (i32 w))] []
  refine z_bipush (a := 19) hE (by decide) dX8_m_0 ?_
  refine z_iconst hE dX8_m_2 ?_
  refine z_iload_n hE 0 rfl rfl dX8_m_3 ?_
  refine z_imul hE dX8_m_4 ?_
  refine z_iadd hE dX8_m_5 ?_
  refine z_iload_n hE 1 rfl rfl dX8_m_6 ?_
  refine z_iadd hE dX8_m_7 ?_
  exact z_iret hE hR dX8_m_8 (congrArg (fun x => some (Value.int (i32 x))) (by omega)) (by first | rfl | (simp only [us_id]))
theorem dX8_o_0 : decode cX8_o 0 = .ok (.bipush 55, 2) := by decide +kernel
theorem dX8_o_2 : decode cX8_o 2 = .ok (.bipush 22, 2) := by decide +kernel
theorem dX8_o_4 : decode cX8_o 4 = .ok (.iload_n 0, 1) := by decide +kernel
theorem dX8_o_5 : decode cX8_o 5 = .ok (.imul, 1) := by decide +kernel
theorem dX8_o_6 : decode cX8_o 6 = .ok (.iadd, 1) := by decide +kernel
theorem dX8_o_7 : decode cX8_o 7 = .ok (.iload_n 1, 1) := by decide +kernel
theorem dX8_o_8 : decode cX8_o 8 = .ok (.iadd, 1) := by decide +kernel
theorem dX8_o_9 : decode cX8_o 9 = .ok (.ireturn, 1) := by decide +kernel
theorem hy_X8_o : yX8_o.cls ≠ "java/lang/invoke/MethodHandle" ∧ yX8_o.cls ≠ "java/lang/invoke/VarHandle" ∧ (parseMethodDescriptor yX8_o.desc).map (fun d => d.parameters.length) = some 2 := ⟨by decide +kernel, by decide +kernel, by decide +kernel⟩
set_option maxHeartbeats 4000000 in
set_option maxRecDepth 100000 in
theorem c_X8_o (l0 : Launch) (D0 : va_G) (cI0 cJ0 : ClassId) (ad : Nat → Nat → Nat) (S : zM) (k : Int) (w : Int) (v : Int) (hv : v = 55 + 22 * k + w) : Ct l0 D0 cI0 cJ0 ad yX8_o cX8_o 2 (some .int) 0 0 [.int (i32 k), .int (i32 w)] S (some (.int (i32 (v)))) (fun X => X = S) := by
  refine Ct.of (by decide) (Nat.le_of_ble_eq_true rfl) (fun E hE hR => ?_)
  have hE : zG E l0 D0 cI0 cJ0 ad cX8_o 2 RX8 0 0 := hE
  show Z E S 0 [(0, .int (i32 k)), (1, .int (i32 w))] []
  refine z_bipush (a := 55) hE (by decide) dX8_o_0 ?_
  refine z_bipush (a := 22) hE (by decide) dX8_o_2 ?_
  refine z_iload_n hE 0 rfl rfl dX8_o_4 ?_
  refine z_imul hE dX8_o_5 ?_
  refine z_iadd hE dX8_o_6 ?_
  refine z_iload_n hE 1 rfl rfl dX8_o_7 ?_
  refine z_iadd hE dX8_o_8 ?_
  exact z_iret hE hR dX8_o_9 (congrArg (fun x => some (Value.int (i32 x))) (by omega)) (by first | rfl | (simp only [us_id]))
theorem dX8_q_0 : decode cX8_q 0 = .ok (.sipush 495, 3) := by decide +kernel
theorem dX8_q_3 : decode cX8_q 3 = .ok (.bipush 15, 2) := by decide +kernel
theorem dX8_q_5 : decode cX8_q 5 = .ok (.iload_n 0, 1) := by decide +kernel
theorem dX8_q_6 : decode cX8_q 6 = .ok (.imul, 1) := by decide +kernel
theorem dX8_q_7 : decode cX8_q 7 = .ok (.iadd, 1) := by decide +kernel
theorem dX8_q_8 : decode cX8_q 8 = .ok (.iload_n 1, 1) := by decide +kernel
theorem dX8_q_9 : decode cX8_q 9 = .ok (.iadd, 1) := by decide +kernel
theorem dX8_q_10 : decode cX8_q 10 = .ok (.ireturn, 1) := by decide +kernel
theorem hy_X8_q : yX8_q.cls ≠ "java/lang/invoke/MethodHandle" ∧ yX8_q.cls ≠ "java/lang/invoke/VarHandle" ∧ (parseMethodDescriptor yX8_q.desc).map (fun d => d.parameters.length) = some 2 := ⟨by decide +kernel, by decide +kernel, by decide +kernel⟩
set_option maxHeartbeats 4000000 in
set_option maxRecDepth 100000 in
theorem c_X8_q (l0 : Launch) (D0 : va_G) (cI0 cJ0 : ClassId) (ad : Nat → Nat → Nat) (S : zM) (k : Int) (w : Int) (v : Int) (hv : v = 495 + 15 * k + w) : Ct l0 D0 cI0 cJ0 ad yX8_q cX8_q 2 (some .int) 0 0 [.int (i32 k), .int (i32 w)] S (some (.int (i32 (v)))) (fun X => X = S) := by
  refine Ct.of (by decide) (Nat.le_of_ble_eq_true rfl) (fun E hE hR => ?_)
  have hE : zG E l0 D0 cI0 cJ0 ad cX8_q 2 RX8 0 0 := hE
  show Z E S 0 [(0, .int (i32 k)), (1, .int (i32 w))] []
  refine z_sipush (a := 495) hE (by decide) dX8_q_0 ?_
  refine z_bipush (a := 15) hE (by decide) dX8_q_3 ?_
  refine z_iload_n hE 0 rfl rfl dX8_q_5 ?_
  refine z_imul hE dX8_q_6 ?_
  refine z_iadd hE dX8_q_7 ?_
  refine z_iload_n hE 1 rfl rfl dX8_q_8 ?_
  refine z_iadd hE dX8_q_9 ?_
  exact z_iret hE hR dX8_q_10 (congrArg (fun x => some (Value.int (i32 x))) (by omega)) (by first | rfl | (simp only [us_id]))
theorem dX8_isMember_0 : decode cX8_isMember 0 = .ok (.iload_n 1, 1) := by decide +kernel
theorem dX8_isMember_1 : decode cX8_isMember 1 = .ok (.i2l, 1) := by decide +kernel
theorem dX8_isMember_2 : decode cX8_isMember 2 = .ok (.lconst 0, 1) := by decide +kernel
theorem dX8_isMember_3 : decode cX8_isMember 3 = .ok (.aload_n 0, 1) := by decide +kernel
theorem dX8_isMember_4 : decode cX8_isMember 4 = .ok (.getfield 7, 3) := by decide +kernel
theorem dX8_isMember_7 : decode cX8_isMember 7 = .ok (.iconst 0, 1) := by decide +kernel
theorem dX8_isMember_8 : decode cX8_isMember 8 = .ok (.laload, 1) := by decide +kernel
theorem dX8_isMember_9 : decode cX8_isMember 9 = .ok (.lconst 1, 1) := by decide +kernel
theorem dX8_isMember_10 : decode cX8_isMember 10 = .ok (.lsub, 1) := by decide +kernel
theorem dX8_isMember_11 : decode cX8_isMember 11 = .ok (.invokestatic 35, 3) := by decide +kernel
theorem dX8_isMember_14 : decode cX8_isMember 14 = .ok (.ireturn, 1) := by decide +kernel
theorem hy_X8_isMember : yX8_isMember.cls ≠ "java/lang/invoke/MethodHandle" ∧ yX8_isMember.cls ≠ "java/lang/invoke/VarHandle" ∧ (parseMethodDescriptor yX8_isMember.desc).map (fun d => d.parameters.length) = some 1 := ⟨by decide +kernel, by decide +kernel, by decide +kernel⟩
set_option maxHeartbeats 4000000 in
set_option maxRecDepth 100000 in
theorem c_X8_isMember (l0 : Launch) (D0 : va_G) (cI0 cJ0 : ClassId) (ad : Nat → Nat → Nat) (S : zM) (m : Int) (h0 : -2147483648 ≤ m ∧ m < 2147483648) (h1 : 0 ≤ S 7 0 ∧ S 7 0 ≤ 20) : Ct l0 D0 cI0 cJ0 ad yX8_isMember cX8_isMember 2 (some .boolean) 1 25 [.ref (ad 6 27), .int (i32 m)] S (some (.int (i32 (zbo (0 ≤ m ∧ m < S 7 0))))) (fun X => X = S) := by
  refine Ct.of (by decide) (Nat.le_of_ble_eq_true rfl) (fun E hE hR => ?_)
  have hE : zG E l0 D0 cI0 cJ0 ad cX8_isMember 2 RX8 1 25 := hE
  show Z E S 0 [(0, .ref (ad 6 27)), (1, .int (i32 m))] []
  have h67 : (6 : Nat) ≠ 7 := by decide
  have h76 : (7 : Nat) ≠ 6 := by decide
  have h68 : (6 : Nat) ≠ 8 := by decide
  have h86 : (8 : Nat) ≠ 6 := by decide
  have h78 : (7 : Nat) ≠ 8 := by decide
  have h87 : (8 : Nat) ≠ 7 := by decide
  refine z_iload_n hE 1 rfl rfl dX8_isMember_0 ?_
  refine z_i2l hE ⟨by omega, by omega⟩ dX8_isMember_1 ?_
  refine z_lconst (a := 0) hE rfl dX8_isMember_2 ?_
  refine z_aload_n hE 0 rfl rfl dX8_isMember_3 ?_
  refine gf_8_0 hE (by decide) zf_X8_7 dX8_isMember_4 ?_
  refine z_iconst hE dX8_isMember_7 ?_
  refine al_28 hE (by decide) (by omega) (by omega) dX8_isMember_8 ?_
  refine z_lconst (a := 1) hE rfl dX8_isMember_9 ?_
  refine z_lsub hE dX8_isMember_10 ?_
  refine z_callS hE (c_X8_in l0 D0 cI0 cJ0 ad S m 0 ((S 7 0) - 1) (⟨by omega, by omega⟩) (⟨by omega, by omega⟩) (⟨by omega, by omega⟩)) zm_X8_35 zt_yX8_in zn_RX8 zc_yX8_in (hy_X8_in) (Nat.le_of_ble_eq_true rfl) (Nat.le_of_ble_eq_true rfl) rfl rfl rfl (Nat.le_of_ble_eq_true rfl) dX8_isMember_11 ?_
  exact z_zret hE hR dX8_isMember_14 (by unfold zbo; split <;> omega) (congrArg (fun x => some (Value.int (i32 x))) (by exact zbo_cg (by omega))) (by first | rfl | (simp only [us_id]))
theorem dX8_isOffer_0 : decode cX8_isOffer 0 = .ok (.iload_n 1, 1) := by decide +kernel
theorem dX8_isOffer_1 : decode cX8_isOffer 1 = .ok (.i2l, 1) := by decide +kernel
theorem dX8_isOffer_2 : decode cX8_isOffer 2 = .ok (.lconst 0, 1) := by decide +kernel
theorem dX8_isOffer_3 : decode cX8_isOffer 3 = .ok (.aload_n 0, 1) := by decide +kernel
theorem dX8_isOffer_4 : decode cX8_isOffer 4 = .ok (.getfield 7, 3) := by decide +kernel
theorem dX8_isOffer_7 : decode cX8_isOffer 7 = .ok (.bipush 14, 2) := by decide +kernel
theorem dX8_isOffer_9 : decode cX8_isOffer 9 = .ok (.laload, 1) := by decide +kernel
theorem dX8_isOffer_10 : decode cX8_isOffer 10 = .ok (.lconst 1, 1) := by decide +kernel
theorem dX8_isOffer_11 : decode cX8_isOffer 11 = .ok (.lsub, 1) := by decide +kernel
theorem dX8_isOffer_12 : decode cX8_isOffer 12 = .ok (.invokestatic 35, 3) := by decide +kernel
theorem dX8_isOffer_15 : decode cX8_isOffer 15 = .ok (.ireturn, 1) := by decide +kernel
theorem hy_X8_isOffer : yX8_isOffer.cls ≠ "java/lang/invoke/MethodHandle" ∧ yX8_isOffer.cls ≠ "java/lang/invoke/VarHandle" ∧ (parseMethodDescriptor yX8_isOffer.desc).map (fun d => d.parameters.length) = some 1 := ⟨by decide +kernel, by decide +kernel, by decide +kernel⟩
set_option maxHeartbeats 4000000 in
set_option maxRecDepth 100000 in
theorem c_X8_isOffer (l0 : Launch) (D0 : va_G) (cI0 cJ0 : ClassId) (ad : Nat → Nat → Nat) (S : zM) (m : Int) (h0 : -2147483648 ≤ m ∧ m < 2147483648) (h1 : 0 ≤ S 7 14 ∧ S 7 14 ≤ 20) : Ct l0 D0 cI0 cJ0 ad yX8_isOffer cX8_isOffer 2 (some .boolean) 1 25 [.ref (ad 6 27), .int (i32 m)] S (some (.int (i32 (zbo (0 ≤ m ∧ m < S 7 14))))) (fun X => X = S) := by
  refine Ct.of (by decide) (Nat.le_of_ble_eq_true rfl) (fun E hE hR => ?_)
  have hE : zG E l0 D0 cI0 cJ0 ad cX8_isOffer 2 RX8 1 25 := hE
  show Z E S 0 [(0, .ref (ad 6 27)), (1, .int (i32 m))] []
  have h67 : (6 : Nat) ≠ 7 := by decide
  have h76 : (7 : Nat) ≠ 6 := by decide
  have h68 : (6 : Nat) ≠ 8 := by decide
  have h86 : (8 : Nat) ≠ 6 := by decide
  have h78 : (7 : Nat) ≠ 8 := by decide
  have h87 : (8 : Nat) ≠ 7 := by decide
  refine z_iload_n hE 1 rfl rfl dX8_isOffer_0 ?_
  refine z_i2l hE ⟨by omega, by omega⟩ dX8_isOffer_1 ?_
  refine z_lconst (a := 0) hE rfl dX8_isOffer_2 ?_
  refine z_aload_n hE 0 rfl rfl dX8_isOffer_3 ?_
  refine gf_8_0 hE (by decide) zf_X8_7 dX8_isOffer_4 ?_
  refine z_bipush (a := 14) hE (by decide) dX8_isOffer_7 ?_
  refine al_28 hE (by decide) (by omega) (by omega) dX8_isOffer_9 ?_
  refine z_lconst (a := 1) hE rfl dX8_isOffer_10 ?_
  refine z_lsub hE dX8_isOffer_11 ?_
  refine z_callS hE (c_X8_in l0 D0 cI0 cJ0 ad S m 0 ((S 7 14) - 1) (⟨by omega, by omega⟩) (⟨by omega, by omega⟩) (⟨by omega, by omega⟩)) zm_X8_35 zt_yX8_in zn_RX8 zc_yX8_in (hy_X8_in) (Nat.le_of_ble_eq_true rfl) (Nat.le_of_ble_eq_true rfl) rfl rfl rfl (Nat.le_of_ble_eq_true rfl) dX8_isOffer_12 ?_
  exact z_zret hE hR dX8_isOffer_15 (by unfold zbo; split <;> omega) (congrArg (fun x => some (Value.int (i32 x))) (by exact zbo_cg (by omega))) (by first | rfl | (simp only [us_id]))
theorem dX8_isMotion_0 : decode cX8_isMotion 0 = .ok (.iload_n 1, 1) := by decide +kernel
theorem dX8_isMotion_1 : decode cX8_isMotion 1 = .ok (.i2l, 1) := by decide +kernel
theorem dX8_isMotion_2 : decode cX8_isMotion 2 = .ok (.lconst 0, 1) := by decide +kernel
theorem dX8_isMotion_3 : decode cX8_isMotion 3 = .ok (.aload_n 0, 1) := by decide +kernel
theorem dX8_isMotion_4 : decode cX8_isMotion 4 = .ok (.getfield 7, 3) := by decide +kernel
theorem dX8_isMotion_7 : decode cX8_isMotion 7 = .ok (.bipush 15, 2) := by decide +kernel
theorem dX8_isMotion_9 : decode cX8_isMotion 9 = .ok (.laload, 1) := by decide +kernel
theorem dX8_isMotion_10 : decode cX8_isMotion 10 = .ok (.lconst 1, 1) := by decide +kernel
theorem dX8_isMotion_11 : decode cX8_isMotion 11 = .ok (.lsub, 1) := by decide +kernel
theorem dX8_isMotion_12 : decode cX8_isMotion 12 = .ok (.invokestatic 35, 3) := by decide +kernel
theorem dX8_isMotion_15 : decode cX8_isMotion 15 = .ok (.ireturn, 1) := by decide +kernel
theorem hy_X8_isMotion : yX8_isMotion.cls ≠ "java/lang/invoke/MethodHandle" ∧ yX8_isMotion.cls ≠ "java/lang/invoke/VarHandle" ∧ (parseMethodDescriptor yX8_isMotion.desc).map (fun d => d.parameters.length) = some 1 := ⟨by decide +kernel, by decide +kernel, by decide +kernel⟩
set_option maxHeartbeats 4000000 in
set_option maxRecDepth 100000 in
theorem c_X8_isMotion (l0 : Launch) (D0 : va_G) (cI0 cJ0 : ClassId) (ad : Nat → Nat → Nat) (S : zM) (m : Int) (h0 : -2147483648 ≤ m ∧ m < 2147483648) (h1 : 0 ≤ S 7 15 ∧ S 7 15 ≤ 20) : Ct l0 D0 cI0 cJ0 ad yX8_isMotion cX8_isMotion 2 (some .boolean) 1 25 [.ref (ad 6 27), .int (i32 m)] S (some (.int (i32 (zbo (0 ≤ m ∧ m < S 7 15))))) (fun X => X = S) := by
  refine Ct.of (by decide) (Nat.le_of_ble_eq_true rfl) (fun E hE hR => ?_)
  have hE : zG E l0 D0 cI0 cJ0 ad cX8_isMotion 2 RX8 1 25 := hE
  show Z E S 0 [(0, .ref (ad 6 27)), (1, .int (i32 m))] []
  have h67 : (6 : Nat) ≠ 7 := by decide
  have h76 : (7 : Nat) ≠ 6 := by decide
  have h68 : (6 : Nat) ≠ 8 := by decide
  have h86 : (8 : Nat) ≠ 6 := by decide
  have h78 : (7 : Nat) ≠ 8 := by decide
  have h87 : (8 : Nat) ≠ 7 := by decide
  refine z_iload_n hE 1 rfl rfl dX8_isMotion_0 ?_
  refine z_i2l hE ⟨by omega, by omega⟩ dX8_isMotion_1 ?_
  refine z_lconst (a := 0) hE rfl dX8_isMotion_2 ?_
  refine z_aload_n hE 0 rfl rfl dX8_isMotion_3 ?_
  refine gf_8_0 hE (by decide) zf_X8_7 dX8_isMotion_4 ?_
  refine z_bipush (a := 15) hE (by decide) dX8_isMotion_7 ?_
  refine al_28 hE (by decide) (by omega) (by omega) dX8_isMotion_9 ?_
  refine z_lconst (a := 1) hE rfl dX8_isMotion_10 ?_
  refine z_lsub hE dX8_isMotion_11 ?_
  refine z_callS hE (c_X8_in l0 D0 cI0 cJ0 ad S m 0 ((S 7 15) - 1) (⟨by omega, by omega⟩) (⟨by omega, by omega⟩) (⟨by omega, by omega⟩)) zm_X8_35 zt_yX8_in zn_RX8 zc_yX8_in (hy_X8_in) (Nat.le_of_ble_eq_true rfl) (Nat.le_of_ble_eq_true rfl) rfl rfl rfl (Nat.le_of_ble_eq_true rfl) dX8_isMotion_12 ?_
  exact z_zret hE hR dX8_isMotion_15 (by unfold zbo; split <;> omega) (congrArg (fun x => some (Value.int (i32 x))) (by exact zbo_cg (by omega))) (by first | rfl | (simp only [us_id]))
theorem dX8_isMotionOf_0 : decode cX8_isMotionOf 0 = .ok (.iload_n 0, 1) := by decide +kernel
theorem dX8_isMotionOf_1 : decode cX8_isMotionOf 1 = .ok (.tableswitch 87 0 4 #[35, 45, 57, 67, 77], 35) := by decide +kernel
theorem dX8_isMotionOf_36 : decode cX8_isMotionOf 36 = .ok (.iload_n 1, 1) := by decide +kernel
theorem dX8_isMotionOf_37 : decode cX8_isMotionOf 37 = .ok (.i2l, 1) := by decide +kernel
theorem dX8_isMotionOf_38 : decode cX8_isMotionOf 38 = .ok (.lconst 1, 1) := by decide +kernel
theorem dX8_isMotionOf_39 : decode cX8_isMotionOf 39 = .ok (.ldc2_w 25, 3) := by decide +kernel
theorem dX8_isMotionOf_42 : decode cX8_isMotionOf 42 = .ok (.invokestatic 35, 3) := by decide +kernel
theorem dX8_isMotionOf_45 : decode cX8_isMotionOf 45 = .ok (.ireturn, 1) := by decide +kernel
theorem dX8_isMotionOf_46 : decode cX8_isMotionOf 46 = .ok (.iload_n 1, 1) := by decide +kernel
theorem dX8_isMotionOf_47 : decode cX8_isMotionOf 47 = .ok (.i2l, 1) := by decide +kernel
theorem dX8_isMotionOf_48 : decode cX8_isMotionOf 48 = .ok (.ldc2_w 100, 3) := by decide +kernel
theorem dX8_isMotionOf_51 : decode cX8_isMotionOf 51 = .ok (.ldc2_w 31, 3) := by decide +kernel
theorem dX8_isMotionOf_54 : decode cX8_isMotionOf 54 = .ok (.invokestatic 35, 3) := by decide +kernel
theorem dX8_isMotionOf_57 : decode cX8_isMotionOf 57 = .ok (.ireturn, 1) := by decide +kernel
theorem dX8_isMotionOf_58 : decode cX8_isMotionOf 58 = .ok (.iload_n 1, 1) := by decide +kernel
theorem dX8_isMotionOf_59 : decode cX8_isMotionOf 59 = .ok (.i2l, 1) := by decide +kernel
theorem dX8_isMotionOf_60 : decode cX8_isMotionOf 60 = .ok (.lconst 1, 1) := by decide +kernel
theorem dX8_isMotionOf_61 : decode cX8_isMotionOf 61 = .ok (.ldc2_w 95, 3) := by decide +kernel
theorem dX8_isMotionOf_64 : decode cX8_isMotionOf 64 = .ok (.invokestatic 35, 3) := by decide +kernel
theorem dX8_isMotionOf_67 : decode cX8_isMotionOf 67 = .ok (.ireturn, 1) := by decide +kernel
theorem dX8_isMotionOf_68 : decode cX8_isMotionOf 68 = .ok (.iload_n 1, 1) := by decide +kernel
theorem dX8_isMotionOf_69 : decode cX8_isMotionOf 69 = .ok (.i2l, 1) := by decide +kernel
theorem dX8_isMotionOf_70 : decode cX8_isMotionOf 70 = .ok (.lconst 1, 1) := by decide +kernel
theorem dX8_isMotionOf_71 : decode cX8_isMotionOf 71 = .ok (.ldc2_w 25, 3) := by decide +kernel
theorem dX8_isMotionOf_74 : decode cX8_isMotionOf 74 = .ok (.invokestatic 35, 3) := by decide +kernel
theorem dX8_isMotionOf_77 : decode cX8_isMotionOf 77 = .ok (.ireturn, 1) := by decide +kernel
theorem dX8_isMotionOf_78 : decode cX8_isMotionOf 78 = .ok (.iload_n 1, 1) := by decide +kernel
theorem dX8_isMotionOf_79 : decode cX8_isMotionOf 79 = .ok (.i2l, 1) := by decide +kernel
theorem dX8_isMotionOf_80 : decode cX8_isMotionOf 80 = .ok (.lconst 1, 1) := by decide +kernel
theorem dX8_isMotionOf_81 : decode cX8_isMotionOf 81 = .ok (.ldc2_w 31, 3) := by decide +kernel
theorem dX8_isMotionOf_84 : decode cX8_isMotionOf 84 = .ok (.invokestatic 35, 3) := by decide +kernel
theorem dX8_isMotionOf_87 : decode cX8_isMotionOf 87 = .ok (.ireturn, 1) := by decide +kernel
theorem dX8_isMotionOf_88 : decode cX8_isMotionOf 88 = .ok (.iconst 0, 1) := by decide +kernel
theorem dX8_isMotionOf_89 : decode cX8_isMotionOf 89 = .ok (.ireturn, 1) := by decide +kernel
theorem hy_X8_isMotionOf : yX8_isMotionOf.cls ≠ "java/lang/invoke/MethodHandle" ∧ yX8_isMotionOf.cls ≠ "java/lang/invoke/VarHandle" ∧ (parseMethodDescriptor yX8_isMotionOf.desc).map (fun d => d.parameters.length) = some 2 := ⟨by decide +kernel, by decide +kernel, by decide +kernel⟩
set_option maxHeartbeats 4000000 in
set_option maxRecDepth 100000 in
theorem c_X8_isMotionOf (l0 : Launch) (D0 : va_G) (cI0 cJ0 : ClassId) (ad : Nat → Nat → Nat) (S : zM) (k : Int) (v : Int) (h0 : -2147483648 ≤ k ∧ k < 2147483648) (h1 : -2147483648 ≤ v ∧ v < 2147483648) : Ct l0 D0 cI0 cJ0 ad yX8_isMotionOf cX8_isMotionOf 2 (some .boolean) 1 25 [.int (i32 k), .int (i32 v)] S (some (.int (i32 (zbo ((k = 0 ∧ 1 ≤ v ∧ v ≤ 1000) ∨ (k = 1 ∧ 5 ≤ v ∧ v ≤ 100) ∨ (k = 2 ∧ 1 ≤ v ∧ v ≤ 10) ∨ (k = 3 ∧ 1 ≤ v ∧ v ≤ 1000) ∨ (k = 4 ∧ 1 ≤ v ∧ v ≤ 100)))))) (fun X => X = S) := by
  refine Ct.of (by decide) (Nat.le_of_ble_eq_true rfl) (fun E hE hR => ?_)
  have hE : zG E l0 D0 cI0 cJ0 ad cX8_isMotionOf 2 RX8 1 25 := hE
  show Z E S 0 [(0, .int (i32 k)), (1, .int (i32 v))] []
  have h67 : (6 : Nat) ≠ 7 := by decide
  have h76 : (7 : Nat) ≠ 6 := by decide
  have h68 : (6 : Nat) ≠ 8 := by decide
  have h86 : (8 : Nat) ≠ 6 := by decide
  have h78 : (7 : Nat) ≠ 8 := by decide
  have h87 : (8 : Nat) ≠ 7 := by decide
  refine z_iload_n hE 0 rfl rfl dX8_isMotionOf_0 ?_
  by_cases k1_0 : k = 0
  · refine z_tIn (tgt := 36) hE 0 dX8_isMotionOf_1 ⟨by omega, by omega⟩ k1_0 (by decide) (by decide) rfl (by decide) ?_
    refine z_iload_n hE 1 rfl rfl dX8_isMotionOf_36 ?_
    refine z_i2l hE ⟨by omega, by omega⟩ dX8_isMotionOf_37 ?_
    refine z_lconst (a := 1) hE rfl dX8_isMotionOf_38 ?_
    refine z_ldc2 (a := 1000) hE zl_X8_25 (by decide) dX8_isMotionOf_39 ?_
    refine z_callS hE (c_X8_in l0 D0 cI0 cJ0 ad S v 1 1000 (⟨by omega, by omega⟩) (⟨by omega, by omega⟩) (⟨by omega, by omega⟩)) zm_X8_35 zt_yX8_in zn_RX8 zc_yX8_in (hy_X8_in) (Nat.le_of_ble_eq_true rfl) (Nat.le_of_ble_eq_true rfl) rfl rfl rfl (Nat.le_of_ble_eq_true rfl) dX8_isMotionOf_42 ?_
    exact z_zret hE hR dX8_isMotionOf_45 (by unfold zbo; split <;> omega) (congrArg (fun x => some (Value.int (i32 x))) (by first | exact zbo_cg (by omega) | exact (zbo_f (by omega)).symm | exact zbo_f (by omega))) (by first | rfl | (simp only [us_id]))
  by_cases k1_1 : k = 1
  · refine z_tIn (tgt := 46) hE 1 dX8_isMotionOf_1 ⟨by omega, by omega⟩ k1_1 (by decide) (by decide) rfl (by decide) ?_
    refine z_iload_n hE 1 rfl rfl dX8_isMotionOf_46 ?_
    refine z_i2l hE ⟨by omega, by omega⟩ dX8_isMotionOf_47 ?_
    refine z_ldc2 (a := 5) hE zl_X8_100 (by decide) dX8_isMotionOf_48 ?_
    refine z_ldc2 (a := 100) hE zl_X8_31 (by decide) dX8_isMotionOf_51 ?_
    refine z_callS hE (c_X8_in l0 D0 cI0 cJ0 ad S v 5 100 (⟨by omega, by omega⟩) (⟨by omega, by omega⟩) (⟨by omega, by omega⟩)) zm_X8_35 zt_yX8_in zn_RX8 zc_yX8_in (hy_X8_in) (Nat.le_of_ble_eq_true rfl) (Nat.le_of_ble_eq_true rfl) rfl rfl rfl (Nat.le_of_ble_eq_true rfl) dX8_isMotionOf_54 ?_
    exact z_zret hE hR dX8_isMotionOf_57 (by unfold zbo; split <;> omega) (congrArg (fun x => some (Value.int (i32 x))) (by first | exact zbo_cg (by omega) | exact (zbo_f (by omega)).symm | exact zbo_f (by omega))) (by first | rfl | (simp only [us_id]))
  by_cases k1_2 : k = 2
  · refine z_tIn (tgt := 58) hE 2 dX8_isMotionOf_1 ⟨by omega, by omega⟩ k1_2 (by decide) (by decide) rfl (by decide) ?_
    refine z_iload_n hE 1 rfl rfl dX8_isMotionOf_58 ?_
    refine z_i2l hE ⟨by omega, by omega⟩ dX8_isMotionOf_59 ?_
    refine z_lconst (a := 1) hE rfl dX8_isMotionOf_60 ?_
    refine z_ldc2 (a := 10) hE zl_X8_95 (by decide) dX8_isMotionOf_61 ?_
    refine z_callS hE (c_X8_in l0 D0 cI0 cJ0 ad S v 1 10 (⟨by omega, by omega⟩) (⟨by omega, by omega⟩) (⟨by omega, by omega⟩)) zm_X8_35 zt_yX8_in zn_RX8 zc_yX8_in (hy_X8_in) (Nat.le_of_ble_eq_true rfl) (Nat.le_of_ble_eq_true rfl) rfl rfl rfl (Nat.le_of_ble_eq_true rfl) dX8_isMotionOf_64 ?_
    exact z_zret hE hR dX8_isMotionOf_67 (by unfold zbo; split <;> omega) (congrArg (fun x => some (Value.int (i32 x))) (by first | exact zbo_cg (by omega) | exact (zbo_f (by omega)).symm | exact zbo_f (by omega))) (by first | rfl | (simp only [us_id]))
  by_cases k1_3 : k = 3
  · refine z_tIn (tgt := 68) hE 3 dX8_isMotionOf_1 ⟨by omega, by omega⟩ k1_3 (by decide) (by decide) rfl (by decide) ?_
    refine z_iload_n hE 1 rfl rfl dX8_isMotionOf_68 ?_
    refine z_i2l hE ⟨by omega, by omega⟩ dX8_isMotionOf_69 ?_
    refine z_lconst (a := 1) hE rfl dX8_isMotionOf_70 ?_
    refine z_ldc2 (a := 1000) hE zl_X8_25 (by decide) dX8_isMotionOf_71 ?_
    refine z_callS hE (c_X8_in l0 D0 cI0 cJ0 ad S v 1 1000 (⟨by omega, by omega⟩) (⟨by omega, by omega⟩) (⟨by omega, by omega⟩)) zm_X8_35 zt_yX8_in zn_RX8 zc_yX8_in (hy_X8_in) (Nat.le_of_ble_eq_true rfl) (Nat.le_of_ble_eq_true rfl) rfl rfl rfl (Nat.le_of_ble_eq_true rfl) dX8_isMotionOf_74 ?_
    exact z_zret hE hR dX8_isMotionOf_77 (by unfold zbo; split <;> omega) (congrArg (fun x => some (Value.int (i32 x))) (by first | exact zbo_cg (by omega) | exact (zbo_f (by omega)).symm | exact zbo_f (by omega))) (by first | rfl | (simp only [us_id]))
  by_cases k1_4 : k = 4
  · refine z_tIn (tgt := 78) hE 4 dX8_isMotionOf_1 ⟨by omega, by omega⟩ k1_4 (by decide) (by decide) rfl (by decide) ?_
    refine z_iload_n hE 1 rfl rfl dX8_isMotionOf_78 ?_
    refine z_i2l hE ⟨by omega, by omega⟩ dX8_isMotionOf_79 ?_
    refine z_lconst (a := 1) hE rfl dX8_isMotionOf_80 ?_
    refine z_ldc2 (a := 100) hE zl_X8_31 (by decide) dX8_isMotionOf_81 ?_
    refine z_callS hE (c_X8_in l0 D0 cI0 cJ0 ad S v 1 100 (⟨by omega, by omega⟩) (⟨by omega, by omega⟩) (⟨by omega, by omega⟩)) zm_X8_35 zt_yX8_in zn_RX8 zc_yX8_in (hy_X8_in) (Nat.le_of_ble_eq_true rfl) (Nat.le_of_ble_eq_true rfl) rfl rfl rfl (Nat.le_of_ble_eq_true rfl) dX8_isMotionOf_84 ?_
    exact z_zret hE hR dX8_isMotionOf_87 (by unfold zbo; split <;> omega) (congrArg (fun x => some (Value.int (i32 x))) (by first | exact zbo_cg (by omega) | exact (zbo_f (by omega)).symm | exact zbo_f (by omega))) (by first | rfl | (simp only [us_id]))
  refine z_tOut (tgt := 88) hE dX8_isMotionOf_1 ⟨by omega, by omega⟩ (by omega) (by decide) ?_
  refine z_iconst hE dX8_isMotionOf_88 ?_
  exact z_zret hE hR dX8_isMotionOf_89 (by decide) (congrArg (fun x => some (Value.int (i32 x))) (by first | exact zbo_cg (by omega) | exact (zbo_f (by omega)).symm | exact zbo_f (by omega))) (by first | rfl | (simp only [us_id]))
theorem dX8_notes_0 : decode cX8_notes 0 = .ok (.aload_n 0, 1) := by decide +kernel
theorem dX8_notes_1 : decode cX8_notes 1 = .ok (.getfield 39, 3) := by decide +kernel
theorem dX8_notes_4 : decode cX8_notes 4 = .ok (.iconst 4, 1) := by decide +kernel
theorem dX8_notes_5 : decode cX8_notes 5 = .ok (.if_icmp .ne 44, 3) := by decide +kernel
theorem dX8_notes_8 : decode cX8_notes 8 = .ok (.iconst 0, 1) := by decide +kernel
theorem dX8_notes_9 : decode cX8_notes 9 = .ok (.istore_n 1, 1) := by decide +kernel
theorem dX8_notes_10 : decode cX8_notes 10 = .ok (.iload_n 1, 1) := by decide +kernel
theorem dX8_notes_11 : decode cX8_notes 11 = .ok (.sipush 1935, 3) := by decide +kernel
theorem dX8_notes_14 : decode cX8_notes 14 = .ok (.if_icmp .ge 25, 3) := by decide +kernel
theorem dX8_notes_17 : decode cX8_notes 17 = .ok (.aload_n 0, 1) := by decide +kernel
theorem dX8_notes_18 : decode cX8_notes 18 = .ok (.getfield 13, 3) := by decide +kernel
theorem dX8_notes_21 : decode cX8_notes 21 = .ok (.iload_n 1, 1) := by decide +kernel
theorem dX8_notes_22 : decode cX8_notes 22 = .ok (.aload_n 0, 1) := by decide +kernel
theorem dX8_notes_23 : decode cX8_notes 23 = .ok (.getfield 13, 3) := by decide +kernel
theorem dX8_notes_26 : decode cX8_notes 26 = .ok (.iload_n 1, 1) := by decide +kernel
theorem dX8_notes_27 : decode cX8_notes 27 = .ok (.sipush 645, 3) := by decide +kernel
theorem dX8_notes_30 : decode cX8_notes 30 = .ok (.iadd, 1) := by decide +kernel
theorem dX8_notes_31 : decode cX8_notes 31 = .ok (.laload, 1) := by decide +kernel
theorem dX8_notes_32 : decode cX8_notes 32 = .ok (.lastore, 1) := by decide +kernel
theorem dX8_notes_33 : decode cX8_notes 33 = .ok (.iinc 1 1, 3) := by decide +kernel
theorem dX8_notes_36 : decode cX8_notes 36 = .ok (.goto (-26), 3) := by decide +kernel
theorem dX8_notes_39 : decode cX8_notes 39 = .ok (.aload_n 0, 1) := by decide +kernel
theorem dX8_notes_40 : decode cX8_notes 40 = .ok (.dup, 1) := by decide +kernel
theorem dX8_notes_41 : decode cX8_notes 41 = .ok (.getfield 39, 3) := by decide +kernel
theorem dX8_notes_44 : decode cX8_notes 44 = .ok (.iconst 1, 1) := by decide +kernel
theorem dX8_notes_45 : decode cX8_notes 45 = .ok (.isub, 1) := by decide +kernel
theorem dX8_notes_46 : decode cX8_notes 46 = .ok (.putfield 39, 3) := by decide +kernel
theorem dX8_notes_49 : decode cX8_notes 49 = .ok (.iconst 0, 1) := by decide +kernel
theorem dX8_notes_50 : decode cX8_notes 50 = .ok (.istore_n 1, 1) := by decide +kernel
theorem dX8_notes_51 : decode cX8_notes 51 = .ok (.iload_n 1, 1) := by decide +kernel
theorem dX8_notes_52 : decode cX8_notes 52 = .ok (.sipush 645, 3) := by decide +kernel
theorem dX8_notes_55 : decode cX8_notes 55 = .ok (.if_icmp .ge 30, 3) := by decide +kernel
theorem dX8_notes_58 : decode cX8_notes 58 = .ok (.aload_n 0, 1) := by decide +kernel
theorem dX8_notes_59 : decode cX8_notes 59 = .ok (.getfield 13, 3) := by decide +kernel
theorem dX8_notes_62 : decode cX8_notes 62 = .ok (.sipush 645, 3) := by decide +kernel
theorem dX8_notes_65 : decode cX8_notes 65 = .ok (.aload_n 0, 1) := by decide +kernel
theorem dX8_notes_66 : decode cX8_notes 66 = .ok (.getfield 39, 3) := by decide +kernel
theorem dX8_notes_69 : decode cX8_notes 69 = .ok (.imul, 1) := by decide +kernel
theorem dX8_notes_70 : decode cX8_notes 70 = .ok (.iload_n 1, 1) := by decide +kernel
theorem dX8_notes_71 : decode cX8_notes 71 = .ok (.iadd, 1) := by decide +kernel
theorem dX8_notes_72 : decode cX8_notes 72 = .ok (.aload_n 0, 1) := by decide +kernel
theorem dX8_notes_73 : decode cX8_notes 73 = .ok (.getfield 7, 3) := by decide +kernel
theorem dX8_notes_76 : decode cX8_notes 76 = .ok (.iload_n 1, 1) := by decide +kernel
theorem dX8_notes_77 : decode cX8_notes 77 = .ok (.laload, 1) := by decide +kernel
theorem dX8_notes_78 : decode cX8_notes 78 = .ok (.lastore, 1) := by decide +kernel
theorem dX8_notes_79 : decode cX8_notes 79 = .ok (.iinc 1 1, 3) := by decide +kernel
theorem dX8_notes_82 : decode cX8_notes 82 = .ok (.goto (-31), 3) := by decide +kernel
theorem dX8_notes_85 : decode cX8_notes 85 = .ok (.aload_n 0, 1) := by decide +kernel
theorem dX8_notes_86 : decode cX8_notes 86 = .ok (.dup, 1) := by decide +kernel
theorem dX8_notes_87 : decode cX8_notes 87 = .ok (.getfield 39, 3) := by decide +kernel
theorem dX8_notes_90 : decode cX8_notes 90 = .ok (.iconst 1, 1) := by decide +kernel
theorem dX8_notes_91 : decode cX8_notes 91 = .ok (.iadd, 1) := by decide +kernel
theorem dX8_notes_92 : decode cX8_notes 92 = .ok (.putfield 39, 3) := by decide +kernel
theorem dX8_notes_95 : decode cX8_notes 95 = .ok (.return_, 1) := by decide +kernel
theorem hy_X8_notes : yX8_notes.cls ≠ "java/lang/invoke/MethodHandle" ∧ yX8_notes.cls ≠ "java/lang/invoke/VarHandle" ∧ (parseMethodDescriptor yX8_notes.desc).map (fun d => d.parameters.length) = some 0 := ⟨by decide +kernel, by decide +kernel, by decide +kernel⟩
set_option maxHeartbeats 4000000 in
set_option maxRecDepth 100000 in
theorem lp_X8_notes_b {E : zE} {l0 : Launch} {D0 : va_G} {cI0 cJ0 : ClassId} {ad : Nat → Nat → Nat} (hE : zG E l0 D0 cI0 cJ0 ad cX8_notes 2 RX8 0 0) (S : zM) (h6 : 0 ≤ S 6 0 ∧ S 6 0 ≤ 4) (hR : zR E none none (fun X => X = (us (us S 8 (mp (S 8) (S 7) (S 6 0))) 6 (up (S 6) 0 (min (S 6 0 + 1) 4))))) : ∀ (fuel : Nat) (i : Int) (p : Int → Int) (t : Int → Int) (n : Int) (h9 : 0 ≤ i ∧ i ≤ 645) (hn : 0 ≤ n ∧ n ≤ 3) (ht : t 0 = n) (hp : pcy p (S 7) n 645 = mp (S 8) (S 7) (S 6 0)) (hu : up t 0 (n + 1) = up (S 6) 0 (min (S 6 0 + 1) 4)), (645 - i).toNat < fuel → Z E (us (us S 8 (pcy p (S 7) n i)) 6 t) 51 [(1, .int (i32 i)), (0, .ref (ad 6 27))] [] := by
  intro fuel
  induction fuel with
  | zero => intro _ _ _ _ _ _ _ _ _ hz; omega
  | succ fuel ih =>
    intro i p t n h9 hn ht hp hu hz
    have h67 : (6 : Nat) ≠ 7 := by decide
    have h76 : (7 : Nat) ≠ 6 := by decide
    have h68 : (6 : Nat) ≠ 8 := by decide
    have h86 : (8 : Nat) ≠ 6 := by decide
    have h78 : (7 : Nat) ≠ 8 := by decide
    have h87 : (8 : Nat) ≠ 7 := by decide
    refine z_iload_n hE 0 rfl rfl dX8_notes_51 ?_
    refine z_sipush (a := 645) hE (by decide) dX8_notes_52 ?_
    refine z_icmp_ge (tgt := 85) hE dX8_notes_55 (by decide) ⟨by omega, by omega⟩ ⟨by omega, by omega⟩ (fun c1 => ?_) (fun c1 => ?_)
    · refine z_aload_n hE 1 rfl rfl dX8_notes_85 ?_
      refine z_dup hE rfl dX8_notes_86 ?_
      refine gf_8_2 hE (by decide) zf_X8_39 dX8_notes_87 ?_
      try simp only [us_eq, us_us, us_ne h67, us_ne h76, us_ne h68, us_ne h86, us_ne h78, us_ne h87, us_in h67, us_in h76]
      rw [ht]
      refine z_iconst hE dX8_notes_90 ?_
      refine z_iadd hE dX8_notes_91 ?_
      refine pf_8_2 hE (by decide) zf_X8_39 dX8_notes_92 ?_
      try simp only [us_eq, us_us, us_ne h67, us_ne h76, us_ne h68, us_ne h86, us_ne h78, us_ne h87, us_in h67, us_in h76]
      exact z_vret hE hR dX8_notes_95 rfl (by rw [show i = 645 by omega, hp, hu])
    · refine z_aload_n hE 1 rfl rfl dX8_notes_58 ?_
      refine gf_8_1 hE (by decide) zf_X8_13 dX8_notes_59 ?_
      refine z_sipush (a := 645) hE (by decide) dX8_notes_62 ?_
      refine z_aload_n hE 1 rfl rfl dX8_notes_65 ?_
      refine gf_8_2 hE (by decide) zf_X8_39 dX8_notes_66 ?_
      try simp only [us_eq, us_us, us_ne h67, us_ne h76, us_ne h68, us_ne h86, us_ne h78, us_ne h87, us_in h67, us_in h76]
      rw [ht]
      refine z_imul hE dX8_notes_69 ?_
      refine z_iload_n hE 0 rfl rfl dX8_notes_70 ?_
      refine z_iadd hE dX8_notes_71 ?_
      refine z_aload_n hE 1 rfl rfl dX8_notes_72 ?_
      refine gf_8_0 hE (by decide) zf_X8_7 dX8_notes_73 ?_
      refine z_iload_n hE 0 rfl rfl dX8_notes_76 ?_
      refine al_28 hE (by decide) (by omega) (by omega) dX8_notes_77 ?_
      try simp only [us_eq, us_us, us_ne h67, us_ne h76, us_ne h68, us_ne h86, us_ne h78, us_ne h87, us_in h67, us_in h76]
      refine as_29 hE (by decide) (by omega) (by omega) dX8_notes_78 ?_
      try simp only [us_eq, us_us, us_ne h67, us_ne h76, us_ne h68, us_ne h86, us_ne h78, us_ne h87, us_in h67, us_in h76]
      refine z_iinc hE 0 rfl (by decide) rfl dX8_notes_79 ?_
      refine z_goto (tgt := 51) hE (d := dX8_notes_82) (ht := by decide) ?_
      refine z_L (L' := [(1, .int (i32 (i + 1))), (0, .ref (ad 6 27))]) [0, 1] (by rfl) ?_
      rw [pcy_s h9.1]
      exact ih (i + 1) p t n ⟨by omega, by omega⟩ hn ht hp hu (by omega)
set_option maxHeartbeats 4000000 in
set_option maxRecDepth 100000 in
theorem lp_X8_notes_a {E : zE} {l0 : Launch} {D0 : va_G} {cI0 cJ0 : ClassId} {ad : Nat → Nat → Nat} (hE : zG E l0 D0 cI0 cJ0 ad cX8_notes 2 RX8 0 0) (S : zM) (h6 : 0 ≤ S 6 0 ∧ S 6 0 ≤ 4) (hR : zR E none none (fun X => X = (us (us S 8 (mp (S 8) (S 7) (S 6 0))) 6 (up (S 6) 0 (min (S 6 0 + 1) 4))))) : ∀ (fuel : Nat) (i : Int) (h9 : 0 ≤ i ∧ i ≤ 1935) (h4 : S 6 0 = 4), (1935 - i).toNat < fuel → Z E (us S 8 (shf (S 8) i)) 10 [(1, .int (i32 i)), (0, .ref (ad 6 27))] [] := by
  intro fuel
  induction fuel with
  | zero => intro _ _ _ hz; omega
  | succ fuel ih =>
    intro i h9 h4 hz
    have h67 : (6 : Nat) ≠ 7 := by decide
    have h76 : (7 : Nat) ≠ 6 := by decide
    have h68 : (6 : Nat) ≠ 8 := by decide
    have h86 : (8 : Nat) ≠ 6 := by decide
    have h78 : (7 : Nat) ≠ 8 := by decide
    have h87 : (8 : Nat) ≠ 7 := by decide
    refine z_iload_n hE 0 rfl rfl dX8_notes_10 ?_
    refine z_sipush (a := 1935) hE (by decide) dX8_notes_11 ?_
    refine z_icmp_ge (tgt := 39) hE dX8_notes_14 (by decide) ⟨by omega, by omega⟩ ⟨by omega, by omega⟩ (fun c1 => ?_) (fun c1 => ?_)
    · rw [show i = 1935 by omega]
      refine z_aload_n hE 1 rfl rfl dX8_notes_39 ?_
      refine z_dup hE rfl dX8_notes_40 ?_
      refine gf_8_2 hE (by decide) zf_X8_39 dX8_notes_41 ?_
      try simp only [us_eq, us_us, us_ne h67, us_ne h76, us_ne h68, us_ne h86, us_ne h78, us_ne h87, us_in h67, us_in h76]
      rw [h4]
      refine z_iconst hE dX8_notes_44 ?_
      refine z_isub hE dX8_notes_45 ?_
      refine pf_8_2 hE (by decide) zf_X8_39 dX8_notes_46 ?_
      try simp only [us_eq, us_us, us_ne h67, us_ne h76, us_ne h68, us_ne h86, us_ne h78, us_ne h87, us_in h67, us_in h76]
      refine z_iconst hE dX8_notes_49 ?_
      refine z_istore_n hE rfl (by decide) rfl dX8_notes_50 ?_
      refine z_L (L' := [(1, .int (i32 (0 : Int))), (0, .ref (ad 6 27))]) [0, 1] (by rfl) ?_
      rw [← pcy_0 (shf (S 8) 1935) (S 7) 3]
      exact lp_X8_notes_b hE S h6 hR 646 ((0 : Int)) (shf (S 8) 1935) (up (S 6) 0 (4 - 1)) ((3 : Int)) ⟨by omega, by omega⟩ ⟨by omega, by omega⟩ up_eq (by unfold mp; rw [if_pos (by omega), show min (S 6 0) 3 = 3 by omega]) (by rw [up_up, show min (S 6 0 + 1) 4 = 3 + 1 by omega]) (by omega)
    · refine z_aload_n hE 1 rfl rfl dX8_notes_17 ?_
      refine gf_8_1 hE (by decide) zf_X8_13 dX8_notes_18 ?_
      refine z_iload_n hE 0 rfl rfl dX8_notes_21 ?_
      refine z_aload_n hE 1 rfl rfl dX8_notes_22 ?_
      refine gf_8_1 hE (by decide) zf_X8_13 dX8_notes_23 ?_
      refine z_iload_n hE 0 rfl rfl dX8_notes_26 ?_
      refine z_sipush (a := 645) hE (by decide) dX8_notes_27 ?_
      refine z_iadd hE dX8_notes_30 ?_
      refine al_29 hE (by decide) (by omega) (by omega) dX8_notes_31 ?_
      try simp only [us_eq, us_us, us_ne h67, us_ne h76, us_ne h68, us_ne h86, us_ne h78, us_ne h87, us_in h67, us_in h76]
      refine as_29 hE (by decide) (by omega) (by omega) dX8_notes_32 ?_
      try simp only [us_eq, us_us, us_ne h67, us_ne h76, us_ne h68, us_ne h86, us_ne h78, us_ne h87, us_in h67, us_in h76]
      refine z_iinc hE 0 rfl (by decide) rfl dX8_notes_33 ?_
      refine z_goto (tgt := 10) hE (d := dX8_notes_36) (ht := by decide) ?_
      refine z_L (L' := [(1, .int (i32 (i + 1))), (0, .ref (ad 6 27))]) [0, 1] (by rfl) ?_
      rw [shf_s h9.1]
      exact ih (i + 1) ⟨by omega, by omega⟩ h4 (by omega)
set_option maxHeartbeats 4000000 in
set_option maxRecDepth 100000 in
theorem c_X8_notes (l0 : Launch) (D0 : va_G) (cI0 cJ0 : ClassId) (ad : Nat → Nat → Nat) (S : zM) (h6 : 0 ≤ S 6 0 ∧ S 6 0 ≤ 4) : Ct l0 D0 cI0 cJ0 ad yX8_notes cX8_notes 2 none 0 0 [.ref (ad 6 27)] S none (fun X => X = (us (us S 8 (mp (S 8) (S 7) (S 6 0))) 6 (up (S 6) 0 (min (S 6 0 + 1) 4)))) := by
  refine Ct.of (by decide) (Nat.le_of_ble_eq_true rfl) (fun E hE hR => ?_)
  have hE : zG E l0 D0 cI0 cJ0 ad cX8_notes 2 RX8 0 0 := hE
  show Z E S 0 [(0, .ref (ad 6 27))] []
  have h67 : (6 : Nat) ≠ 7 := by decide
  have h76 : (7 : Nat) ≠ 6 := by decide
  have h68 : (6 : Nat) ≠ 8 := by decide
  have h86 : (8 : Nat) ≠ 6 := by decide
  have h78 : (7 : Nat) ≠ 8 := by decide
  have h87 : (8 : Nat) ≠ 7 := by decide
  refine z_aload_n hE 0 rfl rfl dX8_notes_0 ?_
  refine gf_8_2 hE (by decide) zf_X8_39 dX8_notes_1 ?_
  refine z_iconst hE dX8_notes_4 ?_
  refine z_icmp_ne (tgt := 49) hE dX8_notes_5 (by decide) ⟨by omega, by omega⟩ ⟨by omega, by omega⟩ (fun c1 => ?_) (fun c1 => ?_)
  · refine z_iconst hE dX8_notes_49 ?_
    refine z_istore_n hE rfl (by decide) rfl dX8_notes_50 ?_
    refine z_L (L' := [(1, .int (i32 (0 : Int))), (0, .ref (ad 6 27))]) [0, 1] (by rfl) ?_
    rw [show S = us (us S 8 (pcy (S 8) (S 7) (S 6 0) 0)) 6 (S 6) from by rw [pcy_0, us_id, us_id]]
    exact lp_X8_notes_b hE S h6 hR 646 ((0 : Int)) (S 8) (S 6) (S 6 0) ⟨by omega, by omega⟩ ⟨by omega, by omega⟩ rfl (by unfold mp; rw [if_neg (by omega), show min (S 6 0) 3 = S 6 0 by omega]) (by rw [show min (S 6 0 + 1) 4 = S 6 0 + 1 by omega]) (by omega)
  · refine z_iconst hE dX8_notes_8 ?_
    refine z_istore_n hE rfl (by decide) rfl dX8_notes_9 ?_
    refine z_L (L' := [(1, .int (i32 (0 : Int))), (0, .ref (ad 6 27))]) [0, 1] (by rfl) ?_
    rw [show S = us S 8 (shf (S 8) 0) from by rw [shf_0, us_id]]
    exact lp_X8_notes_a hE S h6 hR 1936 ((0 : Int)) ⟨by omega, by omega⟩ (by omega) (by omega)
theorem dX8_puts_0 : decode cX8_puts 0 = .ok (.aload_n 0, 1) := by decide +kernel
theorem dX8_puts_1 : decode cX8_puts 1 = .ok (.invokevirtual 43, 3) := by decide +kernel
theorem dX8_puts_4 : decode cX8_puts 4 = .ok (.aload_n 0, 1) := by decide +kernel
theorem dX8_puts_5 : decode cX8_puts 5 = .ok (.getfield 7, 3) := by decide +kernel
theorem dX8_puts_8 : decode cX8_puts 8 = .ok (.iload_n 1, 1) := by decide +kernel
theorem dX8_puts_9 : decode cX8_puts 9 = .ok (.laload, 1) := by decide +kernel
theorem dX8_puts_10 : decode cX8_puts 10 = .ok (.l2i, 1) := by decide +kernel
theorem dX8_puts_11 : decode cX8_puts 11 = .ok (.istore_n 3, 1) := by decide +kernel
theorem dX8_puts_12 : decode cX8_puts 12 = .ok (.aload_n 0, 1) := by decide +kernel
theorem dX8_puts_13 : decode cX8_puts 13 = .ok (.getfield 7, 3) := by decide +kernel
theorem dX8_puts_16 : decode cX8_puts 16 = .ok (.iload_n 1, 1) := by decide +kernel
theorem dX8_puts_17 : decode cX8_puts 17 = .ok (.iload_n 2, 1) := by decide +kernel
theorem dX8_puts_18 : decode cX8_puts 18 = .ok (.i2l, 1) := by decide +kernel
theorem dX8_puts_19 : decode cX8_puts 19 = .ok (.lastore, 1) := by decide +kernel
theorem dX8_puts_20 : decode cX8_puts 20 = .ok (.iload_n 3, 1) := by decide +kernel
theorem dX8_puts_21 : decode cX8_puts 21 = .ok (.ireturn, 1) := by decide +kernel
theorem hy_X8_puts : yX8_puts.cls ≠ "java/lang/invoke/MethodHandle" ∧ yX8_puts.cls ≠ "java/lang/invoke/VarHandle" ∧ (parseMethodDescriptor yX8_puts.desc).map (fun d => d.parameters.length) = some 2 := ⟨by decide +kernel, by decide +kernel, by decide +kernel⟩
set_option maxHeartbeats 4000000 in
set_option maxRecDepth 100000 in
theorem c_X8_puts (l0 : Launch) (D0 : va_G) (cI0 cJ0 : ClassId) (ad : Nat → Nat → Nat) (S : zM) (p : Int) (v : Int) (h6 : 0 ≤ S 6 0 ∧ S 6 0 ≤ 4) (h0 : 0 ≤ p ∧ p < 645) (h1 : -2147483648 ≤ v ∧ v < 2147483648) : Ct l0 D0 cI0 cJ0 ad yX8_puts cX8_puts 4 (some .int) 1 21 [.ref (ad 6 27), .int (i32 p), .int (i32 v)] S (some (.int (i32 (S 7 p)))) (fun X => X = (us (us (us S 8 (mp (S 8) (S 7) (S 6 0))) 6 (up (S 6) 0 (min (S 6 0 + 1) 4))) 7 (up (S 7) p v))) := by
  refine Ct.of (by decide) (Nat.le_of_ble_eq_true rfl) (fun E hE hR => ?_)
  have hE : zG E l0 D0 cI0 cJ0 ad cX8_puts 4 RX8 1 21 := hE
  show Z E S 0 [(0, .ref (ad 6 27)), (1, .int (i32 p)), (2, .int (i32 v))] []
  have h67 : (6 : Nat) ≠ 7 := by decide
  have h76 : (7 : Nat) ≠ 6 := by decide
  have h68 : (6 : Nat) ≠ 8 := by decide
  have h86 : (8 : Nat) ≠ 6 := by decide
  have h78 : (7 : Nat) ≠ 8 := by decide
  have h87 : (8 : Nat) ≠ 7 := by decide
  refine z_aload_n hE 0 rfl rfl dX8_puts_0 ?_
  refine z_callV hE (c_X8_notes l0 D0 cI0 cJ0 ad S (by omega)) (by decide) rfl rfl zm_X8_43 zi_yX8_notes zs_yX8_notes zn_RX8 zc_yX8_notes (hy_X8_notes) (Nat.le_of_ble_eq_true rfl) (Nat.le_of_ble_eq_true rfl) rfl rfl rfl (Nat.le_of_ble_eq_true rfl) dX8_puts_1 ?_
  try simp only [us_eq, us_us, us_ne h67, us_ne h76, us_ne h68, us_ne h86, us_ne h78, us_ne h87, us_in h67, us_in h76]
  refine z_aload_n hE 0 rfl rfl dX8_puts_4 ?_
  refine gf_8_0 hE (by decide) zf_X8_7 dX8_puts_5 ?_
  refine z_iload_n hE 1 rfl rfl dX8_puts_8 ?_
  refine al_28 hE (by decide) (by omega) (by omega) dX8_puts_9 ?_
  try simp only [us_eq, us_us, us_ne h67, us_ne h76, us_ne h68, us_ne h86, us_ne h78, us_ne h87, us_in h67, us_in h76]
  refine z_l2i hE dX8_puts_10 ?_
  refine z_istore_n hE rfl (by decide) rfl dX8_puts_11 ?_
  refine z_aload_n hE 1 rfl rfl dX8_puts_12 ?_
  refine gf_8_0 hE (by decide) zf_X8_7 dX8_puts_13 ?_
  refine z_iload_n hE 2 rfl rfl dX8_puts_16 ?_
  refine z_iload_n hE 3 rfl rfl dX8_puts_17 ?_
  refine z_i2l hE ⟨by omega, by omega⟩ dX8_puts_18 ?_
  refine as_28 hE (by decide) (by omega) (by omega) dX8_puts_19 ?_
  try simp only [us_eq, us_us, us_ne h67, us_ne h76, us_ne h68, us_ne h86, us_ne h78, us_ne h87, us_in h67, us_in h76]
  refine z_iload_n hE 0 rfl rfl dX8_puts_20 ?_
  exact z_iret hE hR dX8_puts_21 (congrArg (fun x => some (Value.int (i32 x))) (by first | rfl | omega)) (by first | rfl | (simp only [us_id]))
theorem dX8_all_0 : decode cX8_all 0 = .ok (.aload_n 0, 1) := by decide +kernel
theorem dX8_all_1 : decode cX8_all 1 = .ok (.getfield 7, 3) := by decide +kernel
theorem dX8_all_4 : decode cX8_all 4 = .ok (.iconst 2, 1) := by decide +kernel
theorem dX8_all_5 : decode cX8_all 5 = .ok (.laload, 1) := by decide +kernel
theorem dX8_all_6 : decode cX8_all 6 = .ok (.lstore_n 1, 1) := by decide +kernel
theorem dX8_all_7 : decode cX8_all 7 = .ok (.iconst 0, 1) := by decide +kernel
theorem dX8_all_8 : decode cX8_all 8 = .ok (.istore_n 3, 1) := by decide +kernel
theorem dX8_all_9 : decode cX8_all 9 = .ok (.iload_n 3, 1) := by decide +kernel
theorem dX8_all_10 : decode cX8_all 10 = .ok (.i2l, 1) := by decide +kernel
theorem dX8_all_11 : decode cX8_all 11 = .ok (.aload_n 0, 1) := by decide +kernel
theorem dX8_all_12 : decode cX8_all 12 = .ok (.getfield 7, 3) := by decide +kernel
theorem dX8_all_15 : decode cX8_all 15 = .ok (.iconst 0, 1) := by decide +kernel
theorem dX8_all_16 : decode cX8_all 16 = .ok (.laload, 1) := by decide +kernel
theorem dX8_all_17 : decode cX8_all 17 = .ok (.lcmp, 1) := by decide +kernel
theorem dX8_all_18 : decode cX8_all 18 = .ok (.ifCond .ge 22, 3) := by decide +kernel
theorem dX8_all_21 : decode cX8_all 21 = .ok (.lload_n 1, 1) := by decide +kernel
theorem dX8_all_22 : decode cX8_all 22 = .ok (.aload_n 0, 1) := by decide +kernel
theorem dX8_all_23 : decode cX8_all 23 = .ok (.getfield 7, 3) := by decide +kernel
theorem dX8_all_26 : decode cX8_all 26 = .ok (.iload_n 3, 1) := by decide +kernel
theorem dX8_all_27 : decode cX8_all 27 = .ok (.iconst 0, 1) := by decide +kernel
theorem dX8_all_28 : decode cX8_all 28 = .ok (.invokestatic 46, 3) := by decide +kernel
theorem dX8_all_31 : decode cX8_all 31 = .ok (.laload, 1) := by decide +kernel
theorem dX8_all_32 : decode cX8_all 32 = .ok (.ladd, 1) := by decide +kernel
theorem dX8_all_33 : decode cX8_all 33 = .ok (.lstore_n 1, 1) := by decide +kernel
theorem dX8_all_34 : decode cX8_all 34 = .ok (.iinc 3 1, 3) := by decide +kernel
theorem dX8_all_37 : decode cX8_all 37 = .ok (.goto (-28), 3) := by decide +kernel
theorem dX8_all_40 : decode cX8_all 40 = .ok (.lload_n 1, 1) := by decide +kernel
theorem dX8_all_41 : decode cX8_all 41 = .ok (.lreturn, 1) := by decide +kernel
theorem hy_X8_all : yX8_all.cls ≠ "java/lang/invoke/MethodHandle" ∧ yX8_all.cls ≠ "java/lang/invoke/VarHandle" ∧ (parseMethodDescriptor yX8_all.desc).map (fun d => d.parameters.length) = some 0 := ⟨by decide +kernel, by decide +kernel, by decide +kernel⟩
set_option maxHeartbeats 4000000 in
set_option maxRecDepth 100000 in
theorem lp_X8_all {E : zE} {l0 : Launch} {D0 : va_G} {cI0 cJ0 : ClassId} {ad : Nat → Nat → Nat} (hE : zG E l0 D0 cI0 cJ0 ad cX8_all 4 RX8 1 21) (S : zM) (hI : Inv0 (S 7)) (hR : zR E (some .long) (some (.long (i64 (sp_all (S 7))))) (fun X => X = S)) : ∀ (fuel : Nat) (i : Int) (h9 : 0 ≤ i ∧ i ≤ S 7 0), (S 7 0 - i).toNat < fuel → Z E S 9 [(3, .int (i32 i)), (1, .long (i64 (S 7 2 + sm (fun k => S 7 (19 + 3 * k)) i))), (0, .ref (ad 6 27))] [] := by
  intro fuel
  induction fuel with
  | zero => intro _ _ hz; omega
  | succ fuel ih =>
    intro i h9 hz
    have h67 : (6 : Nat) ≠ 7 := by decide
    have h76 : (7 : Nat) ≠ 6 := by decide
    have h68 : (6 : Nat) ≠ 8 := by decide
    have h86 : (8 : Nat) ≠ 6 := by decide
    have h78 : (7 : Nat) ≠ 8 := by decide
    have h87 : (8 : Nat) ≠ 7 := by decide
    have hA := inA hI
    unfold InvA at hA
    refine z_iload_n hE 0 rfl rfl dX8_all_9 ?_
    refine z_i2l hE ⟨by omega, by omega⟩ dX8_all_10 ?_
    refine z_aload_n hE 2 rfl rfl dX8_all_11 ?_
    refine gf_8_0 hE (by decide) zf_X8_7 dX8_all_12 ?_
    refine z_iconst hE dX8_all_15 ?_
    refine al_28 hE (by decide) (by omega) (by omega) dX8_all_16 ?_
    refine z_lcmp hE ⟨by omega, by omega⟩ ⟨by omega, by omega⟩ dX8_all_17 ?_
    refine z_ifl_ge (tgt := 40) hE dX8_all_18 (by decide) (fun c1 => ?_) (fun c1 => ?_)
    · refine z_lload_n hE 1 rfl rfl dX8_all_40 ?_
      exact z_lret hE hR dX8_all_41 (congrArg (fun x => some (Value.long (i64 x))) (by unfold sp_all; rw [show i = S 7 0 by omega])) (by first | rfl | (simp only [us_id]))
    · refine z_lload_n hE 1 rfl rfl dX8_all_21 ?_
      refine z_aload_n hE 2 rfl rfl dX8_all_22 ?_
      refine gf_8_0 hE (by decide) zf_X8_7 dX8_all_23 ?_
      refine z_iload_n hE 0 rfl rfl dX8_all_26 ?_
      refine z_iconst hE dX8_all_27 ?_
      refine z_callS hE (c_X8_m l0 D0 cI0 cJ0 ad S i 0 (19 + 3 * i) (by omega)) zm_X8_46 zt_yX8_m zn_RX8 zc_yX8_m (hy_X8_m) (Nat.le_of_ble_eq_true rfl) (Nat.le_of_ble_eq_true rfl) rfl rfl rfl (Nat.le_of_ble_eq_true rfl) dX8_all_28 ?_
      refine al_28 hE (by decide) (by omega) (by omega) dX8_all_31 ?_
      refine z_ladd hE dX8_all_32 ?_
      refine z_lstore_n hE rfl (by decide) rfl dX8_all_33 ?_
      refine z_iinc hE 1 rfl (by decide) rfl dX8_all_34 ?_
      refine z_goto (tgt := 9) hE (d := dX8_all_37) (ht := by decide) ?_
      refine z_L (L' := [(3, .int (i32 (i + 1))), (1, .long (i64 (S 7 2 + sm (fun k => S 7 (19 + 3 * k)) (i + 1)))), (0, .ref (ad 6 27))]) [0, 1, 2] (by rw [show S 7 2 + sm (fun k => S 7 (19 + 3 * k)) (i + 1) = (S 7 2 + sm (fun k => S 7 (19 + 3 * k)) i) + (S 7 (((19 + 3 * i)))) from by first | rfl | ((rw [sm_s h9.1]; omega))]; rfl) ?_
      exact ih (i + 1) ⟨by omega, by omega⟩ (by omega)
set_option maxHeartbeats 4000000 in
set_option maxRecDepth 100000 in
theorem c_X8_all (l0 : Launch) (D0 : va_G) (cI0 cJ0 : ClassId) (ad : Nat → Nat → Nat) (S : zM) (hI : Inv0 (S 7)) : Ct l0 D0 cI0 cJ0 ad yX8_all cX8_all 4 (some .long) 1 21 [.ref (ad 6 27)] S (some (.long (i64 (sp_all (S 7))))) (fun X => X = S) := by
  refine Ct.of (by decide) (Nat.le_of_ble_eq_true rfl) (fun E hE hR => ?_)
  have hE : zG E l0 D0 cI0 cJ0 ad cX8_all 4 RX8 1 21 := hE
  show Z E S 0 [(0, .ref (ad 6 27))] []
  have h67 : (6 : Nat) ≠ 7 := by decide
  have h76 : (7 : Nat) ≠ 6 := by decide
  have h68 : (6 : Nat) ≠ 8 := by decide
  have h86 : (8 : Nat) ≠ 6 := by decide
  have h78 : (7 : Nat) ≠ 8 := by decide
  have h87 : (8 : Nat) ≠ 7 := by decide
  have hA := inA hI
  unfold InvA at hA
  refine z_aload_n hE 0 rfl rfl dX8_all_0 ?_
  refine gf_8_0 hE (by decide) zf_X8_7 dX8_all_1 ?_
  refine z_iconst hE dX8_all_4 ?_
  refine al_28 hE (by decide) (by omega) (by omega) dX8_all_5 ?_
  refine z_lstore_n hE rfl (by decide) rfl dX8_all_6 ?_
  refine z_iconst hE dX8_all_7 ?_
  refine z_istore_n hE rfl (by decide) rfl dX8_all_8 ?_
  refine z_L (L' := [(3, .int (i32 0)), (1, .long (i64 (S 7 2 + sm (fun k => S 7 (19 + 3 * k)) 0))), (0, .ref (ad 6 27))]) [0, 1, 2] (by rw [show S 7 2 + sm (fun k => S 7 (19 + 3 * k)) 0 = S 7 2 from by first | rfl | ((rw [sm_0, Int.add_zero]))]; rfl) ?_
  exact lp_X8_all hE S hI hR 13 0 ⟨by omega, by omega⟩ (by omega)
theorem dX8_requirementOf_0 : decode cX8_requirementOf 0 = .ok (.aload_n 0, 1) := by decide +kernel
theorem dX8_requirementOf_1 : decode cX8_requirementOf 1 = .ok (.getfield 7, 3) := by decide +kernel
theorem dX8_requirementOf_4 : decode cX8_requirementOf 4 = .ok (.iload_n 1, 1) := by decide +kernel
theorem dX8_requirementOf_5 : decode cX8_requirementOf 5 = .ok (.iconst 1, 1) := by decide +kernel
theorem dX8_requirementOf_6 : decode cX8_requirementOf 6 = .ok (.invokestatic 46, 3) := by decide +kernel
theorem dX8_requirementOf_9 : decode cX8_requirementOf 9 = .ok (.laload, 1) := by decide +kernel
theorem dX8_requirementOf_10 : decode cX8_requirementOf 10 = .ok (.aload_n 0, 1) := by decide +kernel
theorem dX8_requirementOf_11 : decode cX8_requirementOf 11 = .ok (.getfield 7, 3) := by decide +kernel
theorem dX8_requirementOf_14 : decode cX8_requirementOf 14 = .ok (.iconst 1, 1) := by decide +kernel
theorem dX8_requirementOf_15 : decode cX8_requirementOf 15 = .ok (.laload, 1) := by decide +kernel
theorem dX8_requirementOf_16 : decode cX8_requirementOf 16 = .ok (.ladd, 1) := by decide +kernel
theorem dX8_requirementOf_17 : decode cX8_requirementOf 17 = .ok (.lconst 1, 1) := by decide +kernel
theorem dX8_requirementOf_18 : decode cX8_requirementOf 18 = .ok (.lsub, 1) := by decide +kernel
theorem dX8_requirementOf_19 : decode cX8_requirementOf 19 = .ok (.aload_n 0, 1) := by decide +kernel
theorem dX8_requirementOf_20 : decode cX8_requirementOf 20 = .ok (.getfield 7, 3) := by decide +kernel
theorem dX8_requirementOf_23 : decode cX8_requirementOf 23 = .ok (.iconst 1, 1) := by decide +kernel
theorem dX8_requirementOf_24 : decode cX8_requirementOf 24 = .ok (.laload, 1) := by decide +kernel
theorem dX8_requirementOf_25 : decode cX8_requirementOf 25 = .ok (.ldiv, 1) := by decide +kernel
theorem dX8_requirementOf_26 : decode cX8_requirementOf 26 = .ok (.lreturn, 1) := by decide +kernel
theorem hy_X8_requirementOf : yX8_requirementOf.cls ≠ "java/lang/invoke/MethodHandle" ∧ yX8_requirementOf.cls ≠ "java/lang/invoke/VarHandle" ∧ (parseMethodDescriptor yX8_requirementOf.desc).map (fun d => d.parameters.length) = some 1 := ⟨by decide +kernel, by decide +kernel, by decide +kernel⟩
set_option maxHeartbeats 4000000 in
set_option maxRecDepth 100000 in
theorem c_X8_requirementOf (l0 : Launch) (D0 : va_G) (cI0 cJ0 : ClassId) (ad : Nat → Nat → Nat) (S : zM) (m : Int) (hI : Inv0 (S 7)) (h0 : 0 ≤ m ∧ m < 12) : Ct l0 D0 cI0 cJ0 ad yX8_requirementOf cX8_requirementOf 2 (some .long) 1 21 [.ref (ad 6 27), .int (i32 m)] S (some (.long (i64 (sp_req (S 7) m)))) (fun X => X = S) := by
  refine Ct.of (by decide) (Nat.le_of_ble_eq_true rfl) (fun E hE hR => ?_)
  have hE : zG E l0 D0 cI0 cJ0 ad cX8_requirementOf 2 RX8 1 21 := hE
  show Z E S 0 [(0, .ref (ad 6 27)), (1, .int (i32 m))] []
  have h67 : (6 : Nat) ≠ 7 := by decide
  have h76 : (7 : Nat) ≠ 6 := by decide
  have h68 : (6 : Nat) ≠ 8 := by decide
  have h86 : (8 : Nat) ≠ 6 := by decide
  have h78 : (7 : Nat) ≠ 8 := by decide
  have h87 : (8 : Nat) ≠ 7 := by decide
  have hA := inA hI
  unfold InvA at hA
  have hm := inM hI h0.1 h0.2
  refine z_aload_n hE 0 rfl rfl dX8_requirementOf_0 ?_
  refine gf_8_0 hE (by decide) zf_X8_7 dX8_requirementOf_1 ?_
  refine z_iload_n hE 1 rfl rfl dX8_requirementOf_4 ?_
  refine z_iconst hE dX8_requirementOf_5 ?_
  refine z_callS hE (c_X8_m l0 D0 cI0 cJ0 ad S m 1 (20 + 3 * m) (by omega)) zm_X8_46 zt_yX8_m zn_RX8 zc_yX8_m (hy_X8_m) (Nat.le_of_ble_eq_true rfl) (Nat.le_of_ble_eq_true rfl) rfl rfl rfl (Nat.le_of_ble_eq_true rfl) dX8_requirementOf_6 ?_
  refine al_28 hE (by decide) (by omega) (by omega) dX8_requirementOf_9 ?_
  refine z_aload_n hE 0 rfl rfl dX8_requirementOf_10 ?_
  refine gf_8_0 hE (by decide) zf_X8_7 dX8_requirementOf_11 ?_
  refine z_iconst hE dX8_requirementOf_14 ?_
  refine al_28 hE (by decide) (by omega) (by omega) dX8_requirementOf_15 ?_
  refine z_ladd hE dX8_requirementOf_16 ?_
  refine z_lconst (a := 1) hE rfl dX8_requirementOf_17 ?_
  refine z_lsub hE dX8_requirementOf_18 ?_
  refine z_aload_n hE 0 rfl rfl dX8_requirementOf_19 ?_
  refine gf_8_0 hE (by decide) zf_X8_7 dX8_requirementOf_20 ?_
  refine z_iconst hE dX8_requirementOf_23 ?_
  refine al_28 hE (by decide) (by omega) (by omega) dX8_requirementOf_24 ?_
  refine z_ldiv hE ⟨by omega, by omega⟩ ⟨by omega, by omega⟩ (by omega) dX8_requirementOf_25 ?_
  rw [zx_tdiv (show 0 ≤ ((S 7 (((20 + 3 * m)))) + (S 7 1)) - 1 by omega)]
  exact z_lret hE hR dX8_requirementOf_26 (congrArg (fun x => some (Value.long (i64 x))) (by first | rfl | omega)) (by first | rfl | (simp only [us_id]))
theorem dX8_freeOf_0 : decode cX8_freeOf 0 = .ok (.aload_n 0, 1) := by decide +kernel
theorem dX8_freeOf_1 : decode cX8_freeOf 1 = .ok (.getfield 7, 3) := by decide +kernel
theorem dX8_freeOf_4 : decode cX8_freeOf 4 = .ok (.iload_n 1, 1) := by decide +kernel
theorem dX8_freeOf_5 : decode cX8_freeOf 5 = .ok (.iconst 0, 1) := by decide +kernel
theorem dX8_freeOf_6 : decode cX8_freeOf 6 = .ok (.invokestatic 46, 3) := by decide +kernel
theorem dX8_freeOf_9 : decode cX8_freeOf 9 = .ok (.laload, 1) := by decide +kernel
theorem dX8_freeOf_10 : decode cX8_freeOf 10 = .ok (.aload_n 0, 1) := by decide +kernel
theorem dX8_freeOf_11 : decode cX8_freeOf 11 = .ok (.iload_n 1, 1) := by decide +kernel
theorem dX8_freeOf_12 : decode cX8_freeOf 12 = .ok (.invokevirtual 50, 3) := by decide +kernel
theorem dX8_freeOf_15 : decode cX8_freeOf 15 = .ok (.lsub, 1) := by decide +kernel
theorem dX8_freeOf_16 : decode cX8_freeOf 16 = .ok (.lstore_n 2, 1) := by decide +kernel
theorem dX8_freeOf_17 : decode cX8_freeOf 17 = .ok (.iconst 0, 1) := by decide +kernel
theorem dX8_freeOf_18 : decode cX8_freeOf 18 = .ok (.istore 4, 2) := by decide +kernel
theorem dX8_freeOf_20 : decode cX8_freeOf 20 = .ok (.iload 4, 2) := by decide +kernel
theorem dX8_freeOf_22 : decode cX8_freeOf 22 = .ok (.i2l, 1) := by decide +kernel
theorem dX8_freeOf_23 : decode cX8_freeOf 23 = .ok (.aload_n 0, 1) := by decide +kernel
theorem dX8_freeOf_24 : decode cX8_freeOf 24 = .ok (.getfield 7, 3) := by decide +kernel
theorem dX8_freeOf_27 : decode cX8_freeOf 27 = .ok (.bipush 14, 2) := by decide +kernel
theorem dX8_freeOf_29 : decode cX8_freeOf 29 = .ok (.laload, 1) := by decide +kernel
theorem dX8_freeOf_30 : decode cX8_freeOf 30 = .ok (.lcmp, 1) := by decide +kernel
theorem dX8_freeOf_31 : decode cX8_freeOf 31 = .ok (.ifCond .ge 62, 3) := by decide +kernel
theorem dX8_freeOf_34 : decode cX8_freeOf 34 = .ok (.lload_n 2, 1) := by decide +kernel
theorem dX8_freeOf_35 : decode cX8_freeOf 35 = .ok (.aload_n 0, 1) := by decide +kernel
theorem dX8_freeOf_36 : decode cX8_freeOf 36 = .ok (.getfield 7, 3) := by decide +kernel
theorem dX8_freeOf_39 : decode cX8_freeOf 39 = .ok (.iload 4, 2) := by decide +kernel
theorem dX8_freeOf_41 : decode cX8_freeOf 41 = .ok (.iconst 0, 1) := by decide +kernel
theorem dX8_freeOf_42 : decode cX8_freeOf 42 = .ok (.invokestatic 54, 3) := by decide +kernel
theorem dX8_freeOf_45 : decode cX8_freeOf 45 = .ok (.laload, 1) := by decide +kernel
theorem dX8_freeOf_46 : decode cX8_freeOf 46 = .ok (.iload_n 1, 1) := by decide +kernel
theorem dX8_freeOf_47 : decode cX8_freeOf 47 = .ok (.i2l, 1) := by decide +kernel
theorem dX8_freeOf_48 : decode cX8_freeOf 48 = .ok (.lcmp, 1) := by decide +kernel
theorem dX8_freeOf_49 : decode cX8_freeOf 49 = .ok (.ifCond .ne 35, 3) := by decide +kernel
theorem dX8_freeOf_52 : decode cX8_freeOf 52 = .ok (.aload_n 0, 1) := by decide +kernel
theorem dX8_freeOf_53 : decode cX8_freeOf 53 = .ok (.getfield 7, 3) := by decide +kernel
theorem dX8_freeOf_56 : decode cX8_freeOf 56 = .ok (.iload 4, 2) := by decide +kernel
theorem dX8_freeOf_58 : decode cX8_freeOf 58 = .ok (.iconst 4, 1) := by decide +kernel
theorem dX8_freeOf_59 : decode cX8_freeOf 59 = .ok (.invokestatic 54, 3) := by decide +kernel
theorem dX8_freeOf_62 : decode cX8_freeOf 62 = .ok (.laload, 1) := by decide +kernel
theorem dX8_freeOf_63 : decode cX8_freeOf 63 = .ok (.ldc2_w 33, 3) := by decide +kernel
theorem dX8_freeOf_66 : decode cX8_freeOf 66 = .ok (.lcmp, 1) := by decide +kernel
theorem dX8_freeOf_67 : decode cX8_freeOf 67 = .ok (.ifCond .ge 17, 3) := by decide +kernel
theorem dX8_freeOf_70 : decode cX8_freeOf 70 = .ok (.aload_n 0, 1) := by decide +kernel
theorem dX8_freeOf_71 : decode cX8_freeOf 71 = .ok (.getfield 7, 3) := by decide +kernel
theorem dX8_freeOf_74 : decode cX8_freeOf 74 = .ok (.iload 4, 2) := by decide +kernel
theorem dX8_freeOf_76 : decode cX8_freeOf 76 = .ok (.iconst 2, 1) := by decide +kernel
theorem dX8_freeOf_77 : decode cX8_freeOf 77 = .ok (.invokestatic 54, 3) := by decide +kernel
theorem dX8_freeOf_80 : decode cX8_freeOf 80 = .ok (.laload, 1) := by decide +kernel
theorem dX8_freeOf_81 : decode cX8_freeOf 81 = .ok (.goto 4, 3) := by decide +kernel
theorem dX8_freeOf_84 : decode cX8_freeOf 84 = .ok (.lconst 0, 1) := by decide +kernel
theorem dX8_freeOf_85 : decode cX8_freeOf 85 = .ok (.lsub, 1) := by decide +kernel
theorem dX8_freeOf_86 : decode cX8_freeOf 86 = .ok (.lstore_n 2, 1) := by decide +kernel
theorem dX8_freeOf_87 : decode cX8_freeOf 87 = .ok (.iinc 4 1, 3) := by decide +kernel
theorem dX8_freeOf_90 : decode cX8_freeOf 90 = .ok (.goto (-70), 3) := by decide +kernel
theorem dX8_freeOf_93 : decode cX8_freeOf 93 = .ok (.lload_n 2, 1) := by decide +kernel
theorem dX8_freeOf_94 : decode cX8_freeOf 94 = .ok (.lconst 0, 1) := by decide +kernel
theorem dX8_freeOf_95 : decode cX8_freeOf 95 = .ok (.lcmp, 1) := by decide +kernel
theorem dX8_freeOf_96 : decode cX8_freeOf 96 = .ok (.ifCond .le 7, 3) := by decide +kernel
theorem dX8_freeOf_99 : decode cX8_freeOf 99 = .ok (.lload_n 2, 1) := by decide +kernel
theorem dX8_freeOf_100 : decode cX8_freeOf 100 = .ok (.goto 4, 3) := by decide +kernel
theorem dX8_freeOf_103 : decode cX8_freeOf 103 = .ok (.lconst 0, 1) := by decide +kernel
theorem dX8_freeOf_104 : decode cX8_freeOf 104 = .ok (.lreturn, 1) := by decide +kernel
theorem hy_X8_freeOf : yX8_freeOf.cls ≠ "java/lang/invoke/MethodHandle" ∧ yX8_freeOf.cls ≠ "java/lang/invoke/VarHandle" ∧ (parseMethodDescriptor yX8_freeOf.desc).map (fun d => d.parameters.length) = some 1 := ⟨by decide +kernel, by decide +kernel, by decide +kernel⟩
set_option maxHeartbeats 4000000 in
set_option maxRecDepth 100000 in
theorem lp_X8_freeOf {E : zE} {l0 : Launch} {D0 : va_G} {cI0 cJ0 : ClassId} {ad : Nat → Nat → Nat} (hE : zG E l0 D0 cI0 cJ0 ad cX8_freeOf 5 RX8 2 42) (S : zM) (m : Int) (hI : Inv0 (S 7)) (h0 : 0 ≤ m ∧ m < 12) (hR : zR E (some .long) (some (.long (i64 (sp_free (S 7) m)))) (fun X => X = S)) : ∀ (fuel : Nat) (i : Int) (h9 : 0 ≤ i ∧ i ≤ S 7 14), (S 7 14 - i).toNat < fuel → Z E S 20 [(4, .int (i32 i)), (2, .long (i64 (S 7 (19 + 3 * m) - sp_req (S 7) m - sm (sp_ro (S 7) m) i))), (0, .ref (ad 6 27)), (1, .int (i32 m))] [] := by
  intro fuel
  induction fuel with
  | zero => intro _ _ hz; omega
  | succ fuel ih =>
    intro i h9 hz
    have h67 : (6 : Nat) ≠ 7 := by decide
    have h76 : (7 : Nat) ≠ 6 := by decide
    have h68 : (6 : Nat) ≠ 8 := by decide
    have h86 : (8 : Nat) ≠ 6 := by decide
    have h78 : (7 : Nat) ≠ 8 := by decide
    have h87 : (8 : Nat) ≠ 7 := by decide
    have hA := inA hI
    unfold InvA at hA
    have hm := inM hI h0.1 h0.2
    have h3 := req_b hI h0.1 h0.2
    have h4 := rem_b hI m
    unfold sp_rem at h4
    refine z_iload hE 0 rfl dX8_freeOf_20 ?_
    refine z_i2l hE ⟨by omega, by omega⟩ dX8_freeOf_22 ?_
    refine z_aload_n hE 2 rfl rfl dX8_freeOf_23 ?_
    refine gf_8_0 hE (by decide) zf_X8_7 dX8_freeOf_24 ?_
    refine z_bipush (a := 14) hE (by decide) dX8_freeOf_27 ?_
    refine al_28 hE (by decide) (by omega) (by omega) dX8_freeOf_29 ?_
    refine z_lcmp hE ⟨by omega, by omega⟩ ⟨by omega, by omega⟩ dX8_freeOf_30 ?_
    refine z_ifl_ge (tgt := 93) hE dX8_freeOf_31 (by decide) (fun c1 => ?_) (fun c1 => ?_)
    · have ei : i = S 7 14 := by omega
      rw [ei]
      refine z_lload_n hE 1 rfl rfl dX8_freeOf_93 ?_
      refine z_lconst (a := 0) hE rfl dX8_freeOf_94 ?_
      refine z_lcmp hE ⟨by omega, by omega⟩ ⟨by omega, by omega⟩ dX8_freeOf_95 ?_
      refine z_ifl_le (tgt := 103) hE dX8_freeOf_96 (by decide) (fun c2 => ?_) (fun c2 => ?_)
      · refine z_lconst (a := 0) hE rfl dX8_freeOf_103 ?_
        exact z_lret hE hR dX8_freeOf_104 (congrArg (fun x => some (Value.long (i64 x))) (by unfold sp_free sp_rem; omega)) (by first | rfl | (simp only [us_id]))
      · refine z_lload_n hE 1 rfl rfl dX8_freeOf_99 ?_
        refine z_goto (tgt := 104) hE (d := dX8_freeOf_100) (ht := by decide) ?_
        exact z_lret hE hR dX8_freeOf_104 (congrArg (fun x => some (Value.long (i64 x))) (by unfold sp_free sp_rem; omega)) (by first | rfl | (simp only [us_id]))
    · have ho := inO hI i h9.1 (by omega)
      refine z_lload_n hE 1 rfl rfl dX8_freeOf_34 ?_
      refine z_aload_n hE 2 rfl rfl dX8_freeOf_35 ?_
      refine gf_8_0 hE (by decide) zf_X8_7 dX8_freeOf_36 ?_
      refine z_iload hE 0 rfl dX8_freeOf_39 ?_
      refine z_iconst hE dX8_freeOf_41 ?_
      refine z_callS hE (c_X8_o l0 D0 cI0 cJ0 ad S i 0 (55 + 22 * i) (by omega)) zm_X8_54 zt_yX8_o zn_RX8 zc_yX8_o (hy_X8_o) (Nat.le_of_ble_eq_true rfl) (Nat.le_of_ble_eq_true rfl) rfl rfl rfl (Nat.le_of_ble_eq_true rfl) dX8_freeOf_42 ?_
      refine al_28 hE (by decide) (by omega) (by omega) dX8_freeOf_45 ?_
      refine z_iload_n hE 3 rfl rfl dX8_freeOf_46 ?_
      refine z_i2l hE ⟨by omega, by omega⟩ dX8_freeOf_47 ?_
      refine z_lcmp hE ⟨by omega, by omega⟩ ⟨by omega, by omega⟩ dX8_freeOf_48 ?_
      refine z_ifl_ne (tgt := 84) hE dX8_freeOf_49 (by decide) (fun c3 => ?_) (fun c3 => ?_)
      · refine z_lconst (a := 0) hE rfl dX8_freeOf_84 ?_
        refine z_lsub hE dX8_freeOf_85 ?_
        refine z_lstore_n hE rfl (by decide) rfl dX8_freeOf_86 ?_
        refine z_iinc hE 1 rfl (by decide) rfl dX8_freeOf_87 ?_
        refine z_goto (tgt := 20) hE (d := dX8_freeOf_90) (ht := by decide) ?_
        refine z_L (L' := [(4, .int (i32 (i + 1))), (2, .long (i64 (S 7 (19 + 3 * m) - sp_req (S 7) m - sm (sp_ro (S 7) m) (i + 1)))), (0, .ref (ad 6 27)), (1, .int (i32 m))]) [0, 1, 2, 3] (by rw [show S 7 (19 + 3 * m) - sp_req (S 7) m - sm (sp_ro (S 7) m) (i + 1) = (S 7 (19 + 3 * m) - sp_req (S 7) m - sm (sp_ro (S 7) m) i) - 0 from by first | rfl | ((rw [sm_s h9.1]; unfold sp_ro; first | (rw [if_pos (by omega)]; omega) | (rw [if_neg (by omega)]; omega)))]; rfl) ?_
        exact ih (i + 1) ⟨by omega, by omega⟩ (by omega)
      · refine z_aload_n hE 2 rfl rfl dX8_freeOf_52 ?_
        refine gf_8_0 hE (by decide) zf_X8_7 dX8_freeOf_53 ?_
        refine z_iload hE 0 rfl dX8_freeOf_56 ?_
        refine z_iconst hE dX8_freeOf_58 ?_
        refine z_callS hE (c_X8_o l0 D0 cI0 cJ0 ad S i 4 (59 + 22 * i) (by omega)) zm_X8_54 zt_yX8_o zn_RX8 zc_yX8_o (hy_X8_o) (Nat.le_of_ble_eq_true rfl) (Nat.le_of_ble_eq_true rfl) rfl rfl rfl (Nat.le_of_ble_eq_true rfl) dX8_freeOf_59 ?_
        refine al_28 hE (by decide) (by omega) (by omega) dX8_freeOf_62 ?_
        refine z_ldc2 (a := 3) hE zl_X8_33 (by decide) dX8_freeOf_63 ?_
        refine z_lcmp hE ⟨by omega, by omega⟩ ⟨by omega, by omega⟩ dX8_freeOf_66 ?_
        refine z_ifl_ge (tgt := 84) hE dX8_freeOf_67 (by decide) (fun c4 => ?_) (fun c4 => ?_)
        · refine z_lconst (a := 0) hE rfl dX8_freeOf_84 ?_
          refine z_lsub hE dX8_freeOf_85 ?_
          refine z_lstore_n hE rfl (by decide) rfl dX8_freeOf_86 ?_
          refine z_iinc hE 1 rfl (by decide) rfl dX8_freeOf_87 ?_
          refine z_goto (tgt := 20) hE (d := dX8_freeOf_90) (ht := by decide) ?_
          refine z_L (L' := [(4, .int (i32 (i + 1))), (2, .long (i64 (S 7 (19 + 3 * m) - sp_req (S 7) m - sm (sp_ro (S 7) m) (i + 1)))), (0, .ref (ad 6 27)), (1, .int (i32 m))]) [0, 1, 2, 3] (by rw [show S 7 (19 + 3 * m) - sp_req (S 7) m - sm (sp_ro (S 7) m) (i + 1) = (S 7 (19 + 3 * m) - sp_req (S 7) m - sm (sp_ro (S 7) m) i) - 0 from by first | rfl | ((rw [sm_s h9.1]; unfold sp_ro; first | (rw [if_pos (by omega)]; omega) | (rw [if_neg (by omega)]; omega)))]; rfl) ?_
          exact ih (i + 1) ⟨by omega, by omega⟩ (by omega)
        · refine z_aload_n hE 2 rfl rfl dX8_freeOf_70 ?_
          refine gf_8_0 hE (by decide) zf_X8_7 dX8_freeOf_71 ?_
          refine z_iload hE 0 rfl dX8_freeOf_74 ?_
          refine z_iconst hE dX8_freeOf_76 ?_
          refine z_callS hE (c_X8_o l0 D0 cI0 cJ0 ad S i 2 (57 + 22 * i) (by omega)) zm_X8_54 zt_yX8_o zn_RX8 zc_yX8_o (hy_X8_o) (Nat.le_of_ble_eq_true rfl) (Nat.le_of_ble_eq_true rfl) rfl rfl rfl (Nat.le_of_ble_eq_true rfl) dX8_freeOf_77 ?_
          refine al_28 hE (by decide) (by omega) (by omega) dX8_freeOf_80 ?_
          refine z_goto (tgt := 85) hE (d := dX8_freeOf_81) (ht := by decide) ?_
          refine z_lsub hE dX8_freeOf_85 ?_
          refine z_lstore_n hE rfl (by decide) rfl dX8_freeOf_86 ?_
          refine z_iinc hE 1 rfl (by decide) rfl dX8_freeOf_87 ?_
          refine z_goto (tgt := 20) hE (d := dX8_freeOf_90) (ht := by decide) ?_
          refine z_L (L' := [(4, .int (i32 (i + 1))), (2, .long (i64 (S 7 (19 + 3 * m) - sp_req (S 7) m - sm (sp_ro (S 7) m) (i + 1)))), (0, .ref (ad 6 27)), (1, .int (i32 m))]) [0, 1, 2, 3] (by rw [show S 7 (19 + 3 * m) - sp_req (S 7) m - sm (sp_ro (S 7) m) (i + 1) = (S 7 (19 + 3 * m) - sp_req (S 7) m - sm (sp_ro (S 7) m) i) - (S 7 (((57 + 22 * i)))) from by first | rfl | ((rw [sm_s h9.1]; unfold sp_ro; first | (rw [if_pos (by omega)]; omega) | (rw [if_neg (by omega)]; omega)))]; rfl) ?_
          exact ih (i + 1) ⟨by omega, by omega⟩ (by omega)
set_option maxHeartbeats 4000000 in
set_option maxRecDepth 100000 in
theorem c_X8_freeOf (l0 : Launch) (D0 : va_G) (cI0 cJ0 : ClassId) (ad : Nat → Nat → Nat) (S : zM) (m : Int) (hI : Inv0 (S 7)) (h0 : 0 ≤ m ∧ m < 12) : Ct l0 D0 cI0 cJ0 ad yX8_freeOf cX8_freeOf 5 (some .long) 2 42 [.ref (ad 6 27), .int (i32 m)] S (some (.long (i64 (sp_free (S 7) m)))) (fun X => X = S) := by
  refine Ct.of (by decide) (Nat.le_of_ble_eq_true rfl) (fun E hE hR => ?_)
  have hE : zG E l0 D0 cI0 cJ0 ad cX8_freeOf 5 RX8 2 42 := hE
  show Z E S 0 [(0, .ref (ad 6 27)), (1, .int (i32 m))] []
  have h67 : (6 : Nat) ≠ 7 := by decide
  have h76 : (7 : Nat) ≠ 6 := by decide
  have h68 : (6 : Nat) ≠ 8 := by decide
  have h86 : (8 : Nat) ≠ 6 := by decide
  have h78 : (7 : Nat) ≠ 8 := by decide
  have h87 : (8 : Nat) ≠ 7 := by decide
  have hA := inA hI
  unfold InvA at hA
  have hm := inM hI h0.1 h0.2
  have h3 := req_b hI h0.1 h0.2
  have h4 := rem_b hI m
  refine z_aload_n hE 0 rfl rfl dX8_freeOf_0 ?_
  refine gf_8_0 hE (by decide) zf_X8_7 dX8_freeOf_1 ?_
  refine z_iload_n hE 1 rfl rfl dX8_freeOf_4 ?_
  refine z_iconst hE dX8_freeOf_5 ?_
  refine z_callS hE (c_X8_m l0 D0 cI0 cJ0 ad S m 0 (19 + 3 * m) (by omega)) zm_X8_46 zt_yX8_m zn_RX8 zc_yX8_m (hy_X8_m) (Nat.le_of_ble_eq_true rfl) (Nat.le_of_ble_eq_true rfl) rfl rfl rfl (Nat.le_of_ble_eq_true rfl) dX8_freeOf_6 ?_
  refine al_28 hE (by decide) (by omega) (by omega) dX8_freeOf_9 ?_
  refine z_aload_n hE 0 rfl rfl dX8_freeOf_10 ?_
  refine z_iload_n hE 1 rfl rfl dX8_freeOf_11 ?_
  refine z_callV hE (c_X8_requirementOf l0 D0 cI0 cJ0 ad S m hI (by omega)) (by decide) rfl rfl zm_X8_50 zi_yX8_requirementOf zs_yX8_requirementOf zn_RX8 zc_yX8_requirementOf (hy_X8_requirementOf) (Nat.le_of_ble_eq_true rfl) (Nat.le_of_ble_eq_true rfl) rfl rfl rfl (Nat.le_of_ble_eq_true rfl) dX8_freeOf_12 ?_
  refine z_lsub hE dX8_freeOf_15 ?_
  refine z_lstore_n hE rfl (by decide) rfl dX8_freeOf_16 ?_
  refine z_iconst hE dX8_freeOf_17 ?_
  refine z_istore hE (by decide) rfl dX8_freeOf_18 ?_
  refine z_L (L' := [(4, .int (i32 0)), (2, .long (i64 (S 7 (19 + 3 * m) - sp_req (S 7) m - sm (sp_ro (S 7) m) 0))), (0, .ref (ad 6 27)), (1, .int (i32 m))]) [0, 1, 2, 3] (by rw [show S 7 (19 + 3 * m) - sp_req (S 7) m - sm (sp_ro (S 7) m) 0 = (S 7 (((19 + 3 * m)))) - (sp_req ((S 7)) m) from by first | rfl | ((rw [sm_0]; omega))]; rfl) ?_
  exact lp_X8_freeOf hE S m hI h0 hR 21 0 ⟨by omega, by omega⟩ (by omega)
theorem dX8_roomOf_0 : decode cX8_roomOf 0 = .ok (.aload_n 0, 1) := by decide +kernel
theorem dX8_roomOf_1 : decode cX8_roomOf 1 = .ok (.invokevirtual 57, 3) := by decide +kernel
theorem dX8_roomOf_4 : decode cX8_roomOf 4 = .ok (.aload_n 0, 1) := by decide +kernel
theorem dX8_roomOf_5 : decode cX8_roomOf 5 = .ok (.getfield 7, 3) := by decide +kernel
theorem dX8_roomOf_8 : decode cX8_roomOf 8 = .ok (.iconst 4, 1) := by decide +kernel
theorem dX8_roomOf_9 : decode cX8_roomOf 9 = .ok (.laload, 1) := by decide +kernel
theorem dX8_roomOf_10 : decode cX8_roomOf 10 = .ok (.lmul, 1) := by decide +kernel
theorem dX8_roomOf_11 : decode cX8_roomOf 11 = .ok (.ldc2_w 31, 3) := by decide +kernel
theorem dX8_roomOf_14 : decode cX8_roomOf 14 = .ok (.ldiv, 1) := by decide +kernel
theorem dX8_roomOf_15 : decode cX8_roomOf 15 = .ok (.aload_n 0, 1) := by decide +kernel
theorem dX8_roomOf_16 : decode cX8_roomOf 16 = .ok (.getfield 7, 3) := by decide +kernel
theorem dX8_roomOf_19 : decode cX8_roomOf 19 = .ok (.iload_n 1, 1) := by decide +kernel
theorem dX8_roomOf_20 : decode cX8_roomOf 20 = .ok (.iconst 0, 1) := by decide +kernel
theorem dX8_roomOf_21 : decode cX8_roomOf 21 = .ok (.invokestatic 46, 3) := by decide +kernel
theorem dX8_roomOf_24 : decode cX8_roomOf 24 = .ok (.laload, 1) := by decide +kernel
theorem dX8_roomOf_25 : decode cX8_roomOf 25 = .ok (.lsub, 1) := by decide +kernel
theorem dX8_roomOf_26 : decode cX8_roomOf 26 = .ok (.lstore_n 2, 1) := by decide +kernel
theorem dX8_roomOf_27 : decode cX8_roomOf 27 = .ok (.lload_n 2, 1) := by decide +kernel
theorem dX8_roomOf_28 : decode cX8_roomOf 28 = .ok (.lconst 0, 1) := by decide +kernel
theorem dX8_roomOf_29 : decode cX8_roomOf 29 = .ok (.lcmp, 1) := by decide +kernel
theorem dX8_roomOf_30 : decode cX8_roomOf 30 = .ok (.ifCond .le 7, 3) := by decide +kernel
theorem dX8_roomOf_33 : decode cX8_roomOf 33 = .ok (.lload_n 2, 1) := by decide +kernel
theorem dX8_roomOf_34 : decode cX8_roomOf 34 = .ok (.goto 4, 3) := by decide +kernel
theorem dX8_roomOf_37 : decode cX8_roomOf 37 = .ok (.lconst 0, 1) := by decide +kernel
theorem dX8_roomOf_38 : decode cX8_roomOf 38 = .ok (.lreturn, 1) := by decide +kernel
theorem hy_X8_roomOf : yX8_roomOf.cls ≠ "java/lang/invoke/MethodHandle" ∧ yX8_roomOf.cls ≠ "java/lang/invoke/VarHandle" ∧ (parseMethodDescriptor yX8_roomOf.desc).map (fun d => d.parameters.length) = some 1 := ⟨by decide +kernel, by decide +kernel, by decide +kernel⟩
set_option maxHeartbeats 4000000 in
set_option maxRecDepth 100000 in
theorem c_X8_roomOf (l0 : Launch) (D0 : va_G) (cI0 cJ0 : ClassId) (ad : Nat → Nat → Nat) (S : zM) (m : Int) (hI : Inv0 (S 7)) (h0 : 0 ≤ m ∧ m < 12) : Ct l0 D0 cI0 cJ0 ad yX8_roomOf cX8_roomOf 4 (some .long) 2 44 [.ref (ad 6 27), .int (i32 m)] S (some (.long (i64 (sp_room (S 7) m)))) (fun X => X = S) := by
  refine Ct.of (by decide) (Nat.le_of_ble_eq_true rfl) (fun E hE hR => ?_)
  have hE : zG E l0 D0 cI0 cJ0 ad cX8_roomOf 4 RX8 2 44 := hE
  show Z E S 0 [(0, .ref (ad 6 27)), (1, .int (i32 m))] []
  have h67 : (6 : Nat) ≠ 7 := by decide
  have h76 : (7 : Nat) ≠ 6 := by decide
  have h68 : (6 : Nat) ≠ 8 := by decide
  have h86 : (8 : Nat) ≠ 6 := by decide
  have h78 : (7 : Nat) ≠ 8 := by decide
  have h87 : (8 : Nat) ≠ 7 := by decide
  have hA := inA hI
  unfold InvA at hA
  have hm := inM hI h0.1 h0.2
  have h3 := room_b hI h0.1 h0.2
  have h4 := inT hI
  refine z_aload_n hE 0 rfl rfl dX8_roomOf_0 ?_
  refine z_callV hE (c_X8_all l0 D0 cI0 cJ0 ad S hI) (by decide) rfl rfl zm_X8_57 zi_yX8_all zs_yX8_all zn_RX8 zc_yX8_all (hy_X8_all) (Nat.le_of_ble_eq_true rfl) (Nat.le_of_ble_eq_true rfl) rfl rfl rfl (Nat.le_of_ble_eq_true rfl) dX8_roomOf_1 ?_
  refine z_aload_n hE 0 rfl rfl dX8_roomOf_4 ?_
  refine gf_8_0 hE (by decide) zf_X8_7 dX8_roomOf_5 ?_
  refine z_iconst hE dX8_roomOf_8 ?_
  refine al_28 hE (by decide) (by omega) (by omega) dX8_roomOf_9 ?_
  refine z_lmul hE dX8_roomOf_10 ?_
  refine z_ldc2 (a := 100) hE zl_X8_31 (by decide) dX8_roomOf_11 ?_
  refine z_ldiv hE ⟨by omega, by omega⟩ ⟨by omega, by omega⟩ (by omega) dX8_roomOf_14 ?_
  rw [zx_tdiv (show 0 ≤ (sp_all ((S 7))) * (S 7 4) by omega)]
  refine z_aload_n hE 0 rfl rfl dX8_roomOf_15 ?_
  refine gf_8_0 hE (by decide) zf_X8_7 dX8_roomOf_16 ?_
  refine z_iload_n hE 1 rfl rfl dX8_roomOf_19 ?_
  refine z_iconst hE dX8_roomOf_20 ?_
  refine z_callS hE (c_X8_m l0 D0 cI0 cJ0 ad S m 0 (19 + 3 * m) (by omega)) zm_X8_46 zt_yX8_m zn_RX8 zc_yX8_m (hy_X8_m) (Nat.le_of_ble_eq_true rfl) (Nat.le_of_ble_eq_true rfl) rfl rfl rfl (Nat.le_of_ble_eq_true rfl) dX8_roomOf_21 ?_
  refine al_28 hE (by decide) (by omega) (by omega) dX8_roomOf_24 ?_
  refine z_lsub hE dX8_roomOf_25 ?_
  refine z_lstore_n hE rfl (by decide) rfl dX8_roomOf_26 ?_
  refine z_lload_n hE 0 rfl rfl dX8_roomOf_27 ?_
  refine z_lconst (a := 0) hE rfl dX8_roomOf_28 ?_
  refine z_lcmp hE ⟨by omega, by omega⟩ ⟨by omega, by omega⟩ dX8_roomOf_29 ?_
  refine z_ifl_le (tgt := 37) hE dX8_roomOf_30 (by decide) (fun c1 => ?_) (fun c1 => ?_)
  · refine z_lconst (a := 0) hE rfl dX8_roomOf_37 ?_
    exact z_lret hE hR dX8_roomOf_38 (congrArg (fun x => some (Value.long (i64 x))) (by unfold sp_room; omega)) (by first | rfl | (simp only [us_id]))
  · refine z_lload_n hE 0 rfl rfl dX8_roomOf_33 ?_
    refine z_goto (tgt := 38) hE (d := dX8_roomOf_34) (ht := by decide) ?_
    exact z_lret hE hR dX8_roomOf_38 (congrArg (fun x => some (Value.long (i64 x))) (by unfold sp_room; omega)) (by first | rfl | (simp only [us_id]))
