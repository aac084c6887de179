theorem ks_lt : ∀ x ∈ ks, x.1 < 5 → x.2 < 22 := by decide +kernel
theorem z_memA {E : zE} {l0 : Launch} {D0 : va_G} {cI0 cJ0 : ClassId} {ad : Nat → Nat → Nat} {cc : ByteArray} {nL0 fr lo : Nat} {own : String} {S : zM} {pc : Nat} {L : List (Nat × Value)} {st : List Value} {r : Nat} {f g : Int → Int} (hE : zG E l0 D0 cI0 cJ0 ad cc nL0 own fr lo) (hr : r < 5) (h : ∀ q, kyA q ≠ 99 → f q = g q) (k : Z E (us S r g) pc L st) : Z E (us S r f) pc L st := by
  refine z_mem hE (fun r' j hk => cf_cg fun q hq => ?_) k
  unfold us
  split
  · rename_i e
    subst e
    have hj : j < 22 := ks_lt _ hk hr
    exact h q (by have := (kz_A hj).mp hq; omega)
  · rfl
theorem uq_two {s : Int → Int} {j k v w : Int} (h : j ≠ k) : up (uq s k v) j (s j + w) = uq (uq s k v) j w := by
  show _ = up (uq s k v) j (uq s k v j + w)
  rw [uq_ne h]
def cpg (a b : Nat) (s t : Int → Int) : Int → Int := fun q => if a ≤ kyA q ∧ kyA q ≤ b then t q else s q
def clr (s : Int → Int) (a i : Int) : Int → Int := fun q => if a ≤ q ∧ q < a + i then 0 else s q
theorem clr_0 (s : Int → Int) (a : Int) : clr s a 0 = s := by funext q; unfold clr; rw [if_neg (by omega)]
theorem clr_s {s : Int → Int} {a i : Int} (h : 0 ≤ i) : up (clr s a i) (a + i) 0 = clr s a (i + 1) := by
  funext q; unfold up clr
  by_cases e : q = a + i
  · rw [if_pos e, if_pos (by omega)]
  · rw [if_neg e]
    by_cases e2 : a ≤ q ∧ q < a + i
    · rw [if_pos e2, if_pos (by omega)]
    · rw [if_neg e2, if_neg (by omega)]
theorem dX1_has_0 : decode cX1_has 0 = .ok (.iload_n 1, 1) := by decide +kernel
theorem dX1_has_1 : decode cX1_has 1 = .ok (.ifCond .lt 15, 3) := by decide +kernel
theorem dX1_has_4 : decode cX1_has 4 = .ok (.iload_n 1, 1) := by decide +kernel
theorem dX1_has_5 : decode cX1_has 5 = .ok (.aload_n 0, 1) := by decide +kernel
theorem dX1_has_6 : decode cX1_has 6 = .ok (.getfield 9, 3) := by decide +kernel
theorem dX1_has_9 : decode cX1_has 9 = .ok (.if_icmp .ge 7, 3) := by decide +kernel
theorem dX1_has_12 : decode cX1_has 12 = .ok (.iconst 1, 1) := by decide +kernel
theorem dX1_has_13 : decode cX1_has 13 = .ok (.goto 4, 3) := by decide +kernel
theorem dX1_has_16 : decode cX1_has 16 = .ok (.iconst 0, 1) := by decide +kernel
theorem dX1_has_17 : decode cX1_has 17 = .ok (.ireturn, 1) := by decide +kernel
theorem hy_X1_has : yX1_has.cls ≠ "java/lang/invoke/MethodHandle" ∧ yX1_has.cls ≠ "java/lang/invoke/VarHandle" ∧ (parseMethodDescriptor yX1_has.desc).map (fun d => d.parameters.length) = some 1 := ⟨by decide +kernel, by decide +kernel, by decide +kernel⟩
set_option maxHeartbeats 4000000 in
set_option maxRecDepth 100000 in
theorem c_X1_has (l0 : Launch) (D0 : va_G) (cI0 cJ0 : ClassId) (ad : Nat → Nat → Nat) (S : zM) (r : Nat) (hr : r < 5) (m : Int) (h0 : -2147483648 ≤ m ∧ m < 2147483648) (h1 : 0 ≤ S r 0 ∧ S r 0 ≤ 12) : Ct l0 D0 cI0 cJ0 ad yX1_has cX1_has 2 (some .boolean) 0 0 [.ref (ad r 1), .int (i32 m)] S (some (.int (i32 (zbo (0 ≤ m ∧ m < S r 0))))) (fun X => X = S) := by
  refine Ct.of (by decide) (Nat.le_of_ble_eq_true rfl) (fun E hE hR => ?_)
  have hE : zG E l0 D0 cI0 cJ0 ad cX1_has 2 RX1 0 0 := hE
  show Z E S 0 [(0, .ref (ad r 1)), (1, .int (i32 m))] []
  refine z_iload_n hE 1 rfl rfl dX1_has_0 ?_
  refine z_if_lt (tgt := 16) hE dX1_has_1 (by decide) ⟨by omega, by omega⟩ (fun c1 => ?_) (fun c1 => ?_)
  · refine z_iconst hE dX1_has_16 ?_
    exact z_zret hE hR dX1_has_17 (by decide) (congrArg (fun x => some (Value.int (i32 x))) (by first | rfl | (unfold zbo; first | rw [if_pos (by omega)] | rw [if_neg (by omega)]))) (by first | rfl | (simp only [us_id]))
  · refine z_iload_n hE 1 rfl rfl dX1_has_4 ?_
    refine z_aload_n hE 0 rfl rfl dX1_has_5 ?_
    refine gf_1_0 hE (ks_m hr (by decide)) zf_X1_9 dX1_has_6 ?_
    refine z_icmp_ge (tgt := 16) hE dX1_has_9 (by decide) ⟨by omega, by omega⟩ ⟨by omega, by omega⟩ (fun c2 => ?_) (fun c2 => ?_)
    · refine z_iconst hE dX1_has_16 ?_
      exact z_zret hE hR dX1_has_17 (by decide) (congrArg (fun x => some (Value.int (i32 x))) (by first | rfl | (unfold zbo; first | rw [if_pos (by omega)] | rw [if_neg (by omega)]))) (by first | rfl | (simp only [us_id]))
    · refine z_iconst hE dX1_has_12 ?_
      refine z_goto (tgt := 17) hE (d := dX1_has_13) (ht := by decide) ?_
      exact z_zret hE hR dX1_has_17 (by decide) (congrArg (fun x => some (Value.int (i32 x))) (by first | rfl | (unfold zbo; first | rw [if_pos (by omega)] | rw [if_neg (by omega)]))) (by first | rfl | (simp only [us_id]))
theorem dX3_has_0 : decode cX3_has 0 = .ok (.iload_n 1, 1) := by decide +kernel
theorem dX3_has_1 : decode cX3_has 1 = .ok (.ifCond .lt 15, 3) := by decide +kernel
theorem dX3_has_4 : decode cX3_has 4 = .ok (.iload_n 1, 1) := by decide +kernel
theorem dX3_has_5 : decode cX3_has 5 = .ok (.aload_n 0, 1) := by decide +kernel
theorem dX3_has_6 : decode cX3_has 6 = .ok (.getfield 9, 3) := by decide +kernel
theorem dX3_has_9 : decode cX3_has 9 = .ok (.if_icmp .ge 7, 3) := by decide +kernel
theorem dX3_has_12 : decode cX3_has 12 = .ok (.iconst 1, 1) := by decide +kernel
theorem dX3_has_13 : decode cX3_has 13 = .ok (.goto 4, 3) := by decide +kernel
theorem dX3_has_16 : decode cX3_has 16 = .ok (.iconst 0, 1) := by decide +kernel
theorem dX3_has_17 : decode cX3_has 17 = .ok (.ireturn, 1) := by decide +kernel
theorem hy_X3_has : yX3_has.cls ≠ "java/lang/invoke/MethodHandle" ∧ yX3_has.cls ≠ "java/lang/invoke/VarHandle" ∧ (parseMethodDescriptor yX3_has.desc).map (fun d => d.parameters.length) = some 1 := ⟨by decide +kernel, by decide +kernel, by decide +kernel⟩
set_option maxHeartbeats 4000000 in
set_option maxRecDepth 100000 in
theorem c_X3_has (l0 : Launch) (D0 : va_G) (cI0 cJ0 : ClassId) (ad : Nat → Nat → Nat) (S : zM) (r : Nat) (hr : r < 5) (o : Int) (h0 : -2147483648 ≤ o ∧ o < 2147483648) (h1 : 0 ≤ S r 14 ∧ S r 14 ≤ 20) : Ct l0 D0 cI0 cJ0 ad yX3_has cX3_has 2 (some .boolean) 0 0 [.ref (ad r 8), .int (i32 o)] S (some (.int (i32 (zbo (0 ≤ o ∧ o < S r 14))))) (fun X => X = S) := by
  refine Ct.of (by decide) (Nat.le_of_ble_eq_true rfl) (fun E hE hR => ?_)
  have hE : zG E l0 D0 cI0 cJ0 ad cX3_has 2 RX3 0 0 := hE
  show Z E S 0 [(0, .ref (ad r 8)), (1, .int (i32 o))] []
  refine z_iload_n hE 1 rfl rfl dX3_has_0 ?_
  refine z_if_lt (tgt := 16) hE dX3_has_1 (by decide) ⟨by omega, by omega⟩ (fun c1 => ?_) (fun c1 => ?_)
  · refine z_iconst hE dX3_has_16 ?_
    exact z_zret hE hR dX3_has_17 (by decide) (congrArg (fun x => some (Value.int (i32 x))) (by first | rfl | (unfold zbo; first | rw [if_pos (by omega)] | rw [if_neg (by omega)]))) (by first | rfl | (simp only [us_id]))
  · refine z_iload_n hE 1 rfl rfl dX3_has_4 ?_
    refine z_aload_n hE 0 rfl rfl dX3_has_5 ?_
    refine gf_3_0 hE (ks_m hr (by decide)) zf_X3_9 dX3_has_6 ?_
    refine z_icmp_ge (tgt := 16) hE dX3_has_9 (by decide) ⟨by omega, by omega⟩ ⟨by omega, by omega⟩ (fun c2 => ?_) (fun c2 => ?_)
    · refine z_iconst hE dX3_has_16 ?_
      exact z_zret hE hR dX3_has_17 (by decide) (congrArg (fun x => some (Value.int (i32 x))) (by first | rfl | (unfold zbo; first | rw [if_pos (by omega)] | rw [if_neg (by omega)]))) (by first | rfl | (simp only [us_id]))
    · refine z_iconst hE dX3_has_12 ?_
      refine z_goto (tgt := 17) hE (d := dX3_has_13) (ht := by decide) ?_
      exact z_zret hE hR dX3_has_17 (by decide) (congrArg (fun x => some (Value.int (i32 x))) (by first | rfl | (unfold zbo; first | rw [if_pos (by omega)] | rw [if_neg (by omega)]))) (by first | rfl | (simp only [us_id]))
theorem dX3_isOpen_0 : decode cX3_isOpen 0 = .ok (.aload_n 0, 1) := by decide +kernel
theorem dX3_isOpen_1 : decode cX3_isOpen 1 = .ok (.getfield 28, 3) := by decide +kernel
theorem dX3_isOpen_4 : decode cX3_isOpen 4 = .ok (.iload_n 1, 1) := by decide +kernel
theorem dX3_isOpen_5 : decode cX3_isOpen 5 = .ok (.iaload, 1) := by decide +kernel
theorem dX3_isOpen_6 : decode cX3_isOpen 6 = .ok (.iconst 3, 1) := by decide +kernel
theorem dX3_isOpen_7 : decode cX3_isOpen 7 = .ok (.if_icmp .eq 7, 3) := by decide +kernel
theorem dX3_isOpen_10 : decode cX3_isOpen 10 = .ok (.iconst 1, 1) := by decide +kernel
theorem dX3_isOpen_11 : decode cX3_isOpen 11 = .ok (.goto 4, 3) := by decide +kernel
theorem dX3_isOpen_14 : decode cX3_isOpen 14 = .ok (.iconst 0, 1) := by decide +kernel
theorem dX3_isOpen_15 : decode cX3_isOpen 15 = .ok (.ireturn, 1) := by decide +kernel
theorem hy_X3_isOpen : yX3_isOpen.cls ≠ "java/lang/invoke/MethodHandle" ∧ yX3_isOpen.cls ≠ "java/lang/invoke/VarHandle" ∧ (parseMethodDescriptor yX3_isOpen.desc).map (fun d => d.parameters.length) = some 1 := ⟨by decide +kernel, by decide +kernel, by decide +kernel⟩
set_option maxHeartbeats 4000000 in
set_option maxRecDepth 100000 in
theorem c_X3_isOpen (l0 : Launch) (D0 : va_G) (cI0 cJ0 : ClassId) (ad : Nat → Nat → Nat) (S : zM) (r : Nat) (hr : r < 5) (o : Int) (h0 : 0 ≤ o ∧ o < 20) (h1 : 0 ≤ S r (59 + 22 * o) ∧ S r (59 + 22 * o) ≤ 3) : Ct l0 D0 cI0 cJ0 ad yX3_isOpen cX3_isOpen 2 (some .boolean) 0 0 [.ref (ad r 8), .int (i32 o)] S (some (.int (i32 (zbo (S r (59 + 22 * o) ≠ 3))))) (fun X => X = S) := by
  refine Ct.of (by decide) (Nat.le_of_ble_eq_true rfl) (fun E hE hR => ?_)
  have hE : zG E l0 D0 cI0 cJ0 ad cX3_isOpen 2 RX3 0 0 := hE
  show Z E S 0 [(0, .ref (ad r 8)), (1, .int (i32 o))] []
  refine z_aload_n hE 0 rfl rfl dX3_isOpen_0 ?_
  refine gf_3_5 hE (ks_m hr (by decide)) zf_X3_28 dX3_isOpen_1 ?_
  refine z_iload_n hE 1 rfl rfl dX3_isOpen_4 ?_
  refine al_13 hE (ks_m hr (by decide)) (by omega) (by omega) dX3_isOpen_5 ?_
  refine z_iconst hE dX3_isOpen_6 ?_
  refine z_icmp_eq (tgt := 14) hE dX3_isOpen_7 (by decide) ⟨by omega, by omega⟩ ⟨by omega, by omega⟩ (fun c1 => ?_) (fun c1 => ?_)
  · refine z_iconst hE dX3_isOpen_14 ?_
    exact z_zret hE hR dX3_isOpen_15 (by decide) (congrArg (fun x => some (Value.int (i32 x))) (by first | rfl | (unfold zbo; first | rw [if_pos (by omega)] | rw [if_neg (by omega)]))) (by first | rfl | (simp only [us_id]))
  · refine z_iconst hE dX3_isOpen_10 ?_
    refine z_goto (tgt := 15) hE (d := dX3_isOpen_11) (ht := by decide) ?_
    exact z_zret hE hR dX3_isOpen_15 (by decide) (congrArg (fun x => some (Value.int (i32 x))) (by first | rfl | (unfold zbo; first | rw [if_pos (by omega)] | rw [if_neg (by omega)]))) (by first | rfl | (simp only [us_id]))
theorem dX3_add_0 : decode cX3_add 0 = .ok (.aload_n 0, 1) := by decide +kernel
theorem dX3_add_1 : decode cX3_add 1 = .ok (.getfield 9, 3) := by decide +kernel
theorem dX3_add_4 : decode cX3_add 4 = .ok (.istore 5, 2) := by decide +kernel
theorem dX3_add_6 : decode cX3_add 6 = .ok (.aload_n 0, 1) := by decide +kernel
theorem dX3_add_7 : decode cX3_add 7 = .ok (.dup, 1) := by decide +kernel
theorem dX3_add_8 : decode cX3_add 8 = .ok (.getfield 9, 3) := by decide +kernel
theorem dX3_add_11 : decode cX3_add 11 = .ok (.iconst 1, 1) := by decide +kernel
theorem dX3_add_12 : decode cX3_add 12 = .ok (.iadd, 1) := by decide +kernel
theorem dX3_add_13 : decode cX3_add 13 = .ok (.putfield 9, 3) := by decide +kernel
theorem dX3_add_16 : decode cX3_add 16 = .ok (.aload_n 0, 1) := by decide +kernel
theorem dX3_add_17 : decode cX3_add 17 = .ok (.getfield 15, 3) := by decide +kernel
theorem dX3_add_20 : decode cX3_add 20 = .ok (.iload 5, 2) := by decide +kernel
theorem dX3_add_22 : decode cX3_add 22 = .ok (.iload_n 1, 1) := by decide +kernel
theorem dX3_add_23 : decode cX3_add 23 = .ok (.iastore, 1) := by decide +kernel
theorem dX3_add_24 : decode cX3_add 24 = .ok (.aload_n 0, 1) := by decide +kernel
theorem dX3_add_25 : decode cX3_add 25 = .ok (.getfield 19, 3) := by decide +kernel
theorem dX3_add_28 : decode cX3_add 28 = .ok (.iload 5, 2) := by decide +kernel
theorem dX3_add_30 : decode cX3_add 30 = .ok (.iload_n 2, 1) := by decide +kernel
theorem dX3_add_31 : decode cX3_add 31 = .ok (.iastore, 1) := by decide +kernel
theorem dX3_add_32 : decode cX3_add 32 = .ok (.aload_n 0, 1) := by decide +kernel
theorem dX3_add_33 : decode cX3_add 33 = .ok (.getfield 25, 3) := by decide +kernel
theorem dX3_add_36 : decode cX3_add 36 = .ok (.iload 5, 2) := by decide +kernel
theorem dX3_add_38 : decode cX3_add 38 = .ok (.iload_n 3, 1) := by decide +kernel
theorem dX3_add_39 : decode cX3_add 39 = .ok (.iastore, 1) := by decide +kernel
theorem dX3_add_40 : decode cX3_add 40 = .ok (.aload_n 0, 1) := by decide +kernel
theorem dX3_add_41 : decode cX3_add 41 = .ok (.getfield 22, 3) := by decide +kernel
theorem dX3_add_44 : decode cX3_add 44 = .ok (.iload 5, 2) := by decide +kernel
theorem dX3_add_46 : decode cX3_add 46 = .ok (.iload 4, 2) := by decide +kernel
theorem dX3_add_48 : decode cX3_add 48 = .ok (.iastore, 1) := by decide +kernel
theorem dX3_add_49 : decode cX3_add 49 = .ok (.iload 5, 2) := by decide +kernel
theorem dX3_add_51 : decode cX3_add 51 = .ok (.ireturn, 1) := by decide +kernel
theorem hy_X3_add : yX3_add.cls ≠ "java/lang/invoke/MethodHandle" ∧ yX3_add.cls ≠ "java/lang/invoke/VarHandle" ∧ (parseMethodDescriptor yX3_add.desc).map (fun d => d.parameters.length) = some 4 := ⟨by decide +kernel, by decide +kernel, by decide +kernel⟩
set_option maxHeartbeats 4000000 in
set_option maxRecDepth 100000 in
theorem c_X3_add (l0 : Launch) (D0 : va_G) (cI0 cJ0 : ClassId) (ad : Nat → Nat → Nat) (S : zM) (r : Nat) (hr : r < 5) (se : Int) (bu : Int) (n : Int) (pr : Int) (h0 : 0 ≤ S r 14 ∧ S r 14 < 20) : Ct l0 D0 cI0 cJ0 ad yX3_add cX3_add 6 (some .int) 0 0 [.ref (ad r 8), .int (i32 se), .int (i32 bu), .int (i32 n), .int (i32 pr)] S (some (.int (i32 (S r 14)))) (fun X => X = (us S r (up (up (up (up (up (S r) 14 (S r 14 + 1)) (55 + 22 * S r 14) se) (56 + 22 * S r 14) bu) (57 + 22 * S r 14) n) (58 + 22 * S r 14) pr))) := by
  refine Ct.of (by decide) (Nat.le_of_ble_eq_true rfl) (fun E hE hR => ?_)
  have hE : zG E l0 D0 cI0 cJ0 ad cX3_add 6 RX3 0 0 := hE
  show Z E S 0 [(0, .ref (ad r 8)), (1, .int (i32 se)), (2, .int (i32 bu)), (3, .int (i32 n)), (4, .int (i32 pr))] []
  refine z_aload_n hE 0 rfl rfl dX3_add_0 ?_
  refine gf_3_0 hE (ks_m hr (by decide)) zf_X3_9 dX3_add_1 ?_
  refine z_istore hE (by decide) rfl dX3_add_4 ?_
  refine z_aload_n hE 1 rfl rfl dX3_add_6 ?_
  refine z_dup hE rfl dX3_add_7 ?_
  refine gf_3_0 hE (ks_m hr (by decide)) zf_X3_9 dX3_add_8 ?_
  refine z_iconst hE dX3_add_11 ?_
  refine z_iadd hE dX3_add_12 ?_
  refine pf_3_0 hE (ks_m hr (by decide)) zf_X3_9 dX3_add_13 ?_
  refine z_aload_n hE 1 rfl rfl dX3_add_16 ?_
  refine gf_3_1 hE (ks_m hr (by decide)) zf_X3_15 dX3_add_17 ?_
  refine z_iload hE 0 rfl dX3_add_20 ?_
  refine z_iload_n hE 2 rfl rfl dX3_add_22 ?_
  refine as_9 hE (ks_m hr (by decide)) (by omega) (by omega) dX3_add_23 ?_
  try simp only [us_eq, us_us]
  refine z_aload_n hE 1 rfl rfl dX3_add_24 ?_
  refine gf_3_2 hE (ks_m hr (by decide)) zf_X3_19 dX3_add_25 ?_
  refine z_iload hE 0 rfl dX3_add_28 ?_
  refine z_iload_n hE 3 rfl rfl dX3_add_30 ?_
  refine as_10 hE (ks_m hr (by decide)) (by omega) (by omega) dX3_add_31 ?_
  try simp only [us_eq, us_us]
  refine z_aload_n hE 1 rfl rfl dX3_add_32 ?_
  refine gf_3_4 hE (ks_m hr (by decide)) zf_X3_25 dX3_add_33 ?_
  refine z_iload hE 0 rfl dX3_add_36 ?_
  refine z_iload_n hE 4 rfl rfl dX3_add_38 ?_
  refine as_12 hE (ks_m hr (by decide)) (by omega) (by omega) dX3_add_39 ?_
  try simp only [us_eq, us_us]
  refine z_aload_n hE 1 rfl rfl dX3_add_40 ?_
  refine gf_3_3 hE (ks_m hr (by decide)) zf_X3_22 dX3_add_41 ?_
  refine z_iload hE 0 rfl dX3_add_44 ?_
  refine z_iload hE 5 rfl dX3_add_46 ?_
  refine as_11 hE (ks_m hr (by decide)) (by omega) (by omega) dX3_add_48 ?_
  try simp only [us_eq, us_us]
  refine z_iload hE 0 rfl dX3_add_49 ?_
  exact z_iret hE hR dX3_add_51 (congrArg (fun x => some (Value.int (i32 x))) (by first | rfl | omega)) (by first | rfl | (simp only [us_id]))
theorem dX3_claimBy_0 : decode cX3_claimBy 0 = .ok (.aload_n 0, 1) := by decide +kernel
theorem dX3_claimBy_1 : decode cX3_claimBy 1 = .ok (.getfield 37, 3) := by decide +kernel
theorem dX3_claimBy_4 : decode cX3_claimBy 4 = .ok (.iload_n 1, 1) := by decide +kernel
theorem dX3_claimBy_5 : decode cX3_claimBy 5 = .ok (.bipush 12, 2) := by decide +kernel
theorem dX3_claimBy_7 : decode cX3_claimBy 7 = .ok (.imul, 1) := by decide +kernel
theorem dX3_claimBy_8 : decode cX3_claimBy 8 = .ok (.iload_n 2, 1) := by decide +kernel
theorem dX3_claimBy_9 : decode cX3_claimBy 9 = .ok (.iadd, 1) := by decide +kernel
theorem dX3_claimBy_10 : decode cX3_claimBy 10 = .ok (.iaload, 1) := by decide +kernel
theorem dX3_claimBy_11 : decode cX3_claimBy 11 = .ok (.ireturn, 1) := by decide +kernel
theorem hy_X3_claimBy : yX3_claimBy.cls ≠ "java/lang/invoke/MethodHandle" ∧ yX3_claimBy.cls ≠ "java/lang/invoke/VarHandle" ∧ (parseMethodDescriptor yX3_claimBy.desc).map (fun d => d.parameters.length) = some 2 := ⟨by decide +kernel, by decide +kernel, by decide +kernel⟩
set_option maxHeartbeats 4000000 in
set_option maxRecDepth 100000 in
theorem c_X3_claimBy (l0 : Launch) (D0 : va_G) (cI0 cJ0 : ClassId) (ad : Nat → Nat → Nat) (S : zM) (r : Nat) (hr : r < 5) (o : Int) (m : Int) (h0 : 0 ≤ o ∧ o < 20) (h1 : 0 ≤ m ∧ m < 12) : Ct l0 D0 cI0 cJ0 ad yX3_claimBy cX3_claimBy 3 (some .int) 0 0 [.ref (ad r 8), .int (i32 o), .int (i32 m)] S (some (.int (i32 (S r (65 + 22 * o + m))))) (fun X => X = S) := by
  refine Ct.of (by decide) (Nat.le_of_ble_eq_true rfl) (fun E hE hR => ?_)
  have hE : zG E l0 D0 cI0 cJ0 ad cX3_claimBy 3 RX3 0 0 := hE
  show Z E S 0 [(0, .ref (ad r 8)), (1, .int (i32 o)), (2, .int (i32 m))] []
  refine z_aload_n hE 0 rfl rfl dX3_claimBy_0 ?_
  refine gf_3_8 hE (ks_m hr (by decide)) zf_X3_37 dX3_claimBy_1 ?_
  refine z_iload_n hE 1 rfl rfl dX3_claimBy_4 ?_
  refine z_bipush (a := 12) hE (by decide) dX3_claimBy_5 ?_
  refine z_imul hE dX3_claimBy_7 ?_
  refine z_iload_n hE 2 rfl rfl dX3_claimBy_8 ?_
  refine z_iadd hE dX3_claimBy_9 ?_
  refine al_16 hE (65 + 22 * o + m) (ks_m hr (by decide)) (by omega) (by omega) (by unfold ofC; omega) dX3_claimBy_10 ?_
  exact z_iret hE hR dX3_claimBy_11 (congrArg (fun x => some (Value.int (i32 x))) (by first | rfl | omega)) (by first | rfl | (simp only [us_id]))
theorem dX3_setClaim_0 : decode cX3_setClaim 0 = .ok (.aload_n 0, 1) := by decide +kernel
theorem dX3_setClaim_1 : decode cX3_setClaim 1 = .ok (.getfield 37, 3) := by decide +kernel
theorem dX3_setClaim_4 : decode cX3_setClaim 4 = .ok (.iload_n 1, 1) := by decide +kernel
theorem dX3_setClaim_5 : decode cX3_setClaim 5 = .ok (.bipush 12, 2) := by decide +kernel
theorem dX3_setClaim_7 : decode cX3_setClaim 7 = .ok (.imul, 1) := by decide +kernel
theorem dX3_setClaim_8 : decode cX3_setClaim 8 = .ok (.iload_n 2, 1) := by decide +kernel
theorem dX3_setClaim_9 : decode cX3_setClaim 9 = .ok (.iadd, 1) := by decide +kernel
theorem dX3_setClaim_10 : decode cX3_setClaim 10 = .ok (.iload_n 3, 1) := by decide +kernel
theorem dX3_setClaim_11 : decode cX3_setClaim 11 = .ok (.iastore, 1) := by decide +kernel
theorem dX3_setClaim_12 : decode cX3_setClaim 12 = .ok (.return_, 1) := by decide +kernel
theorem hy_X3_setClaim : yX3_setClaim.cls ≠ "java/lang/invoke/MethodHandle" ∧ yX3_setClaim.cls ≠ "java/lang/invoke/VarHandle" ∧ (parseMethodDescriptor yX3_setClaim.desc).map (fun d => d.parameters.length) = some 3 := ⟨by decide +kernel, by decide +kernel, by decide +kernel⟩
set_option maxHeartbeats 4000000 in
set_option maxRecDepth 100000 in
theorem c_X3_setClaim (l0 : Launch) (D0 : va_G) (cI0 cJ0 : ClassId) (ad : Nat → Nat → Nat) (S : zM) (r : Nat) (hr : r < 5) (o : Int) (m : Int) (n : Int) (h0 : 0 ≤ o ∧ o < 20) (h1 : 0 ≤ m ∧ m < 12) : Ct l0 D0 cI0 cJ0 ad yX3_setClaim cX3_setClaim 4 none 0 0 [.ref (ad r 8), .int (i32 o), .int (i32 m), .int (i32 n)] S none (fun X => X = (us S r (up (S r) (65 + 22 * o + m) n))) := by
  refine Ct.of (by decide) (Nat.le_of_ble_eq_true rfl) (fun E hE hR => ?_)
  have hE : zG E l0 D0 cI0 cJ0 ad cX3_setClaim 4 RX3 0 0 := hE
  show Z E S 0 [(0, .ref (ad r 8)), (1, .int (i32 o)), (2, .int (i32 m)), (3, .int (i32 n))] []
  refine z_aload_n hE 0 rfl rfl dX3_setClaim_0 ?_
  refine gf_3_8 hE (ks_m hr (by decide)) zf_X3_37 dX3_setClaim_1 ?_
  refine z_iload_n hE 1 rfl rfl dX3_setClaim_4 ?_
  refine z_bipush (a := 12) hE (by decide) dX3_setClaim_5 ?_
  refine z_imul hE dX3_setClaim_7 ?_
  refine z_iload_n hE 2 rfl rfl dX3_setClaim_8 ?_
  refine z_iadd hE dX3_setClaim_9 ?_
  refine z_iload_n hE 3 rfl rfl dX3_setClaim_10 ?_
  refine as_16 hE (65 + 22 * o + m) (ks_m hr (by decide)) (by omega) (by omega) (by unfold ofC; omega) dX3_setClaim_11 ?_
  exact z_vret hE hR dX3_setClaim_12 rfl (by first | rfl | (simp only [us_id]))
theorem dX3_soldTo_0 : decode cX3_soldTo 0 = .ok (.aload_n 0, 1) := by decide +kernel
theorem dX3_soldTo_1 : decode cX3_soldTo 1 = .ok (.getfield 34, 3) := by decide +kernel
theorem dX3_soldTo_4 : decode cX3_soldTo 4 = .ok (.iload_n 1, 1) := by decide +kernel
theorem dX3_soldTo_5 : decode cX3_soldTo 5 = .ok (.iconst 4, 1) := by decide +kernel
theorem dX3_soldTo_6 : decode cX3_soldTo 6 = .ok (.imul, 1) := by decide +kernel
theorem dX3_soldTo_7 : decode cX3_soldTo 7 = .ok (.iload_n 2, 1) := by decide +kernel
theorem dX3_soldTo_8 : decode cX3_soldTo 8 = .ok (.iadd, 1) := by decide +kernel
theorem dX3_soldTo_9 : decode cX3_soldTo 9 = .ok (.iaload, 1) := by decide +kernel
theorem dX3_soldTo_10 : decode cX3_soldTo 10 = .ok (.ireturn, 1) := by decide +kernel
theorem hy_X3_soldTo : yX3_soldTo.cls ≠ "java/lang/invoke/MethodHandle" ∧ yX3_soldTo.cls ≠ "java/lang/invoke/VarHandle" ∧ (parseMethodDescriptor yX3_soldTo.desc).map (fun d => d.parameters.length) = some 2 := ⟨by decide +kernel, by decide +kernel, by decide +kernel⟩
set_option maxHeartbeats 4000000 in
set_option maxRecDepth 100000 in
theorem c_X3_soldTo (l0 : Launch) (D0 : va_G) (cI0 cJ0 : ClassId) (ad : Nat → Nat → Nat) (S : zM) (r : Nat) (hr : r < 5) (o : Int) (w : Int) (h0 : 0 ≤ o ∧ o < 20) (h1 : 0 ≤ w ∧ w < 4) : Ct l0 D0 cI0 cJ0 ad yX3_soldTo cX3_soldTo 3 (some .int) 0 0 [.ref (ad r 8), .int (i32 o), .int (i32 w)] S (some (.int (i32 (S r (61 + 22 * o + w))))) (fun X => X = S) := by
  refine Ct.of (by decide) (Nat.le_of_ble_eq_true rfl) (fun E hE hR => ?_)
  have hE : zG E l0 D0 cI0 cJ0 ad cX3_soldTo 3 RX3 0 0 := hE
  show Z E S 0 [(0, .ref (ad r 8)), (1, .int (i32 o)), (2, .int (i32 w))] []
  refine z_aload_n hE 0 rfl rfl dX3_soldTo_0 ?_
  refine gf_3_7 hE (ks_m hr (by decide)) zf_X3_34 dX3_soldTo_1 ?_
  refine z_iload_n hE 1 rfl rfl dX3_soldTo_4 ?_
  refine z_iconst hE dX3_soldTo_5 ?_
  refine z_imul hE dX3_soldTo_6 ?_
  refine z_iload_n hE 2 rfl rfl dX3_soldTo_7 ?_
  refine z_iadd hE dX3_soldTo_8 ?_
  refine al_15 hE (61 + 22 * o + w) (ks_m hr (by decide)) (by omega) (by omega) (by unfold ofS; omega) dX3_soldTo_9 ?_
  exact z_iret hE hR dX3_soldTo_10 (congrArg (fun x => some (Value.int (i32 x))) (by first | rfl | omega)) (by first | rfl | (simp only [us_id]))
theorem dX3_clearClaims_0 : decode cX3_clearClaims 0 = .ok (.iconst 0, 1) := by decide +kernel
theorem dX3_clearClaims_1 : decode cX3_clearClaims 1 = .ok (.istore_n 2, 1) := by decide +kernel
theorem dX3_clearClaims_2 : decode cX3_clearClaims 2 = .ok (.iload_n 2, 1) := by decide +kernel
theorem dX3_clearClaims_3 : decode cX3_clearClaims 3 = .ok (.bipush 12, 2) := by decide +kernel
theorem dX3_clearClaims_5 : decode cX3_clearClaims 5 = .ok (.if_icmp .ge 16, 3) := by decide +kernel
theorem dX3_clearClaims_8 : decode cX3_clearClaims 8 = .ok (.aload_n 0, 1) := by decide +kernel
theorem dX3_clearClaims_9 : decode cX3_clearClaims 9 = .ok (.iload_n 1, 1) := by decide +kernel
theorem dX3_clearClaims_10 : decode cX3_clearClaims 10 = .ok (.iload_n 2, 1) := by decide +kernel
theorem dX3_clearClaims_11 : decode cX3_clearClaims 11 = .ok (.iconst 0, 1) := by decide +kernel
theorem dX3_clearClaims_12 : decode cX3_clearClaims 12 = .ok (.invokevirtual 54, 3) := by decide +kernel
theorem dX3_clearClaims_15 : decode cX3_clearClaims 15 = .ok (.iinc 2 1, 3) := by decide +kernel
theorem dX3_clearClaims_18 : decode cX3_clearClaims 18 = .ok (.goto (-16), 3) := by decide +kernel
theorem dX3_clearClaims_21 : decode cX3_clearClaims 21 = .ok (.return_, 1) := by decide +kernel
theorem hy_X3_clearClaims : yX3_clearClaims.cls ≠ "java/lang/invoke/MethodHandle" ∧ yX3_clearClaims.cls ≠ "java/lang/invoke/VarHandle" ∧ (parseMethodDescriptor yX3_clearClaims.desc).map (fun d => d.parameters.length) = some 1 := ⟨by decide +kernel, by decide +kernel, by decide +kernel⟩
set_option maxHeartbeats 4000000 in
set_option maxRecDepth 100000 in
theorem lp_X3_clearClaims {E : zE} {l0 : Launch} {D0 : va_G} {cI0 cJ0 : ClassId} {ad : Nat → Nat → Nat} (hE : zG E l0 D0 cI0 cJ0 ad cX3_clearClaims 3 RX3 1 23) (S : zM) (r : Nat) (hr : r < 5) (o : Int) (h0 : 0 ≤ o ∧ o < 20) (hR : zR E none none (fun X => X = (us S r (clr (S r) (65 + 22 * o) 12)))) : ∀ (fuel : Nat) (i : Int) (h9 : 0 ≤ i ∧ i ≤ 12), (12 - i).toNat < fuel → Z E (us S r (clr (S r) (65 + 22 * o) i)) 2 [(2, .int (i32 i)), (0, .ref (ad r 8)), (1, .int (i32 o))] [] := by
  intro fuel
  induction fuel with
  | zero => intro _ _ hz; omega
  | succ fuel ih =>
    intro i h9 hz
    refine z_iload_n hE 0 rfl rfl dX3_clearClaims_2 ?_
    refine z_bipush (a := 12) hE (by decide) dX3_clearClaims_3 ?_
    refine z_icmp_ge (tgt := 21) hE dX3_clearClaims_5 (by decide) ⟨by omega, by omega⟩ ⟨by omega, by omega⟩ (fun c1 => ?_) (fun c1 => ?_)
    · exact z_vret hE hR dX3_clearClaims_21 rfl (by rw [show i = 12 by omega])
    · refine z_aload_n hE 1 rfl rfl dX3_clearClaims_8 ?_
      refine z_iload_n hE 2 rfl rfl dX3_clearClaims_9 ?_
      refine z_iload_n hE 0 rfl rfl dX3_clearClaims_10 ?_
      refine z_iconst hE dX3_clearClaims_11 ?_
      refine z_callV hE (c_X3_setClaim l0 D0 cI0 cJ0 ad (us S r (clr (S r) (65 + 22 * o) i)) r hr o i 0 (by first | omega | (simp only [us_eq]; omega)) (by first | omega | (simp only [us_eq]; omega))) (ks_m hr (by decide)) rfl rfl zm_X3_54 zi_yX3_setClaim zs_yX3_setClaim zn_RX3 zc_yX3_setClaim (hy_X3_setClaim) (Nat.le_of_ble_eq_true rfl) (Nat.le_of_ble_eq_true rfl) rfl rfl rfl (Nat.le_of_ble_eq_true rfl) dX3_clearClaims_12 ?_
      try simp only [us_eq, us_us]
      refine z_iinc hE 0 rfl (by decide) rfl dX3_clearClaims_15 ?_
      refine z_goto (tgt := 2) hE (d := dX3_clearClaims_18) (ht := by decide) ?_
      refine z_L (L' := [(2, .int (i32 (i + 1))), (0, .ref (ad r 8)), (1, .int (i32 o))]) [0, 1, 2] (by rfl) ?_
      rw [clr_s h9.1]
      exact ih (i + 1) ⟨by omega, by omega⟩ (by omega)
set_option maxHeartbeats 4000000 in
set_option maxRecDepth 100000 in
theorem c_X3_clearClaims (l0 : Launch) (D0 : va_G) (cI0 cJ0 : ClassId) (ad : Nat → Nat → Nat) (S : zM) (r : Nat) (hr : r < 5) (o : Int) (h0 : 0 ≤ o ∧ o < 20) : Ct l0 D0 cI0 cJ0 ad yX3_clearClaims cX3_clearClaims 3 none 1 23 [.ref (ad r 8), .int (i32 o)] S none (fun X => X = (us S r (clr (S r) (65 + 22 * o) 12))) := by
  refine Ct.of (by decide) (Nat.le_of_ble_eq_true rfl) (fun E hE hR => ?_)
  have hE : zG E l0 D0 cI0 cJ0 ad cX3_clearClaims 3 RX3 1 23 := hE
  show Z E S 0 [(0, .ref (ad r 8)), (1, .int (i32 o))] []
  refine z_iconst hE dX3_clearClaims_0 ?_
  refine z_istore_n hE rfl (by decide) rfl dX3_clearClaims_1 ?_
  refine z_L (L' := [(2, .int (i32 0)), (0, .ref (ad r 8)), (1, .int (i32 o))]) [0, 1, 2] (by rfl) ?_
  rw [show S = us S r (clr (S r) (65 + 22 * o) 0) from by rw [clr_0, us_id]]
  exact lp_X3_clearClaims hE S r hr o h0 hR 13 0 ⟨by omega, by omega⟩ (by omega)
theorem dX3_sumOfClaims_0 : decode cX3_sumOfClaims 0 = .ok (.iconst 0, 1) := by decide +kernel
theorem dX3_sumOfClaims_1 : decode cX3_sumOfClaims 1 = .ok (.istore_n 2, 1) := by decide +kernel
theorem dX3_sumOfClaims_2 : decode cX3_sumOfClaims 2 = .ok (.iconst 0, 1) := by decide +kernel
theorem dX3_sumOfClaims_3 : decode cX3_sumOfClaims 3 = .ok (.istore_n 3, 1) := by decide +kernel
theorem dX3_sumOfClaims_4 : decode cX3_sumOfClaims 4 = .ok (.iload_n 3, 1) := by decide +kernel
theorem dX3_sumOfClaims_5 : decode cX3_sumOfClaims 5 = .ok (.bipush 12, 2) := by decide +kernel
theorem dX3_sumOfClaims_7 : decode cX3_sumOfClaims 7 = .ok (.if_icmp .ge 18, 3) := by decide +kernel
theorem dX3_sumOfClaims_10 : decode cX3_sumOfClaims 10 = .ok (.iload_n 2, 1) := by decide +kernel
theorem dX3_sumOfClaims_11 : decode cX3_sumOfClaims 11 = .ok (.aload_n 0, 1) := by decide +kernel
theorem dX3_sumOfClaims_12 : decode cX3_sumOfClaims 12 = .ok (.iload_n 1, 1) := by decide +kernel
theorem dX3_sumOfClaims_13 : decode cX3_sumOfClaims 13 = .ok (.iload_n 3, 1) := by decide +kernel
theorem dX3_sumOfClaims_14 : decode cX3_sumOfClaims 14 = .ok (.invokevirtual 57, 3) := by decide +kernel
theorem dX3_sumOfClaims_17 : decode cX3_sumOfClaims 17 = .ok (.iadd, 1) := by decide +kernel
theorem dX3_sumOfClaims_18 : decode cX3_sumOfClaims 18 = .ok (.istore_n 2, 1) := by decide +kernel
theorem dX3_sumOfClaims_19 : decode cX3_sumOfClaims 19 = .ok (.iinc 3 1, 3) := by decide +kernel
theorem dX3_sumOfClaims_22 : decode cX3_sumOfClaims 22 = .ok (.goto (-18), 3) := by decide +kernel
theorem dX3_sumOfClaims_25 : decode cX3_sumOfClaims 25 = .ok (.iload_n 2, 1) := by decide +kernel
theorem dX3_sumOfClaims_26 : decode cX3_sumOfClaims 26 = .ok (.ireturn, 1) := by decide +kernel
theorem hy_X3_sumOfClaims : yX3_sumOfClaims.cls ≠ "java/lang/invoke/MethodHandle" ∧ yX3_sumOfClaims.cls ≠ "java/lang/invoke/VarHandle" ∧ (parseMethodDescriptor yX3_sumOfClaims.desc).map (fun d => d.parameters.length) = some 1 := ⟨by decide +kernel, by decide +kernel, by decide +kernel⟩
set_option maxHeartbeats 4000000 in
set_option maxRecDepth 100000 in
theorem lp_X3_sumOfClaims {E : zE} {l0 : Launch} {D0 : va_G} {cI0 cJ0 : ClassId} {ad : Nat → Nat → Nat} (hE : zG E l0 D0 cI0 cJ0 ad cX3_sumOfClaims 4 RX3 1 22) (S : zM) (r : Nat) (hr : r < 5) (o : Int) (h0 : 0 ≤ o ∧ o < 20) (hR : zR E (some .int) (some (.int (i32 (sm (fun k => S r (65 + 22 * o + k)) 12)))) (fun X => X = S)) : ∀ (fuel : Nat) (i : Int) (h9 : 0 ≤ i ∧ i ≤ 12), (12 - i).toNat < fuel → Z E S 4 [(3, .int (i32 i)), (2, .int (i32 (sm (fun k => S r (65 + 22 * o + k)) i))), (0, .ref (ad r 8)), (1, .int (i32 o))] [] := by
  intro fuel
  induction fuel with
  | zero => intro _ _ hz; omega
  | succ fuel ih =>
    intro i h9 hz
    refine z_iload_n hE 0 rfl rfl dX3_sumOfClaims_4 ?_
    refine z_bipush (a := 12) hE (by decide) dX3_sumOfClaims_5 ?_
    refine z_icmp_ge (tgt := 25) hE dX3_sumOfClaims_7 (by decide) ⟨by omega, by omega⟩ ⟨by omega, by omega⟩ (fun c1 => ?_) (fun c1 => ?_)
    · refine z_iload_n hE 1 rfl rfl dX3_sumOfClaims_25 ?_
      exact z_iret hE hR dX3_sumOfClaims_26 (congrArg (fun x => some (Value.int (i32 x))) (by rw [show i = 12 by omega])) (by first | rfl | (simp only [us_id]))
    · refine z_iload_n hE 1 rfl rfl dX3_sumOfClaims_10 ?_
      refine z_aload_n hE 2 rfl rfl dX3_sumOfClaims_11 ?_
      refine z_iload_n hE 3 rfl rfl dX3_sumOfClaims_12 ?_
      refine z_iload_n hE 0 rfl rfl dX3_sumOfClaims_13 ?_
      refine z_callV hE (c_X3_claimBy l0 D0 cI0 cJ0 ad S r hr o i (by omega) (by omega)) (ks_m hr (by decide)) rfl rfl zm_X3_57 zi_yX3_claimBy zs_yX3_claimBy zn_RX3 zc_yX3_claimBy (hy_X3_claimBy) (Nat.le_of_ble_eq_true rfl) (Nat.le_of_ble_eq_true rfl) rfl rfl rfl (Nat.le_of_ble_eq_true rfl) dX3_sumOfClaims_14 ?_
      refine z_iadd hE dX3_sumOfClaims_17 ?_
      refine z_istore_n hE rfl (by decide) rfl dX3_sumOfClaims_18 ?_
      refine z_iinc hE 1 rfl (by decide) rfl dX3_sumOfClaims_19 ?_
      refine z_goto (tgt := 4) hE (d := dX3_sumOfClaims_22) (ht := by decide) ?_
      refine z_L (L' := [(3, .int (i32 (i + 1))), (2, .int (i32 (sm (fun k => S r (65 + 22 * o + k)) (i + 1)))), (0, .ref (ad r 8)), (1, .int (i32 o))]) [0, 1, 2, 3] (by rw [show sm (fun k => S r (65 + 22 * o + k)) (i + 1) = (sm (fun k => S r (65 + 22 * o + k)) i) + ((S r) (65 + 22 * o + i)) from by first | rfl | (exact sm_s h9.1)]; rfl) ?_
      exact ih (i + 1) ⟨by omega, by omega⟩ (by omega)
set_option maxHeartbeats 4000000 in
set_option maxRecDepth 100000 in
theorem c_X3_sumOfClaims (l0 : Launch) (D0 : va_G) (cI0 cJ0 : ClassId) (ad : Nat → Nat → Nat) (S : zM) (r : Nat) (hr : r < 5) (o : Int) (h0 : 0 ≤ o ∧ o < 20) : Ct l0 D0 cI0 cJ0 ad yX3_sumOfClaims cX3_sumOfClaims 4 (some .int) 1 22 [.ref (ad r 8), .int (i32 o)] S (some (.int (i32 (sm (fun k => S r (65 + 22 * o + k)) 12)))) (fun X => X = S) := by
  refine Ct.of (by decide) (Nat.le_of_ble_eq_true rfl) (fun E hE hR => ?_)
  have hE : zG E l0 D0 cI0 cJ0 ad cX3_sumOfClaims 4 RX3 1 22 := hE
  show Z E S 0 [(0, .ref (ad r 8)), (1, .int (i32 o))] []
  refine z_iconst hE dX3_sumOfClaims_0 ?_
  refine z_istore_n hE rfl (by decide) rfl dX3_sumOfClaims_1 ?_
  refine z_iconst hE dX3_sumOfClaims_2 ?_
  refine z_istore_n hE rfl (by decide) rfl dX3_sumOfClaims_3 ?_
  refine z_L (L' := [(3, .int (i32 0)), (2, .int (i32 (sm (fun k => S r (65 + 22 * o + k)) 0))), (0, .ref (ad r 8)), (1, .int (i32 o))]) [0, 1, 2, 3] (by rw [show sm (fun k => S r (65 + 22 * o + k)) 0 = 0 from by first | rfl | (exact sm_0 _)]; rfl) ?_
  exact lp_X3_sumOfClaims hE S r hr o h0 hR 13 0 ⟨by omega, by omega⟩ (by omega)
theorem dX3_beginStage_0 : decode cX3_beginStage 0 = .ok (.aload_n 0, 1) := by decide +kernel
theorem dX3_beginStage_1 : decode cX3_beginStage 1 = .ok (.getfield 28, 3) := by decide +kernel
theorem dX3_beginStage_4 : decode cX3_beginStage 4 = .ok (.iload_n 1, 1) := by decide +kernel
theorem dX3_beginStage_5 : decode cX3_beginStage 5 = .ok (.iload_n 2, 1) := by decide +kernel
theorem dX3_beginStage_6 : decode cX3_beginStage 6 = .ok (.iastore, 1) := by decide +kernel
theorem dX3_beginStage_7 : decode cX3_beginStage 7 = .ok (.aload_n 0, 1) := by decide +kernel
theorem dX3_beginStage_8 : decode cX3_beginStage 8 = .ok (.getfield 31, 3) := by decide +kernel
theorem dX3_beginStage_11 : decode cX3_beginStage 11 = .ok (.iload_n 1, 1) := by decide +kernel
theorem dX3_beginStage_12 : decode cX3_beginStage 12 = .ok (.iload_n 3, 1) := by decide +kernel
theorem dX3_beginStage_13 : decode cX3_beginStage 13 = .ok (.iastore, 1) := by decide +kernel
theorem dX3_beginStage_14 : decode cX3_beginStage 14 = .ok (.aload_n 0, 1) := by decide +kernel
theorem dX3_beginStage_15 : decode cX3_beginStage 15 = .ok (.iload_n 1, 1) := by decide +kernel
theorem dX3_beginStage_16 : decode cX3_beginStage 16 = .ok (.invokevirtual 46, 3) := by decide +kernel
theorem dX3_beginStage_19 : decode cX3_beginStage 19 = .ok (.return_, 1) := by decide +kernel
theorem hy_X3_beginStage : yX3_beginStage.cls ≠ "java/lang/invoke/MethodHandle" ∧ yX3_beginStage.cls ≠ "java/lang/invoke/VarHandle" ∧ (parseMethodDescriptor yX3_beginStage.desc).map (fun d => d.parameters.length) = some 3 := ⟨by decide +kernel, by decide +kernel, by decide +kernel⟩
set_option maxHeartbeats 4000000 in
set_option maxRecDepth 100000 in
theorem c_X3_beginStage (l0 : Launch) (D0 : va_G) (cI0 cJ0 : ClassId) (ad : Nat → Nat → Nat) (S : zM) (r : Nat) (hr : r < 5) (o : Int) (st : Int) (len : Int) (h0 : 0 ≤ o ∧ o < 20) : Ct l0 D0 cI0 cJ0 ad yX3_beginStage cX3_beginStage 4 none 2 45 [.ref (ad r 8), .int (i32 o), .int (i32 st), .int (i32 len)] S none (fun X => X = (us S r (sp_begin (S r) o st len))) := by
  refine Ct.of (by decide) (Nat.le_of_ble_eq_true rfl) (fun E hE hR => ?_)
  have hE : zG E l0 D0 cI0 cJ0 ad cX3_beginStage 4 RX3 2 45 := hE
  show Z E S 0 [(0, .ref (ad r 8)), (1, .int (i32 o)), (2, .int (i32 st)), (3, .int (i32 len))] []
  refine z_aload_n hE 0 rfl rfl dX3_beginStage_0 ?_
  refine gf_3_5 hE (ks_m hr (by decide)) zf_X3_28 dX3_beginStage_1 ?_
  refine z_iload_n hE 1 rfl rfl dX3_beginStage_4 ?_
  refine z_iload_n hE 2 rfl rfl dX3_beginStage_5 ?_
  refine as_13 hE (ks_m hr (by decide)) (by omega) (by omega) dX3_beginStage_6 ?_
  refine z_aload_n hE 0 rfl rfl dX3_beginStage_7 ?_
  refine gf_3_6 hE (ks_m hr (by decide)) zf_X3_31 dX3_beginStage_8 ?_
  refine z_iload_n hE 1 rfl rfl dX3_beginStage_11 ?_
  refine z_iload_n hE 3 rfl rfl dX3_beginStage_12 ?_
  refine as_14 hE (ks_m hr (by decide)) (by omega) (by omega) dX3_beginStage_13 ?_
  try simp only [us_eq, us_us]
  refine z_aload_n hE 0 rfl rfl dX3_beginStage_14 ?_
  refine z_iload_n hE 1 rfl rfl dX3_beginStage_15 ?_
  refine z_callV hE (c_X3_clearClaims l0 D0 cI0 cJ0 ad (us S r (up (up (S r) (59 + 22 * o) st) (645 + o) len)) r hr o (by first | omega | (simp only [us_eq]; omega))) (ks_m hr (by decide)) rfl rfl zm_X3_46 zi_yX3_clearClaims zs_yX3_clearClaims zn_RX3 zc_yX3_clearClaims (hy_X3_clearClaims) (Nat.le_of_ble_eq_true rfl) (Nat.le_of_ble_eq_true rfl) rfl rfl rfl (Nat.le_of_ble_eq_true rfl) dX3_beginStage_16 ?_
  try simp only [us_eq, us_us]
  refine z_memA hE hr (g := sp_begin (S r) o st len) (fun q hq => ?_) ?_
  · have h1 : q ≠ 60 + 22 * o := fun e => hq (by rw [e, kyA_2 (by omega) (by omega), if_neg (by omega), if_neg (by omega), if_pos (by omega)])
    unfold clr sp_begin up; (repeat' split) <;> first | rfl | omega
  exact z_vret hE hR dX3_beginStage_19 rfl (by first | rfl | (simp only [us_id]))
theorem dX3_close_0 : decode cX3_close 0 = .ok (.aload_n 0, 1) := by decide +kernel
theorem dX3_close_1 : decode cX3_close 1 = .ok (.iload_n 1, 1) := by decide +kernel
theorem dX3_close_2 : decode cX3_close 2 = .ok (.iconst 3, 1) := by decide +kernel
theorem dX3_close_3 : decode cX3_close 3 = .ok (.iconst 0, 1) := by decide +kernel
theorem dX3_close_4 : decode cX3_close 4 = .ok (.invokevirtual 50, 3) := by decide +kernel
theorem dX3_close_7 : decode cX3_close 7 = .ok (.return_, 1) := by decide +kernel
theorem hy_X3_close : yX3_close.cls ≠ "java/lang/invoke/MethodHandle" ∧ yX3_close.cls ≠ "java/lang/invoke/VarHandle" ∧ (parseMethodDescriptor yX3_close.desc).map (fun d => d.parameters.length) = some 1 := ⟨by decide +kernel, by decide +kernel, by decide +kernel⟩
set_option maxHeartbeats 4000000 in
set_option maxRecDepth 100000 in
theorem c_X3_close (l0 : Launch) (D0 : va_G) (cI0 cJ0 : ClassId) (ad : Nat → Nat → Nat) (S : zM) (r : Nat) (hr : r < 5) (o : Int) (h0 : 0 ≤ o ∧ o < 20) : Ct l0 D0 cI0 cJ0 ad yX3_close cX3_close 2 none 3 68 [.ref (ad r 8), .int (i32 o)] S none (fun X => X = (us S r (sp_begin (S r) o 3 0))) := by
  refine Ct.of (by decide) (Nat.le_of_ble_eq_true rfl) (fun E hE hR => ?_)
  have hE : zG E l0 D0 cI0 cJ0 ad cX3_close 2 RX3 3 68 := hE
  show Z E S 0 [(0, .ref (ad r 8)), (1, .int (i32 o))] []
  refine z_aload_n hE 0 rfl rfl dX3_close_0 ?_
  refine z_iload_n hE 1 rfl rfl dX3_close_1 ?_
  refine z_iconst hE dX3_close_2 ?_
  refine z_iconst hE dX3_close_3 ?_
  refine z_callV hE (c_X3_beginStage l0 D0 cI0 cJ0 ad S r hr o 3 0 (by omega)) (ks_m hr (by decide)) rfl rfl zm_X3_50 zi_yX3_beginStage zs_yX3_beginStage zn_RX3 zc_yX3_beginStage (hy_X3_beginStage) (Nat.le_of_ble_eq_true rfl) (Nat.le_of_ble_eq_true rfl) rfl rfl rfl (Nat.le_of_ble_eq_true rfl) dX3_close_4 ?_
  exact z_vret hE hR dX3_close_7 rfl (by first | rfl | (simp only [us_id]))
theorem dX3_losesLastDay_0 : decode cX3_losesLastDay 0 = .ok (.aload_n 0, 1) := by decide +kernel
theorem dX3_losesLastDay_1 : decode cX3_losesLastDay 1 = .ok (.getfield 31, 3) := by decide +kernel
theorem dX3_losesLastDay_4 : decode cX3_losesLastDay 4 = .ok (.iload_n 1, 1) := by decide +kernel
theorem dX3_losesLastDay_5 : decode cX3_losesLastDay 5 = .ok (.dup2, 1) := by decide +kernel
theorem dX3_losesLastDay_6 : decode cX3_losesLastDay 6 = .ok (.iaload, 1) := by decide +kernel
theorem dX3_losesLastDay_7 : decode cX3_losesLastDay 7 = .ok (.iconst 1, 1) := by decide +kernel
theorem dX3_losesLastDay_8 : decode cX3_losesLastDay 8 = .ok (.isub, 1) := by decide +kernel
theorem dX3_losesLastDay_9 : decode cX3_losesLastDay 9 = .ok (.iastore, 1) := by decide +kernel
theorem dX3_losesLastDay_10 : decode cX3_losesLastDay 10 = .ok (.aload_n 0, 1) := by decide +kernel
theorem dX3_losesLastDay_11 : decode cX3_losesLastDay 11 = .ok (.getfield 31, 3) := by decide +kernel
theorem dX3_losesLastDay_14 : decode cX3_losesLastDay 14 = .ok (.iload_n 1, 1) := by decide +kernel
theorem dX3_losesLastDay_15 : decode cX3_losesLastDay 15 = .ok (.iaload, 1) := by decide +kernel
theorem dX3_losesLastDay_16 : decode cX3_losesLastDay 16 = .ok (.ifCond .gt 7, 3) := by decide +kernel
theorem dX3_losesLastDay_19 : decode cX3_losesLastDay 19 = .ok (.iconst 1, 1) := by decide +kernel
theorem dX3_losesLastDay_20 : decode cX3_losesLastDay 20 = .ok (.goto 4, 3) := by decide +kernel
theorem dX3_losesLastDay_23 : decode cX3_losesLastDay 23 = .ok (.iconst 0, 1) := by decide +kernel
theorem dX3_losesLastDay_24 : decode cX3_losesLastDay 24 = .ok (.ireturn, 1) := by decide +kernel
theorem hy_X3_losesLastDay : yX3_losesLastDay.cls ≠ "java/lang/invoke/MethodHandle" ∧ yX3_losesLastDay.cls ≠ "java/lang/invoke/VarHandle" ∧ (parseMethodDescriptor yX3_losesLastDay.desc).map (fun d => d.parameters.length) = some 1 := ⟨by decide +kernel, by decide +kernel, by decide +kernel⟩
set_option maxHeartbeats 4000000 in
set_option maxRecDepth 100000 in
theorem c_X3_losesLastDay (l0 : Launch) (D0 : va_G) (cI0 cJ0 : ClassId) (ad : Nat → Nat → Nat) (S : zM) (r : Nat) (hr : r < 5) (o : Int) (h0 : 0 ≤ o ∧ o < 20) (h1 : -10 ≤ S r (645 + o) ∧ S r (645 + o) ≤ 10) : Ct l0 D0 cI0 cJ0 ad yX3_losesLastDay cX3_losesLastDay 2 (some .boolean) 0 0 [.ref (ad r 8), .int (i32 o)] S (some (.int (i32 (zbo (S r (645 + o) - 1 ≤ 0))))) (fun X => X = (us S r (sp_tick (S r) o))) := by
  refine Ct.of (by decide) (Nat.le_of_ble_eq_true rfl) (fun E hE hR => ?_)
  have hE : zG E l0 D0 cI0 cJ0 ad cX3_losesLastDay 2 RX3 0 0 := hE
  show Z E S 0 [(0, .ref (ad r 8)), (1, .int (i32 o))] []
  refine z_aload_n hE 0 rfl rfl dX3_losesLastDay_0 ?_
  refine gf_3_6 hE (ks_m hr (by decide)) zf_X3_31 dX3_losesLastDay_1 ?_
  refine z_iload_n hE 1 rfl rfl dX3_losesLastDay_4 ?_
  refine z_dup2 hE rfl rfl dX3_losesLastDay_5 ?_
  refine al_14 hE (ks_m hr (by decide)) (by omega) (by omega) dX3_losesLastDay_6 ?_
  refine z_iconst hE dX3_losesLastDay_7 ?_
  refine z_isub hE dX3_losesLastDay_8 ?_
  refine as_14 hE (ks_m hr (by decide)) (by omega) (by omega) dX3_losesLastDay_9 ?_
  refine z_aload_n hE 0 rfl rfl dX3_losesLastDay_10 ?_
  refine gf_3_6 hE (ks_m hr (by decide)) zf_X3_31 dX3_losesLastDay_11 ?_
  refine z_iload_n hE 1 rfl rfl dX3_losesLastDay_14 ?_
  refine al_14 hE (ks_m hr (by decide)) (by omega) (by omega) dX3_losesLastDay_15 ?_
  try simp only [us_eq, us_us]
  rw [up_eq]
  refine z_if_gt (tgt := 23) hE dX3_losesLastDay_16 (by decide) ⟨by omega, by omega⟩ (fun c1 => ?_) (fun c1 => ?_)
  · refine z_iconst hE dX3_losesLastDay_23 ?_
    refine z_memA hE hr (g := sp_tick (S r) o) (fun q hq => ?_) ?_
    · have h1 : q ≠ 60 + 22 * o := fun e => hq (by rw [e, kyA_2 (by omega) (by omega), if_neg (by omega), if_neg (by omega), if_pos (by omega)])
      unfold sp_tick; rw [uq_ne h1]; unfold uq; rw [Int.sub_eq_add_neg]
    exact z_zret hE hR dX3_losesLastDay_24 (by decide) (congrArg (fun x => some (Value.int (i32 x))) (by first | rfl | (unfold zbo; first | rw [if_pos (by omega)] | rw [if_neg (by omega)]))) (by rfl)
  · refine z_iconst hE dX3_losesLastDay_19 ?_
    refine z_goto (tgt := 24) hE (d := dX3_losesLastDay_20) (ht := by decide) ?_
    refine z_memA hE hr (g := sp_tick (S r) o) (fun q hq => ?_) ?_
    · have h1 : q ≠ 60 + 22 * o := fun e => hq (by rw [e, kyA_2 (by omega) (by omega), if_neg (by omega), if_neg (by omega), if_pos (by omega)])
      unfold sp_tick; rw [uq_ne h1]; unfold uq; rw [Int.sub_eq_add_neg]
    exact z_zret hE hR dX3_losesLastDay_24 (by decide) (congrArg (fun x => some (Value.int (i32 x))) (by first | rfl | (unfold zbo; first | rw [if_pos (by omega)] | rw [if_neg (by omega)]))) (by rfl)
theorem dX3_recordSale_0 : decode cX3_recordSale 0 = .ok (.aload_n 0, 1) := by decide +kernel
theorem dX3_recordSale_1 : decode cX3_recordSale 1 = .ok (.getfield 25, 3) := by decide +kernel
theorem dX3_recordSale_4 : decode cX3_recordSale 4 = .ok (.iload_n 1, 1) := by decide +kernel
theorem dX3_recordSale_5 : decode cX3_recordSale 5 = .ok (.dup2, 1) := by decide +kernel
theorem dX3_recordSale_6 : decode cX3_recordSale 6 = .ok (.iaload, 1) := by decide +kernel
theorem dX3_recordSale_7 : decode cX3_recordSale 7 = .ok (.iload_n 3, 1) := by decide +kernel
theorem dX3_recordSale_8 : decode cX3_recordSale 8 = .ok (.isub, 1) := by decide +kernel
theorem dX3_recordSale_9 : decode cX3_recordSale 9 = .ok (.iastore, 1) := by decide +kernel
theorem dX3_recordSale_10 : decode cX3_recordSale 10 = .ok (.aload_n 0, 1) := by decide +kernel
theorem dX3_recordSale_11 : decode cX3_recordSale 11 = .ok (.getfield 34, 3) := by decide +kernel
theorem dX3_recordSale_14 : decode cX3_recordSale 14 = .ok (.iload_n 1, 1) := by decide +kernel
theorem dX3_recordSale_15 : decode cX3_recordSale 15 = .ok (.iconst 4, 1) := by decide +kernel
theorem dX3_recordSale_16 : decode cX3_recordSale 16 = .ok (.imul, 1) := by decide +kernel
theorem dX3_recordSale_17 : decode cX3_recordSale 17 = .ok (.iload_n 2, 1) := by decide +kernel
theorem dX3_recordSale_18 : decode cX3_recordSale 18 = .ok (.iadd, 1) := by decide +kernel
theorem dX3_recordSale_19 : decode cX3_recordSale 19 = .ok (.dup2, 1) := by decide +kernel
theorem dX3_recordSale_20 : decode cX3_recordSale 20 = .ok (.iaload, 1) := by decide +kernel
theorem dX3_recordSale_21 : decode cX3_recordSale 21 = .ok (.iload_n 3, 1) := by decide +kernel
theorem dX3_recordSale_22 : decode cX3_recordSale 22 = .ok (.iadd, 1) := by decide +kernel
theorem dX3_recordSale_23 : decode cX3_recordSale 23 = .ok (.iastore, 1) := by decide +kernel
theorem dX3_recordSale_24 : decode cX3_recordSale 24 = .ok (.return_, 1) := by decide +kernel
theorem hy_X3_recordSale : yX3_recordSale.cls ≠ "java/lang/invoke/MethodHandle" ∧ yX3_recordSale.cls ≠ "java/lang/invoke/VarHandle" ∧ (parseMethodDescriptor yX3_recordSale.desc).map (fun d => d.parameters.length) = some 3 := ⟨by decide +kernel, by decide +kernel, by decide +kernel⟩
set_option maxHeartbeats 4000000 in
set_option maxRecDepth 100000 in
theorem c_X3_recordSale (l0 : Launch) (D0 : va_G) (cI0 cJ0 : ClassId) (ad : Nat → Nat → Nat) (S : zM) (r : Nat) (hr : r < 5) (o : Int) (w : Int) (n : Int) (h0 : 0 ≤ o ∧ o < 20) (h1 : 0 ≤ w ∧ w < 4) : Ct l0 D0 cI0 cJ0 ad yX3_recordSale cX3_recordSale 4 none 0 0 [.ref (ad r 8), .int (i32 o), .int (i32 w), .int (i32 n)] S none (fun X => X = (us S r (uq (uq (S r) (57 + 22 * o) (-n)) (61 + 22 * o + w) n))) := by
  refine Ct.of (by decide) (Nat.le_of_ble_eq_true rfl) (fun E hE hR => ?_)
  have hE : zG E l0 D0 cI0 cJ0 ad cX3_recordSale 4 RX3 0 0 := hE
  show Z E S 0 [(0, .ref (ad r 8)), (1, .int (i32 o)), (2, .int (i32 w)), (3, .int (i32 n))] []
  refine z_aload_n hE 0 rfl rfl dX3_recordSale_0 ?_
  refine gf_3_4 hE (ks_m hr (by decide)) zf_X3_25 dX3_recordSale_1 ?_
  refine z_iload_n hE 1 rfl rfl dX3_recordSale_4 ?_
  refine z_dup2 hE rfl rfl dX3_recordSale_5 ?_
  refine al_12 hE (ks_m hr (by decide)) (by omega) (by omega) dX3_recordSale_6 ?_
  refine z_iload_n hE 3 rfl rfl dX3_recordSale_7 ?_
  refine z_isub hE dX3_recordSale_8 ?_
  refine as_12 hE (ks_m hr (by decide)) (by omega) (by omega) dX3_recordSale_9 ?_
  refine z_aload_n hE 0 rfl rfl dX3_recordSale_10 ?_
  refine gf_3_7 hE (ks_m hr (by decide)) zf_X3_34 dX3_recordSale_11 ?_
  refine z_iload_n hE 1 rfl rfl dX3_recordSale_14 ?_
  refine z_iconst hE dX3_recordSale_15 ?_
  refine z_imul hE dX3_recordSale_16 ?_
  refine z_iload_n hE 2 rfl rfl dX3_recordSale_17 ?_
  refine z_iadd hE dX3_recordSale_18 ?_
  refine z_dup2 hE rfl rfl dX3_recordSale_19 ?_
  refine al_15 hE (61 + 22 * o + w) (ks_m hr (by decide)) (by omega) (by omega) (by unfold ofS; omega) dX3_recordSale_20 ?_
  try simp only [us_eq, us_us]
  rw [up_ne (show 61 + 22 * o + w ≠ 57 + 22 * o by omega)]
  refine z_iload_n hE 3 rfl rfl dX3_recordSale_21 ?_
  refine z_iadd hE dX3_recordSale_22 ?_
  refine as_15 hE (61 + 22 * o + w) (ks_m hr (by decide)) (by omega) (by omega) (by unfold ofS; omega) dX3_recordSale_23 ?_
  try simp only [us_eq, us_us]
  exact z_vret hE hR dX3_recordSale_24 rfl (by rw [uq_sub, uq_two (by omega)])
theorem dX3_remainingOf_0 : decode cX3_remainingOf 0 = .ok (.iconst 0, 1) := by decide +kernel
theorem dX3_remainingOf_1 : decode cX3_remainingOf 1 = .ok (.istore_n 2, 1) := by decide +kernel
theorem dX3_remainingOf_2 : decode cX3_remainingOf 2 = .ok (.iconst 0, 1) := by decide +kernel
theorem dX3_remainingOf_3 : decode cX3_remainingOf 3 = .ok (.istore_n 3, 1) := by decide +kernel
theorem dX3_remainingOf_4 : decode cX3_remainingOf 4 = .ok (.iload_n 3, 1) := by decide +kernel
theorem dX3_remainingOf_5 : decode cX3_remainingOf 5 = .ok (.aload_n 0, 1) := by decide +kernel
theorem dX3_remainingOf_6 : decode cX3_remainingOf 6 = .ok (.getfield 9, 3) := by decide +kernel
theorem dX3_remainingOf_9 : decode cX3_remainingOf 9 = .ok (.if_icmp .ge 36, 3) := by decide +kernel
theorem dX3_remainingOf_12 : decode cX3_remainingOf 12 = .ok (.aload_n 0, 1) := by decide +kernel
theorem dX3_remainingOf_13 : decode cX3_remainingOf 13 = .ok (.iload_n 3, 1) := by decide +kernel
theorem dX3_remainingOf_14 : decode cX3_remainingOf 14 = .ok (.invokevirtual 61, 3) := by decide +kernel
theorem dX3_remainingOf_17 : decode cX3_remainingOf 17 = .ok (.ifCond .eq 22, 3) := by decide +kernel
theorem dX3_remainingOf_20 : decode cX3_remainingOf 20 = .ok (.aload_n 0, 1) := by decide +kernel
theorem dX3_remainingOf_21 : decode cX3_remainingOf 21 = .ok (.getfield 15, 3) := by decide +kernel
theorem dX3_remainingOf_24 : decode cX3_remainingOf 24 = .ok (.iload_n 3, 1) := by decide +kernel
theorem dX3_remainingOf_25 : decode cX3_remainingOf 25 = .ok (.iaload, 1) := by decide +kernel
theorem dX3_remainingOf_26 : decode cX3_remainingOf 26 = .ok (.iload_n 1, 1) := by decide +kernel
theorem dX3_remainingOf_27 : decode cX3_remainingOf 27 = .ok (.if_icmp .ne 12, 3) := by decide +kernel
theorem dX3_remainingOf_30 : decode cX3_remainingOf 30 = .ok (.iload_n 2, 1) := by decide +kernel
theorem dX3_remainingOf_31 : decode cX3_remainingOf 31 = .ok (.aload_n 0, 1) := by decide +kernel
theorem dX3_remainingOf_32 : decode cX3_remainingOf 32 = .ok (.getfield 25, 3) := by decide +kernel
theorem dX3_remainingOf_35 : decode cX3_remainingOf 35 = .ok (.iload_n 3, 1) := by decide +kernel
theorem dX3_remainingOf_36 : decode cX3_remainingOf 36 = .ok (.iaload, 1) := by decide +kernel
theorem dX3_remainingOf_37 : decode cX3_remainingOf 37 = .ok (.iadd, 1) := by decide +kernel
theorem dX3_remainingOf_38 : decode cX3_remainingOf 38 = .ok (.istore_n 2, 1) := by decide +kernel
theorem dX3_remainingOf_39 : decode cX3_remainingOf 39 = .ok (.iinc 3 1, 3) := by decide +kernel
theorem dX3_remainingOf_42 : decode cX3_remainingOf 42 = .ok (.goto (-38), 3) := by decide +kernel
theorem dX3_remainingOf_45 : decode cX3_remainingOf 45 = .ok (.iload_n 2, 1) := by decide +kernel
theorem dX3_remainingOf_46 : decode cX3_remainingOf 46 = .ok (.ireturn, 1) := by decide +kernel
theorem hy_X3_remainingOf : yX3_remainingOf.cls ≠ "java/lang/invoke/MethodHandle" ∧ yX3_remainingOf.cls ≠ "java/lang/invoke/VarHandle" ∧ (parseMethodDescriptor yX3_remainingOf.desc).map (fun d => d.parameters.length) = some 1 := ⟨by decide +kernel, by decide +kernel, by decide +kernel⟩
set_option maxHeartbeats 4000000 in
set_option maxRecDepth 100000 in
theorem lp_X3_remainingOf {E : zE} {l0 : Launch} {D0 : va_G} {cI0 cJ0 : ClassId} {ad : Nat → Nat → Nat} (hE : zG E l0 D0 cI0 cJ0 ad cX3_remainingOf 4 RX3 1 21) (S : zM) (r : Nat) (hr : r < 5) (m : Int) (h0 : 0 ≤ m ∧ m < 12) (h1 : 0 ≤ S r 14 ∧ S r 14 ≤ 20) (ho : ∀ k : Int, 0 ≤ k → k < S r 14 → 0 ≤ S r (59 + 22 * k) ∧ S r (59 + 22 * k) ≤ 3 ∧ 0 ≤ S r (55 + 22 * k) ∧ S r (55 + 22 * k) ≤ 12) (hR : zR E (some .int) (some (.int (i32 (sp_rem (S r) m)))) (fun X => X = S)) : ∀ (fuel : Nat) (i : Int) (h9 : 0 ≤ i ∧ i ≤ S r 14), (S r 14 - i).toNat < fuel → Z E S 4 [(3, .int (i32 i)), (2, .int (i32 (sm (sp_ro (S r) m) i))), (0, .ref (ad r 8)), (1, .int (i32 m))] [] := by
  intro fuel
  induction fuel with
  | zero => intro _ _ hz; omega
  | succ fuel ih =>
    intro i h9 hz
    refine z_iload_n hE 0 rfl rfl dX3_remainingOf_4 ?_
    refine z_aload_n hE 2 rfl rfl dX3_remainingOf_5 ?_
    refine gf_3_0 hE (ks_m hr (by decide)) zf_X3_9 dX3_remainingOf_6 ?_
    refine z_icmp_ge (tgt := 45) hE dX3_remainingOf_9 (by decide) ⟨by omega, by omega⟩ ⟨by omega, by omega⟩ (fun c1 => ?_) (fun c1 => ?_)
    · refine z_iload_n hE 1 rfl rfl dX3_remainingOf_45 ?_
      exact z_iret hE hR dX3_remainingOf_46 (congrArg (fun x => some (Value.int (i32 x))) (by unfold sp_rem; rw [show i = S r 14 by omega])) (by first | rfl | (simp only [us_id]))
    · have h8 := ho i (by omega) (by omega)
      refine z_aload_n hE 2 rfl rfl dX3_remainingOf_12 ?_
      refine z_iload_n hE 0 rfl rfl dX3_remainingOf_13 ?_
      refine z_callV hE (c_X3_isOpen l0 D0 cI0 cJ0 ad S r hr i (by omega) (by omega)) (ks_m hr (by decide)) rfl rfl zm_X3_61 zi_yX3_isOpen zs_yX3_isOpen zn_RX3 zc_yX3_isOpen (hy_X3_isOpen) (Nat.le_of_ble_eq_true rfl) (Nat.le_of_ble_eq_true rfl) rfl rfl rfl (Nat.le_of_ble_eq_true rfl) dX3_remainingOf_14 ?_
      refine z_ifb_eq (tgt := 39) hE dX3_remainingOf_17 (by decide) (fun c2 => ?_) (fun c2 => ?_)
      · refine z_iinc hE 0 rfl (by decide) rfl dX3_remainingOf_39 ?_
        refine z_goto (tgt := 4) hE (d := dX3_remainingOf_42) (ht := by decide) ?_
        refine z_L (L' := [(3, .int (i32 (i + 1))), (2, .int (i32 (sm (sp_ro (S r) m) (i + 1)))), (0, .ref (ad r 8)), (1, .int (i32 m))]) [0, 1, 2, 3] (by rw [show sm (sp_ro (S r) m) (i + 1) = sm (sp_ro (S r) m) i from by first | rfl | ((rw [sm_s h9.1]; unfold sp_ro; first | rw [if_pos ⟨by omega, by omega⟩] | (rw [if_neg (by omega)]; omega)))]; rfl) ?_
        exact ih (i + 1) ⟨by omega, by omega⟩ (by omega)
      · refine z_aload_n hE 2 rfl rfl dX3_remainingOf_20 ?_
        refine gf_3_1 hE (ks_m hr (by decide)) zf_X3_15 dX3_remainingOf_21 ?_
        refine z_iload_n hE 0 rfl rfl dX3_remainingOf_24 ?_
        refine al_9 hE (ks_m hr (by decide)) (by omega) (by omega) dX3_remainingOf_25 ?_
        refine z_iload_n hE 3 rfl rfl dX3_remainingOf_26 ?_
        refine z_icmp_ne (tgt := 39) hE dX3_remainingOf_27 (by decide) ⟨by omega, by omega⟩ ⟨by omega, by omega⟩ (fun c3 => ?_) (fun c3 => ?_)
        · refine z_iinc hE 0 rfl (by decide) rfl dX3_remainingOf_39 ?_
          refine z_goto (tgt := 4) hE (d := dX3_remainingOf_42) (ht := by decide) ?_
          refine z_L (L' := [(3, .int (i32 (i + 1))), (2, .int (i32 (sm (sp_ro (S r) m) (i + 1)))), (0, .ref (ad r 8)), (1, .int (i32 m))]) [0, 1, 2, 3] (by rw [show sm (sp_ro (S r) m) (i + 1) = sm (sp_ro (S r) m) i from by first | rfl | ((rw [sm_s h9.1]; unfold sp_ro; first | rw [if_pos ⟨by omega, by omega⟩] | (rw [if_neg (by omega)]; omega)))]; rfl) ?_
          exact ih (i + 1) ⟨by omega, by omega⟩ (by omega)
        · refine z_iload_n hE 1 rfl rfl dX3_remainingOf_30 ?_
          refine z_aload_n hE 2 rfl rfl dX3_remainingOf_31 ?_
          refine gf_3_4 hE (ks_m hr (by decide)) zf_X3_25 dX3_remainingOf_32 ?_
          refine z_iload_n hE 0 rfl rfl dX3_remainingOf_35 ?_
          refine al_12 hE (ks_m hr (by decide)) (by omega) (by omega) dX3_remainingOf_36 ?_
          refine z_iadd hE dX3_remainingOf_37 ?_
          refine z_istore_n hE rfl (by decide) rfl dX3_remainingOf_38 ?_
          refine z_iinc hE 1 rfl (by decide) rfl dX3_remainingOf_39 ?_
          refine z_goto (tgt := 4) hE (d := dX3_remainingOf_42) (ht := by decide) ?_
          refine z_L (L' := [(3, .int (i32 (i + 1))), (2, .int (i32 (sm (sp_ro (S r) m) (i + 1)))), (0, .ref (ad r 8)), (1, .int (i32 m))]) [0, 1, 2, 3] (by rw [show sm (sp_ro (S r) m) (i + 1) = (sm (sp_ro (S r) m) i) + (S r (57 + 22 * i)) from by first | rfl | ((rw [sm_s h9.1]; unfold sp_ro; first | rw [if_pos ⟨by omega, by omega⟩] | (rw [if_neg (by omega)]; omega)))]; rfl) ?_
          exact ih (i + 1) ⟨by omega, by omega⟩ (by omega)
set_option maxHeartbeats 4000000 in
set_option maxRecDepth 100000 in
theorem c_X3_remainingOf (l0 : Launch) (D0 : va_G) (cI0 cJ0 : ClassId) (ad : Nat → Nat → Nat) (S : zM) (r : Nat) (hr : r < 5) (m : Int) (h0 : 0 ≤ m ∧ m < 12) (h1 : 0 ≤ S r 14 ∧ S r 14 ≤ 20) (ho : ∀ k : Int, 0 ≤ k → k < S r 14 → 0 ≤ S r (59 + 22 * k) ∧ S r (59 + 22 * k) ≤ 3 ∧ 0 ≤ S r (55 + 22 * k) ∧ S r (55 + 22 * k) ≤ 12) : Ct l0 D0 cI0 cJ0 ad yX3_remainingOf cX3_remainingOf 4 (some .int) 1 21 [.ref (ad r 8), .int (i32 m)] S (some (.int (i32 (sp_rem (S r) m)))) (fun X => X = S) := by
  refine Ct.of (by decide) (Nat.le_of_ble_eq_true rfl) (fun E hE hR => ?_)
  have hE : zG E l0 D0 cI0 cJ0 ad cX3_remainingOf 4 RX3 1 21 := hE
  show Z E S 0 [(0, .ref (ad r 8)), (1, .int (i32 m))] []
  refine z_iconst hE dX3_remainingOf_0 ?_
  refine z_istore_n hE rfl (by decide) rfl dX3_remainingOf_1 ?_
  refine z_iconst hE dX3_remainingOf_2 ?_
  refine z_istore_n hE rfl (by decide) rfl dX3_remainingOf_3 ?_
  refine z_L (L' := [(3, .int (i32 0)), (2, .int (i32 (sm (sp_ro (S r) m) 0))), (0, .ref (ad r 8)), (1, .int (i32 m))]) [0, 1, 2, 3] (by rw [show sm (sp_ro (S r) m) 0 = 0 from by first | rfl | (exact sm_0 _)]; rfl) ?_
  exact lp_X3_remainingOf hE S r hr m h0 h1 ho hR 21 0 ⟨by omega, by omega⟩ (by omega)
theorem dX0_recordSurplus_0 : decode cX0_recordSurplus 0 = .ok (.aload_n 0, 1) := by decide +kernel
theorem dX0_recordSurplus_1 : decode cX0_recordSurplus 1 = .ok (.getfield 21, 3) := by decide +kernel
theorem dX0_recordSurplus_4 : decode cX0_recordSurplus 4 = .ok (.iconst 3, 1) := by decide +kernel
theorem dX0_recordSurplus_5 : decode cX0_recordSurplus 5 = .ok (.if_icmp .lt 22, 3) := by decide +kernel
theorem dX0_recordSurplus_8 : decode cX0_recordSurplus 8 = .ok (.aload_n 0, 1) := by decide +kernel
theorem dX0_recordSurplus_9 : decode cX0_recordSurplus 9 = .ok (.getfield 24, 3) := by decide +kernel
theorem dX0_recordSurplus_12 : decode cX0_recordSurplus 12 = .ok (.iconst 1, 1) := by decide +kernel
theorem dX0_recordSurplus_13 : decode cX0_recordSurplus 13 = .ok (.aload_n 0, 1) := by decide +kernel
theorem dX0_recordSurplus_14 : decode cX0_recordSurplus 14 = .ok (.getfield 24, 3) := by decide +kernel
theorem dX0_recordSurplus_17 : decode cX0_recordSurplus 17 = .ok (.iconst 0, 1) := by decide +kernel
theorem dX0_recordSurplus_18 : decode cX0_recordSurplus 18 = .ok (.iconst 2, 1) := by decide +kernel
theorem dX0_recordSurplus_19 : decode cX0_recordSurplus 19 = .ok (.invokestatic 28, 3) := by decide +kernel
theorem dX0_recordSurplus_22 : decode cX0_recordSurplus 22 = .ok (.aload_n 0, 1) := by decide +kernel
theorem dX0_recordSurplus_23 : decode cX0_recordSurplus 23 = .ok (.iconst 2, 1) := by decide +kernel
theorem dX0_recordSurplus_24 : decode cX0_recordSurplus 24 = .ok (.putfield 21, 3) := by decide +kernel
theorem dX0_recordSurplus_27 : decode cX0_recordSurplus 27 = .ok (.aload_n 0, 1) := by decide +kernel
theorem dX0_recordSurplus_28 : decode cX0_recordSurplus 28 = .ok (.getfield 24, 3) := by decide +kernel
theorem dX0_recordSurplus_31 : decode cX0_recordSurplus 31 = .ok (.aload_n 0, 1) := by decide +kernel
theorem dX0_recordSurplus_32 : decode cX0_recordSurplus 32 = .ok (.getfield 21, 3) := by decide +kernel
theorem dX0_recordSurplus_35 : decode cX0_recordSurplus 35 = .ok (.iload_n 1, 1) := by decide +kernel
theorem dX0_recordSurplus_36 : decode cX0_recordSurplus 36 = .ok (.iastore, 1) := by decide +kernel
theorem dX0_recordSurplus_37 : decode cX0_recordSurplus 37 = .ok (.aload_n 0, 1) := by decide +kernel
theorem dX0_recordSurplus_38 : decode cX0_recordSurplus 38 = .ok (.dup, 1) := by decide +kernel
theorem dX0_recordSurplus_39 : decode cX0_recordSurplus 39 = .ok (.getfield 21, 3) := by decide +kernel
theorem dX0_recordSurplus_42 : decode cX0_recordSurplus 42 = .ok (.iconst 1, 1) := by decide +kernel
theorem dX0_recordSurplus_43 : decode cX0_recordSurplus 43 = .ok (.iadd, 1) := by decide +kernel
theorem dX0_recordSurplus_44 : decode cX0_recordSurplus 44 = .ok (.putfield 21, 3) := by decide +kernel
theorem dX0_recordSurplus_47 : decode cX0_recordSurplus 47 = .ok (.return_, 1) := by decide +kernel
theorem hy_X0_recordSurplus : yX0_recordSurplus.cls ≠ "java/lang/invoke/MethodHandle" ∧ yX0_recordSurplus.cls ≠ "java/lang/invoke/VarHandle" ∧ (parseMethodDescriptor yX0_recordSurplus.desc).map (fun d => d.parameters.length) = some 1 := ⟨by decide +kernel, by decide +kernel, by decide +kernel⟩
set_option maxHeartbeats 4000000 in
set_option maxRecDepth 100000 in
theorem c_X0_recordSurplus (l0 : Launch) (D0 : va_G) (cI0 cJ0 : ClassId) (ad : Nat → Nat → Nat) (S : zM) (r : Nat) (hr : r < 5) (a : Int) (h0 : 0 ≤ S r 9 ∧ S r 9 ≤ 3) : Ct l0 D0 cI0 cJ0 ad yX0_recordSurplus cX0_recordSurplus 2 none 1 26 [.ref (ad r 6), .int (i32 a)] S none (fun X => X = (us S r (sp_rec (S r) a))) := by
  refine Ct.of (by decide) (Nat.le_of_ble_eq_true rfl) (fun E hE hR => ?_)
  have hE : zG E l0 D0 cI0 cJ0 ad cX0_recordSurplus 2 RX0 1 26 := hE
  show Z E S 0 [(0, .ref (ad r 6)), (1, .int (i32 a))] []
  refine z_aload_n hE 0 rfl rfl dX0_recordSurplus_0 ?_
  refine gf_0_3 hE (ks_m hr (by decide)) zf_X0_21 dX0_recordSurplus_1 ?_
  refine z_iconst hE dX0_recordSurplus_4 ?_
  refine z_icmp_lt (tgt := 27) hE dX0_recordSurplus_5 (by decide) ⟨by omega, by omega⟩ ⟨by omega, by omega⟩ (fun c1 => ?_) (fun c1 => ?_)
  · refine z_aload_n hE 0 rfl rfl dX0_recordSurplus_27 ?_
    refine gf_0_4 hE (ks_m hr (by decide)) zf_X0_24 dX0_recordSurplus_28 ?_
    refine z_aload_n hE 0 rfl rfl dX0_recordSurplus_31 ?_
    refine gf_0_3 hE (ks_m hr (by decide)) zf_X0_21 dX0_recordSurplus_32 ?_
    refine z_iload_n hE 1 rfl rfl dX0_recordSurplus_35 ?_
    refine as_7 hE (ks_m hr (by decide)) (by omega) (by omega) dX0_recordSurplus_36 ?_
    refine z_aload_n hE 0 rfl rfl dX0_recordSurplus_37 ?_
    refine z_dup hE rfl dX0_recordSurplus_38 ?_
    refine gf_0_3 hE (ks_m hr (by decide)) zf_X0_21 dX0_recordSurplus_39 ?_
    try simp only [us_eq, us_us]
    rw [up_ne (show 9 ≠ 10 + (S r 9) by omega)]
    refine z_iconst hE dX0_recordSurplus_42 ?_
    refine z_iadd hE dX0_recordSurplus_43 ?_
    refine pf_0_3 hE (ks_m hr (by decide)) zf_X0_21 dX0_recordSurplus_44 ?_
    try simp only [us_eq, us_us]
    exact z_vret hE hR dX0_recordSurplus_47 rfl (by unfold sp_rec; first | (rw [if_pos (by omega)]; try rfl) | (rw [if_neg (by omega)]; try rfl))
  · refine z_aload_n hE 0 rfl rfl dX0_recordSurplus_8 ?_
    refine gf_0_4 hE (ks_m hr (by decide)) zf_X0_24 dX0_recordSurplus_9 ?_
    refine z_iconst hE dX0_recordSurplus_12 ?_
    refine z_aload_n hE 0 rfl rfl dX0_recordSurplus_13 ?_
    refine gf_0_4 hE (ks_m hr (by decide)) zf_X0_24 dX0_recordSurplus_14 ?_
    refine z_iconst hE dX0_recordSurplus_17 ?_
    refine z_iconst hE dX0_recordSurplus_18 ?_
    refine ac_7s hE (ks_m hr (by decide)) zm_X0_28 (by decide) (Nat.le_of_ble_eq_true rfl) dX0_recordSurplus_19 ?_
    refine z_aload_n hE 0 rfl rfl dX0_recordSurplus_22 ?_
    refine z_iconst hE dX0_recordSurplus_23 ?_
    refine pf_0_3 hE (ks_m hr (by decide)) zf_X0_21 dX0_recordSurplus_24 ?_
    try simp only [us_eq, us_us]
    refine z_aload_n hE 0 rfl rfl dX0_recordSurplus_27 ?_
    refine gf_0_4 hE (ks_m hr (by decide)) zf_X0_24 dX0_recordSurplus_28 ?_
    refine z_aload_n hE 0 rfl rfl dX0_recordSurplus_31 ?_
    refine gf_0_3 hE (ks_m hr (by decide)) zf_X0_21 dX0_recordSurplus_32 ?_
    try simp only [us_eq, us_us]
    rw [up_eq]
    refine z_iload_n hE 1 rfl rfl dX0_recordSurplus_35 ?_
    refine as_7 hE (ks_m hr (by decide)) (by omega) (by omega) dX0_recordSurplus_36 ?_
    try simp only [us_eq, us_us]
    refine z_aload_n hE 0 rfl rfl dX0_recordSurplus_37 ?_
    refine z_dup hE rfl dX0_recordSurplus_38 ?_
    refine gf_0_3 hE (ks_m hr (by decide)) zf_X0_21 dX0_recordSurplus_39 ?_
    try simp only [us_eq, us_us]
    rw [up_ne (show 9 ≠ 10 + 2 by omega)]
    rw [up_eq]
    refine z_iconst hE dX0_recordSurplus_42 ?_
    refine z_iadd hE dX0_recordSurplus_43 ?_
    refine pf_0_3 hE (ks_m hr (by decide)) zf_X0_21 dX0_recordSurplus_44 ?_
    try simp only [us_eq, us_us]
    exact z_vret hE hR dX0_recordSurplus_47 rfl (by unfold sp_rec; first | (rw [if_pos (by omega)]; try rfl) | (rw [if_neg (by omega)]; try rfl))
theorem dX0_meanSurplus_0 : decode cX0_meanSurplus 0 = .ok (.iconst 0, 1) := by decide +kernel
theorem dX0_meanSurplus_1 : decode cX0_meanSurplus 1 = .ok (.istore_n 1, 1) := by decide +kernel
theorem dX0_meanSurplus_2 : decode cX0_meanSurplus 2 = .ok (.iconst 0, 1) := by decide +kernel
theorem dX0_meanSurplus_3 : decode cX0_meanSurplus 3 = .ok (.istore_n 2, 1) := by decide +kernel
theorem dX0_meanSurplus_4 : decode cX0_meanSurplus 4 = .ok (.iload_n 2, 1) := by decide +kernel
theorem dX0_meanSurplus_5 : decode cX0_meanSurplus 5 = .ok (.aload_n 0, 1) := by decide +kernel
theorem dX0_meanSurplus_6 : decode cX0_meanSurplus 6 = .ok (.getfield 21, 3) := by decide +kernel
theorem dX0_meanSurplus_9 : decode cX0_meanSurplus 9 = .ok (.if_icmp .ge 18, 3) := by decide +kernel
theorem dX0_meanSurplus_12 : decode cX0_meanSurplus 12 = .ok (.iload_n 1, 1) := by decide +kernel
theorem dX0_meanSurplus_13 : decode cX0_meanSurplus 13 = .ok (.aload_n 0, 1) := by decide +kernel
theorem dX0_meanSurplus_14 : decode cX0_meanSurplus 14 = .ok (.getfield 24, 3) := by decide +kernel
theorem dX0_meanSurplus_17 : decode cX0_meanSurplus 17 = .ok (.iload_n 2, 1) := by decide +kernel
theorem dX0_meanSurplus_18 : decode cX0_meanSurplus 18 = .ok (.iaload, 1) := by decide +kernel
theorem dX0_meanSurplus_19 : decode cX0_meanSurplus 19 = .ok (.iadd, 1) := by decide +kernel
theorem dX0_meanSurplus_20 : decode cX0_meanSurplus 20 = .ok (.istore_n 1, 1) := by decide +kernel
theorem dX0_meanSurplus_21 : decode cX0_meanSurplus 21 = .ok (.iinc 2 1, 3) := by decide +kernel
theorem dX0_meanSurplus_24 : decode cX0_meanSurplus 24 = .ok (.goto (-20), 3) := by decide +kernel
theorem dX0_meanSurplus_27 : decode cX0_meanSurplus 27 = .ok (.iload_n 1, 1) := by decide +kernel
theorem dX0_meanSurplus_28 : decode cX0_meanSurplus 28 = .ok (.aload_n 0, 1) := by decide +kernel
theorem dX0_meanSurplus_29 : decode cX0_meanSurplus 29 = .ok (.getfield 21, 3) := by decide +kernel
theorem dX0_meanSurplus_32 : decode cX0_meanSurplus 32 = .ok (.invokestatic 34, 3) := by decide +kernel
theorem dX0_meanSurplus_35 : decode cX0_meanSurplus 35 = .ok (.ireturn, 1) := by decide +kernel
theorem hy_X0_meanSurplus : yX0_meanSurplus.cls ≠ "java/lang/invoke/MethodHandle" ∧ yX0_meanSurplus.cls ≠ "java/lang/invoke/VarHandle" ∧ (parseMethodDescriptor yX0_meanSurplus.desc).map (fun d => d.parameters.length) = some 0 := ⟨by decide +kernel, by decide +kernel, by decide +kernel⟩
set_option maxHeartbeats 4000000 in
set_option maxRecDepth 100000 in
theorem lp_X0_meanSurplus {E : zE} {l0 : Launch} {D0 : va_G} {cI0 cJ0 : ClassId} {ad : Nat → Nat → Nat} (hE : zG E l0 D0 cI0 cJ0 ad cX0_meanSurplus 3 RX0 2 43) (S : zM) (r : Nat) (hr : r < 5) (h0 : 0 ≤ S r 9 ∧ S r 9 ≤ 3) (hs : ∀ k : Int, 0 ≤ k → k < 3 → -1000000 ≤ S r (10 + k) ∧ S r (10 + k) ≤ 1000000) (hR : zR E (some .int) (some (.int (i32 (sp_mean (S r))))) (fun X => X = S)) : ∀ (fuel : Nat) (i : Int) (h9 : 0 ≤ i ∧ i ≤ S r 9), (S r 9 - i).toNat < fuel → Z E S 4 [(2, .int (i32 i)), (1, .int (i32 (sm (fun k => S r (10 + k)) i))), (0, .ref (ad r 6))] [] := by
  intro fuel
  induction fuel with
  | zero => intro _ _ hz; omega
  | succ fuel ih =>
    intro i h9 hz
    refine z_iload_n hE 0 rfl rfl dX0_meanSurplus_4 ?_
    refine z_aload_n hE 2 rfl rfl dX0_meanSurplus_5 ?_
    refine gf_0_3 hE (ks_m hr (by decide)) zf_X0_21 dX0_meanSurplus_6 ?_
    refine z_icmp_ge (tgt := 27) hE dX0_meanSurplus_9 (by decide) ⟨by omega, by omega⟩ ⟨by omega, by omega⟩ (fun c1 => ?_) (fun c1 => ?_)
    · have h8 := sm_b (f := fun k => S r (10 + k)) (n := i) (a := -1000000) (b := 1000000) h9.1 (fun k h1 h2 => hs k h1 (by omega))
      refine z_iload_n hE 1 rfl rfl dX0_meanSurplus_27 ?_
      refine z_aload_n hE 2 rfl rfl dX0_meanSurplus_28 ?_
      refine gf_0_3 hE (ks_m hr (by decide)) zf_X0_21 dX0_meanSurplus_29 ?_
      refine z_callN hE (c_X7_quotient l0 D0 cI0 cJ0 ad S (sm (fun k => S r (10 + k)) i) (S r 9) (⟨by omega, by omega⟩) (⟨by omega, by omega⟩) (by omega)) (List.mem_of_getElem? (i := 8) rfl) zt_yX7_quotient zn_RX7 zc_yX7_quotient (hy_X7_quotient) (Nat.le_of_ble_eq_true rfl) (Nat.le_of_ble_eq_true rfl) rfl rfl rfl (Nat.le_of_ble_eq_true rfl) dX0_meanSurplus_32 ?_
      exact z_iret hE hR dX0_meanSurplus_35 (congrArg (fun x => some (Value.int (i32 x))) (by unfold sp_mean; rw [show i = S r 9 by omega])) (by first | rfl | (simp only [us_id]))
    · refine z_iload_n hE 1 rfl rfl dX0_meanSurplus_12 ?_
      refine z_aload_n hE 2 rfl rfl dX0_meanSurplus_13 ?_
      refine gf_0_4 hE (ks_m hr (by decide)) zf_X0_24 dX0_meanSurplus_14 ?_
      refine z_iload_n hE 0 rfl rfl dX0_meanSurplus_17 ?_
      refine al_7 hE (ks_m hr (by decide)) (by omega) (by omega) dX0_meanSurplus_18 ?_
      refine z_iadd hE dX0_meanSurplus_19 ?_
      refine z_istore_n hE rfl (by decide) rfl dX0_meanSurplus_20 ?_
      refine z_iinc hE 1 rfl (by decide) rfl dX0_meanSurplus_21 ?_
      refine z_goto (tgt := 4) hE (d := dX0_meanSurplus_24) (ht := by decide) ?_
      refine z_L (L' := [(2, .int (i32 (i + 1))), (1, .int (i32 (sm (fun k => S r (10 + k)) (i + 1)))), (0, .ref (ad r 6))]) [0, 1, 2] (by rw [show sm (fun k => S r (10 + k)) (i + 1) = (sm (fun k => S r (10 + k)) i) + (S r (10 + i)) from by first | rfl | (exact sm_s h9.1)]; rfl) ?_
      exact ih (i + 1) ⟨by omega, by omega⟩ (by omega)
set_option maxHeartbeats 4000000 in
set_option maxRecDepth 100000 in
theorem c_X0_meanSurplus (l0 : Launch) (D0 : va_G) (cI0 cJ0 : ClassId) (ad : Nat → Nat → Nat) (S : zM) (r : Nat) (hr : r < 5) (h0 : 0 ≤ S r 9 ∧ S r 9 ≤ 3) (hs : ∀ k : Int, 0 ≤ k → k < 3 → -1000000 ≤ S r (10 + k) ∧ S r (10 + k) ≤ 1000000) : Ct l0 D0 cI0 cJ0 ad yX0_meanSurplus cX0_meanSurplus 3 (some .int) 2 43 [.ref (ad r 6)] S (some (.int (i32 (sp_mean (S r))))) (fun X => X = S) := by
  refine Ct.of (by decide) (Nat.le_of_ble_eq_true rfl) (fun E hE hR => ?_)
  have hE : zG E l0 D0 cI0 cJ0 ad cX0_meanSurplus 3 RX0 2 43 := hE
  show Z E S 0 [(0, .ref (ad r 6))] []
  refine z_iconst hE dX0_meanSurplus_0 ?_
  refine z_istore_n hE rfl (by decide) rfl dX0_meanSurplus_1 ?_
  refine z_iconst hE dX0_meanSurplus_2 ?_
  refine z_istore_n hE rfl (by decide) rfl dX0_meanSurplus_3 ?_
  refine z_L (L' := [(2, .int (i32 0)), (1, .int (i32 (sm (fun k => S r (10 + k)) 0))), (0, .ref (ad r 6))]) [0, 1, 2] (by rw [show sm (fun k => S r (10 + k)) 0 = 0 from by first | rfl | (exact sm_0 _)]; rfl) ?_
  exact lp_X0_meanSurplus hE S r hr h0 hs hR 4 0 ⟨by omega, by omega⟩ (by omega)
