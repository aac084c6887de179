theorem bst_b (f : Int → Int) : ∀ n : Nat, 0 ≤ bst f n ∧ bst f n ≤ n
  | 0 => by unfold bst; omega
  | n + 1 => by
    have := bst_b f n
    unfold bst
    split <;> omega
theorem bst_s {f : Int → Int} {i : Int} (h : 1 ≤ i) : bst f i.toNat = if f (bst f (i - 1).toNat) < f i then i else bst f (i - 1).toNat := by
  rw [show i.toNat = (i - 1).toNat + 1 by omega]
  show (if f (bst f (i - 1).toNat) < f (((i - 1).toNat : Int) + 1) then (((i - 1).toNat : Int) + 1) else bst f (i - 1).toNat) = _
  rw [show (((i - 1).toNat : Int) + 1) = i by omega]
theorem bst_cg {f g : Int → Int} : ∀ {n : Nat}, (∀ k : Int, 0 ≤ k → k ≤ n → f k = g k) → bst f n = bst g n
  | 0, _ => rfl
  | n + 1, h => by
    have h1 : bst f n = bst g n := bst_cg (n := n) fun k h1 h2 => h k h1 (by omega)
    have h2 := bst_b g n
    unfold bst
    rw [h1, h (bst g n) h2.1 (by omega), h ((n : Int) + 1) (by omega) (by omega)]
theorem hnd_cg {z : Int} : ∀ {n : Nat} {g g2 r r2 : Int → Int}, (∀ k : Int, 0 ≤ k → k < 12 → g k = g2 k) → (∀ k : Int, 0 ≤ k → k < 12 → r k = r2 k) → ∀ k : Int, 0 ≤ k → k < 12 → hnd z n g r k = hnd z n g2 r2 k
  | 0, _, _, _, _, h, _, k, h0, h1 => h k h0 h1
  | n + 1, g, g2, r, r2, h, h2, k, h0, h1 => by
    have e : bst r 11 = bst r2 11 := bst_cg fun k h3 h4 => h2 k h3 (by omega)
    have hb := bst_b r2 11
    show hnd z n (up g (bst r 11) (g (bst r 11) + 1)) (up r (bst r 11) z) k = hnd z n (up g2 (bst r2 11) (g2 (bst r2 11) + 1)) (up r2 (bst r2 11) z) k
    rw [e]
    refine hnd_cg (fun j h3 h4 => ?_) (fun j h3 h4 => ?_) k h0 h1
    · unfold up; split
      · rw [h _ hb.1 (by omega)]
      · exact h j h3 h4
    · unfold up; split
      · rfl
      · exact h2 j h3 h4
theorem hs_1 {g : Int → Int} {b v w : Int} (hb : 0 ≤ b) (hb2 : b ≤ 11) {j : Int} (h3 : 0 ≤ j) (h4 : j < 12) : up (up g (200 + b) v) (300 + b) w (200 + j) = up (fun k => g (200 + k)) b v j := by
  rw [up_ne (by omega)]
  by_cases e : j = b
  · rw [e, up_eq, up_eq]
  · rw [up_ne e, up_ne (by omega)]
theorem hs_2 {g : Int → Int} {b v w : Int} (hb : 0 ≤ b) (hb2 : b ≤ 11) {j : Int} (h3 : 0 ≤ j) (h4 : j < 12) : up (up g (200 + b) v) (300 + b) w (300 + j) = up (fun k => g (300 + k)) b w j := by
  by_cases e : j = b
  · rw [e, up_eq, up_eq]
  · rw [up_ne e, up_ne (by omega), up_ne (by omega)]
theorem qs_1 {g p : Int → Int} {i v w : Int} {r : Int → Int} (hv : v = p i) (hw : w = r i) (h0 : 0 ≤ i) (hi : i < 12) (hg : ∀ k : Int, 0 ≤ k → k < i → g (200 + k) = p k ∧ g (300 + k) = r k) : ∀ k : Int, 0 ≤ k → k < i + 1 → up (up g (200 + i) v) (300 + i) w (200 + k) = p k ∧ up (up g (200 + i) v) (300 + i) w (300 + k) = r k := by
  intro k h1 h2
  by_cases e : k = i
  · rw [e, up_ne (by omega), up_eq, up_eq]; exact ⟨hv, hw⟩
  · rw [up_ne (by omega), up_ne (by omega), up_ne (by omega), up_ne (by omega)]; exact hg k h1 (by omega)
theorem dX6_sumOfDemands_0 : decode cX6_sumOfDemands 0 = .ok (.iconst 0, 1) := by decide +kernel
theorem dX6_sumOfDemands_1 : decode cX6_sumOfDemands 1 = .ok (.istore_n 1, 1) := by decide +kernel
theorem dX6_sumOfDemands_2 : decode cX6_sumOfDemands 2 = .ok (.iconst 0, 1) := by decide +kernel
theorem dX6_sumOfDemands_3 : decode cX6_sumOfDemands 3 = .ok (.istore_n 2, 1) := by decide +kernel
theorem dX6_sumOfDemands_4 : decode cX6_sumOfDemands 4 = .ok (.iload_n 2, 1) := by decide +kernel
theorem dX6_sumOfDemands_5 : decode cX6_sumOfDemands 5 = .ok (.bipush 12, 2) := by decide +kernel
theorem dX6_sumOfDemands_7 : decode cX6_sumOfDemands 7 = .ok (.if_icmp .ge 18, 3) := by decide +kernel
theorem dX6_sumOfDemands_10 : decode cX6_sumOfDemands 10 = .ok (.iload_n 1, 1) := by decide +kernel
theorem dX6_sumOfDemands_11 : decode cX6_sumOfDemands 11 = .ok (.aload_n 0, 1) := by decide +kernel
theorem dX6_sumOfDemands_12 : decode cX6_sumOfDemands 12 = .ok (.getfield 9, 3) := by decide +kernel
theorem dX6_sumOfDemands_15 : decode cX6_sumOfDemands 15 = .ok (.iload_n 2, 1) := by decide +kernel
theorem dX6_sumOfDemands_16 : decode cX6_sumOfDemands 16 = .ok (.iaload, 1) := by decide +kernel
theorem dX6_sumOfDemands_17 : decode cX6_sumOfDemands 17 = .ok (.iadd, 1) := by decide +kernel
theorem dX6_sumOfDemands_18 : decode cX6_sumOfDemands 18 = .ok (.istore_n 1, 1) := by decide +kernel
theorem dX6_sumOfDemands_19 : decode cX6_sumOfDemands 19 = .ok (.iinc 2 1, 3) := by decide +kernel
theorem dX6_sumOfDemands_22 : decode cX6_sumOfDemands 22 = .ok (.goto (-18), 3) := by decide +kernel
theorem dX6_sumOfDemands_25 : decode cX6_sumOfDemands 25 = .ok (.iload_n 1, 1) := by decide +kernel
theorem dX6_sumOfDemands_26 : decode cX6_sumOfDemands 26 = .ok (.ireturn, 1) := by decide +kernel
theorem hy_X6_sumOfDemands : yX6_sumOfDemands.cls ≠ "java/lang/invoke/MethodHandle" ∧ yX6_sumOfDemands.cls ≠ "java/lang/invoke/VarHandle" ∧ (parseMethodDescriptor yX6_sumOfDemands.desc).map (fun d => d.parameters.length) = some 0 := ⟨by decide +kernel, by decide +kernel, by decide +kernel⟩
set_option maxHeartbeats 4000000 in
set_option maxRecDepth 100000 in
theorem lp_X6_sumOfDemands {E : zE} {l0 : Launch} {D0 : va_G} {cI0 cJ0 : ClassId} {ad : Nat → Nat → Nat} (hE : zG E l0 D0 cI0 cJ0 ad cX6_sumOfDemands 3 RX6 0 0) (S : zM) (hR : zR E (some .int) (some (.int (i32 (sm (fun k => S 5 (100 + k)) 12)))) (fun X => X = S)) : ∀ (fuel : Nat) (i : Int) (h9 : 0 ≤ i ∧ i ≤ 12), (12 - i).toNat < fuel → Z E S 4 [(2, .int (i32 i)), (1, .int (i32 (sm (fun k => S 5 (100 + k)) i))), (0, .ref (ad 5 23))] [] := by
  intro fuel
  induction fuel with
  | zero => intro _ _ hz; omega
  | succ fuel ih =>
    intro i h9 hz
    refine z_iload_n hE 0 rfl rfl dX6_sumOfDemands_4 ?_
    refine z_bipush (a := 12) hE (by decide) dX6_sumOfDemands_5 ?_
    refine z_icmp_ge (tgt := 25) hE dX6_sumOfDemands_7 (by decide) ⟨by omega, by omega⟩ ⟨by omega, by omega⟩ (fun c1 => ?_) (fun c1 => ?_)
    · refine z_iload_n hE 1 rfl rfl dX6_sumOfDemands_25 ?_
      exact z_iret hE hR dX6_sumOfDemands_26 (congrArg (fun x => some (Value.int (i32 x))) (by rw [show i = 12 by omega])) (by first | rfl | (simp only [us_id]))
    · refine z_iload_n hE 1 rfl rfl dX6_sumOfDemands_10 ?_
      refine z_aload_n hE 2 rfl rfl dX6_sumOfDemands_11 ?_
      refine gf_6_0 hE (by decide) zf_X6_9 dX6_sumOfDemands_12 ?_
      refine z_iload_n hE 0 rfl rfl dX6_sumOfDemands_15 ?_
      refine al_24 hE (by decide) (by omega) (by omega) dX6_sumOfDemands_16 ?_
      refine z_iadd hE dX6_sumOfDemands_17 ?_
      refine z_istore_n hE rfl (by decide) rfl dX6_sumOfDemands_18 ?_
      refine z_iinc hE 1 rfl (by decide) rfl dX6_sumOfDemands_19 ?_
      refine z_goto (tgt := 4) hE (d := dX6_sumOfDemands_22) (ht := by decide) ?_
      refine z_L (L' := [(2, .int (i32 (i + 1))), (1, .int (i32 (sm (fun k => S 5 (100 + k)) (i + 1)))), (0, .ref (ad 5 23))]) [0, 1, 2] (by rw [show sm (fun k => S 5 (100 + k)) (i + 1) = (sm (fun k => S 5 (100 + k)) i) + (S 5 (100 + i)) from by first | rfl | (exact sm_s h9.1)]; rfl) ?_
      exact ih (i + 1) ⟨by omega, by omega⟩ (by omega)
set_option maxHeartbeats 4000000 in
set_option maxRecDepth 100000 in
theorem c_X6_sumOfDemands (l0 : Launch) (D0 : va_G) (cI0 cJ0 : ClassId) (ad : Nat → Nat → Nat) (S : zM) : Ct l0 D0 cI0 cJ0 ad yX6_sumOfDemands cX6_sumOfDemands 3 (some .int) 0 0 [.ref (ad 5 23)] S (some (.int (i32 (sm (fun k => S 5 (100 + k)) 12)))) (fun X => X = S) := by
  refine Ct.of (by decide) (Nat.le_of_ble_eq_true rfl) (fun E hE hR => ?_)
  have hE : zG E l0 D0 cI0 cJ0 ad cX6_sumOfDemands 3 RX6 0 0 := hE
  show Z E S 0 [(0, .ref (ad 5 23))] []
  refine z_iconst hE dX6_sumOfDemands_0 ?_
  refine z_istore_n hE rfl (by decide) rfl dX6_sumOfDemands_1 ?_
  refine z_iconst hE dX6_sumOfDemands_2 ?_
  refine z_istore_n hE rfl (by decide) rfl dX6_sumOfDemands_3 ?_
  refine z_L (L' := [(2, .int (i32 0)), (1, .int (i32 (sm (fun k => S 5 (100 + k)) 0))), (0, .ref (ad 5 23))]) [0, 1, 2] (by rw [show sm (fun k => S 5 (100 + k)) 0 = 0 from by first | rfl | (exact sm_0 _)]; rfl) ?_
  exact lp_X6_sumOfDemands hE S hR 13 0 ⟨by omega, by omega⟩ (by omega)
theorem dX6_greatestRemainder_0 : decode cX6_greatestRemainder 0 = .ok (.iconst 0, 1) := by decide +kernel
theorem dX6_greatestRemainder_1 : decode cX6_greatestRemainder 1 = .ok (.istore_n 1, 1) := by decide +kernel
theorem dX6_greatestRemainder_2 : decode cX6_greatestRemainder 2 = .ok (.iconst 1, 1) := by decide +kernel
theorem dX6_greatestRemainder_3 : decode cX6_greatestRemainder 3 = .ok (.istore_n 2, 1) := by decide +kernel
theorem dX6_greatestRemainder_4 : decode cX6_greatestRemainder 4 = .ok (.iload_n 2, 1) := by decide +kernel
theorem dX6_greatestRemainder_5 : decode cX6_greatestRemainder 5 = .ok (.bipush 12, 2) := by decide +kernel
theorem dX6_greatestRemainder_7 : decode cX6_greatestRemainder 7 = .ok (.if_icmp .ge 26, 3) := by decide +kernel
theorem dX6_greatestRemainder_10 : decode cX6_greatestRemainder 10 = .ok (.aload_n 0, 1) := by decide +kernel
theorem dX6_greatestRemainder_11 : decode cX6_greatestRemainder 11 = .ok (.getfield 18, 3) := by decide +kernel
theorem dX6_greatestRemainder_14 : decode cX6_greatestRemainder 14 = .ok (.iload_n 2, 1) := by decide +kernel
theorem dX6_greatestRemainder_15 : decode cX6_greatestRemainder 15 = .ok (.iaload, 1) := by decide +kernel
theorem dX6_greatestRemainder_16 : decode cX6_greatestRemainder 16 = .ok (.aload_n 0, 1) := by decide +kernel
theorem dX6_greatestRemainder_17 : decode cX6_greatestRemainder 17 = .ok (.getfield 18, 3) := by decide +kernel
theorem dX6_greatestRemainder_20 : decode cX6_greatestRemainder 20 = .ok (.iload_n 1, 1) := by decide +kernel
theorem dX6_greatestRemainder_21 : decode cX6_greatestRemainder 21 = .ok (.iaload, 1) := by decide +kernel
theorem dX6_greatestRemainder_22 : decode cX6_greatestRemainder 22 = .ok (.if_icmp .le 5, 3) := by decide +kernel
theorem dX6_greatestRemainder_25 : decode cX6_greatestRemainder 25 = .ok (.iload_n 2, 1) := by decide +kernel
theorem dX6_greatestRemainder_26 : decode cX6_greatestRemainder 26 = .ok (.istore_n 1, 1) := by decide +kernel
theorem dX6_greatestRemainder_27 : decode cX6_greatestRemainder 27 = .ok (.iinc 2 1, 3) := by decide +kernel
theorem dX6_greatestRemainder_30 : decode cX6_greatestRemainder 30 = .ok (.goto (-26), 3) := by decide +kernel
theorem dX6_greatestRemainder_33 : decode cX6_greatestRemainder 33 = .ok (.iload_n 1, 1) := by decide +kernel
theorem dX6_greatestRemainder_34 : decode cX6_greatestRemainder 34 = .ok (.ireturn, 1) := by decide +kernel
theorem hy_X6_greatestRemainder : yX6_greatestRemainder.cls ≠ "java/lang/invoke/MethodHandle" ∧ yX6_greatestRemainder.cls ≠ "java/lang/invoke/VarHandle" ∧ (parseMethodDescriptor yX6_greatestRemainder.desc).map (fun d => d.parameters.length) = some 0 := ⟨by decide +kernel, by decide +kernel, by decide +kernel⟩
set_option maxHeartbeats 4000000 in
set_option maxRecDepth 100000 in
theorem lp_X6_greatestRemainder {E : zE} {l0 : Launch} {D0 : va_G} {cI0 cJ0 : ClassId} {ad : Nat → Nat → Nat} (hE : zG E l0 D0 cI0 cJ0 ad cX6_greatestRemainder 3 RX6 0 0) (S : zM) (hr5 : ∀ k : Int, 0 ≤ k → k < 12 → -1 ≤ S 5 (300 + k) ∧ S 5 (300 + k) ≤ 12000) (hR : zR E (some .int) (some (.int (i32 (bst (fun k => S 5 (300 + k)) 11)))) (fun X => X = S)) : ∀ (fuel : Nat) (i : Int) (h9 : 1 ≤ i ∧ i ≤ 12), (12 - i).toNat < fuel → Z E S 4 [(2, .int (i32 i)), (1, .int (i32 (bst (fun k => S 5 (300 + k)) (i - 1).toNat))), (0, .ref (ad 5 23))] [] := by
  intro fuel
  induction fuel with
  | zero => intro _ _ hz; omega
  | succ fuel ih =>
    intro i h9 hz
    have hb := bst_b (fun k => S 5 (300 + k)) (i - 1).toNat
    have e9 := bst_s (f := (fun k => S 5 (300 + k))) (i := i) h9.1
    have h7 := hr5 (bst (fun k => S 5 (300 + k)) (i - 1).toNat) hb.1 (by omega)
    refine z_iload_n hE 0 rfl rfl dX6_greatestRemainder_4 ?_
    refine z_bipush (a := 12) hE (by decide) dX6_greatestRemainder_5 ?_
    refine z_icmp_ge (tgt := 33) hE dX6_greatestRemainder_7 (by decide) ⟨by omega, by omega⟩ ⟨by omega, by omega⟩ (fun c1 => ?_) (fun c1 => ?_)
    · refine z_iload_n hE 1 rfl rfl dX6_greatestRemainder_33 ?_
      exact z_iret hE hR dX6_greatestRemainder_34 (congrArg (fun x => some (Value.int (i32 x))) (by rw [show i = 12 by omega]; rfl)) (by first | rfl | (simp only [us_id]))
    · have h6 := hr5 i (by omega) (by omega)
      refine z_aload_n hE 2 rfl rfl dX6_greatestRemainder_10 ?_
      refine gf_6_2 hE (by decide) zf_X6_18 dX6_greatestRemainder_11 ?_
      refine z_iload_n hE 0 rfl rfl dX6_greatestRemainder_14 ?_
      refine al_26 hE (by decide) (by omega) (by omega) dX6_greatestRemainder_15 ?_
      refine z_aload_n hE 2 rfl rfl dX6_greatestRemainder_16 ?_
      refine gf_6_2 hE (by decide) zf_X6_18 dX6_greatestRemainder_17 ?_
      refine z_iload_n hE 1 rfl rfl dX6_greatestRemainder_20 ?_
      refine al_26 hE (by decide) (by omega) (by omega) dX6_greatestRemainder_21 ?_
      refine z_icmp_le (tgt := 27) hE dX6_greatestRemainder_22 (by decide) ⟨by omega, by omega⟩ ⟨by omega, by omega⟩ (fun c2 => ?_) (fun c2 => ?_)
      · refine z_iinc hE 0 rfl (by decide) rfl dX6_greatestRemainder_27 ?_
        refine z_goto (tgt := 4) hE (d := dX6_greatestRemainder_30) (ht := by decide) ?_
        refine z_L (L' := [(2, .int (i32 (i + 1))), (1, .int (i32 (bst (fun k => S 5 (300 + k)) ((i + 1) - 1).toNat))), (0, .ref (ad 5 23))]) [0, 1, 2] (by rw [show bst (fun k => S 5 (300 + k)) ((i + 1) - 1).toNat = bst (fun k => S 5 (300 + k)) (i - 1).toNat from by first | rfl | ((rw [show i + 1 - 1 = i by omega, e9]; first | exact if_pos (by omega) | exact if_neg (by omega)))]; rfl) ?_
        exact ih (i + 1) ⟨by omega, by omega⟩ (by omega)
      · refine z_iload_n hE 0 rfl rfl dX6_greatestRemainder_25 ?_
        refine z_istore_n hE rfl (by decide) rfl dX6_greatestRemainder_26 ?_
        refine z_iinc hE 1 rfl (by decide) rfl dX6_greatestRemainder_27 ?_
        refine z_goto (tgt := 4) hE (d := dX6_greatestRemainder_30) (ht := by decide) ?_
        refine z_L (L' := [(2, .int (i32 (i + 1))), (1, .int (i32 (bst (fun k => S 5 (300 + k)) ((i + 1) - 1).toNat))), (0, .ref (ad 5 23))]) [0, 1, 2] (by rw [show bst (fun k => S 5 (300 + k)) ((i + 1) - 1).toNat = i from by first | rfl | ((rw [show i + 1 - 1 = i by omega, e9]; first | exact if_pos (by omega) | exact if_neg (by omega)))]; rfl) ?_
        exact ih (i + 1) ⟨by omega, by omega⟩ (by omega)
set_option maxHeartbeats 4000000 in
set_option maxRecDepth 100000 in
theorem c_X6_greatestRemainder (l0 : Launch) (D0 : va_G) (cI0 cJ0 : ClassId) (ad : Nat → Nat → Nat) (S : zM) (hr5 : ∀ k : Int, 0 ≤ k → k < 12 → -1 ≤ S 5 (300 + k) ∧ S 5 (300 + k) ≤ 12000) : Ct l0 D0 cI0 cJ0 ad yX6_greatestRemainder cX6_greatestRemainder 3 (some .int) 0 0 [.ref (ad 5 23)] S (some (.int (i32 (bst (fun k => S 5 (300 + k)) 11)))) (fun X => X = S) := by
  refine Ct.of (by decide) (Nat.le_of_ble_eq_true rfl) (fun E hE hR => ?_)
  have hE : zG E l0 D0 cI0 cJ0 ad cX6_greatestRemainder 3 RX6 0 0 := hE
  show Z E S 0 [(0, .ref (ad 5 23))] []
  refine z_iconst hE dX6_greatestRemainder_0 ?_
  refine z_istore_n hE rfl (by decide) rfl dX6_greatestRemainder_1 ?_
  refine z_iconst hE dX6_greatestRemainder_2 ?_
  refine z_istore_n hE rfl (by decide) rfl dX6_greatestRemainder_3 ?_
  refine z_L (L' := [(2, .int (i32 (1 : Int))), (1, .int (i32 (bst (fun k => S 5 (300 + k)) (((1 : Int)) - 1).toNat))), (0, .ref (ad 5 23))]) [0, 1, 2] (by rw [show bst (fun k => S 5 (300 + k)) (((1 : Int)) - 1).toNat = 0 from by first | rfl | (rfl)]; rfl) ?_
  exact lp_X6_greatestRemainder hE S hr5 hR 13 ((1 : Int)) ⟨by omega, by omega⟩ (by omega)
theorem dX6_handOut_0 : decode cX6_handOut 0 = .ok (.iconst 0, 1) := by decide +kernel
theorem dX6_handOut_1 : decode cX6_handOut 1 = .ok (.istore_n 2, 1) := by decide +kernel
theorem dX6_handOut_2 : decode cX6_handOut 2 = .ok (.iload_n 2, 1) := by decide +kernel
theorem dX6_handOut_3 : decode cX6_handOut 3 = .ok (.iload_n 1, 1) := by decide +kernel
theorem dX6_handOut_4 : decode cX6_handOut 4 = .ok (.if_icmp .ge 31, 3) := by decide +kernel
theorem dX6_handOut_7 : decode cX6_handOut 7 = .ok (.aload_n 0, 1) := by decide +kernel
theorem dX6_handOut_8 : decode cX6_handOut 8 = .ok (.invokevirtual 39, 3) := by decide +kernel
theorem dX6_handOut_11 : decode cX6_handOut 11 = .ok (.istore_n 3, 1) := by decide +kernel
theorem dX6_handOut_12 : decode cX6_handOut 12 = .ok (.aload_n 0, 1) := by decide +kernel
theorem dX6_handOut_13 : decode cX6_handOut 13 = .ok (.getfield 15, 3) := by decide +kernel
theorem dX6_handOut_16 : decode cX6_handOut 16 = .ok (.iload_n 3, 1) := by decide +kernel
theorem dX6_handOut_17 : decode cX6_handOut 17 = .ok (.dup2, 1) := by decide +kernel
theorem dX6_handOut_18 : decode cX6_handOut 18 = .ok (.iaload, 1) := by decide +kernel
theorem dX6_handOut_19 : decode cX6_handOut 19 = .ok (.iconst 1, 1) := by decide +kernel
theorem dX6_handOut_20 : decode cX6_handOut 20 = .ok (.iadd, 1) := by decide +kernel
theorem dX6_handOut_21 : decode cX6_handOut 21 = .ok (.iastore, 1) := by decide +kernel
theorem dX6_handOut_22 : decode cX6_handOut 22 = .ok (.aload_n 0, 1) := by decide +kernel
theorem dX6_handOut_23 : decode cX6_handOut 23 = .ok (.getfield 18, 3) := by decide +kernel
theorem dX6_handOut_26 : decode cX6_handOut 26 = .ok (.iload_n 3, 1) := by decide +kernel
theorem dX6_handOut_27 : decode cX6_handOut 27 = .ok (.iconst (-1), 1) := by decide +kernel
theorem dX6_handOut_28 : decode cX6_handOut 28 = .ok (.iastore, 1) := by decide +kernel
theorem dX6_handOut_29 : decode cX6_handOut 29 = .ok (.iinc 2 1, 3) := by decide +kernel
theorem dX6_handOut_32 : decode cX6_handOut 32 = .ok (.goto (-30), 3) := by decide +kernel
theorem dX6_handOut_35 : decode cX6_handOut 35 = .ok (.return_, 1) := by decide +kernel
theorem hy_X6_handOut : yX6_handOut.cls ≠ "java/lang/invoke/MethodHandle" ∧ yX6_handOut.cls ≠ "java/lang/invoke/VarHandle" ∧ (parseMethodDescriptor yX6_handOut.desc).map (fun d => d.parameters.length) = some 1 := ⟨by decide +kernel, by decide +kernel, by decide +kernel⟩
set_option maxHeartbeats 4000000 in
set_option maxRecDepth 100000 in
theorem lp_X6_handOut {E : zE} {l0 : Launch} {D0 : va_G} {cI0 cJ0 : ClassId} {ad : Nat → Nat → Nat} (hE : zG E l0 D0 cI0 cJ0 ad cX6_handOut 4 RX6 1 22) (S : zM) (n : Int) (h0 : 0 ≤ n ∧ n ≤ 1000) (hr5 : ∀ k : Int, 0 ≤ k → k < 12 → -1 ≤ S 5 (300 + k) ∧ S 5 (300 + k) ≤ 12000) (hR : zR E none none (fun X => ∃ g : Int → Int, X = us S 5 g ∧ (∀ k : Int, 0 ≤ k → k < 12 → g (200 + k) = hnd (-1) n.toNat (fun k => S 5 (200 + k)) (fun k => S 5 (300 + k)) k) ∧ ∀ q : Int, q < 200 → g q = S 5 q)) : ∀ (fuel : Nat) (i : Int) (g : Int → Int) (h9 : 0 ≤ i ∧ i ≤ n) (hg : ∀ k : Int, 0 ≤ k → k < 12 → hnd (-1) (n - i).toNat (fun k => g (200 + k)) (fun k => g (300 + k)) k = hnd (-1) n.toNat (fun k => S 5 (200 + k)) (fun k => S 5 (300 + k)) k) (hq : ∀ q : Int, q < 200 → g q = S 5 q) (hz5 : ∀ k : Int, 0 ≤ k → k < 12 → -1 ≤ g (300 + k) ∧ g (300 + k) ≤ 12000), (n - i).toNat < fuel → Z E (us S 5 g) 2 [(2, .int (i32 i)), (0, .ref (ad 5 23)), (1, .int (i32 n))] [] := by
  intro fuel
  induction fuel with
  | zero => intro _ _ _ _ _ _ hz; omega
  | succ fuel ih =>
    intro i g h9 hg hq hz5 hz
    refine z_iload_n hE 0 rfl rfl dX6_handOut_2 ?_
    refine z_iload_n hE 2 rfl rfl dX6_handOut_3 ?_
    refine z_icmp_ge (tgt := 35) hE dX6_handOut_4 (by decide) ⟨by omega, by omega⟩ ⟨by omega, by omega⟩ (fun c1 => ?_) (fun c1 => ?_)
    · exact z_vret hE hR dX6_handOut_35 rfl (by exact ⟨g, rfl, fun k h1 h2 => by rw [← hg k h1 h2, show (n - i).toNat = 0 by omega]; rfl, hq⟩)
    · refine z_aload_n hE 1 rfl rfl dX6_handOut_7 ?_
      refine z_callV hE (c_X6_greatestRemainder l0 D0 cI0 cJ0 ad (us S 5 g) (by rw [us_eq]; exact hz5)) (by decide) rfl rfl zm_X6_39 zi_yX6_greatestRemainder zs_yX6_greatestRemainder zn_RX6 zc_yX6_greatestRemainder (hy_X6_greatestRemainder) (Nat.le_of_ble_eq_true rfl) (Nat.le_of_ble_eq_true rfl) rfl rfl rfl (Nat.le_of_ble_eq_true rfl) dX6_handOut_8 ?_
      try simp only [us_eq, us_us]
      refine z_istore_n hE rfl (by decide) rfl dX6_handOut_11 ?_
      have hb := bst_b (fun k => g (300 + k)) 11
      refine z_aload_n hE 2 rfl rfl dX6_handOut_12 ?_
      refine gf_6_1 hE (by decide) zf_X6_15 dX6_handOut_13 ?_
      refine z_iload_n hE 0 rfl rfl dX6_handOut_16 ?_
      refine z_dup2 hE rfl rfl dX6_handOut_17 ?_
      refine al_25 hE (by decide) (by omega) (by omega) dX6_handOut_18 ?_
      try simp only [us_eq, us_us]
      refine z_iconst hE dX6_handOut_19 ?_
      refine z_iadd hE dX6_handOut_20 ?_
      refine as_25 hE (by decide) (by omega) (by omega) dX6_handOut_21 ?_
      try simp only [us_eq, us_us]
      refine z_aload_n hE 2 rfl rfl dX6_handOut_22 ?_
      refine gf_6_2 hE (by decide) zf_X6_18 dX6_handOut_23 ?_
      refine z_iload_n hE 0 rfl rfl dX6_handOut_26 ?_
      refine z_iconst hE dX6_handOut_27 ?_
      refine as_26 hE (by decide) (by omega) (by omega) dX6_handOut_28 ?_
      try simp only [us_eq, us_us]
      refine z_iinc hE 1 rfl (by decide) rfl dX6_handOut_29 ?_
      refine z_goto (tgt := 2) hE (d := dX6_handOut_32) (ht := by decide) ?_
      refine z_L (L' := [(2, .int (i32 (i + 1))), (0, .ref (ad 5 23)), (1, .int (i32 n))]) [0, 2, 3] (by rfl) ?_
      exact ih (i + 1) (up (up g (200 + bst (fun k => g (300 + k)) 11) (g (200 + bst (fun k => g (300 + k)) 11) + 1)) (300 + bst (fun k => g (300 + k)) 11) (-1)) ⟨by omega, by omega⟩ (fun k h1 h2 => by rw [← hg k h1 h2, show (n - i).toNat = (n - (i + 1)).toNat + 1 by omega]; exact hnd_cg (fun j h3 h4 => hs_1 hb.1 hb.2 h3 h4) (fun j h3 h4 => hs_2 hb.1 hb.2 h3 h4) k h1 h2) (fun q h1 => by rw [up_ne (by omega), up_ne (by omega)]; exact hq q h1) (fun k h1 h2 => by have := hz5 k h1 h2; unfold up; (repeat' split) <;> omega) (by omega)
set_option maxHeartbeats 4000000 in
set_option maxRecDepth 100000 in
theorem c_X6_handOut (l0 : Launch) (D0 : va_G) (cI0 cJ0 : ClassId) (ad : Nat → Nat → Nat) (S : zM) (n : Int) (h0 : 0 ≤ n ∧ n ≤ 1000) (hr5 : ∀ k : Int, 0 ≤ k → k < 12 → -1 ≤ S 5 (300 + k) ∧ S 5 (300 + k) ≤ 12000) : Ct l0 D0 cI0 cJ0 ad yX6_handOut cX6_handOut 4 none 1 22 [.ref (ad 5 23), .int (i32 n)] S none (fun X => ∃ g : Int → Int, X = us S 5 g ∧ (∀ k : Int, 0 ≤ k → k < 12 → g (200 + k) = hnd (-1) n.toNat (fun k => S 5 (200 + k)) (fun k => S 5 (300 + k)) k) ∧ ∀ q : Int, q < 200 → g q = S 5 q) := by
  refine Ct.of (by decide) (Nat.le_of_ble_eq_true rfl) (fun E hE hR => ?_)
  have hE : zG E l0 D0 cI0 cJ0 ad cX6_handOut 4 RX6 1 22 := hE
  show Z E S 0 [(0, .ref (ad 5 23)), (1, .int (i32 n))] []
  refine z_iconst hE dX6_handOut_0 ?_
  refine z_istore_n hE rfl (by decide) rfl dX6_handOut_1 ?_
  refine z_L (L' := [(2, .int (i32 0)), (0, .ref (ad 5 23)), (1, .int (i32 n))]) [0, 1, 2] (by rfl) ?_
  rw [show S = us S 5 (S 5) from (us_id S 5).symm]
  exact lp_X6_handOut hE S n h0 hr5 hR 1001 0 (S 5) ⟨by omega, by omega⟩ (fun k h1 h2 => by rw [show (n - 0).toNat = n.toNat by omega]) (fun q h1 => rfl) hr5 (by omega)
theorem quo_b {d : Int → Int} {w k : Int} (hd : ∀ k : Int, 0 ≤ k → k < 12 → 0 ≤ d k ∧ d k ≤ 1000) (hw : 0 ≤ w ∧ w ≤ 1000) (hA : 1 ≤ sm d 12) (h0 : 0 ≤ k) (h1 : k < 12) : (0 ≤ w * d k ∧ w * d k ≤ 1000000) ∧ (0 ≤ sp_quo d w k ∧ sp_quo d w k ≤ 1000000) ∧ (0 ≤ sp_rst d w k ∧ sp_rst d w k < sm d 12) ∧ sp_quo d w k * sm d 12 + sp_rst d w k = w * d k ∧ (0 ≤ sp_quo d w k * sm d 12 ∧ sp_quo d w k * sm d 12 ≤ 1000000) := by
  have h2 := hd k h0 h1
  have h3 := zx_mul (a := w) (b := d k) (A := 1000) (B := 1000) hw.1 hw.2 h2.1 h2.2
  have h4 := Int.ediv_mul_le (w * d k) (show sm d 12 ≠ 0 by omega)
  have h5 := Int.emod_lt_of_pos (w * d k) (show 0 < sm d 12 by omega)
  have h6 := Int.mul_ediv_add_emod (w * d k) (sm d 12)
  have h7 := Int.ediv_nonneg (a := w * d k) (b := sm d 12) h3.1 (by omega)
  have h8 := Int.ediv_le_self (sm d 12) h3.1
  have h9 := Int.mul_nonneg h7 (show 0 ≤ sm d 12 by omega)
  rw [Int.mul_comm (sm d 12)] at h6
  unfold sp_quo sp_rst
  omega
theorem left_b {d : Int → Int} {w : Int} (hd : ∀ k : Int, 0 ≤ k → k < 12 → 0 ≤ d k ∧ d k ≤ 1000) (hw : 0 ≤ w ∧ w ≤ 1000) (hA : w < sm d 12) : 0 ≤ sp_left d w ∧ sp_left d w ≤ 1000 ∧ sp_left d w * sm d 12 = sm (sp_rst d w) 12 := by
  have key : ∀ n : Nat, (n : Int) ≤ 12 → smN (sp_quo d w) n * sm d 12 + smN (sp_rst d w) n = w * smN d n ∧ 0 ≤ smN (sp_rst d w) n ∧ 0 ≤ smN (sp_quo d w) n := by
    intro n
    induction n with
    | zero => intro _; simp [smN]
    | succ n ih =>
      intro hn
      obtain ⟨h1, h2, h3⟩ := ih (by omega)
      have h4 := quo_b hd hw (by omega) (k := n) (by omega) (by omega)
      show (smN (sp_quo d w) n + sp_quo d w n) * sm d 12 + (smN (sp_rst d w) n + sp_rst d w n) = w * (smN d n + d n) ∧ 0 ≤ smN (sp_rst d w) n + sp_rst d w n ∧ 0 ≤ smN (sp_quo d w) n + sp_quo d w n
      rw [Int.add_mul, Int.mul_add]
      omega
  have h := key 12 (by omega)
  have e : ∀ f : Int → Int, smN f 12 = sm f 12 := fun _ => rfl
  rw [e, e, e] at h
  have h5 : sp_left d w * sm d 12 = w * sm d 12 - sm (sp_quo d w) 12 * sm d 12 := by unfold sp_left; rw [Int.sub_mul]
  have h6 : 0 ≤ sp_left d w := by
    rcases Int.lt_or_le (sp_left d w) 0 with q | q
    · have h7 := Int.mul_le_mul_of_nonneg_right (show sp_left d w ≤ -1 by omega) (show 0 ≤ sm d 12 by omega)
      omega
    · exact q
  refine ⟨h6, ?_, by omega⟩
  unfold sp_left
  omega
theorem dX6_divide_0 : decode cX6_divide 0 = .ok (.aload_n 0, 1) := by decide +kernel
theorem dX6_divide_1 : decode cX6_divide 1 = .ok (.invokevirtual 21, 3) := by decide +kernel
theorem dX6_divide_4 : decode cX6_divide 4 = .ok (.istore_n 2, 1) := by decide +kernel
theorem dX6_divide_5 : decode cX6_divide 5 = .ok (.iload_n 2, 1) := by decide +kernel
theorem dX6_divide_6 : decode cX6_divide 6 = .ok (.iload_n 1, 1) := by decide +kernel
theorem dX6_divide_7 : decode cX6_divide 7 = .ok (.if_icmp .gt 19, 3) := by decide +kernel
theorem dX6_divide_10 : decode cX6_divide 10 = .ok (.aload_n 0, 1) := by decide +kernel
theorem dX6_divide_11 : decode cX6_divide 11 = .ok (.getfield 9, 3) := by decide +kernel
theorem dX6_divide_14 : decode cX6_divide 14 = .ok (.iconst 0, 1) := by decide +kernel
theorem dX6_divide_15 : decode cX6_divide 15 = .ok (.aload_n 0, 1) := by decide +kernel
theorem dX6_divide_16 : decode cX6_divide 16 = .ok (.getfield 15, 3) := by decide +kernel
theorem dX6_divide_19 : decode cX6_divide 19 = .ok (.iconst 0, 1) := by decide +kernel
theorem dX6_divide_20 : decode cX6_divide 20 = .ok (.bipush 12, 2) := by decide +kernel
theorem dX6_divide_22 : decode cX6_divide 22 = .ok (.invokestatic 25, 3) := by decide +kernel
theorem dX6_divide_25 : decode cX6_divide 25 = .ok (.return_, 1) := by decide +kernel
theorem dX6_divide_26 : decode cX6_divide 26 = .ok (.iload_n 1, 1) := by decide +kernel
theorem dX6_divide_27 : decode cX6_divide 27 = .ok (.istore_n 3, 1) := by decide +kernel
theorem dX6_divide_28 : decode cX6_divide 28 = .ok (.iconst 0, 1) := by decide +kernel
theorem dX6_divide_29 : decode cX6_divide 29 = .ok (.istore 4, 2) := by decide +kernel
theorem dX6_divide_31 : decode cX6_divide 31 = .ok (.iload 4, 2) := by decide +kernel
theorem dX6_divide_33 : decode cX6_divide 33 = .ok (.bipush 12, 2) := by decide +kernel
theorem dX6_divide_35 : decode cX6_divide 35 = .ok (.if_icmp .ge 62, 3) := by decide +kernel
theorem dX6_divide_38 : decode cX6_divide 38 = .ok (.iload_n 1, 1) := by decide +kernel
theorem dX6_divide_39 : decode cX6_divide 39 = .ok (.aload_n 0, 1) := by decide +kernel
theorem dX6_divide_40 : decode cX6_divide 40 = .ok (.getfield 9, 3) := by decide +kernel
theorem dX6_divide_43 : decode cX6_divide 43 = .ok (.iload 4, 2) := by decide +kernel
theorem dX6_divide_45 : decode cX6_divide 45 = .ok (.iaload, 1) := by decide +kernel
theorem dX6_divide_46 : decode cX6_divide 46 = .ok (.imul, 1) := by decide +kernel
theorem dX6_divide_47 : decode cX6_divide 47 = .ok (.istore 5, 2) := by decide +kernel
theorem dX6_divide_49 : decode cX6_divide 49 = .ok (.aload_n 0, 1) := by decide +kernel
theorem dX6_divide_50 : decode cX6_divide 50 = .ok (.getfield 15, 3) := by decide +kernel
theorem dX6_divide_53 : decode cX6_divide 53 = .ok (.iload 4, 2) := by decide +kernel
theorem dX6_divide_55 : decode cX6_divide 55 = .ok (.iload 5, 2) := by decide +kernel
theorem dX6_divide_57 : decode cX6_divide 57 = .ok (.iload_n 2, 1) := by decide +kernel
theorem dX6_divide_58 : decode cX6_divide 58 = .ok (.invokestatic 31, 3) := by decide +kernel
theorem dX6_divide_61 : decode cX6_divide 61 = .ok (.iastore, 1) := by decide +kernel
theorem dX6_divide_62 : decode cX6_divide 62 = .ok (.aload_n 0, 1) := by decide +kernel
theorem dX6_divide_63 : decode cX6_divide 63 = .ok (.getfield 18, 3) := by decide +kernel
theorem dX6_divide_66 : decode cX6_divide 66 = .ok (.iload 4, 2) := by decide +kernel
theorem dX6_divide_68 : decode cX6_divide 68 = .ok (.iload 5, 2) := by decide +kernel
theorem dX6_divide_70 : decode cX6_divide 70 = .ok (.aload_n 0, 1) := by decide +kernel
theorem dX6_divide_71 : decode cX6_divide 71 = .ok (.getfield 15, 3) := by decide +kernel
theorem dX6_divide_74 : decode cX6_divide 74 = .ok (.iload 4, 2) := by decide +kernel
theorem dX6_divide_76 : decode cX6_divide 76 = .ok (.iaload, 1) := by decide +kernel
theorem dX6_divide_77 : decode cX6_divide 77 = .ok (.iload_n 2, 1) := by decide +kernel
theorem dX6_divide_78 : decode cX6_divide 78 = .ok (.imul, 1) := by decide +kernel
theorem dX6_divide_79 : decode cX6_divide 79 = .ok (.isub, 1) := by decide +kernel
theorem dX6_divide_80 : decode cX6_divide 80 = .ok (.iastore, 1) := by decide +kernel
theorem dX6_divide_81 : decode cX6_divide 81 = .ok (.iload_n 3, 1) := by decide +kernel
theorem dX6_divide_82 : decode cX6_divide 82 = .ok (.aload_n 0, 1) := by decide +kernel
theorem dX6_divide_83 : decode cX6_divide 83 = .ok (.getfield 15, 3) := by decide +kernel
theorem dX6_divide_86 : decode cX6_divide 86 = .ok (.iload 4, 2) := by decide +kernel
theorem dX6_divide_88 : decode cX6_divide 88 = .ok (.iaload, 1) := by decide +kernel
theorem dX6_divide_89 : decode cX6_divide 89 = .ok (.isub, 1) := by decide +kernel
theorem dX6_divide_90 : decode cX6_divide 90 = .ok (.istore_n 3, 1) := by decide +kernel
theorem dX6_divide_91 : decode cX6_divide 91 = .ok (.iinc 4 1, 3) := by decide +kernel
theorem dX6_divide_94 : decode cX6_divide 94 = .ok (.goto (-63), 3) := by decide +kernel
theorem dX6_divide_97 : decode cX6_divide 97 = .ok (.aload_n 0, 1) := by decide +kernel
theorem dX6_divide_98 : decode cX6_divide 98 = .ok (.iload_n 3, 1) := by decide +kernel
theorem dX6_divide_99 : decode cX6_divide 99 = .ok (.invokevirtual 35, 3) := by decide +kernel
theorem dX6_divide_102 : decode cX6_divide 102 = .ok (.return_, 1) := by decide +kernel
theorem hy_X6_divide : yX6_divide.cls ≠ "java/lang/invoke/MethodHandle" ∧ yX6_divide.cls ≠ "java/lang/invoke/VarHandle" ∧ (parseMethodDescriptor yX6_divide.desc).map (fun d => d.parameters.length) = some 1 := ⟨by decide +kernel, by decide +kernel, by decide +kernel⟩
set_option maxHeartbeats 4000000 in
set_option maxRecDepth 100000 in
theorem lp_X6_divide {E : zE} {l0 : Launch} {D0 : va_G} {cI0 cJ0 : ClassId} {ad : Nat → Nat → Nat} (hE : zG E l0 D0 cI0 cJ0 ad cX6_divide 6 RX6 2 45) (S : zM) (w : Int) (h0 : 0 ≤ w ∧ w ≤ 1000) (hd : ∀ k : Int, 0 ≤ k → k < 12 → 0 ≤ S 5 (100 + k) ∧ S 5 (100 + k) ≤ 1000) (hR : zR E none none (fun X => ∃ g : Int → Int, X = us S 5 g ∧ (∀ k : Int, 0 ≤ k → k < 12 → g (200 + k) = sp_gets (fun k => S 5 (100 + k)) w k) ∧ ∀ q : Int, q < 200 → g q = S 5 q)) : ∀ (fuel : Nat) (i : Int) (g : Int → Int) (h9 : 0 ≤ i ∧ i ≤ 12) (hA : w < sm (fun k => S 5 (100 + k)) 12) (hs : 0 ≤ sm (fun k => S 5 (100 + k)) 12 ∧ sm (fun k => S 5 (100 + k)) 12 ≤ 12000) (hg : ∀ k : Int, 0 ≤ k → k < i → g (200 + k) = sp_quo (fun k => S 5 (100 + k)) w k ∧ g (300 + k) = sp_rst (fun k => S 5 (100 + k)) w k) (hq : ∀ q : Int, q < 200 → g q = S 5 q), (12 - i).toNat < fuel → Z E (us S 5 g) 31 [(4, .int (i32 i)), (3, .int (i32 (w - sm (sp_quo (fun k => S 5 (100 + k)) w) i))), (2, .int (i32 (sm (fun k => S 5 (100 + k)) 12))), (0, .ref (ad 5 23)), (1, .int (i32 w))] [] := by
  intro fuel
  induction fuel with
  | zero => intro _ _ _ _ _ _ _ hz; omega
  | succ fuel ih =>
    intro i g h9 hA hs hg hq hz
    have hql := sm_b (f := sp_quo (fun k => S 5 (100 + k)) w) (n := i) (a := 0) (b := 1000000) h9.1 (fun k h1 h2 => (quo_b hd h0 (by omega) h1 (by omega)).2.1)
    refine z_iload hE 0 rfl dX6_divide_31 ?_
    refine z_bipush (a := 12) hE (by decide) dX6_divide_33 ?_
    refine z_icmp_ge (tgt := 97) hE dX6_divide_35 (by decide) ⟨by omega, by omega⟩ ⟨by omega, by omega⟩ (fun c1 => ?_) (fun c1 => ?_)
    · have e12 : i = 12 := by omega
      have hl := left_b hd h0 hA
      unfold sp_left at hl
      rw [e12] at hql hg ⊢
      refine z_aload_n hE 3 rfl rfl dX6_divide_97 ?_
      refine z_iload_n hE 1 rfl rfl dX6_divide_98 ?_
      refine z_callVp hE (c_X6_handOut l0 D0 cI0 cJ0 ad (us S 5 g) (w - sm (sp_quo (fun k => S 5 (100 + k)) w) 12) (by first | omega | (simp only [us_eq]; omega)) (by rw [us_eq]; exact fun k h1 h2 => by rw [(hg k h1 h2).2]; have := quo_b hd h0 (by omega) h1 h2; omega)) (by decide) rfl rfl zm_X6_35 zi_yX6_handOut zs_yX6_handOut zn_RX6 zc_yX6_handOut (hy_X6_handOut) (Nat.le_of_ble_eq_true rfl) (Nat.le_of_ble_eq_true rfl) rfl rfl rfl (Nat.le_of_ble_eq_true rfl) dX6_divide_99 (fun M99 hM99 => ?_)
      obtain ⟨g3, rfl, hg3, hg4⟩ := hM99
      try simp only [us_eq, us_us]
      exact z_vret hE hR dX6_divide_102 rfl (by exact ⟨g3, rfl, fun k h1 h2 => by rw [hg3 k h1 h2]; unfold sp_gets; rw [if_neg (by omega)]; simp only [us_eq]; exact hnd_cg (fun j h3 h4 => (hg j h3 h4).1) (fun j h3 h4 => (hg j h3 h4).2) k h1 h2, fun q h1 => by rw [hg4 q h1]; simp only [us_eq]; exact hq q h1⟩)
    · have hk := quo_b hd h0 (by omega) h9.1 (show i < 12 by omega)
      refine z_iload_n hE 4 rfl rfl dX6_divide_38 ?_
      refine z_aload_n hE 3 rfl rfl dX6_divide_39 ?_
      refine gf_6_0 hE (by decide) zf_X6_9 dX6_divide_40 ?_
      refine z_iload hE 0 rfl dX6_divide_43 ?_
      refine al_24 hE (by decide) (by omega) (by omega) dX6_divide_45 ?_
      try simp only [us_eq, us_us]
      rw [hq _ (by omega)]
      refine z_imul hE dX6_divide_46 ?_
      refine z_istore hE (by decide) rfl dX6_divide_47 ?_
      refine z_aload_n hE 4 rfl rfl dX6_divide_49 ?_
      refine gf_6_1 hE (by decide) zf_X6_15 dX6_divide_50 ?_
      refine z_iload hE 1 rfl dX6_divide_53 ?_
      refine z_iload hE 0 rfl dX6_divide_55 ?_
      refine z_iload_n hE 3 rfl rfl dX6_divide_57 ?_
      refine z_callN hE (c_X7_quotient l0 D0 cI0 cJ0 ad (us S 5 g) (w * (S 5 (100 + i))) (sm (fun k => S 5 (100 + k)) 12) (⟨by omega, by omega⟩) (⟨by omega, by omega⟩) (by first | omega | (simp only [us_eq]; omega))) (List.mem_of_getElem? (i := 9) rfl) zt_yX7_quotient zn_RX7 zc_yX7_quotient (hy_X7_quotient) (Nat.le_of_ble_eq_true rfl) (Nat.le_of_ble_eq_true rfl) rfl rfl rfl (Nat.le_of_ble_eq_true rfl) dX6_divide_58 ?_
      try simp only [us_eq, us_us]
      refine as_25 hE (by decide) (by omega) (by omega) dX6_divide_61 ?_
      try simp only [us_eq, us_us]
      rw [show w * S 5 (100 + i) / sm (fun k => S 5 (100 + k)) 12 = sp_quo (fun k => S 5 (100 + k)) w i from rfl]
      refine z_aload_n hE 4 rfl rfl dX6_divide_62 ?_
      refine gf_6_2 hE (by decide) zf_X6_18 dX6_divide_63 ?_
      refine z_iload hE 1 rfl dX6_divide_66 ?_
      refine z_iload hE 0 rfl dX6_divide_68 ?_
      refine z_aload_n hE 4 rfl rfl dX6_divide_70 ?_
      refine gf_6_1 hE (by decide) zf_X6_15 dX6_divide_71 ?_
      refine z_iload hE 1 rfl dX6_divide_74 ?_
      refine al_25 hE (by decide) (by omega) (by omega) dX6_divide_76 ?_
      try simp only [us_eq, us_us]
      rw [up_eq]
      refine z_iload_n hE 3 rfl rfl dX6_divide_77 ?_
      refine z_imul hE dX6_divide_78 ?_
      refine z_isub hE dX6_divide_79 ?_
      refine as_26 hE (by decide) (by omega) (by omega) dX6_divide_80 ?_
      try simp only [us_eq, us_us]
      rw [show w * S 5 (100 + i) - sp_quo (fun k => S 5 (100 + k)) w i * sm (fun k => S 5 (100 + k)) 12 = sp_rst (fun k => S 5 (100 + k)) w i from rfl]
      refine z_iload_n hE 2 rfl rfl dX6_divide_81 ?_
      refine z_aload_n hE 4 rfl rfl dX6_divide_82 ?_
      refine gf_6_1 hE (by decide) zf_X6_15 dX6_divide_83 ?_
      refine z_iload hE 1 rfl dX6_divide_86 ?_
      refine al_25 hE (by decide) (by omega) (by omega) dX6_divide_88 ?_
      try simp only [us_eq, us_us]
      rw [up_ne (show 200 + i ≠ 300 + i by omega)]
      rw [up_eq]
      refine z_isub hE dX6_divide_89 ?_
      refine z_istore_n hE rfl (by decide) rfl dX6_divide_90 ?_
      refine z_iinc hE 2 rfl (by decide) rfl dX6_divide_91 ?_
      refine z_goto (tgt := 31) hE (d := dX6_divide_94) (ht := by decide) ?_
      refine z_L (L' := [(4, .int (i32 (i + 1))), (3, .int (i32 (w - sm (sp_quo (fun k => S 5 (100 + k)) w) (i + 1)))), (2, .int (i32 (sm (fun k => S 5 (100 + k)) 12))), (0, .ref (ad 5 23)), (1, .int (i32 w))]) [0, 1, 3, 4, 5] (by rw [show w - sm (sp_quo (fun k => S 5 (100 + k)) w) (i + 1) = (w - sm (sp_quo (fun k => S 5 (100 + k)) w) i) - (sp_quo (fun k => S 5 (100 + k)) w i) from by first | rfl | ((rw [sm_s h9.1]; omega))]; rfl) ?_
      exact ih (i + 1) (up (up g (200 + i) (sp_quo (fun k => S 5 (100 + k)) w i)) (300 + i) (sp_rst (fun k => S 5 (100 + k)) w i)) ⟨by omega, by omega⟩ hA hs (qs_1 rfl rfl h9.1 (by omega) hg) (fun q h1 => by rw [up_ne (by omega), up_ne (by omega)]; exact hq q h1) (by omega)
set_option maxHeartbeats 4000000 in
set_option maxRecDepth 100000 in
theorem c_X6_divide (l0 : Launch) (D0 : va_G) (cI0 cJ0 : ClassId) (ad : Nat → Nat → Nat) (S : zM) (w : Int) (h0 : 0 ≤ w ∧ w ≤ 1000) (hd : ∀ k : Int, 0 ≤ k → k < 12 → 0 ≤ S 5 (100 + k) ∧ S 5 (100 + k) ≤ 1000) : Ct l0 D0 cI0 cJ0 ad yX6_divide cX6_divide 6 none 2 45 [.ref (ad 5 23), .int (i32 w)] S none (fun X => ∃ g : Int → Int, X = us S 5 g ∧ (∀ k : Int, 0 ≤ k → k < 12 → g (200 + k) = sp_gets (fun k => S 5 (100 + k)) w k) ∧ ∀ q : Int, q < 200 → g q = S 5 q) := by
  refine Ct.of (by decide) (Nat.le_of_ble_eq_true rfl) (fun E hE hR => ?_)
  have hE : zG E l0 D0 cI0 cJ0 ad cX6_divide 6 RX6 2 45 := hE
  show Z E S 0 [(0, .ref (ad 5 23)), (1, .int (i32 w))] []
  have hs := sm_b (f := (fun k => S 5 (100 + k))) (n := 12) (a := 0) (b := 1000) (by omega) hd
  refine z_aload_n hE 0 rfl rfl dX6_divide_0 ?_
  refine z_callV hE (c_X6_sumOfDemands l0 D0 cI0 cJ0 ad S) (by decide) rfl rfl zm_X6_21 zi_yX6_sumOfDemands zs_yX6_sumOfDemands zn_RX6 zc_yX6_sumOfDemands (hy_X6_sumOfDemands) (Nat.le_of_ble_eq_true rfl) (Nat.le_of_ble_eq_true rfl) rfl rfl rfl (Nat.le_of_ble_eq_true rfl) dX6_divide_1 ?_
  refine z_istore_n hE rfl (by decide) rfl dX6_divide_4 ?_
  refine z_iload_n hE 0 rfl rfl dX6_divide_5 ?_
  refine z_iload_n hE 2 rfl rfl dX6_divide_6 ?_
  refine z_icmp_gt (tgt := 26) hE dX6_divide_7 (by decide) ⟨by omega, by omega⟩ ⟨by omega, by omega⟩ (fun c1 => ?_) (fun c1 => ?_)
  · refine z_iload_n hE 2 rfl rfl dX6_divide_26 ?_
    refine z_istore_n hE rfl (by decide) rfl dX6_divide_27 ?_
    refine z_iconst hE dX6_divide_28 ?_
    refine z_istore hE (by decide) rfl dX6_divide_29 ?_
    refine z_L (L' := [(4, .int (i32 0)), (3, .int (i32 (w - sm (sp_quo (fun k => S 5 (100 + k)) w) 0))), (2, .int (i32 (sm (fun k => S 5 (100 + k)) 12))), (0, .ref (ad 5 23)), (1, .int (i32 w))]) [0, 1, 2, 3, 4] (by rw [show w - sm (sp_quo (fun k => S 5 (100 + k)) w) 0 = w from by first | rfl | ((rw [sm_0]; omega)), show sm (fun k => S 5 (100 + k)) 12 = sm (fun k => (S 5) (100 + k)) 12 from by first | rfl | ((rw [sm_0]; omega))]; rfl) ?_
    rw [show S = us S 5 (S 5) from (us_id S 5).symm]
    exact lp_X6_divide hE S w h0 hd hR 13 0 (S 5) ⟨by omega, by omega⟩ (by omega) ⟨by omega, by omega⟩ (fun k h1 h2 => by omega) (fun q h1 => rfl) (by omega)
  · refine z_aload_n hE 1 rfl rfl dX6_divide_10 ?_
    refine gf_6_0 hE (by decide) zf_X6_9 dX6_divide_11 ?_
    refine z_iconst hE dX6_divide_14 ?_
    refine z_aload_n hE 1 rfl rfl dX6_divide_15 ?_
    refine gf_6_1 hE (by decide) zf_X6_15 dX6_divide_16 ?_
    refine z_iconst hE dX6_divide_19 ?_
    refine z_bipush (a := 12) hE (by decide) dX6_divide_20 ?_
    refine ac_24 hE zm_X6_25 (by decide) (Nat.le_of_ble_eq_true rfl) dX6_divide_22 ?_
    exact z_vret hE hR dX6_divide_25 rfl (by exact ⟨_, rfl, fun k h1 h2 => by unfold sp_gets; rw [if_pos (by omega), if_pos (by omega)]; show S 5 (200 + k - 100) = S 5 (100 + k); rw [show 200 + k - 100 = 100 + k by omega], fun q h1 => if_neg (by omega)⟩)
