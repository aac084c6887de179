/-! THE LAW'S OWN ROWS -/
section LR
variable {E : zE} {l0 : Launch} {D0 : va_G} {cI0 cJ0 : ClassId} {ad : Nat → Nat → Nat} {cc : ByteArray} {nL0 fr lo : Nat} {own : String} {S : zM} {pc : Nat} {L : List (Nat × Value)} {st : List Value}
def zX (E : zE) (b n : Nat) (xs : Nat → Int32) : Prop := match E with
  | (_, _, _, _, s, _, _, _, _, _, _, A, _, _, _, _, _, _, _) => va_X b n xs s s.heap ∧ b < s.heap.size ∧ ¬ A b ∧ n ≤ 260
theorem z_sld {b n : Nat} {xs : Nat → Int32} (hE : zG E l0 D0 cI0 cJ0 ad cc nL0 own fr lo) (hX : zX E b n xs) {i : Int} (h0 : 0 ≤ i) (h1 : i < n) (d : decode cc pc = .ok (.iaload, 1)) (kk : Z E S (pc + 1) L (.int (i32 (xs i.toNat).toInt) :: st)) : Z E S pc L (.int (i32 i) :: .ref b :: st) := by
  obtain ⟨p, l, e, R, s, m, args, below, meth, c, Q, A, D, cI, cJ, ad1, nL, cells, slots⟩ := E
  obtain ⟨⟨rfl, rfl, rfl, rfl, rfl, rfl⟩, hx, hb, hml, hown, hts, ⟨hf1, hf2, hf3, hf4⟩, hK, hD, hA, hN⟩ := hE
  obtain ⟨x1, x2, x3, x4⟩ := hX
  intro H locs ls hS hP hl
  have hb9 : b32 i := ⟨by omega, by omega⟩
  refine va_sld hx hb x1 x2 x3 hS (i32_in h0 h1 hb9) d ?_
  rw [i32_nat h0 hb9, show xs i.toNat = i32 (xs i.toNat).toInt from (Int32.ofInt_toInt _).symm]
  have e9 : (i32 (xs i.toNat).toInt).toInt = (xs i.toNat).toInt := congrArg Int32.toInt (Int32.ofInt_toInt _)
  exact kk H locs ls hS hP hl
theorem z_slen {b n : Nat} {xs : Nat → Int32} (hE : zG E l0 D0 cI0 cJ0 ad cc nL0 own fr lo) (hX : zX E b n xs) (d : decode cc pc = .ok (.arraylength, 1)) (kk : Z E S (pc + 1) L (.int (i32 n) :: st)) : Z E S pc L (.ref b :: st) := by
  obtain ⟨p, l, e, R, s, m, args, below, meth, c, Q, A, D, cI, cJ, ad1, nL, cells, slots⟩ := E
  obtain ⟨⟨rfl, rfl, rfl, rfl, rfl, rfl⟩, hx, hb, hml, hown, hts, ⟨hf1, hf2, hf3, hf4⟩, hK, hD, hA, hN⟩ := hE
  obtain ⟨x1, x2, x3, x4⟩ := hX
  intro H locs ls hS hP hl
  refine va_slen hx hb x1 x2 x3 hS d ?_
  rw [show Int32.ofNat n = i32 n from i32_n (by omega)]
  exact kk H locs ls hS hP hl
theorem z_iandv (hE : zG E l0 D0 cI0 cJ0 ad cc nL0 own fr lo) {x y : Int32} (d : decode cc pc = .ok (.iand, 1)) (kk : Z E S (pc + 1) L (.int (i32 (x &&& y).toInt) :: st)) : Z E S pc L (.int y :: .int x :: st) := by
  obtain ⟨p, l, e, R, s, m, args, below, meth, c, Q, A, D, cI, cJ, ad1, nL, cells, slots⟩ := E
  obtain ⟨⟨rfl, rfl, rfl, rfl, rfl, rfl⟩, hx, hb, hml, hown, hts, ⟨hf1, hf2, hf3, hf4⟩, hK, hD, hA, hN⟩ := hE
  intro H locs ls hS hP hl
  refine lv_iand hx hb d ?_
  have e9 : i32 (x &&& y).toInt = x &&& y := Int32.ofInt_toInt _
  rw [← e9]
  exact kk H locs ls hS hP hl
theorem z_samen (hE : zG E l0 D0 cI0 cJ0 ad cc nL0 own fr lo) {x : Int32} {off : Int} {tgt : Nat} (d : decode cc pc = .ok (.if_icmp .ne off, 3)) (ht : (pc : Int) + off = (tgt : Int)) (kk : Z E S (pc + 3) L st) : Z E S pc L (.int x :: .int x :: st) := by
  obtain ⟨p, l, e, R, s, m, args, below, meth, c, Q, A, D, cI, cJ, ad1, nL, cells, slots⟩ := E
  obtain ⟨⟨rfl, rfl, rfl, rfl, rfl, rfl⟩, hx, hb, hml, hown, hts, ⟨hf1, hf2, hf3, hf4⟩, hK, hD, hA, hN⟩ := hE
  intro H locs ls hS hP hl
  exact lv_icmp_ne hx hb d ht (fun q => absurd rfl q) (fun _ => kk H locs ls hS hP hl)
theorem z_same (hE : zG E l0 D0 cI0 cJ0 ad cc nL0 own fr lo) {x : Int32} {off : Int} {tgt : Nat} (d : decode cc pc = .ok (.if_icmp .eq off, 3)) (ht : (pc : Int) + off = (tgt : Int)) (kk : Z E S tgt L st) : Z E S pc L (.int x :: .int x :: st) := by
  obtain ⟨p, l, e, R, s, m, args, below, meth, c, Q, A, D, cI, cJ, ad1, nL, cells, slots⟩ := E
  obtain ⟨⟨rfl, rfl, rfl, rfl, rfl, rfl⟩, hx, hb, hml, hown, hts, ⟨hf1, hf2, hf3, hf4⟩, hK, hD, hA, hN⟩ := hE
  intro H locs ls hS hP hl
  exact lv_icmp_eq hx hb d ht (fun _ => kk H locs ls hS hP hl) (fun q => absurd rfl q)
theorem z_lsame (hE : zG E l0 D0 cI0 cJ0 ad cc nL0 own fr lo) {x : Int64} (d : decode cc pc = .ok (.lcmp, 1)) (kk : Z E S (pc + 1) L (.int (i32 0) :: st)) : Z E S pc L (.long x :: .long x :: st) := by
  obtain ⟨p, l, e, R, s, m, args, below, meth, c, Q, A, D, cI, cJ, ad1, nL, cells, slots⟩ := E
  obtain ⟨⟨rfl, rfl, rfl, rfl, rfl, rfl⟩, hx, hb, hml, hown, hts, ⟨hf1, hf2, hf3, hf4⟩, hK, hD, hA, hN⟩ := hE
  intro H locs ls hS hP hl
  refine W.lcmp hx hb d ?_
  have e : lg_cmp x x = i32 0 := by
    unfold lg_cmp
    rw [if_neg (Int64.lt_irrefl), if_pos rfl]; rfl
  rw [e]
  exact kk H locs ls hS hP hl
end LR
/-! CONTRACTS WITH A SCRIPT -/
def zWX (D : va_G) (cI cJ : ClassId) (ad : Nat → Nat → Nat) (S : zM) (b N : Nat) (xs : Nat → Int32) (U : State) : Prop := zW D cI cJ ad S U ∧ va_X b N xs U U.heap ∧ b < U.heap.size ∧ ¬ zA ad b ∧ N ≤ 260
def CtX (l : Launch) (D : va_G) (cI cJ : ClassId) (ad : Nat → Nat → Nat) (y : MethodName) (cc : ByteArray) (nL : Nat) (ret : Option FieldType) (fr lo : Nat) (as : List Value) (S : zM) (rv : Option Value) (P : zM → Prop) (b N : Nat) (xs : Nat → Int32) : Prop :=
  Met l y (Cond.code y cc nL ret :: wsL_law) { frames := fr, cells := 0, slots := 0, locals := lo } (va_Pc as (fun U => zWX D cI cJ ad S b N xs U)) (zQ D cI cJ ad rv P) 0 0 (zA ad)
theorem CtX.of {l : Launch} {D : va_G} {cI cJ : ClassId} {ad : Nat → Nat → Nat} {y : MethodName} {cc : ByteArray} {nL : Nat} {ret : Option FieldType} {fr lo : Nat} {as : List Value} {S : zM} {rv : Option Value} {P : zM → Prop} {b N : Nat} {xs : Nat → Int32} (hy : plainName y.cls = true) (hn : (lg_sl as).length ≤ nL)
    (h : ∀ E : zE, zG E l D cI cJ ad cc nL y.cls fr lo → zX E b N xs → zR E ret rv P → Z E S 0 (lv_args 0 as) []) : CtX l D cI cJ ad y cc nL ret fr lo as S rv P b N xs := by
  refine ofWF (cc := cc) (maxL := nL) (ret := ret) (plainFor_of_name hy) rfl ?_
  intro p e s m args below meth c s₁ B hml hv
  obtain ⟨rfl, ⟨hP, hK, hD, hN⟩, x1, x2, x3, x4⟩ := hv
  have hts := atoms_spec (ws := Cond.code y cc nL ret :: wsL_law) B.pre
  have hl := lv_entry as (n := nL) hn
  rw [lg_entry_eq]
  refine h (p, l, e, { frames := fr, cells := 0, slots := 0, locals := lo }, s, m, as.toArray, below, meth, c, MQ below (zQ D cI cJ ad rv P) as.toArray s 0 0 (zA ad), zA ad, D, cI, cJ, ad, nL, 0, 0) ?_ ?_ ?_ s.heap [] _ va_S.rf hP hl
  · exact ⟨⟨rfl, rfl, rfl, rfl, rfl, rfl⟩, B.exec, B.bytes, hml, findClass_of_methodNamed B.named, fun w hw => hts w (List.mem_cons_of_mem _ hw), ⟨rfl, rfl, Nat.le_refl _, Nat.le_refl _⟩, hK, wl_D hD, fun _ h => h, hN⟩
  · exact ⟨x1, x2, x3, x4⟩
  · exact ⟨rfl, B.returns, B.notSynchronized, rfl, rfl, rfl⟩
theorem zWX_blind {D : va_G} {cI cJ : ClassId} {ad : Nat → Nat → Nat} {S : zM} {as : List Value} {b N : Nat} {xs : Nat → Int32} : FrameBlind (va_Pc as (fun U => zWX D cI cJ ad S b N xs U)) := by
  intro a U g mk h
  obtain ⟨h0, ⟨h1, h2, h3, h4⟩, x1, x2, x3, x4⟩ := h
  exact ⟨h0, ⟨h1, va_K.moved (u := U) (U := U.calling g mk a) (Vm.Alike.refl U.vm) h2, h3, nw_same (u := U) (U := U.calling g mk a) rfl h4⟩, va_X.moved (u := U) (U := U.calling g mk a) (Vm.Alike.refl U.vm) x1, x2, x3, x4⟩
theorem zWX_pre {D : va_G} {cI cJ : ClassId} {ad : Nat → Nat → Nat} {S : zM} {A : Nat → Prop} {s : State} {H : Heap} {b N : Nat} {xs : Nat → Int32} (hP : va_P D vwCl (wl ad (cf cI cJ ad S)) H) (hK : va_K D vwCl [(cI, .int), (cJ, .long)] s) (hD : va_D A (wl ad fun _ _ => .inr (0, []))) (hN : ∀ w ∈ nw, va_Nw w s) (hX : va_X b N xs s H) (hb : b < H.size) (hb2 : ¬ zA ad b) (hn : N ≤ 260) (as : List Value) : ∀ U : State, U.heap = H → s.WarmedH U.vm → va_Pc as (fun U => zWX D cI cJ ad S b N xs U) as.toArray U := by
  intro U hU hW
  obtain ⟨h0, h1⟩ := zW_pre hP hK hD hN as U hU hW
  exact ⟨h0, h1, by rw [hU]; exact va_X.moved hW.alike hX, by rw [hU]; exact hb, hb2, hn⟩
section ZX
variable {E : zE} {l0 : Launch} {D0 : va_G} {cI0 cJ0 : ClassId} {ad : Nat → Nat → Nat} {cc : ByteArray} {nL0 fr lo : Nat} {own : String} {S : zM} {pc : Nat} {L : List (Nat × Value)} {st st1 st2 : List Value}
variable {y : MethodName} {cc2 : ByteArray} {nL2 fr2 lo2 index n : Nat} {ret2 : Option FieldType} {As : List Value} {rv : Option Value} {S2 : zM} {P2 : zM → Prop} {b N : Nat} {xs : Nat → Int32}
theorem z_callX (hE : zG E l0 D0 cI0 cJ0 ad cc nL0 own fr lo) (hX : zX E b N xs) (hC : CtX l0 D0 cI0 cJ0 ad y cc2 nL2 ret2 fr2 lo2 As S rv P2 b N xs) (w1 : Cond.methodLink own index y ∈ wsL_law) (w2 : Cond.static y ∈ wsL_law) (w4 : Cond.initialized y.cls ∈ wsL_law) (w5 : Cond.code y cc2 nL2 ret2 ∈ wsL_law) (hd : y.cls ≠ "java/lang/invoke/MethodHandle" ∧ y.cls ≠ "java/lang/invoke/VarHandle" ∧ (parseMethodDescriptor y.desc).map (fun d => d.parameters.length) = some n) (hfr : fr2 + 1 ≤ fr) (hlo : 8 + (nL2 + 11) + lo2 ≤ lo) (hAs : As.length = n) (hs : st1 = As.reverse ++ st) (hs2 : rv.toList ++ st = st2) (hst : (st.map fun v => v.category).sum ≤ 8) (d : decode cc pc = .ok (.invokestatic index, 3)) (kk : ∀ S2 : zM, P2 S2 → Z E S2 (pc + 3) L st2) : Z E S pc L st1 := by
  obtain ⟨p, l, e, R, s, m, args, below, meth, c, Q, A, D, cI, cJ, ad1, nL, cells, slots⟩ := E
  obtain ⟨⟨rfl, rfl, rfl, rfl, rfl, rfl⟩, hx, hb, hml, hown, hts, ⟨hf1, hf2, hf3, hf4⟩, hK, hD, hA, hN⟩ := hE
  obtain ⟨x1, x2, x3, x4⟩ := hX
  intro H locs ls hS hP hl
  subst hs
  have hG : GoodIn wsL_law (va_wsS own index y (Cond.code y cc2 nL2 ret2 :: wsL_law)) := zw_in fun w hw => by
    unfold va_wsS at hw
    rcases List.mem_append.mp hw with hw | hw
    · simp only [List.mem_cons, List.not_mem_nil, or_false] at hw
      rcases hw with rfl | rfl | rfl
      · exact w1
      · exact w2
      · exact w4
    · rcases List.mem_cons.mp hw with rfl | hw
      · exact w5
      · exact hw
  have hr := va_runS (H := H) (locs := locs) (cells := cells) (slots := slots) (g := F0 m pc ls (As.reverse ++ st)) (As := As) (rest := st) (R := R) (p := p) (l := l) (e := e) (below := below) (meth := meth) ⟨hx, hb, hml, hown, hts⟩ hC (va_cwS n hts hG rfl rfl rfl hd ⟨by rw [hf1]; exact hfr, by rw [hf2]; exact hlo⟩) ⟨zWX_blind, zWX_pre hP hK hD hN (x1.kept (hS.2.1 b x2 x3)) (Nat.lt_of_lt_of_le x2 hS.1) (fun z => x3 (hA b z)) x4 _⟩ rfl hAs hl.1 rfl (lv_room hst) d ⟨hf3, hf4⟩
  intro T hT X
  obtain ⟨v, st₀, t, T', L', h0, X', hL', e1, e2, ⟨⟨hv, S2, hP2, hP1⟩, hz, hk⟩, stp⟩ := hr T hT X
  cases hv
  rw [h0] at hz hk
  subst hs2
  have hS1 : va_S A s.heap T'.heap (locs ++ L') := ⟨Nat.le_trans hS.1 (by rw [e1]; exact hz), fun q h1 h2 => by rw [e1, hk q (Nat.lt_of_lt_of_le h1 hS.1) (fun z => h2 (hA q z))]; exact hS.2.1 q h1 h2, fun q hq => by
    rcases List.mem_append.mp hq with h | h
    · exact hS.2.2 q h
    · exact hA _ (hL' q h)⟩
  obtain ⟨t2, a1, b1⟩ := kk S2 hP2 T'.heap (locs ++ L') ls hS1 (by rw [e1]; exact hP1) hl T' rfl X'
  exact ⟨t2, stp t2 a1, b1⟩
end ZX
/-! WHAT AN ACTION LEAVES: the present register stays 0, since nothing is undone -/
def RJ (S : zM) : Prop := S 5 1 = ((0 : Nat) : Int) ∧ (0 ≤ S 5 0 ∧ S 5 0 ≤ 4) ∧ ∃ n1 n2 n3 n4 : Nat, n1 < 5 ∧ n2 < 5 ∧ n3 < 5 ∧ n4 < 5 ∧ S 5 2 = (n1 : Int) ∧ S 5 3 = (n2 : Int) ∧ S 5 4 = (n3 : Int) ∧ S 5 5 = (n4 : Int) ∧ 0 ≠ n1 ∧ 0 ≠ n2 ∧ 0 ≠ n3 ∧ 0 ≠ n4
def AP (S X : zM) (ok : Prop) (nx : Int → Int) : Prop := RJ X ∧ X 6 = S 6 ∧ (ok → X 0 = nx) ∧ (¬ ok → X = S)
theorem ap_inv {S X : zM} {ok : Prop} {nx : Int → Int} (h : AP S X ok nx) (hi : ok → Inv nx) (hS : Inv (S 0)) : Inv (X 0) := by
  by_cases c : ok
  · rw [h.2.2.1 c]; exact hi c
  · rw [h.2.2.2 c]; exact hS
theorem ap_g {S : zM} {n1 n2 n3 n4 : Nat} {nx g : Int → Int} (hn1 : n1 < 5) (hn2 : n2 < 5) (hn3 : n3 < 5) (hn4 : n4 < 5) (e0 : S 5 1 = ((0 : Nat) : Int)) (hst : 0 ≤ S 5 0 ∧ S 5 0 ≤ 4) (h01 : 0 ≠ n1) (h02 : 0 ≠ n2) (h03 : 0 ≠ n3) (h04 : 0 ≠ n4) (hg : ∀ q : Int, q < 100 → g q = kp5 (S 5) n1 n2 n3 n4 q) : RJ (us (us (us S n4 (S 0)) 5 g) 0 nx) ∧ us (us (us S n4 (S 0)) 5 g) 0 nx 6 = S 6 ∧ us (us (us S n4 (S 0)) 5 g) 0 nx 0 = nx := by
  have g0 : g 0 = min (S 5 0 + 1) 4 := by rw [hg 0 (by omega)]; unfold kp5; exact up_eq
  have g1 : g 1 = ((0 : Nat) : Int) := by rw [hg 1 (by omega), kp5_1]; exact e0
  have g2 : g 2 = (n4 : Int) := by rw [hg 2 (by omega)]; unfold kp5; rw [up_ne (by omega), up_eq]
  have g3 : g 3 = (n1 : Int) := by rw [hg 3 (by omega)]; unfold kp5; rw [up_ne (by omega), up_ne (by omega), up_eq]
  have g4 : g 4 = (n2 : Int) := by rw [hg 4 (by omega)]; unfold kp5; rw [up_ne (by omega), up_ne (by omega), up_ne (by omega), up_eq]
  have g5 : g 5 = (n3 : Int) := by rw [hg 5 (by omega)]; unfold kp5; rw [up_ne (by omega), up_ne (by omega), up_ne (by omega), up_ne (by omega), up_eq]
  have b5 : us (us (us S n4 (S 0)) 5 g) 0 nx 5 = g := by rw [us_ne (by omega), us_eq]
  refine ⟨⟨by rw [b5]; exact g1, by rw [b5, g0]; omega, n4, n1, n2, n3, hn4, hn1, hn2, hn3, by rw [b5]; exact g2, by rw [b5]; exact g3, by rw [b5]; exact g4, by rw [b5]; exact g5, h04, h01, h02, h03⟩, ?_, us_eq⟩
  rw [us_ne (by omega), us_ne (by omega), us_ne (by omega)]
theorem ap_act {S X : zM} {n1 n2 n3 n4 : Nat} (hj : RJ S) (hn1 : n1 < 5) (hn2 : n2 < 5) (hn3 : n3 < 5) (hn4 : n4 < 5) (h01 : 0 ≠ n1) (h02 : 0 ≠ n2) (h03 : 0 ≠ n3) (h04 : 0 ≠ n4) {ok : Prop} [Decidable ok] {nx : Int → Int} (hX : X = if ok then us (us (us S n4 (S 0)) 5 (kp5 (S 5) n1 n2 n3 n4)) 0 nx else S) : AP S X ok nx := by
  by_cases c : ok
  · rw [if_pos c] at hX
    obtain ⟨a, b, d⟩ := ap_g (nx := nx) hn1 hn2 hn3 hn4 hj.1 hj.2.1 h01 h02 h03 h04 (fun _ _ => rfl)
    rw [hX]
    exact ⟨a, b, fun _ => d, fun q => absurd c q⟩
  · rw [if_neg c] at hX
    rw [hX]
    exact ⟨hj, rfl, fun q => absurd q c, fun _ => rfl⟩
theorem ap_days {S X : zM} {n1 n2 n3 n4 : Nat} (hj : RJ S) (hn1 : n1 < 5) (hn2 : n2 < 5) (hn3 : n3 < 5) (hn4 : n4 < 5) (h01 : 0 ≠ n1) (h02 : 0 ≠ n2) (h03 : 0 ≠ n3) (h04 : 0 ≠ n4) {ok : Prop} [Decidable ok] {nx : Int → Int} (hX : if ok then ∃ g : Int → Int, X = us (us (us S n4 (S 0)) 5 g) 0 nx ∧ ∀ q : Int, q < 100 → g q = kp5 (S 5) n1 n2 n3 n4 q else X = S) : AP S X ok nx := by
  by_cases c : ok
  · rw [if_pos c] at hX
    obtain ⟨g, hX, hg⟩ := hX
    obtain ⟨a, b, d⟩ := ap_g (nx := nx) hn1 hn2 hn3 hn4 hj.1 hj.2.1 h01 h02 h03 h04 hg
    rw [hX]
    exact ⟨a, b, fun _ => d, fun q => absurd c q⟩
  · rw [if_neg c] at hX
    rw [hX]
    exact ⟨hj, rfl, fun q => absurd q c, fun _ => rfl⟩
/-- a number of the script -/
def cel (N : Nat) (xs : Nat → Int32) (k : Int) : Int := ((if k < N then xs k.toNat else i32 (16807 * (k + 13))) &&& i32 2147483647).toInt
theorem cel_b (N : Nat) (xs : Nat → Int32) (k : Int) : 0 ≤ cel N xs k ∧ cel N xs k ≤ 2147483647 := by
  unfold cel
  generalize (if k < N then xs k.toNat else i32 (16807 * (k + 13))) = x
  have h1 := Int32.toInt_lt (x &&& i32 2147483647)
  refine ⟨?_, by omega⟩
  have key : ∀ x : Int32, 0 ≤ x.toInt ↔ x.toBitVec.msb = false := by
    intro x
    rw [show x.toInt = x.toBitVec.toInt from rfl, BitVec.msb_eq_toInt, decide_eq_false_iff_not]
    omega
  rw [key, Int32.toBitVec_and, BitVec.msb_and, show (i32 2147483647).toBitVec.msb = false from by decide, Bool.and_false]
theorem sm_tail {f : Int → Int} {n : Int} (h0 : 0 ≤ n) (h1 : n ≤ 12) (h : ∀ k : Int, n ≤ k → k < 12 → f k = 0) : sm f 12 = sm f n := by
  have key : ∀ j : Nat, n.toNat + j ≤ 12 → smN f (n.toNat + j) = smN f n.toNat := by
    intro j
    induction j with
    | zero => intro _; rfl
    | succ j ih =>
      intro hj
      show smN f (n.toNat + j) + f ((n.toNat + j : Nat) : Int) = _
      rw [ih (by omega), h _ (by omega) (by omega), Int.add_zero]
  have := key (12 - n.toNat) (by omega)
  rw [show n.toNat + (12 - n.toNat) = 12 by omega] at this
  exact this
theorem claim_no {s : Int → Int} {o m : Int} (h : 2 ≤ s (59 + 22 * o) ∨ s (55 + 22 * o) = m ∨ (s (59 + 22 * o) ≠ 1 ∧ sp_req s m ≤ s (19 + 3 * m))) : ¬ sp_can s o m := by
  rintro ⟨a, b⟩
  rcases b with ⟨b, c⟩ | b
  · have c : s (19 + 3 * m) < sp_req s m := c
    omega
  · omega
theorem claim_yes {s : Int → Int} {o m : Int} (h0 : 0 ≤ s (59 + 22 * o)) (h : s (59 + 22 * o) < 2) (h1 : s (55 + 22 * o) ≠ m) (h2 : s (59 + 22 * o) = 1 ∨ s (19 + 3 * m) < sp_req s m) : sp_can s o m := by
  refine ⟨h1, ?_⟩
  rcases h2 with h2 | h2
  · exact Or.inr h2
  · by_cases c : s (59 + 22 * o) = 1
    · exact Or.inr c
    · exact Or.inl ⟨by omega, h2⟩
