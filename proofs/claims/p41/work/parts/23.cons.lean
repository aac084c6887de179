/-! THE CONSTRUCTORS: worlds that grow -/
abbrev yE : Type := Program × Launch × Env × Room × State × MethodId × Array Value × List Frame × Method × Code × (State → Prop) × (Nat → Prop) × va_G × ClassId × ClassId × Nat
def Y (E : yE) (ws : va_W) (k n : Nat) (pc : Nat) (L : List (Nat × Value)) (st : List Value) : Prop := match E with
  | (p, l, e, R, s, m, args, below, meth, c, Q, A, D, _, _, nL) => ∀ (H : Heap) (locs : List Loc) (ls : Array Slot), va_S A s.heap H locs → va_P D vwCl ws H → va_D A ws → lv_has ls nL L → W p l e R s m args below meth c H locs k n Q (F0 m pc ls st)
def yG (E : yE) (l0 : Launch) (D0 : va_G) (cI0 cJ0 : ClassId) (cc : ByteArray) (nL0 : Nat) (own : String) (fr lo cm sm : Nat) : Prop := match E with
  | (p, l, _, R, s, m, args, _, _, c, _, A, D, cI, cJ, nL) => (l = l0 ∧ D = D0 ∧ cI = cI0 ∧ cJ = cJ0 ∧ nL = nL0) ∧ p.tables.exec = Jvm.exec ∧ c.code = cc ∧ c.maxLocals = nL ∧ s.vm.findClass own = some m.cls ∧ (∀ w ∈ wsL_law, w.before args s = true) ∧ (R.frames = fr ∧ R.locals = lo ∧ R.cells = cm ∧ R.slots = sm) ∧ va_K D vwCl [(cI, .int), (cJ, .long)] s ∧ (∀ q, s.heap.size ≤ q → A q) ∧ ∀ w ∈ nw, va_Nw w s
def yI (E : yE) : Prop := match E with
  | (_, _, _, _, _, _, _, _, meth, _, _, _, _, _, _, _) => meth.name = "<init>"
def yQ (D : va_G) (h0 : Nat) (o0 : Nat × List Value) (B : va_W → Prop) (sz : Nat) : Array Value → State → Outcome → State → Prop := fun _ st oc t => (oc = .returned none ∧ ∃ w1 : va_W, B w1 ∧ va_P D vwCl w1 t.heap ∧ va_D (va_A [(h0, .inr o0)] sz) w1) ∧ va_F (va_A [(h0, .inr o0)] sz) st t
def yR (E : yE) (h0 : Nat) (o0 : Nat × List Value) (B : va_W → Prop) (k n : Nat) : Prop := match E with
  | (_, _, _, _, s, _, args, below, meth, _, Q, A, D, _, _, _) => Q = MQ below (yQ D h0 o0 B s.heap.size) args s k n A ∧ meth.sig.returnType = none ∧ meth.locks = false ∧ A = va_A [(h0, .inr o0)] s.heap.size
def yP (D : va_G) (cI cJ : ClassId) (h0 : Nat) (o0 : Nat × List Value) (sz : Nat) (U : State) : Prop := U.heap.size = sz ∧ va_P D vwCl [(h0, .inr o0)] U.heap ∧ va_K D vwCl [(cI, .int), (cJ, .long)] U ∧ va_D (fun _ => True) [(h0, .inr o0)] ∧ ∀ w ∈ nw, va_Nw w U
/-- a constructor's contract: on the object h0 with the fields o0 it ends with a world w1 with B -/
def Kt (l : Launch) (D : va_G) (cI cJ : ClassId) (y : MethodName) (cc : ByteArray) (fr k n lo : Nat) (h0 : Nat) (o0 : Nat × List Value) (B : va_W → Prop) : Prop :=
  ∀ sz : Nat, Met l y (Cond.code y cc 1 none :: wsL_law) { frames := fr, cells := k, slots := n, locals := lo } (va_Pc [.ref h0] (yP D cI cJ h0 o0 sz)) (yQ D h0 o0 B sz) k n (va_A [(h0, .inr o0)] sz)
theorem Kt.of {l : Launch} {D : va_G} {cI cJ : ClassId} {y : MethodName} {cc : ByteArray} {fr k n lo h0 : Nat} {o0 : Nat × List Value} {B : va_W → Prop} (hy : plainName y.cls = true) (hy2 : y.name = "<init>")
    (h : ∀ E : yE, yG E l D cI cJ cc 1 y.cls fr lo k n → yI E → yR E h0 o0 B k n → Y E [(h0, .inr o0)] 0 0 0 [(0, .ref h0)] []) : Kt l D cI cJ y cc fr k n lo h0 o0 B := by
  intro sz
  refine ofWF (cc := cc) (maxL := 1) (ret := none) (plainFor_of_name hy) rfl ?_
  intro p e s m args below meth c s₁ B0 hml hv
  obtain ⟨rfl, hsz, hP, hK, hD0, hN⟩ := hv
  subst hsz
  have hts := atoms_spec (ws := Cond.code y cc 1 none :: wsL_law) B0.pre
  have hl := lv_entry [.ref h0] (n := 1) (Nat.le_of_ble_eq_true rfl)
  have hin : meth.name = y.name := (name_of_methodNamed B0.named B0.method).1
  rw [lg_entry_eq]
  refine h (p, l, e, { frames := fr, cells := k, slots := n, locals := lo }, s, m, #[.ref h0], below, meth, c, MQ below (yQ D h0 o0 B s.heap.size) #[.ref h0] s k n (va_A [(h0, .inr o0)] s.heap.size), va_A [(h0, .inr o0)] s.heap.size, D, cI, cJ, 1) ?_ ?_ ?_ s.heap [] _ va_S.rf hP hD0.self hl
  · exact ⟨⟨rfl, rfl, rfl, rfl, rfl⟩, B0.exec, B0.bytes, hml, findClass_of_methodNamed B0.named, fun w hw => hts w (List.mem_cons_of_mem _ hw), ⟨rfl, rfl, rfl, rfl⟩, hK, fun q hq => Or.inr hq, hN⟩
  · exact hin.trans hy2
  · exact ⟨rfl, B0.returns, B0.notSynchronized, rfl⟩
theorem join_last {A0 : Nat → Prop} {D : va_G} {cl : List vw_C} {ws w1 : va_W} {q : Nat} {o : va_E} {H H1 : Heap} (hP : va_P D cl (ws ++ [(q, o)]) H) (hD : va_D A0 (ws ++ [(q, o)])) (hk : ∀ x : Nat, x < H.size → ¬ va_A [(q, o)] H.size x → H1[x]? = H[x]?) (hF : ∀ x, va_A [(q, o)] H.size x → A0 x) (hP1 : va_P D cl w1 H1) (hD1 : va_D (va_A [(q, o)] H.size) w1) : va_P D cl (ws ++ w1) H1 ∧ va_D A0 (ws ++ w1) := by
  have hin : ∀ (k : Nat) (x : Nat × va_E), ws[k]? = some x → (ws ++ [(q, o)])[k]? = some x := fun k x hx => by
    rw [List.getElem?_append_left (List.getElem?_eq_some_iff.mp hx).1]; exact hx
  have hq : (ws ++ [(q, o)])[ws.length]? = some (q, o) := by rw [List.getElem?_append_right (Nat.le_refl _), Nat.sub_self]; rfl
  have apart : ∀ (k : Nat) (x : Nat × va_E), ws[k]? = some x → x.1 < H.size ∧ ¬ va_A [(q, o)] H.size x.1 := by
    intro k x hx
    have hl := (hP k x (hin k x hx)).lt
    refine ⟨hl, fun h => ?_⟩
    rcases h with ⟨k2, e, h⟩ | h
    · have e2 : x.1 = q := by
        match k2, h with
        | 0, h => cases h; rfl
        | k2 + 1, h => cases h
      have := hD.1 k ws.length x (q, o) (hin k x hx) hq e2
      have := (List.getElem?_eq_some_iff.mp hx).1
      omega
    · omega
  refine ⟨va_P.app (fun k x hx => ?_) hP1, va_D.app ⟨fun i j x y hi hj hxy => hD.1 i j x y (hin i x hi) (hin j y hj) hxy, fun k x hx => hD.2 k x (hin k x hx)⟩ (hD1.weaken (fun k x _ h => hF x.1 h)) (fun i j x y hx hy hxy => ?_)⟩
  · obtain ⟨g1, g2⟩ := apart k x hx
    exact (hP k x (hin k x hx)).kept (hk x.1 g1 g2)
  · exact (apart i x hx).2 (by rw [hxy]; exact hD1.2 j y hy)
section YR
variable {E : yE} {l0 : Launch} {D0 : va_G} {cI0 cJ0 : ClassId} {cc : ByteArray} {nL0 fr lo cm sm : Nat} {own : String} {ws : va_W} {k n pc : Nat} {L : List (Nat × Value)} {st : List Value}
theorem y_iconst (hE : yG E l0 D0 cI0 cJ0 cc nL0 own fr lo cm sm) {v : Int} (d : decode cc pc = .ok (.iconst v, 1)) (kk : Y E ws k n (pc + 1) L (.int (i32 v) :: st)) : Y E ws k n pc L st := by
  obtain ⟨p, l, e, R, s, m, args, below, meth, c, Q, A, D, cI, cJ, nL⟩ := E
  obtain ⟨⟨rfl, rfl, rfl, rfl, rfl⟩, hx, hb, hml, hown, hts, ⟨hf1, hf2, hf3, hf4⟩, hK, hA, hN⟩ := hE
  intro H locs ls hS hP hD hl
  exact lv_iconst hx hb d rfl (kk H locs ls hS hP hD hl)
theorem y_bipush (hE : yG E l0 D0 cI0 cJ0 cc nL0 own fr lo cm sm) {v a : Int} (hv : (Int8.ofInt v).toInt32 = i32 a) (d : decode cc pc = .ok (.bipush v, 2)) (kk : Y E ws k n (pc + 2) L (.int (i32 a) :: st)) : Y E ws k n pc L st := by
  obtain ⟨p, l, e, R, s, m, args, below, meth, c, Q, A, D, cI, cJ, nL⟩ := E
  obtain ⟨⟨rfl, rfl, rfl, rfl, rfl⟩, hx, hb, hml, hown, hts, ⟨hf1, hf2, hf3, hf4⟩, hK, hA, hN⟩ := hE
  intro H locs ls hS hP hD hl
  exact lv_bipush hx hb d hv (kk H locs ls hS hP hD hl)
theorem y_sipush (hE : yG E l0 D0 cI0 cJ0 cc nL0 own fr lo cm sm) {v a : Int} (hv : (Int16.ofInt v).toInt32 = i32 a) (d : decode cc pc = .ok (.sipush v, 3)) (kk : Y E ws k n (pc + 3) L (.int (i32 a) :: st)) : Y E ws k n pc L st := by
  obtain ⟨p, l, e, R, s, m, args, below, meth, c, Q, A, D, cI, cJ, nL⟩ := E
  obtain ⟨⟨rfl, rfl, rfl, rfl, rfl⟩, hx, hb, hml, hown, hts, ⟨hf1, hf2, hf3, hf4⟩, hK, hA, hN⟩ := hE
  intro H locs ls hS hP hD hl
  exact lv_sipush hx hb d hv (kk H locs ls hS hP hD hl)
theorem y_ldc2 (hE : yG E l0 D0 cI0 cJ0 cc nL0 own fr lo cm sm) {index : Nat} {v : Int64} {a : Int} (hw : Cond.constantLong own index v ∈ wsL_law) (hv : v = i64 a) (d : decode cc pc = .ok (.ldc2_w index, 3)) (kk : Y E ws k n (pc + 3) L (.long (i64 a) :: st)) : Y E ws k n pc L st := by
  obtain ⟨p, l, e, R, s, m, args, below, meth, c, Q, A, D, cI, cJ, nL⟩ := E
  obtain ⟨⟨rfl, rfl, rfl, rfl, rfl⟩, hx, hb, hml, hown, hts, ⟨hf1, hf2, hf3, hf4⟩, hK, hA, hN⟩ := hE
  intro H locs ls hS hP hD hl
  subst hv
  exact W.ldc2 hx hb hown (hts _ hw) rfl d (kk H locs ls hS hP hD hl)
theorem y_aload_n (hE : yG E l0 D0 cI0 cJ0 cc nL0 own fr lo cm sm) {j : Fin 4} {i : Nat} {x : Nat} (q : Nat) (hi : (j : Nat) = i) (hk : L[q]? = some (i, .ref x)) (d : decode cc pc = .ok (.aload_n j, 1)) (kk : Y E ws k n (pc + 1) L (.ref x :: st)) : Y E ws k n pc L st := by
  obtain ⟨p, l, e, R, s, m, args, below, meth, c, Q, A, D, cI, cJ, nL⟩ := E
  obtain ⟨⟨rfl, rfl, rfl, rfl, rfl⟩, hx, hb, hml, hown, hts, ⟨hf1, hf2, hf3, hf4⟩, hK, hA, hN⟩ := hE
  intro H locs ls hS hP hD hl
  exact lv_aload_n hx hb d hi (lv_at hl q hk) (kk H locs ls hS hP hD hl)
theorem y_astore_n (hE : yG E l0 D0 cI0 cJ0 cc nL0 own fr lo cm sm) {j : Fin 4} {i : Nat} {x : Nat} {L2 : List (Nat × Value)} (hi : (j : Nat) = i) (hn : i < nL0) (hL : (i, Value.ref x) :: L.filter (fun q => !(q.1 == i) && !(q.1 + 1 == i && q.2.category == 2)) = L2) (d : decode cc pc = .ok (.astore_n j, 1)) (kk : Y E ws k n (pc + 1) L2 st) : Y E ws k n pc L (.ref x :: st) := by
  obtain ⟨p, l, e, R, s, m, args, below, meth, c, Q, A, D, cI, cJ, nL⟩ := E
  obtain ⟨⟨rfl, rfl, rfl, rfl, rfl⟩, hx, hb, hml, hown, hts, ⟨hf1, hf2, hf3, hf4⟩, hK, hA, hN⟩ := hE
  intro H locs ls hS hP hD hl
  exact lv_astore_n hx hb d hi hl hn hL (fun ls hl => kk H locs ls hS hP hD hl)
theorem y_dup (hE : yG E l0 D0 cI0 cJ0 cc nL0 own fr lo cm sm) {v : Value} (hv : v.category = 1) (d : decode cc pc = .ok (.dup, 1)) (kk : Y E ws k n (pc + 1) L (v :: v :: st)) : Y E ws k n pc L (v :: st) := by
  obtain ⟨p, l, e, R, s, m, args, below, meth, c, Q, A, D, cI, cJ, nL⟩ := E
  obtain ⟨⟨rfl, rfl, rfl, rfl, rfl⟩, hx, hb, hml, hown, hts, ⟨hf1, hf2, hf3, hf4⟩, hK, hA, hN⟩ := hE
  intro H locs ls hS hP hD hl
  exact lv_dup hx hb d hv (kk H locs ls hS hP hD hl)
theorem y_obj (hE : yG E l0 D0 cI0 cJ0 cc nL0 own fr lo cm sm) {index a : Nat} (w1 : Cond.methodLink own index objectInit ∈ wsL_law) (w2 : Cond.instanceMethod objectInit ∈ wsL_law) (w3 : Cond.code objectInit ⟨#[0xb1]⟩ 1 none ∈ wsL_law) (hfr : 1 ≤ fr) (hlo : (st.map fun v => v.category).sum + 12 ≤ lo) (d : decode cc pc = .ok (.invokespecial index, 3)) (kk : Y E ws k n (pc + 3) L st) : Y E ws k n pc L (.ref a :: st) := by
  obtain ⟨p, l, e, R, s, m, args, below, meth, c, Q, A, D, cI, cJ, nL⟩ := E
  obtain ⟨⟨rfl, rfl, rfl, rfl, rfl⟩, hx, hb, hml, hown, hts, ⟨hf1, hf2, hf3, hf4⟩, hK, hA, hN⟩ := hE
  intro H locs ls hS hP hD hl
  refine W.objInit hx hb hown (hts _ w1) (hts _ w2) (hts _ w3) rfl (by rw [hml]; exact hl.1) rfl d (by rw [hf1]; exact hfr) (by rw [hf2]; show 2 * 0 + _ + 12 ≤ _; omega) ?_
  exact kk H locs ls hS hP hD hl
theorem y_new (hE : yG E l0 D0 cI0 cJ0 cc nL0 own fr lo cm sm) {index ci N : Nat} {C : String} {T : u_T} {fs : List Value} {ty : Nat → FieldType} (hcl : vwCl[ci]? = some (C, T, N)) (hin : ∀ w ∈ u_ws C T N, w ∈ wsL_law) (hty : ∀ k, k < N → parseFieldDescriptor (T k).2.2.1 = some (ty k)) (w1 : Cond.classLink own index C ∈ wsL_law) (w2 : Cond.instantiable C N ∈ wsL_law) (w3 : Cond.initialized C ∈ wsL_law) (hfs : ∀ j, j < N → defaultValue (ty j) = vp_V fs j) (h1 : k + 1 ≤ cm) (h2 : n + N ≤ sm) (d : decode cc pc = .ok (.new index, 3)) (kk : ∀ q : Nat, Y E (ws ++ [(q, .inr (ci, fs))]) (k + 1) (n + N) (pc + 3) L (.ref q :: st)) : Y E ws k n pc L st := by
  obtain ⟨p, l, e, R, s, m, args, below, meth, c, Q, A, D, cI, cJ, nL⟩ := E
  obtain ⟨⟨rfl, rfl, rfl, rfl, rfl⟩, hx, hb, hml, hown, hts, ⟨hf1, hf2, hf3, hf4⟩, hK, hA, hN⟩ := hE
  intro H locs ls hS hP hD hl
  exact va_new hx hb hts hin ty hty hown (hts _ w1) (hts _ w2) (hts _ w3) hK hP hD hS hA hcl hfs (by rw [hf3]; exact h1) (by rw [hf4]; exact h2) d (fun q H1 hP1 hD1 hS1 => kk q H1 locs ls hS1 hP1 hD1 hl)
theorem y_newI (hE : yG E l0 D0 cI0 cJ0 cc nL0 own fr lo cm sm) {a : Int} (N : Nat) (w : Cond.arrayClass .int ∈ wsL_law) (ha : a = N) (hN : N < 100000) (h1 : k + 1 ≤ cm) (h2 : n + N ≤ sm) (d : decode cc pc = .ok (.newarray .int, 2)) (kk : ∀ q : Nat, Y E (ws ++ [(q, .inl (cI0, N, .inl (fun _ => 0)))]) (k + 1) (n + N) (pc + 2) L (.ref q :: st)) : Y E ws k n pc L (.int (i32 a) :: st) := by
  obtain ⟨p, l, e, R, s, m, args, below, meth, c, Q, A, D, cI, cJ, nL⟩ := E
  obtain ⟨⟨rfl, rfl, rfl, rfl, rfl⟩, hx, hb, hml, hown, hts, ⟨hf1, hf2, hf3, hf4⟩, hK, hA, hN⟩ := hE
  intro H locs ls hS hP hD hl
  have hb9 : b32 a := ⟨by omega, by omega⟩
  refine va_newa (atype := .int) hx hb (hts _ w) (ty := .int) rfl hK hP hD hS hA (a0 := (N, .inl (fun _ => 0))) (fun cA => rfl) (by rw [i32_0, i32_lt hb9 b32_0]; omega) (by rw [i32_nat (by omega) hb9, ha]; rfl) (by show N * 4 ≤ _; omega) (by rw [hf3]; exact h1) (by rw [hf4]; exact h2) d (fun q cA H1 hK1 hP1 hD1 hS1 => ?_)
  have e : cA = cI := Option.some.inj ((show s.vm.findClass _ = some cA from (hK1.2 2 (cA, .int) rfl).2).symm.trans (show s.vm.findClass _ = some cI from (hK.2 0 (cI, .int) rfl).2))
  subst e
  exact kk q H1 locs ls hS1 hP1 hD1 hl
theorem y_newJ (hE : yG E l0 D0 cI0 cJ0 cc nL0 own fr lo cm sm) {a : Int} (N : Nat) (w : Cond.arrayClass .long ∈ wsL_law) (ha : a = N) (hN : N < 100000) (h1 : k + 1 ≤ cm) (h2 : n + N ≤ sm) (d : decode cc pc = .ok (.newarray .long, 2)) (kk : ∀ q : Nat, Y E (ws ++ [(q, .inl (cJ0, N, .inr (.inl (fun _ => 0))))]) (k + 1) (n + N) (pc + 2) L (.ref q :: st)) : Y E ws k n pc L (.int (i32 a) :: st) := by
  obtain ⟨p, l, e, R, s, m, args, below, meth, c, Q, A, D, cI, cJ, nL⟩ := E
  obtain ⟨⟨rfl, rfl, rfl, rfl, rfl⟩, hx, hb, hml, hown, hts, ⟨hf1, hf2, hf3, hf4⟩, hK, hA, hN⟩ := hE
  intro H locs ls hS hP hD hl
  have hb9 : b32 a := ⟨by omega, by omega⟩
  refine va_newa (atype := .long) hx hb (hts _ w) (ty := .long) rfl hK hP hD hS hA (a0 := (N, .inr (.inl (fun _ => 0)))) (fun cA => rfl) (by rw [i32_0, i32_lt hb9 b32_0]; omega) (by rw [i32_nat (by omega) hb9, ha]; rfl) (by show N * 8 ≤ _; omega) (by rw [hf3]; exact h1) (by rw [hf4]; exact h2) d (fun q cA H1 hK1 hP1 hD1 hS1 => ?_)
  have e : cA = cJ := Option.some.inj ((show s.vm.findClass _ = some cA from (hK1.2 2 (cA, .long) rfl).2).symm.trans (show s.vm.findClass _ = some cJ from (hK.2 1 (cJ, .long) rfl).2))
  subst e
  exact kk q H1 locs ls hS1 hP1 hD1 hl
theorem y_putF (hE : yG E l0 D0 cI0 cJ0 cc nL0 own fr lo cm sm) {index ci N a : Nat} {C : String} {T : u_T} {fs : List Value} {v : Value} {ty : FieldType} {ty0 : Nat → FieldType} {rest : va_W} (hI : yI E) (hcl : vwCl[ci]? = some (C, T, N)) (hin : ∀ w ∈ u_ws C T N, w ∈ wsL_law) (hty : ∀ k, k < N → parseFieldDescriptor (T k).2.2.1 = some (ty0 k)) (hnm : ∀ a, a < N → ∀ b, b < N → a ≠ b → (T a).2.1 ≠ (T b).2.1) (j : Nat) (hj : j < N) (hw : Cond.fieldLink own index (T j).1 (T j).2.1 (T j).2.2.1 ∈ wsL_law) (hfin : (T j).2.2.2 = true) (hdecl : (T j).1 = own) (hd : parseFieldDescriptor (T j).2.2.1 = some ty) (hn : narrow ty v = v) (hfit : fits ty v = true) (hlen : j < fs.length) (d : decode cc pc = .ok (.putfield index, 3)) (kk : Y E ((a, .inr (ci, fs.set j v)) :: rest) k n (pc + 3) L st) : Y E ((a, .inr (ci, fs)) :: rest) k n pc L (v :: .ref a :: st) := by
  obtain ⟨p, l, e, R, s, m, args, below, meth, c, Q, A, D, cI, cJ, nL⟩ := E
  obtain ⟨⟨rfl, rfl, rfl, rfl, rfl⟩, hx, hb, hml, hown, hts, ⟨hf1, hf2, hf3, hf4⟩, hK, hA, hN⟩ := hE
  intro H locs ls hS hP hD hl
  exact va_putF hx hb hts hin ty0 hty hnm hown hK hP hD hS 0 rfl hcl j hj (hts _ hw) (fun _ h => h) hfin hI hdecl hd hn hfit hlen d (fun H1 locs1 hP1 hD1 hS1 => kk H1 locs1 ls hS1 hP1 hD1 hl)
theorem y_put (hE : yG E l0 D0 cI0 cJ0 cc nL0 own fr lo cm sm) {index ci N a : Nat} {C : String} {T : u_T} {fs : List Value} {v : Value} {ty : FieldType} {ty0 : Nat → FieldType} {rest : va_W} (hcl : vwCl[ci]? = some (C, T, N)) (hin : ∀ w ∈ u_ws C T N, w ∈ wsL_law) (hty : ∀ k, k < N → parseFieldDescriptor (T k).2.2.1 = some (ty0 k)) (hnm : ∀ a, a < N → ∀ b, b < N → a ≠ b → (T a).2.1 ≠ (T b).2.1) (j : Nat) (hj : j < N) (hw : Cond.fieldLink own index (T j).1 (T j).2.1 (T j).2.2.1 ∈ wsL_law) (hfin : (T j).2.2.2 = false) (hd : parseFieldDescriptor (T j).2.2.1 = some ty) (hn : narrow ty v = v) (hfit : fits ty v = true) (hlen : j < fs.length) (d : decode cc pc = .ok (.putfield index, 3)) (kk : Y E ((a, .inr (ci, fs.set j v)) :: rest) k n (pc + 3) L st) : Y E ((a, .inr (ci, fs)) :: rest) k n pc L (v :: .ref a :: st) := by
  obtain ⟨p, l, e, R, s, m, args, below, meth, c, Q, A, D, cI, cJ, nL⟩ := E
  obtain ⟨⟨rfl, rfl, rfl, rfl, rfl⟩, hx, hb, hml, hown, hts, ⟨hf1, hf2, hf3, hf4⟩, hK, hA, hN⟩ := hE
  intro H locs ls hS hP hD hl
  exact va_put hx hb hts hin ty0 hty hnm hown hK hP hD hS 0 rfl hcl j hj (hts _ hw) (fun _ h => h) hfin hd hn hfit hlen d (fun H1 locs1 hP1 hD1 hS1 => kk H1 locs1 ls hS1 hP1 hD1 hl)
theorem y_get (hE : yG E l0 D0 cI0 cJ0 cc nL0 own fr lo cm sm) {index ci N a : Nat} {C : String} {T : u_T} {fs : List Value} {v : Value} {rest : va_W} (hcl : vwCl[ci]? = some (C, T, N)) (hin : ∀ w ∈ u_ws C T N, w ∈ wsL_law) (j : Nat) (hj : j < N) (hw : Cond.fieldLink own index (T j).1 (T j).2.1 (T j).2.2.1 ∈ wsL_law) (hv : fs[j]? = some v) (d : decode cc pc = .ok (.getfield index, 3)) (kk : Y E ((a, .inr (ci, fs)) :: rest) k n (pc + 3) L (v :: st)) : Y E ((a, .inr (ci, fs)) :: rest) k n pc L (.ref a :: st) := by
  obtain ⟨p, l, e, R, s, m, args, below, meth, c, Q, A, D, cI, cJ, nL⟩ := E
  obtain ⟨⟨rfl, rfl, rfl, rfl, rfl⟩, hx, hb, hml, hown, hts, ⟨hf1, hf2, hf3, hf4⟩, hK, hA, hN⟩ := hE
  intro H locs ls hS hP hD hl
  exact va_get hx hb hts hin hown hK hP 0 rfl hcl j hj (hts _ hw) (fun _ h => h) hv d (kk H locs ls hS hP hD hl)
theorem y_last (hE : yG E l0 D0 cI0 cJ0 cc nL0 own fr lo cm sm) {a N : Nat} {f : Nat → Int64} {x : Nat × va_E} {rest : va_W} {i v : Int} (h0 : 0 ≤ i) (h1 : i < N) (hN : N < 100000) (d : decode cc pc = .ok (.lastore, 1)) (kk : Y E (x :: (a, .inl (cJ0, N, .inr (.inl (vp_updL f i.toNat (i64 v))))) :: rest) k n (pc + 1) L st) : Y E (x :: (a, .inl (cJ0, N, .inr (.inl f))) :: rest) k n pc L (.long (i64 v) :: .int (i32 i) :: .ref a :: st) := by
  obtain ⟨p, l, e, R, s, m, args, below, meth, c, Q, A, D, cI, cJ, nL⟩ := E
  obtain ⟨⟨rfl, rfl, rfl, rfl, rfl⟩, hx, hb, hml, hown, hts, ⟨hf1, hf2, hf3, hf4⟩, hK, hA, hN⟩ := hE
  intro H locs ls hS hP hD hl
  have hb9 : b32 i := ⟨by omega, by omega⟩
  refine va_last hx hb hK hP hD hS 1 1 rfl rfl (i32_in h0 h1 hb9) d (fun H1 locs1 hP1 hD1 hS1 => ?_)
  rw [i32_nat h0 hb9] at hP1 hD1
  exact kk H1 locs1 ls hS1 hP1 hD1 hl
theorem y_ret {h0 : Nat} {o0 : Nat × List Value} {B : va_W → Prop} (hE : yG E l0 D0 cI0 cJ0 cc nL0 own fr lo cm sm) (hR : yR E h0 o0 B k n) (d : decode cc pc = .ok (.return_, 1)) (hB : B ws) : Y E ws k n pc L [] := by
  obtain ⟨p, l, e, R, s, m, args, below, meth, c, Q, A, D, cI, cJ, nL⟩ := E
  obtain ⟨⟨rfl, rfl, rfl, rfl, rfl⟩, hx, hb, hml, hown, hts, ⟨hf1, hf2, hf3, hf4⟩, hK, hA, hN⟩ := hE
  intro H locs ls hS hP hD hl
  obtain ⟨hQ, hr, hlk, hA2⟩ := hR
  subst hA2
  rw [hQ]
  exact W.vret hx hb hr (fun t ht hW => ⟨⟨rfl, ws, hB, by rw [ht]; exact hP, hD⟩, hS.F ht⟩) hS.2.2 d hlk

theorem yP_blind {D : va_G} {cI cJ : ClassId} {h0 : Nat} {o0 : Nat × List Value} {sz : Nat} {as : List Value} : FrameBlind (va_Pc as (yP D cI cJ h0 o0 sz)) := by
  intro a U g mk h
  obtain ⟨h0, h1, h2, h3, h4, h5⟩ := h
  exact ⟨h0, h1, h2, va_K.moved (u := U) (U := U.calling g mk a) (Vm.Alike.refl U.vm) h3, h4, nw_same (u := U) (U := U.calling g mk a) rfl h5⟩
theorem yP_pre {D : va_G} {cI cJ : ClassId} {q : Nat} {o : Nat × List Value} {A : Nat → Prop} {ws : va_W} {s : State} {H : Heap} (hP : va_P D vwCl (ws ++ [(q, .inr o)]) H) (hK : va_K D vwCl [(cI, .int), (cJ, .long)] s) (hD : va_D A (ws ++ [(q, .inr o)])) (hN : ∀ w ∈ nw, va_Nw w s) : ∀ U : State, U.heap = H → s.WarmedH U.vm → va_Pc [.ref q] (yP D cI cJ q o H.size) #[.ref q] U := by
  intro U hU hW
  have hq : (ws ++ [(q, .inr o)])[ws.length]? = some (q, .inr o) := by rw [List.getElem?_append_right (Nat.le_refl _), Nat.sub_self]; rfl
  refine ⟨rfl, by rw [hU], by rw [hU]; exact hP.sub [ws.length] (by simp), va_K.moved hW.alike hK, (hD.sub [ws.length] rfl (by simp)).weaken (fun _ _ _ _ => trivial), nw_warm hW hN⟩
theorem ya_in {A : Nat → Prop} {ws : va_W} {q : Nat} {o : va_E} {s : State} {H : Heap} {locs : List Loc} (hD : va_D A (ws ++ [(q, o)])) (hS : va_S A s.heap H locs) (hA : ∀ q, s.heap.size ≤ q → A q) : ∀ x, va_A [(q, o)] H.size x → A x := va_free hD hS hA [ws.length] (by simp)
theorem y_callL (hE : yG E l0 D0 cI0 cJ0 cc nL0 own fr lo cm sm) {y : MethodName} {cc2 : ByteArray} {fr2 k2 n2 lo2 index q : Nat} {o : Nat × List Value} {B : va_W → Prop} (hC : Kt l0 D0 cI0 cJ0 y cc2 fr2 k2 n2 lo2 q o B) (w1 : Cond.methodLink own index y ∈ wsL_law) (w2 : Cond.instanceMethod y ∈ wsL_law) (w4 : Cond.initialized y.cls ∈ wsL_law) (w5 : Cond.code y cc2 1 none ∈ wsL_law) (hy : y.name = "<init>") (hd : y.cls ≠ "java/lang/invoke/MethodHandle" ∧ y.cls ≠ "java/lang/invoke/VarHandle" ∧ (parseMethodDescriptor y.desc).map (fun d => d.parameters.length) = some 0) (hfr : fr2 + 1 ≤ fr) (hlo : 8 + (1 + 11) + lo2 ≤ lo) (hk : k + k2 ≤ cm) (hn : n + n2 ≤ sm) (hst : (st.map fun v => v.category).sum ≤ 8) (d : decode cc pc = .ok (.invokespecial index, 3)) (kk : ∀ w : va_W, B w → Y E (ws ++ w) (k + k2) (n + n2) (pc + 3) L st) : Y E (ws ++ [(q, .inr o)]) k n pc L (.ref q :: st) := by
  obtain ⟨p, l, e, R, s, m, args, below, meth, c, Q, A, D, cI, cJ, nL⟩ := E
  obtain ⟨⟨rfl, rfl, rfl, rfl, rfl⟩, hx, hb, hml, hown, hts, ⟨hf1, hf2, hf3, hf4⟩, hK, hA, hN⟩ := hE
  intro H locs ls hS hP hD hl
  have hG : GoodIn wsL_law (Cond.code y cc2 1 none :: wsL_law) := zw_in fun w hw => by
    rcases List.mem_cons.mp hw with rfl | hw
    · exact w5
    · exact hw
  have hr := va_runI (H := H) (locs := locs) (cells := k) (slots := n) (g := F0 m pc ls (.ref q :: st)) (As := []) (b := q) (rest := st) (R := R) (p := p) (l := l) (e := e) (below := below) (meth := meth) (Ts := wsL_law) (own := own) ⟨hx, hb, hml, hown, hts⟩ (hC H.size) (cwI 0 hts hG rfl rfl rfl (hts _ w4) (hts _ w1) (hts _ w2) hy hd ⟨by rw [hf1]; exact hfr, by rw [hf2]; exact hlo⟩) ⟨yP_blind, yP_pre hP hK hD hN⟩ rfl rfl hl.1 rfl (lv_room hst) d ⟨by rw [hf3]; exact hk, by rw [hf4]; exact hn⟩
  have hFc := ya_in hD hS hA
  intro T hT X
  obtain ⟨v, st₀, t, T', L', h0, X', hL', e1, e2, ⟨⟨hv, w1', hB, hP1, hD1⟩, hz, hkk⟩, stp⟩ := hr T hT X
  cases hv
  rw [h0] at hz hkk
  obtain ⟨hP2, hD2⟩ := join_last (H1 := t.heap) hP hD hkk hFc hP1 hD1
  have hS1 : va_S A s.heap T'.heap (locs ++ L') := ⟨Nat.le_trans hS.1 (by rw [e1]; exact hz), fun q h1 h2 => by rw [e1, hkk q (Nat.lt_of_lt_of_le h1 hS.1) (fun z => h2 (hFc q z))]; exact hS.2.1 q h1 h2, fun q hq => by
    rcases List.mem_append.mp hq with h | h
    · exact hS.2.2 q h
    · exact hFc _ (hL' q h)⟩
  obtain ⟨t2, a1, b1⟩ := kk w1' hB T'.heap (locs ++ L') ls hS1 (by rw [e1]; exact hP2) hD2 hl T' rfl X'
  exact ⟨t2, stp t2 a1, b1⟩
theorem y_callN (hE : yG E l0 D0 cI0 cJ0 cc nL0 own fr lo cm sm) {y : MethodName} {host : String} {cc2 : ByteArray} {fr2 k2 n2 lo2 index q : Nat} {o : Nat × List Value} {B : va_W → Prop} (hC : Kt l0 D0 cI0 cJ0 y cc2 fr2 k2 n2 lo2 q o B) (w1 : Cond.methodLinkNest own index y host ∈ nw) (w2 : Cond.instanceMethod y ∈ wsL_law) (w4 : Cond.initialized y.cls ∈ wsL_law) (w5 : Cond.code y cc2 1 none ∈ wsL_law) (hy : y.name = "<init>") (hd : y.cls ≠ "java/lang/invoke/MethodHandle" ∧ y.cls ≠ "java/lang/invoke/VarHandle" ∧ (parseMethodDescriptor y.desc).map (fun d => d.parameters.length) = some 0) (hfr : fr2 + 1 ≤ fr) (hlo : 8 + (1 + 11) + lo2 ≤ lo) (hk : k + k2 ≤ cm) (hn : n + n2 ≤ sm) (hst : (st.map fun v => v.category).sum ≤ 8) (d : decode cc pc = .ok (.invokespecial index, 3)) (kk : ∀ w : va_W, B w → Y E (ws ++ w) (k + k2) (n + n2) (pc + 3) L st) : Y E (ws ++ [(q, .inr o)]) k n pc L (.ref q :: st) := by
  obtain ⟨p, l, e, R, s, m, args, below, meth, c, Q, A, D, cI, cJ, nL⟩ := E
  obtain ⟨⟨rfl, rfl, rfl, rfl, rfl⟩, hx, hb, hml, hown, hts, ⟨hf1, hf2, hf3, hf4⟩, hK, hA, hN⟩ := hE
  intro H locs ls hS hP hD hl
  have hG : GoodIn wsL_law (Cond.code y cc2 1 none :: wsL_law) := zw_in fun w hw => by
    rcases List.mem_cons.mp hw with rfl | hw
    · exact w5
    · exact hw
  have hr := va_runIN (H := H) (locs := locs) (cells := k) (slots := n) (g := F0 m pc ls (.ref q :: st)) (As := []) (b := q) (rest := st) (R := R) (p := p) (l := l) (e := e) (below := below) (meth := meth) (Ts := wsL_law) (own := own) ⟨hx, hb, hml, hown, hts⟩ (hC H.size) ⟨va_cnB 0 hts hG rfl rfl rfl (hN _ w1) (hts _ w4) hd ⟨by rw [hf1]; exact hfr, by rw [hf2]; exact hlo⟩, hy, hts _ w2⟩ ⟨yP_blind, yP_pre hP hK hD hN⟩ rfl rfl hl.1 rfl (lv_room hst) d ⟨by rw [hf3]; exact hk, by rw [hf4]; exact hn⟩
  have hFc := ya_in hD hS hA
  intro T hT X
  obtain ⟨v, st₀, t, T', L', h0, X', hL', e1, e2, ⟨⟨hv, w1', hB, hP1, hD1⟩, hz, hkk⟩, stp⟩ := hr T hT X
  cases hv
  rw [h0] at hz hkk
  obtain ⟨hP2, hD2⟩ := join_last (H1 := t.heap) hP hD hkk hFc hP1 hD1
  have hS1 : va_S A s.heap T'.heap (locs ++ L') := ⟨Nat.le_trans hS.1 (by rw [e1]; exact hz), fun q h1 h2 => by rw [e1, hkk q (Nat.lt_of_lt_of_le h1 hS.1) (fun z => h2 (hFc q z))]; exact hS.2.1 q h1 h2, fun q hq => by
    rcases List.mem_append.mp hq with h | h
    · exact hS.2.2 q h
    · exact hFc _ (hL' q h)⟩
  obtain ⟨t2, a1, b1⟩ := kk w1' hB T'.heap (locs ++ L') ls hS1 (by rw [e1]; exact hP2) hD2 hl T' rfl X'
  exact ⟨t2, stp t2 a1, b1⟩
end YR
theorem dX1_init_0 : decode cX1_init 0 = .ok (.aload_n 0, 1) := by decide +kernel
theorem dX1_init_1 : decode cX1_init 1 = .ok (.invokespecial 3, 3) := by decide +kernel
theorem dX1_init_4 : decode cX1_init 4 = .ok (.aload_n 0, 1) := by decide +kernel
theorem dX1_init_5 : decode cX1_init 5 = .ok (.iconst 0, 1) := by decide +kernel
theorem dX1_init_6 : decode cX1_init 6 = .ok (.putfield 9, 3) := by decide +kernel
theorem dX1_init_9 : decode cX1_init 9 = .ok (.aload_n 0, 1) := by decide +kernel
theorem dX1_init_10 : decode cX1_init 10 = .ok (.bipush 12, 2) := by decide +kernel
theorem dX1_init_12 : decode cX1_init 12 = .ok (.newarray .int, 2) := by decide +kernel
theorem dX1_init_14 : decode cX1_init 14 = .ok (.putfield 15, 3) := by decide +kernel
theorem dX1_init_17 : decode cX1_init 17 = .ok (.aload_n 0, 1) := by decide +kernel
theorem dX1_init_18 : decode cX1_init 18 = .ok (.bipush 12, 2) := by decide +kernel
theorem dX1_init_20 : decode cX1_init 20 = .ok (.newarray .int, 2) := by decide +kernel
theorem dX1_init_22 : decode cX1_init 22 = .ok (.putfield 19, 3) := by decide +kernel
theorem dX1_init_25 : decode cX1_init 25 = .ok (.aload_n 0, 1) := by decide +kernel
theorem dX1_init_26 : decode cX1_init 26 = .ok (.bipush 12, 2) := by decide +kernel
theorem dX1_init_28 : decode cX1_init 28 = .ok (.newarray .long, 2) := by decide +kernel
theorem dX1_init_30 : decode cX1_init 30 = .ok (.putfield 22, 3) := by decide +kernel
theorem dX1_init_33 : decode cX1_init 33 = .ok (.return_, 1) := by decide +kernel
theorem hy_X1_init : yX1_init.cls ≠ "java/lang/invoke/MethodHandle" ∧ yX1_init.cls ≠ "java/lang/invoke/VarHandle" ∧ (parseMethodDescriptor yX1_init.desc).map (fun d => d.parameters.length) = some 0 := ⟨by decide +kernel, by decide +kernel, by decide +kernel⟩
set_option maxHeartbeats 4000000 in
set_option maxRecDepth 100000 in
theorem c_X1_init (l0 : Launch) (D0 : va_G) (cI cJ : ClassId) (h0 : Nat) : Kt l0 D0 cI cJ yX1_init cX1_init 1 3 36 12 h0 (1, [.int 0, .null, .null, .null]) (fun w => ∃ a b c : Nat, w = [(h0, .inr (1, [.int (i32 0), .ref a, .ref b, .ref c])), (a, .inl (cI, 12, .inl (fun _ => 0))), (b, .inl (cI, 12, .inl (fun _ => 0))), (c, .inl (cJ, 12, .inr (.inl (fun _ => 0))))]) := by
  refine Kt.of (by decide) rfl (fun E hE hI hR => ?_)
  show Y E [(h0, .inr (1, [.int 0, .null, .null, .null]))] 0 0 0 [(0, .ref h0)] []
  refine y_aload_n hE 0 rfl rfl dX1_init_0 ?_
  refine y_obj hE zm_X1_3 zi_objectInit zc_objectInit (by decide) (by decide) dX1_init_1 ?_
  refine y_aload_n hE 0 rfl rfl dX1_init_4 ?_
  refine y_iconst hE dX1_init_5 ?_
  refine y_put (ci := 1) hE rfl inlX1 tyX1_ok nmX1 0 (by decide) zf_X1_9 rfl (tyX1_ok 0 (by decide)) rfl rfl (Nat.le_of_ble_eq_true rfl) dX1_init_6 ?_
  show Y E [(h0, .inr (1, [.int (i32 0), .null, .null, .null]))] _ _ 9 _ _
  refine y_aload_n hE 0 rfl rfl dX1_init_9 ?_
  refine y_bipush (a := 12) hE (by decide) dX1_init_10 ?_
  refine y_newI hE 12 za_int (by decide) (by decide) (by decide) (by decide) dX1_init_12 (fun q12 => ?_)
  show Y E [(h0, .inr (1, [.int (i32 0), .null, .null, .null])), (q12, .inl (cI, 12, .inl (fun _ => 0)))] _ _ 14 _ _
  refine y_putF (ci := 1) hE hI rfl inlX1 tyX1_ok nmX1 1 (by decide) zf_X1_15 rfl rfl (tyX1_ok 1 (by decide)) rfl rfl (Nat.le_of_ble_eq_true rfl) dX1_init_14 ?_
  show Y E [(h0, .inr (1, [.int (i32 0), .ref q12, .null, .null])), (q12, .inl (cI, 12, .inl (fun _ => 0)))] _ _ 17 _ _
  refine y_aload_n hE 0 rfl rfl dX1_init_17 ?_
  refine y_bipush (a := 12) hE (by decide) dX1_init_18 ?_
  refine y_newI hE 12 za_int (by decide) (by decide) (by decide) (by decide) dX1_init_20 (fun q20 => ?_)
  show Y E [(h0, .inr (1, [.int (i32 0), .ref q12, .null, .null])), (q12, .inl (cI, 12, .inl (fun _ => 0))), (q20, .inl (cI, 12, .inl (fun _ => 0)))] _ _ 22 _ _
  refine y_putF (ci := 1) hE hI rfl inlX1 tyX1_ok nmX1 2 (by decide) zf_X1_19 rfl rfl (tyX1_ok 2 (by decide)) rfl rfl (Nat.le_of_ble_eq_true rfl) dX1_init_22 ?_
  show Y E [(h0, .inr (1, [.int (i32 0), .ref q12, .ref q20, .null])), (q12, .inl (cI, 12, .inl (fun _ => 0))), (q20, .inl (cI, 12, .inl (fun _ => 0)))] _ _ 25 _ _
  refine y_aload_n hE 0 rfl rfl dX1_init_25 ?_
  refine y_bipush (a := 12) hE (by decide) dX1_init_26 ?_
  refine y_newJ hE 12 za_long (by decide) (by decide) (by decide) (by decide) dX1_init_28 (fun q28 => ?_)
  show Y E [(h0, .inr (1, [.int (i32 0), .ref q12, .ref q20, .null])), (q12, .inl (cI, 12, .inl (fun _ => 0))), (q20, .inl (cI, 12, .inl (fun _ => 0))), (q28, .inl (cJ, 12, .inr (.inl (fun _ => 0))))] _ _ 30 _ _
  refine y_putF (ci := 1) hE hI rfl inlX1 tyX1_ok nmX1 3 (by decide) zf_X1_22 rfl rfl (tyX1_ok 3 (by decide)) rfl rfl (Nat.le_of_ble_eq_true rfl) dX1_init_30 ?_
  show Y E [(h0, .inr (1, [.int (i32 0), .ref q12, .ref q20, .ref q28])), (q12, .inl (cI, 12, .inl (fun _ => 0))), (q20, .inl (cI, 12, .inl (fun _ => 0))), (q28, .inl (cJ, 12, .inr (.inl (fun _ => 0))))] _ _ 33 _ _
  exact y_ret hE hR dX1_init_33 (⟨q12, q20, q28, rfl⟩)
theorem dX5_init_0 : decode cX5_init 0 = .ok (.aload_n 0, 1) := by decide +kernel
theorem dX5_init_1 : decode cX5_init 1 = .ok (.invokespecial 3, 3) := by decide +kernel
theorem dX5_init_4 : decode cX5_init 4 = .ok (.aload_n 0, 1) := by decide +kernel
theorem dX5_init_5 : decode cX5_init 5 = .ok (.sipush 1000, 3) := by decide +kernel
theorem dX5_init_8 : decode cX5_init 8 = .ok (.putfield 9, 3) := by decide +kernel
theorem dX5_init_11 : decode cX5_init 11 = .ok (.aload_n 0, 1) := by decide +kernel
theorem dX5_init_12 : decode cX5_init 12 = .ok (.bipush 50, 2) := by decide +kernel
theorem dX5_init_14 : decode cX5_init 14 = .ok (.putfield 15, 3) := by decide +kernel
theorem dX5_init_17 : decode cX5_init 17 = .ok (.aload_n 0, 1) := by decide +kernel
theorem dX5_init_18 : decode cX5_init 18 = .ok (.bipush 100, 2) := by decide +kernel
theorem dX5_init_20 : decode cX5_init 20 = .ok (.putfield 18, 3) := by decide +kernel
theorem dX5_init_23 : decode cX5_init 23 = .ok (.aload_n 0, 1) := by decide +kernel
theorem dX5_init_24 : decode cX5_init 24 = .ok (.bipush 25, 2) := by decide +kernel
theorem dX5_init_26 : decode cX5_init 26 = .ok (.putfield 21, 3) := by decide +kernel
theorem dX5_init_29 : decode cX5_init 29 = .ok (.aload_n 0, 1) := by decide +kernel
theorem dX5_init_30 : decode cX5_init 30 = .ok (.iconst 3, 1) := by decide +kernel
theorem dX5_init_31 : decode cX5_init 31 = .ok (.putfield 24, 3) := by decide +kernel
theorem dX5_init_34 : decode cX5_init 34 = .ok (.aload_n 0, 1) := by decide +kernel
theorem dX5_init_35 : decode cX5_init 35 = .ok (.iconst 0, 1) := by decide +kernel
theorem dX5_init_36 : decode cX5_init 36 = .ok (.putfield 27, 3) := by decide +kernel
theorem dX5_init_39 : decode cX5_init 39 = .ok (.aload_n 0, 1) := by decide +kernel
theorem dX5_init_40 : decode cX5_init 40 = .ok (.bipush 50, 2) := by decide +kernel
theorem dX5_init_42 : decode cX5_init 42 = .ok (.putfield 30, 3) := by decide +kernel
theorem dX5_init_45 : decode cX5_init 45 = .ok (.return_, 1) := by decide +kernel
theorem hy_X5_init : yX5_init.cls ≠ "java/lang/invoke/MethodHandle" ∧ yX5_init.cls ≠ "java/lang/invoke/VarHandle" ∧ (parseMethodDescriptor yX5_init.desc).map (fun d => d.parameters.length) = some 0 := ⟨by decide +kernel, by decide +kernel, by decide +kernel⟩
set_option maxHeartbeats 4000000 in
set_option maxRecDepth 100000 in
theorem c_X5_init (l0 : Launch) (D0 : va_G) (cI cJ : ClassId) (h0 : Nat) : Kt l0 D0 cI cJ yX5_init cX5_init 1 0 0 12 h0 (5, [.int 0, .int 0, .int 0, .int 0, .int 0, .int 0, .int 0]) (fun w => w = [(h0, .inr (5, [.int (i32 1000), .int (i32 50), .int (i32 100), .int (i32 25), .int (i32 3), .int (i32 0), .int (i32 50)]))]) := by
  refine Kt.of (by decide) rfl (fun E hE hI hR => ?_)
  show Y E [(h0, .inr (5, [.int 0, .int 0, .int 0, .int 0, .int 0, .int 0, .int 0]))] 0 0 0 [(0, .ref h0)] []
  refine y_aload_n hE 0 rfl rfl dX5_init_0 ?_
  refine y_obj hE zm_X5_3 zi_objectInit zc_objectInit (by decide) (by decide) dX5_init_1 ?_
  refine y_aload_n hE 0 rfl rfl dX5_init_4 ?_
  refine y_sipush (a := 1000) hE (by decide) dX5_init_5 ?_
  refine y_put (ci := 5) hE rfl inlX5 tyX5_ok nmX5 0 (by decide) zf_X5_9 rfl (tyX5_ok 0 (by decide)) rfl rfl (Nat.le_of_ble_eq_true rfl) dX5_init_8 ?_
  show Y E [(h0, .inr (5, [.int (i32 1000), .int 0, .int 0, .int 0, .int 0, .int 0, .int 0]))] _ _ 11 _ _
  refine y_aload_n hE 0 rfl rfl dX5_init_11 ?_
  refine y_bipush (a := 50) hE (by decide) dX5_init_12 ?_
  refine y_put (ci := 5) hE rfl inlX5 tyX5_ok nmX5 1 (by decide) zf_X5_15 rfl (tyX5_ok 1 (by decide)) rfl rfl (Nat.le_of_ble_eq_true rfl) dX5_init_14 ?_
  show Y E [(h0, .inr (5, [.int (i32 1000), .int (i32 50), .int 0, .int 0, .int 0, .int 0, .int 0]))] _ _ 17 _ _
  refine y_aload_n hE 0 rfl rfl dX5_init_17 ?_
  refine y_bipush (a := 100) hE (by decide) dX5_init_18 ?_
  refine y_put (ci := 5) hE rfl inlX5 tyX5_ok nmX5 2 (by decide) zf_X5_18 rfl (tyX5_ok 2 (by decide)) rfl rfl (Nat.le_of_ble_eq_true rfl) dX5_init_20 ?_
  show Y E [(h0, .inr (5, [.int (i32 1000), .int (i32 50), .int (i32 100), .int 0, .int 0, .int 0, .int 0]))] _ _ 23 _ _
  refine y_aload_n hE 0 rfl rfl dX5_init_23 ?_
  refine y_bipush (a := 25) hE (by decide) dX5_init_24 ?_
  refine y_put (ci := 5) hE rfl inlX5 tyX5_ok nmX5 3 (by decide) zf_X5_21 rfl (tyX5_ok 3 (by decide)) rfl rfl (Nat.le_of_ble_eq_true rfl) dX5_init_26 ?_
  show Y E [(h0, .inr (5, [.int (i32 1000), .int (i32 50), .int (i32 100), .int (i32 25), .int 0, .int 0, .int 0]))] _ _ 29 _ _
  refine y_aload_n hE 0 rfl rfl dX5_init_29 ?_
  refine y_iconst hE dX5_init_30 ?_
  refine y_put (ci := 5) hE rfl inlX5 tyX5_ok nmX5 4 (by decide) zf_X5_24 rfl (tyX5_ok 4 (by decide)) rfl rfl (Nat.le_of_ble_eq_true rfl) dX5_init_31 ?_
  show Y E [(h0, .inr (5, [.int (i32 1000), .int (i32 50), .int (i32 100), .int (i32 25), .int (i32 3), .int 0, .int 0]))] _ _ 34 _ _
  refine y_aload_n hE 0 rfl rfl dX5_init_34 ?_
  refine y_iconst hE dX5_init_35 ?_
  refine y_put (ci := 5) hE rfl inlX5 tyX5_ok nmX5 5 (by decide) zf_X5_27 rfl (tyX5_ok 5 (by decide)) rfl rfl (Nat.le_of_ble_eq_true rfl) dX5_init_36 ?_
  show Y E [(h0, .inr (5, [.int (i32 1000), .int (i32 50), .int (i32 100), .int (i32 25), .int (i32 3), .int (i32 0), .int 0]))] _ _ 39 _ _
  refine y_aload_n hE 0 rfl rfl dX5_init_39 ?_
  refine y_bipush (a := 50) hE (by decide) dX5_init_40 ?_
  refine y_put (ci := 5) hE rfl inlX5 tyX5_ok nmX5 6 (by decide) zf_X5_30 rfl (tyX5_ok 6 (by decide)) rfl rfl (Nat.le_of_ble_eq_true rfl) dX5_init_42 ?_
  show Y E [(h0, .inr (5, [.int (i32 1000), .int (i32 50), .int (i32 100), .int (i32 25), .int (i32 3), .int (i32 0), .int (i32 50)]))] _ _ 45 _ _
  exact y_ret hE hR dX5_init_45 (rfl)
theorem dX0_init_0 : decode cX0_init 0 = .ok (.aload_n 0, 1) := by decide +kernel
theorem dX0_init_1 : decode cX0_init 1 = .ok (.invokespecial 3, 3) := by decide +kernel
theorem dX0_init_4 : decode cX0_init 4 = .ok (.aload_n 0, 1) := by decide +kernel
theorem dX0_init_5 : decode cX0_init 5 = .ok (.iconst 0, 1) := by decide +kernel
theorem dX0_init_6 : decode cX0_init 6 = .ok (.putfield 9, 3) := by decide +kernel
theorem dX0_init_9 : decode cX0_init 9 = .ok (.aload_n 0, 1) := by decide +kernel
theorem dX0_init_10 : decode cX0_init 10 = .ok (.iconst 0, 1) := by decide +kernel
theorem dX0_init_11 : decode cX0_init 11 = .ok (.putfield 15, 3) := by decide +kernel
theorem dX0_init_14 : decode cX0_init 14 = .ok (.aload_n 0, 1) := by decide +kernel
theorem dX0_init_15 : decode cX0_init 15 = .ok (.bipush 100, 2) := by decide +kernel
theorem dX0_init_17 : decode cX0_init 17 = .ok (.putfield 18, 3) := by decide +kernel
theorem dX0_init_20 : decode cX0_init 20 = .ok (.aload_n 0, 1) := by decide +kernel
theorem dX0_init_21 : decode cX0_init 21 = .ok (.iconst 0, 1) := by decide +kernel
theorem dX0_init_22 : decode cX0_init 22 = .ok (.putfield 21, 3) := by decide +kernel
theorem dX0_init_25 : decode cX0_init 25 = .ok (.aload_n 0, 1) := by decide +kernel
theorem dX0_init_26 : decode cX0_init 26 = .ok (.iconst 3, 1) := by decide +kernel
theorem dX0_init_27 : decode cX0_init 27 = .ok (.newarray .int, 2) := by decide +kernel
theorem dX0_init_29 : decode cX0_init 29 = .ok (.putfield 24, 3) := by decide +kernel
theorem dX0_init_32 : decode cX0_init 32 = .ok (.return_, 1) := by decide +kernel
theorem hy_X0_init : yX0_init.cls ≠ "java/lang/invoke/MethodHandle" ∧ yX0_init.cls ≠ "java/lang/invoke/VarHandle" ∧ (parseMethodDescriptor yX0_init.desc).map (fun d => d.parameters.length) = some 0 := ⟨by decide +kernel, by decide +kernel, by decide +kernel⟩
set_option maxHeartbeats 4000000 in
set_option maxRecDepth 100000 in
theorem c_X0_init (l0 : Launch) (D0 : va_G) (cI cJ : ClassId) (h0 : Nat) : Kt l0 D0 cI cJ yX0_init cX0_init 1 1 3 12 h0 (0, [.int 0, .int 0, .int 0, .int 0, .null]) (fun w => ∃ a : Nat, w = [(h0, .inr (0, [.int (i32 0), .int (i32 0), .int (i32 100), .int (i32 0), .ref a])), (a, .inl (cI, 3, .inl (fun _ => 0)))]) := by
  refine Kt.of (by decide) rfl (fun E hE hI hR => ?_)
  show Y E [(h0, .inr (0, [.int 0, .int 0, .int 0, .int 0, .null]))] 0 0 0 [(0, .ref h0)] []
  refine y_aload_n hE 0 rfl rfl dX0_init_0 ?_
  refine y_obj hE zm_X0_3 zi_objectInit zc_objectInit (by decide) (by decide) dX0_init_1 ?_
  refine y_aload_n hE 0 rfl rfl dX0_init_4 ?_
  refine y_iconst hE dX0_init_5 ?_
  refine y_put (ci := 0) hE rfl inlX0 tyX0_ok nmX0 0 (by decide) zf_X0_9 rfl (tyX0_ok 0 (by decide)) rfl rfl (Nat.le_of_ble_eq_true rfl) dX0_init_6 ?_
  show Y E [(h0, .inr (0, [.int (i32 0), .int 0, .int 0, .int 0, .null]))] _ _ 9 _ _
  refine y_aload_n hE 0 rfl rfl dX0_init_9 ?_
  refine y_iconst hE dX0_init_10 ?_
  refine y_put (ci := 0) hE rfl inlX0 tyX0_ok nmX0 1 (by decide) zf_X0_15 rfl (tyX0_ok 1 (by decide)) rfl rfl (Nat.le_of_ble_eq_true rfl) dX0_init_11 ?_
  show Y E [(h0, .inr (0, [.int (i32 0), .int (i32 0), .int 0, .int 0, .null]))] _ _ 14 _ _
  refine y_aload_n hE 0 rfl rfl dX0_init_14 ?_
  refine y_bipush (a := 100) hE (by decide) dX0_init_15 ?_
  refine y_put (ci := 0) hE rfl inlX0 tyX0_ok nmX0 2 (by decide) zf_X0_18 rfl (tyX0_ok 2 (by decide)) rfl rfl (Nat.le_of_ble_eq_true rfl) dX0_init_17 ?_
  show Y E [(h0, .inr (0, [.int (i32 0), .int (i32 0), .int (i32 100), .int 0, .null]))] _ _ 20 _ _
  refine y_aload_n hE 0 rfl rfl dX0_init_20 ?_
  refine y_iconst hE dX0_init_21 ?_
  refine y_put (ci := 0) hE rfl inlX0 tyX0_ok nmX0 3 (by decide) zf_X0_21 rfl (tyX0_ok 3 (by decide)) rfl rfl (Nat.le_of_ble_eq_true rfl) dX0_init_22 ?_
  show Y E [(h0, .inr (0, [.int (i32 0), .int (i32 0), .int (i32 100), .int (i32 0), .null]))] _ _ 25 _ _
  refine y_aload_n hE 0 rfl rfl dX0_init_25 ?_
  refine y_iconst hE dX0_init_26 ?_
  refine y_newI hE 3 za_int (by decide) (by decide) (by decide) (by decide) dX0_init_27 (fun q27 => ?_)
  show Y E [(h0, .inr (0, [.int (i32 0), .int (i32 0), .int (i32 100), .int (i32 0), .null])), (q27, .inl (cI, 3, .inl (fun _ => 0)))] _ _ 29 _ _
  refine y_putF (ci := 0) hE hI rfl inlX0 tyX0_ok nmX0 4 (by decide) zf_X0_24 rfl rfl (tyX0_ok 4 (by decide)) rfl rfl (Nat.le_of_ble_eq_true rfl) dX0_init_29 ?_
  show Y E [(h0, .inr (0, [.int (i32 0), .int (i32 0), .int (i32 100), .int (i32 0), .ref q27])), (q27, .inl (cI, 3, .inl (fun _ => 0)))] _ _ 32 _ _
  exact y_ret hE hR dX0_init_32 (⟨q27, rfl⟩)
theorem dX3_init_0 : decode cX3_init 0 = .ok (.aload_n 0, 1) := by decide +kernel
theorem dX3_init_1 : decode cX3_init 1 = .ok (.invokespecial 3, 3) := by decide +kernel
theorem dX3_init_4 : decode cX3_init 4 = .ok (.aload_n 0, 1) := by decide +kernel
theorem dX3_init_5 : decode cX3_init 5 = .ok (.iconst 0, 1) := by decide +kernel
theorem dX3_init_6 : decode cX3_init 6 = .ok (.putfield 9, 3) := by decide +kernel
theorem dX3_init_9 : decode cX3_init 9 = .ok (.aload_n 0, 1) := by decide +kernel
theorem dX3_init_10 : decode cX3_init 10 = .ok (.bipush 20, 2) := by decide +kernel
theorem dX3_init_12 : decode cX3_init 12 = .ok (.newarray .int, 2) := by decide +kernel
theorem dX3_init_14 : decode cX3_init 14 = .ok (.putfield 15, 3) := by decide +kernel
theorem dX3_init_17 : decode cX3_init 17 = .ok (.aload_n 0, 1) := by decide +kernel
theorem dX3_init_18 : decode cX3_init 18 = .ok (.bipush 20, 2) := by decide +kernel
theorem dX3_init_20 : decode cX3_init 20 = .ok (.newarray .int, 2) := by decide +kernel
theorem dX3_init_22 : decode cX3_init 22 = .ok (.putfield 19, 3) := by decide +kernel
theorem dX3_init_25 : decode cX3_init 25 = .ok (.aload_n 0, 1) := by decide +kernel
theorem dX3_init_26 : decode cX3_init 26 = .ok (.bipush 20, 2) := by decide +kernel
theorem dX3_init_28 : decode cX3_init 28 = .ok (.newarray .int, 2) := by decide +kernel
theorem dX3_init_30 : decode cX3_init 30 = .ok (.putfield 22, 3) := by decide +kernel
theorem dX3_init_33 : decode cX3_init 33 = .ok (.aload_n 0, 1) := by decide +kernel
theorem dX3_init_34 : decode cX3_init 34 = .ok (.bipush 20, 2) := by decide +kernel
theorem dX3_init_36 : decode cX3_init 36 = .ok (.newarray .int, 2) := by decide +kernel
theorem dX3_init_38 : decode cX3_init 38 = .ok (.putfield 25, 3) := by decide +kernel
theorem dX3_init_41 : decode cX3_init 41 = .ok (.aload_n 0, 1) := by decide +kernel
theorem dX3_init_42 : decode cX3_init 42 = .ok (.bipush 20, 2) := by decide +kernel
theorem dX3_init_44 : decode cX3_init 44 = .ok (.newarray .int, 2) := by decide +kernel
theorem dX3_init_46 : decode cX3_init 46 = .ok (.putfield 28, 3) := by decide +kernel
theorem dX3_init_49 : decode cX3_init 49 = .ok (.aload_n 0, 1) := by decide +kernel
theorem dX3_init_50 : decode cX3_init 50 = .ok (.bipush 20, 2) := by decide +kernel
theorem dX3_init_52 : decode cX3_init 52 = .ok (.newarray .int, 2) := by decide +kernel
theorem dX3_init_54 : decode cX3_init 54 = .ok (.putfield 31, 3) := by decide +kernel
theorem dX3_init_57 : decode cX3_init 57 = .ok (.aload_n 0, 1) := by decide +kernel
theorem dX3_init_58 : decode cX3_init 58 = .ok (.bipush 80, 2) := by decide +kernel
theorem dX3_init_60 : decode cX3_init 60 = .ok (.newarray .int, 2) := by decide +kernel
theorem dX3_init_62 : decode cX3_init 62 = .ok (.putfield 34, 3) := by decide +kernel
theorem dX3_init_65 : decode cX3_init 65 = .ok (.aload_n 0, 1) := by decide +kernel
theorem dX3_init_66 : decode cX3_init 66 = .ok (.sipush 240, 3) := by decide +kernel
theorem dX3_init_69 : decode cX3_init 69 = .ok (.newarray .int, 2) := by decide +kernel
theorem dX3_init_71 : decode cX3_init 71 = .ok (.putfield 37, 3) := by decide +kernel
theorem dX3_init_74 : decode cX3_init 74 = .ok (.return_, 1) := by decide +kernel
theorem hy_X3_init : yX3_init.cls ≠ "java/lang/invoke/MethodHandle" ∧ yX3_init.cls ≠ "java/lang/invoke/VarHandle" ∧ (parseMethodDescriptor yX3_init.desc).map (fun d => d.parameters.length) = some 0 := ⟨by decide +kernel, by decide +kernel, by decide +kernel⟩
set_option maxHeartbeats 4000000 in
set_option maxRecDepth 100000 in
theorem c_X3_init (l0 : Launch) (D0 : va_G) (cI cJ : ClassId) (h0 : Nat) : Kt l0 D0 cI cJ yX3_init cX3_init 1 8 440 12 h0 (3, [.int 0, .null, .null, .null, .null, .null, .null, .null, .null]) (fun w => ∃ a b c d e f g h : Nat, w = [(h0, .inr (3, [.int (i32 0), .ref a, .ref b, .ref c, .ref d, .ref e, .ref f, .ref g, .ref h])), (a, .inl (cI, 20, .inl (fun _ => 0))), (b, .inl (cI, 20, .inl (fun _ => 0))), (c, .inl (cI, 20, .inl (fun _ => 0))), (d, .inl (cI, 20, .inl (fun _ => 0))), (e, .inl (cI, 20, .inl (fun _ => 0))), (f, .inl (cI, 20, .inl (fun _ => 0))), (g, .inl (cI, 80, .inl (fun _ => 0))), (h, .inl (cI, 240, .inl (fun _ => 0)))]) := by
  refine Kt.of (by decide) rfl (fun E hE hI hR => ?_)
  show Y E [(h0, .inr (3, [.int 0, .null, .null, .null, .null, .null, .null, .null, .null]))] 0 0 0 [(0, .ref h0)] []
  refine y_aload_n hE 0 rfl rfl dX3_init_0 ?_
  refine y_obj hE zm_X3_3 zi_objectInit zc_objectInit (by decide) (by decide) dX3_init_1 ?_
  refine y_aload_n hE 0 rfl rfl dX3_init_4 ?_
  refine y_iconst hE dX3_init_5 ?_
  refine y_put (ci := 3) hE rfl inlX3 tyX3_ok nmX3 0 (by decide) zf_X3_9 rfl (tyX3_ok 0 (by decide)) rfl rfl (Nat.le_of_ble_eq_true rfl) dX3_init_6 ?_
  show Y E [(h0, .inr (3, [.int (i32 0), .null, .null, .null, .null, .null, .null, .null, .null]))] _ _ 9 _ _
  refine y_aload_n hE 0 rfl rfl dX3_init_9 ?_
  refine y_bipush (a := 20) hE (by decide) dX3_init_10 ?_
  refine y_newI hE 20 za_int (by decide) (by decide) (by decide) (by decide) dX3_init_12 (fun q12 => ?_)
  show Y E [(h0, .inr (3, [.int (i32 0), .null, .null, .null, .null, .null, .null, .null, .null])), (q12, .inl (cI, 20, .inl (fun _ => 0)))] _ _ 14 _ _
  refine y_putF (ci := 3) hE hI rfl inlX3 tyX3_ok nmX3 1 (by decide) zf_X3_15 rfl rfl (tyX3_ok 1 (by decide)) rfl rfl (Nat.le_of_ble_eq_true rfl) dX3_init_14 ?_
  show Y E [(h0, .inr (3, [.int (i32 0), .ref q12, .null, .null, .null, .null, .null, .null, .null])), (q12, .inl (cI, 20, .inl (fun _ => 0)))] _ _ 17 _ _
  refine y_aload_n hE 0 rfl rfl dX3_init_17 ?_
  refine y_bipush (a := 20) hE (by decide) dX3_init_18 ?_
  refine y_newI hE 20 za_int (by decide) (by decide) (by decide) (by decide) dX3_init_20 (fun q20 => ?_)
  show Y E [(h0, .inr (3, [.int (i32 0), .ref q12, .null, .null, .null, .null, .null, .null, .null])), (q12, .inl (cI, 20, .inl (fun _ => 0))), (q20, .inl (cI, 20, .inl (fun _ => 0)))] _ _ 22 _ _
  refine y_putF (ci := 3) hE hI rfl inlX3 tyX3_ok nmX3 2 (by decide) zf_X3_19 rfl rfl (tyX3_ok 2 (by decide)) rfl rfl (Nat.le_of_ble_eq_true rfl) dX3_init_22 ?_
  show Y E [(h0, .inr (3, [.int (i32 0), .ref q12, .ref q20, .null, .null, .null, .null, .null, .null])), (q12, .inl (cI, 20, .inl (fun _ => 0))), (q20, .inl (cI, 20, .inl (fun _ => 0)))] _ _ 25 _ _
  refine y_aload_n hE 0 rfl rfl dX3_init_25 ?_
  refine y_bipush (a := 20) hE (by decide) dX3_init_26 ?_
  refine y_newI hE 20 za_int (by decide) (by decide) (by decide) (by decide) dX3_init_28 (fun q28 => ?_)
  show Y E [(h0, .inr (3, [.int (i32 0), .ref q12, .ref q20, .null, .null, .null, .null, .null, .null])), (q12, .inl (cI, 20, .inl (fun _ => 0))), (q20, .inl (cI, 20, .inl (fun _ => 0))), (q28, .inl (cI, 20, .inl (fun _ => 0)))] _ _ 30 _ _
  refine y_putF (ci := 3) hE hI rfl inlX3 tyX3_ok nmX3 3 (by decide) zf_X3_22 rfl rfl (tyX3_ok 3 (by decide)) rfl rfl (Nat.le_of_ble_eq_true rfl) dX3_init_30 ?_
  show Y E [(h0, .inr (3, [.int (i32 0), .ref q12, .ref q20, .ref q28, .null, .null, .null, .null, .null])), (q12, .inl (cI, 20, .inl (fun _ => 0))), (q20, .inl (cI, 20, .inl (fun _ => 0))), (q28, .inl (cI, 20, .inl (fun _ => 0)))] _ _ 33 _ _
  refine y_aload_n hE 0 rfl rfl dX3_init_33 ?_
  refine y_bipush (a := 20) hE (by decide) dX3_init_34 ?_
  refine y_newI hE 20 za_int (by decide) (by decide) (by decide) (by decide) dX3_init_36 (fun q36 => ?_)
  show Y E [(h0, .inr (3, [.int (i32 0), .ref q12, .ref q20, .ref q28, .null, .null, .null, .null, .null])), (q12, .inl (cI, 20, .inl (fun _ => 0))), (q20, .inl (cI, 20, .inl (fun _ => 0))), (q28, .inl (cI, 20, .inl (fun _ => 0))), (q36, .inl (cI, 20, .inl (fun _ => 0)))] _ _ 38 _ _
  refine y_putF (ci := 3) hE hI rfl inlX3 tyX3_ok nmX3 4 (by decide) zf_X3_25 rfl rfl (tyX3_ok 4 (by decide)) rfl rfl (Nat.le_of_ble_eq_true rfl) dX3_init_38 ?_
  show Y E [(h0, .inr (3, [.int (i32 0), .ref q12, .ref q20, .ref q28, .ref q36, .null, .null, .null, .null])), (q12, .inl (cI, 20, .inl (fun _ => 0))), (q20, .inl (cI, 20, .inl (fun _ => 0))), (q28, .inl (cI, 20, .inl (fun _ => 0))), (q36, .inl (cI, 20, .inl (fun _ => 0)))] _ _ 41 _ _
  refine y_aload_n hE 0 rfl rfl dX3_init_41 ?_
  refine y_bipush (a := 20) hE (by decide) dX3_init_42 ?_
  refine y_newI hE 20 za_int (by decide) (by decide) (by decide) (by decide) dX3_init_44 (fun q44 => ?_)
  show Y E [(h0, .inr (3, [.int (i32 0), .ref q12, .ref q20, .ref q28, .ref q36, .null, .null, .null, .null])), (q12, .inl (cI, 20, .inl (fun _ => 0))), (q20, .inl (cI, 20, .inl (fun _ => 0))), (q28, .inl (cI, 20, .inl (fun _ => 0))), (q36, .inl (cI, 20, .inl (fun _ => 0))), (q44, .inl (cI, 20, .inl (fun _ => 0)))] _ _ 46 _ _
  refine y_putF (ci := 3) hE hI rfl inlX3 tyX3_ok nmX3 5 (by decide) zf_X3_28 rfl rfl (tyX3_ok 5 (by decide)) rfl rfl (Nat.le_of_ble_eq_true rfl) dX3_init_46 ?_
  show Y E [(h0, .inr (3, [.int (i32 0), .ref q12, .ref q20, .ref q28, .ref q36, .ref q44, .null, .null, .null])), (q12, .inl (cI, 20, .inl (fun _ => 0))), (q20, .inl (cI, 20, .inl (fun _ => 0))), (q28, .inl (cI, 20, .inl (fun _ => 0))), (q36, .inl (cI, 20, .inl (fun _ => 0))), (q44, .inl (cI, 20, .inl (fun _ => 0)))] _ _ 49 _ _
  refine y_aload_n hE 0 rfl rfl dX3_init_49 ?_
  refine y_bipush (a := 20) hE (by decide) dX3_init_50 ?_
  refine y_newI hE 20 za_int (by decide) (by decide) (by decide) (by decide) dX3_init_52 (fun q52 => ?_)
  show Y E [(h0, .inr (3, [.int (i32 0), .ref q12, .ref q20, .ref q28, .ref q36, .ref q44, .null, .null, .null])), (q12, .inl (cI, 20, .inl (fun _ => 0))), (q20, .inl (cI, 20, .inl (fun _ => 0))), (q28, .inl (cI, 20, .inl (fun _ => 0))), (q36, .inl (cI, 20, .inl (fun _ => 0))), (q44, .inl (cI, 20, .inl (fun _ => 0))), (q52, .inl (cI, 20, .inl (fun _ => 0)))] _ _ 54 _ _
  refine y_putF (ci := 3) hE hI rfl inlX3 tyX3_ok nmX3 6 (by decide) zf_X3_31 rfl rfl (tyX3_ok 6 (by decide)) rfl rfl (Nat.le_of_ble_eq_true rfl) dX3_init_54 ?_
  show Y E [(h0, .inr (3, [.int (i32 0), .ref q12, .ref q20, .ref q28, .ref q36, .ref q44, .ref q52, .null, .null])), (q12, .inl (cI, 20, .inl (fun _ => 0))), (q20, .inl (cI, 20, .inl (fun _ => 0))), (q28, .inl (cI, 20, .inl (fun _ => 0))), (q36, .inl (cI, 20, .inl (fun _ => 0))), (q44, .inl (cI, 20, .inl (fun _ => 0))), (q52, .inl (cI, 20, .inl (fun _ => 0)))] _ _ 57 _ _
  refine y_aload_n hE 0 rfl rfl dX3_init_57 ?_
  refine y_bipush (a := 80) hE (by decide) dX3_init_58 ?_
  refine y_newI hE 80 za_int (by decide) (by decide) (by decide) (by decide) dX3_init_60 (fun q60 => ?_)
  show Y E [(h0, .inr (3, [.int (i32 0), .ref q12, .ref q20, .ref q28, .ref q36, .ref q44, .ref q52, .null, .null])), (q12, .inl (cI, 20, .inl (fun _ => 0))), (q20, .inl (cI, 20, .inl (fun _ => 0))), (q28, .inl (cI, 20, .inl (fun _ => 0))), (q36, .inl (cI, 20, .inl (fun _ => 0))), (q44, .inl (cI, 20, .inl (fun _ => 0))), (q52, .inl (cI, 20, .inl (fun _ => 0))), (q60, .inl (cI, 80, .inl (fun _ => 0)))] _ _ 62 _ _
  refine y_putF (ci := 3) hE hI rfl inlX3 tyX3_ok nmX3 7 (by decide) zf_X3_34 rfl rfl (tyX3_ok 7 (by decide)) rfl rfl (Nat.le_of_ble_eq_true rfl) dX3_init_62 ?_
  show Y E [(h0, .inr (3, [.int (i32 0), .ref q12, .ref q20, .ref q28, .ref q36, .ref q44, .ref q52, .ref q60, .null])), (q12, .inl (cI, 20, .inl (fun _ => 0))), (q20, .inl (cI, 20, .inl (fun _ => 0))), (q28, .inl (cI, 20, .inl (fun _ => 0))), (q36, .inl (cI, 20, .inl (fun _ => 0))), (q44, .inl (cI, 20, .inl (fun _ => 0))), (q52, .inl (cI, 20, .inl (fun _ => 0))), (q60, .inl (cI, 80, .inl (fun _ => 0)))] _ _ 65 _ _
  refine y_aload_n hE 0 rfl rfl dX3_init_65 ?_
  refine y_sipush (a := 240) hE (by decide) dX3_init_66 ?_
  refine y_newI hE 240 za_int (by decide) (by decide) (by decide) (by decide) dX3_init_69 (fun q69 => ?_)
  show Y E [(h0, .inr (3, [.int (i32 0), .ref q12, .ref q20, .ref q28, .ref q36, .ref q44, .ref q52, .ref q60, .null])), (q12, .inl (cI, 20, .inl (fun _ => 0))), (q20, .inl (cI, 20, .inl (fun _ => 0))), (q28, .inl (cI, 20, .inl (fun _ => 0))), (q36, .inl (cI, 20, .inl (fun _ => 0))), (q44, .inl (cI, 20, .inl (fun _ => 0))), (q52, .inl (cI, 20, .inl (fun _ => 0))), (q60, .inl (cI, 80, .inl (fun _ => 0))), (q69, .inl (cI, 240, .inl (fun _ => 0)))] _ _ 71 _ _
  refine y_putF (ci := 3) hE hI rfl inlX3 tyX3_ok nmX3 8 (by decide) zf_X3_37 rfl rfl (tyX3_ok 8 (by decide)) rfl rfl (Nat.le_of_ble_eq_true rfl) dX3_init_71 ?_
  show Y E [(h0, .inr (3, [.int (i32 0), .ref q12, .ref q20, .ref q28, .ref q36, .ref q44, .ref q52, .ref q60, .ref q69])), (q12, .inl (cI, 20, .inl (fun _ => 0))), (q20, .inl (cI, 20, .inl (fun _ => 0))), (q28, .inl (cI, 20, .inl (fun _ => 0))), (q36, .inl (cI, 20, .inl (fun _ => 0))), (q44, .inl (cI, 20, .inl (fun _ => 0))), (q52, .inl (cI, 20, .inl (fun _ => 0))), (q60, .inl (cI, 80, .inl (fun _ => 0))), (q69, .inl (cI, 240, .inl (fun _ => 0)))] _ _ 74 _ _
  exact y_ret hE hR dX3_init_74 (⟨q12, q20, q28, q36, q44, q52, q60, q69, rfl⟩)
theorem dX2_init_0 : decode cX2_init 0 = .ok (.aload_n 0, 1) := by decide +kernel
theorem dX2_init_1 : decode cX2_init 1 = .ok (.invokespecial 3, 3) := by decide +kernel
theorem dX2_init_4 : decode cX2_init 4 = .ok (.aload_n 0, 1) := by decide +kernel
theorem dX2_init_5 : decode cX2_init 5 = .ok (.iconst 0, 1) := by decide +kernel
theorem dX2_init_6 : decode cX2_init 6 = .ok (.putfield 9, 3) := by decide +kernel
theorem dX2_init_9 : decode cX2_init 9 = .ok (.aload_n 0, 1) := by decide +kernel
theorem dX2_init_10 : decode cX2_init 10 = .ok (.bipush 10, 2) := by decide +kernel
theorem dX2_init_12 : decode cX2_init 12 = .ok (.newarray .int, 2) := by decide +kernel
theorem dX2_init_14 : decode cX2_init 14 = .ok (.putfield 15, 3) := by decide +kernel
theorem dX2_init_17 : decode cX2_init 17 = .ok (.aload_n 0, 1) := by decide +kernel
theorem dX2_init_18 : decode cX2_init 18 = .ok (.bipush 10, 2) := by decide +kernel
theorem dX2_init_20 : decode cX2_init 20 = .ok (.newarray .int, 2) := by decide +kernel
theorem dX2_init_22 : decode cX2_init 22 = .ok (.putfield 19, 3) := by decide +kernel
theorem dX2_init_25 : decode cX2_init 25 = .ok (.aload_n 0, 1) := by decide +kernel
theorem dX2_init_26 : decode cX2_init 26 = .ok (.bipush 10, 2) := by decide +kernel
theorem dX2_init_28 : decode cX2_init 28 = .ok (.newarray .int, 2) := by decide +kernel
theorem dX2_init_30 : decode cX2_init 30 = .ok (.putfield 22, 3) := by decide +kernel
theorem dX2_init_33 : decode cX2_init 33 = .ok (.aload_n 0, 1) := by decide +kernel
theorem dX2_init_34 : decode cX2_init 34 = .ok (.bipush 120, 2) := by decide +kernel
theorem dX2_init_36 : decode cX2_init 36 = .ok (.newarray .int, 2) := by decide +kernel
theorem dX2_init_38 : decode cX2_init 38 = .ok (.putfield 25, 3) := by decide +kernel
theorem dX2_init_41 : decode cX2_init 41 = .ok (.return_, 1) := by decide +kernel
theorem hy_X2_init : yX2_init.cls ≠ "java/lang/invoke/MethodHandle" ∧ yX2_init.cls ≠ "java/lang/invoke/VarHandle" ∧ (parseMethodDescriptor yX2_init.desc).map (fun d => d.parameters.length) = some 0 := ⟨by decide +kernel, by decide +kernel, by decide +kernel⟩
set_option maxHeartbeats 4000000 in
set_option maxRecDepth 100000 in
theorem c_X2_init (l0 : Launch) (D0 : va_G) (cI cJ : ClassId) (h0 : Nat) : Kt l0 D0 cI cJ yX2_init cX2_init 1 4 150 12 h0 (2, [.int 0, .null, .null, .null, .null]) (fun w => ∃ a b c d : Nat, w = [(h0, .inr (2, [.int (i32 0), .ref a, .ref b, .ref c, .ref d])), (a, .inl (cI, 10, .inl (fun _ => 0))), (b, .inl (cI, 10, .inl (fun _ => 0))), (c, .inl (cI, 10, .inl (fun _ => 0))), (d, .inl (cI, 120, .inl (fun _ => 0)))]) := by
  refine Kt.of (by decide) rfl (fun E hE hI hR => ?_)
  show Y E [(h0, .inr (2, [.int 0, .null, .null, .null, .null]))] 0 0 0 [(0, .ref h0)] []
  refine y_aload_n hE 0 rfl rfl dX2_init_0 ?_
  refine y_obj hE zm_X2_3 zi_objectInit zc_objectInit (by decide) (by decide) dX2_init_1 ?_
  refine y_aload_n hE 0 rfl rfl dX2_init_4 ?_
  refine y_iconst hE dX2_init_5 ?_
  refine y_put (ci := 2) hE rfl inlX2 tyX2_ok nmX2 0 (by decide) zf_X2_9 rfl (tyX2_ok 0 (by decide)) rfl rfl (Nat.le_of_ble_eq_true rfl) dX2_init_6 ?_
  show Y E [(h0, .inr (2, [.int (i32 0), .null, .null, .null, .null]))] _ _ 9 _ _
  refine y_aload_n hE 0 rfl rfl dX2_init_9 ?_
  refine y_bipush (a := 10) hE (by decide) dX2_init_10 ?_
  refine y_newI hE 10 za_int (by decide) (by decide) (by decide) (by decide) dX2_init_12 (fun q12 => ?_)
  show Y E [(h0, .inr (2, [.int (i32 0), .null, .null, .null, .null])), (q12, .inl (cI, 10, .inl (fun _ => 0)))] _ _ 14 _ _
  refine y_putF (ci := 2) hE hI rfl inlX2 tyX2_ok nmX2 1 (by decide) zf_X2_15 rfl rfl (tyX2_ok 1 (by decide)) rfl rfl (Nat.le_of_ble_eq_true rfl) dX2_init_14 ?_
  show Y E [(h0, .inr (2, [.int (i32 0), .ref q12, .null, .null, .null])), (q12, .inl (cI, 10, .inl (fun _ => 0)))] _ _ 17 _ _
  refine y_aload_n hE 0 rfl rfl dX2_init_17 ?_
  refine y_bipush (a := 10) hE (by decide) dX2_init_18 ?_
  refine y_newI hE 10 za_int (by decide) (by decide) (by decide) (by decide) dX2_init_20 (fun q20 => ?_)
  show Y E [(h0, .inr (2, [.int (i32 0), .ref q12, .null, .null, .null])), (q12, .inl (cI, 10, .inl (fun _ => 0))), (q20, .inl (cI, 10, .inl (fun _ => 0)))] _ _ 22 _ _
  refine y_putF (ci := 2) hE hI rfl inlX2 tyX2_ok nmX2 2 (by decide) zf_X2_19 rfl rfl (tyX2_ok 2 (by decide)) rfl rfl (Nat.le_of_ble_eq_true rfl) dX2_init_22 ?_
  show Y E [(h0, .inr (2, [.int (i32 0), .ref q12, .ref q20, .null, .null])), (q12, .inl (cI, 10, .inl (fun _ => 0))), (q20, .inl (cI, 10, .inl (fun _ => 0)))] _ _ 25 _ _
  refine y_aload_n hE 0 rfl rfl dX2_init_25 ?_
  refine y_bipush (a := 10) hE (by decide) dX2_init_26 ?_
  refine y_newI hE 10 za_int (by decide) (by decide) (by decide) (by decide) dX2_init_28 (fun q28 => ?_)
  show Y E [(h0, .inr (2, [.int (i32 0), .ref q12, .ref q20, .null, .null])), (q12, .inl (cI, 10, .inl (fun _ => 0))), (q20, .inl (cI, 10, .inl (fun _ => 0))), (q28, .inl (cI, 10, .inl (fun _ => 0)))] _ _ 30 _ _
  refine y_putF (ci := 2) hE hI rfl inlX2 tyX2_ok nmX2 3 (by decide) zf_X2_22 rfl rfl (tyX2_ok 3 (by decide)) rfl rfl (Nat.le_of_ble_eq_true rfl) dX2_init_30 ?_
  show Y E [(h0, .inr (2, [.int (i32 0), .ref q12, .ref q20, .ref q28, .null])), (q12, .inl (cI, 10, .inl (fun _ => 0))), (q20, .inl (cI, 10, .inl (fun _ => 0))), (q28, .inl (cI, 10, .inl (fun _ => 0)))] _ _ 33 _ _
  refine y_aload_n hE 0 rfl rfl dX2_init_33 ?_
  refine y_bipush (a := 120) hE (by decide) dX2_init_34 ?_
  refine y_newI hE 120 za_int (by decide) (by decide) (by decide) (by decide) dX2_init_36 (fun q36 => ?_)
  show Y E [(h0, .inr (2, [.int (i32 0), .ref q12, .ref q20, .ref q28, .null])), (q12, .inl (cI, 10, .inl (fun _ => 0))), (q20, .inl (cI, 10, .inl (fun _ => 0))), (q28, .inl (cI, 10, .inl (fun _ => 0))), (q36, .inl (cI, 120, .inl (fun _ => 0)))] _ _ 38 _ _
  refine y_putF (ci := 2) hE hI rfl inlX2 tyX2_ok nmX2 4 (by decide) zf_X2_25 rfl rfl (tyX2_ok 4 (by decide)) rfl rfl (Nat.le_of_ble_eq_true rfl) dX2_init_38 ?_
  show Y E [(h0, .inr (2, [.int (i32 0), .ref q12, .ref q20, .ref q28, .ref q36])), (q12, .inl (cI, 10, .inl (fun _ => 0))), (q20, .inl (cI, 10, .inl (fun _ => 0))), (q28, .inl (cI, 10, .inl (fun _ => 0))), (q36, .inl (cI, 120, .inl (fun _ => 0)))] _ _ 41 _ _
  exact y_ret hE hR dX2_init_41 (⟨q12, q20, q28, q36, rfl⟩)
theorem dX6_init_0 : decode cX6_init 0 = .ok (.aload_n 0, 1) := by decide +kernel
theorem dX6_init_1 : decode cX6_init 1 = .ok (.invokespecial 3, 3) := by decide +kernel
theorem dX6_init_4 : decode cX6_init 4 = .ok (.aload_n 0, 1) := by decide +kernel
theorem dX6_init_5 : decode cX6_init 5 = .ok (.bipush 12, 2) := by decide +kernel
theorem dX6_init_7 : decode cX6_init 7 = .ok (.newarray .int, 2) := by decide +kernel
theorem dX6_init_9 : decode cX6_init 9 = .ok (.putfield 9, 3) := by decide +kernel
theorem dX6_init_12 : decode cX6_init 12 = .ok (.aload_n 0, 1) := by decide +kernel
theorem dX6_init_13 : decode cX6_init 13 = .ok (.bipush 12, 2) := by decide +kernel
theorem dX6_init_15 : decode cX6_init 15 = .ok (.newarray .int, 2) := by decide +kernel
theorem dX6_init_17 : decode cX6_init 17 = .ok (.putfield 15, 3) := by decide +kernel
theorem dX6_init_20 : decode cX6_init 20 = .ok (.aload_n 0, 1) := by decide +kernel
theorem dX6_init_21 : decode cX6_init 21 = .ok (.bipush 12, 2) := by decide +kernel
theorem dX6_init_23 : decode cX6_init 23 = .ok (.newarray .int, 2) := by decide +kernel
theorem dX6_init_25 : decode cX6_init 25 = .ok (.putfield 18, 3) := by decide +kernel
theorem dX6_init_28 : decode cX6_init 28 = .ok (.return_, 1) := by decide +kernel
theorem hy_X6_init : yX6_init.cls ≠ "java/lang/invoke/MethodHandle" ∧ yX6_init.cls ≠ "java/lang/invoke/VarHandle" ∧ (parseMethodDescriptor yX6_init.desc).map (fun d => d.parameters.length) = some 0 := ⟨by decide +kernel, by decide +kernel, by decide +kernel⟩
set_option maxHeartbeats 4000000 in
set_option maxRecDepth 100000 in
theorem c_X6_init (l0 : Launch) (D0 : va_G) (cI cJ : ClassId) (h0 : Nat) : Kt l0 D0 cI cJ yX6_init cX6_init 1 3 36 12 h0 (6, [.null, .null, .null]) (fun w => ∃ a b c : Nat, w = [(h0, .inr (6, [.ref a, .ref b, .ref c])), (a, .inl (cI, 12, .inl (fun _ => 0))), (b, .inl (cI, 12, .inl (fun _ => 0))), (c, .inl (cI, 12, .inl (fun _ => 0)))]) := by
  refine Kt.of (by decide) rfl (fun E hE hI hR => ?_)
  show Y E [(h0, .inr (6, [.null, .null, .null]))] 0 0 0 [(0, .ref h0)] []
  refine y_aload_n hE 0 rfl rfl dX6_init_0 ?_
  refine y_obj hE zm_X6_3 zi_objectInit zc_objectInit (by decide) (by decide) dX6_init_1 ?_
  refine y_aload_n hE 0 rfl rfl dX6_init_4 ?_
  refine y_bipush (a := 12) hE (by decide) dX6_init_5 ?_
  refine y_newI hE 12 za_int (by decide) (by decide) (by decide) (by decide) dX6_init_7 (fun q7 => ?_)
  show Y E [(h0, .inr (6, [.null, .null, .null])), (q7, .inl (cI, 12, .inl (fun _ => 0)))] _ _ 9 _ _
  refine y_putF (ci := 6) hE hI rfl inlX6 tyX6_ok nmX6 0 (by decide) zf_X6_9 rfl rfl (tyX6_ok 0 (by decide)) rfl rfl (Nat.le_of_ble_eq_true rfl) dX6_init_9 ?_
  show Y E [(h0, .inr (6, [.ref q7, .null, .null])), (q7, .inl (cI, 12, .inl (fun _ => 0)))] _ _ 12 _ _
  refine y_aload_n hE 0 rfl rfl dX6_init_12 ?_
  refine y_bipush (a := 12) hE (by decide) dX6_init_13 ?_
  refine y_newI hE 12 za_int (by decide) (by decide) (by decide) (by decide) dX6_init_15 (fun q15 => ?_)
  show Y E [(h0, .inr (6, [.ref q7, .null, .null])), (q7, .inl (cI, 12, .inl (fun _ => 0))), (q15, .inl (cI, 12, .inl (fun _ => 0)))] _ _ 17 _ _
  refine y_putF (ci := 6) hE hI rfl inlX6 tyX6_ok nmX6 1 (by decide) zf_X6_15 rfl rfl (tyX6_ok 1 (by decide)) rfl rfl (Nat.le_of_ble_eq_true rfl) dX6_init_17 ?_
  show Y E [(h0, .inr (6, [.ref q7, .ref q15, .null])), (q7, .inl (cI, 12, .inl (fun _ => 0))), (q15, .inl (cI, 12, .inl (fun _ => 0)))] _ _ 20 _ _
  refine y_aload_n hE 0 rfl rfl dX6_init_20 ?_
  refine y_bipush (a := 12) hE (by decide) dX6_init_21 ?_
  refine y_newI hE 12 za_int (by decide) (by decide) (by decide) (by decide) dX6_init_23 (fun q23 => ?_)
  show Y E [(h0, .inr (6, [.ref q7, .ref q15, .null])), (q7, .inl (cI, 12, .inl (fun _ => 0))), (q15, .inl (cI, 12, .inl (fun _ => 0))), (q23, .inl (cI, 12, .inl (fun _ => 0)))] _ _ 25 _ _
  refine y_putF (ci := 6) hE hI rfl inlX6 tyX6_ok nmX6 2 (by decide) zf_X6_18 rfl rfl (tyX6_ok 2 (by decide)) rfl rfl (Nat.le_of_ble_eq_true rfl) dX6_init_25 ?_
  show Y E [(h0, .inr (6, [.ref q7, .ref q15, .ref q23])), (q7, .inl (cI, 12, .inl (fun _ => 0))), (q15, .inl (cI, 12, .inl (fun _ => 0))), (q23, .inl (cI, 12, .inl (fun _ => 0)))] _ _ 28 _ _
  exact y_ret hE hR dX6_init_28 (⟨q7, q15, q23, rfl⟩)
def rgw (cI cJ : ClassId) (q : Nat → Nat) : va_W := [(q 0, .inr (4, [.ref (q 1), .ref (q 5), .ref (q 6), .ref (q 8), .ref (q 17), .int (i32 0), .int (i32 0)])), ((q 1), .inr (1, [.int (i32 0), .ref (q 2), .ref (q 3), .ref (q 4)])), ((q 2), .inl (cI, 12, .inl (fun _ => 0))), ((q 3), .inl (cI, 12, .inl (fun _ => 0))), ((q 4), .inl (cJ, 12, .inr (.inl (fun _ => 0)))), ((q 5), .inr (5, [.int (i32 1000), .int (i32 50), .int (i32 100), .int (i32 25), .int (i32 3), .int (i32 0), .int (i32 50)])), ((q 6), .inr (0, [.int (i32 0), .int (i32 0), .int (i32 100), .int (i32 0), .ref (q 7)])), ((q 7), .inl (cI, 3, .inl (fun _ => 0))), ((q 8), .inr (3, [.int (i32 0), .ref (q 9), .ref (q 10), .ref (q 11), .ref (q 12), .ref (q 13), .ref (q 14), .ref (q 15), .ref (q 16)])), ((q 9), .inl (cI, 20, .inl (fun _ => 0))), ((q 10), .inl (cI, 20, .inl (fun _ => 0))), ((q 11), .inl (cI, 20, .inl (fun _ => 0))), ((q 12), .inl (cI, 20, .inl (fun _ => 0))), ((q 13), .inl (cI, 20, .inl (fun _ => 0))), ((q 14), .inl (cI, 20, .inl (fun _ => 0))), ((q 15), .inl (cI, 80, .inl (fun _ => 0))), ((q 16), .inl (cI, 240, .inl (fun _ => 0))), ((q 17), .inr (2, [.int (i32 0), .ref (q 18), .ref (q 19), .ref (q 20), .ref (q 21)])), ((q 18), .inl (cI, 10, .inl (fun _ => 0))), ((q 19), .inl (cI, 10, .inl (fun _ => 0))), ((q 20), .inl (cI, 10, .inl (fun _ => 0))), ((q 21), .inl (cI, 120, .inl (fun _ => 0)))]
theorem dX4_init_0 : decode cX4_init 0 = .ok (.aload_n 0, 1) := by decide +kernel
theorem dX4_init_1 : decode cX4_init 1 = .ok (.invokespecial 3, 3) := by decide +kernel
theorem dX4_init_4 : decode cX4_init 4 = .ok (.aload_n 0, 1) := by decide +kernel
theorem dX4_init_5 : decode cX4_init 5 = .ok (.new 9, 3) := by decide +kernel
theorem dX4_init_8 : decode cX4_init 8 = .ok (.dup, 1) := by decide +kernel
theorem dX4_init_9 : decode cX4_init 9 = .ok (.invokespecial 11, 3) := by decide +kernel
theorem dX4_init_12 : decode cX4_init 12 = .ok (.putfield 12, 3) := by decide +kernel
theorem dX4_init_15 : decode cX4_init 15 = .ok (.aload_n 0, 1) := by decide +kernel
theorem dX4_init_16 : decode cX4_init 16 = .ok (.new 18, 3) := by decide +kernel
theorem dX4_init_19 : decode cX4_init 19 = .ok (.dup, 1) := by decide +kernel
theorem dX4_init_20 : decode cX4_init 20 = .ok (.invokespecial 20, 3) := by decide +kernel
theorem dX4_init_23 : decode cX4_init 23 = .ok (.putfield 21, 3) := by decide +kernel
theorem dX4_init_26 : decode cX4_init 26 = .ok (.aload_n 0, 1) := by decide +kernel
theorem dX4_init_27 : decode cX4_init 27 = .ok (.new 25, 3) := by decide +kernel
theorem dX4_init_30 : decode cX4_init 30 = .ok (.dup, 1) := by decide +kernel
theorem dX4_init_31 : decode cX4_init 31 = .ok (.invokespecial 27, 3) := by decide +kernel
theorem dX4_init_34 : decode cX4_init 34 = .ok (.putfield 28, 3) := by decide +kernel
theorem dX4_init_37 : decode cX4_init 37 = .ok (.aload_n 0, 1) := by decide +kernel
theorem dX4_init_38 : decode cX4_init 38 = .ok (.new 32, 3) := by decide +kernel
theorem dX4_init_41 : decode cX4_init 41 = .ok (.dup, 1) := by decide +kernel
theorem dX4_init_42 : decode cX4_init 42 = .ok (.invokespecial 34, 3) := by decide +kernel
theorem dX4_init_45 : decode cX4_init 45 = .ok (.putfield 35, 3) := by decide +kernel
theorem dX4_init_48 : decode cX4_init 48 = .ok (.aload_n 0, 1) := by decide +kernel
theorem dX4_init_49 : decode cX4_init 49 = .ok (.new 39, 3) := by decide +kernel
theorem dX4_init_52 : decode cX4_init 52 = .ok (.dup, 1) := by decide +kernel
theorem dX4_init_53 : decode cX4_init 53 = .ok (.invokespecial 41, 3) := by decide +kernel
theorem dX4_init_56 : decode cX4_init 56 = .ok (.putfield 42, 3) := by decide +kernel
theorem dX4_init_59 : decode cX4_init 59 = .ok (.aload_n 0, 1) := by decide +kernel
theorem dX4_init_60 : decode cX4_init 60 = .ok (.iconst 0, 1) := by decide +kernel
theorem dX4_init_61 : decode cX4_init 61 = .ok (.putfield 46, 3) := by decide +kernel
theorem dX4_init_64 : decode cX4_init 64 = .ok (.aload_n 0, 1) := by decide +kernel
theorem dX4_init_65 : decode cX4_init 65 = .ok (.iconst 0, 1) := by decide +kernel
theorem dX4_init_66 : decode cX4_init 66 = .ok (.putfield 50, 3) := by decide +kernel
theorem dX4_init_69 : decode cX4_init 69 = .ok (.return_, 1) := by decide +kernel
theorem hy_X4_init : yX4_init.cls ≠ "java/lang/invoke/MethodHandle" ∧ yX4_init.cls ≠ "java/lang/invoke/VarHandle" ∧ (parseMethodDescriptor yX4_init.desc).map (fun d => d.parameters.length) = some 0 := ⟨by decide +kernel, by decide +kernel, by decide +kernel⟩
set_option maxHeartbeats 4000000 in
set_option maxRecDepth 100000 in
theorem c_X4_init (l0 : Launch) (D0 : va_G) (cI cJ : ClassId) (h0 : Nat) : Kt l0 D0 cI cJ yX4_init cX4_init 2 21 659 32 h0 (4, [.null, .null, .null, .null, .null, .int 0, .int 0]) (fun w => ∃ q : Nat → Nat, q 0 = h0 ∧ w = rgw cI cJ q) := by
  refine Kt.of (by decide) rfl (fun E hE hI hR => ?_)
  show Y E [(h0, .inr (4, [.null, .null, .null, .null, .null, .int 0, .int 0]))] 0 0 0 [(0, .ref h0)] []
  refine y_aload_n hE 0 rfl rfl dX4_init_0 ?_
  refine y_obj hE zm_X4_3 zi_objectInit zc_objectInit (by decide) (by decide) dX4_init_1 ?_
  refine y_aload_n hE 0 rfl rfl dX4_init_4 ?_
  refine y_new (ci := 1) (fs := [.int 0, .null, .null, .null]) hE rfl inlX1 tyX1_ok zy_X4_9 zb_RX1 zn_RX1 (fun j hj => by rcases (show j = 0 ∨ j = 1 ∨ j = 2 ∨ j = 3 by omega) with rfl | rfl | rfl | rfl <;> rfl) (by decide) (by decide) dX4_init_5 (fun q5 => ?_)
  refine y_dup hE rfl dX4_init_8 ?_
  refine y_callN hE (c_X1_init l0 D0 cI cJ q5) (List.mem_of_getElem? (i := 1) rfl) zi_yX1_init zn_RX1 zc_yX1_init rfl hy_X1_init (by decide) (by decide) (by decide) (by decide) (Nat.le_of_ble_eq_true rfl) dX4_init_9 (fun w9 hw9 => ?_)
  obtain ⟨a9, b9, c9, rfl⟩ := hw9
  show Y E ((h0, .inr (4, [.null, .null, .null, .null, .null, .int 0, .int 0])) :: [(q5, .inr (1, [.int (i32 0), .ref a9, .ref b9, .ref c9])), (a9, .inl (cI, 12, .inl (fun _ => 0))), (b9, .inl (cI, 12, .inl (fun _ => 0))), (c9, .inl (cJ, 12, .inr (.inl (fun _ => 0))))]) _ _ 12 _ _
  refine y_putF (ci := 4) hE hI rfl inlX4 tyX4_ok nmX4 0 (by decide) zf_X4_12 rfl rfl (tyX4_ok 0 (by decide)) rfl rfl (Nat.le_of_ble_eq_true rfl) dX4_init_12 ?_
  show Y E [(h0, .inr (4, [.ref q5, .null, .null, .null, .null, .int 0, .int 0])), (q5, .inr (1, [.int (i32 0), .ref a9, .ref b9, .ref c9])), (a9, .inl (cI, 12, .inl (fun _ => 0))), (b9, .inl (cI, 12, .inl (fun _ => 0))), (c9, .inl (cJ, 12, .inr (.inl (fun _ => 0))))] _ _ 15 _ _
  refine y_aload_n hE 0 rfl rfl dX4_init_15 ?_
  refine y_new (ci := 5) (fs := [.int 0, .int 0, .int 0, .int 0, .int 0, .int 0, .int 0]) hE rfl inlX5 tyX5_ok zy_X4_18 zb_RX5 zn_RX5 (fun j hj => by rcases (show j = 0 ∨ j = 1 ∨ j = 2 ∨ j = 3 ∨ j = 4 ∨ j = 5 ∨ j = 6 by omega) with rfl | rfl | rfl | rfl | rfl | rfl | rfl <;> rfl) (by decide) (by decide) dX4_init_16 (fun q16 => ?_)
  refine y_dup hE rfl dX4_init_19 ?_
  refine y_callN hE (c_X5_init l0 D0 cI cJ q16) (List.mem_of_getElem? (i := 2) rfl) zi_yX5_init zn_RX5 zc_yX5_init rfl hy_X5_init (by decide) (by decide) (by decide) (by decide) (Nat.le_of_ble_eq_true rfl) dX4_init_20 (fun w20 hw20 => ?_)
  subst hw20
  show Y E ((h0, .inr (4, [.ref q5, .null, .null, .null, .null, .int 0, .int 0])) :: ([(q5, .inr (1, [.int (i32 0), .ref a9, .ref b9, .ref c9])), (a9, .inl (cI, 12, .inl (fun _ => 0))), (b9, .inl (cI, 12, .inl (fun _ => 0))), (c9, .inl (cJ, 12, .inr (.inl (fun _ => 0))))] ++ [(q16, .inr (5, [.int (i32 1000), .int (i32 50), .int (i32 100), .int (i32 25), .int (i32 3), .int (i32 0), .int (i32 50)]))])) _ _ 23 _ _
  refine y_putF (ci := 4) hE hI rfl inlX4 tyX4_ok nmX4 1 (by decide) zf_X4_21 rfl rfl (tyX4_ok 1 (by decide)) rfl rfl (Nat.le_of_ble_eq_true rfl) dX4_init_23 ?_
  show Y E [(h0, .inr (4, [.ref q5, .ref q16, .null, .null, .null, .int 0, .int 0])), (q5, .inr (1, [.int (i32 0), .ref a9, .ref b9, .ref c9])), (a9, .inl (cI, 12, .inl (fun _ => 0))), (b9, .inl (cI, 12, .inl (fun _ => 0))), (c9, .inl (cJ, 12, .inr (.inl (fun _ => 0)))), (q16, .inr (5, [.int (i32 1000), .int (i32 50), .int (i32 100), .int (i32 25), .int (i32 3), .int (i32 0), .int (i32 50)]))] _ _ 26 _ _
  refine y_aload_n hE 0 rfl rfl dX4_init_26 ?_
  refine y_new (ci := 0) (fs := [.int 0, .int 0, .int 0, .int 0, .null]) hE rfl inlX0 tyX0_ok zy_X4_25 zb_RX0 zn_RX0 (fun j hj => by rcases (show j = 0 ∨ j = 1 ∨ j = 2 ∨ j = 3 ∨ j = 4 by omega) with rfl | rfl | rfl | rfl | rfl <;> rfl) (by decide) (by decide) dX4_init_27 (fun q27 => ?_)
  refine y_dup hE rfl dX4_init_30 ?_
  refine y_callN hE (c_X0_init l0 D0 cI cJ q27) (List.mem_of_getElem? (i := 3) rfl) zi_yX0_init zn_RX0 zc_yX0_init rfl hy_X0_init (by decide) (by decide) (by decide) (by decide) (Nat.le_of_ble_eq_true rfl) dX4_init_31 (fun w31 hw31 => ?_)
  obtain ⟨a31, rfl⟩ := hw31
  show Y E ((h0, .inr (4, [.ref q5, .ref q16, .null, .null, .null, .int 0, .int 0])) :: (([(q5, .inr (1, [.int (i32 0), .ref a9, .ref b9, .ref c9])), (a9, .inl (cI, 12, .inl (fun _ => 0))), (b9, .inl (cI, 12, .inl (fun _ => 0))), (c9, .inl (cJ, 12, .inr (.inl (fun _ => 0))))] ++ [(q16, .inr (5, [.int (i32 1000), .int (i32 50), .int (i32 100), .int (i32 25), .int (i32 3), .int (i32 0), .int (i32 50)]))]) ++ [(q27, .inr (0, [.int (i32 0), .int (i32 0), .int (i32 100), .int (i32 0), .ref a31])), (a31, .inl (cI, 3, .inl (fun _ => 0)))])) _ _ 34 _ _
  refine y_putF (ci := 4) hE hI rfl inlX4 tyX4_ok nmX4 2 (by decide) zf_X4_28 rfl rfl (tyX4_ok 2 (by decide)) rfl rfl (Nat.le_of_ble_eq_true rfl) dX4_init_34 ?_
  show Y E [(h0, .inr (4, [.ref q5, .ref q16, .ref q27, .null, .null, .int 0, .int 0])), (q5, .inr (1, [.int (i32 0), .ref a9, .ref b9, .ref c9])), (a9, .inl (cI, 12, .inl (fun _ => 0))), (b9, .inl (cI, 12, .inl (fun _ => 0))), (c9, .inl (cJ, 12, .inr (.inl (fun _ => 0)))), (q16, .inr (5, [.int (i32 1000), .int (i32 50), .int (i32 100), .int (i32 25), .int (i32 3), .int (i32 0), .int (i32 50)])), (q27, .inr (0, [.int (i32 0), .int (i32 0), .int (i32 100), .int (i32 0), .ref a31])), (a31, .inl (cI, 3, .inl (fun _ => 0)))] _ _ 37 _ _
  refine y_aload_n hE 0 rfl rfl dX4_init_37 ?_
  refine y_new (ci := 3) (fs := [.int 0, .null, .null, .null, .null, .null, .null, .null, .null]) hE rfl inlX3 tyX3_ok zy_X4_32 zb_RX3 zn_RX3 (fun j hj => by rcases (show j = 0 ∨ j = 1 ∨ j = 2 ∨ j = 3 ∨ j = 4 ∨ j = 5 ∨ j = 6 ∨ j = 7 ∨ j = 8 by omega) with rfl | rfl | rfl | rfl | rfl | rfl | rfl | rfl | rfl <;> rfl) (by decide) (by decide) dX4_init_38 (fun q38 => ?_)
  refine y_dup hE rfl dX4_init_41 ?_
  refine y_callN hE (c_X3_init l0 D0 cI cJ q38) (List.mem_of_getElem? (i := 4) rfl) zi_yX3_init zn_RX3 zc_yX3_init rfl hy_X3_init (by decide) (by decide) (by decide) (by decide) (Nat.le_of_ble_eq_true rfl) dX4_init_42 (fun w42 hw42 => ?_)
  obtain ⟨a42, b42, c42, d42, e42, f42, g42, h42, rfl⟩ := hw42
  show Y E ((h0, .inr (4, [.ref q5, .ref q16, .ref q27, .null, .null, .int 0, .int 0])) :: ((([(q5, .inr (1, [.int (i32 0), .ref a9, .ref b9, .ref c9])), (a9, .inl (cI, 12, .inl (fun _ => 0))), (b9, .inl (cI, 12, .inl (fun _ => 0))), (c9, .inl (cJ, 12, .inr (.inl (fun _ => 0))))] ++ [(q16, .inr (5, [.int (i32 1000), .int (i32 50), .int (i32 100), .int (i32 25), .int (i32 3), .int (i32 0), .int (i32 50)]))]) ++ [(q27, .inr (0, [.int (i32 0), .int (i32 0), .int (i32 100), .int (i32 0), .ref a31])), (a31, .inl (cI, 3, .inl (fun _ => 0)))]) ++ [(q38, .inr (3, [.int (i32 0), .ref a42, .ref b42, .ref c42, .ref d42, .ref e42, .ref f42, .ref g42, .ref h42])), (a42, .inl (cI, 20, .inl (fun _ => 0))), (b42, .inl (cI, 20, .inl (fun _ => 0))), (c42, .inl (cI, 20, .inl (fun _ => 0))), (d42, .inl (cI, 20, .inl (fun _ => 0))), (e42, .inl (cI, 20, .inl (fun _ => 0))), (f42, .inl (cI, 20, .inl (fun _ => 0))), (g42, .inl (cI, 80, .inl (fun _ => 0))), (h42, .inl (cI, 240, .inl (fun _ => 0)))])) _ _ 45 _ _
  refine y_putF (ci := 4) hE hI rfl inlX4 tyX4_ok nmX4 3 (by decide) zf_X4_35 rfl rfl (tyX4_ok 3 (by decide)) rfl rfl (Nat.le_of_ble_eq_true rfl) dX4_init_45 ?_
  show Y E [(h0, .inr (4, [.ref q5, .ref q16, .ref q27, .ref q38, .null, .int 0, .int 0])), (q5, .inr (1, [.int (i32 0), .ref a9, .ref b9, .ref c9])), (a9, .inl (cI, 12, .inl (fun _ => 0))), (b9, .inl (cI, 12, .inl (fun _ => 0))), (c9, .inl (cJ, 12, .inr (.inl (fun _ => 0)))), (q16, .inr (5, [.int (i32 1000), .int (i32 50), .int (i32 100), .int (i32 25), .int (i32 3), .int (i32 0), .int (i32 50)])), (q27, .inr (0, [.int (i32 0), .int (i32 0), .int (i32 100), .int (i32 0), .ref a31])), (a31, .inl (cI, 3, .inl (fun _ => 0))), (q38, .inr (3, [.int (i32 0), .ref a42, .ref b42, .ref c42, .ref d42, .ref e42, .ref f42, .ref g42, .ref h42])), (a42, .inl (cI, 20, .inl (fun _ => 0))), (b42, .inl (cI, 20, .inl (fun _ => 0))), (c42, .inl (cI, 20, .inl (fun _ => 0))), (d42, .inl (cI, 20, .inl (fun _ => 0))), (e42, .inl (cI, 20, .inl (fun _ => 0))), (f42, .inl (cI, 20, .inl (fun _ => 0))), (g42, .inl (cI, 80, .inl (fun _ => 0))), (h42, .inl (cI, 240, .inl (fun _ => 0)))] _ _ 48 _ _
  refine y_aload_n hE 0 rfl rfl dX4_init_48 ?_
  refine y_new (ci := 2) (fs := [.int 0, .null, .null, .null, .null]) hE rfl inlX2 tyX2_ok zy_X4_39 zb_RX2 zn_RX2 (fun j hj => by rcases (show j = 0 ∨ j = 1 ∨ j = 2 ∨ j = 3 ∨ j = 4 by omega) with rfl | rfl | rfl | rfl | rfl <;> rfl) (by decide) (by decide) dX4_init_49 (fun q49 => ?_)
  refine y_dup hE rfl dX4_init_52 ?_
  refine y_callN hE (c_X2_init l0 D0 cI cJ q49) (List.mem_of_getElem? (i := 5) rfl) zi_yX2_init zn_RX2 zc_yX2_init rfl hy_X2_init (by decide) (by decide) (by decide) (by decide) (Nat.le_of_ble_eq_true rfl) dX4_init_53 (fun w53 hw53 => ?_)
  obtain ⟨a53, b53, c53, d53, rfl⟩ := hw53
  show Y E ((h0, .inr (4, [.ref q5, .ref q16, .ref q27, .ref q38, .null, .int 0, .int 0])) :: (((([(q5, .inr (1, [.int (i32 0), .ref a9, .ref b9, .ref c9])), (a9, .inl (cI, 12, .inl (fun _ => 0))), (b9, .inl (cI, 12, .inl (fun _ => 0))), (c9, .inl (cJ, 12, .inr (.inl (fun _ => 0))))] ++ [(q16, .inr (5, [.int (i32 1000), .int (i32 50), .int (i32 100), .int (i32 25), .int (i32 3), .int (i32 0), .int (i32 50)]))]) ++ [(q27, .inr (0, [.int (i32 0), .int (i32 0), .int (i32 100), .int (i32 0), .ref a31])), (a31, .inl (cI, 3, .inl (fun _ => 0)))]) ++ [(q38, .inr (3, [.int (i32 0), .ref a42, .ref b42, .ref c42, .ref d42, .ref e42, .ref f42, .ref g42, .ref h42])), (a42, .inl (cI, 20, .inl (fun _ => 0))), (b42, .inl (cI, 20, .inl (fun _ => 0))), (c42, .inl (cI, 20, .inl (fun _ => 0))), (d42, .inl (cI, 20, .inl (fun _ => 0))), (e42, .inl (cI, 20, .inl (fun _ => 0))), (f42, .inl (cI, 20, .inl (fun _ => 0))), (g42, .inl (cI, 80, .inl (fun _ => 0))), (h42, .inl (cI, 240, .inl (fun _ => 0)))]) ++ [(q49, .inr (2, [.int (i32 0), .ref a53, .ref b53, .ref c53, .ref d53])), (a53, .inl (cI, 10, .inl (fun _ => 0))), (b53, .inl (cI, 10, .inl (fun _ => 0))), (c53, .inl (cI, 10, .inl (fun _ => 0))), (d53, .inl (cI, 120, .inl (fun _ => 0)))])) _ _ 56 _ _
  refine y_putF (ci := 4) hE hI rfl inlX4 tyX4_ok nmX4 4 (by decide) zf_X4_42 rfl rfl (tyX4_ok 4 (by decide)) rfl rfl (Nat.le_of_ble_eq_true rfl) dX4_init_56 ?_
  show Y E [(h0, .inr (4, [.ref q5, .ref q16, .ref q27, .ref q38, .ref q49, .int 0, .int 0])), (q5, .inr (1, [.int (i32 0), .ref a9, .ref b9, .ref c9])), (a9, .inl (cI, 12, .inl (fun _ => 0))), (b9, .inl (cI, 12, .inl (fun _ => 0))), (c9, .inl (cJ, 12, .inr (.inl (fun _ => 0)))), (q16, .inr (5, [.int (i32 1000), .int (i32 50), .int (i32 100), .int (i32 25), .int (i32 3), .int (i32 0), .int (i32 50)])), (q27, .inr (0, [.int (i32 0), .int (i32 0), .int (i32 100), .int (i32 0), .ref a31])), (a31, .inl (cI, 3, .inl (fun _ => 0))), (q38, .inr (3, [.int (i32 0), .ref a42, .ref b42, .ref c42, .ref d42, .ref e42, .ref f42, .ref g42, .ref h42])), (a42, .inl (cI, 20, .inl (fun _ => 0))), (b42, .inl (cI, 20, .inl (fun _ => 0))), (c42, .inl (cI, 20, .inl (fun _ => 0))), (d42, .inl (cI, 20, .inl (fun _ => 0))), (e42, .inl (cI, 20, .inl (fun _ => 0))), (f42, .inl (cI, 20, .inl (fun _ => 0))), (g42, .inl (cI, 80, .inl (fun _ => 0))), (h42, .inl (cI, 240, .inl (fun _ => 0))), (q49, .inr (2, [.int (i32 0), .ref a53, .ref b53, .ref c53, .ref d53])), (a53, .inl (cI, 10, .inl (fun _ => 0))), (b53, .inl (cI, 10, .inl (fun _ => 0))), (c53, .inl (cI, 10, .inl (fun _ => 0))), (d53, .inl (cI, 120, .inl (fun _ => 0)))] _ _ 59 _ _
  refine y_aload_n hE 0 rfl rfl dX4_init_59 ?_
  refine y_iconst hE dX4_init_60 ?_
  refine y_put (ci := 4) hE rfl inlX4 tyX4_ok nmX4 5 (by decide) zf_X4_46 rfl (tyX4_ok 5 (by decide)) rfl rfl (Nat.le_of_ble_eq_true rfl) dX4_init_61 ?_
  show Y E [(h0, .inr (4, [.ref q5, .ref q16, .ref q27, .ref q38, .ref q49, .int (i32 0), .int 0])), (q5, .inr (1, [.int (i32 0), .ref a9, .ref b9, .ref c9])), (a9, .inl (cI, 12, .inl (fun _ => 0))), (b9, .inl (cI, 12, .inl (fun _ => 0))), (c9, .inl (cJ, 12, .inr (.inl (fun _ => 0)))), (q16, .inr (5, [.int (i32 1000), .int (i32 50), .int (i32 100), .int (i32 25), .int (i32 3), .int (i32 0), .int (i32 50)])), (q27, .inr (0, [.int (i32 0), .int (i32 0), .int (i32 100), .int (i32 0), .ref a31])), (a31, .inl (cI, 3, .inl (fun _ => 0))), (q38, .inr (3, [.int (i32 0), .ref a42, .ref b42, .ref c42, .ref d42, .ref e42, .ref f42, .ref g42, .ref h42])), (a42, .inl (cI, 20, .inl (fun _ => 0))), (b42, .inl (cI, 20, .inl (fun _ => 0))), (c42, .inl (cI, 20, .inl (fun _ => 0))), (d42, .inl (cI, 20, .inl (fun _ => 0))), (e42, .inl (cI, 20, .inl (fun _ => 0))), (f42, .inl (cI, 20, .inl (fun _ => 0))), (g42, .inl (cI, 80, .inl (fun _ => 0))), (h42, .inl (cI, 240, .inl (fun _ => 0))), (q49, .inr (2, [.int (i32 0), .ref a53, .ref b53, .ref c53, .ref d53])), (a53, .inl (cI, 10, .inl (fun _ => 0))), (b53, .inl (cI, 10, .inl (fun _ => 0))), (c53, .inl (cI, 10, .inl (fun _ => 0))), (d53, .inl (cI, 120, .inl (fun _ => 0)))] _ _ 64 _ _
  refine y_aload_n hE 0 rfl rfl dX4_init_64 ?_
  refine y_iconst hE dX4_init_65 ?_
  refine y_put (ci := 4) hE rfl inlX4 tyX4_ok nmX4 6 (by decide) zf_X4_50 rfl (tyX4_ok 6 (by decide)) rfl rfl (Nat.le_of_ble_eq_true rfl) dX4_init_66 ?_
  show Y E [(h0, .inr (4, [.ref q5, .ref q16, .ref q27, .ref q38, .ref q49, .int (i32 0), .int (i32 0)])), (q5, .inr (1, [.int (i32 0), .ref a9, .ref b9, .ref c9])), (a9, .inl (cI, 12, .inl (fun _ => 0))), (b9, .inl (cI, 12, .inl (fun _ => 0))), (c9, .inl (cJ, 12, .inr (.inl (fun _ => 0)))), (q16, .inr (5, [.int (i32 1000), .int (i32 50), .int (i32 100), .int (i32 25), .int (i32 3), .int (i32 0), .int (i32 50)])), (q27, .inr (0, [.int (i32 0), .int (i32 0), .int (i32 100), .int (i32 0), .ref a31])), (a31, .inl (cI, 3, .inl (fun _ => 0))), (q38, .inr (3, [.int (i32 0), .ref a42, .ref b42, .ref c42, .ref d42, .ref e42, .ref f42, .ref g42, .ref h42])), (a42, .inl (cI, 20, .inl (fun _ => 0))), (b42, .inl (cI, 20, .inl (fun _ => 0))), (c42, .inl (cI, 20, .inl (fun _ => 0))), (d42, .inl (cI, 20, .inl (fun _ => 0))), (e42, .inl (cI, 20, .inl (fun _ => 0))), (f42, .inl (cI, 20, .inl (fun _ => 0))), (g42, .inl (cI, 80, .inl (fun _ => 0))), (h42, .inl (cI, 240, .inl (fun _ => 0))), (q49, .inr (2, [.int (i32 0), .ref a53, .ref b53, .ref c53, .ref d53])), (a53, .inl (cI, 10, .inl (fun _ => 0))), (b53, .inl (cI, 10, .inl (fun _ => 0))), (c53, .inl (cI, 10, .inl (fun _ => 0))), (d53, .inl (cI, 120, .inl (fun _ => 0)))] _ _ 69 _ _
  exact y_ret hE hR dX4_init_69 (⟨fun j => [h0, q5, a9, b9, c9, q16, q27, a31, q38, a42, b42, c42, d42, e42, f42, g42, h42, q49, a53, b53, c53, d53].getD j 0, rfl, rfl⟩)
def syw (cI cJ : ClassId) (f : Nat → Nat → Nat) (g : Nat → Nat) : va_W := (g 22, .inr (7, [.ref (f 0 0), .ref (f 1 0), .ref (f 2 0), .ref (f 3 0), .ref (f 4 0), .int (i32 0), .ref (g 23)])) :: (((((rgw cI cJ (f 0) ++ rgw cI cJ (f 1)) ++ rgw cI cJ (f 2)) ++ rgw cI cJ (f 3)) ++ rgw cI cJ (f 4)) ++ [(g 23, .inr (6, [.ref (g 24), .ref (g 25), .ref (g 26)])), (g 24, .inl (cI, 12, .inl (fun _ => 0))), (g 25, .inl (cI, 12, .inl (fun _ => 0))), (g 26, .inl (cI, 12, .inl (fun _ => 0)))])
theorem dX7_init_0 : decode cX7_init 0 = .ok (.aload_n 0, 1) := by decide +kernel
theorem dX7_init_1 : decode cX7_init 1 = .ok (.invokespecial 1, 3) := by decide +kernel
theorem dX7_init_4 : decode cX7_init 4 = .ok (.aload_n 0, 1) := by decide +kernel
theorem dX7_init_5 : decode cX7_init 5 = .ok (.new 7, 3) := by decide +kernel
theorem dX7_init_8 : decode cX7_init 8 = .ok (.dup, 1) := by decide +kernel
theorem dX7_init_9 : decode cX7_init 9 = .ok (.invokespecial 9, 3) := by decide +kernel
theorem dX7_init_12 : decode cX7_init 12 = .ok (.putfield 10, 3) := by decide +kernel
theorem dX7_init_15 : decode cX7_init 15 = .ok (.aload_n 0, 1) := by decide +kernel
theorem dX7_init_16 : decode cX7_init 16 = .ok (.new 7, 3) := by decide +kernel
theorem dX7_init_19 : decode cX7_init 19 = .ok (.dup, 1) := by decide +kernel
theorem dX7_init_20 : decode cX7_init 20 = .ok (.invokespecial 9, 3) := by decide +kernel
theorem dX7_init_23 : decode cX7_init 23 = .ok (.putfield 16, 3) := by decide +kernel
theorem dX7_init_26 : decode cX7_init 26 = .ok (.aload_n 0, 1) := by decide +kernel
theorem dX7_init_27 : decode cX7_init 27 = .ok (.new 7, 3) := by decide +kernel
theorem dX7_init_30 : decode cX7_init 30 = .ok (.dup, 1) := by decide +kernel
theorem dX7_init_31 : decode cX7_init 31 = .ok (.invokespecial 9, 3) := by decide +kernel
theorem dX7_init_34 : decode cX7_init 34 = .ok (.putfield 19, 3) := by decide +kernel
theorem dX7_init_37 : decode cX7_init 37 = .ok (.aload_n 0, 1) := by decide +kernel
theorem dX7_init_38 : decode cX7_init 38 = .ok (.new 7, 3) := by decide +kernel
theorem dX7_init_41 : decode cX7_init 41 = .ok (.dup, 1) := by decide +kernel
theorem dX7_init_42 : decode cX7_init 42 = .ok (.invokespecial 9, 3) := by decide +kernel
theorem dX7_init_45 : decode cX7_init 45 = .ok (.putfield 22, 3) := by decide +kernel
theorem dX7_init_48 : decode cX7_init 48 = .ok (.aload_n 0, 1) := by decide +kernel
theorem dX7_init_49 : decode cX7_init 49 = .ok (.new 7, 3) := by decide +kernel
theorem dX7_init_52 : decode cX7_init 52 = .ok (.dup, 1) := by decide +kernel
theorem dX7_init_53 : decode cX7_init 53 = .ok (.invokespecial 9, 3) := by decide +kernel
theorem dX7_init_56 : decode cX7_init 56 = .ok (.putfield 25, 3) := by decide +kernel
theorem dX7_init_59 : decode cX7_init 59 = .ok (.aload_n 0, 1) := by decide +kernel
theorem dX7_init_60 : decode cX7_init 60 = .ok (.iconst 0, 1) := by decide +kernel
theorem dX7_init_61 : decode cX7_init 61 = .ok (.putfield 28, 3) := by decide +kernel
theorem dX7_init_64 : decode cX7_init 64 = .ok (.aload_n 0, 1) := by decide +kernel
theorem dX7_init_65 : decode cX7_init 65 = .ok (.new 32, 3) := by decide +kernel
theorem dX7_init_68 : decode cX7_init 68 = .ok (.dup, 1) := by decide +kernel
theorem dX7_init_69 : decode cX7_init 69 = .ok (.invokespecial 34, 3) := by decide +kernel
theorem dX7_init_72 : decode cX7_init 72 = .ok (.putfield 35, 3) := by decide +kernel
theorem dX7_init_75 : decode cX7_init 75 = .ok (.return_, 1) := by decide +kernel
theorem hy_X7_init : yX7_init.cls ≠ "java/lang/invoke/MethodHandle" ∧ yX7_init.cls ≠ "java/lang/invoke/VarHandle" ∧ (parseMethodDescriptor yX7_init.desc).map (fun d => d.parameters.length) = some 0 := ⟨by decide +kernel, by decide +kernel, by decide +kernel⟩
set_option maxHeartbeats 4000000 in
set_option maxRecDepth 100000 in
theorem c_X7_init (l0 : Launch) (D0 : va_G) (cI cJ : ClassId) (h0 : Nat) : Kt l0 D0 cI cJ yX7_init cX7_init 3 114 3369 52 h0 (7, [.null, .null, .null, .null, .null, .int 0, .null]) (fun w => ∃ (f : Nat → Nat → Nat) (g : Nat → Nat), g 22 = h0 ∧ w = syw cI cJ f g) := by
  refine Kt.of (by decide) rfl (fun E hE hI hR => ?_)
  show Y E [(h0, .inr (7, [.null, .null, .null, .null, .null, .int 0, .null]))] 0 0 0 [(0, .ref h0)] []
  refine y_aload_n hE 0 rfl rfl dX7_init_0 ?_
  refine y_obj hE zm_X7_1 zi_objectInit zc_objectInit (by decide) (by decide) dX7_init_1 ?_
  refine y_aload_n hE 0 rfl rfl dX7_init_4 ?_
  refine y_new (ci := 4) (fs := [.null, .null, .null, .null, .null, .int 0, .int 0]) hE rfl inlX4 tyX4_ok zy_X7_7 zb_RX4 zn_RX4 (fun j hj => by rcases (show j = 0 ∨ j = 1 ∨ j = 2 ∨ j = 3 ∨ j = 4 ∨ j = 5 ∨ j = 6 by omega) with rfl | rfl | rfl | rfl | rfl | rfl | rfl <;> rfl) (by decide) (by decide) dX7_init_5 (fun q5 => ?_)
  refine y_dup hE rfl dX7_init_8 ?_
  refine y_callN hE (c_X4_init l0 D0 cI cJ q5) (List.mem_of_getElem? (i := 0) rfl) zi_yX4_init zn_RX4 zc_yX4_init rfl hy_X4_init (by decide) (by decide) (by decide) (by decide) (Nat.le_of_ble_eq_true rfl) dX7_init_9 (fun w9 hw9 => ?_)
  obtain ⟨f9, hf9, rfl⟩ := hw9
  subst hf9
  show Y E ((h0, .inr (7, [.null, .null, .null, .null, .null, .int 0, .null])) :: rgw cI cJ f9) _ _ 12 _ _
  refine y_put (ci := 7) hE rfl inlX7 tyX7_ok nmX7 0 (by decide) zf_X7_10 rfl (tyX7_ok 0 (by decide)) rfl rfl (Nat.le_of_ble_eq_true rfl) dX7_init_12 ?_
  show Y E ((h0, .inr (7, [.ref (f9 0), .null, .null, .null, .null, .int 0, .null])) :: rgw cI cJ f9) _ _ 15 _ _
  refine y_aload_n hE 0 rfl rfl dX7_init_15 ?_
  refine y_new (ci := 4) (fs := [.null, .null, .null, .null, .null, .int 0, .int 0]) hE rfl inlX4 tyX4_ok zy_X7_7 zb_RX4 zn_RX4 (fun j hj => by rcases (show j = 0 ∨ j = 1 ∨ j = 2 ∨ j = 3 ∨ j = 4 ∨ j = 5 ∨ j = 6 by omega) with rfl | rfl | rfl | rfl | rfl | rfl | rfl <;> rfl) (by decide) (by decide) dX7_init_16 (fun q16 => ?_)
  refine y_dup hE rfl dX7_init_19 ?_
  refine y_callN hE (c_X4_init l0 D0 cI cJ q16) (List.mem_of_getElem? (i := 0) rfl) zi_yX4_init zn_RX4 zc_yX4_init rfl hy_X4_init (by decide) (by decide) (by decide) (by decide) (Nat.le_of_ble_eq_true rfl) dX7_init_20 (fun w20 hw20 => ?_)
  obtain ⟨f20, hf20, rfl⟩ := hw20
  subst hf20
  show Y E ((h0, .inr (7, [.ref (f9 0), .null, .null, .null, .null, .int 0, .null])) :: (rgw cI cJ f9 ++ rgw cI cJ f20)) _ _ 23 _ _
  refine y_put (ci := 7) hE rfl inlX7 tyX7_ok nmX7 1 (by decide) zf_X7_16 rfl (tyX7_ok 1 (by decide)) rfl rfl (Nat.le_of_ble_eq_true rfl) dX7_init_23 ?_
  show Y E ((h0, .inr (7, [.ref (f9 0), .ref (f20 0), .null, .null, .null, .int 0, .null])) :: (rgw cI cJ f9 ++ rgw cI cJ f20)) _ _ 26 _ _
  refine y_aload_n hE 0 rfl rfl dX7_init_26 ?_
  refine y_new (ci := 4) (fs := [.null, .null, .null, .null, .null, .int 0, .int 0]) hE rfl inlX4 tyX4_ok zy_X7_7 zb_RX4 zn_RX4 (fun j hj => by rcases (show j = 0 ∨ j = 1 ∨ j = 2 ∨ j = 3 ∨ j = 4 ∨ j = 5 ∨ j = 6 by omega) with rfl | rfl | rfl | rfl | rfl | rfl | rfl <;> rfl) (by decide) (by decide) dX7_init_27 (fun q27 => ?_)
  refine y_dup hE rfl dX7_init_30 ?_
  refine y_callN hE (c_X4_init l0 D0 cI cJ q27) (List.mem_of_getElem? (i := 0) rfl) zi_yX4_init zn_RX4 zc_yX4_init rfl hy_X4_init (by decide) (by decide) (by decide) (by decide) (Nat.le_of_ble_eq_true rfl) dX7_init_31 (fun w31 hw31 => ?_)
  obtain ⟨f31, hf31, rfl⟩ := hw31
  subst hf31
  show Y E ((h0, .inr (7, [.ref (f9 0), .ref (f20 0), .null, .null, .null, .int 0, .null])) :: ((rgw cI cJ f9 ++ rgw cI cJ f20) ++ rgw cI cJ f31)) _ _ 34 _ _
  refine y_put (ci := 7) hE rfl inlX7 tyX7_ok nmX7 2 (by decide) zf_X7_19 rfl (tyX7_ok 2 (by decide)) rfl rfl (Nat.le_of_ble_eq_true rfl) dX7_init_34 ?_
  show Y E ((h0, .inr (7, [.ref (f9 0), .ref (f20 0), .ref (f31 0), .null, .null, .int 0, .null])) :: ((rgw cI cJ f9 ++ rgw cI cJ f20) ++ rgw cI cJ f31)) _ _ 37 _ _
  refine y_aload_n hE 0 rfl rfl dX7_init_37 ?_
  refine y_new (ci := 4) (fs := [.null, .null, .null, .null, .null, .int 0, .int 0]) hE rfl inlX4 tyX4_ok zy_X7_7 zb_RX4 zn_RX4 (fun j hj => by rcases (show j = 0 ∨ j = 1 ∨ j = 2 ∨ j = 3 ∨ j = 4 ∨ j = 5 ∨ j = 6 by omega) with rfl | rfl | rfl | rfl | rfl | rfl | rfl <;> rfl) (by decide) (by decide) dX7_init_38 (fun q38 => ?_)
  refine y_dup hE rfl dX7_init_41 ?_
  refine y_callN hE (c_X4_init l0 D0 cI cJ q38) (List.mem_of_getElem? (i := 0) rfl) zi_yX4_init zn_RX4 zc_yX4_init rfl hy_X4_init (by decide) (by decide) (by decide) (by decide) (Nat.le_of_ble_eq_true rfl) dX7_init_42 (fun w42 hw42 => ?_)
  obtain ⟨f42, hf42, rfl⟩ := hw42
  subst hf42
  show Y E ((h0, .inr (7, [.ref (f9 0), .ref (f20 0), .ref (f31 0), .null, .null, .int 0, .null])) :: (((rgw cI cJ f9 ++ rgw cI cJ f20) ++ rgw cI cJ f31) ++ rgw cI cJ f42)) _ _ 45 _ _
  refine y_put (ci := 7) hE rfl inlX7 tyX7_ok nmX7 3 (by decide) zf_X7_22 rfl (tyX7_ok 3 (by decide)) rfl rfl (Nat.le_of_ble_eq_true rfl) dX7_init_45 ?_
  show Y E ((h0, .inr (7, [.ref (f9 0), .ref (f20 0), .ref (f31 0), .ref (f42 0), .null, .int 0, .null])) :: (((rgw cI cJ f9 ++ rgw cI cJ f20) ++ rgw cI cJ f31) ++ rgw cI cJ f42)) _ _ 48 _ _
  refine y_aload_n hE 0 rfl rfl dX7_init_48 ?_
  refine y_new (ci := 4) (fs := [.null, .null, .null, .null, .null, .int 0, .int 0]) hE rfl inlX4 tyX4_ok zy_X7_7 zb_RX4 zn_RX4 (fun j hj => by rcases (show j = 0 ∨ j = 1 ∨ j = 2 ∨ j = 3 ∨ j = 4 ∨ j = 5 ∨ j = 6 by omega) with rfl | rfl | rfl | rfl | rfl | rfl | rfl <;> rfl) (by decide) (by decide) dX7_init_49 (fun q49 => ?_)
  refine y_dup hE rfl dX7_init_52 ?_
  refine y_callN hE (c_X4_init l0 D0 cI cJ q49) (List.mem_of_getElem? (i := 0) rfl) zi_yX4_init zn_RX4 zc_yX4_init rfl hy_X4_init (by decide) (by decide) (by decide) (by decide) (Nat.le_of_ble_eq_true rfl) dX7_init_53 (fun w53 hw53 => ?_)
  obtain ⟨f53, hf53, rfl⟩ := hw53
  subst hf53
  show Y E ((h0, .inr (7, [.ref (f9 0), .ref (f20 0), .ref (f31 0), .ref (f42 0), .null, .int 0, .null])) :: ((((rgw cI cJ f9 ++ rgw cI cJ f20) ++ rgw cI cJ f31) ++ rgw cI cJ f42) ++ rgw cI cJ f53)) _ _ 56 _ _
  refine y_put (ci := 7) hE rfl inlX7 tyX7_ok nmX7 4 (by decide) zf_X7_25 rfl (tyX7_ok 4 (by decide)) rfl rfl (Nat.le_of_ble_eq_true rfl) dX7_init_56 ?_
  show Y E ((h0, .inr (7, [.ref (f9 0), .ref (f20 0), .ref (f31 0), .ref (f42 0), .ref (f53 0), .int 0, .null])) :: ((((rgw cI cJ f9 ++ rgw cI cJ f20) ++ rgw cI cJ f31) ++ rgw cI cJ f42) ++ rgw cI cJ f53)) _ _ 59 _ _
  refine y_aload_n hE 0 rfl rfl dX7_init_59 ?_
  refine y_iconst hE dX7_init_60 ?_
  refine y_put (ci := 7) hE rfl inlX7 tyX7_ok nmX7 5 (by decide) zf_X7_28 rfl (tyX7_ok 5 (by decide)) rfl rfl (Nat.le_of_ble_eq_true rfl) dX7_init_61 ?_
  show Y E ((h0, .inr (7, [.ref (f9 0), .ref (f20 0), .ref (f31 0), .ref (f42 0), .ref (f53 0), .int (i32 0), .null])) :: ((((rgw cI cJ f9 ++ rgw cI cJ f20) ++ rgw cI cJ f31) ++ rgw cI cJ f42) ++ rgw cI cJ f53)) _ _ 64 _ _
  refine y_aload_n hE 0 rfl rfl dX7_init_64 ?_
  refine y_new (ci := 6) (fs := [.null, .null, .null]) hE rfl inlX6 tyX6_ok zy_X7_32 zb_RX6 zn_RX6 (fun j hj => by rcases (show j = 0 ∨ j = 1 ∨ j = 2 by omega) with rfl | rfl | rfl <;> rfl) (by decide) (by decide) dX7_init_65 (fun q65 => ?_)
  refine y_dup hE rfl dX7_init_68 ?_
  refine y_callN hE (c_X6_init l0 D0 cI cJ q65) (List.mem_of_getElem? (i := 6) rfl) zi_yX6_init zn_RX6 zc_yX6_init rfl hy_X6_init (by decide) (by decide) (by decide) (by decide) (Nat.le_of_ble_eq_true rfl) dX7_init_69 (fun w69 hw69 => ?_)
  obtain ⟨a69, b69, c69, rfl⟩ := hw69
  show Y E ((h0, .inr (7, [.ref (f9 0), .ref (f20 0), .ref (f31 0), .ref (f42 0), .ref (f53 0), .int (i32 0), .null])) :: (((((rgw cI cJ f9 ++ rgw cI cJ f20) ++ rgw cI cJ f31) ++ rgw cI cJ f42) ++ rgw cI cJ f53) ++ [(q65, .inr (6, [.ref a69, .ref b69, .ref c69])), (a69, .inl (cI, 12, .inl (fun _ => 0))), (b69, .inl (cI, 12, .inl (fun _ => 0))), (c69, .inl (cI, 12, .inl (fun _ => 0)))])) _ _ 72 _ _
  refine y_putF (ci := 7) hE hI rfl inlX7 tyX7_ok nmX7 6 (by decide) zf_X7_35 rfl rfl (tyX7_ok 6 (by decide)) rfl rfl (Nat.le_of_ble_eq_true rfl) dX7_init_72 ?_
  show Y E ((h0, .inr (7, [.ref (f9 0), .ref (f20 0), .ref (f31 0), .ref (f42 0), .ref (f53 0), .int (i32 0), .ref q65])) :: (((((rgw cI cJ f9 ++ rgw cI cJ f20) ++ rgw cI cJ f31) ++ rgw cI cJ f42) ++ rgw cI cJ f53) ++ [(q65, .inr (6, [.ref a69, .ref b69, .ref c69])), (a69, .inl (cI, 12, .inl (fun _ => 0))), (b69, .inl (cI, 12, .inl (fun _ => 0))), (c69, .inl (cI, 12, .inl (fun _ => 0)))])) _ _ 75 _ _
  exact y_ret hE hR dX7_init_75 (⟨fun r => [f9, f20, f31, f42, f53].getD r (fun _ => 0), fun j => [h0, q65, a69, b69, c69].getD (j - 22) 0, rfl, rfl⟩)
