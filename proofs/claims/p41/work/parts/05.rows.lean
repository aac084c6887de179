/-! THE JUDGEMENT OVER MEMORIES. E: all that stands fixed in a walk; S the memory, L the locals that are told, st the stack. -/
abbrev zE : Type := Program × Launch × Env × Room × State × MethodId × Array Value × List Frame × Method × Code × (State → Prop) × (Nat → Prop) × va_G × ClassId × ClassId × (Nat → Nat → Nat) × Nat × Nat × Nat
def Z (E : zE) (S : zM) (pc : Nat) (L : List (Nat × Value)) (st : List Value) : Prop := match E with
  | (p, l, e, R, s, m, args, below, meth, c, Q, A, D, cI, cJ, ad, nL, cells, slots) => ∀ (H : Heap) (locs : List Loc) (ls : Array Slot), va_S A s.heap H locs → va_P D vwCl (wl ad (cf cI cJ ad S)) H → lv_has ls nL L → W p l e R s m args below meth c H locs cells slots Q (F0 m pc ls st)
/-- the words on a private member of a nest mate that no table holds -/
def nw : List Cond := [.methodLinkNest RX7 9 yX4_init "DairyShares", .methodLinkNest RX4 11 yX1_init "DairyShares", .methodLinkNest RX4 20 yX5_init "DairyShares", .methodLinkNest RX4 27 yX0_init "DairyShares", .methodLinkNest RX4 34 yX3_init "DairyShares", .methodLinkNest RX4 41 yX2_init "DairyShares", .methodLinkNest RX7 34 yX6_init "DairyShares", .methodLinkNest RX4 82 yX7_quotient "DairyShares", .methodLinkNest RX0 34 yX7_quotient "DairyShares", .methodLinkNest RX6 31 yX7_quotient "DairyShares"]
def zW (D : va_G) (cI cJ : ClassId) (ad : Nat → Nat → Nat) (S : zM) (U : State) : Prop := va_P D vwCl (wl ad (cf cI cJ ad S)) U.heap ∧ va_K D vwCl [(cI, .int), (cJ, .long)] U ∧ va_D (zA ad) (wl ad (cf cI cJ ad S)) ∧ ∀ w ∈ nw, va_Nw w U
/-- what stands fixed: the code cc, nL places of locals, the class own; fr frames and lo words of room -/
def zG (E : zE) (l0 : Launch) (D0 : va_G) (cI0 cJ0 : ClassId) (ad0 : Nat → Nat → Nat) (cc : ByteArray) (nL0 : Nat) (own : String) (fr lo : Nat) : Prop := match E with
  | (p, l, _, R, s, m, args, _, _, c, _, A, D, cI, cJ, ad, nL, cells, slots) => (l = l0 ∧ D = D0 ∧ cI = cI0 ∧ cJ = cJ0 ∧ ad = ad0 ∧ nL = nL0) ∧ p.tables.exec = Jvm.exec ∧ c.code = cc ∧ c.maxLocals = nL ∧ s.vm.findClass own = some m.cls ∧ (∀ w ∈ wsL_law, w.before args s = true) ∧ (R.frames = fr ∧ R.locals = lo ∧ cells ≤ R.cells ∧ slots ≤ R.slots) ∧ va_K D vwCl [(cI, .int), (cJ, .long)] s ∧ va_D A (wl ad fun _ _ => .inr (0, [])) ∧ (∀ a, zA ad a → A a) ∧ ∀ w ∈ nw, va_Nw w s
def zQ (D : va_G) (cI cJ : ClassId) (ad : Nat → Nat → Nat) (rv : Option Value) (P : zM → Prop) : Array Value → State → Outcome → State → Prop := fun _ st oc t => (oc = .returned rv ∧ ∃ S' : zM, P S' ∧ va_P D vwCl (wl ad (cf cI cJ ad S')) t.heap) ∧ va_F (zA ad) st t
/-- a method's end: what it answers, and the memory then -/
def zR (E : zE) (ret : Option FieldType) (rv : Option Value) (P : zM → Prop) : Prop := match E with
  | (_, _, _, _, s, _, args, below, meth, _, Q, A, D, cI, cJ, ad, _, cells, slots) => Q = MQ below (zQ D cI cJ ad rv P) args s 0 0 (zA ad) ∧ meth.sig.returnType = ret ∧ meth.locks = false ∧ A = zA ad ∧ cells = 0 ∧ slots = 0
/-- a contract: called with as over the memory S, the method y answers rv and leaves a memory with P -/
def Ct (l : Launch) (D : va_G) (cI cJ : ClassId) (ad : Nat → Nat → Nat) (y : MethodName) (cc : ByteArray) (nL : Nat) (ret : Option FieldType) (fr lo : Nat) (as : List Value) (S : zM) (rv : Option Value) (P : zM → Prop) : Prop :=
  Met l y (Cond.code y cc nL ret :: wsL_law) { frames := fr, cells := 0, slots := 0, locals := lo } (va_Pc as (fun U => zW D cI cJ ad S U)) (zQ D cI cJ ad rv P) 0 0 (zA ad)
theorem zQ_P {cI cJ : ClassId} {ad : Nat → Nat → Nat} {S T : zM} (h : ∀ r j, (r, j) ∈ ks → cf cI cJ ad S r j = cf cI cJ ad T r j) : wl ad (cf cI cJ ad S) = wl ad (cf cI cJ ad T) := wl_congr fun q hq => h q.1 q.2 hq
theorem ofWF {l : Launch} {y : MethodName} {ws ws' : List Cond} {rm : Room} {Pc : Array Value → State → Prop} {Qc : Array Value → State → Outcome → State → Prop} {mc ms : Nat} {free : Addr → Prop} {cc : ByteArray} {maxL : Nat} {ret : Option FieldType}
    (hy : plainFor y = true) (hw : ws = Cond.code y cc maxL ret :: ws')
    (body : ∀ p e s m args below meth c s₁, BodyLoose p l y (headSpec ws rm) cc maxL ret e s m args below meth c s₁ → c.maxLocals = maxL → Pc args s →
      W p l e (headSpec ws rm).room s m args below meth c s.heap [] 0 0 (MQ below Qc args s mc ms free) (entryFrame m args maxL)) : Met l y ws rm Pc Qc mc ms free := by
  refine MetFree.of_bodySF (code := cc) (maxLocals := maxL) (ret := ret) hy ?_ ?_
  · intro args s m h hn
    obtain ⟨meth, c, h1, h2, h3, h4, h5, h6, -, -⟩ := Cond.code_spec hn (atoms_spec (ws := ws) h _ (by rw [hw]; exact List.mem_cons_self))
    exact ⟨meth, c, h1, h2, h3, h4, h5, h6⟩
  · intro p e s m args below meth c s₁ B hml hP _
    have hh0 : s₁.heap = s.heap := by rw [B.state]; rfl
    obtain ⟨t, a1, o, b1, b2, b3⟩ := body p e s m args below meth c s₁ B hml hP s₁ hh0 (Stand.of_body B)
    exact ⟨t, o, a1, b1, b2, ⟨b3.1, b3.2⟩⟩
/-- a contract's proof is a walk -/
theorem Ct.ofF {l : Launch} {D : va_G} {cI cJ : ClassId} {ad : Nat → Nat → Nat} {y : MethodName} {cc : ByteArray} {nL : Nat} {ret : Option FieldType} {fr lo : Nat} {as : List Value} {S : zM} {rv : Option Value} {P : zM → Prop} (hy : plainFor y = true) (hn : (lg_sl as).length ≤ nL)
    (h : ∀ E : zE, zG E l D cI cJ ad cc nL y.cls fr lo → zR E ret rv P → Z E S 0 (lv_args 0 as) []) : Ct l D cI cJ ad y cc nL ret fr lo as S rv P := by
  refine ofWF (cc := cc) (maxL := nL) (ret := ret) hy rfl ?_
  intro p e s m args below meth c s₁ B hml hv
  obtain ⟨rfl, hP, hK, hD, hN⟩ := hv
  have hts := atoms_spec (ws := Cond.code y cc nL ret :: wsL_law) B.pre
  have hl := lv_entry as (n := nL) hn
  rw [lg_entry_eq]
  refine h (p, l, e, { frames := fr, cells := 0, slots := 0, locals := lo }, s, m, as.toArray, below, meth, c, MQ below (zQ D cI cJ ad rv P) as.toArray s 0 0 (zA ad), zA ad, D, cI, cJ, ad, nL, 0, 0) ?_ ?_ s.heap [] _ va_S.rf hP hl
  · exact ⟨⟨rfl, rfl, rfl, rfl, rfl, rfl⟩, B.exec, B.bytes, hml, findClass_of_methodNamed B.named, fun w hw => hts w (List.mem_cons_of_mem _ hw), ⟨rfl, rfl, Nat.le_refl _, Nat.le_refl _⟩, hK, wl_D hD, fun _ h => h, hN⟩
  · exact ⟨rfl, B.returns, B.notSynchronized, rfl, rfl, rfl⟩
theorem Ct.of {l : Launch} {D : va_G} {cI cJ : ClassId} {ad : Nat → Nat → Nat} {y : MethodName} {cc : ByteArray} {nL : Nat} {ret : Option FieldType} {fr lo : Nat} {as : List Value} {S : zM} {rv : Option Value} {P : zM → Prop} (hy : plainName y.cls = true) (hn : (lg_sl as).length ≤ nL)
    (h : ∀ E : zE, zG E l D cI cJ ad cc nL y.cls fr lo → zR E ret rv P → Z E S 0 (lv_args 0 as) []) : Ct l D cI cJ ad y cc nL ret fr lo as S rv P := Ct.ofF (plainFor_of_name hy) hn h
section ZR
variable {E : zE} {l0 : Launch} {D0 : va_G} {cI0 cJ0 : ClassId} {ad : Nat → Nat → Nat} {cc : ByteArray} {nL0 fr lo : Nat} {own : String} {S : zM} {pc : Nat} {L : List (Nat × Value)} {st : List Value}
/-- the same memory, told otherwise -/
theorem z_mem {T : zM} (hE : zG E l0 D0 cI0 cJ0 ad cc nL0 own fr lo) (h : ∀ r j, (r, j) ∈ ks → cf cI0 cJ0 ad S r j = cf cI0 cJ0 ad T r j) (k : Z E T pc L st) : Z E S pc L st := by
  obtain ⟨p, l, e, R, s, m, args, below, meth, c, Q, A, D, cI, cJ, ad1, nL, cells, slots⟩ := E
  obtain ⟨⟨rfl, rfl, rfl, rfl, rfl, rfl⟩, hx⟩ := hE
  intro H locs ls hS hP hl
  exact k H locs ls hS (by rw [← zQ_P h]; exact hP) hl
/-- fewer locals, in another order -/
theorem z_L {L' : List (Nat × Value)} (is : List Nat) (h : lv_pick L is = L') (k : Z E S pc L' st) : Z E S pc L st := by
  obtain ⟨p, l, e, R, s, m, args, below, meth, c, Q, A, D, cI, cJ, ad1, nL, cells, slots⟩ := E
  intro H locs ls hS hP hl
  exact k H locs ls hS hP (lv_sub hl is h)
theorem z_iconst (hE : zG E l0 D0 cI0 cJ0 ad cc nL0 own fr lo) {n : Int} (d : decode cc pc = .ok (.iconst n, 1)) (k : Z E S (pc + 1) L (.int (i32 n) :: st)) : Z E S pc L (st) := by
  obtain ⟨p, l, e, R, s, m, args, below, meth, c, Q, A, D, cI, cJ, ad1, nL, cells, slots⟩ := E
  obtain ⟨⟨rfl, rfl, rfl, rfl, rfl, rfl⟩, hx, hb, hml, hown, hts, ⟨hf1, hf2, hf3, hf4⟩, hK, hD, hA, hN⟩ := hE
  intro H locs ls hS hP hl
  exact lv_iconst hx hb d rfl (k H locs ls hS hP hl)
theorem z_bipush (hE : zG E l0 D0 cI0 cJ0 ad cc nL0 own fr lo) {n : Int} {a : Int} (hv : (Int8.ofInt n).toInt32 = i32 a) (d : decode cc pc = .ok (.bipush n, 2)) (k : Z E S (pc + 2) L (.int (i32 a) :: st)) : Z E S pc L (st) := by
  obtain ⟨p, l, e, R, s, m, args, below, meth, c, Q, A, D, cI, cJ, ad1, nL, cells, slots⟩ := E
  obtain ⟨⟨rfl, rfl, rfl, rfl, rfl, rfl⟩, hx, hb, hml, hown, hts, ⟨hf1, hf2, hf3, hf4⟩, hK, hD, hA, hN⟩ := hE
  intro H locs ls hS hP hl
  exact lv_bipush hx hb d hv (k H locs ls hS hP hl)
theorem z_sipush (hE : zG E l0 D0 cI0 cJ0 ad cc nL0 own fr lo) {n : Int} {a : Int} (hv : (Int16.ofInt n).toInt32 = i32 a) (d : decode cc pc = .ok (.sipush n, 3)) (k : Z E S (pc + 3) L (.int (i32 a) :: st)) : Z E S pc L (st) := by
  obtain ⟨p, l, e, R, s, m, args, below, meth, c, Q, A, D, cI, cJ, ad1, nL, cells, slots⟩ := E
  obtain ⟨⟨rfl, rfl, rfl, rfl, rfl, rfl⟩, hx, hb, hml, hown, hts, ⟨hf1, hf2, hf3, hf4⟩, hK, hD, hA, hN⟩ := hE
  intro H locs ls hS hP hl
  exact lv_sipush hx hb d hv (k H locs ls hS hP hl)
theorem z_lconst (hE : zG E l0 D0 cI0 cJ0 ad cc nL0 own fr lo) {n : Fin 2} {a : Int} (hv : Int64.ofNat (n : Nat) = i64 a) (d : decode cc pc = .ok (.lconst n, 1)) (k : Z E S (pc + 1) L (.long (i64 a) :: st)) : Z E S pc L (st) := by
  obtain ⟨p, l, e, R, s, m, args, below, meth, c, Q, A, D, cI, cJ, ad1, nL, cells, slots⟩ := E
  obtain ⟨⟨rfl, rfl, rfl, rfl, rfl, rfl⟩, hx, hb, hml, hown, hts, ⟨hf1, hf2, hf3, hf4⟩, hK, hD, hA, hN⟩ := hE
  intro H locs ls hS hP hl
  exact lv_lconst hx hb d hv (k H locs ls hS hP hl)
theorem z_ldc (hE : zG E l0 D0 cI0 cJ0 ad cc nL0 own fr lo) {index : Nat} {v : Int32} {a : Int} (hw : Cond.constant own index v ∈ wsL_law) (hv : v = i32 a) (d : decode cc pc = .ok (.ldc index, 2)) (k : Z E S (pc + 2) L (.int (i32 a) :: st)) : Z E S pc L (st) := by
  obtain ⟨p, l, e, R, s, m, args, below, meth, c, Q, A, D, cI, cJ, ad1, nL, cells, slots⟩ := E
  obtain ⟨⟨rfl, rfl, rfl, rfl, rfl, rfl⟩, hx, hb, hml, hown, hts, ⟨hf1, hf2, hf3, hf4⟩, hK, hD, hA, hN⟩ := hE
  intro H locs ls hS hP hl
  subst hv
  exact W.ldc hx hb hown (hts _ hw) rfl d (k H locs ls hS hP hl)
theorem z_ldc2 (hE : zG E l0 D0 cI0 cJ0 ad cc nL0 own fr lo) {index : Nat} {v : Int64} {a : Int} (hw : Cond.constantLong own index v ∈ wsL_law) (hv : v = i64 a) (d : decode cc pc = .ok (.ldc2_w index, 3)) (k : Z E S (pc + 3) L (.long (i64 a) :: st)) : Z E S pc L (st) := by
  obtain ⟨p, l, e, R, s, m, args, below, meth, c, Q, A, D, cI, cJ, ad1, nL, cells, slots⟩ := E
  obtain ⟨⟨rfl, rfl, rfl, rfl, rfl, rfl⟩, hx, hb, hml, hown, hts, ⟨hf1, hf2, hf3, hf4⟩, hK, hD, hA, hN⟩ := hE
  intro H locs ls hS hP hl
  subst hv
  exact W.ldc2 hx hb hown (hts _ hw) rfl d (k H locs ls hS hP hl)
theorem z_iload_n (hE : zG E l0 D0 cI0 cJ0 ad cc nL0 own fr lo) {j : Fin 4} {i : Nat} {x : Int32} (kk : Nat) (hi : (j : Nat) = i) (hk : L[kk]? = some (i, .int x)) (d : decode cc pc = .ok (.iload_n j, 1)) (k : Z E S (pc + 1) L (.int x :: st)) : Z E S pc L (st) := by
  obtain ⟨p, l, e, R, s, m, args, below, meth, c, Q, A, D, cI, cJ, ad1, nL, cells, slots⟩ := E
  obtain ⟨⟨rfl, rfl, rfl, rfl, rfl, rfl⟩, hx, hb, hml, hown, hts, ⟨hf1, hf2, hf3, hf4⟩, hK, hD, hA, hN⟩ := hE
  intro H locs ls hS hP hl
  exact lv_iload_n hx hb d hi (lv_at hl kk hk) (k H locs ls hS hP hl)
theorem z_iload (hE : zG E l0 D0 cI0 cJ0 ad cc nL0 own fr lo) {i : Nat} {x : Int32} (kk : Nat) (hk : L[kk]? = some (i, .int x)) (d : decode cc pc = .ok (.iload i, 2)) (k : Z E S (pc + 2) L (.int x :: st)) : Z E S pc L (st) := by
  obtain ⟨p, l, e, R, s, m, args, below, meth, c, Q, A, D, cI, cJ, ad1, nL, cells, slots⟩ := E
  obtain ⟨⟨rfl, rfl, rfl, rfl, rfl, rfl⟩, hx, hb, hml, hown, hts, ⟨hf1, hf2, hf3, hf4⟩, hK, hD, hA, hN⟩ := hE
  intro H locs ls hS hP hl
  exact lv_iload hx hb d (lv_at hl kk hk) (k H locs ls hS hP hl)
theorem z_istore_n (hE : zG E l0 D0 cI0 cJ0 ad cc nL0 own fr lo) {j : Fin 4} {i : Nat} {x : Int32} {L2 : List (Nat × Value)} (hi : (j : Nat) = i) (hn : i < nL0) (hL : (i, Value.int x) :: L.filter (fun q => !(q.1 == i) && !(q.1 + 1 == i && q.2.category == 2)) = L2) (d : decode cc pc = .ok (.istore_n j, 1)) (k : Z E S (pc + 1) L2 (st)) : Z E S pc L (.int x :: st) := by
  obtain ⟨p, l, e, R, s, m, args, below, meth, c, Q, A, D, cI, cJ, ad1, nL, cells, slots⟩ := E
  obtain ⟨⟨rfl, rfl, rfl, rfl, rfl, rfl⟩, hx, hb, hml, hown, hts, ⟨hf1, hf2, hf3, hf4⟩, hK, hD, hA, hN⟩ := hE
  intro H locs ls hS hP hl
  exact lv_istore_n hx hb d hi hl hn hL (fun ls hl => k H locs ls hS hP hl)
theorem z_istore (hE : zG E l0 D0 cI0 cJ0 ad cc nL0 own fr lo) {i : Nat} {x : Int32} {L2 : List (Nat × Value)} (hn : i < nL0) (hL : (i, Value.int x) :: L.filter (fun q => !(q.1 == i) && !(q.1 + 1 == i && q.2.category == 2)) = L2) (d : decode cc pc = .ok (.istore i, 2)) (k : Z E S (pc + 2) L2 (st)) : Z E S pc L (.int x :: st) := by
  obtain ⟨p, l, e, R, s, m, args, below, meth, c, Q, A, D, cI, cJ, ad1, nL, cells, slots⟩ := E
  obtain ⟨⟨rfl, rfl, rfl, rfl, rfl, rfl⟩, hx, hb, hml, hown, hts, ⟨hf1, hf2, hf3, hf4⟩, hK, hD, hA, hN⟩ := hE
  intro H locs ls hS hP hl
  exact lv_istore hx hb d hl hn hL (fun ls hl => k H locs ls hS hP hl)
theorem z_lload_n (hE : zG E l0 D0 cI0 cJ0 ad cc nL0 own fr lo) {j : Fin 4} {i : Nat} {x : Int64} (kk : Nat) (hi : (j : Nat) = i) (hk : L[kk]? = some (i, .long x)) (d : decode cc pc = .ok (.lload_n j, 1)) (k : Z E S (pc + 1) L (.long x :: st)) : Z E S pc L (st) := by
  obtain ⟨p, l, e, R, s, m, args, below, meth, c, Q, A, D, cI, cJ, ad1, nL, cells, slots⟩ := E
  obtain ⟨⟨rfl, rfl, rfl, rfl, rfl, rfl⟩, hx, hb, hml, hown, hts, ⟨hf1, hf2, hf3, hf4⟩, hK, hD, hA, hN⟩ := hE
  intro H locs ls hS hP hl
  exact lv_lload_n hx hb d hi (lv_at hl kk hk) (k H locs ls hS hP hl)
theorem z_lload (hE : zG E l0 D0 cI0 cJ0 ad cc nL0 own fr lo) {i : Nat} {x : Int64} (kk : Nat) (hk : L[kk]? = some (i, .long x)) (d : decode cc pc = .ok (.lload i, 2)) (k : Z E S (pc + 2) L (.long x :: st)) : Z E S pc L (st) := by
  obtain ⟨p, l, e, R, s, m, args, below, meth, c, Q, A, D, cI, cJ, ad1, nL, cells, slots⟩ := E
  obtain ⟨⟨rfl, rfl, rfl, rfl, rfl, rfl⟩, hx, hb, hml, hown, hts, ⟨hf1, hf2, hf3, hf4⟩, hK, hD, hA, hN⟩ := hE
  intro H locs ls hS hP hl
  exact lv_lload hx hb d (lv_at hl kk hk) (k H locs ls hS hP hl)
theorem z_lstore_n (hE : zG E l0 D0 cI0 cJ0 ad cc nL0 own fr lo) {j : Fin 4} {i : Nat} {x : Int64} {L2 : List (Nat × Value)} (hi : (j : Nat) = i) (hn : i + 1 < nL0) (hL : (i, Value.long x) :: L.filter (fun q => !(q.1 == i) && (!(q.1 == i + 1) && !(q.1 + 1 == i && q.2.category == 2))) = L2) (d : decode cc pc = .ok (.lstore_n j, 1)) (k : Z E S (pc + 1) L2 (st)) : Z E S pc L (.long x :: st) := by
  obtain ⟨p, l, e, R, s, m, args, below, meth, c, Q, A, D, cI, cJ, ad1, nL, cells, slots⟩ := E
  obtain ⟨⟨rfl, rfl, rfl, rfl, rfl, rfl⟩, hx, hb, hml, hown, hts, ⟨hf1, hf2, hf3, hf4⟩, hK, hD, hA, hN⟩ := hE
  intro H locs ls hS hP hl
  exact lv_lstore_n hx hb d hi hl hn hL (fun ls hl => k H locs ls hS hP hl)
theorem z_lstore (hE : zG E l0 D0 cI0 cJ0 ad cc nL0 own fr lo) {i : Nat} {x : Int64} {L2 : List (Nat × Value)} (hn : i + 1 < nL0) (hL : (i, Value.long x) :: L.filter (fun q => !(q.1 == i) && (!(q.1 == i + 1) && !(q.1 + 1 == i && q.2.category == 2))) = L2) (d : decode cc pc = .ok (.lstore i, 2)) (k : Z E S (pc + 2) L2 (st)) : Z E S pc L (.long x :: st) := by
  obtain ⟨p, l, e, R, s, m, args, below, meth, c, Q, A, D, cI, cJ, ad1, nL, cells, slots⟩ := E
  obtain ⟨⟨rfl, rfl, rfl, rfl, rfl, rfl⟩, hx, hb, hml, hown, hts, ⟨hf1, hf2, hf3, hf4⟩, hK, hD, hA, hN⟩ := hE
  intro H locs ls hS hP hl
  exact lv_lstore hx hb d hl hn hL (fun ls hl => k H locs ls hS hP hl)
theorem z_aload_n (hE : zG E l0 D0 cI0 cJ0 ad cc nL0 own fr lo) {j : Fin 4} {i : Nat} {x : Nat} (kk : Nat) (hi : (j : Nat) = i) (hk : L[kk]? = some (i, .ref x)) (d : decode cc pc = .ok (.aload_n j, 1)) (k : Z E S (pc + 1) L (.ref x :: st)) : Z E S pc L (st) := by
  obtain ⟨p, l, e, R, s, m, args, below, meth, c, Q, A, D, cI, cJ, ad1, nL, cells, slots⟩ := E
  obtain ⟨⟨rfl, rfl, rfl, rfl, rfl, rfl⟩, hx, hb, hml, hown, hts, ⟨hf1, hf2, hf3, hf4⟩, hK, hD, hA, hN⟩ := hE
  intro H locs ls hS hP hl
  exact lv_aload_n hx hb d hi (lv_at hl kk hk) (k H locs ls hS hP hl)
theorem z_aload (hE : zG E l0 D0 cI0 cJ0 ad cc nL0 own fr lo) {i : Nat} {x : Nat} (kk : Nat) (hk : L[kk]? = some (i, .ref x)) (d : decode cc pc = .ok (.aload i, 2)) (k : Z E S (pc + 2) L (.ref x :: st)) : Z E S pc L (st) := by
  obtain ⟨p, l, e, R, s, m, args, below, meth, c, Q, A, D, cI, cJ, ad1, nL, cells, slots⟩ := E
  obtain ⟨⟨rfl, rfl, rfl, rfl, rfl, rfl⟩, hx, hb, hml, hown, hts, ⟨hf1, hf2, hf3, hf4⟩, hK, hD, hA, hN⟩ := hE
  intro H locs ls hS hP hl
  exact lv_aload hx hb d (lv_at hl kk hk) (k H locs ls hS hP hl)
theorem z_astore_n (hE : zG E l0 D0 cI0 cJ0 ad cc nL0 own fr lo) {j : Fin 4} {i : Nat} {x : Nat} {L2 : List (Nat × Value)} (hi : (j : Nat) = i) (hn : i < nL0) (hL : (i, Value.ref x) :: L.filter (fun q => !(q.1 == i) && !(q.1 + 1 == i && q.2.category == 2)) = L2) (d : decode cc pc = .ok (.astore_n j, 1)) (k : Z E S (pc + 1) L2 (st)) : Z E S pc L (.ref x :: st) := by
  obtain ⟨p, l, e, R, s, m, args, below, meth, c, Q, A, D, cI, cJ, ad1, nL, cells, slots⟩ := E
  obtain ⟨⟨rfl, rfl, rfl, rfl, rfl, rfl⟩, hx, hb, hml, hown, hts, ⟨hf1, hf2, hf3, hf4⟩, hK, hD, hA, hN⟩ := hE
  intro H locs ls hS hP hl
  exact lv_astore_n hx hb d hi hl hn hL (fun ls hl => k H locs ls hS hP hl)
theorem z_astore (hE : zG E l0 D0 cI0 cJ0 ad cc nL0 own fr lo) {i : Nat} {x : Nat} {L2 : List (Nat × Value)} (hn : i < nL0) (hL : (i, Value.ref x) :: L.filter (fun q => !(q.1 == i) && !(q.1 + 1 == i && q.2.category == 2)) = L2) (d : decode cc pc = .ok (.astore i, 2)) (k : Z E S (pc + 2) L2 (st)) : Z E S pc L (.ref x :: st) := by
  obtain ⟨p, l, e, R, s, m, args, below, meth, c, Q, A, D, cI, cJ, ad1, nL, cells, slots⟩ := E
  obtain ⟨⟨rfl, rfl, rfl, rfl, rfl, rfl⟩, hx, hb, hml, hown, hts, ⟨hf1, hf2, hf3, hf4⟩, hK, hD, hA, hN⟩ := hE
  intro H locs ls hS hP hl
  exact lv_astore hx hb d hl hn hL (fun ls hl => k H locs ls hS hP hl)
theorem z_iinc (hE : zG E l0 D0 cI0 cJ0 ad cc nL0 own fr lo) {i : Nat} {n a : Int} {L2 : List (Nat × Value)} (kk : Nat) (hk : L[kk]? = some (i, .int (i32 a))) (hn : i < nL0) (hL : (i, Value.int (i32 (a + n))) :: L.filter (fun q => !(q.1 == i) && !(q.1 + 1 == i && q.2.category == 2)) = L2) (d : decode cc pc = .ok (.iinc i n, 3)) (k : Z E S (pc + 3) L2 (st)) : Z E S pc L (st) := by
  obtain ⟨p, l, e, R, s, m, args, below, meth, c, Q, A, D, cI, cJ, ad1, nL, cells, slots⟩ := E
  obtain ⟨⟨rfl, rfl, rfl, rfl, rfl, rfl⟩, hx, hb, hml, hown, hts, ⟨hf1, hf2, hf3, hf4⟩, hK, hD, hA, hN⟩ := hE
  intro H locs ls hS hP hl
  exact lv_iinc hx hb d hl hk (i32_add a n) hn hL (fun ls hl => k H locs ls hS hP hl)
theorem z_iadd (hE : zG E l0 D0 cI0 cJ0 ad cc nL0 own fr lo) {a b : Int} (d : decode cc pc = .ok (.iadd, 1)) (k : Z E S (pc + 1) L (.int (i32 (a + b)) :: st)) : Z E S pc L (.int (i32 b) :: .int (i32 a) :: st) := by
  obtain ⟨p, l, e, R, s, m, args, below, meth, c, Q, A, D, cI, cJ, ad1, nL, cells, slots⟩ := E
  obtain ⟨⟨rfl, rfl, rfl, rfl, rfl, rfl⟩, hx, hb, hml, hown, hts, ⟨hf1, hf2, hf3, hf4⟩, hK, hD, hA, hN⟩ := hE
  intro H locs ls hS hP hl
  refine lv_iadd hx hb d ?_
  rw [i32_add]
  exact k H locs ls hS hP hl
theorem z_isub (hE : zG E l0 D0 cI0 cJ0 ad cc nL0 own fr lo) {a b : Int} (d : decode cc pc = .ok (.isub, 1)) (k : Z E S (pc + 1) L (.int (i32 (a - b)) :: st)) : Z E S pc L (.int (i32 b) :: .int (i32 a) :: st) := by
  obtain ⟨p, l, e, R, s, m, args, below, meth, c, Q, A, D, cI, cJ, ad1, nL, cells, slots⟩ := E
  obtain ⟨⟨rfl, rfl, rfl, rfl, rfl, rfl⟩, hx, hb, hml, hown, hts, ⟨hf1, hf2, hf3, hf4⟩, hK, hD, hA, hN⟩ := hE
  intro H locs ls hS hP hl
  refine lv_isub hx hb d ?_
  rw [i32_sub]
  exact k H locs ls hS hP hl
theorem z_imul (hE : zG E l0 D0 cI0 cJ0 ad cc nL0 own fr lo) {a b : Int} (d : decode cc pc = .ok (.imul, 1)) (k : Z E S (pc + 1) L (.int (i32 (a * b)) :: st)) : Z E S pc L (.int (i32 b) :: .int (i32 a) :: st) := by
  obtain ⟨p, l, e, R, s, m, args, below, meth, c, Q, A, D, cI, cJ, ad1, nL, cells, slots⟩ := E
  obtain ⟨⟨rfl, rfl, rfl, rfl, rfl, rfl⟩, hx, hb, hml, hown, hts, ⟨hf1, hf2, hf3, hf4⟩, hK, hD, hA, hN⟩ := hE
  intro H locs ls hS hP hl
  refine lv_imul hx hb d ?_
  rw [i32_mul]
  exact k H locs ls hS hP hl
theorem z_idiv (hE : zG E l0 D0 cI0 cJ0 ad cc nL0 own fr lo) {a b : Int} (ha : b32 a) (hb2 : b32 b) (h0 : 0 < b) (d : decode cc pc = .ok (.idiv, 1)) (k : Z E S (pc + 1) L (.int (i32 (a.tdiv b)) :: st)) : Z E S pc L (.int (i32 b) :: .int (i32 a) :: st) := by
  obtain ⟨p, l, e, R, s, m, args, below, meth, c, Q, A, D, cI, cJ, ad1, nL, cells, slots⟩ := E
  obtain ⟨⟨rfl, rfl, rfl, rfl, rfl, rfl⟩, hx, hb, hml, hown, hts, ⟨hf1, hf2, hf3, hf4⟩, hK, hD, hA, hN⟩ := hE
  intro H locs ls hS hP hl
  refine lv_idiv hx hb d (fun q => by rw [i32_0, i32_eq hb2 b32_0] at q; omega) ?_
  rw [i32_div ha hb2 h0]
  exact k H locs ls hS hP hl
theorem z_irem (hE : zG E l0 D0 cI0 cJ0 ad cc nL0 own fr lo) {a b : Int} (ha : b32 a) (hb2 : b32 b) (h0 : 0 < b) (d : decode cc pc = .ok (.irem, 1)) (k : Z E S (pc + 1) L (.int (i32 (a - a.tdiv b * b)) :: st)) : Z E S pc L (.int (i32 b) :: .int (i32 a) :: st) := by
  obtain ⟨p, l, e, R, s, m, args, below, meth, c, Q, A, D, cI, cJ, ad1, nL, cells, slots⟩ := E
  obtain ⟨⟨rfl, rfl, rfl, rfl, rfl, rfl⟩, hx, hb, hml, hown, hts, ⟨hf1, hf2, hf3, hf4⟩, hK, hD, hA, hN⟩ := hE
  intro H locs ls hS hP hl
  refine lv_irem hx hb d (fun q => by rw [i32_0, i32_eq hb2 b32_0] at q; omega) ?_
  rw [i32_div ha hb2 h0, i32_mul, i32_sub]
  exact k H locs ls hS hP hl
theorem z_ladd (hE : zG E l0 D0 cI0 cJ0 ad cc nL0 own fr lo) {a b : Int} (d : decode cc pc = .ok (.ladd, 1)) (k : Z E S (pc + 1) L (.long (i64 (a + b)) :: st)) : Z E S pc L (.long (i64 b) :: .long (i64 a) :: st) := by
  obtain ⟨p, l, e, R, s, m, args, below, meth, c, Q, A, D, cI, cJ, ad1, nL, cells, slots⟩ := E
  obtain ⟨⟨rfl, rfl, rfl, rfl, rfl, rfl⟩, hx, hb, hml, hown, hts, ⟨hf1, hf2, hf3, hf4⟩, hK, hD, hA, hN⟩ := hE
  intro H locs ls hS hP hl
  refine lv_ladd hx hb d ?_
  rw [i64_add]
  exact k H locs ls hS hP hl
theorem z_lsub (hE : zG E l0 D0 cI0 cJ0 ad cc nL0 own fr lo) {a b : Int} (d : decode cc pc = .ok (.lsub, 1)) (k : Z E S (pc + 1) L (.long (i64 (a - b)) :: st)) : Z E S pc L (.long (i64 b) :: .long (i64 a) :: st) := by
  obtain ⟨p, l, e, R, s, m, args, below, meth, c, Q, A, D, cI, cJ, ad1, nL, cells, slots⟩ := E
  obtain ⟨⟨rfl, rfl, rfl, rfl, rfl, rfl⟩, hx, hb, hml, hown, hts, ⟨hf1, hf2, hf3, hf4⟩, hK, hD, hA, hN⟩ := hE
  intro H locs ls hS hP hl
  refine lv_lsub hx hb d ?_
  rw [i64_sub]
  exact k H locs ls hS hP hl
theorem z_lmul (hE : zG E l0 D0 cI0 cJ0 ad cc nL0 own fr lo) {a b : Int} (d : decode cc pc = .ok (.lmul, 1)) (k : Z E S (pc + 1) L (.long (i64 (a * b)) :: st)) : Z E S pc L (.long (i64 b) :: .long (i64 a) :: st) := by
  obtain ⟨p, l, e, R, s, m, args, below, meth, c, Q, A, D, cI, cJ, ad1, nL, cells, slots⟩ := E
  obtain ⟨⟨rfl, rfl, rfl, rfl, rfl, rfl⟩, hx, hb, hml, hown, hts, ⟨hf1, hf2, hf3, hf4⟩, hK, hD, hA, hN⟩ := hE
  intro H locs ls hS hP hl
  refine lv_lmul hx hb d ?_
  rw [i64_mul]
  exact k H locs ls hS hP hl
theorem z_ldiv (hE : zG E l0 D0 cI0 cJ0 ad cc nL0 own fr lo) {a b : Int} (ha : b64 a) (hb2 : b64 b) (h0 : 0 < b) (d : decode cc pc = .ok (.ldiv, 1)) (k : Z E S (pc + 1) L (.long (i64 (a.tdiv b)) :: st)) : Z E S pc L (.long (i64 b) :: .long (i64 a) :: st) := by
  obtain ⟨p, l, e, R, s, m, args, below, meth, c, Q, A, D, cI, cJ, ad1, nL, cells, slots⟩ := E
  obtain ⟨⟨rfl, rfl, rfl, rfl, rfl, rfl⟩, hx, hb, hml, hown, hts, ⟨hf1, hf2, hf3, hf4⟩, hK, hD, hA, hN⟩ := hE
  intro H locs ls hS hP hl
  refine lv_ldiv hx hb d (fun q => by rw [i64_0, i64_eq hb2 b64_0] at q; omega) ?_
  rw [i64_div ha hb2 h0]
  exact k H locs ls hS hP hl
theorem z_lrem (hE : zG E l0 D0 cI0 cJ0 ad cc nL0 own fr lo) {a b : Int} (ha : b64 a) (hb2 : b64 b) (h0 : 0 < b) (d : decode cc pc = .ok (.lrem, 1)) (k : Z E S (pc + 1) L (.long (i64 (a - a.tdiv b * b)) :: st)) : Z E S pc L (.long (i64 b) :: .long (i64 a) :: st) := by
  obtain ⟨p, l, e, R, s, m, args, below, meth, c, Q, A, D, cI, cJ, ad1, nL, cells, slots⟩ := E
  obtain ⟨⟨rfl, rfl, rfl, rfl, rfl, rfl⟩, hx, hb, hml, hown, hts, ⟨hf1, hf2, hf3, hf4⟩, hK, hD, hA, hN⟩ := hE
  intro H locs ls hS hP hl
  refine lv_lrem hx hb d (fun q => by rw [i64_0, i64_eq hb2 b64_0] at q; omega) ?_
  rw [i64_div ha hb2 h0, i64_mul, i64_sub]
  exact k H locs ls hS hP hl
theorem z_i2l (hE : zG E l0 D0 cI0 cJ0 ad cc nL0 own fr lo) {a : Int} (ha : b32 a) (d : decode cc pc = .ok (.i2l, 1)) (k : Z E S (pc + 1) L (.long (i64 a) :: st)) : Z E S pc L (.int (i32 a) :: st) := by
  obtain ⟨p, l, e, R, s, m, args, below, meth, c, Q, A, D, cI, cJ, ad1, nL, cells, slots⟩ := E
  obtain ⟨⟨rfl, rfl, rfl, rfl, rfl, rfl⟩, hx, hb, hml, hown, hts, ⟨hf1, hf2, hf3, hf4⟩, hK, hD, hA, hN⟩ := hE
  intro H locs ls hS hP hl
  exact lv_i2l hx hb d (i32_l ha) (k H locs ls hS hP hl)
theorem z_l2i (hE : zG E l0 D0 cI0 cJ0 ad cc nL0 own fr lo) {a : Int} (d : decode cc pc = .ok (.l2i, 1)) (k : Z E S (pc + 1) L (.int (i32 a) :: st)) : Z E S pc L (.long (i64 a) :: st) := by
  obtain ⟨p, l, e, R, s, m, args, below, meth, c, Q, A, D, cI, cJ, ad1, nL, cells, slots⟩ := E
  obtain ⟨⟨rfl, rfl, rfl, rfl, rfl, rfl⟩, hx, hb, hml, hown, hts, ⟨hf1, hf2, hf3, hf4⟩, hK, hD, hA, hN⟩ := hE
  intro H locs ls hS hP hl
  exact lv_l2i hx hb d (i64_i a) (k H locs ls hS hP hl)
theorem z_dup (hE : zG E l0 D0 cI0 cJ0 ad cc nL0 own fr lo) {v : Value} (hv : v.category = 1) (d : decode cc pc = .ok (.dup, 1)) (k : Z E S (pc + 1) L (v :: v :: st)) : Z E S pc L (v :: st) := by
  obtain ⟨p, l, e, R, s, m, args, below, meth, c, Q, A, D, cI, cJ, ad1, nL, cells, slots⟩ := E
  obtain ⟨⟨rfl, rfl, rfl, rfl, rfl, rfl⟩, hx, hb, hml, hown, hts, ⟨hf1, hf2, hf3, hf4⟩, hK, hD, hA, hN⟩ := hE
  intro H locs ls hS hP hl
  exact lv_dup hx hb d hv (k H locs ls hS hP hl)
theorem z_pop (hE : zG E l0 D0 cI0 cJ0 ad cc nL0 own fr lo) {v : Value} (hv : v.category = 1) (d : decode cc pc = .ok (.pop, 1)) (k : Z E S (pc + 1) L (st)) : Z E S pc L (v :: st) := by
  obtain ⟨p, l, e, R, s, m, args, below, meth, c, Q, A, D, cI, cJ, ad1, nL, cells, slots⟩ := E
  obtain ⟨⟨rfl, rfl, rfl, rfl, rfl, rfl⟩, hx, hb, hml, hown, hts, ⟨hf1, hf2, hf3, hf4⟩, hK, hD, hA, hN⟩ := hE
  intro H locs ls hS hP hl
  exact lv_pop hx hb d hv (k H locs ls hS hP hl)
theorem z_dup2 (hE : zG E l0 D0 cI0 cJ0 ad cc nL0 own fr lo) {v w : Value} (hv : v.category = 1) (hw : w.category = 1) (d : decode cc pc = .ok (.dup2, 1)) (k : Z E S (pc + 1) L (v :: w :: v :: w :: st)) : Z E S pc L (v :: w :: st) := by
  obtain ⟨p, l, e, R, s, m, args, below, meth, c, Q, A, D, cI, cJ, ad1, nL, cells, slots⟩ := E
  obtain ⟨⟨rfl, rfl, rfl, rfl, rfl, rfl⟩, hx, hb, hml, hown, hts, ⟨hf1, hf2, hf3, hf4⟩, hK, hD, hA, hN⟩ := hE
  intro H locs ls hS hP hl
  exact lv_dup2_11 hx hb d hv hw (k H locs ls hS hP hl)
theorem z_dup2l (hE : zG E l0 D0 cI0 cJ0 ad cc nL0 own fr lo) {v : Value} (hv : v.category = 2) (d : decode cc pc = .ok (.dup2, 1)) (k : Z E S (pc + 1) L (v :: v :: st)) : Z E S pc L (v :: st) := by
  obtain ⟨p, l, e, R, s, m, args, below, meth, c, Q, A, D, cI, cJ, ad1, nL, cells, slots⟩ := E
  obtain ⟨⟨rfl, rfl, rfl, rfl, rfl, rfl⟩, hx, hb, hml, hown, hts, ⟨hf1, hf2, hf3, hf4⟩, hK, hD, hA, hN⟩ := hE
  intro H locs ls hS hP hl
  exact lv_dup2_2 hx hb d hv (k H locs ls hS hP hl)
theorem z_goto (hE : zG E l0 D0 cI0 cJ0 ad cc nL0 own fr lo) {off : Int} {tgt : Nat} (ht : (pc : Int) + off = (tgt : Int)) (d : decode cc pc = .ok (.goto off, 3)) (k : Z E S tgt L (st)) : Z E S pc L (st) := by
  obtain ⟨p, l, e, R, s, m, args, below, meth, c, Q, A, D, cI, cJ, ad1, nL, cells, slots⟩ := E
  obtain ⟨⟨rfl, rfl, rfl, rfl, rfl, rfl⟩, hx, hb, hml, hown, hts, ⟨hf1, hf2, hf3, hf4⟩, hK, hD, hA, hN⟩ := hE
  intro H locs ls hS hP hl
  exact lv_goto hx hb d ht (k H locs ls hS hP hl)
theorem z_lcmp (hE : zG E l0 D0 cI0 cJ0 ad cc nL0 own fr lo) {a b : Int} (ha : b64 a) (hb2 : b64 b) (d : decode cc pc = .ok (.lcmp, 1)) (k : Z E S (pc + 1) L (.int (i32 (if b < a then 1 else if a = b then 0 else -1)) :: st)) : Z E S pc L (.long (i64 b) :: .long (i64 a) :: st) := by
  obtain ⟨p, l, e, R, s, m, args, below, meth, c, Q, A, D, cI, cJ, ad1, nL, cells, slots⟩ := E
  obtain ⟨⟨rfl, rfl, rfl, rfl, rfl, rfl⟩, hx, hb, hml, hown, hts, ⟨hf1, hf2, hf3, hf4⟩, hK, hD, hA, hN⟩ := hE
  intro H locs ls hS hP hl
  refine W.lcmp hx hb d ?_
  have e : lg_cmp (i64 a) (i64 b) = i32 (if b < a then 1 else if a = b then 0 else -1) := by
    unfold lg_cmp
    by_cases h1 : b < a
    · rw [if_pos h1, if_pos ((i64_lt hb2 ha).mpr h1)]; rfl
    · rw [if_neg h1, if_neg (fun q => h1 ((i64_lt hb2 ha).mp q))]
      by_cases h2 : a = b
      · rw [if_pos h2, if_pos ((i64_eq ha hb2).mpr h2)]; rfl
      · rw [if_neg h2, if_neg (fun q => h2 ((i64_eq ha hb2).mp q))]; rfl
  rw [e]
  exact k H locs ls hS hP hl
theorem z_icmp_eq (hE : zG E l0 D0 cI0 cJ0 ad cc nL0 own fr lo) {a b : Int} {off : Int} {tgt : Nat} (d : decode cc pc = .ok (.if_icmp .eq off, 3)) (ht : (pc : Int) + off = (tgt : Int)) (ha : b32 a) (hb2 : b32 b) (kt : a = b → Z E S tgt L st) (kf : ¬ a = b → Z E S (pc + 3) L st) : Z E S pc L (.int (i32 b) :: .int (i32 a) :: st) := by
  obtain ⟨p, l, e, R, s, m, args, below, meth, c, Q, A, D, cI, cJ, ad1, nL, cells, slots⟩ := E
  obtain ⟨⟨rfl, rfl, rfl, rfl, rfl, rfl⟩, hx, hb, hml, hown, hts, ⟨hf1, hf2, hf3, hf4⟩, hK, hD, hA, hN⟩ := hE
  intro H locs ls hS hP hl
  exact lv_icmp_eq hx hb d ht (fun q => kt ((i32_eq ha hb2).mp q) H locs ls hS hP hl) (fun q => kf (fun r => q ((i32_eq ha hb2).mpr r)) H locs ls hS hP hl)
theorem z_if_eq (hE : zG E l0 D0 cI0 cJ0 ad cc nL0 own fr lo) {a : Int} {off : Int} {tgt : Nat} (d : decode cc pc = .ok (.ifCond .eq off, 3)) (ht : (pc : Int) + off = (tgt : Int)) (ha : b32 a) (kt : a = 0 → Z E S tgt L st) (kf : ¬ a = 0 → Z E S (pc + 3) L st) : Z E S pc L (.int (i32 a) :: st) := by
  obtain ⟨p, l, e, R, s, m, args, below, meth, c, Q, A, D, cI, cJ, ad1, nL, cells, slots⟩ := E
  obtain ⟨⟨rfl, rfl, rfl, rfl, rfl, rfl⟩, hx, hb, hml, hown, hts, ⟨hf1, hf2, hf3, hf4⟩, hK, hD, hA, hN⟩ := hE
  intro H locs ls hS hP hl
  exact lv_if_eq hx hb d ht (fun q => kt ((i32_eq ha b32_0).mp q) H locs ls hS hP hl) (fun q => kf (fun r => q ((i32_eq ha b32_0).mpr r)) H locs ls hS hP hl)
theorem z_icmp_ne (hE : zG E l0 D0 cI0 cJ0 ad cc nL0 own fr lo) {a b : Int} {off : Int} {tgt : Nat} (d : decode cc pc = .ok (.if_icmp .ne off, 3)) (ht : (pc : Int) + off = (tgt : Int)) (ha : b32 a) (hb2 : b32 b) (kt : ¬ a = b → Z E S tgt L st) (kf : a = b → Z E S (pc + 3) L st) : Z E S pc L (.int (i32 b) :: .int (i32 a) :: st) := by
  obtain ⟨p, l, e, R, s, m, args, below, meth, c, Q, A, D, cI, cJ, ad1, nL, cells, slots⟩ := E
  obtain ⟨⟨rfl, rfl, rfl, rfl, rfl, rfl⟩, hx, hb, hml, hown, hts, ⟨hf1, hf2, hf3, hf4⟩, hK, hD, hA, hN⟩ := hE
  intro H locs ls hS hP hl
  exact lv_icmp_ne hx hb d ht (fun q => kt ((not_congr (i32_eq ha hb2)).mp q) H locs ls hS hP hl) (fun q => kf (by first | exact (i32_eq ha hb2).mp (Classical.not_not.mp q) | exact (i32_eq ha hb2).mp q) H locs ls hS hP hl)
theorem z_if_ne (hE : zG E l0 D0 cI0 cJ0 ad cc nL0 own fr lo) {a : Int} {off : Int} {tgt : Nat} (d : decode cc pc = .ok (.ifCond .ne off, 3)) (ht : (pc : Int) + off = (tgt : Int)) (ha : b32 a) (kt : ¬ a = 0 → Z E S tgt L st) (kf : a = 0 → Z E S (pc + 3) L st) : Z E S pc L (.int (i32 a) :: st) := by
  obtain ⟨p, l, e, R, s, m, args, below, meth, c, Q, A, D, cI, cJ, ad1, nL, cells, slots⟩ := E
  obtain ⟨⟨rfl, rfl, rfl, rfl, rfl, rfl⟩, hx, hb, hml, hown, hts, ⟨hf1, hf2, hf3, hf4⟩, hK, hD, hA, hN⟩ := hE
  intro H locs ls hS hP hl
  exact lv_if_ne hx hb d ht (fun q => kt ((not_congr (i32_eq ha b32_0)).mp q) H locs ls hS hP hl) (fun q => kf (by first | exact (i32_eq ha b32_0).mp (Classical.not_not.mp q) | exact (i32_eq ha b32_0).mp q) H locs ls hS hP hl)
theorem z_icmp_lt (hE : zG E l0 D0 cI0 cJ0 ad cc nL0 own fr lo) {a b : Int} {off : Int} {tgt : Nat} (d : decode cc pc = .ok (.if_icmp .lt off, 3)) (ht : (pc : Int) + off = (tgt : Int)) (ha : b32 a) (hb2 : b32 b) (kt : a < b → Z E S tgt L st) (kf : ¬ a < b → Z E S (pc + 3) L st) : Z E S pc L (.int (i32 b) :: .int (i32 a) :: st) := by
  obtain ⟨p, l, e, R, s, m, args, below, meth, c, Q, A, D, cI, cJ, ad1, nL, cells, slots⟩ := E
  obtain ⟨⟨rfl, rfl, rfl, rfl, rfl, rfl⟩, hx, hb, hml, hown, hts, ⟨hf1, hf2, hf3, hf4⟩, hK, hD, hA, hN⟩ := hE
  intro H locs ls hS hP hl
  exact lv_icmp_lt hx hb d ht (fun q => kt ((i32_lt ha hb2).mp q) H locs ls hS hP hl) (fun q => kf (fun r => q ((i32_lt ha hb2).mpr r)) H locs ls hS hP hl)
theorem z_if_lt (hE : zG E l0 D0 cI0 cJ0 ad cc nL0 own fr lo) {a : Int} {off : Int} {tgt : Nat} (d : decode cc pc = .ok (.ifCond .lt off, 3)) (ht : (pc : Int) + off = (tgt : Int)) (ha : b32 a) (kt : a < 0 → Z E S tgt L st) (kf : ¬ a < 0 → Z E S (pc + 3) L st) : Z E S pc L (.int (i32 a) :: st) := by
  obtain ⟨p, l, e, R, s, m, args, below, meth, c, Q, A, D, cI, cJ, ad1, nL, cells, slots⟩ := E
  obtain ⟨⟨rfl, rfl, rfl, rfl, rfl, rfl⟩, hx, hb, hml, hown, hts, ⟨hf1, hf2, hf3, hf4⟩, hK, hD, hA, hN⟩ := hE
  intro H locs ls hS hP hl
  exact lv_if_lt hx hb d ht (fun q => kt ((i32_lt ha b32_0).mp q) H locs ls hS hP hl) (fun q => kf (fun r => q ((i32_lt ha b32_0).mpr r)) H locs ls hS hP hl)
theorem z_icmp_ge (hE : zG E l0 D0 cI0 cJ0 ad cc nL0 own fr lo) {a b : Int} {off : Int} {tgt : Nat} (d : decode cc pc = .ok (.if_icmp .ge off, 3)) (ht : (pc : Int) + off = (tgt : Int)) (ha : b32 a) (hb2 : b32 b) (kt : b ≤ a → Z E S tgt L st) (kf : ¬ b ≤ a → Z E S (pc + 3) L st) : Z E S pc L (.int (i32 b) :: .int (i32 a) :: st) := by
  obtain ⟨p, l, e, R, s, m, args, below, meth, c, Q, A, D, cI, cJ, ad1, nL, cells, slots⟩ := E
  obtain ⟨⟨rfl, rfl, rfl, rfl, rfl, rfl⟩, hx, hb, hml, hown, hts, ⟨hf1, hf2, hf3, hf4⟩, hK, hD, hA, hN⟩ := hE
  intro H locs ls hS hP hl
  exact lv_icmp_ge hx hb d ht (fun q => kt ((i32_le hb2 ha).mp q) H locs ls hS hP hl) (fun q => kf (fun r => q ((i32_le hb2 ha).mpr r)) H locs ls hS hP hl)
theorem z_if_ge (hE : zG E l0 D0 cI0 cJ0 ad cc nL0 own fr lo) {a : Int} {off : Int} {tgt : Nat} (d : decode cc pc = .ok (.ifCond .ge off, 3)) (ht : (pc : Int) + off = (tgt : Int)) (ha : b32 a) (kt : 0 ≤ a → Z E S tgt L st) (kf : ¬ 0 ≤ a → Z E S (pc + 3) L st) : Z E S pc L (.int (i32 a) :: st) := by
  obtain ⟨p, l, e, R, s, m, args, below, meth, c, Q, A, D, cI, cJ, ad1, nL, cells, slots⟩ := E
  obtain ⟨⟨rfl, rfl, rfl, rfl, rfl, rfl⟩, hx, hb, hml, hown, hts, ⟨hf1, hf2, hf3, hf4⟩, hK, hD, hA, hN⟩ := hE
  intro H locs ls hS hP hl
  exact lv_if_ge hx hb d ht (fun q => kt ((i32_le b32_0 ha).mp q) H locs ls hS hP hl) (fun q => kf (fun r => q ((i32_le b32_0 ha).mpr r)) H locs ls hS hP hl)
theorem z_icmp_gt (hE : zG E l0 D0 cI0 cJ0 ad cc nL0 own fr lo) {a b : Int} {off : Int} {tgt : Nat} (d : decode cc pc = .ok (.if_icmp .gt off, 3)) (ht : (pc : Int) + off = (tgt : Int)) (ha : b32 a) (hb2 : b32 b) (kt : b < a → Z E S tgt L st) (kf : ¬ b < a → Z E S (pc + 3) L st) : Z E S pc L (.int (i32 b) :: .int (i32 a) :: st) := by
  obtain ⟨p, l, e, R, s, m, args, below, meth, c, Q, A, D, cI, cJ, ad1, nL, cells, slots⟩ := E
  obtain ⟨⟨rfl, rfl, rfl, rfl, rfl, rfl⟩, hx, hb, hml, hown, hts, ⟨hf1, hf2, hf3, hf4⟩, hK, hD, hA, hN⟩ := hE
  intro H locs ls hS hP hl
  exact lv_icmp_gt hx hb d ht (fun q => kt ((i32_lt hb2 ha).mp q) H locs ls hS hP hl) (fun q => kf (fun r => q ((i32_lt hb2 ha).mpr r)) H locs ls hS hP hl)
theorem z_if_gt (hE : zG E l0 D0 cI0 cJ0 ad cc nL0 own fr lo) {a : Int} {off : Int} {tgt : Nat} (d : decode cc pc = .ok (.ifCond .gt off, 3)) (ht : (pc : Int) + off = (tgt : Int)) (ha : b32 a) (kt : 0 < a → Z E S tgt L st) (kf : ¬ 0 < a → Z E S (pc + 3) L st) : Z E S pc L (.int (i32 a) :: st) := by
  obtain ⟨p, l, e, R, s, m, args, below, meth, c, Q, A, D, cI, cJ, ad1, nL, cells, slots⟩ := E
  obtain ⟨⟨rfl, rfl, rfl, rfl, rfl, rfl⟩, hx, hb, hml, hown, hts, ⟨hf1, hf2, hf3, hf4⟩, hK, hD, hA, hN⟩ := hE
  intro H locs ls hS hP hl
  exact lv_if_gt hx hb d ht (fun q => kt ((i32_lt b32_0 ha).mp q) H locs ls hS hP hl) (fun q => kf (fun r => q ((i32_lt b32_0 ha).mpr r)) H locs ls hS hP hl)
theorem z_icmp_le (hE : zG E l0 D0 cI0 cJ0 ad cc nL0 own fr lo) {a b : Int} {off : Int} {tgt : Nat} (d : decode cc pc = .ok (.if_icmp .le off, 3)) (ht : (pc : Int) + off = (tgt : Int)) (ha : b32 a) (hb2 : b32 b) (kt : a ≤ b → Z E S tgt L st) (kf : ¬ a ≤ b → Z E S (pc + 3) L st) : Z E S pc L (.int (i32 b) :: .int (i32 a) :: st) := by
  obtain ⟨p, l, e, R, s, m, args, below, meth, c, Q, A, D, cI, cJ, ad1, nL, cells, slots⟩ := E
  obtain ⟨⟨rfl, rfl, rfl, rfl, rfl, rfl⟩, hx, hb, hml, hown, hts, ⟨hf1, hf2, hf3, hf4⟩, hK, hD, hA, hN⟩ := hE
  intro H locs ls hS hP hl
  exact lv_icmp_le hx hb d ht (fun q => kt ((i32_le ha hb2).mp q) H locs ls hS hP hl) (fun q => kf (fun r => q ((i32_le ha hb2).mpr r)) H locs ls hS hP hl)
theorem z_if_le (hE : zG E l0 D0 cI0 cJ0 ad cc nL0 own fr lo) {a : Int} {off : Int} {tgt : Nat} (d : decode cc pc = .ok (.ifCond .le off, 3)) (ht : (pc : Int) + off = (tgt : Int)) (ha : b32 a) (kt : a ≤ 0 → Z E S tgt L st) (kf : ¬ a ≤ 0 → Z E S (pc + 3) L st) : Z E S pc L (.int (i32 a) :: st) := by
  obtain ⟨p, l, e, R, s, m, args, below, meth, c, Q, A, D, cI, cJ, ad1, nL, cells, slots⟩ := E
  obtain ⟨⟨rfl, rfl, rfl, rfl, rfl, rfl⟩, hx, hb, hml, hown, hts, ⟨hf1, hf2, hf3, hf4⟩, hK, hD, hA, hN⟩ := hE
  intro H locs ls hS hP hl
  exact lv_if_le hx hb d ht (fun q => kt ((i32_le ha b32_0).mp q) H locs ls hS hP hl) (fun q => kf (fun r => q ((i32_le ha b32_0).mpr r)) H locs ls hS hP hl)
theorem z_ifb_eq (hE : zG E l0 D0 cI0 cJ0 ad cc nL0 own fr lo) {P : Prop} [Decidable P] {off : Int} {tgt : Nat} (d : decode cc pc = .ok (.ifCond .eq off, 3)) (ht : (pc : Int) + off = (tgt : Int)) (kt : ¬ P → Z E S tgt L st) (kf : P → Z E S (pc + 3) L st) : Z E S pc L (.int (i32 (zbo P)) :: st) :=
  z_if_eq hE d ht zbo_b (fun q => kt (fun h => by rw [zbo_t h] at q; omega)) (fun q => kf (Classical.byContradiction fun h => q (zbo_f h)))
theorem z_ifb_ne (hE : zG E l0 D0 cI0 cJ0 ad cc nL0 own fr lo) {P : Prop} [Decidable P] {off : Int} {tgt : Nat} (d : decode cc pc = .ok (.ifCond .ne off, 3)) (ht : (pc : Int) + off = (tgt : Int)) (kt : P → Z E S tgt L st) (kf : ¬ P → Z E S (pc + 3) L st) : Z E S pc L (.int (i32 (zbo P)) :: st) :=
  z_if_ne hE d ht zbo_b (fun q => kt (Classical.byContradiction fun h => q (zbo_f h))) (fun q => kf (fun h => by rw [zbo_t h] at q; omega))
theorem z_ifl_eq (hE : zG E l0 D0 cI0 cJ0 ad cc nL0 own fr lo) {a b : Int} {off : Int} {tgt : Nat} (d : decode cc pc = .ok (.ifCond .eq off, 3)) (ht : (pc : Int) + off = (tgt : Int)) (kt : a = b → Z E S tgt L st) (kf : ¬ a = b → Z E S (pc + 3) L st) : Z E S pc L (.int (i32 (if b < a then 1 else if a = b then 0 else -1)) :: st) := by
  refine z_if_eq hE d ht ?_ (fun q => kt ?_) (fun q => kf ?_)
  · repeat' split
    all_goals exact ⟨by omega, by omega⟩
  · revert q; repeat' split
    all_goals omega
  · revert q; repeat' split
    all_goals omega
theorem z_ifl_ne (hE : zG E l0 D0 cI0 cJ0 ad cc nL0 own fr lo) {a b : Int} {off : Int} {tgt : Nat} (d : decode cc pc = .ok (.ifCond .ne off, 3)) (ht : (pc : Int) + off = (tgt : Int)) (kt : ¬ a = b → Z E S tgt L st) (kf : a = b → Z E S (pc + 3) L st) : Z E S pc L (.int (i32 (if b < a then 1 else if a = b then 0 else -1)) :: st) := by
  refine z_if_ne hE d ht ?_ (fun q => kt ?_) (fun q => kf ?_)
  · repeat' split
    all_goals exact ⟨by omega, by omega⟩
  · revert q; repeat' split
    all_goals omega
  · revert q; repeat' split
    all_goals omega
theorem z_ifl_lt (hE : zG E l0 D0 cI0 cJ0 ad cc nL0 own fr lo) {a b : Int} {off : Int} {tgt : Nat} (d : decode cc pc = .ok (.ifCond .lt off, 3)) (ht : (pc : Int) + off = (tgt : Int)) (kt : a < b → Z E S tgt L st) (kf : ¬ a < b → Z E S (pc + 3) L st) : Z E S pc L (.int (i32 (if b < a then 1 else if a = b then 0 else -1)) :: st) := by
  refine z_if_lt hE d ht ?_ (fun q => kt ?_) (fun q => kf ?_)
  · repeat' split
    all_goals exact ⟨by omega, by omega⟩
  · revert q; repeat' split
    all_goals omega
  · revert q; repeat' split
    all_goals omega
theorem z_ifl_ge (hE : zG E l0 D0 cI0 cJ0 ad cc nL0 own fr lo) {a b : Int} {off : Int} {tgt : Nat} (d : decode cc pc = .ok (.ifCond .ge off, 3)) (ht : (pc : Int) + off = (tgt : Int)) (kt : b ≤ a → Z E S tgt L st) (kf : ¬ b ≤ a → Z E S (pc + 3) L st) : Z E S pc L (.int (i32 (if b < a then 1 else if a = b then 0 else -1)) :: st) := by
  refine z_if_ge hE d ht ?_ (fun q => kt ?_) (fun q => kf ?_)
  · repeat' split
    all_goals exact ⟨by omega, by omega⟩
  · revert q; repeat' split
    all_goals omega
  · revert q; repeat' split
    all_goals omega
theorem z_ifl_gt (hE : zG E l0 D0 cI0 cJ0 ad cc nL0 own fr lo) {a b : Int} {off : Int} {tgt : Nat} (d : decode cc pc = .ok (.ifCond .gt off, 3)) (ht : (pc : Int) + off = (tgt : Int)) (kt : b < a → Z E S tgt L st) (kf : ¬ b < a → Z E S (pc + 3) L st) : Z E S pc L (.int (i32 (if b < a then 1 else if a = b then 0 else -1)) :: st) := by
  refine z_if_gt hE d ht ?_ (fun q => kt ?_) (fun q => kf ?_)
  · repeat' split
    all_goals exact ⟨by omega, by omega⟩
  · revert q; repeat' split
    all_goals omega
  · revert q; repeat' split
    all_goals omega
theorem z_ifl_le (hE : zG E l0 D0 cI0 cJ0 ad cc nL0 own fr lo) {a b : Int} {off : Int} {tgt : Nat} (d : decode cc pc = .ok (.ifCond .le off, 3)) (ht : (pc : Int) + off = (tgt : Int)) (kt : a ≤ b → Z E S tgt L st) (kf : ¬ a ≤ b → Z E S (pc + 3) L st) : Z E S pc L (.int (i32 (if b < a then 1 else if a = b then 0 else -1)) :: st) := by
  refine z_if_le hE d ht ?_ (fun q => kt ?_) (fun q => kf ?_)
  · repeat' split
    all_goals exact ⟨by omega, by omega⟩
  · revert q; repeat' split
    all_goals omega
  · revert q; repeat' split
    all_goals omega
theorem z_ixor (hE : zG E l0 D0 cI0 cJ0 ad cc nL0 own fr lo) {x y : Int32} (d : decode cc pc = .ok (.ixor, 1)) (k : Z E S (pc + 1) L (.int (x ^^^ y) :: st)) : Z E S pc L (.int y :: .int x :: st) := by
  obtain ⟨p, l, e, R, s, m, args, below, meth, c, Q, A, D, cI, cJ, ad1, nL, cells, slots⟩ := E
  obtain ⟨⟨rfl, rfl, rfl, rfl, rfl, rfl⟩, hx, hb, hml, hown, hts, ⟨hf1, hf2, hf3, hf4⟩, hK, hD, hA, hN⟩ := hE
  intro H locs ls hS hP hl
  exact lv_ixor hx hb d (k H locs ls hS hP hl)
theorem z_ifge_w (hE : zG E l0 D0 cI0 cJ0 ad cc nL0 own fr lo) {w : Int32} {P : Prop} {off : Int} {tgt : Nat} (h : 0 ≤ w ↔ P) (d : decode cc pc = .ok (.ifCond .ge off, 3)) (ht : (pc : Int) + off = (tgt : Int)) (kt : P → Z E S tgt L st) (kf : ¬ P → Z E S (pc + 3) L st) : Z E S pc L (.int w :: st) := by
  obtain ⟨p, l, e, R, s, m, args, below, meth, c, Q, A, D, cI, cJ, ad1, nL, cells, slots⟩ := E
  obtain ⟨⟨rfl, rfl, rfl, rfl, rfl, rfl⟩, hx, hb, hml, hown, hts, ⟨hf1, hf2, hf3, hf4⟩, hK, hD, hA, hN⟩ := hE
  intro H locs ls hS hP hl
  exact lv_if_ge hx hb d ht (fun q => kt (h.mp q) H locs ls hS hP hl) (fun q => kf (fun r => q (h.mpr r)) H locs ls hS hP hl)
theorem z_tIn (hE : zG E l0 D0 cI0 cJ0 ad cc nL0 own fr lo) {dflt lo1 hi off a : Int} {offs : Array Int} {len tgt : Nat} (v : Int) (d : decode cc pc = .ok (.tableswitch dflt lo1 hi offs, len)) (ha : b32 a) (hav : a = v) (h1 : ¬ v < lo1) (h2 : ¬ hi < v) (ho : offs[(v - lo1).toNat]? = some off) (ht : (pc : Int) + off = (tgt : Int)) (k : Z E S tgt L st) : Z E S pc L (.int (i32 a) :: st) := by
  obtain ⟨p, l, e, R, s, m, args, below, meth, c, Q, A, D, cI, cJ, ad1, nL, cells, slots⟩ := E
  obtain ⟨⟨rfl, rfl, rfl, rfl, rfl, rfl⟩, hx, hb, hml, hown, hts, ⟨hf1, hf2, hf3, hf4⟩, hK, hD, hA, hN⟩ := hE
  intro H locs ls hS hP hl
  subst hav
  exact lv_tableIn hx hb d (by rw [i32_I ha]; exact h1) (by rw [i32_I ha]; exact h2) (by rw [i32_I ha]; exact ho) ht (k H locs ls hS hP hl)
theorem z_tOut (hE : zG E l0 D0 cI0 cJ0 ad cc nL0 own fr lo) {dflt lo1 hi a : Int} {offs : Array Int} {len tgt : Nat} (d : decode cc pc = .ok (.tableswitch dflt lo1 hi offs, len)) (ha : b32 a) (h : a < lo1 ∨ hi < a) (ht : (pc : Int) + dflt = (tgt : Int)) (k : Z E S tgt L st) : Z E S pc L (.int (i32 a) :: st) := by
  obtain ⟨p, l, e, R, s, m, args, below, meth, c, Q, A, D, cI, cJ, ad1, nL, cells, slots⟩ := E
  obtain ⟨⟨rfl, rfl, rfl, rfl, rfl, rfl⟩, hx, hb, hml, hown, hts, ⟨hf1, hf2, hf3, hf4⟩, hK, hD, hA, hN⟩ := hE
  intro H locs ls hS hP hl
  exact lv_tableOut hx hb d (by rw [i32_I ha]; exact h) ht (k H locs ls hS hP hl)
theorem z_look (hE : zG E l0 D0 cI0 cJ0 ad cc nL0 own fr lo) {dflt off a : Int} {ps : Array (Int × Int)} {len tgt : Nat} (d : decode cc pc = .ok (.lookupswitch dflt ps, len)) (ha : b32 a) (hp : (ps.toList.zip (ps.toList.drop 1)).all (fun (a, next) => a.1 < next.1) = true) (ho : Op.lookupswitch.offset ps.toList dflt a = off) (ht : (pc : Int) + off = (tgt : Int)) (k : Z E S tgt L st) : Z E S pc L (.int (i32 a) :: st) := by
  obtain ⟨p, l, e, R, s, m, args, below, meth, c, Q, A, D, cI, cJ, ad1, nL, cells, slots⟩ := E
  obtain ⟨⟨rfl, rfl, rfl, rfl, rfl, rfl⟩, hx, hb, hml, hown, hts, ⟨hf1, hf2, hf3, hf4⟩, hK, hD, hA, hN⟩ := hE
  intro H locs ls hS hP hl
  exact lv_lookup hx hb d hp (by rw [i32_I ha]; exact ho) ht (k H locs ls hS hP hl)
end ZR
section ZT
variable {E : zE} {l0 : Launch} {D0 : va_G} {cI0 cJ0 : ClassId} {ad : Nat → Nat → Nat} {cc : ByteArray} {nL0 fr lo : Nat} {own : String} {S : zM} {pc : Nat} {L : List (Nat × Value)} {st : List Value}
theorem z_iret {rv : Option Value} {P : zM → Prop} (hE : zG E l0 D0 cI0 cJ0 ad cc nL0 own fr lo) (hR : zR E (some .int) rv P) {a : Int} (d : decode cc pc = .ok (.ireturn, 1)) (hv : rv = some (.int (i32 a))) (hT : P S) : Z E S pc L [.int (i32 a)] := by
  subst hv
  obtain ⟨p, l, e, R, s, m, args, below, meth, c, Q, A, D, cI, cJ, ad1, nL, cells, slots⟩ := E
  obtain ⟨⟨rfl, rfl, rfl, rfl, rfl, rfl⟩, hx, hb, hml, hown, hts, ⟨hf1, hf2, hf3, hf4⟩, hK, hD, hA, hN⟩ := hE
  obtain ⟨hQ, hr, hlk, rfl, rfl, rfl⟩ := hR
  intro H locs ls hS hP hl
  rw [hQ]
  exact W.iret hx hb hr (fun t ht hW => ⟨⟨rfl, S, hT, by rw [ht]; exact hP⟩, hS.F ht⟩) hS.2.2 d hlk
theorem z_lret {rv : Option Value} {P : zM → Prop} (hE : zG E l0 D0 cI0 cJ0 ad cc nL0 own fr lo) (hR : zR E (some .long) rv P) {a : Int} (d : decode cc pc = .ok (.lreturn, 1)) (hv : rv = some (.long (i64 a))) (hT : P S) : Z E S pc L [.long (i64 a)] := by
  subst hv
  obtain ⟨p, l, e, R, s, m, args, below, meth, c, Q, A, D, cI, cJ, ad1, nL, cells, slots⟩ := E
  obtain ⟨⟨rfl, rfl, rfl, rfl, rfl, rfl⟩, hx, hb, hml, hown, hts, ⟨hf1, hf2, hf3, hf4⟩, hK, hD, hA, hN⟩ := hE
  obtain ⟨hQ, hr, hlk, rfl, rfl, rfl⟩ := hR
  intro H locs ls hS hP hl
  rw [hQ]
  exact W.lret hx hb hr (fun t ht hW => ⟨⟨rfl, S, hT, by rw [ht]; exact hP⟩, hS.F ht⟩) hS.2.2 d hlk
theorem z_vret {rv : Option Value} {P : zM → Prop} (hE : zG E l0 D0 cI0 cJ0 ad cc nL0 own fr lo) (hR : zR E none rv P) (d : decode cc pc = .ok (.return_, 1)) (hv : rv = none) (hT : P S) : Z E S pc L [] := by
  subst hv
  obtain ⟨p, l, e, R, s, m, args, below, meth, c, Q, A, D, cI, cJ, ad1, nL, cells, slots⟩ := E
  obtain ⟨⟨rfl, rfl, rfl, rfl, rfl, rfl⟩, hx, hb, hml, hown, hts, ⟨hf1, hf2, hf3, hf4⟩, hK, hD, hA, hN⟩ := hE
  obtain ⟨hQ, hr, hlk, rfl, rfl, rfl⟩ := hR
  intro H locs ls hS hP hl
  rw [hQ]
  exact W.vret hx hb hr (fun t ht hW => ⟨⟨rfl, S, hT, by rw [ht]; exact hP⟩, hS.F ht⟩) hS.2.2 d hlk
theorem z_zret {rv : Option Value} {P : zM → Prop} (hE : zG E l0 D0 cI0 cJ0 ad cc nL0 own fr lo) (hR : zR E (some .boolean) rv P) {a : Int} (d : decode cc pc = .ok (.ireturn, 1)) (h01 : a = 0 ∨ a = 1) (hv : rv = some (.int (i32 a))) (hT : P S) : Z E S pc L [.int (i32 a)] := by
  subst hv
  obtain ⟨p, l, e, R, s, m, args, below, meth, c, Q, A, D, cI, cJ, ad1, nL, cells, slots⟩ := E
  obtain ⟨⟨rfl, rfl, rfl, rfl, rfl, rfl⟩, hx, hb, hml, hown, hts, ⟨hf1, hf2, hf3, hf4⟩, hK, hD, hA, hN⟩ := hE
  obtain ⟨hQ, hr, hlk, rfl, rfl, rfl⟩ := hR
  intro H locs ls hS hP hl
  rw [hQ]
  exact W.zret hx hb hr (by rcases h01 with rfl | rfl <;> decide) (fun t ht hW => ⟨⟨rfl, S, hT, by rw [ht]; exact hP⟩, hS.F ht⟩) hS.2.2 d hlk
end ZT
