/-! THE CLAIM OUT OF ONE WALK OF THE LAW'S BODY. Your part is whole_start (and what it stands on); all else here is the same for every law, but numbers. -/
def R_law : String := "DairySharesLaw"
def lw_P (b : Addr) (xs : List Int32) (args : Array Value) (s : State) : Prop := args = #[.ref b] ∧ s.IntsAt b xs ∧ xs.length ≤ 260 ∧ (Jvm.Cond.and given_1 narrow_1).before args s = true
def lw_Q (_ : Array Value) (s : State) (o : Outcome) (t : State) : Prop := o = .returned (some (.int 1)) ∧ Framed s o t [] 117 3416
def lw_Z (below : List Frame) (a : Array Value) (s : State) : State → Prop := fun t => ∃ o, t.status = .running ∧ Ended t below o ∧ lw_Q a s o t
/-- the law's own end, with 1 on the stack, nothing written that was there before, its room as the claim has it -/
theorem lw_ret {p : Program} {l : Launch} {e : Env} {s : State} {m : MethodId} {below : List Frame} {meth : Method} {c : Code} {b : Nat} (hx : p.tables.exec = Jvm.exec) (hb : c.code = code) (hr : meth.sig.returnType = ret) (hlocks : meth.locks = false) {pc : Nat} {H : Heap} {ls : Array Slot} (hdg : decode code pc = .ok (.ireturn, 1)) : W p l e room_1 s m #[Value.ref b] below meth c H [] 117 3416 (lw_Z below #[Value.ref b] s) (F0 m pc ls [.int 1]) := by
  intro T hT X
  obtain ⟨fs, hret, hrun, hended, hW, hframe⟩ := X.leave (v := some (.int 1)) (hlocks := hlocks) (fun h => by rw [hr] at h; cases h)
  have hmeth' : T.vm.method? m = some meth := X.method'
  refine ⟨T.setFrames fs, ?_, .returned (some (.int 1)), hrun, hended, rfl, ⟨_, rfl⟩, hW, hframe⟩
  jvm_step X.here [X.here.top, hx, hb, hdg, hmeth', hr, ret, narrow_b1]
  (try refine ⟨rfl, ?_⟩); (try refine ⟨rfl, ?_⟩)
  first | (intro acts; rw [hret _ acts rfl rfl rfl]) | rw [hret _ _ rfl rfl rfl]
  exact Steps.refl _
/-- what holds at the law's entry: the machine, the code, the tables' words (any of lw_tbl by 'hts w (by decide +kernel)'), the script of L ints xs at the cell b, what the Statement gives of the start (any of its parts by flat_of_before) -/
def lw_At (p : Program) (s : State) (m : MethodId) (meth : Method) (c : Code) (b L : Nat) (xs : Nat → Int32) : Prop :=
  p.tables.exec = Jvm.exec ∧ c.code = code ∧ meth.sig.returnType = ret ∧ c.maxLocals = 21 ∧ s.vm.findClass R_law = some m.cls ∧ (∀ w ∈ lw_tbl, w.before #[Value.ref b] s = true) ∧ va_X b L xs s s.heap ∧ b < s.heap.size ∧ meth.locks = false ∧ (Jvm.Cond.and given_1 narrow_1).before #[Value.ref b] s = true
def s0 : Int → Int := up (up (up (up (up (up (up (fun _ => 0) 1 1000) 3 50) 4 25) 5 100) 6 100) 13 3) 17 50
theorem s0z {q : Int} (h : q ≠ 1 ∧ q ≠ 3 ∧ q ≠ 4 ∧ q ≠ 5 ∧ q ≠ 6 ∧ q ≠ 13 ∧ q ≠ 17) : s0 q = 0 := by
  unfold s0
  rw [up_ne (by omega), up_ne (by omega), up_ne (by omega), up_ne (by omega), up_ne (by omega), up_ne (by omega), up_ne (by omega)]
theorem inv_s0 : Inv s0 := by
  have z : ∀ q : Int, 18 ≤ q → s0 q = 0 := fun q h => s0z (by omega)
  have z0 : s0 0 = 0 := rfl
  have z14 : s0 14 = 0 := rfl
  have z15 : s0 15 = 0 := rfl
  have zr : ∀ m : Int, sp_rem s0 m = 0 := fun m => by unfold sp_rem; rw [z14]; rfl
  refine ⟨⟨?_, fun k a b => ?_, fun m a b => ?_, ?_, fun o a b => ?_, fun o w a b c d => ?_, fun o k a b c d => ?_, fun q a b => ?_, fun q k a b c d => ?_, fun m a b => ?_⟩, fun o a b c => ?_, rfl⟩
  · unfold InvA; decide +kernel
  · rw [s0z (by omega)]; omega
  · rw [z _ (by omega), z _ (by omega)]; omega
  · unfold sp_all; rw [z0, sm_0]; decide
  · rw [z14] at b; omega
  · rw [z14] at a; exact z _ (by omega)
  · rw [z _ (by omega)]; omega
  · rw [z15] at b; omega
  · rw [z _ (by omega)]; omega
  · rw [zr, z _ (by omega)]; omega
  · rw [z14] at b; omega
def S0 : zM := fun r => if r = 5 then (fun q => if 1 ≤ q ∧ q ≤ 5 then q - 1 else 0) else if r = 6 then (fun _ => 0) else s0
theorem S0_s {r : Nat} (h : r < 5) : S0 r = s0 := by unfold S0; rw [if_neg (by omega), if_neg (by omega)]
theorem rj_0 : RJ S0 := ⟨rfl, ⟨by decide, by decide⟩, 1, 2, 3, 4, by decide, by decide, by decide, by decide, rfl, rfl, rfl, rfl, by decide, by decide, by decide, by decide⟩
def cow (cI : ClassId) (g : Nat → Nat) : va_W := [(g 27, .inl (cI, 20, .inl (fun _ => 0))), (g 28, .inl (cI, 20, .inl (fun _ => 0)))]
def ad0 (f : Nat → Nat → Nat) (g g2 : Nat → Nat) : Nat → Nat → Nat := fun r j => if r < 5 then f r j else if r = 5 then g j else g2 j
theorem cz_z {n : Nat} {s off : Int → Int} (h : ∀ k : Nat, k < n → s (off k) = 0) : cz n s off = fun _ => 0 := by
  funext k; unfold cz; split
  · rename_i hk; rw [h k hk]; rfl
  · rfl
theorem cy_z {n : Nat} {s off : Int → Int} (h : ∀ k : Nat, k < n → s (off k) = 0) : cy n s off = fun _ => 0 := by
  funext k; unfold cy; split
  · rename_i hk; rw [h k hk]; rfl
  · rfl
theorem cz0_2 : cz 12 s0 (of3 19) = fun _ => 0 := cz_z fun k hk => s0z (by unfold of3; omega)
theorem cz0_3 : cz 12 s0 (of3 20) = fun _ => 0 := cz_z fun k hk => s0z (by unfold of3; omega)
theorem cz0_7 : cz 3 s0 (of1 10) = fun _ => 0 := cz_z fun k hk => s0z (by unfold of1; omega)
theorem cz0_9 : cz 20 s0 (of22 55) = fun _ => 0 := cz_z fun k hk => s0z (by unfold of22; omega)
theorem cz0_10 : cz 20 s0 (of22 56) = fun _ => 0 := cz_z fun k hk => s0z (by unfold of22; omega)
theorem cz0_11 : cz 20 s0 (of22 58) = fun _ => 0 := cz_z fun k hk => s0z (by unfold of22; omega)
theorem cz0_12 : cz 20 s0 (of22 57) = fun _ => 0 := cz_z fun k hk => s0z (by unfold of22; omega)
theorem cz0_13 : cz 20 s0 (of22 59) = fun _ => 0 := cz_z fun k hk => s0z (by unfold of22; omega)
theorem cz0_14 : cz 20 s0 (of1 645) = fun _ => 0 := cz_z fun k hk => s0z (by unfold of1; omega)
theorem cz0_15 : cz 80 s0 (ofS) = fun _ => 0 := cz_z fun k hk => s0z (by unfold ofS; omega)
theorem cz0_16 : cz 240 s0 (ofC) = fun _ => 0 := cz_z fun k hk => s0z (by unfold ofC; omega)
theorem cz0_18 : cz 10 s0 (of15 495) = fun _ => 0 := cz_z fun k hk => s0z (by unfold of15; omega)
theorem cz0_19 : cz 10 s0 (of15 496) = fun _ => 0 := cz_z fun k hk => s0z (by unfold of15; omega)
theorem cz0_20 : cz 10 s0 (of15 497) = fun _ => 0 := cz_z fun k hk => s0z (by unfold of15; omega)
theorem cz0_21 : cz 120 s0 (ofB) = fun _ => 0 := cz_z fun k hk => s0z (by unfold ofB; omega)
theorem cy0_4 : cy 12 s0 (of3 21) = fun _ => 0 := cy_z fun k hk => s0z (by unfold of3; omega)
theorem rg_eq {cI cJ : ClassId} {ad : Nat → Nat → Nat} {S : zM} {r : Nat} {q : Nat → Nat} (hq : ad r = q) (hs : S r = s0) : (List.range 22).map (fun j => (ad r j, cf cI cJ ad S r j)) = rgw cI cJ q := by
  show [(ad r 0, cf cI cJ ad S r 0), (ad r 1, cf cI cJ ad S r 1), (ad r 2, cf cI cJ ad S r 2), (ad r 3, cf cI cJ ad S r 3), (ad r 4, cf cI cJ ad S r 4), (ad r 5, cf cI cJ ad S r 5), (ad r 6, cf cI cJ ad S r 6), (ad r 7, cf cI cJ ad S r 7), (ad r 8, cf cI cJ ad S r 8), (ad r 9, cf cI cJ ad S r 9), (ad r 10, cf cI cJ ad S r 10), (ad r 11, cf cI cJ ad S r 11), (ad r 12, cf cI cJ ad S r 12), (ad r 13, cf cI cJ ad S r 13), (ad r 14, cf cI cJ ad S r 14), (ad r 15, cf cI cJ ad S r 15), (ad r 16, cf cI cJ ad S r 16), (ad r 17, cf cI cJ ad S r 17), (ad r 18, cf cI cJ ad S r 18), (ad r 19, cf cI cJ ad S r 19), (ad r 20, cf cI cJ ad S r 20), (ad r 21, cf cI cJ ad S r 21)] = _
  simp only [cf, hs, hq]
  rw [cz0_2, cz0_3, cz0_7, cz0_9, cz0_10, cz0_11, cz0_12, cz0_13, cz0_14, cz0_15, cz0_16, cz0_18, cz0_19, cz0_20, cz0_21, cy0_4]
  rfl
theorem world_mem {cI cJ : ClassId} {f : Nat → Nat → Nat} {g g2 : Nat → Nat} {x : Nat × Nat} (hx : x ∈ ks) : (ad0 f g g2 x.1 x.2, cf cI cJ (ad0 f g g2) S0 x.1 x.2) ∈ syw cI cJ f g ++ cow cI g2 := by
  rcases List.mem_append.mp hx with h | h
  · obtain ⟨r, hr, h⟩ := List.mem_flatMap.mp h
    obtain ⟨j, hj, rfl⟩ := List.mem_map.mp h
    have hr5 := List.mem_range.mp hr
    have hm : (ad0 f g g2 r j, cf cI cJ (ad0 f g g2) S0 r j) ∈ rgw cI cJ (f r) := by
      rw [← rg_eq (cI := cI) (cJ := cJ) (ad := ad0 f g g2) (S := S0) (r := r) (q := f r) (by funext z; unfold ad0; rw [if_pos hr5]) (S0_s hr5)]
      exact List.mem_map.mpr ⟨j, hj, rfl⟩
    refine List.mem_append_left _ (List.mem_cons_of_mem _ (List.mem_append_left _ ?_))
    rcases (show r = 0 ∨ r = 1 ∨ r = 2 ∨ r = 3 ∨ r = 4 by omega) with rfl | rfl | rfl | rfl | rfl
    · exact List.mem_append_left _ (List.mem_append_left _ (List.mem_append_left _ (List.mem_append_left _ hm)))
    · exact List.mem_append_left _ (List.mem_append_left _ (List.mem_append_left _ (List.mem_append_right _ hm)))
    · exact List.mem_append_left _ (List.mem_append_left _ (List.mem_append_right _ hm))
    · exact List.mem_append_left _ (List.mem_append_right _ hm)
    · exact List.mem_append_right _ hm
  · simp only [List.mem_cons, List.not_mem_nil, or_false] at h
    have z5 : ∀ a n : Nat, 6 ≤ a → cz n (S0 5) (of1 a) = fun _ => 0 := fun a n ha => cz_z fun k hk => by
      show (if 1 ≤ of1 a k ∧ of1 a k ≤ 5 then of1 a k - 1 else 0) = (0 : Int)
      rw [if_neg (by unfold of1; omega)]
    have z6 : ∀ a : Int, cz 20 (S0 6) (of1 a) = fun _ => 0 := fun a => cz_z fun k hk => rfl
    rcases h with rfl | rfl | rfl | rfl | rfl | rfl | rfl
    · exact List.mem_append_left _ List.mem_cons_self
    · exact List.mem_append_left _ (List.mem_cons_of_mem _ (List.mem_append_right _ (List.mem_of_getElem? (i := 0) rfl)))
    · refine List.mem_append_left _ (List.mem_cons_of_mem _ (List.mem_append_right _ (List.mem_of_getElem? (i := 1) ?_)))
      show _ = some (_, Sum.inl (cI, 12, Sum.inl (cz 12 (S0 5) (of1 (100 : Nat)))))
      rw [z5 100 12 (by decide)]; rfl
    · refine List.mem_append_left _ (List.mem_cons_of_mem _ (List.mem_append_right _ (List.mem_of_getElem? (i := 2) ?_)))
      show _ = some (_, Sum.inl (cI, 12, Sum.inl (cz 12 (S0 5) (of1 (200 : Nat)))))
      rw [z5 200 12 (by decide)]; rfl
    · refine List.mem_append_left _ (List.mem_cons_of_mem _ (List.mem_append_right _ (List.mem_of_getElem? (i := 3) ?_)))
      show _ = some (_, Sum.inl (cI, 12, Sum.inl (cz 12 (S0 5) (of1 (300 : Nat)))))
      rw [z5 300 12 (by decide)]; rfl
    · refine List.mem_append_right _ (List.mem_of_getElem? (i := 0) ?_)
      show _ = some (_, Sum.inl (cI, 20, Sum.inl (cz 20 (S0 6) (of1 100))))
      rw [z6 100]; rfl
    · refine List.mem_append_right _ (List.mem_of_getElem? (i := 1) ?_)
      show _ = some (_, Sum.inl (cI, 20, Sum.inl (cz 20 (S0 6) (of1 200))))
      rw [z6 200]; rfl
def kp : List (Nat × Nat) := (5, 22) :: (((List.range 5).flatMap fun r => (List.range 22).map fun j => (r, j)) ++ [(5, 23), (5, 24), (5, 25), (5, 26), (6, 27), (6, 28)])
theorem kp_in : ∀ x ∈ ks, x ∈ kp := by decide +kernel
set_option maxRecDepth 100000 in
theorem kp_ad {cI cJ : ClassId} {f : Nat → Nat → Nat} {g g2 : Nat → Nat} : (syw cI cJ f g ++ cow cI g2).map Prod.fst = kp.map (fun x => ad0 f g g2 x.1 x.2) := rfl
theorem world_D {cI cJ : ClassId} {f : Nat → Nat → Nat} {g g2 : Nat → Nat} {A : Nat → Prop} (h : va_D A (syw cI cJ f g ++ cow cI g2)) : va_D A (wl (ad0 f g g2) fun _ _ => .inr (0, [])) := by
  have key : ∀ x ∈ ks, ∃ (i : Nat) (e : va_E), kp[i]? = some x ∧ (syw cI cJ f g ++ cow cI g2)[i]? = some (ad0 f g g2 x.1 x.2, e) := fun x hx => by
    obtain ⟨i, hi⟩ := List.getElem?_of_mem (kp_in x hx)
    have h1 : ((syw cI cJ f g ++ cow cI g2).map Prod.fst)[i]? = some (ad0 f g g2 x.1 x.2) := by rw [kp_ad, List.getElem?_map, hi]; rfl
    rw [List.getElem?_map] at h1
    cases hq : (syw cI cJ f g ++ cow cI g2)[i]? with
    | none => rw [hq] at h1; cases h1
    | some y =>
      rw [hq] at h1
      have h2 : y.1 = ad0 f g g2 x.1 x.2 := Option.some.inj h1
      exact ⟨i, y.2, hi, by rw [hq, ← h2]⟩
  have at' : ∀ (k : Nat) (p : Nat × va_E), (wl (ad0 f g g2) fun _ _ => .inr (0, []))[k]? = some p → ∃ x, ks[k]? = some x ∧ p.1 = ad0 f g g2 x.1 x.2 := fun k p hk => by
    unfold wl at hk
    rw [List.getElem?_map] at hk
    cases hq : ks[k]? with
    | none => rw [hq] at hk; cases hk
    | some x => rw [hq] at hk; cases hk; exact ⟨x, rfl, rfl⟩
  refine ⟨fun i j p q hi hj hpq => ?_, fun k p hk => ?_⟩
  · obtain ⟨x, hx, ex⟩ := at' i p hi
    obtain ⟨y, hy, ey⟩ := at' j q hj
    obtain ⟨i2, e2, k1, k2⟩ := key x (List.mem_of_getElem? hx)
    obtain ⟨j2, e3, k3, k4⟩ := key y (List.mem_of_getElem? hy)
    have e := h.1 i2 j2 _ _ k2 k4 (ex.symm.trans (hpq.trans ey))
    rw [e, k3] at k1
    cases k1
    exact ks_one hx hy
  · obtain ⟨x, hx, ex⟩ := at' k p hk
    obtain ⟨i2, e2, k1, k2⟩ := key x (List.mem_of_getElem? hx)
    rw [ex]; exact h.2 i2 _ k2
theorem world_P {cI cJ : ClassId} {f : Nat → Nat → Nat} {g g2 : Nat → Nat} {D : va_G} {H : Heap} (h : va_P D vwCl (syw cI cJ f g ++ cow cI g2) H) : va_P D vwCl (wl (ad0 f g g2) (cf cI cJ (ad0 f g g2) S0)) H := by
  intro k q hk
  have hm := List.mem_of_getElem? hk
  unfold wl at hm
  obtain ⟨x, hx, rfl⟩ := List.mem_map.mp hm
  obtain ⟨i, hi⟩ := List.getElem?_of_mem (world_mem (cI := cI) (cJ := cJ) (f := f) (g := g) (g2 := g2) hx)
  exact h i _ hi
abbrev lE (p : Program) (l : Launch) (e : Env) (s : State) (m : MethodId) (below : List Frame) (meth : Method) (c : Code) (b : Nat) (D : va_G) (cI cJ : ClassId) (ad : Nat → Nat → Nat) : zE := (p, l, e, room_1, s, m, #[Value.ref b], below, meth, c, lw_Z below #[Value.ref b] s, (fun q : Nat => s.heap.size ≤ q), D, cI, cJ, ad, 21, 117, 3416)
set_option maxHeartbeats 4000000 in
set_option maxRecDepth 100000 in
theorem law_loop {p : Program} {l : Launch} {e : Env} {s : State} {m : MethodId} {below : List Frame} {meth : Method} {c : Code} {b : Nat} {D : va_G} {cI cJ : ClassId} {ad : Nat → Nat → Nat} {N : Nat} {xs : Nat → Int32} (hE : zG (lE p l e s m below meth c b D cI cJ ad) l D cI cJ ad cL_law 21 RL 10 394) (hX : zX (lE p l e s m below meth c b D cI cJ ad) b N xs) (hx : p.tables.exec = Jvm.exec) (hb : c.code = code) (hr : meth.sig.returnType = ret) (hlocks : meth.locks = false) : ∀ (fuel : Nat) (S : zM) (k : Int), LK S k → 0 ≤ k → k ≤ 24 → (24 - k).toNat < fuel → Z (lE p l e s m below meth c b D cI cJ ad) S 64 [(5, .int (i32 k)), (4, .int (i32 1)), (0, .ref b), (1, .ref (ad 5 22)), (2, .ref (ad 6 27)), (3, .ref (ad 6 28))] [] := by
  intro fuel
  induction fuel with
  | zero => intro _ _ _ _ _ hz; omega
  | succ fuel ih =>
    intro S k hL h0 h1 hz
    refine lc_round hE hX hL ⟨h0, h1⟩ (lc_end hE hX hL (fun X => ?_)) (fun hk X hLX => ih X (k + 1) hLX (by omega) (by omega) (by omega))
    intro H locs ls hS hP hl
    refine va_forget (fun q hq => hS.2.2 q hq) ?_
    exact lw_ret hx hb hr hlocks dL_law_910
set_option maxHeartbeats 4000000 in
set_option maxRecDepth 100000 in
theorem whole_start {p : Program} {e : Env} {s : State} {m : MethodId} {below : List Frame} {meth : Method} {c : Code} (l : Launch) (hflags : l.flags = flags0) {b L : Nat} {xs : Nat → Int32} (hL : L ≤ 260) (C0 : lw_At p s m meth c b L xs) : W p l e room_1 s m #[Value.ref b] below meth c s.heap [] 0 0 (lw_Z below #[Value.ref b] s) (entryFrame m ([Value.ref b] : List Value).toArray 21) := by
  obtain ⟨hx, hb, hr, hml, hown, hts, hX, hbl, hlocks, hgv⟩ := id C0
  have hW : ∀ w ∈ wsL_law, w.before #[Value.ref b] s = true := fun w h => hts w (lw_all w h)
  have hNw : ∀ w ∈ nw, va_Nw w s := fun w h => va_Nw.of (A := #[Value.ref b]) (by simp only [nw, List.mem_cons, List.not_mem_nil, or_false] at h; rcases h with rfl | rfl | rfl | rfl | rfl | rfl | rfl | rfl | rfl | rfl <;> rfl) (hts w (lw_nest w h))
  obtain ⟨c0, i0, hKn0⟩ := u_known (C := RX0) (T := TX0) (N := 5) (n := 5) hW inlX0 (hW _ zb_RX0)
  obtain ⟨c1, i1, hKn1⟩ := u_known (C := RX1) (T := TX1) (N := 4) (n := 4) hW inlX1 (hW _ zb_RX1)
  obtain ⟨c2, i2, hKn2⟩ := u_known (C := RX2) (T := TX2) (N := 5) (n := 5) hW inlX2 (hW _ zb_RX2)
  obtain ⟨c3, i3, hKn3⟩ := u_known (C := RX3) (T := TX3) (N := 9) (n := 9) hW inlX3 (hW _ zb_RX3)
  obtain ⟨c4, i4, hKn4⟩ := u_known (C := RX4) (T := TX4) (N := 7) (n := 7) hW inlX4 (hW _ zb_RX4)
  obtain ⟨c5, i5, hKn5⟩ := u_known (C := RX5) (T := TX5) (N := 7) (n := 7) hW inlX5 (hW _ zb_RX5)
  obtain ⟨c6, i6, hKn6⟩ := u_known (C := RX6) (T := TX6) (N := 3) (n := 3) hW inlX6 (hW _ zb_RX6)
  obtain ⟨c7, i7, hKn7⟩ := u_known (C := RX7) (T := TX7) (N := 7) (n := 7) hW inlX7 (hW _ zb_RX7)
  obtain ⟨cI, kI, compI, hfI, hkI, hkdI⟩ := Cond.arrayClass_spec (hW _ za_int)
  obtain ⟨cJ, kJ, compJ, hfJ, hkJ, hkdJ⟩ := Cond.arrayClass_spec (hW _ za_long)
  obtain ⟨dC, dI, hKc⟩ : ∃ (dC : Nat → ClassId) (dI : Nat → Nat → Nat), ∀ (k : Nat) (q : vw_C), vwCl[k]? = some q → u_Kn s q.1 q.2.1 q.2.2 (dC k) (dI k) := by
    refine ⟨fun k => if k = 0 then c0 else if k = 1 then c1 else if k = 2 then c2 else if k = 3 then c3 else if k = 4 then c4 else if k = 5 then c5 else if k = 6 then c6 else c7, fun k => if k = 0 then i0 else if k = 1 then i1 else if k = 2 then i2 else if k = 3 then i3 else if k = 4 then i4 else if k = 5 then i5 else if k = 6 then i6 else i7, ?_⟩
    intro k q hq
    match k, hq with
    | 0, hq => cases hq; exact hKn0
    | 1, hq => cases hq; exact hKn1
    | 2, hq => cases hq; exact hKn2
    | 3, hq => cases hq; exact hKn3
    | 4, hq => cases hq; exact hKn4
    | 5, hq => cases hq; exact hKn5
    | 6, hq => cases hq; exact hKn6
    | 7, hq => cases hq; exact hKn7
    | k + 8, hq => simp [vwCl] at hq
  have hK : va_K (dC, dI) vwCl [(cI, .int), (cJ, .long)] s := ⟨hKc, fun k q h => by
    match k, h with
    | 0, h => cases h; exact ⟨fun n z => ⟨fun k h => (by cases h), kI, hkI, compI, hkdI⟩, hfI⟩
    | 1, h => cases h; exact ⟨fun n z => ⟨fun k h => (by cases h), kJ, hkJ, compJ, hkdJ⟩, hfJ⟩
    | k + 2, h => simp at h⟩
  have hA : ∀ q : Nat, s.heap.size ≤ q → (fun q : Nat => s.heap.size ≤ q) q := fun _ h => h
  have hS : va_S (fun q : Nat => s.heap.size ≤ q) s.heap s.heap [] := va_S.rf
  have hP : va_P (dC, dI) vwCl [] s.heap := fun k q h => by simp at h
  have hD : va_D (fun q : Nat => s.heap.size ≤ q) [] := ⟨fun i j p q h => by simp at h, fun k q h => by simp at h⟩
  have hl := lv_entry ([.ref b]) (n := 21) (Nat.le_of_ble_eq_true rfl)
  rw [lg_entry_eq]
  generalize (lg_sl ([.ref b]) ++ List.replicate (21 - (lg_sl ([.ref b])).length) Slot.unset).toArray = ls at hl ⊢
  have hl : lv_has ls 21 [(0, .ref b)] := hl
  have hY : yG (p, l, e, room_1, s, m, #[Value.ref b], below, meth, c, lw_Z below #[Value.ref b] s, (fun q : Nat => s.heap.size ≤ q), (dC, dI), cI, cJ, 21) l (dC, dI) cI cJ cL_law 21 RL 10 394 117 3416 := ⟨⟨rfl, rfl, rfl, rfl, rfl⟩, hx, hb, hml, hown, hW, ⟨rfl, rfl, rfl, rfl⟩, hK, hA, hNw⟩
  have main : Y (p, l, e, room_1, s, m, #[Value.ref b], below, meth, c, lw_Z below #[Value.ref b] s, (fun q : Nat => s.heap.size ≤ q), (dC, dI), cI, cJ, 21) [] 0 0 0 [(0, .ref b)] [] := by
    refine y_new (ci := 7) (fs := [.null, .null, .null, .null, .null, .int 0, .null]) hY rfl inlX7 tyX7_ok zy_L_15 zb_RX7 zn_RX7 (fun j hj => by rcases (show j = 0 ∨ j = 1 ∨ j = 2 ∨ j = 3 ∨ j = 4 ∨ j = 5 ∨ j = 6 by omega) with rfl | rfl | rfl | rfl | rfl | rfl | rfl <;> rfl) (by decide) (by decide) dL_law_0 (fun q7 => ?_)
    refine y_dup hY rfl dL_law_3 ?_
    refine y_callL hY (c_X7_init l (dC, dI) cI cJ q7) zm_L_101 zi_yX7_init zn_RX7 zc_yX7_init rfl hy_X7_init (by decide) (by decide) (by decide) (by decide) (Nat.le_of_ble_eq_true rfl) dL_law_4 (fun w7 hw7 => ?_)
    obtain ⟨f, g, rfl, rfl⟩ := hw7
    refine y_astore_n (L2 := [(1, .ref (g 22)), (0, .ref b)]) hY rfl (by decide) rfl dL_law_7 ?_
    refine y_bipush (a := 20) hY (by decide) dL_law_8 ?_
    refine y_newI hY 20 za_int (by decide) (by decide) (by decide) (by decide) dL_law_10 (fun qa => ?_)
    refine y_astore_n (L2 := [(2, .ref qa), (1, .ref (g 22)), (0, .ref b)]) hY rfl (by decide) rfl dL_law_12 ?_
    refine y_bipush (a := 20) hY (by decide) dL_law_13 ?_
    refine y_newI hY 20 za_int (by decide) (by decide) (by decide) (by decide) dL_law_15 (fun qb => ?_)
    refine y_astore_n (L2 := [(3, .ref qb), (2, .ref qa), (1, .ref (g 22)), (0, .ref b)]) hY rfl (by decide) rfl dL_law_17 ?_
    intro H locs ls hS hP hD hl
    obtain ⟨g2, hga, hgb⟩ : ∃ g2 : Nat → Nat, g2 27 = qa ∧ g2 28 = qb := ⟨fun j => if j = 27 then qa else qb, rfl, rfl⟩
    have eW : (([] ++ syw cI cJ f g) ++ [(qa, .inl (cI, 20, .inl (fun _ => 0)))]) ++ [(qb, .inl (cI, 20, .inl (fun _ => 0)))] = syw cI cJ f g ++ cow cI g2 := by
      rw [List.nil_append, List.append_assoc]
      unfold cow
      rw [hga, hgb]; rfl
    have hP : va_P (dC, dI) vwCl (syw cI cJ f g ++ cow cI g2) H := by rw [← eW]; exact hP
    have hD : va_D (fun q : Nat => s.heap.size ≤ q) (syw cI cJ f g ++ cow cI g2) := by rw [← eW]; exact hD
    have hl : lv_has ls 21 [(3, .ref (ad0 f g g2 6 28)), (2, .ref (ad0 f g g2 6 27)), (1, .ref (ad0 f g g2 5 22)), (0, .ref b)] := by
      show lv_has ls 21 [(3, .ref (g2 28)), (2, .ref (g2 27)), (1, .ref (g 22)), (0, .ref b)]
      rw [hga, hgb]; exact hl
    have hD2 := world_D hD
    have hE : zG (lE p l e s m below meth c b (dC, dI) cI cJ (ad0 f g g2)) l (dC, dI) cI cJ (ad0 f g g2) cL_law 21 RL 10 394 := ⟨⟨rfl, rfl, rfl, rfl, rfl, rfl⟩, hx, hb, hml, hown, hW, ⟨rfl, rfl, Nat.le_of_ble_eq_true rfl, Nat.le_of_ble_eq_true rfl⟩, hK, hD2, fun a ha => by
      obtain ⟨q, hq, rfl⟩ := ha
      obtain ⟨k, hk⟩ := List.getElem?_of_mem hq
      exact hD2.2 k (ad0 f g g2 q.1 q.2, .inr (0, [])) (by unfold wl; rw [List.getElem?_map, hk]; rfl), hNw⟩
    have hXX : zX (lE p l e s m below meth c b (dC, dI) cI cJ (ad0 f g g2)) b L xs := ⟨hX, hbl, Nat.not_le.mpr hbl, hL⟩
    have e0 : S0 0 = s0 := S0_s (by omega)
    have fin : Z (lE p l e s m below meth c b (dC, dI) cI cJ (ad0 f g g2)) S0 18 [(3, .ref (ad0 f g g2 6 28)), (2, .ref (ad0 f g g2 6 27)), (1, .ref (ad0 f g g2 5 22)), (0, .ref b)] [] :=
      lc_head hE hXX rj_0 (by rw [e0]; exact inv_s0) rfl (by rw [e0]; rfl) (by rw [e0]; rfl) (by rw [e0]; decide +kernel) (fun x h1 h2 => by rw [e0]; exact s0z (by omega)) (fun X hLX => law_loop hE hXX hx hb hr hlocks 25 X 0 hLX (by omega) (by omega) (by omega))
    exact fin H locs ls hS (world_P hP) hl
  exact main s.heap [] ls hS hP hD hl
set_option maxHeartbeats 4000000 in
theorem lw_walk (l : Launch) (hflags : l.flags = flags0) (b : Addr) (xs : List Int32) : MetFree l x (headSpec (Jvm.Cond.code x code maxLocals ret :: tables_1) room_1) (lw_P b xs) (fun _ _ _ _ _ => True) lw_Q := by
  refine MetFree.of_bodyS (code := code) (maxLocals := maxLocals) (ret := ret) (by decide) ?_ ?_
  · intro args s m h hn
    obtain ⟨meth, c, h1, h2, h3, h4, h5, h6, -, -⟩ := Cond.code_spec hn (atoms_spec (ws := Jvm.Cond.code x code maxLocals ret :: tables_1) h _ List.mem_cons_self)
    exact ⟨meth, c, h1, h2, h3, h4, h5, h6⟩
  · intro p e s m args below meth c s₁ B hml0 hP _
    obtain ⟨rfl, hx, hbd, hgv⟩ := hP
    obtain ⟨scr, harrAt, hlist, hof, hsmall⟩ := hx
    obtain ⟨hcb, hkn, -, -⟩ := State.arrayAt?_spec harrAt
    have hown : s.vm.findClass R_law = some m.cls := findClass_of_methodNamed B.named
    have hts0 : ∀ c ∈ (Jvm.Cond.code x code maxLocals ret :: tables_1), c.before #[Value.ref b] s = true := atoms_spec (ws := Jvm.Cond.code x code maxLocals ret :: tables_1) B.pre
    have hts : ∀ w ∈ lw_tbl, w.before #[Value.ref b] s = true := k2_hts_sels lw_privs (fun w hw => hts0 w (List.mem_cons_of_mem _ hw)) lw_privs_ok
    have hml : c.maxLocals = 21 := B.maxLocals_eq (hts0 _ List.mem_cons_self)
    have X₀ : Stand p l e room_1 s m #[Value.ref b] below meth c s₁ [] 0 0 := Stand.of_body B
    have hh0 : s₁.heap = s.heap := by rw [B.state]; rfl
    have hsz : scr.slots.size = xs.length := by rw [← Array.length_toList, hlist, List.length_map]
    have hval : ∀ j : Nat, j < xs.length → scr.slots[j]? = some (.int (xs.getD j 0)) := fun j hj => by
      rw [← Array.getElem?_toList, hlist]
      simp [hj]
    have hbl : b < s.heap.size := (Array.getElem?_eq_some_iff.mp hcb).1
    have hX : va_X b xs.length (fun j => xs.getD j 0) s s.heap := ⟨scr, hcb, hof, hkn, hsz, hval⟩
    have K : W p l e room_1 s m #[Value.ref b] below meth c s₁.heap [] 0 0 (lw_Z below #[Value.ref b] s) (entryFrame m ([Value.ref b] : List Value).toArray 21) := by
      rw [hh0]
      exact whole_start l hflags hbd ⟨B.exec, B.bytes, B.returns, hml, hown, hts, hX, hbl, B.notSynchronized, hgv⟩
    obtain ⟨t, a1, o, b1, b2, b3⟩ := K s₁ rfl X₀
    exact ⟨t, o, a1, b1, b2, b3⟩
theorem lw_pre_spec {args : Array Value} {s : State} (h : (Jvm.Cond.and given_1 narrow_1).before args s = true) (hr : rest_1_c.before args s = true) : ∃ (b : Addr) (xs : List Int32), lw_P b xs args s := by
  have hs := flat_of_before _ h
  have hq := flat_of_before _ hr
  have hc : (Cond.count 1).before args s = true := hs _ (by decide +kernel)
  have harr : (Cond.arrayOf (.arg 0) .int).before args s = true := hs _ (by decide +kernel)
  have hle : (Cond.le (.length (.arg 0)) (.int 260)).before args s = true := hs _ (by decide +kernel)
  have hlen : (Cond.isInt (.length (.arg 0))).before args s = true := hq _ (by decide +kernel)
  have hall : (Cond.all (.arg 0) (.isInt (.elem (.arg 0) (.index 0)))).before args s = true := hq _ (by decide +kernel)
  obtain ⟨b, xs, hb, hx⟩ := State.ints_of_pre rfl harr hlen hall
  have hsm : xs.length < 2 ^ 31 := hx.choose_spec.2.2.2
  have hev : (Term.length (.arg 0)).eval args s none [] s = some (.int xs.length.toInt32) := hx.length_eval hb
  have hv := Cond.le_ints hev (show (Term.int 260).eval args s none [] s = some (.int 260) from rfl)
  have hd : xs.length.toInt32 ≤ 260 := by
    simpa [Cond.before, Cond.holds, hv] using hle
  have hN : xs.length ≤ 260 := (Int32.ofNat_le_ofNat hsm (by decide)).mp (show Int32.ofNat xs.length ≤ Int32.ofNat 260 from hd)
  exact ⟨b, xs, Cond.one_arg hc (show args[0]? = some (.ref b) from hb), hx, hN, h⟩
theorem lw_comes (l : Launch) (hflags : l.flags = flags0) : Comes l x (Jvm.Cond.code x code maxLocals ret :: tables_1) room_1 (fun tb e args s => Calls_1 tb e args s ∧ rest_1 tb e args s ∧ Pre_1 tb e args s)
    (fun _ _ args s o t => lw_Q args s o t) := by
  intro p e ha hc hk s m args below hf hfit hheap happ hpre
  obtain ⟨b, xs, hP⟩ := lw_pre_spec hpre.2.2 hpre.2.1
  obtain ⟨k, o, h1, h2, h3, hQ⟩ := lw_walk l hflags b xs p e ha hc hk s m args below hf ((Spec.applies_iff_loose hf).mp happ).1 hP trivial
  exact ⟨k, o, h1, h2, h3, hQ⟩
theorem lw_frame {s t : State} {o : Outcome} {args : Array Value} (h : Framed s o t [] 117 3416) :
    Framed s o t (fieldLocs frame_1_writes args s ++ arrayLocs frame_1_arrays args s ++ staticLocs frame_1_statics s) 117 3416 := h
theorem lw_limb (L : Cond) (hL : ∀ (args : Array Value) (s t : State), L.after args s (.returned (some (.int 1))) t = true) :
    ArmFor flags0 classFile x code maxLocals ret World_1 tables_1 room_1 Calls_1 rest_1 Pre_1
      (fun tb e a s o t => postC L tb e a s o t ∧ Framed s o t (fieldLocs frame_1_writes a s ++ arrayLocs frame_1_arrays a s ++ staticLocs frame_1_statics s) 117 3416) := by
  intro l hflags _ _ p e ha hc hk s m args below hf hfit hheap happ hpre
  obtain ⟨k, o, h1, h2, h3, rfl, hF⟩ := lw_comes l hflags p e ha hc hk s m args below hf hfit hheap happ hpre
  exact ⟨k, _, h1, h2, h3, hL args s _, lw_frame hF⟩
theorem i_vc : Claimed_1_1 ∧ Claimed_1_2 := ⟨lw_limb limb_1_1 (fun args s t => by simp [limb_1_1, Cond.after, Cond.holds, Cond.value]), lw_limb limb_1_2 (fun args s t => Cond.after_iff.mpr (by
  first | (rw [show limb_1_2 = Cond.eq .result (.int 1) from rfl, Cond.eq_ints (x := 1) (y := 1) rfl rfl]; simp; done) | (simp [limb_1_2, Cond.value, Term.eval]; done)))⟩
