/-! THE CLAIM OUT OF ONE WALK OF THE LAW'S BODY. Your part is whole_start (and what it stands on); all else here is the same for every law, but numbers. -/
def R_law : String := "GreatMachineLaw"
def lw_P (b : Addr) (xs : List Int32) (args : Array Value) (s : State) : Prop := args = #[.ref b] ∧ s.IntsAt b xs ∧ xs.length ≤ 3584 ∧ (Jvm.Cond.and given_1 narrow_1).before args s = true
def lw_Q (_ : Array Value) (s : State) (o : Outcome) (t : State) : Prop := o = .returned (some (.int 1)) ∧ Framed s o t [] 600000 7302250
def lw_Z (below : List Frame) (a : Array Value) (s : State) : State → Prop := fun t => ∃ o, t.status = .running ∧ Ended t below o ∧ lw_Q a s o t
/-- the law's own end, with 1 on the stack, nothing written that was there before, its room as the claim has it -/
theorem lw_ret {p : Program} {l : Launch} {e : Env} {s : State} {m : MethodId} {below : List Frame} {meth : Method} {c : Code} {b : Nat} (hx : p.tables.exec = Jvm.exec) (hb : c.code = code) (hr : meth.sig.returnType = ret) (hlocks : meth.locks = false) {pc : Nat} {H : Heap} {ls : Array Slot} (hdg : decode code pc = .ok (.ireturn, 1)) : W p l e room_1 s m #[Value.ref b] below meth c H [] 600000 7302250 (lw_Z below #[Value.ref b] s) (F0 m pc ls [.int 1]) := by
  intro T hT X
  obtain ⟨fs, hret, hrun, hended, hW, hframe⟩ := X.leave (v := some (.int 1)) (hlocks := hlocks) (fun h => by rw [hr] at h; cases h)
  have hmeth' : T.vm.method? m = some meth := X.method'
  refine ⟨T.setFrames fs, ?_, .returned (some (.int 1)), hrun, hended, rfl, ⟨_, rfl⟩, hW, hframe⟩
  jvm_step X.here [X.here.top, hx, hb, hdg, hmeth', hr, ret, narrow_b1]
  (try refine ⟨rfl, ?_⟩); (try refine ⟨rfl, ?_⟩)
  first | (intro acts; rw [hret _ acts rfl rfl rfl]) | rw [hret _ _ rfl rfl rfl]
  exact Steps.refl _
/-- what holds at the law's entry: the machine, the code, the tables' words (any of lw_tbl by 'hts w (by decide +kernel)'), the script of L ints xs at the cell b, what the Statement gives of the start (any of its parts by flat_of_before) -/
def lw_At (p : Program) (s : State) (m : MethodId) (meth : Method) (c : Code) (b L : Nat) (xs : Nat → Int32) : Prop :=
  p.tables.exec = Jvm.exec ∧ c.code = code ∧ meth.sig.returnType = ret ∧ c.maxLocals = 4 ∧ s.vm.findClass R_law = some m.cls ∧ (∀ w ∈ lw_tbl, w.before #[Value.ref b] s = true) ∧ va_X b L xs s s.heap ∧ b < s.heap.size ∧ meth.locks = false ∧ (Jvm.Cond.and given_1 narrow_1).before #[Value.ref b] s = true
theorem d_Gm0 : ∀ j, j < 2 → defaultValue (ty_Gm j) = vp_V [.null, .null] j := fun j h => by rcases (show j = 0 ∨ j = 1 by omega) with rfl | rfl <;> rfl
theorem d_Md0 : ∀ j, j < 44 → defaultValue (ty_Md j) = vp_V md0 j := fun j h => by rcases (show j = 0 ∨ j = 1 ∨ j = 2 ∨ j = 3 ∨ j = 4 ∨ j = 5 ∨ j = 6 ∨ j = 7 ∨ j = 8 ∨ j = 9 ∨ j = 10 ∨ j = 11 ∨ j = 12 ∨ j = 13 ∨ j = 14 ∨ j = 15 ∨ j = 16 ∨ j = 17 ∨ j = 18 ∨ j = 19 ∨ j = 20 ∨ j = 21 ∨ j = 22 ∨ j = 23 ∨ j = 24 ∨ j = 25 ∨ j = 26 ∨ j = 27 ∨ j = 28 ∨ j = 29 ∨ j = 30 ∨ j = 31 ∨ j = 32 ∨ j = 33 ∨ j = 34 ∨ j = 35 ∨ j = 36 ∨ j = 37 ∨ j = 38 ∨ j = 39 ∨ j = 40 ∨ j = 41 ∨ j = 42 ∨ j = 43 by omega) with rfl | rfl | rfl | rfl | rfl | rfl | rfl | rfl | rfl | rfl | rfl | rfl | rfl | rfl | rfl | rfl | rfl | rfl | rfl | rfl | rfl | rfl | rfl | rfl | rfl | rfl | rfl | rfl | rfl | rfl | rfl | rfl | rfl | rfl | rfl | rfl | rfl | rfl | rfl | rfl | rfl | rfl | rfl | rfl <;> rfl
set_option maxHeartbeats 4000000 in
set_option maxRecDepth 100000 in
theorem whole_start {p : Program} {e : Env} {s : State} {m : MethodId} {below : List Frame} {meth : Method} {c : Code} (l : Launch) (hflags : l.flags = flags0) {b L : Nat} {xs : Nat → Int32} (hL : L ≤ 3584) (C0 : lw_At p s m meth c b L xs) : W p l e room_1 s m #[Value.ref b] below meth c s.heap [] 0 0 (lw_Z below #[Value.ref b] s) (entryFrame m ([Value.ref b] : List Value).toArray 4) := by
  obtain ⟨hx, hb, hr, hml, hown, hts, hX, hbl, hlocks, hgv⟩ := id C0
  have hts' : ∀ w, w ∈ lw_w → w.before #[Value.ref b] s = true := fun w hw => hts w (List.mem_filter.mp hw).1
  have hbA : ¬ (fun q : Nat => s.heap.size ≤ q) b := Nat.not_le.mpr hbl
  obtain ⟨c0, i0, n0⟩ := u_known (C := R_Ac) (T := T_Ac) (N := 2) (n := 2) hts in_Ac (hts' _ ins_Ac)
  obtain ⟨c1, i1, n1⟩ := u_known (C := R_Hd) (T := T_Hd) (N := 4) (n := 4) hts in_Hd (hts' _ ins_Hd)
  obtain ⟨c2, i2, n2⟩ := u_known (C := R_Jb) (T := T_Jb) (N := 14) (n := 14) hts in_Jb (hts' _ ins_Jb)
  obtain ⟨c3, i3, n3⟩ := u_known (C := R_Mc) (T := T_Mc) (N := 16) (n := 16) hts in_Mc (hts' _ ins_Mc)
  obtain ⟨c4, i4, n4⟩ := u_known (C := R_Rk) (T := T_Rk) (N := 3) (n := 3) hts in_Rk (hts' _ ins_Rk)
  obtain ⟨c5, i5, n5⟩ := u_known (C := R_Gm) (T := T_Gm) (N := 2) (n := 2) hts in_Gm (hts' _ ins_Gm)
  obtain ⟨c6, i6, n6⟩ := u_known (C := R_Md) (T := T_Md) (N := 44) (n := 44) hts in_Md (hts' _ ins_Md)
  obtain ⟨dC, dI, hKc⟩ : ∃ (dC : Nat → ClassId) (dI : Nat → Nat → Nat), ∀ (k : Nat) (q : vw_C), classes[k]? = some q → u_Kn s q.1 q.2.1 q.2.2 (dC k) (dI k) := by
    refine ⟨fun k => match k with | 0 => c0 | 1 => c1 | 2 => c2 | 3 => c3 | 4 => c4 | 5 => c5 | _ => c6, fun k => match k with | 0 => i0 | 1 => i1 | 2 => i2 | 3 => i3 | 4 => i4 | 5 => i5 | _ => i6, ?_⟩
    intro k q hq
    match k, hq with
    | 0, hq => cases hq; exact n0
    | 1, hq => cases hq; exact n1
    | 2, hq => cases hq; exact n2
    | 3, hq => cases hq; exact n3
    | 4, hq => cases hq; exact n4
    | 5, hq => cases hq; exact n5
    | 6, hq => cases hq; exact n6
    | k + 7, hq => simp [classes] at hq
  obtain ⟨E2, hKt⟩ : ∃ E2 : Nat → ClassId, ∀ (k : Nat) (q : ClassId × FieldType), (tys (ep E2))[k]? = some q → ArrOfT s q.1 q.2 ∧ va_RA s q.1 q.2 := by
    obtain ⟨a0, k0, p0, f0, g0, h0⟩ := Cond.arrayClass_spec (hts' _ ac_int)
    obtain ⟨a1, k1, p1, f1, g1, h1⟩ := Cond.arrayClass_spec (hts' _ ac_boolean)
    obtain ⟨p2, a2, k2, e2, _, g2, h2, f2⟩ := Cond.arrayOver_spec (hts _ ao_Rk)
    obtain ⟨p3, a3, k3, e3, _, g3, h3, f3⟩ := Cond.arrayOver_spec (hts _ ao_Ac)
    obtain ⟨p4, a4, k4, e4, _, g4, h4, f4⟩ := Cond.arrayOver_spec (hts _ ao_Jb)
    obtain ⟨p5, a5, k5, e5, _, g5, h5, f5⟩ := Cond.arrayOver_spec (hts _ ao_Hd)
    refine ⟨fun k => match k with | 0 => a0 | 1 => a1 | 2 => a2 | 3 => a3 | 4 => a4 | _ => a5, ?_⟩
    intro k q hq
    match k, hq with
    | 0, hq => cases hq; exact ⟨fun _ _ => ⟨fun k h => (by cases h), k0, g0, p0, h0⟩, f0⟩
    | 1, hq => cases hq; exact ⟨fun _ _ => ⟨fun k h => (by cases h), k1, g1, p1, h1⟩, f1⟩
    | 2, hq => cases hq; exact ⟨fun _ _ => ⟨fun k h => (by cases h), k2, g2, p2, h2⟩, k2, p2, g2, h2, e2, f2⟩
    | 3, hq => cases hq; exact ⟨fun _ _ => ⟨fun k h => (by cases h), k3, g3, p3, h3⟩, k3, p3, g3, h3, e3, f3⟩
    | 4, hq => cases hq; exact ⟨fun _ _ => ⟨fun k h => (by cases h), k4, g4, p4, h4⟩, k4, p4, g4, h4, e4, f4⟩
    | 5, hq => cases hq; exact ⟨fun _ _ => ⟨fun k h => (by cases h), k5, g5, p5, h5⟩, k5, p5, g5, h5, e5, f5⟩
    | k + 6, hq => simp [tys] at hq
  have hK : va_K (dC, dI) classes (tys (ep E2)) s := ⟨hKc, hKt⟩
  have hT : Ts0 s := ⟨⟨va_AO.of (hts _ ao_Rk), va_AO.of (hts _ ao_Ac), va_AO.of (hts _ ao_Jb), va_AO.of (hts _ ao_Hd)⟩, va_Nw.of rfl (hts _ mln_Mc_52), va_Nw.of rfl (hts _ mln_Mc_53), va_Nw.of rfl (hts _ mln_Mc_54), va_Nw.of rfl (hts _ mln_Mc_55)⟩
  obtain ⟨g1, hg1⟩ : ∃ g1 : va_W → Nat → Nat → Nat → LL → List Value → Prop, ∀ (ws : va_W) (k n pc : Nat) (Lc : LL) (st : List Value), g1 ws k n pc Lc st ↔ ∀ (H : Heap) (locs : List Loc) (ls : Array Slot), va_P (dC, dI) classes ws H → va_D (fun q : Nat => s.heap.size ≤ q) ws → va_S (fun q : Nat => s.heap.size ≤ q) s.heap H locs → LH ls 4 Lc → W p l e room_1 s m #[Value.ref b] below meth c H locs k n (lw_Z below #[Value.ref b] s) (F0 m pc ls st) := ⟨_, fun _ _ _ _ _ _ => Iff.rfl⟩
  have C1 : Cn g1 False "GreatMachineLaw" code 4 8 203 2816 l E2 := ⟨p, e, room_1, s, m, #[Value.ref b], below, meth, c, _, _, s.heap, (dC, dI), ⟨hx, hb, hml, hown, hts'⟩, fun z => z.elim, hK, hT, fun q hq => hq, ⟨Nat.le_of_ble_eq_true rfl, Nat.le_of_ble_eq_true rfl, Nat.le_of_ble_eq_true rfl, Nat.le_of_ble_eq_true rfl⟩, hg1⟩
  have G1 : g1 [] 0 0 0 [some (.ref b), none, none, none] [] := by
    refine n_new C1 (k' := 171) (n' := 1392) (fs := [.null, .null]) (hB := 3) (mB := 170) (sB := 1390) (w1 := gmW E2) inw_Gm ty_Gm tok_Gm cl_La_7 ins_Gm mi_Gm_init rfl d_Gm0 (fun a => i_Gm a) (by omega) (by omega) rfl rfl (Or.inl ml_La_9) mn_Gm_init mc_Gm_init (by decide +kernel) (by omega) (by omega) (by omega) (by omega) (Nat.le_of_ble_eq_true rfl) d_La_law_0 d_La_law_3 d_La_law_4 (fun x u hu => ?_)
    refine n_astore_1 C1 d_La_law_7 ?_
    refine n_new C1 (k' := 203) (n' := 2816) (fs := md0) (hB := 1) (mB := 31) (sB := 1380) (w1 := mdW E2) inw_Md ty_Md tok_Md cl_La_10 ins_Md mi_Md_init rfl d_Md0 (fun a => i_Md a) (by omega) (by omega) rfl rfl (Or.inl ml_La_12) mn_Md_init mc_Md_init (by decide +kernel) (by omega) (by omega) (by omega) (by omega) (Nat.le_of_ble_eq_true rfl) d_La_law_8 d_La_law_11 d_La_law_12 (fun y ml hml2 => ?_)
    refine n_astore_2 C1 d_La_law_15 ?_
    refine n_iconst C1 d_La_law_16 ?_
    refine n_istore_3 C1 d_La_law_17 ?_
    refine (hg1 _ _ _ _ _ _).mpr fun H locs ls hP hD hS hLH => ?_
    have hP2 := sw_P hu.1 hu.2 hml2 (show va_P (dC, dI) classes (gmW E2 x u ++ mdW E2 y ml) H from hP)
    have hD2 := vD_perm (sw_perm S0 hu.1 hu.2 hml2) (show va_D (fun q : Nat => s.heap.size ≤ q) (gmW E2 x u ++ mdW E2 y ml) from hD)
    obtain ⟨hE, hA2⟩ := sw_E S0 hD2
    have r0 : rf (aD (alW x u y ml), E2) 0 = .ref x := rfl
    have r1 : rf (aD (alW x u y ml), E2) 1 = .ref y := rfl
    have hK2 : va_K (dC, dI) classes (tys (aD (alW x u y ml), E2)) s := hK
    have hLH2 : LH ls 4 [some (.ref b), some (rf (aD (alW x u y ml), E2) 0), some (rf (aD (alW x u y ml), E2) 1), some (iv ((0 : Nat) : Int))] := hLH
    have hA3 : ∀ k, k < 203 → s.heap.size ≤ ((aD (alW x u y ml), E2) : Ew).1 k := hA2
    generalize ((aD (alW x u y ml), E2) : Ew) = E at hP2 hE hA3 hK2 hLH2
    obtain ⟨g2, hg2⟩ : ∃ g2 : WW → Nat → LL → List Value → Prop, ∀ (S : WW) (pc : Nat) (Lc : LL) (st : List Value), g2 S pc Lc st ↔ ∀ (H : Heap) (locs : List Loc) (ls : Array Slot), va_P (dC, dI) classes (wld E S) H → va_S (fun q : Nat => s.heap.size ≤ q) s.heap H locs → LH ls 4 Lc → W p l e room_1 s m #[Value.ref b] below meth c H locs 600000 7302250 (lw_Z below #[Value.ref b] s) (F0 m pc ls st) := ⟨_, fun _ _ _ _ => Iff.rfl⟩
    have C2 : Cw g2 "GreatMachineLaw" code 4 8 l E := ⟨p, e, room_1, s, m, #[Value.ref b], below, meth, c, 600000, 7302250, _, _, s.heap, (dC, dI), ⟨hx, hb, hml, hown, hts'⟩, hE, hA3, hK2, ⟨Nat.le_of_ble_eq_true rfl, Nat.le_of_ble_eq_true rfl, Nat.le_refl _, Nat.le_refl _⟩, hg2⟩
    have X2 : Sc g2 b L xs := by
      refine ⟨fun S pc Lc st d hl kk => ?_, fun S pc Lc st d kk => ?_, fun S pc Lc st i x hxi hi d kk => ?_, fun S pc Lc d => ?_⟩
      · exact (hg2 _ _ _ _).mpr fun H locs ls hP hS hLH => lv_aload_n hx hb d rfl (hLH.at hl) ((hg2 _ _ _ _).mp kk H locs ls hP hS hLH)
      · refine (hg2 _ _ _ _).mpr fun H locs ls hP hS hLH => ?_
        refine va_slen hx hb hX hbl hbA hS d ?_
        have k := (hg2 _ _ _ _).mp kk H locs ls hP hS hLH
        rw [iv_of, show (Int32.ofNat L).toInt = (L : Int) from nI_toInt (by omega)]
        exact k
      · refine (hg2 _ _ _ _).mpr fun H locs ls hP hS hLH => ?_
        obtain ⟨q1, q2⟩ := ir_in hxi hi (by omega)
        refine va_sld hx hb hX hbl hbA hS q1 d ?_
        have k := (hg2 _ _ _ _).mp kk H locs ls hP hS hLH
        rw [q2, iv_of]
        exact k
      · refine (hg2 _ _ _ _).mpr fun H locs ls hP hS hLH => ?_
        refine va_forget (fun q hq => hS.2.2 q hq) ?_
        exact lw_ret hx hb hr hlocks d
    refine W.widen (k := 600000) (n := 7302250) (Nat.le_of_ble_eq_true rfl) (Nat.le_of_ble_eq_true rfl) ?_
    exact (hg2 _ _ _ _).mp (law_loop C2 X2 hL (L + 8) 0 S0 (by omega) (by omega) S0_Iv) H locs ls hP2 hS hLH2
  rw [lg_entry_eq]
  have hP0 : va_P (dC, dI) classes [] s.heap := fun k q h => by simp at h
  have hD0 : va_D (fun q : Nat => s.heap.size ≤ q) [] := ⟨fun i j p q h => by simp at h, fun k q h => by simp at h⟩
  exact (hg1 _ _ _ _ _ _).mp G1 s.heap [] _ hP0 hD0 va_S.rf (ent_LH (as := [Value.ref b]) (n := 4) rfl (Nat.le_of_ble_eq_true rfl))
set_option maxHeartbeats 4000000 in
theorem lw_walk (l : Launch) (hflags : l.flags = flags0) (b : Addr) (xs : List Int32) : MetFree l x (headSpec (Jvm.Cond.code x code maxLocals ret :: tables_1) room_1) (lw_P b xs) (fun _ _ _ _ _ => True) lw_Q := by
  refine MetFree.of_bodyS (code := code) (maxLocals := maxLocals) (ret := ret) (by decide) ?_ ?_
  · intro args s m h hn
    obtain ⟨meth, c, h1, h2, h3, h4, h5, h6, -, -⟩ := Cond.code_spec hn (atoms_spec (ws := Jvm.Cond.code x code maxLocals ret :: tables_1) h _ List.mem_cons_self)
    exact ⟨meth, c, h1, h2, h3, h4, h5, h6⟩
  · intro p e s m args below meth c s₁ B hml0 hP _
    obtain ⟨rfl, hx, hbd, hgv⟩ := hP
    obtain ⟨scr, harrAt, hlist, hof, hsmall⟩ := hx
    obtain ⟨hcb, hkn, -, -⟩ := State.arrayAt?_spec harrAt
    have hown : s.vm.findClass R_law = some m.cls := findClass_of_methodNamed B.named
    have hts0 : ∀ c ∈ (Jvm.Cond.code x code maxLocals ret :: tables_1), c.before #[Value.ref b] s = true := atoms_spec (ws := Jvm.Cond.code x code maxLocals ret :: tables_1) B.pre
    have hts : ∀ w ∈ lw_tbl, w.before #[Value.ref b] s = true := k2_hts_sels lw_privs (fun w hw => hts0 w (List.mem_cons_of_mem _ hw)) lw_privs_ok
    have hml : c.maxLocals = 4 := B.maxLocals_eq (hts0 _ List.mem_cons_self)
    have X₀ : Stand p l e room_1 s m #[Value.ref b] below meth c s₁ [] 0 0 := Stand.of_body B
    have hh0 : s₁.heap = s.heap := by rw [B.state]; rfl
    have hsz : scr.slots.size = xs.length := by rw [← Array.length_toList, hlist, List.length_map]
    have hval : ∀ j : Nat, j < xs.length → scr.slots[j]? = some (.int (xs.getD j 0)) := fun j hj => by
      rw [← Array.getElem?_toList, hlist]
      simp [hj]
    have hbl : b < s.heap.size := (Array.getElem?_eq_some_iff.mp hcb).1
    have hX : va_X b xs.length (fun j => xs.getD j 0) s s.heap := ⟨scr, hcb, hof, hkn, hsz, hval⟩
    have K : W p l e room_1 s m #[Value.ref b] below meth c s₁.heap [] 0 0 (lw_Z below #[Value.ref b] s) (entryFrame m ([Value.ref b] : List Value).toArray 4) := by
      rw [hh0]
      exact whole_start l hflags hbd ⟨B.exec, B.bytes, B.returns, hml, hown, hts, hX, hbl, B.notSynchronized, hgv⟩
    obtain ⟨t, a1, o, b1, b2, b3⟩ := K s₁ rfl X₀
    exact ⟨t, o, a1, b1, b2, b3⟩
theorem lw_pre_spec {args : Array Value} {s : State} (h : (Jvm.Cond.and given_1 narrow_1).before args s = true) (hr : rest_1_c.before args s = true) : ∃ (b : Addr) (xs : List Int32), lw_P b xs args s := by
  have hs := flat_of_before _ h
  have hq := flat_of_before _ hr
  have hc : (Cond.count 1).before args s = true := hs _ (by decide +kernel)
  have harr : (Cond.arrayOf (.arg 0) .int).before args s = true := hs _ (by decide +kernel)
  have hle : (Cond.le (.length (.arg 0)) (.int 3584)).before args s = true := hs _ (by decide +kernel)
  have hlen : (Cond.isInt (.length (.arg 0))).before args s = true := hq _ (by decide +kernel)
  have hall : (Cond.all (.arg 0) (.isInt (.elem (.arg 0) (.index 0)))).before args s = true := hq _ (by decide +kernel)
  obtain ⟨b, xs, hb, hx⟩ := State.ints_of_pre rfl harr hlen hall
  have hsm : xs.length < 2 ^ 31 := hx.choose_spec.2.2.2
  have hev : (Term.length (.arg 0)).eval args s none [] s = some (.int xs.length.toInt32) := hx.length_eval hb
  have hv := Cond.le_ints hev (show (Term.int 3584).eval args s none [] s = some (.int 3584) from rfl)
  have hd : xs.length.toInt32 ≤ 3584 := by
    simpa [Cond.before, Cond.holds, hv] using hle
  have hN : xs.length ≤ 3584 := (Int32.ofNat_le_ofNat hsm (by decide)).mp (show Int32.ofNat xs.length ≤ Int32.ofNat 3584 from hd)
  exact ⟨b, xs, Cond.one_arg hc (show args[0]? = some (.ref b) from hb), hx, hN, h⟩
theorem lw_comes (l : Launch) (hflags : l.flags = flags0) : Comes l x (Jvm.Cond.code x code maxLocals ret :: tables_1) room_1 (fun tb e args s => Calls_1 tb e args s ∧ rest_1 tb e args s ∧ Pre_1 tb e args s)
    (fun _ _ args s o t => lw_Q args s o t) := by
  intro p e ha hc hk s m args below hf hfit hheap happ hpre
  obtain ⟨b, xs, hP⟩ := lw_pre_spec hpre.2.2 hpre.2.1
  obtain ⟨k, o, h1, h2, h3, hQ⟩ := lw_walk l hflags b xs p e ha hc hk s m args below hf ((Spec.applies_iff_loose hf).mp happ).1 hP trivial
  exact ⟨k, o, h1, h2, h3, hQ⟩
theorem lw_frame {s t : State} {o : Outcome} {args : Array Value} (h : Framed s o t [] 600000 7302250) :
    Framed s o t (fieldLocs frame_1_writes args s ++ arrayLocs frame_1_arrays args s ++ staticLocs frame_1_statics s) 600000 7302250 := h
theorem lw_limb (L : Cond) (hL : ∀ (args : Array Value) (s t : State), L.after args s (.returned (some (.int 1))) t = true) :
    ArmFor flags0 classFile x code maxLocals ret World_1 tables_1 room_1 Calls_1 rest_1 Pre_1
      (fun tb e a s o t => postC L tb e a s o t ∧ Framed s o t (fieldLocs frame_1_writes a s ++ arrayLocs frame_1_arrays a s ++ staticLocs frame_1_statics s) 600000 7302250) := by
  intro l hflags _ _ p e ha hc hk s m args below hf hfit hheap happ hpre
  obtain ⟨k, o, h1, h2, h3, rfl, hF⟩ := lw_comes l hflags p e ha hc hk s m args below hf hfit hheap happ hpre
  exact ⟨k, _, h1, h2, h3, hL args s _, lw_frame hF⟩
theorem i_vc : Claimed_1_1 ∧ Claimed_1_2 := ⟨lw_limb limb_1_1 (fun args s t => by simp [limb_1_1, Cond.after, Cond.holds, Cond.value]), lw_limb limb_1_2 (fun args s t => Cond.after_iff.mpr (by
  first | (rw [show limb_1_2 = Cond.eq .result (.int 1) from rfl, Cond.eq_ints (x := 1) (y := 1) rfl rfl]; simp; done) | (simp [limb_1_2, Cond.value, Term.eval]; done)))⟩
