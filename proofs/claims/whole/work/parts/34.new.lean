/-! CONSTRUCTORS: worlds that grow, as lists of cells -/
def ep (E2 : Nat → ClassId) : Ew := (fun _ => 0, E2)
def rq (f : Nat → Option Nat) : (Nat → Int32) ⊕ (Nat → Int64) ⊕ (Nat → UInt32) ⊕ (Nat → UInt64) ⊕ (Nat → Option Nat) := .inr (.inr (.inr (.inr f)))
/-- the words that no method's tables carry along: they go with the state -/
def Ts0 (U : State) : Prop := (va_AO "GreatMachine$Rack" U ∧ va_AO "GreatMachine$Account" U ∧ va_AO "GreatMachine$Job" U ∧ va_AO "GreatMachine$Hold" U) ∧
  va_Nw (.methodLinkNest "GreatMachine$Machine" 52 y_Rk_init "GreatMachine") U ∧ va_Nw (.methodLinkNest "GreatMachine$Machine" 53 y_Ac_init "GreatMachine") U ∧ va_Nw (.methodLinkNest "GreatMachine$Machine" 54 y_Jb_init "GreatMachine") U ∧ va_Nw (.methodLinkNest "GreatMachine$Machine" 55 y_Hd_init "GreatMachine") U
theorem Ts0.warm {s U : State} (hW : s.WarmedH U.vm) (h : Ts0 s) : Ts0 U := by
  obtain ⟨⟨a1, a2, a3, a4⟩, b1, b2, b3, b4⟩ := h
  exact ⟨⟨a1.moved hW.alike, a2.moved hW.alike, a3.moved hW.alike, a4.moved hW.alike⟩, va_Nw.warmM hW b1, va_Nw.warmM hW b2, va_Nw.warmM hW b3, va_Nw.warmM hW b4⟩
theorem Ts0.call {U : State} {f : JFrame} {mk : MethodId} {a : Array Value} (h : Ts0 U) : Ts0 (U.calling f mk a) := by
  obtain ⟨⟨a1, a2, a3, a4⟩, b1, b2, b3, b4⟩ := h
  have hv : U.vm.Alike (U.calling f mk a).vm := Vm.Alike.refl U.vm
  exact ⟨⟨a1.moved hv, a2.moved hv, a3.moved hv, a4.moved hv⟩, va_Nw.same rfl (u := U) rfl b1, va_Nw.same rfl (u := U) rfl b2, va_Nw.same rfl (u := U) rfl b3, va_Nw.same rfl (u := U) rfl b4⟩
def RmN (h mc ms : Nat) : Room := { frames := h, cells := mc, slots := ms, locals := 40 * h }
def Wn (D : va_G) (E2 : Nat → ClassId) (ws : va_W) (sz : Nat) (U : State) : Prop := U.heap.size = sz ∧ va_P D classes ws U.heap ∧ va_K D classes (tys (ep E2)) U ∧ va_D (fun _ => True) ws ∧ Ts0 U
/-- a constructor's contract: its object is new, at a, with e in it; behind it, the cells w1 u -/
def Ki (l : Launch) (y : MethodName) (cc : ByteArray) (nL h mc ms : Nat) (E2 : Nat → ClassId) (a : Nat) (e : va_E) {T : Type} (post : T → Prop) (w1 : T → va_W) : Prop :=
  ∀ (D : va_G) (sz : Nat), Met l y (Cond.code y cc nL none :: lw_w) (RmN h mc ms) (va_Pc [.ref a] (Wn D E2 [(a, e)] sz)) (va_Qv post (fun u t => va_P D classes (w1 u) t.heap ∧ va_D (va_A [(a, e)] sz) (w1 u)) (va_A [(a, e)] sz)) mc ms (va_A [(a, e)] sz)
def Cn (g : va_W → Nat → Nat → Nat → LL → List Value → Prop) (ini : Prop) (own : String) (cc : ByteArray) (nL h mc ms : Nat) (l : Launch) (E2 : Nat → ClassId) : Prop :=
  ∃ (p : Program) (e : Env) (R : Room) (s : State) (mi : MethodId) (args : Array Value) (below : List Frame) (meth : Method) (c : Code) (Q : State → Prop) (A : Nat → Prop) (H0 : Heap) (D : va_G),
    CallFix p mi c cc nL s args lw_w own ∧ (ini → meth.name = "<init>") ∧ va_K D classes (tys (ep E2)) s ∧ Ts0 s ∧ (∀ q, H0.size ≤ q → A q) ∧ (h ≤ R.frames ∧ 40 * h ≤ R.locals ∧ mc ≤ R.cells ∧ ms ≤ R.slots) ∧
    ∀ (ws : va_W) (k n pc : Nat) (L : LL) (st : List Value), g ws k n pc L st ↔ ∀ (H : Heap) (locs : List Loc) (ls : Array Slot), va_P D classes ws H → va_D A ws → va_S A H0 H locs → LH ls nL L → W p l e R s mi args below meth c H locs k n Q (F0 mi pc ls st)
theorem va_nd_of : ∀ (l : List Nat), l.Nodup → va_nd l = true := by
  intro l
  induction l with
  | nil => intro _; rfl
  | cons a l ih =>
    intro h
    obtain ⟨h1, h2⟩ := List.nodup_cons.mp h
    show (decide (a ∉ l) && va_nd l) = true
    rw [ih h2, decide_eq_true h1]
    rfl
theorem jn_new {A0 : Nat → Prop} {D : va_G} {cl : List vw_C} {ws w1 : va_W} {x : Nat × va_E} {H H1 : Heap} (hP : va_P D cl (ws ++ [x]) H) (hD : va_D A0 (ws ++ [x])) (hk : ∀ q : Nat, q < H.size → ¬ va_A [x] H.size q → H1[q]? = H[q]?) (hF : ∀ q, va_A [x] H.size q → A0 q) (hP1 : va_P D cl w1 H1) (hD1 : va_D (va_A [x] H.size) w1) : va_P D cl (ws ++ w1) H1 ∧ va_D A0 (ws ++ w1) := by
  refine va_join hP hD [ws.length] (List.range ws.length) (by simp) ?_ (va_nd_of _ List.nodup_range) ?_ hk hF hP1 hD1
  · apply List.ext_getElem?
    intro i
    by_cases hi : i < ws.length
    · simp [List.getElem?_range hi, hi, List.getElem?_append_left hi]
    · rw [List.getElem?_eq_none (by simp; omega), List.getElem?_eq_none (by simp; omega)]
  · intro i hi
    have := List.mem_range.mp hi
    simp; omega
theorem Wn_blind {D : va_G} {E2 : Nat → ClassId} {ws : va_W} {sz : Nat} {as : List Value} : FrameBlind (va_Pc as (Wn D E2 ws sz)) := fun a U f mk h => by
  obtain ⟨h1, h2, h3, h4, h5, h6⟩ := h
  exact ⟨h1, h2, h3, va_K.moved (u := U) (U := U.calling f mk a) (Vm.Alike.refl U.vm) h4, h5, h6.call⟩
theorem lw_obi : Cond.instanceMethod Lib.objectInit ∈ lw_w := mw_ (List.mem_of_getElem? (i := 34) (by decide +kernel)) rfl
theorem lw_obc : Cond.code Lib.objectInit ⟨#[0xb1]⟩ 1 none ∈ lw_w := mw_ (List.mem_of_getElem? (i := 35) (by decide +kernel)) rfl
section NROWS
variable {g : va_W → Nat → Nat → Nat → LL → List Value → Prop} {ini : Prop} {own : String} {cc : ByteArray} {nL h mc ms : Nat} {l : Launch} {E2 : Nat → ClassId} {ws : va_W} {k n pc : Nat} {L : LL} {st : List Value}
theorem n_aload (C : Cn g ini own cc nL h mc ms l E2) {i : Fin 4} {v : Nat} (d : decode cc pc = .ok (.aload_n i, 1)) (hl : L[(i : Nat)]? = some (some (.ref v))) (kk : g ws k n (pc + 1) L (.ref v :: st)) : g ws k n pc L st := by
  obtain ⟨p, e, R, s, mi, args, below, meth, c, Q, A, H0, D, ⟨hx, hb, hml, hown, hts⟩, hm, hK, hT, hA, hR, hg⟩ := C
  refine (hg _ _ _ _ _ _).mpr fun H locs ls hP hD hS hL => ?_
  exact lv_aload_n hx hb d rfl (hL.at hl) ((hg _ _ _ _ _ _).mp kk H locs ls hP hD hS hL)
theorem n_iload (C : Cn g ini own cc nL h mc ms l E2) {i : Fin 4} {v : Int} (d : decode cc pc = .ok (.iload_n i, 1)) (hl : L[(i : Nat)]? = some (some (iv v))) (kk : g ws k n (pc + 1) L (iv v :: st)) : g ws k n pc L st := by
  obtain ⟨p, e, R, s, mi, args, below, meth, c, Q, A, H0, D, ⟨hx, hb, hml, hown, hts⟩, hm, hK, hT, hA, hR, hg⟩ := C
  refine (hg _ _ _ _ _ _).mpr fun H locs ls hP hD hS hL => ?_
  exact lv_iload_n hx hb d rfl (hL.at hl) ((hg _ _ _ _ _ _).mp kk H locs ls hP hD hS hL)
theorem n_iconst (C : Cn g ini own cc nL h mc ms l E2) {v : Int} (d : decode cc pc = .ok (.iconst v, 1)) (kk : g ws k n (pc + 1) L (iv v :: st)) : g ws k n pc L st := by
  obtain ⟨p, e, R, s, mi, args, below, meth, c, Q, A, H0, D, ⟨hx, hb, hml, hown, hts⟩, hm, hK, hT, hA, hR, hg⟩ := C
  refine (hg _ _ _ _ _ _).mpr fun H locs ls hP hD hS hL => ?_
  exact lv_iconst hx hb d rfl ((hg _ _ _ _ _ _).mp kk H locs ls hP hD hS hL)
theorem n_bipush (C : Cn g ini own cc nL h mc ms l E2) {v : Int} (d : decode cc pc = .ok (.bipush v, 2)) (hv : (Int8.ofInt v).toInt32 = Int32.ofInt v) (kk : g ws k n (pc + 2) L (iv v :: st)) : g ws k n pc L st := by
  obtain ⟨p, e, R, s, mi, args, below, meth, c, Q, A, H0, D, ⟨hx, hb, hml, hown, hts⟩, hm, hK, hT, hA, hR, hg⟩ := C
  refine (hg _ _ _ _ _ _).mpr fun H locs ls hP hD hS hL => ?_
  exact lv_bipush hx hb d hv ((hg _ _ _ _ _ _).mp kk H locs ls hP hD hS hL)
theorem n_sipush (C : Cn g ini own cc nL h mc ms l E2) {v : Int} (d : decode cc pc = .ok (.sipush v, 3)) (hv : (Int16.ofInt v).toInt32 = Int32.ofInt v) (kk : g ws k n (pc + 3) L (iv v :: st)) : g ws k n pc L st := by
  obtain ⟨p, e, R, s, mi, args, below, meth, c, Q, A, H0, D, ⟨hx, hb, hml, hown, hts⟩, hm, hK, hT, hA, hR, hg⟩ := C
  refine (hg _ _ _ _ _ _).mpr fun H locs ls hP hD hS hL => ?_
  exact lv_sipush hx hb d hv ((hg _ _ _ _ _ _).mp kk H locs ls hP hD hS hL)
theorem n_goto (C : Cn g ini own cc nL h mc ms l E2) {off : Int} {tgt : Nat} (d : decode cc pc = .ok (.goto off, 3)) (ht : (pc : Int) + off = (tgt : Int)) (kk : g ws k n tgt L st) : g ws k n pc L st := by
  obtain ⟨p, e, R, s, mi, args, below, meth, c, Q, A, H0, D, ⟨hx, hb, hml, hown, hts⟩, hm, hK, hT, hA, hR, hg⟩ := C
  refine (hg _ _ _ _ _ _).mpr fun H locs ls hP hD hS hL => ?_
  exact lv_goto hx hb d ht ((hg _ _ _ _ _ _).mp kk H locs ls hP hD hS hL)
theorem n_icmp_ge (C : Cn g ini own cc nL h mc ms l E2) {a b off : Int} {tgt : Nat} (d : decode cc pc = .ok (.if_icmp .ge off, 3)) (ht : (pc : Int) + off = (tgt : Int)) (ha : ir a) (hb' : ir b) (kt : b ≤ a → g ws k n tgt L st) (kf : ¬ (b ≤ a) → g ws k n (pc + 3) L st) : g ws k n pc L (iv b :: iv a :: st) := by
  obtain ⟨p, e, R, s, mi, args, below, meth, c, Q, A, H0, D, ⟨hx, hb, hml, hown, hts⟩, hm, hK, hT, hA, hR, hg⟩ := C
  refine (hg _ _ _ _ _ _).mpr fun H locs ls hP hD hS hL => ?_
  exact lv_icmp_ge hx hb d ht (fun q => (hg _ _ _ _ _ _).mp (kt ((ir_le hb' ha).mp q)) H locs ls hP hD hS hL) (fun q => (hg _ _ _ _ _ _).mp (kf (fun z => q ((ir_le hb' ha).mpr z))) H locs ls hP hD hS hL)
theorem n_icmp_gt (C : Cn g ini own cc nL h mc ms l E2) {a b off : Int} {tgt : Nat} (d : decode cc pc = .ok (.if_icmp .gt off, 3)) (ht : (pc : Int) + off = (tgt : Int)) (ha : ir a) (hb' : ir b) (kt : b < a → g ws k n tgt L st) (kf : ¬ (b < a) → g ws k n (pc + 3) L st) : g ws k n pc L (iv b :: iv a :: st) := by
  obtain ⟨p, e, R, s, mi, args, below, meth, c, Q, A, H0, D, ⟨hx, hb, hml, hown, hts⟩, hm, hK, hT, hA, hR, hg⟩ := C
  refine (hg _ _ _ _ _ _).mpr fun H locs ls hP hD hS hL => ?_
  exact lv_icmp_gt hx hb d ht (fun q => (hg _ _ _ _ _ _).mp (kt ((ir_lt hb' ha).mp q)) H locs ls hP hD hS hL) (fun q => (hg _ _ _ _ _ _).mp (kf (fun z => q ((ir_lt hb' ha).mpr z))) H locs ls hP hD hS hL)
/-- Object's constructor -/
theorem n_obj (C : Cn g ini own cc nL h mc ms l E2) {i a : Nat} (hh : 0 < h) (hl : Cond.methodLink own i Lib.objectInit ∈ lw_w) (d : decode cc pc = .ok (.invokespecial i, 3)) (kk : g ws k n (pc + 3) L []) : g ws k n pc L [.ref a] := by
  obtain ⟨p, e, R, s, mi, args, below, meth, c, Q, A, H0, D, ⟨hx, hb, hml, hown, hts⟩, hm, hK, hT, hA, hR, hg⟩ := C
  refine (hg _ _ _ _ _ _).mpr fun H locs ls hP hD hS hL => ?_
  refine W.objInit hx hb hown (hts _ hl) (hts _ lw_obi) (hts _ lw_obc) rfl (by rw [hml]; exact hL.2.1.1) rfl d (by omega) (Nat.le_trans (Nat.le_of_ble_eq_true rfl : _ ≤ 40) (by omega)) ?_
  refine W.eq (g2 := F0 mi (pc + 3) ls []) rfl ?_
  exact (hg _ _ _ _ _ _).mp kk H locs ls hP hD hS hL
/-- a field of the first cell is written -/
theorem n_put (C : Cn g ini own cc nL h mc ms l E2) {Cc ref : String} {T : u_T} {N ci idx a : Nat} {fs : List Value} (hin : ∀ w ∈ u_ws Cc T N, w ∈ lw_w) (ty0 : Nat → FieldType) (hty : ∀ k, k < N → parseFieldDescriptor (T k).2.2.1 = some (ty0 k)) (hnm : ∀ a, a < N → ∀ b, b < N → a ≠ b → (T a).2.1 ≠ (T b).2.1) (he : ws[0]? = some (a, .inr (ci, fs))) (hc : classes[ci]? = some (Cc, T, N)) (kf : Nat) (hkf : kf < N) (hlink : Cond.fieldLink own idx ref (T kf).2.1 (T kf).2.2.1 ∈ lw_w) (href : (T kf).1 = ref) (hfin : (T kf).2.2.2 = false) {ty : FieldType} {v : Value} (hd : parseFieldDescriptor (T kf).2.2.1 = some ty) (hn : narrow ty v = v) (hfit : fits ty v = true) (hl : kf < fs.length)
    (d : decode cc pc = .ok (.putfield idx, 3)) (kk : g (ws.set 0 (a, .inr (ci, fs.set kf v))) k n (pc + 3) L st) : g ws k n pc L (v :: .ref a :: st) := by
  obtain ⟨p, e, R, s, mi, args, below, meth, c, Q, A, H0, D, ⟨hx, hb, hml, hown, hts⟩, hm, hK, hT, hA, hR, hg⟩ := C
  refine (hg _ _ _ _ _ _).mpr fun H locs ls hP hD hS hL => ?_
  exact va_put hx hb hts hin ty0 hty hnm hown hK hP hD hS 0 he hc kf hkf (hts _ hlink) (fun x q => by rw [← href]; exact q) hfin hd hn hfit hl d (fun H1 locs1 hP1 hD1 hS1 => (hg _ _ _ _ _ _).mp kk H1 locs1 ls hP1 hD1 hS1 hL)
theorem n_putF (C : Cn g True own cc nL h mc ms l E2) {Cc ref : String} {T : u_T} {N ci idx a : Nat} {fs : List Value} (hin : ∀ w ∈ u_ws Cc T N, w ∈ lw_w) (ty0 : Nat → FieldType) (hty : ∀ k, k < N → parseFieldDescriptor (T k).2.2.1 = some (ty0 k)) (hnm : ∀ a, a < N → ∀ b, b < N → a ≠ b → (T a).2.1 ≠ (T b).2.1) (he : ws[0]? = some (a, .inr (ci, fs))) (hc : classes[ci]? = some (Cc, T, N)) (kf : Nat) (hkf : kf < N) (hlink : Cond.fieldLink own idx ref (T kf).2.1 (T kf).2.2.1 ∈ lw_w) (href : (T kf).1 = ref) (hfin : (T kf).2.2.2 = true) (hdecl : (T kf).1 = own) {ty : FieldType} {v : Value} (hd : parseFieldDescriptor (T kf).2.2.1 = some ty) (hn : narrow ty v = v) (hfit : fits ty v = true) (hl : kf < fs.length)
    (d : decode cc pc = .ok (.putfield idx, 3)) (kk : g (ws.set 0 (a, .inr (ci, fs.set kf v))) k n (pc + 3) L st) : g ws k n pc L (v :: .ref a :: st) := by
  obtain ⟨p, e, R, s, mi, args, below, meth, c, Q, A, H0, D, ⟨hx, hb, hml, hown, hts⟩, hm, hK, hT, hA, hR, hg⟩ := C
  refine (hg _ _ _ _ _ _).mpr fun H locs ls hP hD hS hL => ?_
  exact va_putF hx hb hts hin ty0 hty hnm hown hK hP hD hS 0 he hc kf hkf (hts _ hlink) (fun x q => by rw [← href]; exact q) hfin (hm trivial) hdecl hd hn hfit hl d (fun H1 locs1 hP1 hD1 hS1 => (hg _ _ _ _ _ _).mp kk H1 locs1 ls hP1 hD1 hS1 hL)
/-- a field of the first cell is read -/
theorem n_get (C : Cn g ini own cc nL h mc ms l E2) {Cc ref : String} {T : u_T} {N ci idx a : Nat} {fs : List Value} (hin : ∀ w ∈ u_ws Cc T N, w ∈ lw_w) (he : ws[0]? = some (a, .inr (ci, fs))) (hc : classes[ci]? = some (Cc, T, N)) (kf : Nat) (hkf : kf < N) (hlink : Cond.fieldLink own idx ref (T kf).2.1 (T kf).2.2.1 ∈ lw_w) (href : (T kf).1 = ref) {v : Value} (hv : fs[kf]? = some v)
    (d : decode cc pc = .ok (.getfield idx, 3)) (kk : g ws k n (pc + 3) L (v :: st)) : g ws k n pc L (.ref a :: st) := by
  obtain ⟨p, e, R, s, mi, args, below, meth, c, Q, A, H0, D, ⟨hx, hb, hml, hown, hts⟩, hm, hK, hT, hA, hR, hg⟩ := C
  refine (hg _ _ _ _ _ _).mpr fun H locs ls hP hD hS hL => ?_
  exact va_get hx hb hts hin hown hK hP 0 he hc kf hkf (hts _ hlink) (fun x q => by rw [← href]; exact q) hv d ((hg _ _ _ _ _ _).mp kk H locs ls hP hD hS hL)
/-- a new array of ints -/
theorem n_newi (C : Cn g ini own cc nL h mc ms l E2) {v : Int} {N k' n' : Nat} (hn : ¬ Int32.ofInt v < 0) (hN : (Int32.ofInt v).toNatClampNeg = N) (hby : N * 4 ≤ 536870912) (hk : k + 1 = k') (hk2 : k' ≤ mc) (hs : n + N = n') (hs2 : n' ≤ ms) (d : decode cc pc = .ok (.newarray .int, 2))
    (kk : ∀ q : Nat, g (ws ++ [(q, .inl (E2 0, N, .inl fun _ => 0))]) k' n' (pc + 2) L (.ref q :: st)) : g ws k n pc L (iv v :: st) := by
  obtain ⟨p, e, R, s, mi, args, below, meth, c, Q, A, H0, D, ⟨hx, hb, hml, hown, hts⟩, hm, hK, hT, hA, hR, hg⟩ := C
  subst hk; subst hs
  refine (hg _ _ _ _ _ _).mpr fun H locs ls hP hD hS hL => ?_
  refine va_newa (atype := .int) (N' := N) (a0 := (N, .inl fun _ => 0)) hx hb (hts _ ac_int) rfl hK hP hD hS hA (fun cA => rfl) hn hN hby (by omega) (by omega) d (fun q cA H1 hK1 hP1 hD1 hS1 => ?_)
  have e1 : s.vm.findClass ("[" ++ FieldType.int.toString) = some (E2 0) := (hK.2 0 _ rfl).2
  have e2 : s.vm.findClass ("[" ++ FieldType.int.toString) = some cA := (hK1.2 6 _ rfl).2
  have e3 : cA = E2 0 := Option.some.inj (e2.symm.trans e1)
  subst e3
  exact (hg _ _ _ _ _ _).mp (kk q) H1 locs ls hP1 hD1 hS1 hL
theorem n_newz (C : Cn g ini own cc nL h mc ms l E2) {v : Int} {N k' n' : Nat} (hn : ¬ Int32.ofInt v < 0) (hN : (Int32.ofInt v).toNatClampNeg = N) (hby : N * componentBytes .boolean ≤ 536870912) (hk : k + 1 = k') (hk2 : k' ≤ mc) (hs : n + N = n') (hs2 : n' ≤ ms) (d : decode cc pc = .ok (.newarray .boolean, 2))
    (kk : ∀ q : Nat, g (ws ++ [(q, .inl (E2 1, N, .inl fun _ => 0))]) k' n' (pc + 2) L (.ref q :: st)) : g ws k n pc L (iv v :: st) := by
  obtain ⟨p, e, R, s, mi, args, below, meth, c, Q, A, H0, D, ⟨hx, hb, hml, hown, hts⟩, hm, hK, hT, hA, hR, hg⟩ := C
  subst hk; subst hs
  refine (hg _ _ _ _ _ _).mpr fun H locs ls hP hD hS hL => ?_
  refine va_newa (atype := .boolean) (N' := N) (a0 := (N, .inl fun _ => 0)) hx hb (hts _ ac_boolean) rfl hK hP hD hS hA (fun cA => rfl) hn hN hby (by omega) (by omega) d (fun q cA H1 hK1 hP1 hD1 hS1 => ?_)
  have e1 : s.vm.findClass ("[" ++ FieldType.boolean.toString) = some (E2 1) := (hK.2 1 _ rfl).2
  have e2 : s.vm.findClass ("[" ++ FieldType.boolean.toString) = some cA := (hK1.2 6 _ rfl).2
  have e3 : cA = E2 1 := Option.some.inj (e2.symm.trans e1)
  subst e3
  exact (hg _ _ _ _ _ _).mp (kk q) H1 locs ls hP1 hD1 hS1 hL
/-- a new array of references -/
theorem n_newq (C : Cn g ini own cc nL h mc ms l E2) {v : Int} {N k' n' idx j : Nat} {Cc : String} (hj : j < 6) (ht : (tys (ep E2))[j]? = some (E2 j, .object Cc)) (hao : ∀ s, Ts0 s → va_AO Cc s) (hcl : Cond.classLink own idx Cc ∈ lw_w) (hn : ¬ Int32.ofInt v < 0) (hN : (Int32.ofInt v).toNatClampNeg = N) (hby : N * 4 ≤ 536870912) (hk : k + 1 = k') (hk2 : k' ≤ mc) (hs : n + N = n') (hs2 : n' ≤ ms) (d : decode cc pc = .ok (.anewarray idx, 3))
    (kk : ∀ q : Nat, g (ws ++ [(q, .inl (E2 j, N, rq fun _ => none))]) k' n' (pc + 3) L (.ref q :: st)) : g ws k n pc L (iv v :: st) := by
  obtain ⟨p, e, R, s, mi, args, below, meth, c, Q, A, H0, D, ⟨hx, hb, hml, hown, hts⟩, hm, hK, hT, hA, hR, hg⟩ := C
  subst hk; subst hs
  refine (hg _ _ _ _ _ _).mpr fun H locs ls hP hD hS hL => ?_
  refine va_newq (N' := N) hx hb hown (hts _ hcl) (hao s hT) hK hP hD hS hA hn hN hby (by omega) (by omega) d (fun q cA H1 hK1 hP1 hD1 hS1 => ?_)
  obtain ⟨_, _, _, _, _, e1⟩ := (hK.2 j _ ht).2
  obtain ⟨_, _, _, _, _, e2⟩ := (hK1.2 6 (cA, .object Cc) rfl).2
  have e3 : cA = E2 j := Option.some.inj (e2.symm.trans e1)
  subst e3
  exact (hg _ _ _ _ _ _).mp (kk q) H1 locs ls hP1 hD1 hS1 hL
/-- a reference is put into an array of references -/
theorem n_aast (C : Cn g ini own cc nL h mc ms l E2) (q0 j qk ci : Nat) {a v N i : Nat} {x : Int} {r : vw_C} {vs : List Value} {f : Nat → Option Nat} (ha : ws[q0]? = some (a, .inl (E2 j, N, rq f))) (ht : (tys (ep E2))[j]? = some (E2 j, .object r.1)) (hv : ws[qk]? = some (v, .inr (ci, vs))) (hc : classes[ci]? = some r) (hx : x = (i : Int)) (hi : i < N) (hN : N < 2147483648) (d : decode cc pc = .ok (.aastore, 1))
    (kk : g (ws.set q0 (a, .inl (E2 j, N, rq (va_up f i (some v))))) k n (pc + 1) L st) : g ws k n pc L (.ref v :: iv x :: .ref a :: st) := by
  obtain ⟨p, e, R, s, mi, args, below, meth, c, Q, A, H0, D, ⟨hx', hb, hml, hown, hts⟩, hm, hK, hT, hA, hR, hg⟩ := C
  refine (hg _ _ _ _ _ _).mpr fun H locs ls hP hD hS hL => ?_
  obtain ⟨h1, h2⟩ := ir_in hx hi hN
  refine va_astq hx' hb hK hP hD hS q0 j qk ci ha ht hv hc h1 d (fun H1 locs1 hP1 hD1 hS1 => ?_)
  rw [h2] at hP1 hD1
  exact (hg _ _ _ _ _ _).mp kk H1 locs1 ls hP1 hD1 hS1 hL
/-- new C(): the object, and what its constructor makes -/
theorem n_new (C : Cn g ini own cc nL h mc ms l E2) {Cc : String} {T : u_T} {N ci iN iI k' n' : Nat} {y : MethodName} {cb : ByteArray} {nB hB mB sB : Nat} {fs : List Value} {TT : Type} {post : Nat → TT → Prop} {w1 : Nat → TT → va_W}
    (hin : ∀ w ∈ u_ws Cc T N, w ∈ lw_w) (ty0 : Nat → FieldType) (hty : ∀ k, k < N → parseFieldDescriptor (T k).2.2.1 = some (ty0 k)) (hcl : Cond.classLink own iN Cc ∈ lw_w) (hins : Cond.instantiable Cc N ∈ lw_w) (hit : Cond.initialized Cc ∈ lw_w) (hc : classes[ci]? = some (Cc, T, N)) (hfs : ∀ j, j < N → defaultValue (ty0 j) = vp_V fs j)
    (K : ∀ a, Ki l y cb nB hB mB sB E2 a (.inr (ci, fs)) (post a) (w1 a)) (hh : hB < h) (hnB : nB ≤ 21) (hy1 : y.name = "<init>") (hyc : y.cls = Cc) (hli : Cond.methodLink own iI y ∈ lw_w ∨ ∀ s, Ts0 s → va_Nw (.methodLinkNest own iI y "GreatMachine") s) (hi : Cond.instanceMethod y ∈ lw_w) (hcd : Cond.code y cb nB none ∈ lw_w)
    (hd : y.cls ≠ "java/lang/invoke/MethodHandle" ∧ y.cls ≠ "java/lang/invoke/VarHandle" ∧ (parseMethodDescriptor y.desc).map (fun d => d.parameters.length) = some 0) (hk : k + 1 + mB = k') (hk2 : k' ≤ mc) (hs : n + N + sB = n') (hs2 : n' ≤ ms) (hW : (st.map fun v => v.category).sum ≤ 7)
    (d1 : decode cc pc = .ok (.new iN, 3)) (d2 : decode cc (pc + 3) = .ok (.dup, 1)) (d3 : decode cc (pc + 4) = .ok (.invokespecial iI, 3))
    (kk : ∀ (q : Nat) (u : TT), post q u → g (ws ++ w1 q u) k' n' (pc + 7) L (.ref q :: st)) : g ws k n pc L st := by
  obtain ⟨p, e, R, s, mi, args, below, meth, c, Q, A, H0, D, ⟨hx, hb, hml, hown, hts⟩, hm, hK, hT, hA, hR, hg⟩ := C
  subst hk; subst hs; subst hyc
  refine (hg _ _ _ _ _ _).mpr fun H locs ls hP hD hS hL => ?_
  refine va_new hx hb hts hin ty0 hty hown (hts _ hcl) (hts _ hins) (hts _ hit) hK hP hD hS hA hc hfs (by omega) (by omega) d1 (fun q H hP hD hS => ?_)
  refine lv_dup hx hb d2 rfl ?_
  have hq : (ws ++ [(q, (.inr (ci, fs) : va_E))])[ws.length]? = some (q, .inr (ci, fs)) := by simp
  have hPc : va_P D classes [(q, .inr (ci, fs))] H := fun i x hx => by
    have hz : i < 1 := (List.getElem?_eq_some_iff.mp hx).1
    rw [show i = 0 by omega] at hx
    cases hx
    exact hP _ _ hq
  have hDc : va_D (fun _ => True) [(q, (.inr (ci, fs) : va_E))] := ⟨fun i j x y hx hy _ => by
    have h1 : i < 1 := (List.getElem?_eq_some_iff.mp hx).1
    have h2 : j < 1 := (List.getElem?_eq_some_iff.mp hy).1
    omega, fun _ _ _ => trivial⟩
  have hFc : ∀ x, va_A [(q, (.inr (ci, fs) : va_E))] H.size x → A x := va_free (wc := [(q, .inr (ci, fs))]) hD hS hA [ws.length] (by simp)
  have hpre : PreS s H (va_Pc [.ref q] (Wn D E2 [(q, .inr (ci, fs))] H.size)) (.ref q :: []) := ⟨Wn_blind, fun U hU hW => ⟨rfl, by rw [hU], by rw [hU]; exact hPc, va_K.moved hW.alike hK, hDc, hT.warm hW⟩⟩
  have hroom : (RmN hB mB sB).frames + 1 ≤ R.frames ∧ 8 + (nB + 11) + (RmN hB mB sB).locals ≤ R.locals := ⟨by show hB + 1 ≤ _; omega, by show 8 + (nB + 11) + 40 * hB ≤ _; omega⟩
  have hW2 : ((Value.ref q :: st).map fun v => v.category).sum ≤ 8 := by
    show 1 + (st.map fun v => v.category).sum ≤ 8
    omega
  have hrun : va_Run p l e R s mi args below meth c H locs (k + 1) (n + N) mB sB (F0 mi (pc + 3 + 1) ls (.ref q :: .ref q :: st)) (.ref q :: st) (va_Qv (post q) (fun u t => va_P D classes (w1 q u) t.heap ∧ va_D (va_A [(q, .inr (ci, fs))] H.size) (w1 q u)) (va_A [(q, .inr (ci, fs))] H.size) (Value.ref q :: []).toArray) (va_A [(q, .inr (ci, fs))] H.size) := by
    rcases hli with hl | hl
    · exact va_runI (As := []) (rest := .ref q :: st) (n := 0) ⟨hx, hb, hml, hown, hts⟩ (K q D H.size) (cwI 0 hts (good_c hcd) rfl rfl rfl (hts _ hit) (hts _ hl) (hts _ hi) hy1 hd hroom) hpre rfl rfl hL.2.1.1 rfl (lv_room hW2) d3 ⟨by omega, by omega⟩
    · exact va_runIN (As := []) (rest := .ref q :: st) (n := 0) ⟨hx, hb, hml, hown, hts⟩ (K q D H.size) ⟨va_cnB 0 hts (good_c hcd) rfl rfl rfl (hl s hT) (hts _ hit) hd hroom, hy1, hts _ hi⟩ hpre rfl rfl hL.2.1.1 rfl (lv_room hW2) d3 ⟨by omega, by omega⟩
  refine va_callv hrun hS (fun x _ hx => hFc x hx) hFc (fun u t H1 locs1 ht hvm hpo hB hz hk1 hS1 => ?_)
  obtain ⟨hP1, hD1⟩ := hB
  rw [ht] at hP1
  obtain ⟨hP2, hD2⟩ := jn_new hP hD hk1 hFc hP1 hD1
  exact (hg _ _ _ _ _ _).mp (kk q u hpo) H1 locs1 ls hP2 hD2 hS1 hL
theorem n_istore_1 (C : Cn g ini own cc nL h mc ms l E2) {a0 a1 : Option Value} {v : Int} (d : decode cc pc = .ok (.istore_n 1, 1)) (kk : g ws k n (pc + 1) (a0 :: some (iv v) :: L) st) : g ws k n pc (a0 :: a1 :: L) (iv v :: st) := by
  obtain ⟨p, e, R, s, mi, args, below, meth, c, Q, A, H0, D, ⟨hx, hb, hml, hown, hts⟩, hm, hK, hT, hA, hR, hg⟩ := C
  refine (hg _ _ _ _ _ _).mpr fun H locs ls hP hD hS hL => ?_
  exact lv_istore_n hx hb d rfl hL.2.1 (by have := hL.1; simp at this; omega) rfl (fun ls2 h2 => (hg _ _ _ _ _ _).mp kk H locs ls2 hP hD hS (hL.st (i := 1) (v := iv v) rfl (by have := hL.1; simp at this; omega) h2))
theorem n_istore_3 (C : Cn g ini own cc nL h mc ms l E2) {a0 a1 a2 a3 : Option Value} {v : Int} (d : decode cc pc = .ok (.istore_n 3, 1)) (kk : g ws k n (pc + 1) (a0 :: a1 :: a2 :: some (iv v) :: L) st) : g ws k n pc (a0 :: a1 :: a2 :: a3 :: L) (iv v :: st) := by
  obtain ⟨p, e, R, s, mi, args, below, meth, c, Q, A, H0, D, ⟨hx, hb, hml, hown, hts⟩, hm, hK, hT, hA, hR, hg⟩ := C
  refine (hg _ _ _ _ _ _).mpr fun H locs ls hP hD hS hL => ?_
  exact lv_istore_n hx hb d rfl hL.2.1 (by have := hL.1; simp at this; omega) rfl (fun ls2 h2 => (hg _ _ _ _ _ _).mp kk H locs ls2 hP hD hS (hL.st (i := 3) (v := iv v) rfl (by have := hL.1; simp at this; omega) h2))
theorem n_astore_1 (C : Cn g ini own cc nL h mc ms l E2) {a0 a1 : Option Value} {v : Nat} (d : decode cc pc = .ok (.astore_n 1, 1)) (kk : g ws k n (pc + 1) (a0 :: some (.ref v) :: L) st) : g ws k n pc (a0 :: a1 :: L) (.ref v :: st) := by
  obtain ⟨p, e, R, s, mi, args, below, meth, c, Q, A, H0, D, ⟨hx, hb, hml, hown, hts⟩, hm, hK, hT, hA, hR, hg⟩ := C
  refine (hg _ _ _ _ _ _).mpr fun H locs ls hP hD hS hL => ?_
  exact lv_astore_n hx hb d rfl hL.2.1 (by have := hL.1; simp at this; omega) rfl (fun ls2 h2 => (hg _ _ _ _ _ _).mp kk H locs ls2 hP hD hS (hL.st (i := 1) (v := .ref v) rfl (by have := hL.1; simp at this; omega) h2))
theorem n_astore_2 (C : Cn g ini own cc nL h mc ms l E2) {a0 a1 a2 : Option Value} {v : Nat} (d : decode cc pc = .ok (.astore_n 2, 1)) (kk : g ws k n (pc + 1) (a0 :: a1 :: some (.ref v) :: L) st) : g ws k n pc (a0 :: a1 :: a2 :: L) (.ref v :: st) := by
  obtain ⟨p, e, R, s, mi, args, below, meth, c, Q, A, H0, D, ⟨hx, hb, hml, hown, hts⟩, hm, hK, hT, hA, hR, hg⟩ := C
  refine (hg _ _ _ _ _ _).mpr fun H locs ls hP hD hS hL => ?_
  exact lv_astore_n hx hb d rfl hL.2.1 (by have := hL.1; simp at this; omega) rfl (fun ls2 h2 => (hg _ _ _ _ _ _).mp kk H locs ls2 hP hD hS (hL.st (i := 2) (v := .ref v) rfl (by have := hL.1; simp at this; omega) h2))
theorem n_iinc_1 (C : Cn g ini own cc nL h mc ms l E2) {a0 : Option Value} {v m : Int} (d : decode cc pc = .ok (.iinc 1 m, 3)) (kk : g ws k n (pc + 3) (a0 :: some (iv (v + m)) :: L) st) : g ws k n pc (a0 :: some (iv v) :: L) st := by
  obtain ⟨p, e, R, s, mi, args, below, meth, c, Q, A, H0, D, ⟨hx, hb, hml, hown, hts⟩, hm, hK, hT, hA, hR, hg⟩ := C
  refine (hg _ _ _ _ _ _).mpr fun H locs ls hP hD hS hL => ?_
  obtain ⟨kz, hkz⟩ := List.getElem?_of_mem (al_mem.mpr (show (a0 :: some (iv v) :: L)[1]? = some (some (iv v)) from rfl))
  refine lv_iinc hx hb d hL.2.1 hkz rfl (by have := hL.1; simp at this; omega) rfl (fun ls2 h2 => ?_)
  rw [← Int32.ofInt_add] at h2
  exact (hg _ _ _ _ _ _).mp kk H locs ls2 hP hD hS (hL.st (i := 1) (v := iv (v + m)) rfl (by have := hL.1; simp at this; omega) h2)
end NROWS
/-- a constructor's contract, from its body -/
theorem Ki_of {l : Launch} {y : MethodName} {cc : ByteArray} {nL h mc ms : Nat} {E2 : Nat → ClassId} {a : Nat} {e : va_E} {T : Type} {post : T → Prop} {w1 : T → va_W} (hy : plainName y.cls = true) (hn : 1 ≤ nL) (hi : y.name = "<init>")
    (body : ∀ g, Cn g True y.cls cc nL h mc ms l E2 → (∀ (u : T) (pc : Nat) (L : LL), post u → decode cc pc = .ok (.return_, 1) → g (w1 u) mc ms pc L []) → g [(a, e)] 0 0 0 (some (.ref a) :: List.replicate (nL - 1) none) []) : Ki l y cc nL h mc ms E2 a e post w1 := by
  intro D sz
  refine Met.ofW (cc := cc) (maxL := nL) (ret := none) hy rfl ?_
  intro p e0 s m args below meth c s₁ B hml hv
  obtain ⟨rfl, hsz, hP, hK, hD0, hT⟩ := hv
  have hlocks := B.notSynchronized
  have hts := atoms_spec (ws := Cond.code y cc nL none :: lw_w) B.pre
  have hin : meth.name = "<init>" := by rw [← hi]; exact (name_of_methodNamed B.named B.method).1
  subst hsz
  have hD := hD0.self (sz := s.heap.size)
  rw [lg_entry_eq]
  have hent : LH ((lg_sl [Value.ref a] ++ List.replicate (nL - (lg_sl [Value.ref a]).length) Slot.unset).toArray) nL (some (.ref a) :: List.replicate (nL - 1) none) := ent_LH (as := [Value.ref a]) rfl hn
  refine body (fun ws k n pc L st => ∀ (H : Heap) (locs : List Loc) (ls : Array Slot), va_P D classes ws H → va_D (va_A [(a, e)] s.heap.size) ws → va_S (va_A [(a, e)] s.heap.size) s.heap H locs → LH ls nL L → W p l e0 (headSpec (Cond.code y cc nL none :: lw_w) (RmN h mc ms)).room s m [Value.ref a].toArray below meth c H locs k n (MQ below (va_Qv post (fun u t => va_P D classes (w1 u) t.heap ∧ va_D (va_A [(a, e)] s.heap.size) (w1 u)) (va_A [(a, e)] s.heap.size)) [Value.ref a].toArray s mc ms (va_A [(a, e)] s.heap.size)) (F0 m pc ls st)) ⟨p, e0, _, s, m, [Value.ref a].toArray, below, meth, c, _, _, s.heap, D, ⟨B.exec, B.bytes, hml, findClass_of_methodNamed B.named, fun w hw => hts w (List.mem_cons_of_mem _ hw)⟩, fun _ => hin, hK, hT, fun q hq => Or.inr hq, ⟨Nat.le_refl h, Nat.le_refl (40 * h), Nat.le_refl mc, Nat.le_refl ms⟩, fun _ _ _ _ _ _ => Iff.rfl⟩ ?_ s.heap [] _ hP hD va_S.rf hent
  intro u pc L hpo d H locs ls hP hD hS hL
  exact W.vret B.exec B.bytes B.returns (fun t ht hW => ⟨⟨u, rfl, hpo, by rw [ht]; exact hP, hD⟩, hS.F ht⟩) hS.2.2 d
