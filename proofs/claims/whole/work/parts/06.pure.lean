/-! PURE WORDS -/
def b2i (p : Prop) [Decidable p] : Int := if p then 1 else 0
def sumN (f : Nat → Int) : Nat → Int
  | 0 => 0
  | n + 1 => sumN f n + f n
theorem sumN_s (f : Nat → Int) (n : Nat) : sumN f (n + 1) = sumN f n + f n := rfl
theorem sumN_0 (f : Nat → Int) : sumN f 0 = 0 := rfl
theorem sumN_bd {f : Nat → Int} {lo hi : Int} : ∀ {n : Nat}, (∀ i, i < n → lo ≤ f i ∧ f i ≤ hi) → (n : Int) * lo ≤ sumN f n ∧ sumN f n ≤ (n : Int) * hi := by
  intro n
  induction n with
  | zero => intro _; simp [sumN]
  | succ n ih =>
    intro h
    have h1 := ih (fun i hi => h i (by omega))
    have h2 := h n (by omega)
    have e1 : ((n + 1 : Nat) : Int) * lo = (n : Int) * lo + lo := by rw [Int.natCast_add, Int.add_mul]; simp
    have e2 : ((n + 1 : Nat) : Int) * hi = (n : Int) * hi + hi := by rw [Int.natCast_add, Int.add_mul]; simp
    rw [sumN_s, e1, e2]
    omega
theorem sumN_congr {f g : Nat → Int} : ∀ {n : Nat}, (∀ i, i < n → f i = g i) → sumN f n = sumN g n := by
  intro n
  induction n with
  | zero => intro _; rfl
  | succ n ih => intro h; rw [sumN_s, sumN_s, ih (fun i hi => h i (by omega)), h n (by omega)]
theorem sumN_nn {f : Nat → Int} {n : Nat} (h : ∀ i, i < n → 0 ≤ f i) : 0 ≤ sumN f n := by
  induction n with
  | zero => simp [sumN]
  | succ n ih => rw [sumN_s]; have h1 := ih (fun i hi => h i (by omega)); have h2 := h n (by omega); omega
theorem sumN_up {f : Nat → Int} {n : Nat} {c : Int} (h : ∀ i, i < n → f i ≤ c) : sumN f n ≤ n * c := by
  induction n with
  | zero => simp [sumN]
  | succ n ih =>
    rw [sumN_s]
    have h1 := ih (fun i hi => h i (by omega)); have h2 := h n (by omega)
    have e2 : ((n + 1 : Nat) : Int) * c = (n : Int) * c + c := by rw [Int.natCast_add, Int.add_mul]; simp
    rw [e2]; omega
/-- the bounds of every int of a table, but USED -/
def lo (f : Nat) : Int := if f = 8 ∨ f = 9 ∨ f = 23 ∨ f = 25 ∨ f = 26 ∨ f = 42 ∨ f = 43 then -1 else 0
def hi (f : Nat) : Int := [4, 6, 30, 9, 2500, 1000, 100, 64, 29, 3000, 30, 29, 16, 16, 1, 100, 0, 5, 64, 100, 50, 50, 50, 29, 3, 3000, 3000, 50, 64, 3100, 16, 64, 100, 3000, 3100, 50, 50, 50, 1, 4000, 4000, 3, 3000, 3000, 50, 50, 16, 0, 64].getD f 16
def Bd (t : TT) : Prop := ∀ f i, (f ≠ 16 ∧ f ≠ 47) → lo f ≤ t f i ∧ t f i ≤ hi f
theorem hi_up (f : Nat) : hi f ≤ 4000 := by
  unfold hi
  by_cases h : f < 49
  · have : ∀ f, f < 49 → [4, 6, 30, 9, 2500, 1000, 100, 64, 29, 3000, 30, 29, 16, 16, 1, 100, 0, 5, 64, 100, 50, 50, 50, 29, 3, 3000, 3000, 50, 64, 3100, 16, 64, 100, 3000, 3100, 50, 50, 50, 1, 4000, 4000, 3, 3000, 3000, 50, 50, 16, 0, 64].getD f (16 : Int) ≤ 4000 := by decide +kernel
    exact this f h
  · rw [List.getD_eq_getElem?_getD, List.getElem?_eq_none (by simp; omega)]; decide
theorem lo_dn (f : Nat) : -1 ≤ lo f := by unfold lo; split <;> decide
def fok (f : Nat) : Bool := f != 16 && f != 47
theorem bd_ir {t : TT} {f i : Nat} (hB : Bd t) (hf : fok f = true) : ir (t f i) := by
  have h := hB f i (by simp [fok] at hf; exact hf)
  have h1 := hi_up f
  have h2 := lo_dn f
  exact ⟨by omega, by omega⟩
theorem bd_tu {t : TT} {f i : Nat} {x : Int} (hB : Bd t) (h : (f ≠ 16 ∧ f ≠ 47) → lo f ≤ x ∧ x ≤ hi f) : Bd (tu t f i x) := by
  intro a b hab
  unfold tu
  split
  · rename_i q; rw [q.1]; exact h (by rw [← q.1]; exact hab)
  · exact hB a b hab
theorem bdOn {t : TT} (hB : Bd t) (j r : Nat) : 0 ≤ t (100 + j) r ∧ t (100 + j) r ≤ 16 := by
  have h := hB (100 + j) r (by omega)
  have e1 : lo (100 + j) = 0 := by unfold lo; rw [if_neg (by omega)]
  have e2 : hi (100 + j) = 16 := by
    unfold hi; rw [List.getD_eq_getElem?_getD, List.getElem?_eq_none (by simp; omega)]; rfl
  rw [e1, e2] at h; exact h
theorem bdOn_ir {t : TT} (hB : Bd t) (j r : Nat) : ir (t (100 + j) r) := by have := bdOn hB j r; exact ⟨by omega, by omega⟩

theorem bd0 {t : TT} (hB : Bd t) (i : Nat) : 0 ≤ t 0 i ∧ t 0 i ≤ 4 := hB 0 i (by decide)
theorem bd1 {t : TT} (hB : Bd t) (i : Nat) : 0 ≤ t 1 i ∧ t 1 i ≤ 6 := hB 1 i (by decide)
theorem bd2 {t : TT} (hB : Bd t) (i : Nat) : 0 ≤ t 2 i ∧ t 2 i ≤ 30 := hB 2 i (by decide)
theorem bd3 {t : TT} (hB : Bd t) (i : Nat) : 0 ≤ t 3 i ∧ t 3 i ≤ 9 := hB 3 i (by decide)
theorem bd4 {t : TT} (hB : Bd t) (i : Nat) : 0 ≤ t 4 i ∧ t 4 i ≤ 2500 := hB 4 i (by decide)
theorem bd5 {t : TT} (hB : Bd t) (i : Nat) : 0 ≤ t 5 i ∧ t 5 i ≤ 1000 := hB 5 i (by decide)
theorem bd6 {t : TT} (hB : Bd t) (i : Nat) : 0 ≤ t 6 i ∧ t 6 i ≤ 100 := hB 6 i (by decide)
theorem bd7 {t : TT} (hB : Bd t) (i : Nat) : 0 ≤ t 7 i ∧ t 7 i ≤ 64 := hB 7 i (by decide)
theorem bd8 {t : TT} (hB : Bd t) (i : Nat) : -1 ≤ t 8 i ∧ t 8 i ≤ 29 := hB 8 i (by decide)
theorem bd9 {t : TT} (hB : Bd t) (i : Nat) : -1 ≤ t 9 i ∧ t 9 i ≤ 3000 := hB 9 i (by decide)
theorem bd10 {t : TT} (hB : Bd t) (i : Nat) : 0 ≤ t 10 i ∧ t 10 i ≤ 30 := hB 10 i (by decide)
theorem bd11 {t : TT} (hB : Bd t) (i : Nat) : 0 ≤ t 11 i ∧ t 11 i ≤ 29 := hB 11 i (by decide)
theorem bd12 {t : TT} (hB : Bd t) (i : Nat) : 0 ≤ t 12 i ∧ t 12 i ≤ 16 := hB 12 i (by decide)
theorem bd13 {t : TT} (hB : Bd t) (i : Nat) : 0 ≤ t 13 i ∧ t 13 i ≤ 16 := hB 13 i (by decide)
theorem bd14 {t : TT} (hB : Bd t) (i : Nat) : 0 ≤ t 14 i ∧ t 14 i ≤ 1 := hB 14 i (by decide)
theorem bd15 {t : TT} (hB : Bd t) (i : Nat) : 0 ≤ t 15 i ∧ t 15 i ≤ 100 := hB 15 i (by decide)
theorem bd17 {t : TT} (hB : Bd t) (i : Nat) : 0 ≤ t 17 i ∧ t 17 i ≤ 5 := hB 17 i (by decide)
theorem bd18 {t : TT} (hB : Bd t) (i : Nat) : 0 ≤ t 18 i ∧ t 18 i ≤ 64 := hB 18 i (by decide)
theorem bd19 {t : TT} (hB : Bd t) (i : Nat) : 0 ≤ t 19 i ∧ t 19 i ≤ 100 := hB 19 i (by decide)
theorem bd20 {t : TT} (hB : Bd t) (i : Nat) : 0 ≤ t 20 i ∧ t 20 i ≤ 50 := hB 20 i (by decide)
theorem bd21 {t : TT} (hB : Bd t) (i : Nat) : 0 ≤ t 21 i ∧ t 21 i ≤ 50 := hB 21 i (by decide)
theorem bd22 {t : TT} (hB : Bd t) (i : Nat) : 0 ≤ t 22 i ∧ t 22 i ≤ 50 := hB 22 i (by decide)
theorem bd23 {t : TT} (hB : Bd t) (i : Nat) : -1 ≤ t 23 i ∧ t 23 i ≤ 29 := hB 23 i (by decide)
theorem bd24 {t : TT} (hB : Bd t) (i : Nat) : 0 ≤ t 24 i ∧ t 24 i ≤ 3 := hB 24 i (by decide)
theorem bd25 {t : TT} (hB : Bd t) (i : Nat) : -1 ≤ t 25 i ∧ t 25 i ≤ 3000 := hB 25 i (by decide)
theorem bd26 {t : TT} (hB : Bd t) (i : Nat) : -1 ≤ t 26 i ∧ t 26 i ≤ 3000 := hB 26 i (by decide)
theorem bd27 {t : TT} (hB : Bd t) (i : Nat) : 0 ≤ t 27 i ∧ t 27 i ≤ 50 := hB 27 i (by decide)
theorem bd28 {t : TT} (hB : Bd t) (i : Nat) : 0 ≤ t 28 i ∧ t 28 i ≤ 64 := hB 28 i (by decide)
theorem bd29 {t : TT} (hB : Bd t) (i : Nat) : 0 ≤ t 29 i ∧ t 29 i ≤ 3100 := hB 29 i (by decide)
theorem bd30 {t : TT} (hB : Bd t) (i : Nat) : 0 ≤ t 30 i ∧ t 30 i ≤ 16 := hB 30 i (by decide)
theorem bd31 {t : TT} (hB : Bd t) (i : Nat) : 0 ≤ t 31 i ∧ t 31 i ≤ 64 := hB 31 i (by decide)
theorem bd32 {t : TT} (hB : Bd t) (i : Nat) : 0 ≤ t 32 i ∧ t 32 i ≤ 100 := hB 32 i (by decide)
theorem bd33 {t : TT} (hB : Bd t) (i : Nat) : 0 ≤ t 33 i ∧ t 33 i ≤ 3000 := hB 33 i (by decide)
theorem bd34 {t : TT} (hB : Bd t) (i : Nat) : 0 ≤ t 34 i ∧ t 34 i ≤ 3100 := hB 34 i (by decide)
theorem bd35 {t : TT} (hB : Bd t) (i : Nat) : 0 ≤ t 35 i ∧ t 35 i ≤ 50 := hB 35 i (by decide)
theorem bd36 {t : TT} (hB : Bd t) (i : Nat) : 0 ≤ t 36 i ∧ t 36 i ≤ 50 := hB 36 i (by decide)
theorem bd37 {t : TT} (hB : Bd t) (i : Nat) : 0 ≤ t 37 i ∧ t 37 i ≤ 50 := hB 37 i (by decide)
theorem bd38 {t : TT} (hB : Bd t) (i : Nat) : 0 ≤ t 38 i ∧ t 38 i ≤ 1 := hB 38 i (by decide)
theorem bd39 {t : TT} (hB : Bd t) (i : Nat) : 0 ≤ t 39 i ∧ t 39 i ≤ 4000 := hB 39 i (by decide)
theorem bd40 {t : TT} (hB : Bd t) (i : Nat) : 0 ≤ t 40 i ∧ t 40 i ≤ 4000 := hB 40 i (by decide)
theorem bd41 {t : TT} (hB : Bd t) (i : Nat) : 0 ≤ t 41 i ∧ t 41 i ≤ 3 := hB 41 i (by decide)
theorem bd42 {t : TT} (hB : Bd t) (i : Nat) : -1 ≤ t 42 i ∧ t 42 i ≤ 3000 := hB 42 i (by decide)
theorem bd43 {t : TT} (hB : Bd t) (i : Nat) : -1 ≤ t 43 i ∧ t 43 i ≤ 3000 := hB 43 i (by decide)
theorem bd44 {t : TT} (hB : Bd t) (i : Nat) : 0 ≤ t 44 i ∧ t 44 i ≤ 50 := hB 44 i (by decide)
theorem bd45 {t : TT} (hB : Bd t) (i : Nat) : 0 ≤ t 45 i ∧ t 45 i ≤ 50 := hB 45 i (by decide)
theorem bd46 {t : TT} (hB : Bd t) (i : Nat) : 0 ≤ t 46 i ∧ t 46 i ≤ 16 := hB 46 i (by decide)
theorem bd48 {t : TT} (hB : Bd t) (i : Nat) : 0 ≤ t 48 i ∧ t 48 i ≤ 64 := hB 48 i (by decide)
def wr (e : Int) : Int := (Int32.ofInt e).toInt
theorem wr_id {e : Int} (h : ir e) : wr e = e := ir_to h
section MORE
variable {g : WW → Nat → LL → List Value → Prop} {own : String} {cc : ByteArray} {nL h : Nat} {l : Launch} {E : Ew} {S : WW} {pc : Nat} {L : LL} {st : List Value}
theorem r_irem (C : Cw g own cc nL h l E) {a b : Int} (d : decode cc pc = .ok (.irem, 1)) (h1 : 0 ≤ a ∧ a ≤ 2147483647) (h2 : 0 < b ∧ b ≤ 2147483647) (kk : g S (pc + 1) L (iv (a % b) :: st)) : g S pc L (iv b :: iv a :: st) := by
  obtain ⟨p, e0, R, s, mi, args, below, meth, c, cells, slots, Q, A, H0, D, ⟨hx, hb, hml, hown, hts⟩, hE, hA, hK, hR, hg⟩ := C
  refine (hg _ _ _ _).mpr fun H locs ls hP hS hL => ?_
  obtain ⟨x, rfl⟩ := Int.eq_ofNat_of_zero_le h1.1
  obtain ⟨y, rfl⟩ := Int.eq_ofNat_of_zero_le (show 0 ≤ b by omega)
  refine lv_irem hx hb d ?_ ?_
  · intro hz
    have := (ir_eq (a := (y : Int)) (b := 0) ⟨by omega, by omega⟩ ir_0).mp hz
    omega
  · have e1 : Int32.ofInt (x : Int) - Int32.ofInt (x : Int) / Int32.ofInt (y : Int) * Int32.ofInt (y : Int) = Int32.ofInt ((x : Int) % (y : Int)) := by
      have h3 := pk_rem (a := x) (d := y) (by omega) (by omega) (by omega)
      have hn : ∀ n : Nat, nI n = Int32.ofInt (n : Int) := fun n => rfl
      rw [hn, hn, hn] at h3
      rw [h3]; rfl
    rw [e1]
    exact (hg _ _ _ _).mp kk H locs ls hP hS hL
theorem r_idiv2 (C : Cw g own cc nL h l E) {a : Int} (d : decode cc pc = .ok (.idiv, 1)) (kk : g S (pc + 1) L (iv ((wr a).tdiv 2) :: st)) : g S pc L (iv 2 :: iv a :: st) := by
  obtain ⟨p, e0, R, s, mi, args, below, meth, c, cells, slots, Q, A, H0, D, ⟨hx, hb, hml, hown, hts⟩, hE, hA, hK, hR, hg⟩ := C
  refine (hg _ _ _ _).mpr fun H locs ls hP hS hL => ?_
  refine lv_idiv hx hb d (by decide) ?_
  have h4 : ir ((wr a).tdiv 2) := by
    have h2 := ir_of (Int32.ofInt a)
    have h5 : (Int32.ofInt a).toInt = wr a := rfl
    rw [h5] at h2
    unfold ir at h2 ⊢
    generalize wr a = w at h2 ⊢
    by_cases hz : 0 ≤ w
    · rw [Int.tdiv_eq_ediv_of_nonneg hz]; omega
    · rw [show w = -(-w) by omega, Int.neg_tdiv, Int.tdiv_eq_ediv_of_nonneg (show 0 ≤ -w by omega)]; omega
  have e1 : Int32.ofInt a / Int32.ofInt 2 = Int32.ofInt ((wr a).tdiv 2) := by
    rw [← Int32.toInt_inj, Int32.toInt_div_of_ne_right _ _ (by decide), show (Int32.ofInt 2).toInt = 2 by decide, ir_to h4]
    rfl
  rw [e1]
  exact (hg _ _ _ _).mp kk H locs ls hP hS hL
theorem bt_shl : ∀ n : Nat, n < 5 → (Int32.ofInt 1) <<< (Int32.ofInt (n : Int) &&& 31) = Int32.ofInt ((2 ^ n : Nat) : Int) := by decide +kernel
theorem bt_shr : ∀ a : Nat, a < 16 → ∀ n : Nat, n < 4 → (Int32.ofInt (a : Int)) >>> (Int32.ofInt (n : Int) &&& 31) = Int32.ofInt ((a >>> n : Nat) : Int) := by decide +kernel
theorem bt_and : ∀ a : Nat, a < 16 → (Int32.ofInt (a : Int)) &&& (Int32.ofInt 1) = Int32.ofInt ((a % 2 : Nat) : Int) := by decide +kernel
theorem r_ishl (C : Cw g own cc nL h l E) {e : Int} (n : Nat) (he : e = (n : Int)) (hn : n < 5) (d : decode cc pc = .ok (.ishl, 1)) (kk : g S (pc + 1) L (iv ((2 ^ n : Nat) : Int) :: st)) : g S pc L (iv e :: iv 1 :: st) := by
  obtain ⟨p, e0, R, s, mi, args, below, meth, c, cells, slots, Q, A, H0, D, ⟨hx, hb, hml, hown, hts⟩, hE, hA, hK, hR, hg⟩ := C
  refine (hg _ _ _ _).mpr fun H locs ls hP hS hL => ?_
  subst he
  refine lv_ishl hx hb d ?_
  rw [bt_shl n hn]
  exact (hg _ _ _ _).mp kk H locs ls hP hS hL
theorem r_ishr (C : Cw g own cc nL h l E) {a n : Nat} (ha : a < 16) (hn : n < 4) (d : decode cc pc = .ok (.ishr, 1)) (kk : g S (pc + 1) L (iv ((a >>> n : Nat) : Int) :: st)) : g S pc L (iv (n : Int) :: iv (a : Int) :: st) := by
  obtain ⟨p, e0, R, s, mi, args, below, meth, c, cells, slots, Q, A, H0, D, ⟨hx, hb, hml, hown, hts⟩, hE, hA, hK, hR, hg⟩ := C
  refine (hg _ _ _ _).mpr fun H locs ls hP hS hL => ?_
  refine lv_ishr hx hb d ?_
  rw [bt_shr a ha n hn]
  exact (hg _ _ _ _).mp kk H locs ls hP hS hL
theorem shr_lt {a n : Nat} (ha : a < 16) : a >>> n < 16 := by
  rw [Nat.shiftRight_eq_div_pow]; exact Nat.lt_of_le_of_lt (Nat.div_le_self _ _) ha
theorem r_iand (C : Cw g own cc nL h l E) {a n : Nat} (ha : a < 16) (d : decode cc pc = .ok (.iand, 1)) (kk : g S (pc + 1) L (iv (((a >>> n) % 2 : Nat) : Int) :: st)) : g S pc L (iv 1 :: iv ((a >>> n : Nat) : Int) :: st) := by
  obtain ⟨p, e0, R, s, mi, args, below, meth, c, cells, slots, Q, A, H0, D, ⟨hx, hb, hml, hown, hts⟩, hE, hA, hK, hR, hg⟩ := C
  refine (hg _ _ _ _).mpr fun H locs ls hP hS hL => ?_
  refine lv_iand hx hb d ?_
  rw [bt_and _ (shr_lt ha)]
  exact (hg _ _ _ _).mp kk H locs ls hP hS hL
end MORE

theorem lw_Math_s : Cond.static Lib.Math.min.name ∈ lw_w := mw_ (List.mem_of_getElem? (i := 431) (by decide +kernel)) rfl
theorem lw_Math_i : Cond.initialized "java/lang/Math" ∈ lw_w := mw_ (List.mem_of_getElem? (i := 26) (by decide +kernel)) rfl
theorem lw_Math_c : Cond.code Lib.Math.min.name Lib.Math.min.code 2 (some .int) ∈ lw_w := mw_ (List.mem_of_getElem? (i := 432) (by decide +kernel)) rfl
