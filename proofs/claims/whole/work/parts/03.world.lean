/-! THE WORLD: the class' two machines (m = 0, 1) and the model (m = 2), each a table of ints t f i; every cell of the heap is read off them -/
abbrev LL := List (Option Value)
abbrev TT := Nat → Nat → Int
abbrev WW := Nat → TT
abbrev Ew := (Nat → Nat) × (Nat → ClassId)
def iv (e : Int) : Value := .int (Int32.ofInt e)
def rf (E : Ew) (k : Nat) : Value := .ref (E.1 k)
def tu (t : TT) (f i : Nat) (x : Int) : TT := fun a b => if a = f ∧ b = i then x else t a b
def sm (S : WW) (m : Nat) (t : TT) : WW := fun a => if a = m then t else S a
def ar (t : TT) (f : Nat) : Nat → Int32 := fun i => Int32.ofInt (t f i)
def ir (e : Int) : Prop := -2147483648 ≤ e ∧ e ≤ 2147483647
theorem tu_eq (t : TT) (f i : Nat) (x : Int) : tu t f i x f i = x := by simp [tu]
theorem tu_ne {t : TT} {f i a b : Nat} {x : Int} (h : ¬ (a = f ∧ b = i)) : tu t f i x a b = t a b := if_neg h
theorem sm_eq (S : WW) (m : Nat) (t : TT) : sm S m t m = t := by simp [sm]
theorem sm_ne {S : WW} {m a : Nat} {t : TT} (h : a ≠ m) : sm S m t a = S a := if_neg h
theorem sm_sm (S : WW) (m : Nat) (t t' : TT) : sm (sm S m t) m t' = sm S m t' := by
  funext a; simp only [sm]; split <;> rfl
theorem sm_self (S : WW) (m : Nat) : sm S m (S m) = S := by
  funext a; simp only [sm]; split
  · rename_i h; rw [h]
  · rfl
theorem sm_comm (S : WW) {m n : Nat} (h : m ≠ n) (t u : TT) : sm (sm S m t) n u = sm (sm S n u) m t := by
  funext a; simp only [sm]; split
  · rename_i h1; rw [if_neg (by omega)]
  · rfl
theorem iv_add (a b : Int) : Value.int (Int32.ofInt a + Int32.ofInt b) = iv (a + b) := by rw [iv, Int32.ofInt_add]
theorem iv_sub (a b : Int) : Value.int (Int32.ofInt a - Int32.ofInt b) = iv (a - b) := by rw [iv, Int32.ofInt_sub]
theorem iv_mul (a b : Int) : Value.int (Int32.ofInt a * Int32.ofInt b) = iv (a * b) := by rw [iv, Int32.ofInt_mul]
theorem ir_to {a : Int} (h : ir a) : (Int32.ofInt a).toInt = a := Int32.toInt_ofInt_of_le (by have := h.1; omega) (by have := h.2; omega)
theorem ir_lt {a b : Int} (ha : ir a) (hb : ir b) : Int32.ofInt a < Int32.ofInt b ↔ a < b := by rw [Int32.lt_iff_toInt_lt, ir_to ha, ir_to hb]
theorem ir_le {a b : Int} (ha : ir a) (hb : ir b) : Int32.ofInt a ≤ Int32.ofInt b ↔ a ≤ b := by rw [Int32.le_iff_toInt_le, ir_to ha, ir_to hb]
theorem ir_eq {a b : Int} (ha : ir a) (hb : ir b) : Int32.ofInt a = Int32.ofInt b ↔ a = b := by rw [← Int32.toInt_inj, ir_to ha, ir_to hb]
theorem ir_0 : ir 0 := ⟨by omega, by omega⟩
theorem ir_mk {a : Int} (h1 : -2147483648 ≤ a) (h2 : a ≤ 2147483647) : ir a := ⟨h1, h2⟩
theorem iv_of (x : Int32) : Value.int x = iv x.toInt := by rw [iv, Int32.ofInt_toInt]
theorem ir_of (x : Int32) : ir x.toInt := ⟨by have := x.le_toInt; simpa using this, by have := x.toInt_lt; omega⟩
theorem ir_in {i n : Nat} {e : Int} (he : e = (i : Int)) (hi : i < n) (hn : n < 2147483648) : vp_in (Int32.ofInt e) n ∧ (Int32.ofInt e).toNatClampNeg = i := by
  subst he
  have h : (Int32.ofInt (i : Int)).toInt = (i : Int) := ir_to ⟨by omega, by omega⟩
  refine ⟨vp_in_iff.mpr (by rw [h]; omega), ?_⟩
  show (Int32.ofInt (i : Int)).toInt.toNat = i
  rw [h]; rfl
def bs (m : Nat) : Nat := 33 + 85 * m
def kMc (m : Nat) : Nat := bs m + 0
def kRa (m : Nat) : Nat := bs m + 1
def kAa (m : Nat) : Nat := bs m + 2
def kJa (m : Nat) : Nat := bs m + 3
def kHa (m : Nat) : Nat := bs m + 4
def kQu (m : Nat) : Nat := bs m + 5
def kRk (m i : Nat) : Nat := bs m + (6 + i)
def kAc (m i : Nat) : Nat := bs m + (10 + i)
def kJb (m i : Nat) : Nat := bs m + (16 + i)
def kOn (m i : Nat) : Nat := bs m + (46 + i)
def kHd (m i : Nat) : Nat := bs m + (76 + i)
def kMd (a : Nat) : Nat := 2 + a

def mdf (a : Nat) : Nat := [12, 14, 15, 16, 17, 18, 19, 20, 21, 22, 23, 24, 25, 26, 27, 35, 36, 30, 31, 33, 34, 39, 40, 11, 41, 42, 43, 44, 45, 46, 47].getD a 0
def mdl (a : Nat) : Nat := [4, 4, 6, 6, 30, 30, 30, 30, 30, 30, 30, 30, 30, 30, 30, 30, 30, 120, 8, 8, 8, 260, 260, 30, 30, 30, 30, 30, 30, 120, 6].getD a 0
def mdt (a : Nat) : Nat := if a = 1 then 1 else 0
theorem mdf_inj : ∀ a, a < 31 → ∀ b, b < 31 → mdf a = mdf b → a = b := by decide +kernel
theorem mdl_small : ∀ a, a < 31 → mdl a < 2147483648 := by decide +kernel
def oMc (E : Ew) (B : Nat) (t : TT) : List Value := [rf E (B + 1), rf E (B + 2), rf E (B + 3), rf E (B + 4), iv (t 0 0), iv (t 1 0), iv (t 2 0), iv (t 3 0), iv (t 4 0), iv (t 5 0), iv (t 6 0), iv (t 7 0), iv (t 8 0), iv (t 9 0), rf E (B + 5), iv (t 10 0)]
def oRk (t : TT) (i : Nat) : List Value := [iv (t 12 i), iv (t 13 i), iv (t 14 i)]
def oAc (t : TT) (i : Nat) : List Value := [iv (t 15 i), iv (t 16 i)]
def oJb (E : Ew) (B : Nat) (t : TT) (i : Nat) : List Value := [iv (t 17 i), iv (t 18 i), iv (t 19 i), iv (t 20 i), iv (t 21 i), iv (t 22 i), iv (t 23 i), iv (t 24 i), iv (t 25 i), iv (t 26 i), iv (t 27 i), iv (t 28 i), iv (t 29 i), rf E (B + (46 + i))]
def oHd (t : TT) (i : Nat) : List Value := [iv (t 31 i), iv (t 32 i), iv (t 33 i), iv (t 34 i)]
def oMd (E : Ew) (t : TT) : List Value := [iv (t 4 0), iv (t 5 0), iv (t 6 0), iv (t 0 0), rf E 2, rf E 3, iv (t 1 0), rf E 4, rf E 5, iv (t 2 0), rf E 6, rf E 7, rf E 8, rf E 9, rf E 10, rf E 11, rf E 12, rf E 13, rf E 14, rf E 15, rf E 16, rf E 17, rf E 18, rf E 19, iv (t 3 0), rf E 20, rf E 21, rf E 22, iv (t 8 0), iv (t 9 0), iv (t 37 0), iv (t 38 0), iv (t 48 0), rf E 23, rf E 24, rf E 25, iv (t 10 0), rf E 26, rf E 27, rf E 28, rf E 29, rf E 30, rf E 31, rf E 32]
def mcel (E : Ew) (B : Nat) (t : TT) (j : Nat) : va_E :=
  if j = 0 then .inr (3, oMc E B t)
  else if j = 1 then .inl (E.2 2, 4, .inr (.inr (.inr (.inr fun i => some (E.1 (B + (6 + i)))))))
  else if j = 2 then .inl (E.2 3, 6, .inr (.inr (.inr (.inr fun i => some (E.1 (B + (10 + i)))))))
  else if j = 3 then .inl (E.2 4, 30, .inr (.inr (.inr (.inr fun i => some (E.1 (B + (16 + i)))))))
  else if j = 4 then .inl (E.2 5, 9, .inr (.inr (.inr (.inr fun i => some (E.1 (B + (76 + i)))))))
  else if j = 5 then .inl (E.2 0, 30, .inl (ar t 11))
  else if j < 10 then .inr (4, oRk t (j - 6))
  else if j < 16 then .inr (0, oAc t (j - 10))
  else if j < 46 then .inr (2, oJb E B t (j - 16))
  else if j < 76 then .inl (E.2 0, 4, .inl (ar t (100 + (j - 46))))
  else .inr (1, oHd t (j - 76))
def zcel (E : Ew) (S : WW) (k : Nat) : va_E :=
  if k = 0 then .inr (5, [rf E (bs 0), rf E (bs 1)])
  else if k = 1 then .inr (6, oMd E (S 2))
  else if k < 33 then .inl (E.2 (mdt (k - 2)), mdl (k - 2), .inl (ar (S 2) (mdf (k - 2))))
  else if k < 118 then mcel E (bs 0) (S 0) (k - 33)
  else mcel E (bs 1) (S 1) (k - 118)
def wld (E : Ew) (S : WW) : va_W := (List.range 203).map (fun k => (E.1 k, zcel E S k))
def tys (E : Ew) : List (ClassId × FieldType) := [(E.2 0, .int), (E.2 1, .boolean), (E.2 2, .object "GreatMachine$Rack"), (E.2 3, .object "GreatMachine$Account"), (E.2 4, .object "GreatMachine$Job"), (E.2 5, .object "GreatMachine$Hold")]
def EOk (E : Ew) : Prop := ∀ i j, i < 203 → j < 203 → E.1 i = E.1 j → i = j
theorem wld_len (E : Ew) (S : WW) : (wld E S).length = 203 := by simp [wld]
theorem wld_at {E : Ew} {S : WW} {k : Nat} (h : k < 203) : (wld E S)[k]? = some (E.1 k, zcel E S k) := by
  simp [wld, List.getElem?_range h]
theorem wld_of {E : Ew} {S : WW} {k : Nat} {q : Nat × va_E} (h : (wld E S)[k]? = some q) : k < 203 ∧ q = (E.1 k, zcel E S k) := by
  have h1 : k < 203 := by have := (List.getElem?_eq_some_iff.mp h).1; rwa [wld_len] at this
  rw [wld_at h1] at h
  exact ⟨h1, (Option.some.inj h).symm⟩
theorem wld_set {E : Ew} {S S' : WW} {k : Nat} {e : va_E} (hk : k < 203) (h1 : zcel E S' k = e) (h2 : ∀ j, j < 203 → j ≠ k → zcel E S' j = zcel E S j) : (wld E S).set k (E.1 k, e) = wld E S' := by
  subst h1
  apply List.ext_getElem?
  intro j
  rw [List.getElem?_set]
  by_cases hj : j < 203
  · rw [wld_at hj, wld_len]
    by_cases hjk : k = j
    · subst hjk; simp [hj, wld_at hj]
    · rw [if_neg hjk, wld_at hj, h2 j hj (fun q => hjk q.symm)]
  · rw [List.getElem?_eq_none (by rw [wld_len]; omega)]
    rw [if_neg (by omega), List.getElem?_eq_none (by rw [wld_len]; omega)]
theorem wld_D {E : Ew} {S : WW} {A : Nat → Prop} (hE : EOk E) (hA : ∀ k, k < 203 → A (E.1 k)) : va_D A (wld E S) := by
  refine ⟨fun i j p q hp hq hpq => ?_, fun k q hq => ?_⟩
  · obtain ⟨h1, rfl⟩ := wld_of hp
    obtain ⟨h2, rfl⟩ := wld_of hq
    exact hE i j h1 h2 hpq
  · obtain ⟨h1, rfl⟩ := wld_of hq
    exact hA k h1
theorem zM {E : Ew} {S : WW} {m j : Nat} (hm : m < 2) (hj : j < 85) : zcel E S (bs m + j) = mcel E (bs m) (S m) j := by
  rcases (show m = 0 ∨ m = 1 by omega) with rfl | rfl
  · unfold zcel
    rw [if_neg (by unfold bs; omega), if_neg (by unfold bs; omega), if_neg (by unfold bs; omega), if_pos (by unfold bs; omega), show bs 0 + j - 33 = j by unfold bs; omega]
  · unfold zcel
    rw [if_neg (by unfold bs; omega), if_neg (by unfold bs; omega), if_neg (by unfold bs; omega), if_neg (by unfold bs; omega), show bs 1 + j - 118 = j by unfold bs; omega]
/-- one cell of machine m is changed -/
theorem zM_ne {E : Ew} {S : WW} {m j0 : Nat} {t t' : TT} (hm : m < 2) (h : ∀ j, j < 85 → j ≠ j0 → mcel E (bs m) t' j = mcel E (bs m) t j) : ∀ j, j < 203 → j ≠ bs m + j0 → zcel E (sm S m t') j = zcel E (sm S m t) j := by
  intro j hj hne
  unfold zcel
  by_cases h0 : j = 0
  · simp [h0]
  by_cases h1 : j = 1
  · rw [if_neg h0, if_neg h0, if_pos h1, if_pos h1, sm_ne (by omega), sm_ne (by omega)]
  by_cases h2 : j < 33
  · rw [if_neg h0, if_neg h0, if_neg h1, if_neg h1, if_pos h2, if_pos h2, sm_ne (by omega), sm_ne (by omega)]
  by_cases h3 : j < 118
  · rw [if_neg h0, if_neg h0, if_neg h1, if_neg h1, if_neg h2, if_neg h2, if_pos h3, if_pos h3]
    by_cases hm0 : m = 0
    · subst hm0; rw [sm_eq, sm_eq]; exact h _ (by omega) (by unfold bs at hne; omega)
    · rw [sm_ne (by omega), sm_ne (by omega)]
  · rw [if_neg h0, if_neg h0, if_neg h1, if_neg h1, if_neg h2, if_neg h2, if_neg h3, if_neg h3]
    by_cases hm0 : m = 1
    · subst hm0; rw [sm_eq, sm_eq]; exact h _ (by omega) (by unfold bs at hne; omega)
    · rw [sm_ne (by omega), sm_ne (by omega)]
theorem ar_ne {t : TT} {f i g : Nat} {x : Int} (h : g ≠ f) : ar (tu t f i x) g = ar t g := by
  funext a; simp only [ar, tu]; rw [if_neg (by omega)]
theorem ar_eq {t : TT} {f i : Nat} {x : Int} : ar (tu t f i x) f = upd (ar t f) i (Int32.ofInt x) := by
  funext a; simp only [ar, tu, upd]; by_cases h : a = i <;> simp [h]
theorem zMc {E : Ew} {S : WW} {m : Nat} (hm : m < 2) : zcel E S (kMc m) = .inr (3, oMc E (bs m) (S m)) := by rw [kMc, zM hm (by omega)]; rfl
theorem zRa {E : Ew} {S : WW} {m : Nat} (hm : m < 2) : zcel E S (kRa m) = .inl (E.2 2, 4, .inr (.inr (.inr (.inr fun i => some (E.1 (kRk m i)))))) := by rw [kRa, zM hm (by omega)]; rfl
theorem zAa {E : Ew} {S : WW} {m : Nat} (hm : m < 2) : zcel E S (kAa m) = .inl (E.2 3, 6, .inr (.inr (.inr (.inr fun i => some (E.1 (kAc m i)))))) := by rw [kAa, zM hm (by omega)]; rfl
theorem zJa {E : Ew} {S : WW} {m : Nat} (hm : m < 2) : zcel E S (kJa m) = .inl (E.2 4, 30, .inr (.inr (.inr (.inr fun i => some (E.1 (kJb m i)))))) := by rw [kJa, zM hm (by omega)]; rfl
theorem zHa {E : Ew} {S : WW} {m : Nat} (hm : m < 2) : zcel E S (kHa m) = .inl (E.2 5, 9, .inr (.inr (.inr (.inr fun i => some (E.1 (kHd m i)))))) := by rw [kHa, zM hm (by omega)]; rfl
theorem zQu {E : Ew} {S : WW} {m : Nat} (hm : m < 2) : zcel E S (kQu m) = .inl (E.2 0, 30, .inl (ar (S m) 11)) := by rw [kQu, zM hm (by omega)]; rfl
theorem zRk {E : Ew} {S : WW} {m i : Nat} (hm : m < 2) (hi : i < 4) : zcel E S (kRk m i) = .inr (4, oRk (S m) i) := by
  rw [kRk, zM hm (by omega)]; unfold mcel; simp (disch := omega) only [if_neg, if_pos]; rw [show 6 + i - 6 = i by omega]
theorem zAc {E : Ew} {S : WW} {m i : Nat} (hm : m < 2) (hi : i < 6) : zcel E S (kAc m i) = .inr (0, oAc (S m) i) := by
  rw [kAc, zM hm (by omega)]; unfold mcel; simp (disch := omega) only [if_neg, if_pos]; rw [show 10 + i - 10 = i by omega]
theorem zJb {E : Ew} {S : WW} {m i : Nat} (hm : m < 2) (hi : i < 30) : zcel E S (kJb m i) = .inr (2, oJb E (bs m) (S m) i) := by
  rw [kJb, zM hm (by omega)]; unfold mcel; simp (disch := omega) only [if_neg, if_pos]; rw [show 16 + i - 16 = i by omega]
theorem zOn {E : Ew} {S : WW} {m i : Nat} (hm : m < 2) (hi : i < 30) : zcel E S (kOn m i) = .inl (E.2 0, 4, .inl (ar (S m) (100 + i))) := by
  rw [kOn, zM hm (by omega)]; unfold mcel; simp (disch := omega) only [if_neg, if_pos]; rw [show 46 + i - 46 = i by omega]
theorem zHd {E : Ew} {S : WW} {m i : Nat} (hm : m < 2) (hi : i < 9) : zcel E S (kHd m i) = .inr (1, oHd (S m) i) := by
  rw [kHd, zM hm (by omega)]; unfold mcel; simp (disch := omega) only [if_neg]; rw [show 76 + i - 76 = i by omega]
theorem zMd {E : Ew} {S : WW} : zcel E S 1 = .inr (6, oMd E (S 2)) := rfl
theorem zGm {E : Ew} {S : WW} : zcel E S 0 = .inr (5, [rf E (bs 0), rf E (bs 1)]) := rfl
theorem zMa {E : Ew} {S : WW} {a : Nat} (ha : a < 31) : zcel E S (kMd a) = .inl (E.2 (mdt a), mdl a, .inl (ar (S 2) (mdf a))) := by
  unfold zcel kMd
  rw [if_neg (by omega), if_neg (by omega), if_pos (by omega), show 2 + a - 2 = a by omega]
theorem kMc_lt {m : Nat} (hm : m < 2) : kMc m < 203 := by unfold kMc bs; omega
theorem kRa_lt {m : Nat} (hm : m < 2) : kRa m < 203 := by unfold kRa bs; omega
theorem kAa_lt {m : Nat} (hm : m < 2) : kAa m < 203 := by unfold kAa bs; omega
theorem kJa_lt {m : Nat} (hm : m < 2) : kJa m < 203 := by unfold kJa bs; omega
theorem kHa_lt {m : Nat} (hm : m < 2) : kHa m < 203 := by unfold kHa bs; omega
theorem kQu_lt {m : Nat} (hm : m < 2) : kQu m < 203 := by unfold kQu bs; omega
theorem kRk_lt {m i : Nat} (hm : m < 2) (hi : i < 4) : kRk m i < 203 := by unfold kRk bs; omega
theorem kAc_lt {m i : Nat} (hm : m < 2) (hi : i < 6) : kAc m i < 203 := by unfold kAc bs; omega
theorem kJb_lt {m i : Nat} (hm : m < 2) (hi : i < 30) : kJb m i < 203 := by unfold kJb bs; omega
theorem kOn_lt {m i : Nat} (hm : m < 2) (hi : i < 30) : kOn m i < 203 := by unfold kOn bs; omega
theorem kHd_lt {m i : Nat} (hm : m < 2) (hi : i < 9) : kHd m i < 203 := by unfold kHd bs; omega
theorem kMd_lt {a : Nat} (ha : a < 31) : kMd a < 203 := by unfold kMd; omega

theorem mx_Mc {E : Ew} {B : Nat} {t : TT} {f i : Nat} {x : Int} (hf : f < 11) : ∀ j, j < 85 → j ≠ 0 → mcel E B (tu t f i x) j = mcel E B t j := by
  intro j hj hne
  have key : ∀ a b, ¬ (a = f ∧ b = i) → tu t f i x a b = t a b := fun a b h => tu_ne h
  unfold mcel
  by_cases h0 : j = 0
  · rw [if_pos h0, if_pos h0]; unfold oMc; simp (disch := omega) only [key]
  by_cases h1 : j = 1
  · rw [if_neg h0, if_neg h0, if_pos h1, if_pos h1]
  by_cases h2 : j = 2
  · rw [if_neg h0, if_neg h0, if_neg h1, if_neg h1, if_pos h2, if_pos h2]
  by_cases h3 : j = 3
  · rw [if_neg h0, if_neg h0, if_neg h1, if_neg h1, if_neg h2, if_neg h2, if_pos h3, if_pos h3]
  by_cases h4 : j = 4
  · rw [if_neg h0, if_neg h0, if_neg h1, if_neg h1, if_neg h2, if_neg h2, if_neg h3, if_neg h3, if_pos h4, if_pos h4]
  rw [if_neg h0, if_neg h0, if_neg h1, if_neg h1, if_neg h2, if_neg h2, if_neg h3, if_neg h3, if_neg h4, if_neg h4]
  by_cases h5 : j = 5
  · rw [if_pos h5, if_pos h5, ar_ne (by omega)]
  rw [if_neg h5, if_neg h5]
  by_cases h6 : j < 10
  · rw [if_pos h6, if_pos h6]; unfold oRk; simp (disch := omega) only [key]
  rw [if_neg h6, if_neg h6]
  by_cases h7 : j < 16
  · rw [if_pos h7, if_pos h7]; unfold oAc; simp (disch := omega) only [key]
  rw [if_neg h7, if_neg h7]
  by_cases h8 : j < 46
  · rw [if_pos h8, if_pos h8]; unfold oJb; simp (disch := omega) only [key]
  rw [if_neg h8, if_neg h8]
  by_cases h9 : j < 76
  · rw [if_pos h9, if_pos h9, ar_ne (by omega)]
  rw [if_neg h9, if_neg h9]; unfold oHd; simp (disch := omega) only [key]
theorem mx_Qu {E : Ew} {B : Nat} {t : TT} {f i : Nat} {x : Int} (hf : f = 11) : ∀ j, j < 85 → j ≠ 5 → mcel E B (tu t f i x) j = mcel E B t j := by
  intro j hj hne
  have key : ∀ a b, ¬ (a = f ∧ b = i) → tu t f i x a b = t a b := fun a b h => tu_ne h
  unfold mcel
  by_cases h0 : j = 0
  · rw [if_pos h0, if_pos h0]; unfold oMc; simp (disch := omega) only [key]
  by_cases h1 : j = 1
  · rw [if_neg h0, if_neg h0, if_pos h1, if_pos h1]
  by_cases h2 : j = 2
  · rw [if_neg h0, if_neg h0, if_neg h1, if_neg h1, if_pos h2, if_pos h2]
  by_cases h3 : j = 3
  · rw [if_neg h0, if_neg h0, if_neg h1, if_neg h1, if_neg h2, if_neg h2, if_pos h3, if_pos h3]
  by_cases h4 : j = 4
  · rw [if_neg h0, if_neg h0, if_neg h1, if_neg h1, if_neg h2, if_neg h2, if_neg h3, if_neg h3, if_pos h4, if_pos h4]
  rw [if_neg h0, if_neg h0, if_neg h1, if_neg h1, if_neg h2, if_neg h2, if_neg h3, if_neg h3, if_neg h4, if_neg h4]
  by_cases h5 : j = 5
  · rw [if_pos h5, if_pos h5, ar_ne (by omega)]
  rw [if_neg h5, if_neg h5]
  by_cases h6 : j < 10
  · rw [if_pos h6, if_pos h6]; unfold oRk; simp (disch := omega) only [key]
  rw [if_neg h6, if_neg h6]
  by_cases h7 : j < 16
  · rw [if_pos h7, if_pos h7]; unfold oAc; simp (disch := omega) only [key]
  rw [if_neg h7, if_neg h7]
  by_cases h8 : j < 46
  · rw [if_pos h8, if_pos h8]; unfold oJb; simp (disch := omega) only [key]
  rw [if_neg h8, if_neg h8]
  by_cases h9 : j < 76
  · rw [if_pos h9, if_pos h9, ar_ne (by omega)]
  rw [if_neg h9, if_neg h9]; unfold oHd; simp (disch := omega) only [key]
theorem mx_Rk {E : Ew} {B : Nat} {t : TT} {f i : Nat} {x : Int} (h1 : 12 ≤ f) (h2 : f ≤ 14) (hi : i < 4) : ∀ j, j < 85 → j ≠ 6 + i → mcel E B (tu t f i x) j = mcel E B t j := by
  intro j hj hne
  have key : ∀ a b, ¬ (a = f ∧ b = i) → tu t f i x a b = t a b := fun a b h => tu_ne h
  unfold mcel
  by_cases h0 : j = 0
  · rw [if_pos h0, if_pos h0]; unfold oMc; simp (disch := omega) only [key]
  by_cases h1 : j = 1
  · rw [if_neg h0, if_neg h0, if_pos h1, if_pos h1]
  by_cases h2 : j = 2
  · rw [if_neg h0, if_neg h0, if_neg h1, if_neg h1, if_pos h2, if_pos h2]
  by_cases h3 : j = 3
  · rw [if_neg h0, if_neg h0, if_neg h1, if_neg h1, if_neg h2, if_neg h2, if_pos h3, if_pos h3]
  by_cases h4 : j = 4
  · rw [if_neg h0, if_neg h0, if_neg h1, if_neg h1, if_neg h2, if_neg h2, if_neg h3, if_neg h3, if_pos h4, if_pos h4]
  rw [if_neg h0, if_neg h0, if_neg h1, if_neg h1, if_neg h2, if_neg h2, if_neg h3, if_neg h3, if_neg h4, if_neg h4]
  by_cases h5 : j = 5
  · rw [if_pos h5, if_pos h5, ar_ne (by omega)]
  rw [if_neg h5, if_neg h5]
  by_cases h6 : j < 10
  · rw [if_pos h6, if_pos h6]; unfold oRk; simp (disch := omega) only [key]
  rw [if_neg h6, if_neg h6]
  by_cases h7 : j < 16
  · rw [if_pos h7, if_pos h7]; unfold oAc; simp (disch := omega) only [key]
  rw [if_neg h7, if_neg h7]
  by_cases h8 : j < 46
  · rw [if_pos h8, if_pos h8]; unfold oJb; simp (disch := omega) only [key]
  rw [if_neg h8, if_neg h8]
  by_cases h9 : j < 76
  · rw [if_pos h9, if_pos h9, ar_ne (by omega)]
  rw [if_neg h9, if_neg h9]; unfold oHd; simp (disch := omega) only [key]
theorem mx_Ac {E : Ew} {B : Nat} {t : TT} {f i : Nat} {x : Int} (h1 : 15 ≤ f) (h2 : f ≤ 16) (hi : i < 6) : ∀ j, j < 85 → j ≠ 10 + i → mcel E B (tu t f i x) j = mcel E B t j := by
  intro j hj hne
  have key : ∀ a b, ¬ (a = f ∧ b = i) → tu t f i x a b = t a b := fun a b h => tu_ne h
  unfold mcel
  by_cases h0 : j = 0
  · rw [if_pos h0, if_pos h0]; unfold oMc; simp (disch := omega) only [key]
  by_cases h1 : j = 1
  · rw [if_neg h0, if_neg h0, if_pos h1, if_pos h1]
  by_cases h2 : j = 2
  · rw [if_neg h0, if_neg h0, if_neg h1, if_neg h1, if_pos h2, if_pos h2]
  by_cases h3 : j = 3
  · rw [if_neg h0, if_neg h0, if_neg h1, if_neg h1, if_neg h2, if_neg h2, if_pos h3, if_pos h3]
  by_cases h4 : j = 4
  · rw [if_neg h0, if_neg h0, if_neg h1, if_neg h1, if_neg h2, if_neg h2, if_neg h3, if_neg h3, if_pos h4, if_pos h4]
  rw [if_neg h0, if_neg h0, if_neg h1, if_neg h1, if_neg h2, if_neg h2, if_neg h3, if_neg h3, if_neg h4, if_neg h4]
  by_cases h5 : j = 5
  · rw [if_pos h5, if_pos h5, ar_ne (by omega)]
  rw [if_neg h5, if_neg h5]
  by_cases h6 : j < 10
  · rw [if_pos h6, if_pos h6]; unfold oRk; simp (disch := omega) only [key]
  rw [if_neg h6, if_neg h6]
  by_cases h7 : j < 16
  · rw [if_pos h7, if_pos h7]; unfold oAc; simp (disch := omega) only [key]
  rw [if_neg h7, if_neg h7]
  by_cases h8 : j < 46
  · rw [if_pos h8, if_pos h8]; unfold oJb; simp (disch := omega) only [key]
  rw [if_neg h8, if_neg h8]
  by_cases h9 : j < 76
  · rw [if_pos h9, if_pos h9, ar_ne (by omega)]
  rw [if_neg h9, if_neg h9]; unfold oHd; simp (disch := omega) only [key]
theorem mx_Jb {E : Ew} {B : Nat} {t : TT} {f i : Nat} {x : Int} (h1 : 17 ≤ f) (h2 : f ≤ 29) (hi : i < 30) : ∀ j, j < 85 → j ≠ 16 + i → mcel E B (tu t f i x) j = mcel E B t j := by
  intro j hj hne
  have key : ∀ a b, ¬ (a = f ∧ b = i) → tu t f i x a b = t a b := fun a b h => tu_ne h
  unfold mcel
  by_cases h0 : j = 0
  · rw [if_pos h0, if_pos h0]; unfold oMc; simp (disch := omega) only [key]
  by_cases h1 : j = 1
  · rw [if_neg h0, if_neg h0, if_pos h1, if_pos h1]
  by_cases h2 : j = 2
  · rw [if_neg h0, if_neg h0, if_neg h1, if_neg h1, if_pos h2, if_pos h2]
  by_cases h3 : j = 3
  · rw [if_neg h0, if_neg h0, if_neg h1, if_neg h1, if_neg h2, if_neg h2, if_pos h3, if_pos h3]
  by_cases h4 : j = 4
  · rw [if_neg h0, if_neg h0, if_neg h1, if_neg h1, if_neg h2, if_neg h2, if_neg h3, if_neg h3, if_pos h4, if_pos h4]
  rw [if_neg h0, if_neg h0, if_neg h1, if_neg h1, if_neg h2, if_neg h2, if_neg h3, if_neg h3, if_neg h4, if_neg h4]
  by_cases h5 : j = 5
  · rw [if_pos h5, if_pos h5, ar_ne (by omega)]
  rw [if_neg h5, if_neg h5]
  by_cases h6 : j < 10
  · rw [if_pos h6, if_pos h6]; unfold oRk; simp (disch := omega) only [key]
  rw [if_neg h6, if_neg h6]
  by_cases h7 : j < 16
  · rw [if_pos h7, if_pos h7]; unfold oAc; simp (disch := omega) only [key]
  rw [if_neg h7, if_neg h7]
  by_cases h8 : j < 46
  · rw [if_pos h8, if_pos h8]; unfold oJb; simp (disch := omega) only [key]
  rw [if_neg h8, if_neg h8]
  by_cases h9 : j < 76
  · rw [if_pos h9, if_pos h9, ar_ne (by omega)]
  rw [if_neg h9, if_neg h9]; unfold oHd; simp (disch := omega) only [key]
theorem mx_On {E : Ew} {B : Nat} {t : TT} {f i : Nat} {x : Int} {n : Nat} (hf : f = 100 + n) (hn : n < 30) : ∀ j, j < 85 → j ≠ 46 + n → mcel E B (tu t f i x) j = mcel E B t j := by
  intro j hj hne
  have key : ∀ a b, ¬ (a = f ∧ b = i) → tu t f i x a b = t a b := fun a b h => tu_ne h
  unfold mcel
  by_cases h0 : j = 0
  · rw [if_pos h0, if_pos h0]; unfold oMc; simp (disch := omega) only [key]
  by_cases h1 : j = 1
  · rw [if_neg h0, if_neg h0, if_pos h1, if_pos h1]
  by_cases h2 : j = 2
  · rw [if_neg h0, if_neg h0, if_neg h1, if_neg h1, if_pos h2, if_pos h2]
  by_cases h3 : j = 3
  · rw [if_neg h0, if_neg h0, if_neg h1, if_neg h1, if_neg h2, if_neg h2, if_pos h3, if_pos h3]
  by_cases h4 : j = 4
  · rw [if_neg h0, if_neg h0, if_neg h1, if_neg h1, if_neg h2, if_neg h2, if_neg h3, if_neg h3, if_pos h4, if_pos h4]
  rw [if_neg h0, if_neg h0, if_neg h1, if_neg h1, if_neg h2, if_neg h2, if_neg h3, if_neg h3, if_neg h4, if_neg h4]
  by_cases h5 : j = 5
  · rw [if_pos h5, if_pos h5, ar_ne (by omega)]
  rw [if_neg h5, if_neg h5]
  by_cases h6 : j < 10
  · rw [if_pos h6, if_pos h6]; unfold oRk; simp (disch := omega) only [key]
  rw [if_neg h6, if_neg h6]
  by_cases h7 : j < 16
  · rw [if_pos h7, if_pos h7]; unfold oAc; simp (disch := omega) only [key]
  rw [if_neg h7, if_neg h7]
  by_cases h8 : j < 46
  · rw [if_pos h8, if_pos h8]; unfold oJb; simp (disch := omega) only [key]
  rw [if_neg h8, if_neg h8]
  by_cases h9 : j < 76
  · rw [if_pos h9, if_pos h9, ar_ne (by omega)]
  rw [if_neg h9, if_neg h9]; unfold oHd; simp (disch := omega) only [key]
theorem mx_Hd {E : Ew} {B : Nat} {t : TT} {f i : Nat} {x : Int} (h1 : 31 ≤ f) (h2 : f ≤ 34) (hi : i < 9) : ∀ j, j < 85 → j ≠ 76 + i → mcel E B (tu t f i x) j = mcel E B t j := by
  intro j hj hne
  have key : ∀ a b, ¬ (a = f ∧ b = i) → tu t f i x a b = t a b := fun a b h => tu_ne h
  unfold mcel
  by_cases h0 : j = 0
  · rw [if_pos h0, if_pos h0]; unfold oMc; simp (disch := omega) only [key]
  by_cases h1 : j = 1
  · rw [if_neg h0, if_neg h0, if_pos h1, if_pos h1]
  by_cases h2 : j = 2
  · rw [if_neg h0, if_neg h0, if_neg h1, if_neg h1, if_pos h2, if_pos h2]
  by_cases h3 : j = 3
  · rw [if_neg h0, if_neg h0, if_neg h1, if_neg h1, if_neg h2, if_neg h2, if_pos h3, if_pos h3]
  by_cases h4 : j = 4
  · rw [if_neg h0, if_neg h0, if_neg h1, if_neg h1, if_neg h2, if_neg h2, if_neg h3, if_neg h3, if_pos h4, if_pos h4]
  rw [if_neg h0, if_neg h0, if_neg h1, if_neg h1, if_neg h2, if_neg h2, if_neg h3, if_neg h3, if_neg h4, if_neg h4]
  by_cases h5 : j = 5
  · rw [if_pos h5, if_pos h5, ar_ne (by omega)]
  rw [if_neg h5, if_neg h5]
  by_cases h6 : j < 10
  · rw [if_pos h6, if_pos h6]; unfold oRk; simp (disch := omega) only [key]
  rw [if_neg h6, if_neg h6]
  by_cases h7 : j < 16
  · rw [if_pos h7, if_pos h7]; unfold oAc; simp (disch := omega) only [key]
  rw [if_neg h7, if_neg h7]
  by_cases h8 : j < 46
  · rw [if_pos h8, if_pos h8]; unfold oJb; simp (disch := omega) only [key]
  rw [if_neg h8, if_neg h8]
  by_cases h9 : j < 76
  · rw [if_pos h9, if_pos h9, ar_ne (by omega)]
  rw [if_neg h9, if_neg h9]; unfold oHd; simp (disch := omega) only [key]
theorem zD_ne {E : Ew} {S : WW} {t t' : TT} {k : Nat} (h1 : k ≠ 1 → oMd E t' = oMd E t) (h2 : ∀ a, a < 31 → kMd a ≠ k → ar t' (mdf a) = ar t (mdf a)) : ∀ j, j < 203 → j ≠ k → zcel E (sm S 2 t') j = zcel E (sm S 2 t) j := by
  intro j hj hne
  unfold zcel
  by_cases h0 : j = 0
  · simp [h0]
  by_cases e1 : j = 1
  · rw [if_neg h0, if_neg h0, if_pos e1, if_pos e1, sm_eq, sm_eq, h1 (by omega)]
  by_cases e2 : j < 33
  · rw [if_neg h0, if_neg h0, if_neg e1, if_neg e1, if_pos e2, if_pos e2, sm_eq, sm_eq, h2 (j - 2) (by omega) (by unfold kMd; omega)]
  rw [if_neg h0, if_neg h0, if_neg e1, if_neg e1, if_neg e2, if_neg e2, sm_ne (by omega), sm_ne (by omega), sm_ne (by omega), sm_ne (by omega)]
theorem mdf_scal : ∀ a, a < 31 → ∀ f, f ∈ [0, 1, 2, 3, 4, 5, 6, 8, 9, 10, 37, 38, 48] → mdf a ≠ f := by decide +kernel
theorem oMd_ne {E : Ew} {t : TT} {a i : Nat} {x : Int} (ha : a < 31) : oMd E (tu t (mdf a) i x) = oMd E t := by
  have key : ∀ f, f ∈ [0, 1, 2, 3, 4, 5, 6, 8, 9, 10, 37, 38, 48] → tu t (mdf a) i x f 0 = t f 0 := fun f hf => tu_ne (fun h => mdf_scal a ha f hf h.1.symm)
  unfold oMd
  rw [key 0 (by decide), key 1 (by decide), key 2 (by decide), key 3 (by decide), key 4 (by decide), key 5 (by decide), key 6 (by decide), key 8 (by decide), key 9 (by decide), key 10 (by decide), key 37 (by decide), key 38 (by decide), key 48 (by decide)]
