/-! PURE: what the class' table and the model's table have to do with each other -/
def RS (X M : TT) : Prop := X 0 0 = M 0 0 ∧ X 1 0 = M 1 0 ∧ X 2 0 = M 2 0 ∧ X 4 0 = M 4 0 ∧ X 5 0 = M 5 0 ∧ X 6 0 = M 6 0 ∧ X 7 0 = roomF M (M 0 0).toNat
def RA (X M : TT) : Prop := ∀ a : Nat, (a : Int) < M 1 0 → X 15 a = M 15 a ∧ X 16 a = M 16 a
def tkU (M : TT) (j : Nat) : Int := if M 24 j = 1 then M 25 j + M 36 j else 0
def RJ (X M : TT) : Prop := ∀ j : Nat, (j : Int) < M 2 0 → (∀ f, 17 ≤ f → f ≤ 27 → X f j = M f j) ∧ X 28 j = cmF M j (M 0 0).toNat ∧ X 29 j = tkU M j ∧ ∀ r, r < 4 → X (100 + j) r = M 30 (4 * j + r)
def RH (X M : TT) : Prop := ∀ k : Nat, (k : Int) < M 3 0 → X 31 k = M 31 k ∧ X 32 k = 0 ∧ X 33 k = M 33 k ∧ X 34 k = M 34 k
noncomputable def ndJ (b : Prop) (M : TT) (j : Nat) : Int := pif b (M 20 j - M 27 j) (M 21 j - M 27 j)
def IJ1 (M : TT) (j : Nat) : Prop := 1 ≤ M 18 j ∧ M 27 j < M 21 j ∧ M 21 j ≤ M 20 j ∧ (M 22 j ≠ 0 → M 27 j % M 22 j = 0) ∧ M 23 j < j ∧ M 17 j < M 1 0
def IJ2 (b : Prop) (c : Int) (M : TT) (j : Nat) : Prop := M 24 j = 1 → M 35 j = c - M 25 j ∧ M 36 j = M 20 j - M 27 j ∧ 0 ≤ M 25 j ∧ 0 ≤ M 35 j ∧ M 35 j < ndJ b M j
def IJ3 (M : TT) (j : Nat) : Prop := M 24 j ≠ 1 → M 35 j = 0 ∧ ∀ r, r < 4 → M 30 (4 * j + r) = 0
def IJ (b : Prop) (tm : Nat → Int) (M : TT) : Prop := ∀ j : Nat, (j : Int) < M 2 0 → IJ1 M j ∧ IJ2 b (tm j) M j ∧ IJ3 M j
def IR (M : TT) : Prop := (∀ r : Nat, (r : Int) < M 0 0 → 0 ≤ foF M r) ∧ ∀ a r : Nat, a < 30 → M 0 0 ≤ (r : Int) → r < 4 → M 30 (4 * a + r) = 0
def IS (b : Prop) (M : TT) : Prop := M 3 0 ≤ 8 ∧ 1 ≤ M 5 0 ∧ (b → M 38 0 = 1) ∧ (¬ b → M 38 0 = 0)
def Rc (b : Prop) (tm : Nat → Int) (X M : TT) : Prop := (Bd X ∧ Bd M) ∧ RS X M ∧ RR X M ∧ RA X M ∧ RJ X M ∧ RH X M ∧ IJ b tm M ∧ IR M ∧ IS b M
def NA (z : TT) : Prop := (∀ a : Nat, a < 260 → z 39 a = tnM z (z 4 0 + a) ∧ z 40 a = tlM z (z 4 0 + a) (z 2 0).toNat) ∧ z 48 0 = roomF z (z 0 0).toNat
def KP (s z : TT) : Prop := (z 8 0 = -1 → s 3 0 = z 3 0) ∧ (z 8 0 ≠ -1 → z 9 0 = -1 → s 3 0 = z 3 0) ∧ (z 8 0 ≠ -1 → z 9 0 ≠ -1 → s 3 0 = z 3 0 + 1 ∧ s 31 (z 3 0).toNat = z 18 (z 8 0).toNat ∧ s 32 (z 3 0).toNat = z 19 (z 8 0).toNat ∧ s 33 (z 3 0).toNat = z 9 0 ∧ s 34 (z 3 0).toNat = z 9 0 + z 37 0)
def SV (b : Prop) (s z : TT) : Prop := Rc b (fun _ => z 4 0) s z ∧ s 8 0 = z 8 0 ∧ s 9 0 = z 9 0 ∧ NA z ∧ KP s z
theorem ntF_tk (s : TT) (u : Int) : ntF s u = tkA (s 29) (s 28) u (s 2 0).toNat + tkB (s 33) (s 34) (s 31) u (s 3 0).toNat := rfl
theorem ltF_tk (s : TT) (u : Int) : ltF s u = tkA (s 29) (s 19) u (s 2 0).toNat + tkB (s 33) (s 34) (s 32) u (s 3 0).toNat := rfl
theorem tkA_n {b : Prop} {tm : Nat → Int} {s z : TT} (h : Rc b tm s z) {u : Int} (hu : 0 ≤ u) : tkA (s 29) (s 28) u (s 2 0).toNat = tnJ z u (z 2 0).toNat := by
  obtain ⟨_, ⟨_, _, e2, _⟩, _, _, hJ, _⟩ := h
  rw [e2]
  refine sumN_congr (fun j hj => ?_)
  obtain ⟨_, g2, g3, _⟩ := hJ j (by omega)
  rw [g2, g3]
  unfold tkU ruM
  by_cases q : z 24 j = 1
  · rw [if_pos q]
    by_cases q2 : u < z 25 j + z 36 j
    · rw [if_pos q2, if_pos ⟨q, q2⟩]
    · rw [if_neg q2, if_neg (fun z => q2 z.2)]
  · rw [if_neg q, if_neg (by omega), if_neg (fun z => q z.1)]
theorem tkA_l {b : Prop} {tm : Nat → Int} {s z : TT} (h : Rc b tm s z) {u : Int} (hu : 0 ≤ u) : tkA (s 29) (s 19) u (s 2 0).toNat = tlM z u (z 2 0).toNat := by
  obtain ⟨_, ⟨_, _, e2, _⟩, _, _, hJ, _⟩ := h
  rw [e2]
  refine sumN_congr (fun j hj => ?_)
  obtain ⟨g1, g2, g3, _⟩ := hJ j (by omega)
  rw [g1 19 (by decide) (by decide), g3]
  unfold tkU ruM
  by_cases q : z 24 j = 1
  · rw [if_pos q]
    by_cases q2 : u < z 25 j + z 36 j
    · rw [if_pos q2, if_pos ⟨q, q2⟩]
    · rw [if_neg q2, if_neg (fun z => q2 z.2)]
  · rw [if_neg q, if_neg (by omega), if_neg (fun z => q z.1)]
theorem tkB_n {s z : TT} (h : RH s z) (u : Int) : tkB (s 33) (s 34) (s 31) u (z 3 0).toNat = tnH z u (z 3 0).toNat := by
  refine sumN_congr (fun k hk => ?_)
  obtain ⟨g1, _, g3, g4⟩ := h k (by omega)
  rw [g1, g3, g4]
theorem tkB_l {s z : TT} (h : RH s z) (u : Int) : tkB (s 33) (s 34) (s 32) u (z 3 0).toNat = 0 := by
  rw [← sumN_zero (z 3 0).toNat]
  refine sumN_congr (fun k hk => ?_)
  rw [(h k (by omega)).2.1]
  split <;> rfl
/-- TAKEN, nothing kept -/
theorem tk_n0 {b : Prop} {tm : Nat → Int} {s z : TT} (h : Rc b tm s z) (h3 : s 3 0 = z 3 0) {u : Int} (hu : 0 ≤ u) : ntF s u = tnM z u ∧ ltF s u = tlM z u (z 2 0).toNat := by
  rw [ntF_tk, ltF_tk, tkA_n h hu, tkA_l h hu, h3, tkB_n h.2.2.2.2.2.1, tkB_l h.2.2.2.2.2.1]
  exact ⟨rfl, by omega⟩
/-- TAKEN, what is kept being taken, too -/
theorem tk_n1 {b : Prop} {s z : TT} (h : SV b s z) {u : Int} (hu : 0 ≤ u) : ntF s u = tnM z u + mrM z 18 u (z 8 0 ≠ -1) ∧ ltF s u = tlM z u (z 2 0).toNat + mrM z 19 u (z 8 0 ≠ -1) := by
  obtain ⟨hR, h8, h9, _, k1, k2, k3⟩ := h
  by_cases c8 : z 8 0 = -1
  · have := tk_n0 hR (k1 c8) hu
    unfold mrM
    rw [pif_f (fun q => q.1 c8), pif_f (fun q => q.1 c8)]
    omega
  · by_cases c9 : z 9 0 = -1
    · have := tk_n0 hR (k2 c8 c9) hu
      unfold mrM
      rw [pif_f (fun q => q.2.1 c9), pif_f (fun q => q.2.1 c9)]
      omega
    · obtain ⟨g1, g2, g3, g4, g5⟩ := k3 c8 c9
      have hz3 := bd3 hR.1.2 0
      have e1 : (s 3 0).toNat = (z 3 0).toNat + 1 := by omega
      rw [ntF_tk, ltF_tk, tkA_n hR hu, tkA_l hR hu, e1]
      have b1 : tkB (s 33) (s 34) (s 31) u ((z 3 0).toNat + 1) = tnH z u (z 3 0).toNat + mrM z 18 u (z 8 0 ≠ -1) := by
        rw [show tkB (s 33) (s 34) (s 31) u ((z 3 0).toNat + 1) = tkB (s 33) (s 34) (s 31) u (z 3 0).toNat + (if s 33 (z 3 0).toNat ≤ u ∧ u < s 34 (z 3 0).toNat then s 31 (z 3 0).toNat else 0) from rfl, tkB_n hR.2.2.2.2.2.1, g2, g4, g5]
        unfold mrM moM
        by_cases q : z 9 0 ≤ u ∧ u < z 9 0 + z 37 0
        · rw [if_pos q, pif_t ⟨c8, c9, q.1, q.2⟩]
        · rw [if_neg q, pif_f (fun z => q ⟨z.2.2.1, z.2.2.2⟩)]
      have b2 : tkB (s 33) (s 34) (s 32) u ((z 3 0).toNat + 1) = mrM z 19 u (z 8 0 ≠ -1) := by
        rw [show tkB (s 33) (s 34) (s 32) u ((z 3 0).toNat + 1) = tkB (s 33) (s 34) (s 32) u (z 3 0).toNat + (if s 33 (z 3 0).toNat ≤ u ∧ u < s 34 (z 3 0).toNat then s 32 (z 3 0).toNat else 0) from rfl, tkB_l hR.2.2.2.2.2.1, g3, g4, g5]
        unfold mrM moM
        by_cases q : z 9 0 ≤ u ∧ u < z 9 0 + z 37 0
        · rw [if_pos q, pif_t ⟨c8, c9, q.1, q.2⟩]; omega
        · rw [if_neg q, pif_f (fun z => q ⟨z.2.2.1, z.2.2.2⟩)]; rfl
      rw [b1, b2]
      exact ⟨by unfold tnM; omega, rfl⟩
theorem nfP_all {s : TT} (hB : Bd s) {n a b : Int} (hab : a < b) : nfP s n a b (s 3 0).toNat ↔ ∀ u, a ≤ u → u < b → n + ntF s u ≤ s 7 0 :=
  tk_fit (fun j _ => (bd28 hB j).1) (fun k _ => (bd31 hB k).1) hab
theorem lfP_all {s : TT} (hB : Bd s) {n a b : Int} (hab : a < b) : lfP s n a b (s 3 0).toNat ↔ ∀ u, a ≤ u → u < b → n + ltF s u ≤ s 6 0 :=
  tk_fit (fun j _ => (bd19 hB j).1) (fun k _ => (bd32 hB k).1) hab
theorem ftP_all {s : TT} (hB : Bd s) {j : Nat} {a : Int} (hL : s 27 j < s 20 j) : ftP s j a ↔ ∀ u, a ≤ u → u < a + (s 20 j - s 27 j) → s 18 j + ntF s u ≤ s 7 0 ∧ s 19 j + ltF s u ≤ s 6 0 := by
  unfold ftP
  rw [nfP_all hB (by omega), lfP_all hB (by omega)]
  exact ⟨fun h u h1 h2 => ⟨h.1 u h1 h2, h.2 u h1 h2⟩, fun h => ⟨fun u h1 h2 => (h u h1 h2).1, fun u h1 h2 => (h u h1 h2).2⟩⟩
theorem mfP_all {z : TT} {j : Nat} {a : Int} {wk : Prop} : mfP z j a wk ↔ ∀ u, a ≤ u → u < a + (z 20 j - z 27 j) → okM z j u wk := by
  unfold mfP mfN
  constructor
  · intro h u h1 h2
    have := h (u - a).toNat (by omega)
    rwa [show a + (((u - a).toNat : Nat) : Int) = u by omega] at this
  · intro h d hd
    exact h _ (by omega) (by omega)
/-- a job fits on one side as on the other -/
theorem fit_eq {b : Prop} {s z : TT} (h : SV b s z) {j : Nat} (hj : (j : Int) < z 2 0) {a : Int} (ha : z 4 0 ≤ a) (ha2 : a ≤ z 4 0 + 200) : ftP s j a ↔ mfP z j a (z 8 0 ≠ -1) := by
  have hR := h.1
  obtain ⟨⟨hBs, hBz⟩, ⟨e0, e1, e2, e4, e5, e6, e7⟩, _, _, hJ, _, hI, _⟩ := id hR
  obtain ⟨g1, _⟩ := hJ j hj
  obtain ⟨⟨i1, i2, i3, _⟩, _⟩ := hI j hj
  have f18 := g1 18 (by decide) (by decide)
  have f19 := g1 19 (by decide) (by decide)
  have f20 := g1 20 (by decide) (by decide)
  have f27 := g1 27 (by decide) (by decide)
  have b4 := bd4 hBz 0
  have b20 := bd20 hBz j
  have b27 := bd27 hBz j
  rw [ftP_all hBs (by omega), mfP_all, f20, f27]
  have key : ∀ u, a ≤ u → u < a + (z 20 j - z 27 j) → ((s 18 j + ntF s u ≤ s 7 0 ∧ s 19 j + ltF s u ≤ s 6 0) ↔ okM z j u (z 8 0 ≠ -1)) := by
    intro u h1 h2
    obtain ⟨t1, t2⟩ := tk_n1 h (u := u) (by omega)
    obtain ⟨n1, n2⟩ := h.2.2.2.1
    obtain ⟨m1, m2⟩ := n1 (u - z 4 0).toNat (by omega)
    rw [show z 4 0 + (((u - z 4 0).toNat : Nat) : Int) = u by omega] at m1 m2
    unfold okM
    rw [m1, m2, n2, f18, f19, t1, t2, e6, e7]
    constructor
    · rintro ⟨z1, z2⟩; exact ⟨by omega, by omega⟩
    · rintro ⟨z1, z2⟩; exact ⟨by omega, by omega⟩
  exact ⟨fun h3 u h1 h2 => (key u h1 h2).mp (h3 u h1 h2), fun h3 u h1 h2 => (key u h1 h2).mpr (h3 u h1 h2)⟩
