/-! PURE: what is taken falls only at ends and grows only where a hold begins -/
def tkA (e c : Nat → Int) (u : Int) (n : Nat) : Int := sumN (fun j => if u < e j then c j else 0) n
def tkB (p q h : Nat → Int) (u : Int) (m : Nat) : Int := sumN (fun k => if p k ≤ u ∧ u < q k then h k else 0) m
theorem sumN_le {f g : Nat → Int} : ∀ {n : Nat}, (∀ i, i < n → f i ≤ g i) → sumN f n ≤ sumN g n := by
  intro n
  induction n with
  | zero => intro _; exact Int.le_refl _
  | succ n ih =>
    intro h
    rw [sumN_s, sumN_s]
    have h1 := ih (fun i hi => h i (by omega))
    have h2 := h n (by omega)
    omega
theorem sumN_lt {f g : Nat → Int} : ∀ {n k : Nat}, (∀ i, i < n → f i ≤ g i) → k < n → f k + 1 ≤ g k → sumN f n + 1 ≤ sumN g n := by
  intro n
  induction n with
  | zero => intro k _ hk; omega
  | succ n ih =>
    intro k h hk hs
    rw [sumN_s, sumN_s]
    by_cases q : k = n
    · subst q
      have h1 := sumN_le (n := k) (fun i hi => h i (by omega))
      omega
    · have h1 := ih (k := k) (fun i hi => h i (by omega)) (by omega) hs
      have h2 := h n (by omega)
      omega
theorem sumN_add (f g : Nat → Int) : ∀ n, sumN (fun i => f i + g i) n = sumN f n + sumN g n := by
  intro n
  induction n with
  | zero => rfl
  | succ n ih => rw [sumN_s, sumN_s, sumN_s, ih]; omega
theorem sumN_zero : ∀ n, sumN (fun _ => 0) n = 0 := by
  intro n
  induction n with
  | zero => rfl
  | succ n ih => rw [sumN_s, ih]; rfl
theorem sumN_sub (f g : Nat → Int) : ∀ n, sumN (fun i => f i - g i) n = sumN f n - sumN g n := by
  intro n
  induction n with
  | zero => rfl
  | succ n ih => rw [sumN_s, sumN_s, sumN_s, ih]; omega
theorem sumN_swap (f : Nat → Nat → Int) (m : Nat) : ∀ n, sumN (fun i => sumN (fun j => f i j) m) n = sumN (fun j => sumN (fun i => f i j) n) m := by
  intro n
  induction n with
  | zero => exact (sumN_zero m).symm
  | succ n ih => rw [sumN_s, ih, ← sumN_add]; rfl
/-- changed at one place -/
theorem sumN_one {f g : Nat → Int} {k : Nat} : ∀ {n : Nat}, k < n → (∀ i, i < n → i ≠ k → f i = g i) → sumN f n = sumN g n + (f k - g k) := by
  intro n
  induction n with
  | zero => intro h; omega
  | succ n ih =>
    intro hk h
    rw [sumN_s, sumN_s]
    by_cases q : k = n
    · subst q
      rw [sumN_congr (n := k) (f := f) (g := g) (fun i hi => h i (by omega) (by omega))]
      omega
    · rw [ih (by omega) (fun i hi hne => h i (by omega) hne), h n (by omega) (by omega)]
      omega
theorem tk_top {p : Nat → Int} {a u : Int} (hau : a ≤ u) : ∀ m : Nat, ∃ v, a ≤ v ∧ v ≤ u ∧ (v = a ∨ ∃ k, k < m ∧ v = p k ∧ a < p k) ∧ ∀ k, k < m → p k ≤ u → p k ≤ v := by
  intro m
  induction m with
  | zero => exact ⟨a, by omega, hau, Or.inl rfl, fun k hk => by omega⟩
  | succ m ih =>
    obtain ⟨v, h1, h2, h3, h4⟩ := ih
    by_cases c : p m ≤ u ∧ v < p m
    · refine ⟨p m, by omega, c.1, Or.inr ⟨m, by omega, rfl, by omega⟩, fun k hk hp => ?_⟩
      by_cases q : k = m
      · subst q; omega
      · have := h4 k (by omega) hp; omega
    · refine ⟨v, h1, h2, ?_, fun k hk hp => ?_⟩
      · rcases h3 with h3 | ⟨k, hk, h3⟩
        · exact Or.inl h3
        · exact Or.inr ⟨k, by omega, h3⟩
      · by_cases q : k = m
        · subst q; omega
        · exact h4 k (by omega) hp
/-- TAKEN at u is not above TAKEN at v, if v ≤ u and no hold begins between -/
theorem tk_mono {e c p q h : Nat → Int} {n m : Nat} (hc : ∀ j, j < n → 0 ≤ c j) (hh : ∀ k, k < m → 0 ≤ h k) {u v : Int} (hvu : v ≤ u) (hp : ∀ k, k < m → p k ≤ u → p k ≤ v) : tkA e c u n + tkB p q h u m ≤ tkA e c v n + tkB p q h v m := by
  have h1 : tkA e c u n ≤ tkA e c v n := sumN_le (fun j hj => by
    have := hc j hj
    by_cases q1 : u < e j
    · rw [if_pos q1, if_pos (by omega)]; omega
    · rw [if_neg q1]; split <;> omega)
  have h2 : tkB p q h u m ≤ tkB p q h v m := sumN_le (fun k hk => by
    have := hh k hk
    have := hp k hk
    by_cases q1 : p k ≤ u ∧ u < q k
    · rw [if_pos q1, if_pos (by omega)]; omega
    · rw [if_neg q1]; split <;> omega)
  omega
theorem tk_fit {e c p q h : Nat → Int} {n m : Nat} (hc : ∀ j, j < n → 0 ≤ c j) (hh : ∀ k, k < m → 0 ≤ h k) {w R a b : Int} (hab : a < b) :
    (w + (tkA e c a n + tkB p q h a m) ≤ R ∧ ∀ k, k < m → a < p k → p k < b → w + (tkA e c (p k) n + tkB p q h (p k) m) ≤ R) ↔ ∀ u, a ≤ u → u < b → w + (tkA e c u n + tkB p q h u m) ≤ R := by
  constructor
  · rintro ⟨h1, h2⟩ u hu1 hu2
    obtain ⟨v, g1, g2, g3, g4⟩ := tk_top (p := p) hu1 m
    have hm := tk_mono (e := e) (q := q) hc hh g2 g4
    rcases g3 with g3 | ⟨k, hk, g3, g5⟩
    · rw [g3] at hm; omega
    · have := h2 k hk g5 (by omega)
      rw [← g3] at this; omega
  · intro hall
    exact ⟨hall a (by omega) hab, fun k hk h1 h2 => hall _ (by omega) h2⟩
/-- no end at u: TAKEN at u - 1 is not above TAKEN at u -/
theorem tk_step {e c p q h : Nat → Int} {n m : Nat} (hc : ∀ j, j < n → 0 ≤ c j) (hh : ∀ k, k < m → 0 ≤ h k) {u : Int} (h1 : ∀ j, j < n → e j ≠ u) (h2 : ∀ k, k < m → q k ≠ u) : tkA e c (u - 1) n + tkB p q h (u - 1) m ≤ tkA e c u n + tkB p q h u m := by
  have g1 : tkA e c (u - 1) n ≤ tkA e c u n := sumN_le (fun j hj => by
    have := hc j hj
    have := h1 j hj
    by_cases q1 : u - 1 < e j
    · rw [if_pos q1, if_pos (by omega)]; omega
    · rw [if_neg q1]; split <;> omega)
  have g2 : tkB p q h (u - 1) m ≤ tkB p q h u m := sumN_le (fun k hk => by
    have := hh k hk
    have := h2 k hk
    by_cases q1 : p k ≤ u - 1 ∧ u - 1 < q k
    · rw [if_pos q1, if_pos (by omega)]; omega
    · rw [if_neg q1]; split <;> omega)
  omega
/-- nearer, its meaning -/
def neS (e q : Nat → Int) (n m : Nat) (a v : Int) : Prop := (v = -1 ∧ (∀ j, j < n → e j ≤ a) ∧ (∀ k, k < m → q k ≤ a)) ∨ (a < v ∧ ((∃ j, j < n ∧ e j = v) ∨ (∃ k, k < m ∧ q k = v)) ∧ (∀ j, j < n → a < e j → v ≤ e j) ∧ (∀ k, k < m → a < q k → v ≤ q k))
theorem neJ_spec (t : TT) {a : Int} (ha : 0 ≤ a) : ∀ n, neS (t 29) (fun _ => 0) n 0 a (neJ t a n) := by
  intro n
  induction n with
  | zero => exact Or.inl ⟨rfl, fun j hj => by omega, fun k hk => by omega⟩
  | succ n ih =>
    unfold neJ nearF
    rcases ih with ⟨h1, h2, _⟩ | ⟨h1, h2, h3, _⟩
    · by_cases c : t 29 n ≤ a
      · rw [if_pos c]
        exact Or.inl ⟨h1, fun j hj => by by_cases q : j = n; · subst q; exact c
                                         · exact h2 j (by omega), fun k hk => by omega⟩
      · rw [if_neg c, if_pos h1]
        refine Or.inr ⟨by omega, Or.inl ⟨n, by omega, rfl⟩, fun j hj hj2 => ?_, fun k hk => by omega⟩
        by_cases q : j = n
        · subst q; omega
        · have := h2 j (by omega); omega
    · by_cases c : t 29 n ≤ a
      · rw [if_pos c]
        refine Or.inr ⟨h1, ?_, fun j hj hj2 => ?_, fun k hk => by omega⟩
        · rcases h2 with ⟨j, hj, h2⟩ | ⟨k, hk, _⟩
          · exact Or.inl ⟨j, by omega, h2⟩
          · omega
        · by_cases q : j = n
          · subst q; omega
          · exact h3 j (by omega) hj2
      · rw [if_neg c, if_neg (by omega)]
        refine Or.inr ⟨by omega, ?_, fun j hj hj2 => ?_, fun k hk => by omega⟩
        · by_cases q : neJ t a n ≤ t 29 n
          · rw [Int.min_eq_left q]
            rcases h2 with ⟨j, hj, h2⟩ | ⟨k, hk, _⟩
            · exact Or.inl ⟨j, by omega, h2⟩
            · omega
          · rw [Int.min_eq_right (by omega)]
            exact Or.inl ⟨n, by omega, rfl⟩
        · by_cases q : j = n
          · subst q; omega
          · have := h3 j (by omega) hj2; omega
theorem neH_spec (t : TT) {a : Int} (ha : 0 ≤ a) : ∀ m, neS (t 29) (t 34) (t 2 0).toNat m a (neH t a m) := by
  intro m
  induction m with
  | zero =>
    rcases neJ_spec t ha (t 2 0).toNat with ⟨h1, h2, _⟩ | ⟨h1, h2, h3, _⟩
    · exact Or.inl ⟨h1, h2, fun k hk => by omega⟩
    · refine Or.inr ⟨h1, ?_, h3, fun k hk => by omega⟩
      rcases h2 with h2 | ⟨k, hk, _⟩
      · exact Or.inl h2
      · omega
  | succ n ih =>
    unfold neH nearF
    rcases ih with ⟨h1, h2, h4⟩ | ⟨h1, h2, h3, h4⟩
    · by_cases c : t 34 n ≤ a
      · rw [if_pos c]
        exact Or.inl ⟨h1, h2, fun j hj => by by_cases q : j = n; · subst q; exact c
                                             · exact h4 j (by omega)⟩
      · rw [if_neg c, if_pos h1]
        refine Or.inr ⟨by omega, Or.inr ⟨n, by omega, rfl⟩, fun j hj hj2 => by have := h2 j hj; omega, fun j hj hj2 => ?_⟩
        by_cases q : j = n
        · subst q; omega
        · have := h4 j (by omega); omega
    · by_cases c : t 34 n ≤ a
      · rw [if_pos c]
        refine Or.inr ⟨h1, ?_, h3, fun j hj hj2 => ?_⟩
        · rcases h2 with h2 | ⟨k, hk, h2⟩
          · exact Or.inl h2
          · exact Or.inr ⟨k, by omega, h2⟩
        · by_cases q : j = n
          · subst q; omega
          · exact h4 j (by omega) hj2
      · rw [if_neg c, if_neg (by omega)]
        refine Or.inr ⟨by omega, ?_, fun j hj hj2 => by have := h3 j hj hj2; omega, fun j hj hj2 => ?_⟩
        · by_cases q : neH t a n ≤ t 34 n
          · rw [Int.min_eq_left q]
            rcases h2 with h2 | ⟨k, hk, h2⟩
            · exact Or.inl h2
            · exact Or.inr ⟨k, by omega, h2⟩
          · rw [Int.min_eq_right (by omega)]
            exact Or.inr ⟨n, by omega, rfl⟩
        · by_cases q : j = n
          · subst q; omega
          · have := h4 j (by omega) hj2; omega
theorem neF_spec (t : TT) {a : Int} (ha : 0 ≤ a) : neS (t 29) (t 34) (t 2 0).toNat (t 3 0).toNat a (neF t a) := neH_spec t ha _
/-- how many ends are not behind x -/
def cnE (e q : Nat → Int) (n m : Nat) (x : Int) : Int := sumN (fun j => if e j ≤ x then 1 else 0) n + sumN (fun k => if q k ≤ x then 1 else 0) m
theorem cnE_bd (e q : Nat → Int) (n m : Nat) (x : Int) : 0 ≤ cnE e q n m x ∧ cnE e q n m x ≤ n + m := by
  have h1 := sumN_bd (f := fun j => if e j ≤ x then 1 else 0) (lo := 0) (hi := 1) (n := n) (fun i _ => by split <;> omega)
  have h2 := sumN_bd (f := fun j => if q j ≤ x then 1 else 0) (lo := 0) (hi := 1) (n := m) (fun i _ => by split <;> omega)
  unfold cnE; omega
theorem cnE_up {e q : Nat → Int} {n m : Nat} {a v : Int} (h : neS e q n m a v) (hv : v ≠ -1) : cnE e q n m a + 1 ≤ cnE e q n m v := by
  rcases h with ⟨h, _⟩ | ⟨h1, h2, _⟩
  · exact absurd h hv
  · have g1 : sumN (fun j => if e j ≤ a then (1 : Int) else 0) n ≤ sumN (fun j => if e j ≤ v then 1 else 0) n := sumN_le (fun j _ => by (repeat' split) <;> omega)
    have g2 : sumN (fun j => if q j ≤ a then (1 : Int) else 0) m ≤ sumN (fun j => if q j ≤ v then 1 else 0) m := sumN_le (fun j _ => by (repeat' split) <;> omega)
    unfold cnE
    rcases h2 with ⟨j, hj, h2⟩ | ⟨j, hj, h2⟩
    · have g3 := sumN_lt (n := n) (k := j) (f := fun j => if e j ≤ a then (1 : Int) else 0) (g := fun j => if e j ≤ v then 1 else 0) (fun j _ => by (repeat' split) <;> omega) hj (by rw [if_neg (by omega), if_pos (by omega)]; omega)
      omega
    · have g3 := sumN_lt (n := m) (k := j) (f := fun j => if q j ≤ a then (1 : Int) else 0) (g := fun j => if q j ≤ v then 1 else 0) (fun j _ => by (repeat' split) <;> omega) hj (by rw [if_neg (by omega), if_pos (by omega)]; omega)
      omega
/-- the first time that fits: what both searches answer -/
def ffS (P : Int → Prop) (now v : Int) : Prop := (v = -1 ∧ ∀ u, now ≤ u → u ≤ now + 200 → ¬ P u) ∨ (now ≤ v ∧ v ≤ now + 200 ∧ P v ∧ ∀ u, now ≤ u → u < v → ¬ P u)
theorem ffS_one {P : Int → Prop} {now v w : Int} (hn : 0 ≤ now) (h1 : ffS P now v) (h2 : ffS P now w) : v = w := by
  rcases h1 with ⟨a1, a2⟩ | ⟨a1, a2, a3, a4⟩
  · rcases h2 with ⟨b1, b2⟩ | ⟨b1, b2, b3, b4⟩
    · omega
    · exact absurd b3 (a2 w b1 b2)
  · rcases h2 with ⟨b1, b2⟩ | ⟨b1, b2, b3, b4⟩
    · exact absurd a3 (b2 v a1 a2)
    · by_cases c : v < w
      · exact absurd a3 (b4 v a1 c)
      · by_cases c2 : w < v
        · exact absurd b3 (a4 w b1 c2)
        · omega
/-- the class' search: over ends -/
theorem ffL_spec {t : TT} {j : Nat} {P : Int → Prop} (hn : 0 ≤ t 4 0) (hsm : (t 2 0).toNat + (t 3 0).toNat ≤ 38) (hP : ∀ u, t 4 0 ≤ u → (ftP t j u ↔ P u))
    (hstep : ∀ u, t 4 0 < u → (∀ i, i < (t 2 0).toNat → t 29 i ≠ u) → (∀ k, k < (t 3 0).toNat → t 34 k ≠ u) → P u → P (u - 1)) :
    ∀ (k : Nat) (a : Int), t 4 0 ≤ a → (∀ u, t 4 0 ≤ u → u ≤ a → ¬ P u) → (38 : Int) - k ≤ cnE (t 29) (t 34) (t 2 0).toNat (t 3 0).toNat a → ffS P (t 4 0) (ffL t j k (neF t a)) := by
  intro k
  induction k with
  | zero =>
    intro a ha hno hc
    have hne := neF_spec t (a := a) (by omega)
    have hb := cnE_bd (t 29) (t 34) (t 2 0).toNat (t 3 0).toNat (neF t a)
    by_cases c : neF t a = -1
    · refine Or.inl ⟨rfl, fun u hu hu2 => ?_⟩
      rcases hne with ⟨_, g1, g2⟩ | ⟨g0, _⟩
      · have key : ∀ d : Nat, ¬ P (a + d) := by
          intro d
          induction d with
          | zero => exact hno _ (by omega) (by omega)
          | succ d ih =>
            intro hp
            apply ih
            have := hstep (a + (d + 1 : Nat)) (by omega) (fun i hi => by have := g1 i hi; omega) (fun i hi => by have := g2 i hi; omega) hp
            rwa [show a + ((d + 1 : Nat) : Int) - 1 = a + (d : Int) by omega] at this
        by_cases q : u ≤ a
        · exact hno u hu q
        · have := key (u - a).toNat
          rwa [show a + (((u - a).toNat : Nat) : Int) = u by omega] at this
      · omega
    · have := cnE_up hne c
      omega
  | succ k ih =>
    intro a ha hno hc
    have hne := neF_spec t (a := a) (by omega)
    have hgap : ∀ (top : Int), (∀ i, i < (t 2 0).toNat → a < t 29 i → top ≤ t 29 i) → (∀ i, i < (t 3 0).toNat → a < t 34 i → top ≤ t 34 i) → ∀ u, t 4 0 ≤ u → u < top → ¬ P u := by
      intro top g1 g2 u hu hut
      have key : ∀ d : Nat, a + d < top → ¬ P (a + d) := by
        intro d
        induction d with
        | zero => intro _; exact hno _ (by omega) (by omega)
        | succ d ih2 =>
          intro hd hp
          apply ih2 (by omega)
          have := hstep (a + (d + 1 : Nat)) (by omega) (fun i hi hx => by have := g1 i hi (by omega); omega) (fun i hi hx => by have := g2 i hi (by omega); omega) hp
          rwa [show a + ((d + 1 : Nat) : Int) - 1 = a + (d : Int) by omega] at this
      by_cases q : u ≤ a
      · exact hno u hu q
      · have := key (u - a).toNat (by omega)
        rwa [show a + (((u - a).toNat : Nat) : Int) = u by omega] at this
    unfold ffL
    by_cases c : neF t a = -1
    · rw [pif_t (Or.inl c)]
      rcases hne with ⟨_, g1, g2⟩ | ⟨g0, _⟩
      · exact Or.inl ⟨rfl, fun u hu hu2 => hgap (u + 1) (fun i hi h => by have := g1 i hi; omega) (fun i hi h => by have := g2 i hi; omega) u hu (by omega)⟩
      · omega
    · rcases hne with ⟨g0, _⟩ | ⟨g0, g1, g2, g3⟩
      · exact absurd g0 c
      · have hno2 := hgap (neF t a) g2 g3
        by_cases c2 : t 4 0 + 200 < neF t a
        · rw [pif_t (Or.inr c2)]
          exact Or.inl ⟨rfl, fun u hu hu2 => hno2 u hu (by omega)⟩
        · rw [pif_f (by omega)]
          by_cases c3 : ftP t j (neF t a)
          · rw [pif_t c3]
            exact Or.inr ⟨by omega, by omega, (hP _ (by omega)).mp c3, hno2⟩
          · rw [pif_f c3]
            have hup := cnE_up (Or.inr ⟨g0, g1, g2, g3⟩ : neS (t 29) (t 34) (t 2 0).toNat (t 3 0).toNat a (neF t a)) c
            refine ih (neF t a) (by omega) (fun u hu hu2 => ?_) (by omega)
            by_cases q : u = neF t a
            · rw [q]; exact fun z => c3 ((hP _ (by omega)).mpr z)
            · exact hno2 u hu (by omega)
/-- the model's search: time by time -/
theorem mkF_spec {t : TT} {j : Nat} {P : Int → Prop} (hn : 0 ≤ t 4 0) (hP : ∀ u, t 4 0 ≤ u → u ≤ t 4 0 + 200 → (mfP t j u False ↔ P u)) : ffS P (t 4 0) (mkF t j) := by
  have key : ∀ (k : Nat) (s : Int), s + k = t 4 0 + 202 → t 4 0 ≤ s → s ≤ t 4 0 + 201 → (∀ u, t 4 0 ≤ u → u < s → ¬ P u) → (t 4 0 ≤ mkL t j k s ∧ (mkL t j k s ≤ t 4 0 + 200 → P (mkL t j k s)) ∧ mkL t j k s ≤ t 4 0 + 201 ∧ ∀ u, t 4 0 ≤ u → u < mkL t j k s → ¬ P u) := by
    intro k
    induction k with
    | zero => intro s h1 h2 h3; omega
    | succ k ih =>
      intro s h1 h2 h3 h4
      rw [mkL_s]
      by_cases c : s ≤ t 4 0 + 200 ∧ ¬ mfP t j s False
      · rw [pif_t c]
        refine ih (s + 1) (by omega) (by omega) (by omega) (fun u hu hu2 => ?_)
        by_cases q : u = s
        · rw [q]; exact fun z => c.2 ((hP s h2 c.1).mpr z)
        · exact h4 u hu (by omega)
      · rw [pif_f c]
        refine ⟨h2, fun h5 => ?_, h3, h4⟩
        exact (hP s h2 h5).mp (Classical.byContradiction (fun z => c ⟨h5, z⟩))
  obtain ⟨h1, h2, h3, h4⟩ := key 202 (t 4 0) (by omega) (by omega) (by omega) (fun u hu hu2 => by omega)
  unfold mkF
  by_cases c : mkL t j 202 (t 4 0) ≤ t 4 0 + 200
  · rw [if_pos c]
    exact Or.inr ⟨h1, c, h2 c, h4⟩
  · rw [if_neg c]
    exact Or.inl ⟨rfl, fun u hu hu2 => h4 u hu (by omega)⟩
