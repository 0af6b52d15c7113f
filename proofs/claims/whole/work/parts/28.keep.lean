/-! PURE: what lies behind the counts stays as it is -/
def fX (n k f a : Nat) : Prop := f = 14 ∨ (f = 16 ∧ n ≤ a) ∨ 100 + k ≤ f
def fM (n k f a : Nat) : Prop := f = 14 ∨ (f = 16 ∧ n ≤ a) ∨ ((f = 24 ∨ f = 27 ∨ f = 35) ∧ k ≤ a) ∨ (f = 30 ∧ 4 * k ≤ a)
theorem svS_k {t : TT} {x : Int} {n k f a : Nat} (h : fX n k f a) (hx : x.toNat < k) : svS t x f a = t f a := by
  unfold fX at h
  unfold svS svB svK
  by_cases c1 : ftP t x.toNat (t 4 0)
  · rw [pif_t c1, bgF_ne (by omega)]
  · rw [pif_f c1]
    by_cases c2 : t 8 0 = -1
    · rw [pif_t c2]
      generalize ffF (tu t 8 0 x) x.toNat = w
      by_cases c3 : w ≠ -1 ∧ tu (tu t 8 0 x) 9 0 w 3 0 ≤ 8
      · rw [pif_t c3, tu_ne (by omega), hdF_ne (by omega), tu_ne (by omega), tu_ne (by omega)]
      · rw [pif_f c3, tu_ne (by omega), tu_ne (by omega)]
    · rw [pif_f c2]
theorem svF_k {t : TT} {n k f a : Nat} (h : fX n k f a) : ∀ i, (∀ c, c < i → (t 11 c).toNat < k) → svF t i f a = t f a := by
  intro i
  induction i with
  | zero => intro _; unfold fX at h; unfold svF; rw [tu_ne (by omega), tu_ne (by omega)]
  | succ i ih =>
    intro hq
    rw [svF_s, svS_k h (by rw [svF_ne (by omega)]; exact hq i (by omega)), ih (fun c hc => hq c (by omega))]
theorem roF_k {t : TT} {j n k f a : Nat} {b : Prop} (h : fX n k f a) (hj : j < k) (hn : (t 17 j).toNat < n) : roF t j b f a = t f a := by
  unfold fX at h
  unfold roF
  by_cases c : pif b (t 20 j - t 27 j) (t 21 j - t 27 j) ≤ ranF t j (t 4 0 + 1)
  · rw [pif_t c, tu_ne (by omega), tu_ne (by omega), lvF_ne (by omega), tu_ne (by omega)]
  · rw [pif_f c, tu_ne (by omega)]
theorem rjF_k {t : TT} {n k f a : Nat} {b : Prop} (h : fX n k f a) : ∀ i, i ≤ k → (∀ j, j < i → (t 17 j).toNat < n) → rjF t b i f a = t f a := by
  intro i
  induction i with
  | zero => intro _ _; rfl
  | succ i ih =>
    intro hi hq
    have e := ih (by omega) (fun c hc => hq c (by omega))
    rw [rjF_s]
    by_cases c : rjF t b i 24 i = 1
    · rw [pif_t c, roF_k h (by omega) (by rw [rjF_ne (by omega)]; exact hq i (by omega)), e]
    · rw [pif_f c, e]
theorem bgM_k {z : TT} {x n k f a : Nat} (h : fM n k f a) (hx : x < k) (h0 : z 0 0 ≤ 4) : bgM z x f a = z f a := by
  unfold fM at h
  rcases h with h | h | ⟨h, h2⟩ | ⟨h, h2⟩
  · exact bgM_ne (by omega)
  · exact bgM_ne (by omega)
  · exact bgM_o z (by omega) (by omega)
  · subst h
    unfold bgM bq1
    rw [mc1_ne (by omega), tu_ne (by omega), tu_ne (by omega), tu_ne (by omega), tu_ne (by omega)]
    unfold mb1
    rw [if_neg (by omega)]
theorem mtS_k {t : TT} {x : Int} {n k f a : Nat} (h : fM n k f a) (hx : x.toNat < k) (h0 : t 0 0 ≤ 4) : mtS t x f a = t f a := by
  unfold mtS mtB
  by_cases c1 : mfP t x.toNat (t 4 0) (t 8 0 ≠ -1)
  · rw [pif_t c1, bgM_k h hx h0]
  · rw [pif_f c1]
    by_cases c2 : t 8 0 = -1
    · unfold fM at h
      rw [pif_t c2, tu_ne (by omega), tu_ne (by omega), tu_ne (by omega)]
    · rw [pif_f c2]
theorem mtF_k {t : TT} {n k f a : Nat} (h : fM n k f a) (h0 : t 0 0 ≤ 4) : ∀ i, (∀ c, c < i → (t 11 c).toNat < k) → mtF t i f a = t f a := by
  intro i
  induction i with
  | zero => intro _; unfold fM at h; unfold mtF; rw [tu_ne (by omega), tu_ne (by omega)]
  | succ i ih =>
    intro hq
    rw [mtF_s, mtS_k h (by rw [mtF_ne (by omega)]; exact hq i (by omega)) (by rw [mtF_ne (by omega)]; exact h0), ih (fun c hc => hq c (by omega))]
theorem mrS_k {t : TT} {j n k f a : Nat} (h : fM n k f a) (hj : j < k) (hn : (t 17 j).toNat < n) : mrS t j f a = t f a := by
  unfold fM at h
  unfold mrS mr1 leM
  by_cases c : t 24 j = 1
  · rw [if_pos c]
    generalize (if t 38 0 = 0 then t 21 j - t 27 j else t 36 j) = w
    by_cases c2 : t 35 j + 1 = w
    · rw [if_pos c2, tu_ne (by omega)]
      by_cases q : f = 30
      · subst q
        unfold le1
        rw [if_neg (by omega), tu_ne (by omega), tu_ne (by omega), tu_ne (by omega), tu_ne (by omega)]
      · rw [le1_ne q, tu_ne (by omega), tu_ne (by omega), tu_ne (by omega), tu_ne (by omega)]
    · rw [if_neg c2, tu_ne (by omega), tu_ne (by omega)]
  · rw [if_neg c]
theorem mrF_k {t : TT} {n k f a : Nat} (h : fM n k f a) : ∀ i, i ≤ k → (∀ j, j < i → (t 17 j).toNat < n) → mrF t i f a = t f a := by
  intro i
  induction i with
  | zero => intro _ _; rfl
  | succ i ih =>
    intro hi hq
    rw [mrF_s, mrS_k h (by omega) (by rw [mrF_ne (by omega)]; exact hq i (by omega)), ih (by omega) (fun c hc => hq c (by omega))]
theorem tick_k {b : Prop} {X M : TT} (h : Rl b X M) {f a : Nat} : (fX (M 1 0).toNat (M 2 0).toNat f a → ptF X b f a = X f a) ∧ (fM (M 1 0).toNat (M 2 0).toNat f a → tkM M f a = M f a) := by
  have hR := h.1
  obtain ⟨⟨hBX, hBM⟩, ⟨e0, e1, e2, _⟩, _, _, hJ, _, hI, _⟩ := id hR
  have b0 := bd0 hBM 0
  have b1 := bd1 hBM 0
  have b2 := bd2 hBM 0
  have hQ := QL_all hR (M 2 0).toNat (by omega)
  have q17 : ∀ j, j < (M 2 0).toNat → (M 17 j).toNat < (M 1 0).toNat := fun j hj => by
    have i1 := (hI j (by omega)).1.2.2.2.2.2
    have := bd17 hBM j
    omega
  have x17 : ∀ j, j < (M 2 0).toNat → (X 17 j).toNat < (M 1 0).toNat := fun j hj => by
    rw [(hJ j (by omega)).1 17 (by decide) (by decide)]; exact q17 j hj
  constructor
  · intro hf
    have c1 : pt1 X = lnF X (M 2 0).toNat := by unfold pt1; rw [e2]
    have hf2 := hf
    unfold fX at hf2
    have p1 : pt1 X f a = X f a := by rw [c1]; exact lnF_ne (by omega) (by omega) _
    have p2 : pt2 X f a = X f a := by
      unfold pt2 sqF
      rw [tu_ne (by omega), svF_k hf, p1]
      intro c hc
      rw [c1] at hc ⊢
      rw [hQ.1] at hc
      obtain ⟨g1, g2, _⟩ := hQ.2.2 c hc
      rw [g1]; omega
    have n2 : ∀ f a, f ≠ 8 → f ≠ 9 → f ≠ 13 → f < 100 → f ≠ 24 → f ≠ 25 → f ≠ 28 → f ≠ 29 → f ≠ 3 → (f < 31 ∨ 34 < f) → ∀ i, svF (pt1 X) i f a = pt1 X f a := by
      intro f a q1 q2 q3 q4 q5 q6 q7 q8 q9 q10 i
      induction i with
      | zero => unfold svF; rw [tu_ne (by omega), tu_ne (by omega)]
      | succ i ih =>
        rw [svF_s]
        unfold svS svB svK
        by_cases c1 : ftP (svF (pt1 X) i) (svF (pt1 X) i 11 i).toNat (svF (pt1 X) i 4 0)
        · rw [pif_t c1, bgF_ne (by omega), ih]
        · rw [pif_f c1]
          by_cases c2 : svF (pt1 X) i 8 0 = -1
          · rw [pif_t c2]
            generalize ffF (tu (svF (pt1 X) i) 8 0 (svF (pt1 X) i 11 i)) (svF (pt1 X) i 11 i).toNat = w
            by_cases c3 : w ≠ -1 ∧ tu (tu (svF (pt1 X) i) 8 0 (svF (pt1 X) i 11 i)) 9 0 w 3 0 ≤ 8
            · rw [pif_t c3, tu_ne (by omega), hdF_ne (by omega), tu_ne (by omega), tu_ne (by omega), ih]
            · rw [pif_f c3, tu_ne (by omega), tu_ne (by omega), ih]
          · rw [pif_f c2, ih]
    have m2 : ∀ f a, (f = 1 ∨ f = 2 ∨ f = 17) → pt2 X f a = X f a := by
      intro f a q
      unfold pt2 sqF
      rw [tu_ne (by omega), n2 f a (by omega) (by omega) (by omega) (by omega) (by omega) (by omega) (by omega) (by omega) (by omega) (by omega), c1, lnF_ne (by omega) (by omega)]
    have p3 : pt3 X b f a = X f a := by
      unfold pt3
      rw [rjF_k hf _ (by rw [m2 2 0 (by omega)]; omega) (fun j hj => by
        rw [m2 2 0 (by omega)] at hj
        rw [m2 17 j (by omega)]; exact x17 j (by omega)), p2]
    have p4 : pt4 X b f a = X f a := by unfold pt4; rw [tu_ne (by omega), p3]
    have p41 : pt4 X b 1 0 = X 1 0 := by unfold pt4 pt3; rw [tu_ne (by omega), rjF_ne (by omega), m2 1 0 (by omega)]
    unfold ptF
    by_cases c : 0 < pt4 X b 5 0 ∧ pt4 X b 4 0 % pt4 X b 5 0 = 0
    · rw [pif_t c]
      unfold hvF
      rw [hv1_ne (by rw [p41]; omega), p4]
    · rw [pif_f c, p4]
  · intro hf
    have hf2 := hf
    unfold fM at hf2
    have p1 : tk1 M f a = M f a := fqF_ne (by omega) (by omega) _
    have p2 : tk2 M f a = M f a := by unfold tk2 fdF; rw [fd_ne (by omega), p1]
    have r2 : ∀ f a, f ≠ 48 → f ≠ 39 → f ≠ 40 → f ≠ 10 → f ≠ 11 → tk2 M f a = M f a := fun f a q1 q2 q3 q4 q5 => by
      unfold tk2 fdF tk1; rw [fd_ne (by omega), fqF_ne (by omega) (by omega)]
    have p3 : tk3 M f a = M f a := by
      unfold tk3
      rw [mtF_k hf (by rw [r2 0 0 (by omega) (by omega) (by omega) (by omega) (by omega)]; omega) _ (fun c hc => ?_), p2]
      have u1 : tk2 M 10 0 = fqF M (M 2 0).toNat 10 0 := by unfold tk2 fdF tk1; rw [fd_ne (by omega)]
      have u2 : tk2 M 11 c = fqF M (M 2 0).toNat 11 c := by unfold tk2 fdF tk1; rw [fd_ne (by omega)]
      rw [u1] at hc
      rw [u2]
      obtain ⟨g1, g2, _⟩ := hQ.2.2 c hc
      omega
    have r3 : ∀ f a, (f = 1 ∨ f = 2 ∨ f = 17) → tk3 M f a = M f a := fun f a q => by
      unfold tk3; rw [mtF_ne (by omega), r2 f a (by omega) (by omega) (by omega) (by omega) (by omega)]
    have p4 : tk4 M f a = M f a := by
      unfold tk4
      rw [mrF_k hf _ (by rw [r3 2 0 (by omega)]; omega) (fun j hj => by
        rw [r3 2 0 (by omega)] at hj
        rw [r3 17 j (by omega)]; exact q17 j (by omega)), p3]
    have p5 : tk5 M f a = M f a := by unfold tk5; rw [tu_ne (by omega), p4]
    have p51 : tk5 M 1 0 = M 1 0 := by unfold tk5 tk4; rw [tu_ne (by omega), mrF_ne (by omega), r3 1 0 (by omega)]
    unfold tkM mcF
    split
    · rw [hv1_ne (by rw [p51]; omega), p5]
    · exact p5
/-- zeros behind the counts -/
def Zb (X M : TT) : Prop := (∀ j : Nat, j < 30 → M 2 0 ≤ j → M 24 j = 0 ∧ M 27 j = 0 ∧ M 35 j = 0 ∧ ∀ r, r < 4 → M 30 (4 * j + r) = 0 ∧ X (100 + j) r = 0) ∧ (∀ r : Nat, r < 4 → M 0 0 ≤ r → X 14 r = 0 ∧ M 14 r = 0) ∧ (∀ a : Nat, a < 6 → M 1 0 ≤ a → X 16 a = 0 ∧ M 16 a = 0)
theorem tick_Z {b : Prop} {X M : TT} (h : Rl b X M) (hz : Zb X M) : Zb (ptF X b) (tkM M) := by
  obtain ⟨z1, z2, z3⟩ := hz
  have b1 := bd1 h.1.1.2 0
  have b2 := bd2 h.1.1.2 0
  refine ⟨fun j hj hj2 => ?_, fun r hr hr2 => ?_, fun a ha ha2 => ?_⟩
  · rw [tkM_ne (by omega)] at hj2
    obtain ⟨g1, g2, g3, g4⟩ := z1 j hj hj2
    have q : (M 2 0).toNat ≤ j := by omega
    rw [(tick_k h).2 (by unfold fM; omega), (tick_k h (f := 27)).2 (by unfold fM; omega), (tick_k h (f := 35)).2 (by unfold fM; omega)]
    refine ⟨g1, g2, g3, fun r hr => ?_⟩
    rw [(tick_k h (f := 30)).2 (by unfold fM; omega), (tick_k h (f := 100 + j)).1 (by unfold fX; omega)]
    exact g4 r hr
  · rw [tkM_ne (by omega)] at hr2
    rw [(tick_k h).1 (by unfold fX; omega), (tick_k h (f := 14)).2 (by unfold fM; omega)]
    exact z2 r hr hr2
  · rw [tkM_ne (by omega)] at ha2
    rw [(tick_k h).1 (by unfold fX; omega), (tick_k h (f := 16)).2 (by unfold fM; omega)]
    exact z3 a ha ha2
/-- the main relation -/
def MR (X M : TT) : Prop := Rl False X M ∧ (X 8 0 = M 8 0 ∧ X 9 0 = M 9 0) ∧ M 4 0 ≤ 2000 ∧ Zb X M
theorem ticks_it {X M : TT} (h : MR X M) : ∀ k : Nat, M 4 0 + k ≤ 2400 → Rl False (itC X k) (itM M k) ∧ (itC X k 8 0 = itM M k 8 0 ∧ itC X k 9 0 = itM M k 9 0) ∧ itM M k 4 0 = M 4 0 + k ∧ Zb (itC X k) (itM M k) := by
  intro k
  induction k with
  | zero => intro _; exact ⟨h.1, h.2.1, (Int.add_zero _).symm, h.2.2.2⟩
  | succ k ih =>
    intro hk
    obtain ⟨g1, g2, g3, g4⟩ := ih (by omega)
    obtain ⟨t1, t2, t3, t4, t5, t6⟩ := tick_ok g1 (by omega)
    rw [itC_s, itM_s]
    exact ⟨t3, ⟨t4, t5⟩, by omega, tick_Z g1 g4⟩
theorem c_ticks {X M : TT} (h : MR X M) {n : Int} : (∀ i : Nat, ¬ toC M n → (i : Int) < n → tkI (itM M i)) ∧ (∀ i : Nat, ¬ toC X n → (i : Int) < n → ptI (itC X i) False) ∧ (if toC X n then -3 else itC X n.toNat 4 0) = (if toC M n then -3 else itM M n.toNat 4 0) ∧ MR (if toC X n then X else itC X n.toNat) (if toC M n then M else itM M n.toNat) := by
  have e4 : X 4 0 = M 4 0 := h.1.1.2.1.2.2.2.1
  have et : toC X n ↔ toC M n := by unfold toC; rw [e4]
  refine ⟨fun i hc hi => ?_, fun i hc hi => ?_, ?_, ?_⟩
  · unfold toC at hc
    obtain ⟨g1, g2, g3, g4⟩ := ticks_it h i (by omega)
    exact (tick_ok g1 (by omega)).1
  · unfold toC at hc
    obtain ⟨g1, g2, g3, g4⟩ := ticks_it h i (by omega)
    exact (tick_ok g1 (by omega)).2.1
  · by_cases c : toC M n
    · rw [if_pos c, if_pos (et.mpr c)]
    · rw [if_neg c, if_neg (fun z => c (et.mp z))]
      have c2 := c
      unfold toC at c2
      obtain ⟨g1, g2, g3, g4⟩ := ticks_it h n.toNat (by omega)
      exact g1.1.2.1.2.2.2.1
  · by_cases c : toC M n
    · rw [if_pos c, if_pos (et.mpr c)]; exact h
    · rw [if_neg c, if_neg (fun z => c (et.mp z))]
      have c2 := c
      unfold toC at c2
      obtain ⟨g1, g2, g3, g4⟩ := ticks_it h n.toNat (by omega)
      exact ⟨g1, g2, by omega, g4⟩
