/-! PURE: foreseen -/
theorem be_or (x t : TT) (f a : Nat) : beF x t f a = x f a ∨ beF x t f a = t f a := by
  have h0 : be0 x t f a = x f a ∨ be0 x t f a = t f a := by
    by_cases q : f ≤ 7 ∧ a = 0
    · obtain ⟨q1, rfl⟩ := q
      left
      rcases (show f = 0 ∨ f = 1 ∨ f = 2 ∨ f = 3 ∨ f = 4 ∨ f = 5 ∨ f = 6 ∨ f = 7 by omega) with rfl | rfl | rfl | rfl | rfl | rfl | rfl | rfl <;> simp [be0, tu]
    · right
      unfold be0
      rw [tu_ne (by omega), tu_ne (by omega), tu_ne (by omega), tu_ne (by omega), tu_ne (by omega), tu_ne (by omega), tu_ne (by omega), tu_ne (by omega)]
  unfold beF beH
  split
  · exact Or.inl rfl
  unfold beJ
  split
  · exact Or.inl rfl
  split
  · exact Or.inl rfl
  unfold beA
  split
  · exact Or.inl rfl
  unfold beR
  split
  · exact Or.inl rfl
  exact h0
theorem be_bd {x t : TT} (hx : Bd x) (ht : Bd t) : Bd (beF x t) := by
  intro f a hf
  rcases be_or x t f a with h | h
  · rw [h]; exact hx f a hf
  · rw [h]; exact ht f a hf
theorem be_in {x t : TT} {f a : Nat} (h : (f ≤ 7 ∧ a = 0) ∨ (12 ≤ f ∧ f ≤ 14 ∧ a < (x 0 0).toNat) ∨ (15 ≤ f ∧ f ≤ 16 ∧ a < (x 1 0).toNat) ∨ (17 ≤ f ∧ f ≤ 29 ∧ a < (x 2 0).toNat) ∨ (100 ≤ f ∧ f < 100 + (x 2 0).toNat ∧ a < 4) ∨ (31 ≤ f ∧ f ≤ 34 ∧ a < (x 3 0).toNat)) : beF x t f a = x f a := by
  unfold beF
  rcases h with h | h | h | h | h | h
  · rw [beH_ne (by omega), beJ_ne (by omega), beA_ne (by omega), beR_ne (by omega)]
    obtain ⟨q1, rfl⟩ := h
    rcases (show f = 0 ∨ f = 1 ∨ f = 2 ∨ f = 3 ∨ f = 4 ∨ f = 5 ∨ f = 6 ∨ f = 7 by omega) with rfl | rfl | rfl | rfl | rfl | rfl | rfl | rfl <;> simp [be0, tu]
  · rw [beH_ne (by omega), beJ_ne (by omega), beA_ne (by omega)]
    unfold beR
    rw [if_pos (by omega)]
  · rw [beH_ne (by omega), beJ_ne (by omega)]
    unfold beA
    rw [if_pos (by omega)]
  · rw [beH_ne (by omega)]
    unfold beJ
    rw [if_pos (by omega)]
  · rw [beH_ne (by omega)]
    unfold beJ
    rw [if_neg (by omega), if_pos (by omega)]
  · unfold beH
    rw [if_pos (by omega)]
theorem kp_ne {t : TT} {n m k f a : Nat} (h : f < 41 ∨ 47 < f) : kp1 t n m k f a = t f a := by
  unfold kp1
  rw [if_neg (by omega), if_neg (by omega), if_neg (by omega), if_neg (by omega), if_neg (by omega), if_neg (by omega), if_neg (by omega)]
theorem fs0_ne {t : TT} {f a : Nat} (h : (f < 41 ∨ 47 < f) ∧ f ≠ 38) : fs0 t f a = t f a := by unfold fs0; rw [tu_ne (by omega), kp_ne h.1]
theorem fs0_bd {t : TT} (hB : Bd t) : Bd (fs0 t) := by
  refine bd_tu (fun f a hf => ?_) (fun _ => by decide)
  unfold kp1
  split
  · rename_i q; rw [q.1]; exact bd24 hB a
  split
  · rename_i q; rw [q.1]; exact bd25 hB a
  split
  · rename_i q; rw [q.1]; exact bd26 hB a
  split
  · rename_i q; rw [q.1]; exact bd35 hB a
  split
  · rename_i q; rw [q.1]; exact bd36 hB a
  split
  · rename_i q; rw [q.1]; exact bd30 hB a
  split
  · rename_i q; exact absurd q.1 hf.2
  · exact hB f a hf
theorem pk_bd {t : TT} (hB : Bd t) : Bd (pk1 t 30 120 6) := by
  intro f a hf
  unfold pk1
  split
  · rename_i q; rw [q.1]; exact bd41 hB a
  split
  · rename_i q; rw [q.1]; exact bd42 hB a
  split
  · rename_i q; rw [q.1]; exact bd43 hB a
  split
  · rename_i q; rw [q.1]; exact bd44 hB a
  split
  · rename_i q; rw [q.1]; exact bd45 hB a
  split
  · rename_i q; rw [q.1]; exact bd46 hB a
  split
  · rename_i q; exact absurd q.1 hf.1
  · exact hB f a hf
theorem fore_0 {X M F : TT} (h : MR X M) (hF : Bd F) : Rl True (beF X F) (fs0 M) := by
  obtain ⟨⟨hR, h3⟩, h89, ht, z1, z2, z3⟩ := h
  obtain ⟨⟨hBX, hBM⟩, ⟨e0, e1, e2, e4, e5, e6, e7⟩, hRR, hRA, hJ, hH, hI, hIR, hIS⟩ := id hR
  have b0 := bd0 hBM 0
  have b1 := bd1 hBM 0
  have b2 := bd2 hBM 0
  have b3 := bd3 hBM 0
  have e4' : fs0 M 4 0 = M 4 0 := fs0_ne (by omega)
  refine ⟨?_, ?_⟩
  · rw [e4']
    refine Rc_congr2 hR (be_bd hBX hF) (fs0_bd hBM) (fun f a q => be_in ?_) (fun f a q1 q2 q3 => fs0_ne ?_) ⟨fun _ => ?_, fun q => absurd trivial q⟩ (fun j hj => ?_)
    · unfold inX at q
      rw [e0, e1, e2, h3]
      omega
    · unfold zok at q1
      omega
    · unfold fs0; rw [tu_eq]
    · unfold ndJ
      rw [pif_f (fun w => w), pif_t trivial]
      have := (hI j hj).1.2.2.1
      omega
  · rw [be_in (by omega), fs0_ne (by omega)]; exact h3
theorem frI_ne {t : TT} {q f a : Nat} (h : f ≠ 30 ∧ f ≠ 24 ∧ f ≠ 25 ∧ f ≠ 26 ∧ f ≠ 35 ∧ f ≠ 36 ∧ f ≠ 39 ∧ f ≠ 40 ∧ f ≠ 48 ∧ f ≠ 8 ∧ f ≠ 9 ∧ f ≠ 37 ∧ f ≠ 10 ∧ f ≠ 11 ∧ f ≠ 16 ∧ f ≠ 4) : ∀ k, frI t q k f a = t f a := by
  intro k
  induction k with
  | zero => rfl
  | succ k ih =>
    rw [frI_s]
    split
    · rw [tkM_ne h, ih]
    · exact ih
theorem fore_k {X M F : TT} (h : MR X M) (hF : Bd F) {q : Nat} (hq : (q : Int) < M 2 0) : ∀ k : Nat, k ≤ 300 → Rl True (fuI (beF X F) q k) (frI (fs0 M) q k) ∧ frI (fs0 M) q k 4 0 ≤ M 4 0 + k := by
  intro k
  have ht := h.2.2.1
  induction k with
  | zero =>
    intro _
    refine ⟨fore_0 h hF, ?_⟩
    have : frI (fs0 M) q 0 4 0 = M 4 0 := fs0_ne (by omega)
    omega
  | succ k ih =>
    intro hk
    obtain ⟨g1, g2⟩ := ih (by omega)
    have e2 : frI (fs0 M) q k 2 0 = M 2 0 := by rw [frI_ne (by omega)]; exact fs0_ne (by omega)
    have e24 : fuI (beF X F) q k 24 q = frI (fs0 M) q k 24 q := (g1.1.2.2.2.2.1 q (by omega)).1 24 (by decide) (by decide)
    obtain ⟨t1, t2, t3, t4, t5, t6⟩ := tick_ok g1 (by omega)
    rw [fuI_s, frI_s, e24]
    by_cases c : frI (fs0 M) q k 24 q = 0
    · rw [if_pos c, if_pos c]
      exact ⟨t3, by omega⟩
    · rw [if_neg c, if_neg c]
      exact ⟨g1, by omega⟩
theorem fore_I {X M F : TT} (h : MR X M) (hF : Bd F) {q i : Nat} (hq : (q : Int) < M 2 0) (hi : i ≤ 300) : (Bd (fuI (beF X F) q i) ∧ ptI (fuI (beF X F) q i) True) ∧ (Bd (frI (fs0 M) q i) ∧ tkI (frI (fs0 M) q i)) := by
  obtain ⟨g1, g2⟩ := fore_k h hF hq i hi
  have ht := h.2.2.1
  obtain ⟨t1, t2, _⟩ := tick_ok g1 (by omega)
  exact ⟨⟨g1.1.1.1, t2⟩, ⟨g1.1.1.2, t1⟩⟩
theorem fs_in {M : TT} {j : Nat} {f a : Nat} (h1 : f ≤ 36 ∧ f ≠ 10 ∧ f ≠ 11) (h2 : a < 120 ∧ (f ≠ 30 → a < 30) ∧ (f ≤ 9 → a = 0) ∧ (f = 16 → a < 6)) : tu (tu (tu (tu (pk1 (tu (fsN M j) 38 0 0) 30 120 6) 4 0 (M 4 0)) 8 0 (M 8 0)) 9 0 (M 9 0)) 37 0 (M 37 0) f a = M f a := by
  rw [tu_ne (by omega)]
  by_cases q9 : f = 9
  · subst q9; obtain rfl := h2.2.2.1 (by omega); rw [tu_eq]
  rw [tu_ne (by omega)]
  by_cases q8 : f = 8
  · subst q8; obtain rfl := h2.2.2.1 (by omega); rw [tu_eq]
  rw [tu_ne (by omega)]
  by_cases q4 : f = 4
  · subst q4; obtain rfl := h2.2.2.1 (by omega); rw [tu_eq]
  rw [tu_ne (by omega)]
  have hk : ∀ g b, 41 ≤ g → g ≤ 47 → tu (fsN M j) 38 0 0 g b = kp1 M 30 120 6 g b := fun g b q1 q2 => by
    rw [tu_ne (by omega)]
    unfold fsN
    rw [frI_ne (by omega)]
    unfold fs0
    rw [tu_ne (by omega)]
  unfold pk1
  rw [hk 41 a (by omega) (by omega), hk 42 a (by omega) (by omega), hk 43 a (by omega) (by omega), hk 44 a (by omega) (by omega), hk 45 a (by omega) (by omega), hk 46 a (by omega) (by omega), hk 47 a (by omega) (by omega)]
  by_cases q24 : f = 24
  · subst q24; rw [if_pos ⟨rfl, by omega⟩]; unfold kp1; rw [if_pos ⟨rfl, by omega⟩]
  rw [if_neg (by omega)]
  by_cases q25 : f = 25
  · subst q25; rw [if_pos ⟨rfl, by omega⟩]; unfold kp1; rw [if_neg (by omega), if_pos ⟨rfl, by omega⟩]
  rw [if_neg (by omega)]
  by_cases q26 : f = 26
  · subst q26; rw [if_pos ⟨rfl, by omega⟩]; unfold kp1; rw [if_neg (by omega), if_neg (by omega), if_pos ⟨rfl, by omega⟩]
  rw [if_neg (by omega)]
  by_cases q35 : f = 35
  · subst q35; rw [if_pos ⟨rfl, by omega⟩]; unfold kp1; rw [if_neg (by omega), if_neg (by omega), if_neg (by omega), if_pos ⟨rfl, by omega⟩]
  rw [if_neg (by omega)]
  by_cases q36 : f = 36
  · subst q36; rw [if_pos ⟨rfl, by omega⟩]; unfold kp1; rw [if_neg (by omega), if_neg (by omega), if_neg (by omega), if_neg (by omega), if_pos ⟨rfl, by omega⟩]
  rw [if_neg (by omega)]
  by_cases q30 : f = 30
  · subst q30; rw [if_pos ⟨rfl, by omega⟩]; unfold kp1; rw [if_neg (by omega), if_neg (by omega), if_neg (by omega), if_neg (by omega), if_neg (by omega), if_pos ⟨rfl, by omega⟩]
  rw [if_neg (by omega)]
  by_cases q16 : f = 16
  · subst q16; rw [if_pos ⟨rfl, by omega⟩]; unfold kp1; rw [if_neg (by omega), if_neg (by omega), if_neg (by omega), if_neg (by omega), if_neg (by omega), if_neg (by omega), if_pos ⟨rfl, by omega⟩]
  rw [if_neg (by omega), tu_ne (by omega)]
  unfold fsN
  rw [frI_ne (by omega), fs0_ne (by omega)]
theorem m_foreseen {X M F : TT} (h : MR X M) (hF : Bd F) (j : Int) : fuV X F j = fsV M j ∧ MR X (fsS M j) ∧ Bd (fuS X F j) := by
  have e2 : X 2 0 = M 2 0 := h.1.1.2.1.2.2.1
  have hB := h.1.1.1.2
  have b2 := bd2 hB 0
  by_cases c : 0 ≤ j ∧ j < M 2 0
  · obtain ⟨q, rfl⟩ : ∃ q : Nat, j = (q : Int) := ⟨j.toNat, by omega⟩
    have hq := c.2
    have g := (h.1.1.2.2.2.2.1 q hq).1
    have g24 := g 24 (by decide) (by decide)
    have g25 := g 25 (by decide) (by decide)
    obtain ⟨k1, k2⟩ := fore_k h hF hq 300 (by omega)
    have en2 : frI (fs0 M) q 300 2 0 = M 2 0 := by rw [frI_ne (by omega)]; exact fs0_ne (by omega)
    have k := (k1.1.2.2.2.2.1 q (by omega)).1
    have k24 := k 24 (by decide) (by decide)
    have k25 := k 25 (by decide) (by decide)
    refine ⟨?_, ?_, ?_⟩
    · unfold fuV fsV fuN fsN
      have cc : ¬ ¬ (0 ≤ (q : Int) ∧ (q : Int) < M 2 0) := fun z => z c
      rw [show ((q : Nat) : Int).toNat = q from rfl, e2, if_neg cc, if_neg cc, g24, g25, k24, k25]
      have b24 := bd24 hB q
      by_cases c1 : M 24 q = 1
      · rw [if_pos c1, if_pos (by omega), if_pos c1]
      · rw [if_neg c1]
        by_cases c0 : M 24 q = 0
        · have c0' : ¬ (M 24 q ≠ 0) := fun z => z c0
          rw [if_neg c0', if_neg c0']
        · rw [if_pos c0, if_pos c0, if_neg c1]
    · unfold fsS
      rw [show ((q : Nat) : Int).toNat = q from rfl]
      by_cases c0 : M 24 q = 0
      · rw [if_pos ⟨c, c0⟩]
        obtain ⟨⟨hR, h3⟩, h89, ht, z1, z2, z3⟩ := h
        obtain ⟨⟨hBX, hBM⟩, hrest⟩ := id hR
        have hIS := hrest.2.2.2.2.2.2.2
        obtain ⟨w, hw⟩ : ∃ w, w = tu (tu (tu (tu (pk1 (tu (fsN M q) 38 0 0) 30 120 6) 4 0 (M 4 0)) 8 0 (M 8 0)) 9 0 (M 9 0)) 37 0 (M 37 0) := ⟨_, rfl⟩
        rw [← hw]
        have hin : ∀ f a : Nat, (f ≤ 36 ∧ f ≠ 10 ∧ f ≠ 11) → (a < 120 ∧ (f ≠ 30 → a < 30) ∧ (f ≤ 9 → a = 0) ∧ (f = 16 → a < 6)) → w f a = M f a := fun f a q1 q2 => by rw [hw]; exact fs_in q1 q2
        have hBw : Bd w := by
          rw [hw]
          have hN : Bd (fsN M q) := k1.1.1.2
          exact bd_tu (bd_tu (bd_tu (bd_tu (pk_bd (bd_tu hN (fun _ => by decide))) (fun _ => bd4 hBM 0)) (fun _ => bd8 hBM 0)) (fun _ => bd9 hBM 0)) (fun _ => bd37 hBM 0)
        have w38 : w 38 0 = 0 := by
          rw [hw, tu_ne (by omega), tu_ne (by omega), tu_ne (by omega), tu_ne (by omega)]
          unfold pk1
          rw [if_neg (by omega), if_neg (by omega), if_neg (by omega), if_neg (by omega), if_neg (by omega), if_neg (by omega), if_neg (by omega), tu_eq]
        have e4 := hin 4 0 (by omega) (by omega)
        refine ⟨⟨?_, ?_⟩, ⟨?_, ?_⟩, ?_, ?_, ?_, ?_⟩
        · rw [e4]
          exact Rc_congr2 hR hBX hBw (fun _ _ _ => rfl) (fun f a q1 q2 q3 => hin f a (by unfold zok at q1; omega) (by unfold zok at q1; omega)) ⟨fun z => z.elim, fun _ => w38⟩ (fun _ _ => Int.le_refl _)
        · rw [hin 3 0 (by omega) (by omega)]; exact h3
        · rw [hin 8 0 (by omega) (by omega)]; exact h89.1
        · rw [hin 9 0 (by omega) (by omega)]; exact h89.2
        · rw [e4]; exact ht
        · intro i hi hi2
          rw [hin 2 0 (by omega) (by omega)] at hi2
          obtain ⟨y1, y2, y3, y4⟩ := z1 i hi hi2
          rw [hin 24 i (by omega) (by omega), hin 27 i (by omega) (by omega), hin 35 i (by omega) (by omega)]
          exact ⟨y1, y2, y3, fun r hr => by rw [hin 30 _ (by omega) (by omega)]; exact y4 r hr⟩
        · intro r hr hr2
          rw [hin 0 0 (by omega) (by omega)] at hr2
          rw [hin 14 r (by omega) (by omega)]; exact z2 r hr hr2
        · intro a ha ha2
          rw [hin 1 0 (by omega) (by omega)] at ha2
          rw [hin 16 a (by omega) (by omega)]; exact z3 a ha ha2
      · rw [if_neg (fun z => c0 z.2)]; exact h
    · unfold fuS fuN
      rw [show ((q : Nat) : Int).toNat = q from rfl]
      split
      · exact k1.1.1.1
      · exact hF
  · refine ⟨?_, ?_, ?_⟩
    · unfold fuV fsV
      rw [if_pos (by rw [e2]; exact c), if_pos c]
    · unfold fsS
      rw [if_neg (fun z => c z.1)]; exact h
    · unfold fuS
      rw [if_neg (fun z => c (by rw [← e2]; exact z.1))]; exact hF
