/-! PURE: job, book, unbook, cancel, fail -/
theorem wt_x (t : TT) (j : Nat) (a b c d e f : Int) : wtF t j a b c d e f 17 j = a ∧ wtF t j a b c d e f 18 j = b ∧ wtF t j a b c d e f 19 j = c ∧ wtF t j a b c d e f 20 j = d ∧ wtF t j a b c d e f 21 j = e ∧ wtF t j a b c d e f 22 j = f ∧ wtF t j a b c d e f 23 j = -1 ∧ wtF t j a b c d e f 24 j = 0 ∧ wtF t j a b c d e f 25 j = -1 ∧ wtF t j a b c d e f 26 j = -1 ∧ wtF t j a b c d e f 27 j = 0 ∧ wtF t j a b c d e f 28 j = 0 ∧ wtF t j a b c d e f 29 j = 0 := by
  unfold wtF
  refine ⟨?_, ?_, ?_, ?_, ?_, ?_, ?_, ?_, ?_, ?_, ?_, ?_, ?_⟩ <;> simp [tu]
theorem wt_o {t : TT} {j g k : Nat} {a b c d e f : Int} (h : k ≠ j) : wtF t j a b c d e f g k = t g k := by
  unfold wtF; rw [tu_ne (by omega), tu_ne (by omega), tu_ne (by omega), tu_ne (by omega), tu_ne (by omega), tu_ne (by omega), tu_ne (by omega), tu_ne (by omega), tu_ne (by omega), tu_ne (by omega), tu_ne (by omega), tu_ne (by omega), tu_ne (by omega)]
theorem jm_x (t : TT) {j : Nat} (hj : j = (t 2 0).toNat) (a b c d e f : Int) : jbM t a b c d e f 17 j = a ∧ jbM t a b c d e f 18 j = b ∧ jbM t a b c d e f 19 j = c ∧ jbM t a b c d e f 20 j = d ∧ jbM t a b c d e f 21 j = e ∧ jbM t a b c d e f 22 j = f ∧ jbM t a b c d e f 23 j = -1 ∧ jbM t a b c d e f 24 j = t 24 j ∧ jbM t a b c d e f 25 j = -1 ∧ jbM t a b c d e f 26 j = -1 ∧ jbM t a b c d e f 27 j = t 27 j ∧ jbM t a b c d e f 35 j = t 35 j := by
  unfold jbM
  refine ⟨?_, ?_, ?_, ?_, ?_, ?_, ?_, ?_, ?_, ?_, ?_, ?_⟩ <;> simp [tu, hj]
theorem jm_o {t : TT} {g k : Nat} {a b c d e f : Int} (h : g ≠ 2) (h2 : k ≠ (t 2 0).toNat ∨ ((g < 17 ∨ 23 < g) ∧ g ≠ 25 ∧ g ≠ 26)) : jbM t a b c d e f g k = t g k := by
  unfold jbM; rw [tu_ne (by omega), tu_ne (by omega), tu_ne (by omega), tu_ne (by omega), tu_ne (by omega), tu_ne (by omega), tu_ne (by omega), tu_ne (by omega), tu_ne (by omega), tu_ne (by omega)]
theorem m_job {X M : TT} (h : MR X M) {a n c d e f : Int} (ha : 0 ≤ a ∧ a < M 1 0) (hn : 1 ≤ n ∧ n ≤ 64) (hc : 0 ≤ c ∧ c ≤ 100) (hd : 1 ≤ d ∧ d ≤ 50) (he : 1 ≤ e ∧ e ≤ d) (hf : 0 ≤ f ∧ f ≤ 50) (h2 : M 2 0 < 30) : MR (jwG X a n c d e f) (jbM M a n c d e f) := by
  obtain ⟨⟨⟨⟨hBX, hBM⟩, ⟨e0, e1, e2, e4, e5, e6, e7⟩, hRR, hRA, hJ, hH, hI, ⟨r1, r2⟩, hIS⟩, h3⟩, h89, ht, z1, z2, z3⟩ := h
  have b1 := bd1 hBM 0
  have b2 := bd2 hBM 0
  have b0 := bd0 hBM 0
  obtain ⟨j, hj⟩ : ∃ j, j = (M 2 0).toNat := ⟨_, rfl⟩
  obtain ⟨y24, y27, y35, yo⟩ := z1 j (by omega) (by omega)
  have hBX2 : Bd (jwG X a n c d e f) := by
    refine bd_tu ?_ (fun _ => by show (0 : Int) ≤ X 2 0 + 1 ∧ X 2 0 + 1 ≤ 30; omega)
    refine bd_tu (bd_tu (bd_tu (bd_tu (bd_tu (bd_tu (bd_tu (bd_tu (bd_tu (bd_tu (bd_tu (bd_tu (bd_tu hBX ?_) ?_) ?_) ?_) ?_) ?_) ?_) ?_) ?_) ?_) ?_) ?_) ?_ <;> intro _
    · show (0 : Int) ≤ a ∧ a ≤ 5; omega
    · show (0 : Int) ≤ n ∧ n ≤ 64; omega
    · show (0 : Int) ≤ c ∧ c ≤ 100; omega
    · show (0 : Int) ≤ d ∧ d ≤ 50; omega
    · show (0 : Int) ≤ e ∧ e ≤ 50; omega
    · show (0 : Int) ≤ f ∧ f ≤ 50; omega
    · decide
    · decide
    · decide
    · decide
    · decide
    · decide
    · decide
  have hBM2 : Bd (jbM M a n c d e f) := by
    refine bd_tu ?_ (fun _ => by show (0 : Int) ≤ M 2 0 + 1 ∧ M 2 0 + 1 ≤ 30; omega)
    refine bd_tu (bd_tu (bd_tu (bd_tu (bd_tu (bd_tu (bd_tu (bd_tu (bd_tu hBM ?_) ?_) ?_) ?_) ?_) ?_) ?_) ?_) ?_ <;> intro _
    · show (0 : Int) ≤ a ∧ a ≤ 5; omega
    · show (0 : Int) ≤ n ∧ n ≤ 64; omega
    · show (0 : Int) ≤ c ∧ c ≤ 100; omega
    · show (0 : Int) ≤ d ∧ d ≤ 50; omega
    · show (0 : Int) ≤ e ∧ e ≤ 50; omega
    · show (0 : Int) ≤ f ∧ f ≤ 50; omega
    · decide
    · decide
    · decide
  have hm2 : jbM M a n c d e f 2 0 = M 2 0 + 1 := tu_eq _ _ _ _
  have hx2 : jwG X a n c d e f 2 0 = X 2 0 + 1 := tu_eq _ _ _ _
  have hxo : ∀ g k : Nat, g ≠ 2 → (k ≠ j ∨ g < 17 ∨ 29 < g) → jwG X a n c d e f g k = X g k := fun g k q1 q2 => by
    unfold jwG
    rw [tu_ne (by omega)]
    by_cases q : k = j
    · exact wtF_ne (by omega)
    · exact wt_o (by rw [e2, ← hj]; exact q)
  have hmo : ∀ g k : Nat, g ≠ 2 → (k ≠ j ∨ ((g < 17 ∨ 23 < g) ∧ g ≠ 25 ∧ g ≠ 26)) → jbM M a n c d e f g k = M g k := fun g k q1 q2 => jm_o q1 (by rw [← hj]; exact q2)
  have hxj : ∀ g, 17 ≤ g → jwG X a n c d e f g j = wtF X j a n c d e f g j := fun g q => by
    unfold jwG; rw [tu_ne (by omega), e2, ← hj]
  obtain ⟨x17, x18, x19, x20, x21, x22, x23, x24, x25, x26, x27, x28, x29⟩ := wt_x X j a n c d e f
  obtain ⟨m17, m18, m19, m20, m21, m22, m23, m24, m25, m26, m27, m35⟩ := jm_x M hj a n c d e f
  rw [y24] at m24
  rw [y27] at m27
  rw [y35] at m35
  have hcm : ∀ i q, cmF (jbM M a n c d e f) i q = cmF M i q := fun i q => sumN_congr (fun r _ => by rw [hmo 14 r (by omega) (by omega), hmo 30 _ (by omega) (by omega)])
  have hfo : ∀ r, r < 4 → foF (jbM M a n c d e f) r = foF M r := fun r hr => by
    have e30 : foS (jbM M a n c d e f) r ((M 2 0).toNat + 1) = foS M r (M 2 0).toNat := by
      rw [foS_s, ← hj, hmo 30 _ (by omega) (by omega), (yo r hr).1, Int.add_zero]
      exact sumN_congr (fun i _ => hmo 30 _ (by omega) (by omega))
    unfold foF
    rw [hm2, hmo 12 r (by omega) (by omega), show (M 2 0 + 1).toNat = (M 2 0).toNat + 1 by omega, e30]
  refine ⟨⟨⟨⟨hBX2, hBM2⟩, ⟨?_, ?_, ?_, ?_, ?_, ?_, ?_⟩, ?_, ?_, ?_, ?_, ?_, ⟨?_, ?_⟩, ?_⟩, ?_⟩, ⟨?_, ?_⟩, ?_, ?_, ?_, ?_⟩
  · rw [hxo 0 0 (by omega) (by omega), hmo 0 0 (by omega) (by omega)]; exact e0
  · rw [hxo 1 0 (by omega) (by omega), hmo 1 0 (by omega) (by omega)]; exact e1
  · rw [hx2, hm2, e2]
  · rw [hxo 4 0 (by omega) (by omega), hmo 4 0 (by omega) (by omega)]; exact e4
  · rw [hxo 5 0 (by omega) (by omega), hmo 5 0 (by omega) (by omega)]; exact e5
  · rw [hxo 6 0 (by omega) (by omega), hmo 6 0 (by omega) (by omega)]; exact e6
  · rw [hxo 7 0 (by omega) (by omega), hmo 0 0 (by omega) (by omega), e7]
    exact (sumN_congr (fun r _ => by rw [hmo 14 r (by omega) (by omega), hmo 12 r (by omega) (by omega)])).symm
  · intro r hr
    rw [hmo 0 0 (by omega) (by omega)] at hr
    rw [hxo 12 r (by omega) (by omega), hxo 13 r (by omega) (by omega), hxo 14 r (by omega) (by omega), hmo 12 r (by omega) (by omega), hmo 14 r (by omega) (by omega), hfo r (by omega)]
    exact hRR r hr
  · intro q hq
    rw [hmo 1 0 (by omega) (by omega)] at hq
    rw [hxo 15 q (by omega) (by omega), hxo 16 q (by omega) (by omega), hmo 15 q (by omega) (by omega), hmo 16 q (by omega) (by omega)]
    exact hRA q hq
  · intro i hi
    rw [hm2] at hi
    rw [hmo 0 0 (by omega) (by omega), hcm]
    by_cases q : i = j
    · subst q
      refine ⟨fun g g1 g2 => ?_, ?_, ?_, fun r hr => ?_⟩
      · rw [hxj g g1]
        rcases (show g = 17 ∨ g = 18 ∨ g = 19 ∨ g = 20 ∨ g = 21 ∨ g = 22 ∨ g = 23 ∨ g = 24 ∨ g = 25 ∨ g = 26 ∨ g = 27 by omega) with rfl | rfl | rfl | rfl | rfl | rfl | rfl | rfl | rfl | rfl | rfl
        · rw [x17, m17]
        · rw [x18, m18]
        · rw [x19, m19]
        · rw [x20, m20]
        · rw [x21, m21]
        · rw [x22, m22]
        · rw [x23, m23]
        · rw [x24, m24]
        · rw [x25, m25]
        · rw [x26, m26]
        · rw [x27, m27]
      · rw [hxj 28 (by omega), x28]
        exact ((sumN_congr (g := fun _ => 0) (fun r hr => by rw [(yo r (by omega)).1]; split <;> rfl)).trans (sumN_zero _)).symm
      · rw [hxj 29 (by omega), x29]
        unfold tkU
        rw [m24, if_neg (by omega)]
      · rw [hxo (100 + i) r (by omega) (by omega), hmo 30 _ (by omega) (by omega), (yo r hr).1, (yo r hr).2]
    · obtain ⟨g1, g2, g3, g4⟩ := hJ i (by omega)
      refine ⟨fun g q1 q2 => ?_, ?_, ?_, fun r hr => ?_⟩
      · rw [hxo g i (by omega) (by omega), hmo g i (by omega) (by omega)]; exact g1 g q1 q2
      · rw [hxo 28 i (by omega) (by omega)]; exact g2
      · unfold tkU
        rw [hxo 29 i (by omega) (by omega), hmo 24 i (by omega) (by omega), hmo 25 i (by omega) (by omega), hmo 36 i (by omega) (by omega)]; exact g3
      · rw [hxo (100 + i) r (by omega) (by omega), hmo 30 _ (by omega) (by omega)]; exact g4 r hr
  · intro k hk
    rw [hmo 3 0 (by omega) (by omega)] at hk
    rw [hxo 31 k (by omega) (by omega), hxo 32 k (by omega) (by omega), hxo 33 k (by omega) (by omega), hxo 34 k (by omega) (by omega), hmo 31 k (by omega) (by omega), hmo 33 k (by omega) (by omega), hmo 34 k (by omega) (by omega)]
    exact hH k hk
  · intro i hi
    rw [hm2] at hi
    dsimp only
    rw [hmo 4 0 (by omega) (by omega)]
    by_cases q : i = j
    · subst q
      refine ⟨⟨?_, ?_, ?_, ?_, ?_, ?_⟩, ?_, ?_⟩
      · rw [m18]; omega
      · rw [m27, m21]; omega
      · rw [m21, m20]; omega
      · rw [m27]; intro _; exact Int.zero_emod _
      · rw [m23]; omega
      · rw [m17, hmo 1 0 (by omega) (by omega)]; omega
      · intro q; rw [m24] at q; omega
      · intro _
        exact ⟨m35, fun r hr => by rw [hmo 30 _ (by omega) (by omega)]; exact (yo r hr).1⟩
    · obtain ⟨i1, i2, i3⟩ := hI i (by omega)
      refine ⟨?_, ?_, ?_⟩
      · unfold IJ1
        rw [hmo 18 i (by omega) (by omega), hmo 27 i (by omega) (by omega), hmo 21 i (by omega) (by omega), hmo 20 i (by omega) (by omega), hmo 22 i (by omega) (by omega), hmo 23 i (by omega) (by omega), hmo 17 i (by omega) (by omega), hmo 1 0 (by omega) (by omega)]
        exact i1
      · unfold IJ2 ndJ
        rw [hmo 24 i (by omega) (by omega), hmo 35 i (by omega) (by omega), hmo 25 i (by omega) (by omega), hmo 36 i (by omega) (by omega), hmo 20 i (by omega) (by omega), hmo 27 i (by omega) (by omega), hmo 21 i (by omega) (by omega)]
        exact i2
      · intro hn
        rw [hmo 24 i (by omega) (by omega)] at hn
        rw [hmo 35 i (by omega) (by omega)]
        exact ⟨(i3 hn).1, fun r hr => by rw [hmo 30 _ (by omega) (by omega)]; exact (i3 hn).2 r hr⟩
  · intro r hr
    rw [hmo 0 0 (by omega) (by omega)] at hr
    rw [hfo r (by omega)]; exact r1 r hr
  · intro i r hi hr1 hr2
    rw [hmo 0 0 (by omega) (by omega)] at hr1
    rw [hmo 30 _ (by omega) (by omega)]; exact r2 i r hi hr1 hr2
  · unfold IS
    rw [hmo 3 0 (by omega) (by omega), hmo 5 0 (by omega) (by omega), hmo 38 0 (by omega) (by omega)]
    exact hIS
  · rw [hxo 3 0 (by omega) (by omega), hmo 3 0 (by omega) (by omega)]; exact h3
  · rw [hxo 8 0 (by omega) (by omega), hmo 8 0 (by omega) (by omega)]; exact h89.1
  · rw [hxo 9 0 (by omega) (by omega), hmo 9 0 (by omega) (by omega)]; exact h89.2
  · rw [hmo 4 0 (by omega) (by omega)]; exact ht
  · intro i hi hi2
    rw [hm2] at hi2
    obtain ⟨g1, g2, g3, g4⟩ := z1 i hi (by omega)
    rw [hmo 24 i (by omega) (by omega), hmo 27 i (by omega) (by omega), hmo 35 i (by omega) (by omega)]
    exact ⟨g1, g2, g3, fun r hr => by rw [hmo 30 _ (by omega) (by omega), hxo (100 + i) r (by omega) (by omega)]; exact g4 r hr⟩
  · intro r hr hr2
    rw [hmo 0 0 (by omega) (by omega)] at hr2
    rw [hxo 14 r (by omega) (by omega), hmo 14 r (by omega) (by omega)]; exact z2 r hr hr2
  · intro q hq hq2
    rw [hmo 1 0 (by omega) (by omega)] at hq2
    rw [hxo 16 q (by omega) (by omega), hmo 16 q (by omega) (by omega)]; exact z3 q hq hq2
theorem RJ_off {X M X' M' : TT} (h : RJ X M) (hx : ∀ f a : Nat, (17 ≤ f ∧ f ≤ 29) ∨ 100 ≤ f → X' f a = X f a) (hm : ∀ f a : Nat, f = 0 ∨ f = 2 ∨ f = 14 ∨ (17 ≤ f ∧ f ≤ 30) ∨ f = 36 → M' f a = M f a) : RJ X' M' := by
  intro j hj
  rw [hm 2 0 (by omega)] at hj
  obtain ⟨y1, y2, y3, y4⟩ := h j hj
  have ec : cmF M' j (M 0 0).toNat = cmF M j (M 0 0).toNat := sumN_congr (fun r _ => by rw [hm 14 _ (by omega), hm 30 _ (by omega)])
  refine ⟨fun f hf1 hf2 => ?_, ?_, ?_, fun r hr => ?_⟩
  · rw [hx f j (by omega), hm f j (by omega)]; exact y1 f hf1 hf2
  · rw [hx 28 j (by omega), hm 0 0 (by omega), ec]; exact y2
  · unfold tkU; rw [hx 29 j (by omega), hm 24 j (by omega), hm 25 j (by omega), hm 36 j (by omega)]; exact y3
  · rw [hx (100 + j) r (by omega), hm 30 _ (by omega)]; exact y4 r hr
theorem m_book {X M : TT} (h : MR X M) {n a b : Int} (hn : 1 ≤ n ∧ n ≤ 64) (ha : X 4 0 ≤ a) (hb : a < b ∧ b ≤ 3000) (h8 : M 3 0 < 8) : MR (tu (hdF X (X 3 0).toNat n 0 a b) 3 0 (X 3 0 + 1)) (tu (tu (tu (tu M 31 (M 3 0).toNat n) 33 (M 3 0).toNat a) 34 (M 3 0).toNat b) 3 0 (M 3 0 + 1)) := by
  obtain ⟨⟨⟨⟨hBX, hBM⟩, ⟨e0, e1, e2, e4, e5, e6, e7⟩, hRR, hRA, hJ, hH, hI, hIR, hIS⟩, h3⟩, h89, ht, z1, z2, z3⟩ := h
  have b3 := bd3 hBM 0
  have b4 := bd4 hBM 0
  have hn2 : (0 : Int) ≤ n ∧ n ≤ 64 := by omega
  have ha2 : (0 : Int) ≤ a ∧ a ≤ 3000 := by omega
  have hb2 : (0 : Int) ≤ b ∧ b ≤ 3100 := by omega
  have hc : (0 : Int) ≤ M 3 0 + 1 ∧ M 3 0 + 1 ≤ 9 := by omega
  rw [h3]
  unfold hdF
  refine ⟨⟨⟨⟨bd_tu (bd_tu (bd_tu (bd_tu (bd_tu hBX (fun _ => hn2)) (fun _ => by decide)) (fun _ => ha2)) (fun _ => hb2)) (fun _ => hc), bd_tu (bd_tu (bd_tu (bd_tu hBM (fun _ => hn2)) (fun _ => ha2)) (fun _ => hb2)) (fun _ => hc)⟩, ⟨e0, e1, e2, e4, e5, e6, e7⟩, hRR, hRA, ?_, ?_, hI, hIR, ⟨?_, hIS.2⟩⟩, ?_⟩, h89, ht, z1_x z1 (fun j r => by rw [tu_ne (by omega), tu_ne (by omega), tu_ne (by omega), tu_ne (by omega), tu_ne (by omega)]), z2, z3⟩
  · exact RJ_off hJ (fun f a q => by rw [tu_ne (by omega), tu_ne (by omega), tu_ne (by omega), tu_ne (by omega), tu_ne (by omega)]) (fun f a q => by rw [tu_ne (by omega), tu_ne (by omega), tu_ne (by omega), tu_ne (by omega)])
  · intro k hk
    rw [tu_eq] at hk
    by_cases q : k = (M 3 0).toNat
    · subst q
      refine ⟨?_, ?_, ?_, ?_⟩ <;> simp [tu]
    · obtain ⟨g1, g2, g3, g4⟩ := hH k (by omega)
      refine ⟨?_, ?_, ?_, ?_⟩
      · rw [tu_ne (by omega), tu_ne (by omega), tu_ne (by omega), tu_ne (by omega), tu_ne (by omega), tu_ne (by omega), tu_ne (by omega), tu_ne (by omega), tu_ne (by omega)]; exact g1
      · rw [tu_ne (by omega), tu_ne (by omega), tu_ne (by omega), tu_ne (by omega), tu_ne (by omega)]; exact g2
      · rw [tu_ne (by omega), tu_ne (by omega), tu_ne (by omega), tu_ne (by omega), tu_ne (by omega), tu_ne (by omega), tu_ne (by omega), tu_ne (by omega), tu_ne (by omega)]; exact g3
      · rw [tu_ne (by omega), tu_ne (by omega), tu_ne (by omega), tu_ne (by omega), tu_ne (by omega), tu_ne (by omega), tu_ne (by omega), tu_ne (by omega), tu_ne (by omega)]; exact g4
  · rw [tu_eq]; omega
  · rw [tu_eq, tu_eq]
theorem m_unbook {X M : TT} (h : MR X M) {n : Nat} (hn : (n : Int) < M 3 0) : MR (dbF X n) (ubF M n) := by
  obtain ⟨⟨⟨⟨hBX, hBM⟩, ⟨e0, e1, e2, e4, e5, e6, e7⟩, hRR, hRA, hJ, hH, hI, hIR, hIS⟩, h3⟩, h89, ht, z1, z2, z3⟩ := h
  have b3 := bd3 hBM 0
  have hc : (0 : Int) ≤ M 3 0 - 1 ∧ M 3 0 - 1 ≤ 9 := by omega
  have hB1 : ∀ (t : TT) (b i : Nat), Bd t → Bd (db1 t b i) := fun t b i hB f a hf => by
    unfold db1
    split
    · exact hB f (a + 1) hf
    · exact hB f a hf
  have hB2 : ∀ (t : TT) (b i : Nat), Bd t → Bd (ub1 t b i) := fun t b i hB f a hf => by
    unfold ub1
    split
    · exact hB f (a + 1) hf
    · exact hB f a hf
  have hxo : ∀ f a : Nat, (f < 31 ∨ 34 < f) → f ≠ 3 → dbF X n f a = X f a := fun f a q1 q2 => by unfold dbF; rw [tu_ne (by omega), db1_ne (by omega)]
  have hmo : ∀ f a : Nat, (f ≠ 31 ∧ f ≠ 33 ∧ f ≠ 34) → f ≠ 3 → ubF M n f a = M f a := fun f a q1 q2 => by unfold ubF; rw [ub1_ne (by omega), tu_ne (by omega)]
  have hx3 : dbF X n 3 0 = M 3 0 - 1 := by unfold dbF; rw [tu_eq, h3]
  have hm3 : ubF M n 3 0 = M 3 0 - 1 := by unfold ubF; rw [ub1_ne (by omega), tu_eq]
  refine ⟨⟨⟨⟨bd_tu (hB1 _ _ _ hBX) (fun _ => by rw [h3]; exact hc), hB2 _ _ _ (bd_tu hBM (fun _ => hc))⟩, ⟨e0, e1, e2, e4, e5, e6, e7⟩, hRR, hRA, ?_, ?_, hI, hIR, ⟨?_, hIS.2⟩⟩, ?_⟩, h89, ht, z1_x z1 (fun j r => hxo _ _ (by omega) (by omega)), z2, z3⟩
  · exact RJ_off hJ (fun f a q => hxo f a (by omega) (by omega)) (fun f a q => hmo f a (by omega) (by omega))
  · intro k hk
    rw [hm3] at hk
    have hx : ∀ f, 31 ≤ f ∧ f ≤ 34 → dbF X n f k = if n ≤ k then X f (k + 1) else X f k := fun f hf => by
      unfold dbF
      rw [tu_ne (by omega), h3]
      unfold db1
      by_cases q : n ≤ k
      · rw [if_pos (by omega), if_pos q]
      · rw [if_neg (by omega), if_neg q]
    have hm : ∀ f, f = 31 ∨ f = 33 ∨ f = 34 → ubF M n f k = if n ≤ k then M f (k + 1) else M f k := fun f hf => by
      unfold ubF ub1
      by_cases q : n ≤ k
      · rw [if_pos (by omega), if_pos q, tu_ne (by omega)]
      · rw [if_neg (by omega), if_neg q, tu_ne (by omega)]
    rw [hx 31 (by omega), hx 32 (by omega), hx 33 (by omega), hx 34 (by omega), hm 31 (by omega), hm 33 (by omega), hm 34 (by omega)]
    by_cases q : n ≤ k
    · simp only [if_pos q]; exact hH (k + 1) (by omega)
    · simp only [if_neg q]; exact hH k (by omega)
  · rw [hm3]; omega
  · rw [hx3, hm3]
