/-! PURE: cancel, fail -/
theorem stop_M {z : TT} {i : Nat} {v sv : Int} (f a : Nat) : leM (tu (tu z 27 i sv) 24 i v) i f a = if f = 30 ∧ 4 * i ≤ a ∧ a < 4 * i + 4 then 0 else if f = 35 ∧ a = i then 0 else if f = 24 ∧ a = i then v else if f = 26 ∧ a = i then z 26 i else if f = 27 ∧ a = i then sv else z f a := by
  unfold leM
  simp only [tu, le1]
  by_cases q30 : f = 30
  · subst q30; simp
  by_cases q35 : f = 35
  · subst q35; by_cases qa : a = i <;> simp [qa]
  by_cases q24 : f = 24
  · subst q24; by_cases qa : a = i <;> simp [qa]
  by_cases q26 : f = 26
  · subst q26
    by_cases qa : a = i
    · subst qa; simp
    · simp [qa]
  by_cases q27 : f = 27
  · subst q27; by_cases qa : a = i <;> simp [qa]
  simp [q30, q35, q24, q26, q27]
theorem stop_X {s : TT} {i n : Nat} {v sv : Int} (hn : n = (s 0 0).toNat) (f a : Nat) : tu (lvF (tu s 27 i sv) i) 24 i v f a = if f = 13 ∧ a < n then s 13 a + s (100 + i) a else if f = 100 + i ∧ a < n then 0 else if (f = 28 ∨ f = 29) ∧ a = i then 0 else if f = 24 ∧ a = i then v else if f = 26 ∧ a = i then s 26 i else if f = 27 ∧ a = i then sv else s f a := by
  have er : (tu s 27 i sv 0 0).toNat = n := hn.symm
  unfold lvF
  rw [er]
  have e1 : ∀ b, tu s 27 i sv 13 b = s 13 b := fun b => tu_ne (by omega)
  have e2 : ∀ b, tu s 27 i sv (100 + i) b = s (100 + i) b := fun b => tu_ne (by omega)
  unfold lv1
  simp only [e1, e2]
  simp only [tu]
  by_cases q13 : f = 13
  · subst q13; simp
  by_cases q100 : f = 100 + i
  · subst q100
    simp [show ¬ (100 + i = 28) by omega, show ¬ (100 + i = 29) by omega, show ¬ (100 + i = 24) by omega, show ¬ (100 + i = 26) by omega, show ¬ (100 + i = 27) by omega, show ¬ (100 + i = 13) by omega]
  by_cases q26 : f = 26
  · subst q26
    by_cases qa : a = i
    · subst qa; simp [q100]
    · simp [qa, q100]
  by_cases q24 : f = 24
  · subst q24; by_cases qa : a = i <;> simp [qa, q100]
  by_cases q27 : f = 27
  · subst q27; by_cases qa : a = i <;> simp [qa, q100]
  by_cases q28 : f = 28
  · subst q28; by_cases qa : a = i <;> simp [qa, q100]
  by_cases q29 : f = 29
  · subst q29; by_cases qa : a = i <;> simp [qa, q100]
  simp [q13, q100, q26, q24, q27, q28, q29]
/-- a job stops on both sides, its SAVED being sv -/
theorem stop_MR {X M : TT} (h : MR X M) {i : Nat} (hi : (i : Int) < M 2 0) {v sv : Int} (hv : v ≠ 1 ∧ 0 ≤ v ∧ v ≤ 3) (hsv : 0 ≤ sv ∧ sv < M 21 i ∧ (M 22 i ≠ 0 → sv % M 22 i = 0)) : MR (tu (lvF (tu X 27 i sv) i) 24 i v) (leM (tu (tu M 27 i sv) 24 i v) i) := by
  obtain ⟨⟨hR, h3⟩, h89, ht, z1, z2, z3⟩ := h
  obtain ⟨⟨hBX, hBM⟩, ⟨e0, e1, e2, e4, e5, e6, e7⟩, hRR, hRA, hJ, hH, hI, hIR, hIS⟩ := id hR
  have f26 := (hJ i hi).1 26 (by decide) (by decide)
  have b26 := bd26 hBM i
  have e4' : leM (tu (tu M 27 i sv) 24 i v) i 4 0 = M 4 0 := by rw [leM_ne (by omega), tu_ne (by omega), tu_ne (by omega)]
  have hx := fun f a => stop_X (s := X) (i := i) (v := v) (sv := sv) rfl f a
  have hm := fun f a => stop_M (z := M) (i := i) (v := v) (sv := sv) f a
  have hxo : ∀ f a : Nat, f ≠ 13 → f ≠ 100 + i → f ≠ 28 → f ≠ 29 → f ≠ 24 → f ≠ 26 → f ≠ 27 → tu (lvF (tu X 27 i sv) i) 24 i v f a = X f a := fun f a q1 q2 q3 q4 q5 q6 q7 => by
    rw [hx, if_neg (by omega), if_neg (by omega), if_neg (by omega), if_neg (by omega), if_neg (by omega), if_neg (by omega)]
  have hmo : ∀ f a : Nat, f ≠ 30 ∨ 4 * i + 4 ≤ a → (f ≠ 35 ∧ f ≠ 24 ∧ f ≠ 26 ∧ f ≠ 27) ∨ a ≠ i → leM (tu (tu M 27 i sv) 24 i v) i f a = M f a := fun f a q1 q2 => by
    rw [hm, if_neg (by omega), if_neg (by omega), if_neg (by omega), if_neg (by omega), if_neg (by omega)]
  refine ⟨⟨?_, ?_⟩, ⟨?_, ?_⟩, ?_, ?_, ?_, ?_⟩
  · rw [e4']
    refine stop_Rc (v := v) (e := M 26 i) (sv := sv) (Rw_of i hR) hi (fun j _ => rfl) hv b26 hsv (fun f a => ?_) hm
    rw [hx, e0, f26]
  · rw [hxo 3 0 (by omega) (by omega) (by omega) (by omega) (by omega) (by omega) (by omega), hmo 3 0 (by omega) (by omega)]; exact h3
  · rw [hxo 8 0 (by omega) (by omega) (by omega) (by omega) (by omega) (by omega) (by omega), hmo 8 0 (by omega) (by omega)]; exact h89.1
  · rw [hxo 9 0 (by omega) (by omega) (by omega) (by omega) (by omega) (by omega) (by omega), hmo 9 0 (by omega) (by omega)]; exact h89.2
  · rw [e4']; exact ht
  · intro j hj hj2
    rw [hmo 2 0 (by omega) (by omega)] at hj2
    obtain ⟨g1, g2, g3, g4⟩ := z1 j hj hj2
    rw [hmo 24 j (by omega) (by omega), hmo 27 j (by omega) (by omega), hmo 35 j (by omega) (by omega)]
    exact ⟨g1, g2, g3, fun r hr => by rw [hmo 30 _ (by omega) (by omega), hxo (100 + j) r (by omega) (by omega) (by omega) (by omega) (by omega) (by omega) (by omega)]; exact g4 r hr⟩
  · intro r hr hr2
    rw [hmo 0 0 (by omega) (by omega)] at hr2
    rw [hxo 14 r (by omega) (by omega) (by omega) (by omega) (by omega) (by omega) (by omega), hmo 14 r (by omega) (by omega)]
    exact z2 r hr hr2
  · intro a ha ha2
    rw [hmo 1 0 (by omega) (by omega)] at ha2
    rw [hxo 16 a (by omega) (by omega) (by omega) (by omega) (by omega) (by omega) (by omega), hmo 16 a (by omega) (by omega)]
    exact z3 a ha ha2
theorem tu_same {t : TT} {f i : Nat} {x : Int} (h : t f i = x) : tu t f i x = t := by
  funext a b
  unfold tu
  split
  · rename_i q; rw [q.1, q.2, h]
  · rfl
theorem m_cancel {X M : TT} (h : MR X M) {j : Nat} (hj : (j : Int) < M 2 0) : MR (tu (lvF X j) 24 j 3) (leM (tu M 24 j 3) j) := by
  obtain ⟨_, _, _, _, hJ, _, hI, _⟩ := id h.1.1
  obtain ⟨i1, i2, i3, i4, _⟩ := (hI j hj).1
  have b27 := bd27 h.1.1.1.2 j
  have f27 := (hJ j hj).1 27 (by decide) (by decide)
  have k := stop_MR h hj (v := 3) (sv := M 27 j) (by omega) ⟨b27.1, i2, i4⟩
  rw [tu_same f27, tu_same (t := M) rfl] at k
  exact k
/-- fail, job by job -/
theorem m_fail {X M : TT} (h : MR X M) {r : Nat} (hr : r < 4) : ∀ i : Nat, (i : Int) ≤ M 2 0 → MR (bk1 X r i) (mfT M r i) ∧ bkN X r i = mfC M r i ∧ ((i : Int) < M 2 0 → (0 ≤ ranF (bk1 X r i) i (bk1 X r i 4 0) ∧ ranF (bk1 X r i) i (bk1 X r i 4 0) ≤ 2147483647) ∧ Bd (kwsF (bk1 X r i) i (bk1 X r i 4 0))) := by
  intro i
  have hb2 := bd2 h.1.1.1.2 0
  have side : ∀ (s z : TT) (i : Nat), MR s z → (i : Int) < z 2 0 → (ranF s i (s 4 0) = z 35 i ∧ kwsF s i (s 4 0) = tu s 27 i (if z 22 i = 0 then z 27 i else (z 27 i + z 35 i) - (z 27 i + z 35 i) % z 22 i)) ∧ (0 ≤ (if z 22 i = 0 then z 27 i else (z 27 i + z 35 i) - (z 27 i + z 35 i) % z 22 i) ∧ (if z 22 i = 0 then z 27 i else (z 27 i + z 35 i) - (z 27 i + z 35 i) % z 22 i) < z 21 i ∧ (z 22 i ≠ 0 → (if z 22 i = 0 then z 27 i else (z 27 i + z 35 i) - (z 27 i + z 35 i) % z 22 i) % z 22 i = 0)) := by
    intro s z i hm hi
    obtain ⟨⟨_, hBz⟩, ⟨_, _, _, e4, _⟩, _, _, hJ, _, hI, _⟩ := id hm.1.1
    obtain ⟨⟨i1, i2, i3, i4, i5, i6⟩, j2, j3⟩ := hI i hi
    obtain ⟨g1, _⟩ := hJ i hi
    have f24 := g1 24 (by decide) (by decide)
    have f25 := g1 25 (by decide) (by decide)
    have f22 := g1 22 (by decide) (by decide)
    have f27 := g1 27 (by decide) (by decide)
    have b22 := bd22 hBz i
    have b27 := bd27 hBz i
    have b35 := bd35 hBz i
    have hran : ranF s i (s 4 0) = z 35 i := by
      unfold ranF
      rw [f24, e4, f25]
      by_cases c : z 24 i = 1
      · rw [if_pos c]; exact ((j2 c).1).symm
      · rw [if_neg c]; exact ((j3 c).1).symm
    have h35 : z 27 i + z 35 i < z 21 i := by
      by_cases c : z 24 i = 1
      · have := (j2 c).2.2.2.2
        unfold ndJ at this
        rw [pif_f (fun w => w)] at this
        omega
      · rw [(j3 c).1]; omega
    refine ⟨⟨hran, ?_⟩, ?_⟩
    · unfold kwsF
      rw [hran, f22, f27]
      by_cases c : z 22 i = 0
      · rw [if_neg (by omega), if_pos c, tu_same f27]
      · rw [if_pos (by omega), if_neg c]
        have e : (z 27 i + z 35 i) % z 22 i = z 35 i % z 22 i := by
          rw [Int.add_emod, i4 c, Int.zero_add, Int.emod_emod]
        rw [e]
        congr 1
        omega
    · by_cases c : z 22 i = 0
      · rw [if_pos c]
        exact ⟨b27.1, i2, fun w => absurd c w⟩
      · rw [if_neg c]
        have m1 := Int.emod_nonneg (z 27 i + z 35 i) c
        have m2 := Int.emod_lt_of_pos (z 27 i + z 35 i) (show 0 < z 22 i by omega)
        have m3 : (z 27 i + z 35 i) % z 22 i ≤ z 27 i + z 35 i := by
          have := Int.mul_ediv_add_emod (z 27 i + z 35 i) (z 22 i)
          have h0 : 0 ≤ (z 27 i + z 35 i) / z 22 i := Int.ediv_nonneg (by omega) (by omega)
          have h1 : 0 ≤ z 22 i * ((z 27 i + z 35 i) / z 22 i) := Int.mul_nonneg (by omega) h0
          omega
        refine ⟨by omega, by omega, fun _ => ?_⟩
        rw [Int.sub_emod, Int.emod_emod, Int.sub_self, Int.zero_emod]
  have tail : ∀ i : Nat, MR (bk1 X r i) (mfT M r i) → (i : Int) < M 2 0 → (0 ≤ ranF (bk1 X r i) i (bk1 X r i 4 0) ∧ ranF (bk1 X r i) i (bk1 X r i 4 0) ≤ 2147483647) ∧ Bd (kwsF (bk1 X r i) i (bk1 X r i 4 0)) := by
    intro i hm hi
    have e2 : mfT M r i 2 0 = M 2 0 := mfT_ne (by omega) i
    obtain ⟨⟨k1, k2⟩, k3, k4, k5⟩ := side _ _ i hm (by omega)
    have b35 := bd35 hm.1.1.1.2 i
    have b21 := bd21 hm.1.1.1.2 i
    rw [k2]
    refine ⟨⟨by omega, by omega⟩, bd_tu hm.1.1.1.1 (fun _ => ?_)⟩
    generalize (if mfT M r i 22 i = 0 then mfT M r i 27 i else (mfT M r i 27 i + mfT M r i 35 i) - (mfT M r i 27 i + mfT M r i 35 i) % mfT M r i 22 i) = w at k3 k4
    show (0 : Int) ≤ w ∧ w ≤ 50
    omega
  induction i with
  | zero => intro _; exact ⟨h, rfl, fun hi => tail 0 h hi⟩
  | succ i ih =>
    intro hi
    obtain ⟨h1, h2, _⟩ := ih (by omega)
    have e2 : mfT M r i 2 0 = M 2 0 := mfT_ne (by omega) i
    obtain ⟨_, _, _, _, hJ, _, hI, _⟩ := id h1.1.1
    have gn := (hJ i (by omega)).2.2.2 r hr
    have i3 := (hI i (by omega)).2.2
    have hc : 0 < bk1 X r i (100 + i) r ↔ mfT M r i 24 i = 1 ∧ 0 < mfT M r i 30 (4 * i + r) := by
      rw [gn]
      constructor
      · intro q
        refine ⟨Classical.byContradiction (fun w => ?_), q⟩
        have := (i3 w).2 r hr
        omega
      · exact fun q => q.2
    obtain ⟨⟨k1, k2⟩, k3⟩ := side _ _ i h1 (by omega)
    have hm : MR (bk1 X r (i + 1)) (mfT M r (i + 1)) := by
      rw [bk1_s, mfT_s]
      unfold mfS
      by_cases c : mfT M r i 24 i = 1 ∧ 0 < mfT M r i 30 (4 * i + r)
      · rw [if_pos c, if_pos (hc.mpr c), k2]
        exact stop_MR h1 (by omega) (by omega) k3
      · rw [if_neg c, if_neg (fun w => c (hc.mp w))]; exact h1
    refine ⟨hm, ?_, tail _ hm⟩
    rw [bkN_s, mfC_s, h2]
    congr 1
    unfold b2i
    by_cases c : mfT M r i 24 i = 1 ∧ 0 < mfT M r i 30 (4 * i + r)
    · rw [if_pos c, if_pos (hc.mpr c)]
    · rw [if_neg c, if_neg (fun w => c (hc.mp w))]
