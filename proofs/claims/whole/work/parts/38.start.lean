/-! THE START: what both constructors have made is a world, and the two tables agree -/
theorem mc_cg {D : va_G} {cl : List vw_C} {H : Heap} {E2 : Nat → ClassId} {x B B' j : Nat} {f f' : Nat → Nat} {t : TT} (hf : ∀ j, j < 85 → f (B + j) = f' (B' + j)) (hj : j < 85) (h : va_at D cl (x, mcel (f, E2) B t j) H) : va_at D cl (x, mcel (f', E2) B' t j) H := by
  have r : ∀ j, j < 85 → rf (f, E2) (B + j) = rf (f', E2) (B' + j) := fun j hj => by unfold rf; exact congrArg Value.ref (hf j hj)
  rcases (show j = 0 ∨ j = 1 ∨ j = 2 ∨ j = 3 ∨ j = 4 ∨ j = 5 ∨ (∃ i, i < 4 ∧ j = 6 + i) ∨ (∃ i, i < 6 ∧ j = 10 + i) ∨ (∃ i, i < 30 ∧ j = 16 + i) ∨ (∃ i, i < 30 ∧ j = 46 + i) ∨ (∃ i, i < 9 ∧ j = 76 + i) by
    by_cases h1 : j < 6
    · omega
    · by_cases h2 : j < 10
      · exact Or.inr (Or.inr (Or.inr (Or.inr (Or.inr (Or.inr (Or.inl ⟨j - 6, by omega, by omega⟩))))))
      · by_cases h3 : j < 16
        · exact Or.inr (Or.inr (Or.inr (Or.inr (Or.inr (Or.inr (Or.inr (Or.inl ⟨j - 10, by omega, by omega⟩)))))))
        · by_cases h4 : j < 46
          · exact Or.inr (Or.inr (Or.inr (Or.inr (Or.inr (Or.inr (Or.inr (Or.inr (Or.inl ⟨j - 16, by omega, by omega⟩))))))))
          · by_cases h5 : j < 76
            · exact Or.inr (Or.inr (Or.inr (Or.inr (Or.inr (Or.inr (Or.inr (Or.inr (Or.inr (Or.inl ⟨j - 46, by omega, by omega⟩)))))))))
            · exact Or.inr (Or.inr (Or.inr (Or.inr (Or.inr (Or.inr (Or.inr (Or.inr (Or.inr (Or.inr ⟨j - 76, by omega, by omega⟩)))))))))) with rfl | rfl | rfl | rfl | rfl | rfl | ⟨i, hi, rfl⟩ | ⟨i, hi, rfl⟩ | ⟨i, hi, rfl⟩ | ⟨i, hi, rfl⟩ | ⟨i, hi, rfl⟩
  · have e : mcel (f, E2) B t 0 = mcel (f', E2) B' t 0 := by
      show (Sum.inr (3, oMc (f, E2) B t) : va_E) = .inr (3, oMc (f', E2) B' t)
      unfold oMc
      rw [r 1 (by omega), r 2 (by omega), r 3 (by omega), r 4 (by omega), r 5 (by omega)]
    rw [← e]; exact h
  · exact at_rq (fun i hi => congrArg some (hf (6 + i) (by omega))) h
  · exact at_rq (fun i hi => congrArg some (hf (10 + i) (by omega))) h
  · exact at_rq (fun i hi => congrArg some (hf (16 + i) (by omega))) h
  · exact at_rq (fun i hi => congrArg some (hf (76 + i) (by omega))) h
  · exact h
  · rw [mcR _ _ _ hi] at h ⊢; exact h
  · rw [mcA _ _ _ hi] at h ⊢; exact h
  · rw [mcJ _ _ _ hi] at h ⊢
    unfold oJb at h ⊢
    rw [r (46 + i) (by omega)] at h; exact h
  · rw [mcO _ _ _ hi] at h ⊢; exact h
  · rw [mcH] at h ⊢; exact h
def alW (x : Nat) (u : List Nat × List Nat) (y : Nat) (ml : List Nat) : List Nat := x :: y :: (ml ++ (u.1 ++ u.2))
section SW
variable {E2 : Nat → ClassId} {x y : Nat} {u : List Nat × List Nat} {ml : List Nat}
theorem alW_len (h1 : u.1.length = 85) (h2 : u.2.length = 85) (h3 : ml.length = 31) : (alW x u y ml).length = 203 := by
  simp [alW, h1, h2, h3]
theorem alW_md (h3 : ml.length = 31) {i : Nat} (hi : i < 31) : aD (alW x u y ml) (2 + i) = ml.getD i 0 := by
  rw [show 2 + i = i + 2 by omega]
  exact gdl (by omega)
theorem alW_0 (h1 : u.1.length = 85) (h3 : ml.length = 31) {j : Nat} (hj : j < 85) : aD (alW x u y ml) (33 + j) = aD u.1 j := by
  rw [show 33 + j = 31 + j + 2 by omega]
  exact (gdr h3).trans (gdl (by omega))
theorem alW_1 (h1 : u.1.length = 85) (h3 : ml.length = 31) {j : Nat} : aD (alW x u y ml) (118 + j) = aD u.2 j := by
  rw [show 118 + j = 31 + (85 + j) + 2 by omega]
  exact (gdr h3).trans (gdr h1)
theorem wld_fst (S : WW) {al : List Nat} (h : al.length = 203) : (wld (aD al, E2) S).map Prod.fst = al := by
  unfold wld
  rw [List.map_map]
  apply List.ext_getElem?
  intro i
  by_cases hi : i < 203
  · rw [List.getElem?_map, List.getElem?_range hi, gd_some (by omega)]
    rfl
  · rw [List.getElem?_eq_none (by simp; omega), List.getElem?_eq_none (by omega)]
theorem ml_map (h3 : ml.length = 31) : (List.range 31).map (fun i => ml.getD i 0) = ml := by
  apply List.ext_getElem?
  intro i
  by_cases hi : i < 31
  · rw [List.getElem?_map, List.getElem?_range hi, gd_some (by omega)]
    rfl
  · rw [List.getElem?_eq_none (by simp; omega), List.getElem?_eq_none (by omega)]
theorem sw_perm (S : WW) (h1 : u.1.length = 85) (h2 : u.2.length = 85) (h3 : ml.length = 31) : ((gmW E2 x u ++ mdW E2 y ml).map Prod.fst).Perm ((wld (aD (alW x u y ml), E2) S).map Prod.fst) := by
  rw [wld_fst S (alW_len h1 h2 h3)]
  unfold gmW mdW alW
  rw [List.map_append, List.map_cons, List.map_cons, List.map_append, mw_fst E2 h1, mw_fst E2 h2, List.map_map]
  rw [show (List.range 31).map (Prod.fst ∘ fun i => (ml.getD i 0, (Sum.inl (E2 (mdt i), mdl i, Sum.inl fun _ => 0) : va_E))) = ml from ml_map h3]
  show (x :: ((u.1 ++ u.2) ++ (y :: ml))).Perm (x :: ((y :: ml) ++ (u.1 ++ u.2)))
  exact List.Perm.cons _ List.perm_append_comm
theorem mdf_ge : ∀ a, a < 31 → 10 ≤ mdf a := by decide +kernel
def S0 : WW := fun _ => tS
theorem sw_P (h1 : u.1.length = 85) (h2 : u.2.length = 85) (h3 : ml.length = 31) {D : va_G} {H : Heap} (hP : va_P D classes (gmW E2 x u ++ mdW E2 y ml) H) : va_P D classes (wld (aD (alW x u y ml), E2) S0) H := by
  have at' := vP_mem.mp hP
  generalize hal : alW x u y ml = al
  have a0 : aD al 0 = x := by subst hal; rfl
  have a1 : aD al 1 = y := by subst hal; rfl
  have am : ∀ i, i < 31 → aD al (2 + i) = ml.getD i 0 := fun i hi => by rw [← hal]; exact alW_md h3 hi
  have aa : ∀ j, j < 85 → aD al (33 + j) = aD u.1 j := fun j hj => by rw [← hal]; exact alW_0 h1 h3 hj
  have ab : ∀ j, j < 85 → aD al (118 + j) = aD u.2 j := fun j hj => by rw [← hal]; exact alW_1 h1 h3
  refine vP_mem.mpr fun q hq => ?_
  obtain ⟨k, hk, rfl⟩ := List.mem_map.mp hq
  have hk := List.mem_range.mp hk
  rcases (show k = 0 ∨ k = 1 ∨ (∃ i, i < 31 ∧ k = 2 + i) ∨ (∃ j, j < 85 ∧ k = 33 + j) ∨ (∃ j, j < 85 ∧ k = 118 + j) by
    by_cases c1 : k < 2
    · omega
    · by_cases c2 : k < 33
      · exact Or.inr (Or.inr (Or.inl ⟨k - 2, by omega, by omega⟩))
      · by_cases c3 : k < 118
        · exact Or.inr (Or.inr (Or.inr (Or.inl ⟨k - 33, by omega, by omega⟩)))
        · exact Or.inr (Or.inr (Or.inr (Or.inr ⟨k - 118, by omega, by omega⟩)))) with rfl | rfl | ⟨i, hi, rfl⟩ | ⟨j, hj, rfl⟩ | ⟨j, hj, rfl⟩
  · have k := at' (x, .inr (5, [.ref (aD u.1 0), .ref (aD u.2 0)])) (List.mem_append_left _ List.mem_cons_self)
    rw [← aa 0 (by omega), ← ab 0 (by omega)] at k
    show va_at D classes (aD al 0, _) H
    rw [a0]
    exact k
  · have k := at' (y, .inr (6, mdL ml)) (List.mem_append_right _ List.mem_cons_self)
    have e : oMd (aD al, E2) (S0 2) = mdL ml := by
      have r : ∀ i, i < 31 → rf (aD al, E2) (2 + i) = .ref (ml.getD i 0) := fun i hi => congrArg Value.ref (am i hi)
      unfold oMd mdL
      rw [show rf (aD al, E2) 2 = _ from r 0 (by omega), show rf (aD al, E2) 3 = _ from r 1 (by omega), show rf (aD al, E2) 4 = _ from r 2 (by omega), show rf (aD al, E2) 5 = _ from r 3 (by omega), show rf (aD al, E2) 6 = _ from r 4 (by omega), show rf (aD al, E2) 7 = _ from r 5 (by omega), show rf (aD al, E2) 8 = _ from r 6 (by omega), show rf (aD al, E2) 9 = _ from r 7 (by omega), show rf (aD al, E2) 10 = _ from r 8 (by omega), show rf (aD al, E2) 11 = _ from r 9 (by omega), show rf (aD al, E2) 12 = _ from r 10 (by omega), show rf (aD al, E2) 13 = _ from r 11 (by omega), show rf (aD al, E2) 14 = _ from r 12 (by omega), show rf (aD al, E2) 15 = _ from r 13 (by omega), show rf (aD al, E2) 16 = _ from r 14 (by omega), show rf (aD al, E2) 17 = _ from r 15 (by omega), show rf (aD al, E2) 18 = _ from r 16 (by omega), show rf (aD al, E2) 19 = _ from r 17 (by omega), show rf (aD al, E2) 20 = _ from r 18 (by omega), show rf (aD al, E2) 21 = _ from r 19 (by omega), show rf (aD al, E2) 22 = _ from r 20 (by omega), show rf (aD al, E2) 23 = _ from r 21 (by omega), show rf (aD al, E2) 24 = _ from r 22 (by omega), show rf (aD al, E2) 25 = _ from r 23 (by omega), show rf (aD al, E2) 26 = _ from r 24 (by omega), show rf (aD al, E2) 27 = _ from r 25 (by omega), show rf (aD al, E2) 28 = _ from r 26 (by omega), show rf (aD al, E2) 29 = _ from r 27 (by omega), show rf (aD al, E2) 30 = _ from r 28 (by omega), show rf (aD al, E2) 31 = _ from r 29 (by omega), show rf (aD al, E2) 32 = _ from r 30 (by omega)]
      rfl
    show va_at D classes (aD al 1, .inr (6, oMd (aD al, E2) (S0 2))) H
    rw [a1, e]
    exact k
  · have k := at' (ml.getD i 0, .inl (E2 (mdt i), mdl i, .inl fun _ => 0)) (List.mem_append_right _ (List.mem_cons_of_mem _ (List.mem_map.mpr ⟨i, List.mem_range.mpr hi, rfl⟩)))
    show va_at D classes (aD al (2 + i), zcel (aD al, E2) S0 (kMd i)) H
    rw [am i hi, zMa hi, show S0 2 = tS from rfl, tS_ar (mdf_ge i hi)]
    exact k
  · have k := at' (aD u.1 j, mcel (aD u.1, E2) 0 tS j) (List.mem_append_left _ (List.mem_cons_of_mem _ (List.mem_append_left _ (List.mem_map.mpr ⟨j, List.mem_range.mpr hj, rfl⟩))))
    show va_at D classes (aD al (33 + j), zcel (aD al, E2) S0 (bs 0 + j)) H
    rw [aa j hj, zM (by omega) hj]
    exact mc_cg (fun j hj => by rw [Nat.zero_add]; exact (aa j hj).symm) hj k
  · have k := at' (aD u.2 j, mcel (aD u.2, E2) 0 tS j) (List.mem_append_left _ (List.mem_cons_of_mem _ (List.mem_append_right _ (List.mem_map.mpr ⟨j, List.mem_range.mpr hj, rfl⟩))))
    show va_at D classes (aD al (118 + j), zcel (aD al, E2) S0 (bs 1 + j)) H
    rw [ab j hj, zM (by omega) hj]
    exact mc_cg (fun j hj => by rw [Nat.zero_add]; exact (ab j hj).symm) hj k
theorem sw_E {A : Nat → Prop} (S : WW) (hD : va_D A (wld (aD (alW x u y ml), E2) S)) : EOk (aD (alW x u y ml), E2) ∧ ∀ k, k < 203 → A (aD (alW x u y ml) k) := by
  refine ⟨fun i j hi hj he => hD.1 i j _ _ (wld_at hi) (wld_at hj) he, fun k hk => hD.2 k _ (wld_at hk)⟩
end SW
theorem hi_0 (f : Nat) : 0 ≤ hi f := by
  by_cases h : f < 49
  · have k : ∀ f, f < 49 → 0 ≤ hi f := by decide +kernel
    exact k f h
  · unfold hi
    rw [List.getD_eq_getElem?_getD, List.getElem?_eq_none (by simp; omega)]
    decide
theorem lo_0 (f : Nat) : lo f ≤ 0 := by unfold lo; split <;> omega
theorem tS_bd : Bd tS := by
  intro f i _
  unfold tS
  by_cases h1 : i = 0 ∧ f = 5
  · rw [if_pos h1, h1.2]; decide
  rw [if_neg h1]
  by_cases h2 : i = 0 ∧ f = 6
  · rw [if_pos h2, h2.2]; decide
  rw [if_neg h2]
  by_cases h3 : i = 0 ∧ (f = 8 ∨ f = 9)
  · rw [if_pos h3]
    rcases h3.2 with rfl | rfl <;> decide
  rw [if_neg h3]
  exact ⟨lo_0 f, hi_0 f⟩
theorem tS_MR : MR tS tS := by
  have z0 : tS 0 0 = 0 := by decide
  have z1 : tS 1 0 = 0 := by decide
  have z2 : tS 2 0 = 0 := by decide
  have z3 : tS 3 0 = 0 := by decide
  have z4 : tS 4 0 = 0 := by decide
  have z5 : tS 5 0 = 100 := by decide
  have z7 : tS 7 0 = 0 := by decide
  refine ⟨⟨⟨⟨tS_bd, tS_bd⟩, ⟨rfl, rfl, rfl, rfl, rfl, rfl, ?_⟩, ?_, ?_, ?_, ?_, ?_, ⟨?_, ?_⟩, ⟨?_, ?_, ?_, ?_⟩⟩, rfl⟩, ⟨rfl, rfl⟩, ?_, ?_, ?_, ?_⟩
  · rw [z7, z0]; rfl
  · intro r hr; omega
  · intro r hr; omega
  · intro r hr; omega
  · intro r hr; omega
  · intro r hr; omega
  · intro r hr; omega
  · intro a r _ _ _; exact tS_z (by omega)
  · rw [z3]; omega
  · rw [z5]; omega
  · intro z; exact z.elim
  · intro _; exact tS_z (by omega)
  · rw [z4]; omega
  · intro j _ _
    exact ⟨tS_z (by omega), tS_z (by omega), tS_z (by omega), fun r _ => ⟨tS_z (by omega), tS_z (by omega)⟩⟩
  · intro r _ _; exact ⟨tS_z (by omega), tS_z (by omega)⟩
  · intro r _ _; exact ⟨tS_z (by omega), tS_z (by omega)⟩
theorem S0_Iv : Iv S0 := ⟨tS_MR, tS_bd⟩
