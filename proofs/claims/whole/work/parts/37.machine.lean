/-! CONSTRUCTORS: the cells of a new Machine, in the order of the world -/
def tS : TT := fun f i => if i = 0 ∧ f = 5 then 100 else if i = 0 ∧ f = 6 then 10 else if i = 0 ∧ (f = 8 ∨ f = 9) then -1 else 0
theorem tS_z {f i : Nat} (h : 10 ≤ f) : tS f i = 0 := by
  unfold tS
  rw [if_neg (by omega), if_neg (by omega), if_neg (by omega)]
theorem tS_ar {f : Nat} (h : 10 ≤ f) : ar tS f = fun _ => 0 := by
  funext i
  show Int32.ofInt (tS f i) = 0
  rw [tS_z h]
  rfl
def aD (al : List Nat) : Nat → Nat := fun k => al.getD k 0
def mw (E2 : Nat → ClassId) (al : List Nat) : va_W := (List.range 85).map (fun j => (aD al j, mcel (aD al, E2) 0 tS j))
theorem vP_mem {D : va_G} {cl : List vw_C} {ws : va_W} {H : Heap} : va_P D cl ws H ↔ ∀ q, q ∈ ws → va_at D cl q H := by
  constructor
  · intro h q hq
    obtain ⟨i, hi⟩ := List.getElem?_of_mem hq
    exact h i q hi
  · intro h i q hi
    exact h q (List.mem_of_getElem? hi)
theorem vD_mem {A : Nat → Prop} {ws : va_W} : va_D A ws ↔ (ws.map Prod.fst).Nodup ∧ ∀ x, x ∈ ws.map Prod.fst → A x := by
  constructor
  · intro h
    refine ⟨?_, fun x hx => ?_⟩
    · unfold List.Nodup
      rw [List.pairwise_iff_getElem]
      intro i j hi hj hij he
      rw [List.length_map] at hi hj
      rw [List.getElem_map, List.getElem_map] at he
      have := h.1 i j ws[i] ws[j] (List.getElem?_eq_getElem hi) (List.getElem?_eq_getElem hj) he
      omega
    · obtain ⟨q, hq, rfl⟩ := List.mem_map.mp hx
      obtain ⟨i, hi⟩ := List.getElem?_of_mem hq
      exact h.2 i q hi
  · rintro ⟨h1, h2⟩
    refine ⟨fun i j p q hp hq hpq => ?_, fun k q hq => h2 _ (List.mem_map.mpr ⟨q, List.mem_of_getElem? hq, rfl⟩)⟩
    unfold List.Nodup at h1
    rw [List.pairwise_iff_getElem] at h1
    obtain ⟨hi, ei⟩ := List.getElem?_eq_some_iff.mp hp
    obtain ⟨hj, ej⟩ := List.getElem?_eq_some_iff.mp hq
    rcases Nat.lt_trichotomy i j with z | z | z
    · exact absurd (show (ws.map Prod.fst)[i]'(by rw [List.length_map]; exact hi) = (ws.map Prod.fst)[j]'(by rw [List.length_map]; exact hj) by rw [List.getElem_map, List.getElem_map, ei, ej]; exact hpq) (h1 i j _ _ z)
    · exact z
    · exact absurd (show (ws.map Prod.fst)[j]'(by rw [List.length_map]; exact hj) = (ws.map Prod.fst)[i]'(by rw [List.length_map]; exact hi) by rw [List.getElem_map, List.getElem_map, ei, ej]; exact hpq.symm) (h1 j i _ _ z)
theorem vD_perm {A : Nat → Prop} {ws ws' : va_W} (h : (ws.map Prod.fst).Perm (ws'.map Prod.fst)) (hD : va_D A ws) : va_D A ws' := by
  obtain ⟨h1, h2⟩ := vD_mem.mp hD
  exact vD_mem.mpr ⟨h.nodup_iff.mp h1, fun x hx => h2 x (h.mem_iff.mpr hx)⟩
theorem arrV_cg {cA : ClassId} {n : Nat} {f f' : Nat → Value} (h : ∀ i, i < n → f i = f' i) : arrV cA n f = arrV cA n f' := by
  unfold arrV
  congr 2
  funext j
  exact h j.val j.isLt
theorem at_rq {D : va_G} {cl : List vw_C} {H : Heap} {x n : Nat} {cA : ClassId} {f f' : Nat → Option Nat} (hf : ∀ i, i < n → f i = f' i) (h : va_at D cl (x, .inl (cA, n, rq f)) H) : va_at D cl (x, .inl (cA, n, rq f')) H := by
  have h1 : H[x]? = some (vp_cell cA (n, rq f)) := h
  show H[x]? = some (vp_cell cA (n, rq f'))
  rw [h1]
  exact congrArg some (show arrV cA n (fun j => va_rf (f j)) = arrV cA n (fun j => va_rf (f' j)) from arrV_cg (fun i hi => by rw [hf i hi]))
theorem gdl {l m : List Nat} {i : Nat} (h : i < l.length) : (l ++ m).getD i 0 = l.getD i 0 := by
  simp [List.getD, List.getElem?_append_left h]
theorem gdr {l m : List Nat} {n i : Nat} (h : l.length = n) : (l ++ m).getD (n + i) 0 = m.getD i 0 := by
  subst h
  simp only [List.getD]
  rw [List.getElem?_append_right (by omega), Nat.add_sub_cancel_left]
theorem gd_at {l : List Nat} {i : Nat} (h : i < l.length) : l.getD i 0 = l[i] := by simp [List.getD, h]
theorem gd_mem {l : List Nat} {i : Nat} (h : i < l.length) : l.getD i 0 ∈ l := by rw [gd_at h]; exact List.getElem_mem h
theorem gd_some {l : List Nat} {i : Nat} (h : i < l.length) : l[i]? = some (l.getD i 0) := by rw [gd_at h]; exact List.getElem?_eq_getElem h
theorem mw_fst (E2 : Nat → ClassId) {al : List Nat} (h : al.length = 85) : (mw E2 al).map Prod.fst = al := by
  unfold mw
  rw [List.map_map]
  apply List.ext_getElem?
  intro i
  by_cases hi : i < 85
  · rw [List.getElem?_map, List.getElem?_range hi, gd_some (by omega)]
    rfl
  · rw [List.getElem?_eq_none (by simp; omega), List.getElem?_eq_none (by omega)]
theorem mcR (E : Ew) (B : Nat) (t : TT) {i : Nat} (hi : i < 4) : mcel E B t (6 + i) = .inr (4, oRk t i) := by
  unfold mcel; simp (disch := omega) only [if_neg, if_pos]; rw [show 6 + i - 6 = i by omega]
theorem mcA (E : Ew) (B : Nat) (t : TT) {i : Nat} (hi : i < 6) : mcel E B t (10 + i) = .inr (0, oAc t i) := by
  unfold mcel; simp (disch := omega) only [if_neg, if_pos]; rw [show 10 + i - 10 = i by omega]
theorem mcJ (E : Ew) (B : Nat) (t : TT) {i : Nat} (hi : i < 30) : mcel E B t (16 + i) = .inr (2, oJb E B t i) := by
  unfold mcel; simp (disch := omega) only [if_neg, if_pos]; rw [show 16 + i - 16 = i by omega]
theorem mcO (E : Ew) (B : Nat) (t : TT) {i : Nat} (hi : i < 30) : mcel E B t (46 + i) = .inl (E.2 0, 4, .inl (ar t (100 + i))) := by
  unfold mcel; simp (disch := omega) only [if_neg, if_pos]; rw [show 46 + i - 46 = i by omega]
theorem mcH (E : Ew) (B : Nat) (t : TT) {i : Nat} : mcel E B t (76 + i) = .inr (1, oHd t i) := by
  unfold mcel; simp (disch := omega) only [if_neg]; rw [show 76 + i - 76 = i by omega]
def alM (a aR aA aJ aH aQ : Nat) (lR lA : List Nat) (lJ : List (Nat × Nat)) (lH : List Nat) : List Nat := a :: aR :: aA :: aJ :: aH :: aQ :: (lR ++ (lA ++ (lJ.map Prod.fst ++ (lJ.map Prod.snd ++ lH))))
def wsM (E2 : Nat → ClassId) (a aR aA aJ aH aQ : Nat) (lR lA : List Nat) (lJ : List (Nat × Nat)) (lH : List Nat) : va_W := b6 E2 a aR aA aJ aH aQ (fl lR) (fl lA) (fl (lJ.map Prod.fst)) (fl lH) (((([] ++ lR.map bRk) ++ lA.map bAc) ++ lJ.flatMap (bJb E2)) ++ lH.map bHd)
section MW
variable {E2 : Nat → ClassId} {a aR aA aJ aH aQ : Nat} {lR lA : List Nat} {lJ : List (Nat × Nat)} {lH : List Nat}
theorem al_R (hR : lR.length = 4) {i : Nat} (hi : i < 4) : aD (alM a aR aA aJ aH aQ lR lA lJ lH) (6 + i) = lR.getD i 0 := by
  rw [show 6 + i = i + 6 by omega]
  exact gdl (by omega)
theorem al_A (hR : lR.length = 4) (hA : lA.length = 6) {i : Nat} (hi : i < 6) : aD (alM a aR aA aJ aH aQ lR lA lJ lH) (10 + i) = lA.getD i 0 := by
  rw [show 10 + i = 4 + i + 6 by omega]
  exact (gdr hR).trans (gdl (by omega))
theorem al_J (hR : lR.length = 4) (hA : lA.length = 6) (hJ : lJ.length = 30) {i : Nat} (hi : i < 30) : aD (alM a aR aA aJ aH aQ lR lA lJ lH) (16 + i) = (lJ.map Prod.fst).getD i 0 := by
  rw [show 16 + i = 4 + (6 + i) + 6 by omega]
  exact (gdr hR).trans ((gdr hA).trans (gdl (by rw [List.length_map]; omega)))
theorem al_O (hR : lR.length = 4) (hA : lA.length = 6) (hJ : lJ.length = 30) {i : Nat} (hi : i < 30) : aD (alM a aR aA aJ aH aQ lR lA lJ lH) (46 + i) = (lJ.map Prod.snd).getD i 0 := by
  rw [show 46 + i = 4 + (6 + (30 + i)) + 6 by omega]
  exact (gdr hR).trans ((gdr hA).trans ((gdr (by rw [List.length_map]; exact hJ)).trans (gdl (by rw [List.length_map]; omega))))
theorem al_H (hR : lR.length = 4) (hA : lA.length = 6) (hJ : lJ.length = 30) {i : Nat} : aD (alM a aR aA aJ aH aQ lR lA lJ lH) (76 + i) = lH.getD i 0 := by
  rw [show 76 + i = 4 + (6 + (30 + (30 + i))) + 6 by omega]
  exact (gdr hR).trans ((gdr hA).trans ((gdr (by rw [List.length_map]; exact hJ)).trans (gdr (by rw [List.length_map]; exact hJ))))
theorem bJ_perm : ∀ l : List (Nat × Nat), ((l.flatMap (bJb E2)).map Prod.fst).Perm (l.map Prod.fst ++ l.map Prod.snd) := by
  intro l
  induction l with
  | nil => exact List.Perm.refl _
  | cons p l ih =>
    show (p.1 :: p.2 :: (l.flatMap (bJb E2)).map Prod.fst).Perm (p.1 :: (l.map Prod.fst ++ p.2 :: l.map Prod.snd))
    exact List.Perm.cons _ ((List.Perm.cons _ ih).trans List.perm_middle.symm)
theorem fst_b {f : Nat → Nat × va_E} (hf : ∀ q, (f q).1 = q) : ∀ l : List Nat, (l.map f).map Prod.fst = l := by
  intro l
  rw [List.map_map]
  exact (List.map_congr_left (fun q _ => hf q)).trans (List.map_id l)
theorem wsM_perm : ((wsM E2 a aR aA aJ aH aQ lR lA lJ lH).map Prod.fst).Perm (alM a aR aA aJ aH aQ lR lA lJ lH) := by
  show (a :: aR :: aA :: aJ :: aH :: aQ :: (((([] ++ lR.map bRk) ++ lA.map bAc) ++ lJ.flatMap (bJb E2)) ++ lH.map bHd).map Prod.fst).Perm _
  unfold alM
  refine List.Perm.cons _ (List.Perm.cons _ (List.Perm.cons _ (List.Perm.cons _ (List.Perm.cons _ (List.Perm.cons _ ?_)))))
  rw [List.map_append, List.map_append, List.map_append, List.nil_append, fst_b (fun _ => rfl), fst_b (fun _ => rfl), fst_b (fun _ => rfl), List.append_assoc, List.append_assoc]
  refine List.Perm.append_left _ (List.Perm.append_left _ ?_)
  rw [← List.append_assoc (List.map Prod.fst lJ)]
  exact List.Perm.append_right _ (bJ_perm lJ)
theorem wsM_P (hR : lR.length = 4) (hA : lA.length = 6) (hJ : lJ.length = 30) (hH : lH.length = 9) {D : va_G} {H : Heap} (hP : va_P D classes (wsM E2 a aR aA aJ aH aQ lR lA lJ lH) H) : va_P D classes (mw E2 (alM a aR aA aJ aH aQ lR lA lJ lH)) H := by
  have at' := vP_mem.mp hP
  have mt : ∀ q, q ∈ lR.map bRk ∨ q ∈ lA.map bAc ∨ q ∈ lJ.flatMap (bJb E2) ∨ q ∈ lH.map bHd → va_at D classes q H := by
    intro q hq
    refine at' q ?_
    unfold wsM b6
    simp only [List.mem_cons, List.mem_append]
    rcases hq with q | q | q | q
    · exact Or.inr (Or.inr (Or.inr (Or.inr (Or.inr (Or.inr (Or.inl (Or.inl (Or.inl (Or.inr q)))))))))
    · exact Or.inr (Or.inr (Or.inr (Or.inr (Or.inr (Or.inr (Or.inl (Or.inl (Or.inr q))))))))
    · exact Or.inr (Or.inr (Or.inr (Or.inr (Or.inr (Or.inr (Or.inl (Or.inr q)))))))
    · exact Or.inr (Or.inr (Or.inr (Or.inr (Or.inr (Or.inr (Or.inr q))))))
  have e0 := hP 0 _ rfl
  have e1 := hP 1 _ rfl
  have e2 := hP 2 _ rfl
  have e3 := hP 3 _ rfl
  have e4 := hP 4 _ rfl
  have e5 := hP 5 _ rfl
  refine vP_mem.mpr fun q hq => ?_
  obtain ⟨j, hj, rfl⟩ := List.mem_map.mp hq
  have hj := List.mem_range.mp hj
  generalize hal : alM a aR aA aJ aH aQ lR lA lJ lH = al
  rcases (show j = 0 ∨ j = 1 ∨ j = 2 ∨ j = 3 ∨ j = 4 ∨ j = 5 ∨ (∃ i, i < 4 ∧ j = 6 + i) ∨ (∃ i, i < 6 ∧ j = 10 + i) ∨ (∃ i, i < 30 ∧ j = 16 + i) ∨ (∃ i, i < 30 ∧ j = 46 + i) ∨ (∃ i, i < 9 ∧ j = 76 + i) by
    by_cases h1 : j < 6
    · omega
    · by_cases h2 : j < 10
      · exact Or.inr (Or.inr (Or.inr (Or.inr (Or.inr (Or.inr (Or.inl ⟨j - 6, by omega, by omega⟩))))))
      · by_cases h3 : j < 16
        · exact Or.inr (Or.inr (Or.inr (Or.inr (Or.inr (Or.inr (Or.inr (Or.inl ⟨j - 10, by omega, by omega⟩)))))))
        · by_cases h4 : j < 46
          · exact Or.inr (Or.inr (Or.inr (Or.inr (Or.inr (Or.inr (Or.inr (Or.inr (Or.inl ⟨j - 16, by omega, by omega⟩))))))))
          · by_cases h5 : j < 76
            · exact Or.inr (Or.inr (Or.inr (Or.inr (Or.inr (Or.inr (Or.inr (Or.inr (Or.inr (Or.inl ⟨j - 46, by omega, by omega⟩)))))))))
            · exact Or.inr (Or.inr (Or.inr (Or.inr (Or.inr (Or.inr (Or.inr (Or.inr (Or.inr (Or.inr ⟨j - 76, by omega, by omega⟩)))))))))) with rfl | rfl | rfl | rfl | rfl | rfl | ⟨i, hi, rfl⟩ | ⟨i, hi, rfl⟩ | ⟨i, hi, rfl⟩ | ⟨i, hi, rfl⟩ | ⟨i, hi, rfl⟩
  · subst hal; exact e0
  · have f : ∀ i, i < 4 → fl lR i = some (aD al (0 + (6 + i))) := fun i hi => by
      rw [Nat.zero_add, ← hal, al_R hR hi]; exact gd_some (by omega)
    have k := at_rq f e1
    subst hal; exact k
  · have f : ∀ i, i < 6 → fl lA i = some (aD al (0 + (10 + i))) := fun i hi => by
      rw [Nat.zero_add, ← hal, al_A hR hA hi]; exact gd_some (by omega)
    have k := at_rq f e2
    subst hal; exact k
  · have f : ∀ i, i < 30 → fl (lJ.map Prod.fst) i = some (aD al (0 + (16 + i))) := fun i hi => by
      rw [Nat.zero_add, ← hal, al_J hR hA hJ hi]; exact gd_some (by rw [List.length_map]; omega)
    have k := at_rq f e3
    subst hal; exact k
  · have f : ∀ i, i < 9 → fl lH i = some (aD al (0 + (76 + i))) := fun i hi => by
      rw [Nat.zero_add, ← hal, al_H hR hA hJ]; exact gd_some (by omega)
    have k := at_rq f e4
    subst hal; exact k
  · have k := e5
    rw [← tS_ar (f := 11) (by omega)] at k
    subst hal; exact k
  · have k := mt (bRk (lR.getD i 0)) (Or.inl (List.mem_map.mpr ⟨_, gd_mem (by omega), rfl⟩))
    rw [mcR _ _ _ hi, ← hal, al_R hR hi]
    unfold oRk
    rw [tS_z (by omega), tS_z (by omega), tS_z (by omega)]
    exact k
  · have k := mt (bAc (lA.getD i 0)) (Or.inr (Or.inl (List.mem_map.mpr ⟨_, gd_mem (by omega), rfl⟩)))
    rw [mcA _ _ _ hi, ← hal, al_A hR hA hi]
    unfold oAc
    rw [tS_z (by omega), tS_z (by omega)]
    exact k
  · have hx : i < lJ.length := by omega
    have k := mt (lJ[i].1, .inr (2, j0 (.ref lJ[i].2))) (Or.inr (Or.inr (Or.inl (List.mem_flatMap.mpr ⟨lJ[i], List.getElem_mem hx, List.mem_cons_self⟩))))
    have e1 : (lJ.map Prod.fst).getD i 0 = lJ[i].1 := by rw [gd_at (by rw [List.length_map]; omega), List.getElem_map]
    have e2 : aD al (46 + i) = lJ[i].2 := by rw [← hal, al_O hR hA hJ hi, gd_at (by rw [List.length_map]; omega), List.getElem_map]
    rw [mcJ _ _ _ hi]
    have e3 : aD al (16 + i) = lJ[i].1 := by rw [← hal, al_J hR hA hJ hi, e1]
    rw [e3]
    unfold oJb rf
    rw [tS_z (by omega), tS_z (by omega), tS_z (by omega), tS_z (by omega), tS_z (by omega), tS_z (by omega), tS_z (by omega), tS_z (by omega), tS_z (by omega), tS_z (by omega), tS_z (by omega), tS_z (by omega), tS_z (by omega), show (aD al, E2).1 (0 + (46 + i)) = lJ[i].2 by rw [Nat.zero_add]; exact e2]
    exact k
  · have hx : i < lJ.length := by omega
    have k := mt (lJ[i].2, .inl (E2 0, 4, .inl fun _ => 0)) (Or.inr (Or.inr (Or.inl (List.mem_flatMap.mpr ⟨lJ[i], List.getElem_mem hx, List.mem_cons_of_mem _ List.mem_cons_self⟩))))
    have e2 : aD al (46 + i) = lJ[i].2 := by rw [← hal, al_O hR hA hJ hi, gd_at (by rw [List.length_map]; omega), List.getElem_map]
    rw [mcO _ _ _ hi, e2, tS_ar (by omega)]
    exact k
  · have k := mt (bHd (lH.getD i 0)) (Or.inr (Or.inr (Or.inr (List.mem_map.mpr ⟨_, gd_mem (by omega), rfl⟩))))
    rw [mcH, ← hal, al_H hR hA hJ]
    unfold oHd
    rw [tS_z (by omega), tS_z (by omega), tS_z (by omega), tS_z (by omega)]
    exact k
theorem alM_len (hR : lR.length = 4) (hA : lA.length = 6) (hJ : lJ.length = 30) (hH : lH.length = 9) : (alM a aR aA aJ aH aQ lR lA lJ lH).length = 85 := by
  simp [alM, hR, hA, hJ, hH]
end MW
theorem n_conv {g : va_W → Nat → Nat → Nat → LL → List Value → Prop} {ini : Prop} {own : String} {cc : ByteArray} {nL h mc ms : Nat} {l : Launch} {E2 : Nat → ClassId} {ws ws' : va_W} {k n pc : Nat} {L : LL} {st : List Value} (C : Cn g ini own cc nL h mc ms l E2) (hP' : ∀ (D : va_G) (H : Heap), va_P D classes ws H → va_P D classes ws' H) (hD' : ∀ A : Nat → Prop, va_D A ws → va_D A ws') (kk : g ws' k n pc L st) : g ws k n pc L st := by
  obtain ⟨p, e, R, s, mi, args, below, meth, c, Q, A, H0, D, hf, hm, hK, hT, hA, hR, hg⟩ := C
  exact (hg _ _ _ _ _ _).mpr fun H locs ls hP hD hS hL => (hg _ _ _ _ _ _).mp kk H locs ls (hP' D H hP) (hD' A hD) hS hL
set_option maxRecDepth 20000 in
set_option maxHeartbeats 4000000 in
theorem i_Mc {l : Launch} {E2 : Nat → ClassId} (a : Nat) : Ki l y_Mc_init b_Mc_init 2 2 84 679 E2 a (.inr (3, m0)) (fun al : List Nat => al.length = 85 ∧ aD al 0 = a) (mw E2) := by
  refine Ki_of rfl (by omega) rfl (fun g C ret => ?_)
  refine n_aload C d_Mc_init_0 rfl ?_
  refine n_obj C (by omega) ml_Mc_3 d_Mc_init_1 ?_
  refine n_aload C d_Mc_init_4 rfl ?_
  refine n_iconst C d_Mc_init_5 ?_
  refine n_newq C (N := 4) (k' := 1) (n' := 4) (j := 2) (by omega) rfl (fun s hs => hs.1.1) cl_Mc_9 (by decide) (by decide) (by omega) rfl (by omega) rfl (by omega) d_Mc_init_6 (fun aR => ?_)
  refine n_putF C inw_Mc ty_Mc tok_Mc nm_Mc rfl rfl 0 (by omega) lk_Mc_11 rfl rfl rfl (tok_Mc 0 (by omega)) rfl rfl (Nat.le_of_ble_eq_true rfl) d_Mc_init_9 ?_
  show g ((a, .inr (3, [.ref aR, .null, .null, .null, iv 0, iv 0, iv 0, iv 0, iv 0, iv 0, iv 0, iv 0, iv 0, iv 0, .null, iv 0])) :: [(aR, .inl (E2 2, 4, rq fun _ => none))]) 1 4 _ _ _
  refine n_aload C d_Mc_init_12 rfl ?_
  refine n_bipush C d_Mc_init_13 (by decide) ?_
  refine n_newq C (N := 6) (k' := 2) (n' := 10) (j := 3) (by omega) rfl (fun s hs => hs.1.2.1) cl_Mc_17 (by decide) (by decide) (by omega) rfl (by omega) rfl (by omega) d_Mc_init_15 (fun aA => ?_)
  refine n_putF C inw_Mc ty_Mc tok_Mc nm_Mc rfl rfl 1 (by omega) lk_Mc_19 rfl rfl rfl (tok_Mc 1 (by omega)) rfl rfl (Nat.le_of_ble_eq_true rfl) d_Mc_init_18 ?_
  show g ((a, .inr (3, [.ref aR, .ref aA, .null, .null, iv 0, iv 0, iv 0, iv 0, iv 0, iv 0, iv 0, iv 0, iv 0, iv 0, .null, iv 0])) :: [(aR, .inl (E2 2, 4, rq fun _ => none)), (aA, .inl (E2 3, 6, rq fun _ => none))]) 2 10 _ _ _
  refine n_aload C d_Mc_init_21 rfl ?_
  refine n_bipush C d_Mc_init_22 (by decide) ?_
  refine n_newq C (N := 30) (k' := 3) (n' := 40) (j := 4) (by omega) rfl (fun s hs => hs.1.2.2.1) cl_Mc_23 (by decide) (by decide) (by omega) rfl (by omega) rfl (by omega) d_Mc_init_24 (fun aJ => ?_)
  refine n_putF C inw_Mc ty_Mc tok_Mc nm_Mc rfl rfl 2 (by omega) lk_Mc_25 rfl rfl rfl (tok_Mc 2 (by omega)) rfl rfl (Nat.le_of_ble_eq_true rfl) d_Mc_init_27 ?_
  show g ((a, .inr (3, [.ref aR, .ref aA, .ref aJ, .null, iv 0, iv 0, iv 0, iv 0, iv 0, iv 0, iv 0, iv 0, iv 0, iv 0, .null, iv 0])) :: [(aR, .inl (E2 2, 4, rq fun _ => none)), (aA, .inl (E2 3, 6, rq fun _ => none)), (aJ, .inl (E2 4, 30, rq fun _ => none))]) 3 40 _ _ _
  refine n_aload C d_Mc_init_30 rfl ?_
  refine n_bipush C d_Mc_init_31 (by decide) ?_
  refine n_newq C (N := 9) (k' := 4) (n' := 49) (j := 5) (by omega) rfl (fun s hs => hs.1.2.2.2) cl_Mc_29 (by decide) (by decide) (by omega) rfl (by omega) rfl (by omega) d_Mc_init_33 (fun aH => ?_)
  refine n_putF C inw_Mc ty_Mc tok_Mc nm_Mc rfl rfl 3 (by omega) lk_Mc_31 rfl rfl rfl (tok_Mc 3 (by omega)) rfl rfl (Nat.le_of_ble_eq_true rfl) d_Mc_init_36 ?_
  show g ((a, .inr (3, [.ref aR, .ref aA, .ref aJ, .ref aH, iv 0, iv 0, iv 0, iv 0, iv 0, iv 0, iv 0, iv 0, iv 0, iv 0, .null, iv 0])) :: [(aR, .inl (E2 2, 4, rq fun _ => none)), (aA, .inl (E2 3, 6, rq fun _ => none)), (aJ, .inl (E2 4, 30, rq fun _ => none)), (aH, .inl (E2 5, 9, rq fun _ => none))]) 4 49 _ _ _
  refine n_aload C d_Mc_init_39 rfl ?_
  refine n_bipush C d_Mc_init_40 (by decide) ?_
  refine n_put C inw_Mc ty_Mc tok_Mc nm_Mc rfl rfl 9 (by omega) lk_Mc_35 rfl rfl (tok_Mc 9 (by omega)) rfl rfl (Nat.le_of_ble_eq_true rfl) d_Mc_init_42 ?_
  show g ((a, .inr (3, [.ref aR, .ref aA, .ref aJ, .ref aH, iv 0, iv 0, iv 0, iv 0, iv 0, iv 100, iv 0, iv 0, iv 0, iv 0, .null, iv 0])) :: [(aR, .inl (E2 2, 4, rq fun _ => none)), (aA, .inl (E2 3, 6, rq fun _ => none)), (aJ, .inl (E2 4, 30, rq fun _ => none)), (aH, .inl (E2 5, 9, rq fun _ => none))]) 4 49 _ _ _
  refine n_aload C d_Mc_init_45 rfl ?_
  refine n_bipush C d_Mc_init_46 (by decide) ?_
  refine n_put C inw_Mc ty_Mc tok_Mc nm_Mc rfl rfl 10 (by omega) lk_Mc_39 rfl rfl (tok_Mc 10 (by omega)) rfl rfl (Nat.le_of_ble_eq_true rfl) d_Mc_init_48 ?_
  show g ((a, .inr (3, [.ref aR, .ref aA, .ref aJ, .ref aH, iv 0, iv 0, iv 0, iv 0, iv 0, iv 100, iv 10, iv 0, iv 0, iv 0, .null, iv 0])) :: [(aR, .inl (E2 2, 4, rq fun _ => none)), (aA, .inl (E2 3, 6, rq fun _ => none)), (aJ, .inl (E2 4, 30, rq fun _ => none)), (aH, .inl (E2 5, 9, rq fun _ => none))]) 4 49 _ _ _
  refine n_aload C d_Mc_init_51 rfl ?_
  refine n_iconst C d_Mc_init_52 ?_
  refine n_put C inw_Mc ty_Mc tok_Mc nm_Mc rfl rfl 12 (by omega) lk_Mc_42 rfl rfl (tok_Mc 12 (by omega)) rfl rfl (Nat.le_of_ble_eq_true rfl) d_Mc_init_53 ?_
  show g ((a, .inr (3, [.ref aR, .ref aA, .ref aJ, .ref aH, iv 0, iv 0, iv 0, iv 0, iv 0, iv 100, iv 10, iv 0, iv (-1), iv 0, .null, iv 0])) :: [(aR, .inl (E2 2, 4, rq fun _ => none)), (aA, .inl (E2 3, 6, rq fun _ => none)), (aJ, .inl (E2 4, 30, rq fun _ => none)), (aH, .inl (E2 5, 9, rq fun _ => none))]) 4 49 _ _ _
  refine n_aload C d_Mc_init_56 rfl ?_
  refine n_iconst C d_Mc_init_57 ?_
  refine n_put C inw_Mc ty_Mc tok_Mc nm_Mc rfl rfl 13 (by omega) lk_Mc_45 rfl rfl (tok_Mc 13 (by omega)) rfl rfl (Nat.le_of_ble_eq_true rfl) d_Mc_init_58 ?_
  show g ((a, .inr (3, [.ref aR, .ref aA, .ref aJ, .ref aH, iv 0, iv 0, iv 0, iv 0, iv 0, iv 100, iv 10, iv 0, iv (-1), iv (-1), .null, iv 0])) :: [(aR, .inl (E2 2, 4, rq fun _ => none)), (aA, .inl (E2 3, 6, rq fun _ => none)), (aJ, .inl (E2 4, 30, rq fun _ => none)), (aH, .inl (E2 5, 9, rq fun _ => none))]) 4 49 _ _ _
  refine n_aload C d_Mc_init_61 rfl ?_
  refine n_bipush C d_Mc_init_62 (by decide) ?_
  refine n_newi C (N := 30) (k' := 5) (n' := 79) (by decide) (by decide) (by omega) rfl (by omega) rfl (by omega) d_Mc_init_64 (fun aQ => ?_)
  refine n_putF C inw_Mc ty_Mc tok_Mc nm_Mc rfl rfl 14 (by omega) lk_Mc_48 rfl rfl rfl (tok_Mc 14 (by omega)) rfl rfl (Nat.le_of_ble_eq_true rfl) d_Mc_init_66 ?_
  show g (b6 E2 a aR aA aJ aH aQ (fun _ => none) (fun _ => none) (fun _ => none) (fun _ => none) []) 5 79 _ _ _
  rw [fl_nil]
  refine n_iconst C d_Mc_init_69 ?_
  refine n_istore_1 C d_Mc_init_70 ?_
  refine lp_Rk C (by omega) (k0 := 5) (n0 := 79) (tl := []) (by omega) (by omega) (fun lR hR => ?_) 4 [] rfl
  refine n_iconst C d_Mc_init_95 ?_
  refine n_istore_1 C d_Mc_init_96 ?_
  refine Eq.mp (congrArg (fun w => g (b6 E2 a aR aA aJ aH aQ (fl lR) (fl []) (fl []) (fl []) w) _ _ _ _ _) (List.append_nil _)) (lp_Ac C (by omega) (k0 := 9) (n0 := 91) (tl := [] ++ lR.map bRk) (by omega) (by omega) (fun lA hA => ?_) 6 [] rfl)
  refine n_iconst C d_Mc_init_122 ?_
  refine n_istore_1 C d_Mc_init_123 ?_
  refine Eq.mp (congrArg (fun w => g (b6 E2 a aR aA aJ aH aQ (fl lR) (fl lA) (fl []) (fl []) w) _ _ _ _ _) (List.append_nil _)) (lp_Jb C (by omega) (k0 := 15) (n0 := 103) (tl := [] ++ lR.map bRk ++ lA.map bAc) (by omega) (by omega) (fun lJ hJ => ?_) 30 [] rfl)
  refine n_iconst C d_Mc_init_149 ?_
  refine n_istore_1 C d_Mc_init_150 ?_
  refine Eq.mp (congrArg (fun w => g (b6 E2 a aR aA aJ aH aQ (fl lR) (fl lA) (fl (lJ.map Prod.fst)) (fl []) w) _ _ _ _ _) (List.append_nil _)) (lp_Hd C (by omega) (k0 := 75) (n0 := 643) (tl := [] ++ lR.map bRk ++ lA.map bAc ++ lJ.flatMap (bJb E2)) (by omega) (by omega) (fun lH hH => ?_) 9 [] rfl)
  refine n_conv (ws' := mw E2 (alM a aR aA aJ aH aQ lR lA lJ lH)) C (fun D H hP => wsM_P hR hA hJ hH hP) (fun A hD => vD_perm ?_ hD) (ret _ _ _ ⟨alM_len hR hA hJ hH, rfl⟩ d_Mc_init_176)
  rw [mw_fst E2 (alM_len hR hA hJ hH)]
  exact wsM_perm
def gmW (E2 : Nat → ClassId) (a : Nat) (u : List Nat × List Nat) : va_W := (a, .inr (5, [.ref (aD u.1 0), .ref (aD u.2 0)])) :: (mw E2 u.1 ++ mw E2 u.2)
theorem i_Gm {l : Launch} {E2 : Nat → ClassId} (a : Nat) : Ki l y_Gm_init b_Gm_init 1 3 170 1390 E2 a (.inr (5, [.null, .null])) (fun u : List Nat × List Nat => u.1.length = 85 ∧ u.2.length = 85) (gmW E2 a) := by
  refine Ki_of rfl (by omega) rfl (fun g C ret => ?_)
  refine n_aload C d_Gm_init_0 rfl ?_
  refine n_obj C (by omega) ml_Gm_1 d_Gm_init_1 ?_
  refine n_aload C d_Gm_init_4 rfl ?_
  refine n_new C (k' := 85) (n' := 695) (fs := m0) (hB := 2) (mB := 84) (sB := 679) (w1 := fun _ u => mw E2 u) inw_Mc ty_Mc tok_Mc cl_Gm_7 ins_Mc mi_Mc_init rfl d_Mc0 (fun a => i_Mc a) (by omega) (by omega) rfl rfl (Or.inl ml_Gm_9) mn_Mc_init mc_Mc_init (by decide +kernel) (by omega) (by omega) (by omega) (by omega) (Nat.le_of_ble_eq_true rfl) d_Gm_init_5 d_Gm_init_8 d_Gm_init_9 (fun q u hu => ?_)
  refine n_putF C inw_Gm ty_Gm tok_Gm nm_Gm rfl rfl 0 (by omega) lk_Gm_10 rfl rfl rfl (tok_Gm 0 (by omega)) rfl rfl (Nat.le_of_ble_eq_true rfl) d_Gm_init_12 ?_
  show g ((a, .inr (5, [.ref q, .null])) :: mw E2 u) _ _ _ _ _
  refine n_aload C d_Gm_init_15 rfl ?_
  refine n_new C (k' := 170) (n' := 1390) (fs := m0) (hB := 2) (mB := 84) (sB := 679) (w1 := fun _ u => mw E2 u) inw_Mc ty_Mc tok_Mc cl_Gm_7 ins_Mc mi_Mc_init rfl d_Mc0 (fun a => i_Mc a) (by omega) (by omega) rfl rfl (Or.inl ml_Gm_9) mn_Mc_init mc_Mc_init (by decide +kernel) (by omega) (by omega) (by omega) (by omega) (Nat.le_of_ble_eq_true rfl) d_Gm_init_16 d_Gm_init_19 d_Gm_init_20 (fun q2 u2 hu2 => ?_)
  refine n_putF C inw_Gm ty_Gm tok_Gm nm_Gm rfl rfl 1 (by omega) lk_Gm_16 rfl rfl rfl (tok_Gm 1 (by omega)) rfl rfl (Nat.le_of_ble_eq_true rfl) d_Gm_init_23 ?_
  show g ((a, .inr (5, [.ref q, .ref q2])) :: (mw E2 u ++ mw E2 u2)) _ _ _ _ _
  rw [← hu.2, ← hu2.2]
  exact ret (u, u2) _ _ ⟨hu.1, hu2.1⟩ d_Gm_init_26
