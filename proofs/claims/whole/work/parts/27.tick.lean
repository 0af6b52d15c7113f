/-! PURE: a tick on both sides -/
def Rl (b : Prop) (X M : TT) : Prop := Rc b (fun _ => M 4 0) X M ∧ X 3 0 = M 3 0
/-- what a tick leaves alone -/
theorem tkM_ne {M : TT} {f a : Nat} (h : f ≠ 30 ∧ f ≠ 24 ∧ f ≠ 25 ∧ f ≠ 26 ∧ f ≠ 35 ∧ f ≠ 36 ∧ f ≠ 39 ∧ f ≠ 40 ∧ f ≠ 48 ∧ f ≠ 8 ∧ f ≠ 9 ∧ f ≠ 37 ∧ f ≠ 10 ∧ f ≠ 11 ∧ f ≠ 16 ∧ f ≠ 4) : tkM M f a = M f a := by
  have e5 : tk5 M f a = M f a := by
    unfold tk5 tk4 tk3 tk2 fdF tk1
    rw [tu_ne (by omega), mrF_ne (by omega), mtF_ne (by omega), fd_ne (by omega), fqF_ne (by omega) (by omega)]
  unfold tkM mcF
  split
  · unfold hv1; rw [if_neg (by omega)]; exact e5
  · exact e5
theorem run_all {b : Prop} {s z : TT} (h : Rc b (fun _ => z 4 0) s z) : ∀ i : Nat, (i : Int) ≤ z 2 0 → Rc b (fun j => if j < i then z 4 0 + 1 else z 4 0) (rjF s b i) (mrF z i) := by
  intro i
  induction i with
  | zero => intro _; exact h
  | succ i ih =>
    intro hi
    have h1 := ih (by omega)
    have e2 : mrF z i 2 0 = z 2 0 := mrF_ne (by omega) i
    have e4 : mrF z i 4 0 = z 4 0 := mrF_ne (by omega) i
    have h2 := run_step h1 (i := i) (by omega) (by rw [if_neg (by omega), e4])
    rw [rjF_s, mrF_s]
    have et : (fun j => if j = i then mrF z i 4 0 + 1 else (if j < i then z 4 0 + 1 else z 4 0)) = (fun j => if j < i + 1 then z 4 0 + 1 else z 4 0) := by
      funext j
      rw [e4]
      by_cases q : j = i
      · rw [if_pos q, if_pos (by omega)]
      · rw [if_neg q]
        by_cases q2 : j < i
        · rw [if_pos q2, if_pos (by omega)]
        · rw [if_neg q2, if_neg (by omega)]
    rw [et] at h2
    exact h2
theorem Rc_tm {b : Prop} {tm tm' : Nat → Int} {s z : TT} (h : Rc b tm s z) (ht : ∀ j : Nat, (j : Int) < z 2 0 → tm' j = tm j) : Rc b tm' s z :=
  ⟨h.1, h.2.1, h.2.2.1, h.2.2.2.1, h.2.2.2.2.1, h.2.2.2.2.2.1, fun j hj => by rw [ht j hj]; exact h.2.2.2.2.2.2.1 j hj, h.2.2.2.2.2.2.2⟩
theorem hv_Rc {b : Prop} {tm : Nat → Int} {s z : TT} (h : Rc b tm s z) : Rc b tm (hvF s) (hv1 z (z 1 0).toNat) := by
  obtain ⟨⟨hBs, hBz⟩, ⟨e0, e1, e2, e4, e5, e6, e7⟩, hRR, hRA, hJ, hH, hI, hIR, hIS⟩ := h
  have hb : ∀ (t : TT) (n : Nat), Bd t → Bd (hv1 t n) := fun t n hB f a hf => by rw [hv1_ne (Or.inl hf.1)]; exact hB f a hf
  refine ⟨⟨hb _ _ hBs, hb _ _ hBz⟩, ⟨e0, e1, e2, e4, e5, e6, e7⟩, hRR, ?_, ?_, hH, hI, hIR, hIS⟩
  · intro a ha
    have ha' : (a : Int) < z 1 0 := ha
    obtain ⟨a1, a2⟩ := hRA a ha'
    refine ⟨a1, ?_⟩
    unfold hvF hv1
    rw [e1, if_pos ⟨rfl, by omega⟩, if_pos ⟨rfl, by omega⟩, a2]
  · intro j hj
    obtain ⟨y1, y2, y3, y4⟩ := hJ j hj
    refine ⟨fun f hf1 hf2 => ?_, y2, y3, fun r hr => ?_⟩
    · unfold hvF; rw [hv1_ne (by omega), hv1_ne (by omega)]; exact y1 f hf1 hf2
    · unfold hvF; rw [hv1_ne (by omega), hv1_ne (by omega)]; exact y4 r hr
theorem time_Rc {b : Prop} {tm : Nat → Int} {s z : TT} (h : Rc b tm s z) (hc : z 4 0 ≤ 2400) : Rc b tm (tu s 4 0 (s 4 0 + 1)) (tu z 4 0 (z 4 0 + 1)) := by
  obtain ⟨⟨hBs, hBz⟩, ⟨e0, e1, e2, e4, e5, e6, e7⟩, hRR, hRA, hJ, hH, hI, hIR, hIS⟩ := h
  have b4 := bd4 hBz 0
  refine ⟨⟨bd_tu hBs (fun _ => by show (0 : Int) ≤ s 4 0 + 1 ∧ s 4 0 + 1 ≤ 2500; omega), bd_tu hBz (fun _ => by show (0 : Int) ≤ z 4 0 + 1 ∧ z 4 0 + 1 ≤ 2500; omega)⟩, ⟨e0, e1, e2, by rw [tu_eq, tu_eq, e4], e5, e6, e7⟩, hRR, hRA, ?_, hH, hI, hIR, hIS⟩
  intro j hj
  obtain ⟨y1, y2, y3, y4⟩ := hJ j hj
  refine ⟨fun f hf1 hf2 => ?_, y2, y3, fun r hr => ?_⟩
  · rw [tu_ne (by omega), tu_ne (by omega)]; exact y1 f hf1 hf2
  · rw [tu_ne (by omega), tu_ne (by omega)]; exact y4 r hr
theorem tick_ok {b : Prop} {X M : TT} (h : Rl b X M) (ht : M 4 0 ≤ 2400) : tkI M ∧ ptI X b ∧ Rl b (ptF X b) (tkM M) ∧ ptF X b 8 0 = tkM M 8 0 ∧ ptF X b 9 0 = tkM M 9 0 ∧ tkM M 4 0 = M 4 0 + 1 := by
  obtain ⟨hR, h3⟩ := h
  obtain ⟨⟨hBX, hBM⟩, ⟨e0, e1, e2, e4, e5, e6, e7⟩, _, _, _, _, _, _, hIS⟩ := id hR
  have b2 := bd2 hBM 0
  have b4 := bd4 hBM 0
  -- the queue
  have hs0 : pt1 X = lnF X (M 2 0).toNat := by unfold pt1; rw [e2]
  have hz0 : tk1 M = fqF M (M 2 0).toNat := rfl
  have iX := lnF_inv hBX (M 2 0).toNat (by omega)
  have iM := fqF_inv hBM (M 2 0).toNat (by omega)
  have hQ := QL_all hR (M 2 0).toNat (by omega)
  obtain ⟨s0, es0⟩ : ∃ s0, s0 = pt1 X := ⟨_, rfl⟩
  obtain ⟨z0, ez0⟩ : ∃ z0, z0 = tk1 M := ⟨_, rfl⟩
  rw [← hs0, ← es0] at iX
  rw [← hz0, ← ez0] at iM
  rw [← hs0, ← hz0, ← es0, ← ez0] at hQ
  have ns0 : ∀ f a, f ≠ 11 → f ≠ 10 → s0 f a = X f a := fun f a q1 q2 => by rw [es0, hs0]; exact lnF_ne q1 q2 _
  have nz0 : ∀ f a, f ≠ 11 → f ≠ 10 → z0 f a = M f a := fun f a q1 q2 => by rw [ez0, hz0]; exact fqF_ne q1 q2 _
  have R0 : Rc b (fun _ => M 4 0) s0 z0 := Rc_congr hR iX.1 iM.1 (fun f a q _ => ns0 f a (by omega) (by omega)) (fun f a q => nz0 f a (by unfold zok at q; omega) (by unfold zok at q; omega))
  -- taken from now on
  obtain ⟨z1, ez1⟩ : ∃ z1, z1 = tk2 M := ⟨_, rfl⟩
  have ez1' : z1 = fdF z0 := by rw [ez1, ez0]; rfl
  have nz1 : ∀ f a, f ≠ 48 → f ≠ 39 → f ≠ 40 → z1 f a = z0 f a := fun f a q1 q2 q3 => by rw [ez1']; unfold fdF; rw [fd_ne (by omega)]
  have hBz1 : Bd z1 := by
    intro f a hf
    rw [ez1']
    unfold fdF fd
    split
    · rename_i q; rw [q.1]
      have := roomF_bd iM.1 (n := (z0 0 0).toNat) (by have := bd0 iM.1 0; omega)
      show (0 : Int) ≤ _ ∧ _ ≤ (64 : Int); omega
    split
    · rename_i q; rw [q.1]
      have := tnM_bd iM.1 (z0 4 0 + a)
      show (0 : Int) ≤ tnM z0 (z0 4 0 + a) ∧ tnM z0 (z0 4 0 + a) ≤ (4000 : Int); omega
    split
    · rename_i q; rw [q.1]
      have := tlM_bd iM.1 (z0 4 0 + a)
      show (0 : Int) ≤ tlM z0 (z0 4 0 + a) (z0 2 0).toNat ∧ tlM z0 (z0 4 0 + a) (z0 2 0).toNat ≤ (4000 : Int); omega
    · exact iM.1 f a hf
  -- nothing blocked yet
  have hsv0 : SV b (svF s0 0) (mtF z1 0) := by
    have ns : ∀ f a, f ≠ 8 → f ≠ 9 → svF s0 0 f a = s0 f a := fun f a q1 q2 => by unfold svF; rw [tu_ne (by omega), tu_ne (by omega)]
    have nz : ∀ f a, f ≠ 8 → f ≠ 9 → mtF z1 0 f a = z1 f a := fun f a q1 q2 => by unfold mtF; rw [tu_ne (by omega), tu_ne (by omega)]
    have hBa : Bd (svF s0 0) := bd_tu (bd_tu iX.1 (fun _ => by show (-1 : Int) ≤ -1 ∧ (-1 : Int) ≤ 29; omega)) (fun _ => by show (-1 : Int) ≤ -1 ∧ (-1 : Int) ≤ 3000; omega)
    have hBb : Bd (mtF z1 0) := bd_tu (bd_tu hBz1 (fun _ => by show (-1 : Int) ≤ -1 ∧ (-1 : Int) ≤ 29; omega)) (fun _ => by show (-1 : Int) ≤ -1 ∧ (-1 : Int) ≤ 3000; omega)
    have z4 : mtF z1 0 4 0 = M 4 0 := by rw [nz 4 0 (by omega) (by omega), nz1 4 0 (by omega) (by omega) (by omega), nz0 4 0 (by omega) (by omega)]
    have e8 : svF s0 0 8 0 = -1 := by unfold svF; rw [tu_ne (by omega), tu_eq]
    have m8 : mtF z1 0 8 0 = -1 := by unfold mtF; rw [tu_ne (by omega), tu_eq]
    refine ⟨?_, ?_, ?_, ?_, ?_, ?_, ?_⟩
    · rw [z4]
      exact Rc_congr R0 hBa hBb (fun f a q _ => ns f a (by omega) (by omega)) (fun f a q => by
        unfold zok at q
        rw [nz f a (by omega) (by omega), nz1 f a (by omega) (by omega) (by omega)])
    · rw [e8, m8]
    · unfold svF mtF; rw [tu_eq, tu_eq]
    · have t1 : ∀ u, tnM (mtF z1 0) u = tnM z0 u := fun u => by rw [ez1']; rfl
      have t2 : ∀ u n, tlM (mtF z1 0) u n = tlM z0 u n := fun u n => by rw [ez1']; rfl
      have t3 : ∀ n, roomF (mtF z1 0) n = roomF z0 n := fun n => by rw [ez1']; rfl
      refine ⟨fun a ha => ?_, ?_⟩
      · rw [t1, t2, nz 39 a (by omega) (by omega), nz 40 a (by omega) (by omega), nz 4 0 (by omega) (by omega), nz 2 0 (by omega) (by omega), nz1 4 0 (by omega) (by omega) (by omega), nz1 2 0 (by omega) (by omega) (by omega), ez1']
        exact ⟨fd_39 ha, fd_40 ha⟩
      · rw [t3, nz 48 0 (by omega) (by omega), nz 0 0 (by omega) (by omega), nz1 0 0 (by omega) (by omega) (by omega), ez1']
        unfold fdF fd; rw [if_pos ⟨rfl, rfl⟩]
    · intro _; rw [ns 3 0 (by omega) (by omega), nz 3 0 (by omega) (by omega), nz1 3 0 (by omega) (by omega) (by omega), nz0 3 0 (by omega) (by omega), ns0 3 0 (by omega) (by omega)]; exact h3
    · intro q; exact absurd m8 q
    · intro q; exact absurd m8 q
  -- the queue is served
  have z10 : z1 10 0 = z0 10 0 := nz1 10 0 (by omega) (by omega) (by omega)
  have hN : (s0 10 0).toNat = (z1 10 0).toNat := by rw [z10, hQ.1]
  have hsv := sv_all (n := (z1 10 0).toNat) hsv0 (fun a ha => by
    rw [z10] at ha
    obtain ⟨g1, g2, g3, g4⟩ := hQ.2.2 a ha
    have n11 : ∀ a, z1 11 a = z0 11 a := fun a => nz1 11 a (by omega) (by omega) (by omega)
    rw [n11, nz1 2 0 (by omega) (by omega) (by omega), nz0 2 0 (by omega) (by omega), nz1 24 _ (by omega) (by omega) (by omega)]
    exact ⟨g1, ⟨g2.1, by omega⟩, g3, fun c hc => by rw [n11]; exact g4 c hc⟩)
  have hfin := (hsv (z1 10 0).toNat (Nat.le_refl _)).1
  obtain ⟨z3, ez3⟩ : ∃ z3, z3 = tk3 M := ⟨_, rfl⟩
  have ez3' : z3 = mtF z1 (z1 10 0).toNat := by rw [ez3, ez1]; rfl
  obtain ⟨s3, es3⟩ : ∃ s3, s3 = pt2 X := ⟨_, rfl⟩
  have es3' : s3 = tu (svF s0 (z1 10 0).toNat) 3 0 (s0 3 0) := by rw [es3, ← hN, es0]; rfl
  rw [← ez3'] at hfin
  have z34 : z3 4 0 = M 4 0 := by rw [ez3', mtF_ne (by omega), nz1 4 0 (by omega) (by omega) (by omega), nz0 4 0 (by omega) (by omega)]
  have z32 : z3 2 0 = M 2 0 := by rw [ez3', mtF_ne (by omega), nz1 2 0 (by omega) (by omega) (by omega), nz0 2 0 (by omega) (by omega)]
  have z33 : z3 3 0 = M 3 0 := by rw [ez3', mtF_ne (by omega), nz1 3 0 (by omega) (by omega) (by omega), nz0 3 0 (by omega) (by omega)]
  have s33 : s3 3 0 = M 3 0 := by rw [es3', tu_eq, ns0 3 0 (by omega) (by omega)]; exact h3
  have hB3 : Bd s3 := by
    rw [es3']
    exact bd_tu hfin.1.1.1 (fun _ => by have := bd3 iX.1 0; exact this)
  have R3 : Rc b (fun _ => z3 4 0) s3 z3 := Rc_congr hfin.1 hB3 hfin.1.1.2 (fun f a q _ => by rw [es3', tu_ne (by omega)]) (fun _ _ _ => rfl)
  have k8 : s3 8 0 = z3 8 0 := by rw [es3', tu_ne (by omega)]; exact hfin.2.1
  have k9 : s3 9 0 = z3 9 0 := by rw [es3', tu_ne (by omega)]; exact hfin.2.2.1
  -- the jobs run
  have hrun := run_all R3
  have s32 : s3 2 0 = z3 2 0 := R3.2.1.2.2.1
  have R4 := Rc_tm (tm' := fun _ => z3 4 0 + 1) (hrun (z3 2 0).toNat (by omega)) (fun j hj => by
    rw [mrF_ne (by omega)] at hj
    rw [if_pos (by omega)])
  have z44 : mrF z3 (z3 2 0).toNat 4 0 = z3 4 0 := mrF_ne (by omega) _
  have R5 := time_Rc R4 (by omega)
  obtain ⟨s5, es5⟩ : ∃ s5, s5 = pt4 X b := ⟨_, rfl⟩
  obtain ⟨z5, ez5⟩ : ∃ z5, z5 = tk5 M := ⟨_, rfl⟩
  have es5' : s5 = tu (rjF s3 b (z3 2 0).toNat) 4 0 (rjF s3 b (z3 2 0).toNat 4 0 + 1) := by rw [es5, ← s32, es3]; rfl
  have ez5' : z5 = tu (mrF z3 (z3 2 0).toNat) 4 0 (mrF z3 (z3 2 0).toNat 4 0 + 1) := by rw [ez5, ez3]; rfl
  rw [← es5', ← ez5'] at R5
  have z54 : z5 4 0 = M 4 0 + 1 := by rw [ez5', tu_eq, z44, z34]
  have z55 : 1 ≤ z5 5 0 := R5.2.2.2.2.2.2.2.2.2.1
  have x54 : s5 4 0 = z5 4 0 := R5.2.1.2.2.2.1
  have x55 : s5 5 0 = z5 5 0 := R5.2.1.2.2.2.2.1
  have z53 : z5 3 0 = M 3 0 := by rw [ez5', tu_ne (by omega), mrF_ne (by omega), z33]
  have s53 : s5 3 0 = M 3 0 := by rw [es5', tu_ne (by omega), rjF_ne (by omega), s33]
  have p8 : s5 8 0 = z5 8 0 := by rw [es5', ez5', tu_ne (by omega), tu_ne (by omega), rjF_ne (by omega), mrF_ne (by omega), k8]
  have p9 : s5 9 0 = z5 9 0 := by rw [es5', ez5', tu_ne (by omega), tu_ne (by omega), rjF_ne (by omega), mrF_ne (by omega), k9]
  have R5' : Rc b (fun _ => M 4 0 + 1) s5 z5 := by rw [z34] at R5; exact R5
  refine ⟨⟨hBM, hIS.1, ?_, ?_, ?_, ?_, ?_, ?_⟩, ⟨hBX, ?_, ?_, ?_, ?_, ?_⟩, ?_, ?_, ?_, ?_⟩
  · rw [← ez0]; exact ⟨iM.1, by rw [nz0 3 0 (by omega) (by omega)]; exact hIS.1⟩
  · rw [← ez1]; exact hBz1
  · rw [← ez1]
    intro i hi
    obtain ⟨v1, v2, v3⟩ := hsv i hi
    refine ⟨v1.1.1.2, bd11 v1.1.1.2 i, fun hin => ?_⟩
    have n11 : mtF z1 i 11 i = z1 11 i := mtF_ne (by omega) i
    have hr := hQ.2.2 i (by rw [← z10]; exact hin)
    have e11 : z1 11 i = z0 11 i := nz1 11 i (by omega) (by omega) (by omega)
    have n2 : mtF z1 i 2 0 = M 2 0 := by rw [mtF_ne (by omega), nz1 2 0 (by omega) (by omega) (by omega), nz0 2 0 (by omega) (by omega)]
    rw [n11]
    have hI := (v1.1.2.2.2.2.2.2.1 (z1 11 i).toNat (by have := hr.2.1; omega)).1
    exact ⟨by have := hI.2.1; have := hI.2.2.1; omega, fun _ => v3 hin⟩
  · rw [← ez3]
    intro i hi
    exact (hrun i (by omega)).1.2
  · rw [← ez5]; exact R5.1.2
  · rw [← ez5]; exact z55
  · rw [← es0]; exact iX.1
  · rw [← es0]
    intro i hi
    obtain ⟨v1, _, _⟩ := hsv i (by omega)
    exact ⟨v1.1.1.1, bd11 v1.1.1.1 i⟩
  · rw [← es3]; exact hB3
  · rw [← es3]
    intro i hi
    have hB := (hrun i (by omega)).1.1
    exact ⟨hB, ranF_ir hB i⟩
  · rw [← es5]; exact R5.1.1
  · have hF : ptF X b = pif (0 < s5 5 0 ∧ s5 4 0 % s5 5 0 = 0) (hvF s5) s5 := by unfold ptF; rw [← es5]
    have hM : tkM M = if z5 4 0 % z5 5 0 = 0 then hv1 z5 (z5 1 0).toNat else z5 := by unfold tkM mcF; rw [← ez5]
    rw [hF, hM, x54, x55]
    unfold Rl
    by_cases c : z5 4 0 % z5 5 0 = 0
    · rw [pif_t ⟨by omega, c⟩, if_pos c, hv1_ne (show (4 : Nat) ≠ 16 ∨ _ from Or.inl (by decide)), hv1_ne (show (3 : Nat) ≠ 16 ∨ _ from Or.inl (by decide)), z54]
      refine ⟨hv_Rc R5', ?_⟩
      unfold hvF
      rw [hv1_ne (Or.inl (by decide)), s53, z53]
    · rw [pif_f (fun w => c w.2), if_neg c, z54, s53, z53]
      exact ⟨R5', rfl⟩
  · have hF : ptF X b 8 0 = s5 8 0 := by
      unfold ptF; rw [← es5]
      by_cases c : 0 < s5 5 0 ∧ s5 4 0 % s5 5 0 = 0
      · rw [pif_t c]; unfold hvF; rw [hv1_ne (Or.inl (by decide))]
      · rw [pif_f c]
    have hM : tkM M 8 0 = z5 8 0 := by
      unfold tkM mcF; rw [← ez5]
      split
      · rw [hv1_ne (Or.inl (by decide))]
      · rfl
    rw [hF, hM, p8]
  · have hF : ptF X b 9 0 = s5 9 0 := by
      unfold ptF; rw [← es5]
      by_cases c : 0 < s5 5 0 ∧ s5 4 0 % s5 5 0 = 0
      · rw [pif_t c]; unfold hvF; rw [hv1_ne (Or.inl (by decide))]
      · rw [pif_f c]
    have hM : tkM M 9 0 = z5 9 0 := by
      unfold tkM mcF; rw [← ez5]
      split
      · rw [hv1_ne (Or.inl (by decide))]
      · rfl
    rw [hF, hM, p9]
  · have hM : tkM M 4 0 = z5 4 0 := by
      unfold tkM mcF; rw [← ez5]
      split
      · rw [hv1_ne (Or.inl (by decide))]
      · rfl
    rw [hM, z54]
