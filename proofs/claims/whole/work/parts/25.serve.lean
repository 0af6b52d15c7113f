/-! PURE: the queue is served -/
section BL
variable {b : Prop} {s z : TT} {x : Nat}
theorem ff_mk (h : SV b s z) (c8 : z 8 0 = -1) (hx : (x : Int) < z 2 0) (hn : ¬ mfP z x (z 4 0) (z 8 0 ≠ -1)) : ffF (tu s 8 0 (x : Int)) x = mkF (tu (tu z 8 0 (x : Int)) 37 0 (z 20 x - z 27 x)) x := by
  have hR := h.1
  obtain ⟨⟨hBs, hBz⟩, ⟨e0, e1, e2, e4, e5, e6, e7⟩, _, _, hJ, _, hI, _, hIS⟩ := id hR
  obtain ⟨g1, _⟩ := hJ x hx
  obtain ⟨⟨i1, i2, i3, _⟩, _⟩ := hI x hx
  have f18 := g1 18 (by decide) (by decide)
  have f19 := g1 19 (by decide) (by decide)
  have f20 := g1 20 (by decide) (by decide)
  have f27 := g1 27 (by decide) (by decide)
  have b2 := bd2 hBz 0
  have b4 := bd4 hBz 0
  have b20 := bd20 hBz x
  have b27 := bd27 hBz x
  have h3 : s 3 0 = z 3 0 := h.2.2.2.2.1 c8
  have hB1 : Bd (tu s 8 0 (x : Int)) := bd_tu hBs (fun _ => by show (-1 : Int) ≤ x ∧ (x : Int) ≤ 29; omega)
  obtain ⟨n1, n2⟩ := h.2.2.2.1
  have hnow : ¬ ftP s x (z 4 0) := fun q => hn ((fit_eq h hx (Int.le_refl _) (by omega)).mp q)
  have hP : ∀ u : Int, ftP (tu s 8 0 (x : Int)) x u ↔ ftP s x u := fun u => Iff.rfl
  have k1 : ffS (ftP s x) (tu s 8 0 (x : Int) 4 0) (ffF (tu s 8 0 (x : Int)) x) := by
    refine ffL_spec (t := tu s 8 0 (x : Int)) (j := x) (P := ftP s x) (by rw [tu_ne (by omega)]; omega) (by rw [tu_ne (by omega), tu_ne (by omega)]; have := hIS.1; omega) (fun u _ => hP u) (fun u hu h29 h34 hp => ?_) 38 (tu s 8 0 (x : Int) 4 0) (Int.le_refl _) (fun u hu hu2 => ?_) (by have := (cnE_bd (tu s 8 0 (x : Int) 29) (tu s 8 0 (x : Int) 34) (tu s 8 0 (x : Int) 2 0).toNat (tu s 8 0 (x : Int) 3 0).toNat (tu s 8 0 (x : Int) 4 0)).1; omega)
    · rw [ftP_all hBs (by omega)] at hp ⊢
      intro v hv1 hv2
      by_cases q : v = u - 1
      · have p1 := hp u (Int.le_refl _) (by omega)
        have m1 : ntF s (u - 1) ≤ ntF s u := tk_step (fun j _ => (bd28 hBs j).1) (fun k _ => (bd31 hBs k).1) h29 h34
        have m2 : ltF s (u - 1) ≤ ltF s u := tk_step (fun j _ => (bd19 hBs j).1) (fun k _ => (bd32 hBs k).1) h29 h34
        rw [q]; omega
      · exact hp v (by omega) (by omega)
    · rw [tu_ne (by omega)] at hu hu2
      rw [show u = z 4 0 by omega]
      exact hnow
  have k2 : ffS (ftP s x) (tu (tu z 8 0 (x : Int)) 37 0 (z 20 x - z 27 x) 4 0) (mkF (tu (tu z 8 0 (x : Int)) 37 0 (z 20 x - z 27 x)) x) := by
    refine mkF_spec (by rw [tu_ne (by omega), tu_ne (by omega)]; omega) (fun u hu hu2 => ?_)
    rw [tu_ne (by omega), tu_ne (by omega)] at hu hu2
    rw [fit_eq h hx hu hu2, mfP_all, mfP_all]
    have key : ∀ v, okM (tu (tu z 8 0 (x : Int)) 37 0 (z 20 x - z 27 x)) x v False ↔ okM z x v (z 8 0 ≠ -1) := by
      intro v
      unfold okM mrM moM
      rw [pif_f (fun w => w.1), pif_f (fun w => w.1), pif_f (fun w => w.1 c8), pif_f (fun w => w.1 c8)]
      exact Iff.rfl
    exact ⟨fun w v h1 h2 => (key v).mp (w v h1 h2), fun w v h1 h2 => (key v).mpr (w v h1 h2)⟩
  rw [tu_ne (by omega), e4] at k1
  rw [tu_ne (by omega), tu_ne (by omega)] at k2
  exact ffS_one (by omega) k1 k2
theorem bl_SV (h : SV b s z) (c8 : z 8 0 = -1) (hx : (x : Int) < z 2 0) (hn : ¬ mfP z x (z 4 0) (z 8 0 ≠ -1)) : SV b (svB s (x : Int)) (mtB z (x : Int)) ∧ ∀ f a, f ≠ 8 → f ≠ 9 → f ≠ 37 → mtB z (x : Int) f a = z f a := by
  have hR := h.1
  obtain ⟨⟨hBs, hBz⟩, ⟨e0, e1, e2, e4, e5, e6, e7⟩, _, _, hJ, _, hI, _, hIS⟩ := id hR
  obtain ⟨g1, _⟩ := hJ x hx
  obtain ⟨⟨i1, i2, i3, _⟩, _⟩ := hI x hx
  have f18 := g1 18 (by decide) (by decide)
  have f19 := g1 19 (by decide) (by decide)
  have f20 := g1 20 (by decide) (by decide)
  have f27 := g1 27 (by decide) (by decide)
  have b2 := bd2 hBz 0
  have b3 := bd3 hBz 0
  have b18 := bd18 hBz x
  have b19 := bd19 hBz x
  have b20 := bd20 hBz x
  have b27 := bd27 hBz x
  have h3 : s 3 0 = z 3 0 := h.2.2.2.2.1 c8
  have hk := ff_mk h c8 hx hn
  have hB1 : Bd (tu s 8 0 (x : Int)) := bd_tu hBs (fun _ => by show (-1 : Int) ≤ x ∧ (x : Int) ≤ 29; omega)
  have hkb := ffF_bd hB1 x
  have em : mtB z (x : Int) = tu (tu (tu z 8 0 (x : Int)) 37 0 (z 20 x - z 27 x)) 9 0 (ffF (tu s 8 0 (x : Int)) x) := by
    unfold mtB; rw [show ((x : Nat) : Int).toNat = x from rfl, ← hk]
  have es : svB s (x : Int) = svK (tu (tu s 8 0 (x : Int)) 9 0 (ffF (tu s 8 0 (x : Int)) x)) x (ffF (tu s 8 0 (x : Int)) x) := rfl
  obtain ⟨k, hke⟩ : ∃ k, k = ffF (tu s 8 0 (x : Int)) x := ⟨_, rfl⟩
  rw [← hke] at hkb em es
  have hmn : ∀ f a, f ≠ 8 → f ≠ 9 → f ≠ 37 → mtB z (x : Int) f a = z f a := fun f a q1 q2 q3 => by
    rw [em, tu_ne (by omega), tu_ne (by omega), tu_ne (by omega)]
  have hBm : Bd (mtB z (x : Int)) := by
    rw [em]
    exact bd_tu (bd_tu (bd_tu hBz (fun _ => by show (-1 : Int) ≤ x ∧ (x : Int) ≤ 29; omega)) (fun _ => by show (0 : Int) ≤ z 20 x - z 27 x ∧ z 20 x - z 27 x ≤ 50; omega)) (fun _ => by show (-1 : Int) ≤ k ∧ k ≤ 3000; omega)
  have m8 : mtB z (x : Int) 8 0 = x := by rw [em, tu_ne (by omega), tu_ne (by omega), tu_eq]
  have m9 : mtB z (x : Int) 9 0 = k := by rw [em, tu_eq]
  have m37 : mtB z (x : Int) 37 0 = z 20 x - z 27 x := by rw [em, tu_ne (by omega), tu_eq]
  have hBs2 : Bd (tu (tu s 8 0 (x : Int)) 9 0 k) := bd_tu hB1 (fun _ => by show (-1 : Int) ≤ k ∧ k ≤ 3000; omega)
  have hna : NA (mtB z (x : Int)) := by
    obtain ⟨n1, n2⟩ := h.2.2.2.1
    have t1 : ∀ u, tnM (mtB z (x : Int)) u = tnM z u := fun u => by rw [em]; rfl
    have t2 : ∀ u n, tlM (mtB z (x : Int)) u n = tlM z u n := fun u n => by rw [em]; rfl
    have t3 : ∀ n, roomF (mtB z (x : Int)) n = roomF z n := fun n => by rw [em]; rfl
    refine ⟨fun a ha => ?_, ?_⟩
    · rw [t1, t2, hmn 39 a (by omega) (by omega) (by omega), hmn 40 a (by omega) (by omega) (by omega), hmn 4 0 (by omega) (by omega) (by omega), hmn 2 0 (by omega) (by omega) (by omega)]
      exact n1 a ha
    · rw [t3, hmn 48 0 (by omega) (by omega) (by omega), hmn 0 0 (by omega) (by omega) (by omega)]
      exact n2
  have hzz : ∀ f a, zok f → mtB z (x : Int) f a = z f a := fun f a q => hmn f a (by unfold zok at q; omega) (by unfold zok at q; omega) (by unfold zok at q; omega)
  have etm : (fun _ : Nat => mtB z (x : Int) 4 0) = (fun _ : Nat => z 4 0) := by
    funext _; exact hmn 4 0 (by omega) (by omega) (by omega)
  refine ⟨?_, hmn⟩
  by_cases ck : k = -1
  · have es2 : svB s (x : Int) = tu (tu s 8 0 (x : Int)) 9 0 k := by
      rw [es]; unfold svK; rw [pif_f (fun w => w.1 ck)]
    refine ⟨?_, ?_, ?_, hna, ?_, ?_, ?_⟩
    · rw [etm]
      exact Rc_congr hR (by rw [es2]; exact hBs2) hBm (fun f a q1 _ => by rw [es2, tu_ne (by omega), tu_ne (by omega)]) hzz
    · rw [es2, m8, tu_ne (by omega), tu_eq]
    · rw [es2, m9, tu_eq]
    · intro q; rw [m8] at q; omega
    · intro _ _; rw [es2, hmn 3 0 (by omega) (by omega) (by omega), tu_ne (by omega), tu_ne (by omega)]; exact h3
    · intro _ q; rw [m9] at q; exact absurd ck q
  · have es2 : svB s (x : Int) = tu (hdF (tu (tu s 8 0 (x : Int)) 9 0 k) (z 3 0).toNat (z 18 x) (z 19 x) k (k + (z 20 x - z 27 x))) 3 0 (z 3 0 + 1) := by
      rw [es]; unfold svK
      rw [pif_t ⟨ck, by rw [tu_ne (by omega), tu_ne (by omega)]; have := hIS.1; omega⟩]
      simp (disch := omega) only [tu_ne]
      rw [h3, f18, f19, f20, f27]
    have hIS1 := hIS.1
    have hBs3 : Bd (svB s (x : Int)) := by
      rw [es2]
      exact bd_tu (bd_tu (bd_tu (bd_tu (bd_tu hBs2 (fun _ => b18)) (fun _ => b19)) (fun _ => by show (0 : Int) ≤ k ∧ k ≤ 3000; omega)) (fun _ => by show (0 : Int) ≤ k + (z 20 x - z 27 x) ∧ k + (z 20 x - z 27 x) ≤ 3100; omega)) (fun _ => by show (0 : Int) ≤ z 3 0 + 1 ∧ z 3 0 + 1 ≤ 9; omega)
    refine ⟨?_, ?_, ?_, hna, ?_, ?_, ?_⟩
    · rw [etm]
      refine Rc_congr hR hBs3 hBm (fun f a q1 q2 => ?_) hzz
      rw [es2, tu_ne (by omega)]
      by_cases q3 : 31 ≤ f ∧ f ≤ 34
      · have q4 := q2 q3
        unfold hdF
        rw [tu_ne (by omega), tu_ne (by omega), tu_ne (by omega), tu_ne (by omega), tu_ne (by omega), tu_ne (by omega)]
      · rw [hdF_ne (by omega), tu_ne (by omega), tu_ne (by omega)]
    · rw [es2, m8, tu_ne (by omega), hdF_ne (by omega), tu_ne (by omega), tu_eq]
    · rw [es2, m9, tu_ne (by omega), hdF_ne (by omega), tu_eq]
    · intro q; rw [m8] at q; omega
    · intro _ q; rw [m9] at q; exact absurd q ck
    · intro _ _
      rw [m8, m9, m37, hmn 3 0 (by omega) (by omega) (by omega), hmn 18 _ (by omega) (by omega) (by omega), hmn 19 _ (by omega) (by omega) (by omega), es2, show ((x : Nat) : Int).toNat = x from rfl]
      unfold hdF
      refine ⟨by rw [tu_eq], ?_, ?_, ?_, ?_⟩
      · rw [tu_ne (by omega), tu_ne (by omega), tu_ne (by omega), tu_ne (by omega), tu_eq]
      · rw [tu_ne (by omega), tu_ne (by omega), tu_ne (by omega), tu_eq]
      · rw [tu_ne (by omega), tu_ne (by omega), tu_eq]
      · rw [tu_ne (by omega), tu_eq]
end BL
/-- the loop over the queue -/
theorem sv_all {b : Prop} {s z : TT} {n : Nat} (h0 : SV b (svF s 0) (mtF z 0)) (hq : ∀ a, a < n → s 11 a = z 11 a ∧ (0 ≤ z 11 a ∧ z 11 a < z 2 0) ∧ z 24 (z 11 a).toNat = 0 ∧ ∀ c, c < a → z 11 c ≠ z 11 a) :
    ∀ i, i ≤ n → SV b (svF s i) (mtF z i) ∧ (∀ a, i ≤ a → a < n → mtF z i 24 (z 11 a).toNat = 0) ∧ (i < n → bgC (mtF z i) (z 11 i).toNat) := by
  intro i
  induction i with
  | zero =>
    intro hi
    have e : ∀ f a, f ≠ 8 → f ≠ 9 → mtF z 0 f a = z f a := fun f a q1 q2 => by unfold mtF; rw [tu_ne (by omega), tu_ne (by omega)]
    exact ⟨h0, fun a _ ha => by rw [e 24 _ (by omega) (by omega)]; exact (hq a ha).2.2.1, fun _ => bg_C h0⟩
  | succ i ih =>
    intro hi
    obtain ⟨h1, h2, h3⟩ := ih (by omega)
    obtain ⟨g1, g2, g3, g4⟩ := hq i (by omega)
    have e2 : mtF z i 2 0 = z 2 0 := mtF_ne (by omega) i
    have e11 : mtF z i 11 i = z 11 i := mtF_ne (by omega) i
    have s11 : svF s i 11 i = z 11 i := by rw [svF_ne (by omega), g1]
    obtain ⟨x, hx⟩ : ∃ x : Nat, z 11 i = (x : Int) := ⟨(z 11 i).toNat, by omega⟩
    have hw := h2 i (Nat.le_refl _) (by omega)
    have b4 := bd4 h1.1.1.2 0
    have hfit := fit_eq h1 (j := x) (a := mtF z i 4 0) (by omega) (Int.le_refl _) (by omega)
    have e4 : svF s i 4 0 = mtF z i 4 0 := h1.1.2.1.2.2.2.1
    have hS : SV b (svF s (i + 1)) (mtF z (i + 1)) ∧ ∀ y : Nat, y ≠ x → mtF z (i + 1) 24 y = mtF z i 24 y := by
      rw [svF_s, mtF_s, s11, e11, hx]
      rw [hx] at hw
      rw [show ((x : Nat) : Int).toNat = x from rfl] at hw
      unfold svS mtS
      rw [show ((x : Nat) : Int).toNat = x from rfl, e4]
      by_cases c1 : mfP (mtF z i) x (mtF z i 4 0) (mtF z i 8 0 ≠ -1)
      · rw [pif_t (hfit.mpr c1), pif_t c1]
        exact ⟨bg_SV h1 (by omega) hw c1, fun y hy => bgM_o _ hy (by omega)⟩
      · rw [pif_f (fun q => c1 (hfit.mp q)), pif_f c1, h1.2.1]
        by_cases c2 : mtF z i 8 0 = -1
        · rw [pif_t c2, pif_t c2]
          have := bl_SV h1 c2 (by omega) c1
          exact ⟨this.1, fun y _ => this.2 24 y (by omega) (by omega) (by omega)⟩
        · rw [pif_f c2, pif_f c2]
          exact ⟨h1, fun _ _ => rfl⟩
    refine ⟨hS.1, fun a ha1 ha2 => ?_, fun _ => bg_C hS.1⟩
    have hne := (hq a ha2).2.2.2 i (by omega)
    have hr := (hq a ha2).2.1
    rw [hS.2 _ (by omega)]
    exact h2 a (by omega) ha2
