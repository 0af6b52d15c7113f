/-! PURE: a job stops; the running jobs run a tick -/
def Rw (b : Prop) (tm : Nat → Int) (i : Nat) (s z : TT) : Prop := (Bd s ∧ Bd z) ∧ RS s z ∧ RR s z ∧ RA s z ∧ RJ s z ∧ RH s z ∧ (∀ j : Nat, (j : Int) < z 2 0 → IJ1 z j ∧ (j ≠ i → IJ2 b (tm j) z j ∧ IJ3 z j)) ∧ IR z ∧ IS b z
theorem Rw_of {b : Prop} {tm : Nat → Int} {s z : TT} (i : Nat) (h : Rc b tm s z) : Rw b tm i s z :=
  ⟨h.1, h.2.1, h.2.2.1, h.2.2.2.1, h.2.2.2.2.1, h.2.2.2.2.2.1, fun j hj => ⟨(h.2.2.2.2.2.2.1 j hj).1, fun _ => (h.2.2.2.2.2.2.1 j hj).2⟩, h.2.2.2.2.2.2.2.1, h.2.2.2.2.2.2.2.2⟩
theorem lohi {f : Nat} (h : 49 ≤ f) : lo f = 0 ∧ hi f = 16 := by
  refine ⟨by unfold lo; rw [if_neg (by omega)], ?_⟩
  unfold hi; rw [List.getD_eq_getElem?_getD, List.getElem?_eq_none (by simp; omega)]; rfl
theorem stop_Rc {b : Prop} {tm tm' : Nat → Int} {s z s' z' : TT} {i : Nat} {v e sv : Int} (h : Rw b tm i s z) (hi : (i : Int) < z 2 0) (htm : ∀ j, j ≠ i → tm' j = tm j)
    (hv : v ≠ 1 ∧ 0 ≤ v ∧ v ≤ 3) (he : -1 ≤ e ∧ e ≤ 3000) (hsv : 0 ≤ sv ∧ sv < z 21 i ∧ (z 22 i ≠ 0 → sv % z 22 i = 0))
    (hs : ∀ f a, s' f a = if f = 13 ∧ a < (z 0 0).toNat then s 13 a + s (100 + i) a else if f = 100 + i ∧ a < (z 0 0).toNat then 0 else if (f = 28 ∨ f = 29) ∧ a = i then 0 else if f = 24 ∧ a = i then v else if f = 26 ∧ a = i then e else if f = 27 ∧ a = i then sv else s f a)
    (hz : ∀ f a, z' f a = if f = 30 ∧ 4 * i ≤ a ∧ a < 4 * i + 4 then 0 else if f = 35 ∧ a = i then 0 else if f = 24 ∧ a = i then v else if f = 26 ∧ a = i then e else if f = 27 ∧ a = i then sv else z f a) : Rc b tm' s' z' := by
  obtain ⟨⟨hBs, hBz⟩, ⟨e0, e1, e2, e4, e5, e6, e7⟩, hRR, hRA, hJ, hH, hI, ⟨r1, r2⟩, hIS⟩ := h
  have b0 := bd0 hBz 0
  have b2 := bd2 hBz 0
  have b21 := bd21 hBz i
  have hzo : ∀ f a, f ≠ 30 → f ≠ 35 → f ≠ 24 → f ≠ 26 → f ≠ 27 → z' f a = z f a := fun f a q1 q2 q3 q4 q5 => by
    rw [hz, if_neg (by omega), if_neg (by omega), if_neg (by omega), if_neg (by omega), if_neg (by omega)]
  have hzj : ∀ f a, f ≠ 30 → a ≠ i → z' f a = z f a := fun f a q1 q2 => by
    rw [hz, if_neg (by omega), if_neg (by omega), if_neg (by omega), if_neg (by omega), if_neg (by omega)]
  have hzon : ∀ j r, r < 4 → z' 30 (4 * j + r) = if j = i then 0 else z 30 (4 * j + r) := fun j r hr => by
    rw [hz]
    by_cases q : j = i
    · subst q; rw [if_pos rfl, if_pos ⟨rfl, by omega, by omega⟩]
    · rw [if_neg q, if_neg (by omega), if_neg (by omega), if_neg (by omega), if_neg (by omega), if_neg (by omega)]
  have hso : ∀ f a, f ≠ 13 → f < 100 → f ≠ 28 → f ≠ 29 → f ≠ 24 → f ≠ 26 → f ≠ 27 → s' f a = s f a := fun f a q1 q2 q3 q4 q5 q6 q7 => by
    rw [hs, if_neg (by omega), if_neg (by omega), if_neg (by omega), if_neg (by omega), if_neg (by omega), if_neg (by omega)]
  have hsj : ∀ f a, f ≠ 13 → f < 100 → a ≠ i → s' f a = s f a := fun f a q1 q2 q3 => by
    rw [hs, if_neg (by omega), if_neg (by omega), if_neg (by omega), if_neg (by omega), if_neg (by omega), if_neg (by omega)]
  have z24 : z' 24 i = v := by rw [hz, if_neg (by omega), if_neg (by omega), if_pos ⟨rfl, rfl⟩]
  have z26 : z' 26 i = e := by rw [hz, if_neg (by omega), if_neg (by omega), if_neg (by omega), if_pos ⟨rfl, rfl⟩]
  have z27 : z' 27 i = sv := by rw [hz, if_neg (by omega), if_neg (by omega), if_neg (by omega), if_neg (by omega), if_pos ⟨rfl, rfl⟩]
  have z35 : z' 35 i = 0 := by rw [hz, if_neg (by omega), if_pos ⟨rfl, rfl⟩]
  have s24 : s' 24 i = v := by rw [hs, if_neg (by omega), if_neg (by omega), if_neg (by omega), if_pos ⟨rfl, rfl⟩]
  have s26 : s' 26 i = e := by rw [hs, if_neg (by omega), if_neg (by omega), if_neg (by omega), if_neg (by omega), if_pos ⟨rfl, rfl⟩]
  have s27 : s' 27 i = sv := by rw [hs, if_neg (by omega), if_neg (by omega), if_neg (by omega), if_neg (by omega), if_neg (by omega), if_pos ⟨rfl, rfl⟩]
  have s28 : s' 28 i = 0 := by rw [hs, if_neg (by omega), if_neg (by omega), if_pos ⟨Or.inl rfl, rfl⟩]
  have s29 : s' 29 i = 0 := by rw [hs, if_neg (by omega), if_neg (by omega), if_pos ⟨Or.inr rfl, rfl⟩]
  have hsu : ∀ r, r < 4 → s (100 + i) r = z 30 (4 * i + r) := (hJ i hi).2.2.2
  have hfo : ∀ r, r < 4 → foF z' r = foF z r + z 30 (4 * i + r) := fun r hr => by
    unfold foF foS
    rw [hzo 12 r (by omega) (by omega) (by omega) (by omega) (by omega), hzo 2 0 (by omega) (by omega) (by omega) (by omega) (by omega)]
    rw [sumN_one (f := fun j => z' 30 (4 * j + r)) (g := fun j => z 30 (4 * j + r)) (k := i) (n := (z 2 0).toNat) (by omega) (fun j _ hne => by rw [hzon j r hr, if_neg hne])]
    rw [hzon i r hr, if_pos rfl]
    omega
  have hfb : ∀ r, r < 4 → foF z r + z 30 (4 * i + r) ≤ 16 := fun r hr => by
    have g1 : 0 ≤ foS z' r (z 2 0).toNat := by
      refine sumN_nn (fun j _ => ?_)
      rw [hzon j r hr]
      have := (bd30 hBz (4 * j + r)).1
      split <;> omega
    have g2 := hfo r hr
    have g3 := bd12 hBz r
    have g4 : foF z' r = z 12 r - foS z' r (z 2 0).toNat := by
      unfold foF
      rw [hzo 12 r (by omega) (by omega) (by omega) (by omega) (by omega), hzo 2 0 (by omega) (by omega) (by omega) (by omega) (by omega)]
    omega
  have hcm : ∀ j, cmF z' j (z 0 0).toNat = if j = i then 0 else cmF z j (z 0 0).toNat := fun j => by
    by_cases q : j = i
    · rw [if_pos q]
      refine (sumN_congr (g := fun _ => 0) (fun r hr => ?_)).trans (sumN_zero _)
      rw [hzon j r (by omega), if_pos q]; split <;> rfl
    · rw [if_neg q]
      exact sumN_congr (fun r hr => by rw [hzon j r (by omega), if_neg q, hzo 14 r (by omega) (by omega) (by omega) (by omega) (by omega)])
  have q0 := hzo 0 0 (by omega) (by omega) (by omega) (by omega) (by omega)
  have q1 := hzo 1 0 (by omega) (by omega) (by omega) (by omega) (by omega)
  have q2 := hzo 2 0 (by omega) (by omega) (by omega) (by omega) (by omega)
  have q3 := hzo 3 0 (by omega) (by omega) (by omega) (by omega) (by omega)
  have qr : roomF z' (z 0 0).toNat = roomF z (z 0 0).toNat := sumN_congr (fun r _ => by rw [hzo 14 r (by omega) (by omega) (by omega) (by omega) (by omega), hzo 12 r (by omega) (by omega) (by omega) (by omega) (by omega)])
  have hBs' : Bd s' := by
    intro f a hf
    rw [hs]
    split
    · rename_i q
      have g1 := hRR a (by omega)
      have g2 := hfb a (by omega)
      have g3 := r1 a (by omega)
      have g4 := bd30 hBz (4 * i + a)
      rw [q.1, g1.2.2, hsu a (by omega)]
      show (0 : Int) ≤ _ ∧ _ ≤ (16 : Int)
      omega
    split
    · rename_i q
      obtain ⟨g1, g2⟩ := lohi (f := f) (by omega)
      rw [g1, g2]; omega
    split
    · rename_i q
      rcases q.1 with q1 | q1 <;> rw [q1]
      · show (0 : Int) ≤ 0 ∧ (0 : Int) ≤ 64; omega
      · show (0 : Int) ≤ 0 ∧ (0 : Int) ≤ 3100; omega
    split
    · rename_i q; rw [q.1]; show (0 : Int) ≤ v ∧ v ≤ 3; omega
    split
    · rename_i q; rw [q.1]; show (-1 : Int) ≤ e ∧ e ≤ 3000; omega
    split
    · rename_i q; rw [q.1]; show (0 : Int) ≤ sv ∧ sv ≤ 50; omega
    · exact hBs f a hf
  have hBz' : Bd z' := by
    intro f a hf
    rw [hz]
    split
    · rename_i q; rw [q.1]; show (0 : Int) ≤ 0 ∧ (0 : Int) ≤ 16; omega
    split
    · rename_i q; rw [q.1]; show (0 : Int) ≤ 0 ∧ (0 : Int) ≤ 50; omega
    split
    · rename_i q; rw [q.1]; show (0 : Int) ≤ v ∧ v ≤ 3; omega
    split
    · rename_i q; rw [q.1]; show (-1 : Int) ≤ e ∧ e ≤ 3000; omega
    split
    · rename_i q; rw [q.1]; show (0 : Int) ≤ sv ∧ sv ≤ 50; omega
    · exact hBz f a hf
  refine ⟨⟨hBs', hBz'⟩, ?_, ?_, ?_, ?_, ?_, ?_, ?_, ?_⟩
  · refine ⟨?_, ?_, ?_, ?_, ?_, ?_, ?_⟩
    · rw [q0, hso 0 0 (by omega) (by omega) (by omega) (by omega) (by omega) (by omega) (by omega)]; exact e0
    · rw [q1, hso 1 0 (by omega) (by omega) (by omega) (by omega) (by omega) (by omega) (by omega)]; exact e1
    · rw [q2, hso 2 0 (by omega) (by omega) (by omega) (by omega) (by omega) (by omega) (by omega)]; exact e2
    · rw [hzo 4 0 (by omega) (by omega) (by omega) (by omega) (by omega), hso 4 0 (by omega) (by omega) (by omega) (by omega) (by omega) (by omega) (by omega)]; exact e4
    · rw [hzo 5 0 (by omega) (by omega) (by omega) (by omega) (by omega), hso 5 0 (by omega) (by omega) (by omega) (by omega) (by omega) (by omega) (by omega)]; exact e5
    · rw [hzo 6 0 (by omega) (by omega) (by omega) (by omega) (by omega), hso 6 0 (by omega) (by omega) (by omega) (by omega) (by omega) (by omega) (by omega)]; exact e6
    · rw [q0, qr, hso 7 0 (by omega) (by omega) (by omega) (by omega) (by omega) (by omega) (by omega)]; exact e7
  · intro r hr
    rw [q0] at hr
    obtain ⟨g1, g2, g3⟩ := hRR r hr
    refine ⟨?_, ?_, ?_⟩
    · rw [hzo 12 r (by omega) (by omega) (by omega) (by omega) (by omega), hso 12 r (by omega) (by omega) (by omega) (by omega) (by omega) (by omega) (by omega)]; exact g1
    · rw [hzo 14 r (by omega) (by omega) (by omega) (by omega) (by omega), hso 14 r (by omega) (by omega) (by omega) (by omega) (by omega) (by omega) (by omega)]; exact g2
    · rw [hfo r (by omega), hs, if_pos ⟨rfl, by omega⟩, g3, hsu r (by omega)]
  · intro a ha
    rw [q1] at ha
    rw [hzo 15 a (by omega) (by omega) (by omega) (by omega) (by omega), hzo 16 a (by omega) (by omega) (by omega) (by omega) (by omega), hso 15 a (by omega) (by omega) (by omega) (by omega) (by omega) (by omega) (by omega), hso 16 a (by omega) (by omega) (by omega) (by omega) (by omega) (by omega) (by omega)]
    exact hRA a ha
  · intro j hj
    rw [q2] at hj
    obtain ⟨g1, g2, g3, g4⟩ := hJ j hj
    refine ⟨fun f hf1 hf2 => ?_, ?_, ?_, fun r hr => ?_⟩
    · by_cases q : j = i
      · subst q
        by_cases c1 : f = 24
        · subst c1; rw [z24, s24]
        by_cases c2 : f = 26
        · subst c2; rw [z26, s26]
        by_cases c3 : f = 27
        · subst c3; rw [z27, s27]
        rw [hzo f j (by omega) (by omega) c1 c2 c3, hso f j (by omega) (by omega) (by omega) (by omega) c1 c2 c3]; exact g1 f hf1 hf2
      · rw [hzj f j (by omega) q, hsj f j (by omega) (by omega) q]; exact g1 f hf1 hf2
    · rw [q0, hcm]
      by_cases q : j = i
      · rw [if_pos q, q, s28]
      · rw [if_neg q, hsj 28 j (by omega) (by omega) q]; exact g2
    · by_cases q : j = i
      · subst q
        unfold tkU
        rw [s29, z24, if_neg hv.1]
      · unfold tkU
        rw [hsj 29 j (by omega) (by omega) q, hzj 24 j (by omega) q, hzj 25 j (by omega) q, hzj 36 j (by omega) q]; exact g3
    · rw [hzon j r hr]
      by_cases q : j = i
      · subst q
        rw [if_pos rfl, hs, if_neg (by omega)]
        by_cases q5 : r < (z 0 0).toNat
        · rw [if_pos ⟨rfl, q5⟩]
        · rw [if_neg (fun w => q5 w.2), if_neg (by omega), if_neg (by omega), if_neg (by omega), if_neg (by omega), g4 r hr]
          exact r2 j r (by omega) (by omega) hr
      · rw [if_neg q, hs, if_neg (by omega), if_neg (by omega), if_neg (by omega), if_neg (by omega), if_neg (by omega), if_neg (by omega)]
        exact g4 r hr
  · intro k hk
    rw [q3] at hk
    rw [hzo 31 k (by omega) (by omega) (by omega) (by omega) (by omega), hzo 33 k (by omega) (by omega) (by omega) (by omega) (by omega), hzo 34 k (by omega) (by omega) (by omega) (by omega) (by omega), hso 31 k (by omega) (by omega) (by omega) (by omega) (by omega) (by omega) (by omega), hso 32 k (by omega) (by omega) (by omega) (by omega) (by omega) (by omega) (by omega), hso 33 k (by omega) (by omega) (by omega) (by omega) (by omega) (by omega) (by omega), hso 34 k (by omega) (by omega) (by omega) (by omega) (by omega) (by omega) (by omega)]
    exact hH k hk
  · intro j hj
    rw [q2] at hj
    obtain ⟨i1, i23⟩ := hI j hj
    by_cases q : j = i
    · subst q
      refine ⟨?_, fun w => absurd (z24.symm.trans w) hv.1, fun _ => ⟨z35, fun r hr => by rw [hzon j r hr, if_pos rfl]⟩⟩
      obtain ⟨k1, k2, k3, k4, k5, k6⟩ := i1
      unfold IJ1
      rw [z27, hzo 18 j (by omega) (by omega) (by omega) (by omega) (by omega), hzo 21 j (by omega) (by omega) (by omega) (by omega) (by omega), hzo 20 j (by omega) (by omega) (by omega) (by omega) (by omega), hzo 22 j (by omega) (by omega) (by omega) (by omega) (by omega), hzo 23 j (by omega) (by omega) (by omega) (by omega) (by omega), hzo 17 j (by omega) (by omega) (by omega) (by omega) (by omega), q1]
      exact ⟨k1, hsv.2.1, k3, hsv.2.2, k5, k6⟩
    · obtain ⟨i2, i3⟩ := i23 q
      refine ⟨?_, ?_, ?_⟩
      · unfold IJ1
        rw [hzj 18 j (by omega) q, hzj 27 j (by omega) q, hzj 21 j (by omega) q, hzj 20 j (by omega) q, hzj 22 j (by omega) q, hzj 23 j (by omega) q, hzj 17 j (by omega) q, q1]
        exact i1
      · rw [htm j q]
        unfold IJ2 ndJ
        rw [hzj 24 j (by omega) q, hzj 35 j (by omega) q, hzj 25 j (by omega) q, hzj 36 j (by omega) q, hzj 20 j (by omega) q, hzj 27 j (by omega) q, hzj 21 j (by omega) q]
        exact i2
      · intro hn
        rw [hzj 24 j (by omega) q] at hn
        rw [hzj 35 j (by omega) q]
        exact ⟨(i3 hn).1, fun r hr => by rw [hzon j r hr, if_neg q]; exact (i3 hn).2 r hr⟩
  · refine ⟨fun r hr => ?_, fun a r ha hr1 hr2 => ?_⟩
    · rw [q0] at hr
      rw [hfo r (by omega)]
      have := r1 r hr
      have := (bd30 hBz (4 * i + r)).1
      omega
    · rw [q0] at hr1
      rw [hzon a r hr2]
      split
      · rfl
      · exact r2 a r ha hr1 hr2
  · unfold IS
    rw [q3, hzo 5 0 (by omega) (by omega) (by omega) (by omega) (by omega), hzo 38 0 (by omega) (by omega) (by omega) (by omega) (by omega)]
    exact hIS
noncomputable def rjS (s : TT) (i : Nat) (b : Prop) : TT := pif (s 24 i = 1) (roF s i b) s
theorem ranF_ir {t : TT} (hB : Bd t) (i : Nat) : ir (ranF t i (t 4 0 + 1)) := by
  have b4 := bd4 hB 0
  have b25 := bd25 hB i
  unfold ranF
  split <;> exact ⟨by omega, by omega⟩
theorem run_step {b : Prop} {tm : Nat → Int} {s z : TT} {i : Nat} (h : Rc b tm s z) (hi : (i : Int) < z 2 0) (ht : tm i = z 4 0) : Rc b (fun j => if j = i then z 4 0 + 1 else tm j) (rjS s i b) (mrS z i) := by
  obtain ⟨⟨hBs, hBz⟩, ⟨e0, e1, e2, e4, e5, e6, e7⟩, hRR, hRA, hJ, hH, hI, hIR, hIS⟩ := id h
  obtain ⟨g1, g2, g3, g4⟩ := hJ i hi
  obtain ⟨i1, i2, i3⟩ := hI i hi
  have f24 := g1 24 (by decide) (by decide)
  have f17 := g1 17 (by decide) (by decide)
  have f18 := g1 18 (by decide) (by decide)
  have f20 := g1 20 (by decide) (by decide)
  have f21 := g1 21 (by decide) (by decide)
  have f25 := g1 25 (by decide) (by decide)
  have f27 := g1 27 (by decide) (by decide)
  have b4 := bd4 hBz 0
  have b17 := bd17 hBz i
  unfold rjS mrS
  rw [f24]
  by_cases c : z 24 i = 1
  · rw [pif_t c, if_pos c]
    obtain ⟨k1, k2, k3, k4, k5⟩ := i2 c
    rw [ht] at k1
    obtain ⟨j1, j2, j3, j4, j5, j6⟩ := id i1
    have b20 := bd20 hBz i
    have b21 := bd21 hBz i
    have b27 := bd27 hBz i
    have b35 := bd35 hBz i
    have hnd : ndJ b z i ≤ 50 := by
      unfold ndJ
      by_cases qb : b
      · rw [pif_t qb]; omega
      · rw [pif_f qb]; omega
    have eneed : pif b (s 20 i - s 27 i) (s 21 i - s 27 i) = ndJ b z i := by unfold ndJ; rw [f20, f21, f27]
    have eneed2 : (if z 38 0 = 0 then z 21 i - z 27 i else z 36 i) = ndJ b z i := by
      unfold ndJ
      by_cases qb : b
      · rw [pif_t qb, if_neg (by have := hIS.2.2.1 qb; omega), k2]
      · rw [pif_f qb, if_pos (hIS.2.2.2 qb)]
    have eran : ranF s i (s 4 0 + 1) = z 35 i + 1 := by
      unfold ranF; rw [if_pos (f24.trans c), e4, f25]; omega
    have hw : Rw b tm i (tu s 16 (z 17 i).toNat (s 16 (z 17 i).toNat + s 18 i)) (mr1 z i) := by
      refine ⟨⟨bd_tu hBs (fun q => absurd rfl q.1), bd_tu (bd_tu hBz (fun _ => by show (0 : Int) ≤ z 35 i + 1 ∧ z 35 i + 1 ≤ 50; omega)) (fun q => absurd rfl q.1)⟩, ⟨e0, e1, e2, e4, e5, e6, e7⟩, hRR, ?_, ?_, hH, ?_, hIR, hIS⟩
      rotate_left
      · intro j hj
        obtain ⟨y1, y2, y3, y4⟩ := hJ j hj
        refine ⟨fun f hf1 hf2 => ?_, y2, y3, fun r hr => ?_⟩
        · rw [tu_ne (by omega), mr1_ne (by omega)]; exact y1 f hf1 hf2
        · rw [tu_ne (by omega), mr1_ne (by omega)]; exact y4 r hr
      rotate_left
      · intro a ha
        obtain ⟨a1, a2⟩ := hRA a ha
        refine ⟨a1, ?_⟩
        unfold mr1
        by_cases q : a = (z 17 i).toNat
        · subst q; rw [tu_eq, tu_eq, a2, f18]
        · rw [tu_ne (by omega), tu_ne (by omega), tu_ne (by omega)]; exact a2
      · intro j hj
        obtain ⟨m1, m2, m3⟩ := hI j hj
        refine ⟨m1, fun q => ⟨?_, ?_⟩⟩
        · unfold IJ2
          rw [show mr1 z i 35 j = z 35 j by unfold mr1; rw [tu_ne (by omega), tu_ne (by omega)]]
          exact m2
        · unfold IJ3
          rw [show mr1 z i 35 j = z 35 j by unfold mr1; rw [tu_ne (by omega), tu_ne (by omega)]]
          exact m3
    by_cases c2 : z 35 i + 1 = ndJ b z i
    · unfold roF
      rw [eneed, eran, pif_t (by omega), if_pos (by rw [eneed2]; exact c2), f17, e4]
      refine stop_Rc (v := 2) (e := z 4 0 + 1) (sv := z 27 i) hw hi (fun j hj => if_neg hj) (by omega) (by omega) ⟨b27.1, j2, j4⟩ (fun f a => ?_) (fun f a => ?_)
      · have er : tu s 16 (z 17 i).toNat (s 16 (z 17 i).toNat + s 18 i) 0 0 = z 0 0 := e0
        have e27 : tu s 16 (z 17 i).toNat (s 16 (z 17 i).toNat + s 18 i) 27 i = z 27 i := f27
        have ez : mr1 z i 0 0 = z 0 0 := rfl
        unfold lvF
        rw [er, ez]
        obtain ⟨s1, hs1⟩ : ∃ s1, s1 = tu s 16 (z 17 i).toNat (s 16 (z 17 i).toNat + s 18 i) := ⟨_, rfl⟩
        rw [← hs1] at e27 ⊢
        simp only [tu, lv1]
        by_cases q13 : f = 13
        · subst q13; simp
        by_cases q100 : f = 100 + i
        · subst q100
          simp [show ¬ (100 + i = 28) by omega, show ¬ (100 + i = 29) by omega, show ¬ (100 + i = 24) by omega, show ¬ (100 + i = 26) by omega, show ¬ (100 + i = 27) by omega, show ¬ (100 + i = 13) by omega]
        by_cases q26 : f = 26
        · subst q26; by_cases qa : a = i <;> simp [qa, q100]
        by_cases q24 : f = 24
        · subst q24; by_cases qa : a = i <;> simp [qa, q100]
        by_cases q27 : f = 27
        · subst q27
          by_cases qa : a = i
          · subst qa; simp [q100, e27]
          · simp [qa, q100]
        by_cases q28 : f = 28
        · subst q28; by_cases qa : a = i <;> simp [qa, q100]
        by_cases q29 : f = 29
        · subst q29; by_cases qa : a = i <;> simp [qa, q100]
        simp [q13, q100, q26, q24, q27, q28, q29]
      · have e27 : mr1 z i 27 i = z 27 i := rfl
        obtain ⟨z1, hz1⟩ : ∃ z1, z1 = mr1 z i := ⟨_, rfl⟩
        rw [← hz1] at e27 ⊢
        unfold leM
        simp only [tu, le1]
        by_cases q30 : f = 30
        · subst q30; simp
        by_cases q35 : f = 35
        · subst q35; by_cases qa : a = i <;> simp [qa]
        by_cases q26 : f = 26
        · subst q26; by_cases qa : a = i <;> simp [qa]
        by_cases q24 : f = 24
        · subst q24; by_cases qa : a = i <;> simp [qa]
        by_cases q27 : f = 27
        · subst q27
          by_cases qa : a = i
          · subst qa; simp [e27]
          · simp [qa]
        simp [q30, q35, q26, q24, q27]
    · unfold roF
      rw [eneed, eran, pif_f (by omega), if_neg (by rw [eneed2]; exact c2), f17]
      refine ⟨hw.1, hw.2.1, hw.2.2.1, hw.2.2.2.1, hw.2.2.2.2.1, hw.2.2.2.2.2.1, fun j hj => ?_, hw.2.2.2.2.2.2.2.1, hw.2.2.2.2.2.2.2.2⟩
      obtain ⟨m1, m2⟩ := hw.2.2.2.2.2.2.1 j hj
      by_cases q : j = i
      · subst q
        have e35 : mr1 z j 35 j = z 35 j + 1 := by unfold mr1; rw [tu_ne (by omega), tu_eq]
        refine ⟨m1, fun _ => ?_, fun w => absurd c w⟩
        rw [e35]
        have e36 : mr1 z j 36 j = z 36 j := rfl
        have e25 : mr1 z j 25 j = z 25 j := rfl
        have e20 : mr1 z j 20 j = z 20 j := rfl
        have e27 : mr1 z j 27 j = z 27 j := rfl
        have eN : ndJ b (mr1 z j) j = ndJ b z j := rfl
        rw [e36, e25, e20, e27, eN]
        dsimp only
        rw [if_pos rfl]
        exact ⟨by omega, k2, k3, by omega, by omega⟩
      · refine ⟨m1, ?_⟩
        have := m2 q
        dsimp only
        rw [if_neg q]
        exact this
  · rw [pif_f c, if_neg c]
    refine ⟨h.1, h.2.1, h.2.2.1, h.2.2.2.1, h.2.2.2.2.1, h.2.2.2.2.2.1, fun j hj => ?_, h.2.2.2.2.2.2.2.1, h.2.2.2.2.2.2.2.2⟩
    obtain ⟨m1, m2, m3⟩ := hI j hj
    by_cases q : j = i
    · subst q
      exact ⟨m1, fun w => absurd w c, m3⟩
    · refine ⟨m1, ?_, m3⟩
      dsimp only
      rw [if_neg q]
      exact m2
