/-! PURE: the small calls keep the relation and answer alike -/
def inX (z : TT) (f a : Nat) : Prop := (f ≤ 7 ∧ f ≠ 3 ∧ a = 0) ∨ (12 ≤ f ∧ f ≤ 14 ∧ (a : Int) < z 0 0) ∨ (15 ≤ f ∧ f ≤ 16 ∧ (a : Int) < z 1 0) ∨ (17 ≤ f ∧ f ≤ 29 ∧ (a : Int) < z 2 0) ∨ (100 ≤ f ∧ (f : Int) < 100 + z 2 0 ∧ a < 4) ∨ (31 ≤ f ∧ f ≤ 34 ∧ (a : Int) < z 3 0)
theorem Rc_congr2 {b b' : Prop} {tm : Nat → Int} {s z s' z' : TT} (h : Rc b tm s z) (hBs : Bd s') (hBz : Bd z') (hs : ∀ f a : Nat, inX z f a → s' f a = s f a) (hz : ∀ f a : Nat, zok f → f ≠ 38 → (a < 120 ∧ (f ≠ 30 → a < 30) ∧ (f ≤ 7 → a = 0) ∧ (f = 16 → a < 6)) → z' f a = z f a) (h38 : (b' → z' 38 0 = 1) ∧ (¬ b' → z' 38 0 = 0)) (hn : ∀ j : Nat, (j : Int) < z 2 0 → ndJ b z j ≤ ndJ b' z j) : Rc b' tm s' z' := by
  obtain ⟨⟨_, hB⟩, ⟨e0, e1, e2, e4, e5, e6, e7⟩, hRR, hRA, hJ, hH, hI, ⟨r1, r2⟩, hIS⟩ := h
  have b0 := bd0 hB 0
  have b1 := bd1 hB 0
  have b2 := bd2 hB 0
  have b3 := bd3 hB 0
  have hZ : ∀ f a : Nat, (f ≤ 7 ∨ (12 ≤ f ∧ f ≤ 29) ∨ (31 ≤ f ∧ f ≤ 36)) → (a < 30 ∧ (f ≤ 7 → a = 0) ∧ (f = 16 → a < 6)) → z' f a = z f a := fun f a q1 q2 => hz f a (by unfold zok; omega) (by omega) (by omega)
  have hZ30 : ∀ j r : Nat, j < 30 → r < 4 → z' 30 (4 * j + r) = z 30 (4 * j + r) := fun j r q1 q2 => hz 30 _ (by unfold zok; omega) (by omega) ⟨by omega, fun q => absurd rfl q, fun q => absurd q (by omega), fun q => absurd q (by omega)⟩
  have qr : roomF z' (z 0 0).toNat = roomF z (z 0 0).toNat := sumN_congr (fun r hr => by rw [hZ 14 r (by omega) (by omega), hZ 12 r (by omega) (by omega)])
  have qc : ∀ j, j < 30 → cmF z' j (z 0 0).toNat = cmF z j (z 0 0).toNat := fun j hj => sumN_congr (fun r hr => by rw [hZ 14 r (by omega) (by omega), hZ30 j r hj (by omega)])
  have q0 := hZ 0 0 (by omega) (by omega)
  have q1 := hZ 1 0 (by omega) (by omega)
  have q2 := hZ 2 0 (by omega) (by omega)
  have q3 := hZ 3 0 (by omega) (by omega)
  have qf : ∀ r, r < 4 → foF z' r = foF z r := fun r hr => by
    unfold foF foS
    rw [hZ 12 r (by omega) (by omega), q2]
    congr 1
    exact sumN_congr (fun j hj => hZ30 j r (by omega) hr)
  refine ⟨⟨hBs, hBz⟩, ?_, ?_, ?_, ?_, ?_, ?_, ?_, ?_⟩
  · refine ⟨?_, ?_, ?_, ?_, ?_, ?_, ?_⟩
    · rw [q0, hs 0 0 (by unfold inX; omega)]; exact e0
    · rw [q1, hs 1 0 (by unfold inX; omega)]; exact e1
    · rw [q2, hs 2 0 (by unfold inX; omega)]; exact e2
    · rw [hZ 4 0 (by omega) (by omega), hs 4 0 (by unfold inX; omega)]; exact e4
    · rw [hZ 5 0 (by omega) (by omega), hs 5 0 (by unfold inX; omega)]; exact e5
    · rw [hZ 6 0 (by omega) (by omega), hs 6 0 (by unfold inX; omega)]; exact e6
    · rw [q0, qr, hs 7 0 (by unfold inX; omega)]; exact e7
  · intro r hr
    rw [q0] at hr
    rw [hZ 12 r (by omega) (by omega), hZ 14 r (by omega) (by omega), qf r (by omega), hs 12 r (by unfold inX; omega), hs 13 r (by unfold inX; omega), hs 14 r (by unfold inX; omega)]
    exact hRR r hr
  · intro a ha
    rw [q1] at ha
    rw [hZ 15 a (by omega) (by omega), hZ 16 a (by omega) (by omega), hs 15 a (by unfold inX; omega), hs 16 a (by unfold inX; omega)]
    exact hRA a ha
  · intro j hj
    rw [q2] at hj
    obtain ⟨g1, g2, g3, g4⟩ := hJ j hj
    refine ⟨fun f hf1 hf2 => ?_, ?_, ?_, fun r hr => ?_⟩
    · rw [hZ f j (by omega) (by omega), hs f j (by unfold inX; omega)]; exact g1 f hf1 hf2
    · rw [q0, qc j (by omega), hs 28 j (by unfold inX; omega)]; exact g2
    · unfold tkU
      rw [hZ 24 j (by omega) (by omega), hZ 25 j (by omega) (by omega), hZ 36 j (by omega) (by omega), hs 29 j (by unfold inX; omega)]; exact g3
    · rw [hZ30 j r (by omega) hr, hs (100 + j) r (by unfold inX; omega)]; exact g4 r hr
  · intro k hk
    rw [q3] at hk
    rw [hZ 31 k (by omega) (by omega), hZ 33 k (by omega) (by omega), hZ 34 k (by omega) (by omega), hs 31 k (by unfold inX; omega), hs 32 k (by unfold inX; omega), hs 33 k (by unfold inX; omega), hs 34 k (by unfold inX; omega)]
    exact hH k hk
  · intro j hj
    rw [q2] at hj
    obtain ⟨i1, i2, i3⟩ := hI j hj
    refine ⟨?_, ?_, ?_⟩
    · unfold IJ1
      rw [hZ 18 j (by omega) (by omega), hZ 27 j (by omega) (by omega), hZ 21 j (by omega) (by omega), hZ 20 j (by omega) (by omega), hZ 22 j (by omega) (by omega), hZ 23 j (by omega) (by omega), hZ 17 j (by omega) (by omega), q1]
      exact i1
    · intro hn1
      rw [hZ 24 j (by omega) (by omega)] at hn1
      obtain ⟨k1, k2, k3, k4, k5⟩ := i2 hn1
      have e : ndJ b' z' j = ndJ b' z j := by
        unfold ndJ
        rw [hZ 27 j (by omega) (by omega), hZ 21 j (by omega) (by omega), hZ 20 j (by omega) (by omega)]
      have := hn j hj
      rw [e, hZ 35 j (by omega) (by omega), hZ 25 j (by omega) (by omega), hZ 36 j (by omega) (by omega), hZ 20 j (by omega) (by omega), hZ 27 j (by omega) (by omega)]
      exact ⟨k1, k2, k3, k4, by omega⟩
    · intro hn
      rw [hZ 24 j (by omega) (by omega)] at hn
      rw [hZ 35 j (by omega) (by omega)]
      exact ⟨(i3 hn).1, fun r hr => by rw [hZ30 j r (by omega) hr]; exact (i3 hn).2 r hr⟩
  · refine ⟨fun r hr => ?_, fun a r ha hr1 hr2 => ?_⟩
    · rw [q0] at hr; rw [qf r (by omega)]; exact r1 r hr
    · rw [q0] at hr1; rw [hZ30 a r ha hr2]; exact r2 a r ha hr1 hr2
  · unfold IS
    rw [q3, hZ 5 0 (by omega) (by omega)]
    exact ⟨hIS.1, hIS.2.1, h38⟩
theorem RJ_tu {X M : TT} (h : RJ X M) {f i g k : Nat} {x y : Int} (hf : f < 12) (hg : g < 12 ∧ g ≠ 0 ∧ g ≠ 2) : RJ (tu X f i x) (tu M g k y) := by
  intro j hj
  rw [tu_ne (by omega)] at hj
  obtain ⟨y1, y2, y3, y4⟩ := h j hj
  have ec : cmF (tu M g k y) j (M 0 0).toNat = cmF M j (M 0 0).toNat := sumN_congr (fun r _ => by rw [tu_ne (by omega), tu_ne (by omega)])
  refine ⟨fun f hf1 hf2 => ?_, ?_, ?_, fun r hr => ?_⟩
  · rw [tu_ne (by omega), tu_ne (by omega)]; exact y1 f hf1 hf2
  · rw [tu_ne (by omega), tu_ne (a := 0) (by omega), ec]; exact y2
  · unfold tkU; rw [tu_ne (by omega), tu_ne (by omega), tu_ne (by omega), tu_ne (by omega)]; exact y3
  · rw [tu_ne (by omega), tu_ne (by omega)]; exact y4 r hr
theorem z1_x {X X' M : TT} (h : ∀ j : Nat, j < 30 → M 2 0 ≤ j → M 24 j = 0 ∧ M 27 j = 0 ∧ M 35 j = 0 ∧ ∀ r, r < 4 → M 30 (4 * j + r) = 0 ∧ X (100 + j) r = 0) (hx : ∀ j r : Nat, X' (100 + j) r = X (100 + j) r) : ∀ j : Nat, j < 30 → M 2 0 ≤ j → M 24 j = 0 ∧ M 27 j = 0 ∧ M 35 j = 0 ∧ ∀ r, r < 4 → M 30 (4 * j + r) = 0 ∧ X' (100 + j) r = 0 := by
  intro j hj hj2
  obtain ⟨g1, g2, g3, g4⟩ := h j hj hj2
  exact ⟨g1, g2, g3, fun r hr => ⟨(g4 r hr).1, by rw [hx]; exact (g4 r hr).2⟩⟩
theorem m_licences {X M : TT} (h : MR X M) {n : Int} (hn : 0 ≤ n ∧ n ≤ 100) : MR (tu X 6 0 n) (tu M 6 0 n) := by
  obtain ⟨⟨⟨⟨hBX, hBM⟩, ⟨e0, e1, e2, e4, e5, e6, e7⟩, hRR, hRA, hJ, hH, hI, hIR, hIS⟩, h3⟩, h89, ht, z1, z2, z3⟩ := h
  exact ⟨⟨⟨⟨bd_tu hBX (fun _ => hn), bd_tu hBM (fun _ => hn)⟩, ⟨e0, e1, e2, e4, e5, by rw [tu_eq, tu_eq], e7⟩, hRR, hRA, RJ_tu hJ (by omega) (by omega), hH, hI, hIR, hIS⟩, h3⟩, h89, ht, z1_x z1 (fun j r => tu_ne (by omega)), z2, z3⟩
theorem m_half {X M : TT} (h : MR X M) {n : Int} (hn : 1 ≤ n ∧ n ≤ 1000) : MR (tu X 5 0 n) (tu M 5 0 n) := by
  obtain ⟨⟨⟨⟨hBX, hBM⟩, ⟨e0, e1, e2, e4, e5, e6, e7⟩, hRR, hRA, hJ, hH, hI, hIR, hIS⟩, h3⟩, h89, ht, z1, z2, z3⟩ := h
  have hn2 : (0 : Int) ≤ n ∧ n ≤ 1000 := by omega
  exact ⟨⟨⟨⟨bd_tu hBX (fun _ => hn2), bd_tu hBM (fun _ => hn2)⟩, ⟨e0, e1, e2, e4, by rw [tu_eq, tu_eq], e6, e7⟩, hRR, hRA, RJ_tu hJ (by omega) (by omega), hH, hI, hIR, ⟨hIS.1, hn.1, hIS.2.2⟩⟩, h3⟩, h89, ht, z1_x z1 (fun j r => tu_ne (by omega)), z2, z3⟩
theorem m_account {X M : TT} (h : MR X M) {n : Int} (hn : 1 ≤ n ∧ n ≤ 100) (h1 : M 1 0 < 6) : MR (aaF X n) (tu (tu M 15 (M 1 0).toNat n) 1 0 (M 1 0 + 1)) := by
  obtain ⟨⟨⟨⟨hBX, hBM⟩, ⟨e0, e1, e2, e4, e5, e6, e7⟩, hRR, hRA, hJ, hH, hI, hIR, hIS⟩, h3⟩, h89, ht, z1, z2, z3⟩ := h
  have b1 := bd1 hBM 0
  have hn2 : (0 : Int) ≤ n ∧ n ≤ 100 := by omega
  have hc : (0 : Int) ≤ M 1 0 + 1 ∧ M 1 0 + 1 ≤ 6 := by omega
  unfold aaF
  rw [e1]
  refine ⟨⟨⟨⟨bd_tu (bd_tu hBX (fun _ => hn2)) (fun _ => hc), bd_tu (bd_tu hBM (fun _ => hn2)) (fun _ => hc)⟩, ⟨e0, by rw [tu_eq, tu_eq], e2, e4, e5, e6, e7⟩, hRR, ?_, ?_, hH, ?_, hIR, hIS⟩, h3⟩, h89, ht, z1_x z1 (fun j r => by rw [tu_ne (by omega), tu_ne (by omega)]), z2, ?_⟩
  · intro a ha
    rw [tu_eq] at ha
    by_cases q : a = (M 1 0).toNat
    · subst q
      have := z3 (M 1 0).toNat (by omega) (by omega)
      refine ⟨?_, ?_⟩
      · rw [tu_ne (a := 15) (by omega), tu_eq, tu_ne (a := 15) (by omega), tu_eq]
      · rw [tu_ne (by omega), tu_ne (by omega), tu_ne (by omega), tu_ne (by omega), this.1, this.2]
    · obtain ⟨g1, g2⟩ := hRA a (by omega)
      refine ⟨?_, ?_⟩
      · rw [tu_ne (by omega), tu_ne (by omega), tu_ne (by omega), tu_ne (by omega)]; exact g1
      · rw [tu_ne (by omega), tu_ne (by omega), tu_ne (by omega), tu_ne (by omega)]; exact g2
  · intro j hj
    obtain ⟨y1, y2, y3, y4⟩ := hJ j hj
    refine ⟨fun f hf1 hf2 => ?_, y2, y3, fun r hr => ?_⟩
    · rw [tu_ne (by omega), tu_ne (by omega), tu_ne (by omega), tu_ne (by omega)]; exact y1 f hf1 hf2
    · rw [tu_ne (by omega), tu_ne (by omega), tu_ne (by omega), tu_ne (by omega)]; exact y4 r hr
  · intro j hj
    obtain ⟨⟨i1, i2, i3, i4, i5, i6⟩, i7⟩ := hI j hj
    exact ⟨⟨i1, i2, i3, i4, i5, by rw [tu_eq, tu_ne (by omega), tu_ne (by omega)]; omega⟩, i7⟩
  · intro a ha ha2
    rw [tu_eq] at ha2
    exact z3 a ha (by omega)
theorem m_behind {X M : TT} (h : MR X M) {j : Nat} {k : Int} (hj : (j : Int) < M 2 0) (hk : -1 ≤ k ∧ k < j) : MR (tu X 23 j k) (tu M 23 j k) := by
  obtain ⟨⟨⟨⟨hBX, hBM⟩, ⟨e0, e1, e2, e4, e5, e6, e7⟩, hRR, hRA, hJ, hH, hI, hIR, hIS⟩, h3⟩, h89, ht, z1, z2, z3⟩ := h
  have b2 := bd2 hBM 0
  have hc : (-1 : Int) ≤ k ∧ k ≤ 29 := by omega
  refine ⟨⟨⟨⟨bd_tu hBX (fun _ => hc), bd_tu hBM (fun _ => hc)⟩, ⟨e0, e1, e2, e4, e5, e6, e7⟩, hRR, hRA, ?_, hH, ?_, hIR, hIS⟩, h3⟩, h89, ht, z1_x z1 (fun j r => tu_ne (by omega)), z2, z3⟩
  · intro i hi
    obtain ⟨y1, y2, y3, y4⟩ := hJ i hi
    refine ⟨fun f hf1 hf2 => ?_, y2, y3, fun r hr => ?_⟩
    · by_cases q : f = 23 ∧ i = j
      · obtain ⟨rfl, rfl⟩ := q
        rw [tu_eq, tu_eq]
      · rw [tu_ne q, tu_ne q]; exact y1 f hf1 hf2
    · rw [tu_ne (by omega)]; exact y4 r hr
  · intro i hi
    obtain ⟨⟨i1, i2, i3, i4, i5, i6⟩, i7⟩ := hI i hi
    refine ⟨⟨i1, i2, i3, i4, ?_, i6⟩, i7⟩
    by_cases q : i = j
    · subst q
      rw [tu_eq]; omega
    · rw [tu_ne (by omega)]; exact i5
theorem rec_Rc {tm : Nat → Int} {Y M : TT} (hB : Bd Y ∧ Bd M) (hS : Y 0 0 = M 0 0 ∧ Y 1 0 = M 1 0 ∧ Y 2 0 = M 2 0 ∧ Y 4 0 = M 4 0 ∧ Y 5 0 = M 5 0 ∧ Y 6 0 = M 6 0) (hRR : RR Y M) (hRA : RA Y M) (hJ : ∀ j : Nat, (j : Int) < M 2 0 → (∀ f, 17 ≤ f → f ≤ 27 → Y f j = M f j) ∧ Y 29 j = tkU M j ∧ ∀ r, r < 4 → Y (100 + j) r = M 30 (4 * j + r)) (hH : RH Y M) (hI : IJ False tm M) (hIR : IR M) (hIS : IS False M) : Rc False tm (recF Y) M := by
  obtain ⟨e0, e1, e2, e4, e5, e6⟩ := hS
  have b0 := bd0 hB.2 0
  have n_ : ∀ f a, f ≠ 7 → f ≠ 28 → recF Y f a = Y f a := fun f a q1 q2 => rec2_ne (by omega) (by omega)
  refine ⟨⟨rec2_bd hB.1 _, hB.2⟩, ⟨?_, ?_, ?_, ?_, ?_, ?_, ?_⟩, ?_, ?_, ?_, ?_, hI, hIR, hIS⟩
  · rw [n_ _ _ (by omega) (by omega)]; exact e0
  · rw [n_ _ _ (by omega) (by omega)]; exact e1
  · rw [n_ _ _ (by omega) (by omega)]; exact e2
  · rw [n_ _ _ (by omega) (by omega)]; exact e4
  · rw [n_ _ _ (by omega) (by omega)]; exact e5
  · rw [n_ _ _ (by omega) (by omega)]; exact e6
  · unfold recF rec2
    rw [if_pos ⟨rfl, rfl⟩, e0]
    exact sumN_congr (fun r hr => by
      obtain ⟨g1, g2, _⟩ := hRR r (by omega)
      rw [g1, g2])
  · intro r hr
    rw [n_ _ _ (by omega) (by omega), n_ _ _ (by omega) (by omega), n_ _ _ (by omega) (by omega)]
    exact hRR r hr
  · intro a ha
    rw [n_ _ _ (by omega) (by omega), n_ _ _ (by omega) (by omega)]
    exact hRA a ha
  · intro j hj
    obtain ⟨g1, g3, g4⟩ := hJ j hj
    refine ⟨fun f hf1 hf2 => ?_, ?_, ?_, fun r hr => ?_⟩
    · rw [n_ _ _ (by omega) (by omega)]; exact g1 f hf1 hf2
    · unfold recF rec2
      rw [if_neg (by omega), if_pos ⟨rfl, by omega⟩, e0]
      exact sumN_congr (fun r hr => by
        obtain ⟨_, k2, _⟩ := hRR r (by omega)
        rw [k2, g4 r (by omega)])
    · rw [n_ _ _ (by omega) (by omega)]; exact g3
    · rw [n_ _ _ (by omega) (by omega)]; exact g4 r hr
  · intro k hk
    rw [n_ _ _ (by omega) (by omega), n_ _ _ (by omega) (by omega), n_ _ _ (by omega) (by omega), n_ _ _ (by omega) (by omega)]
    exact hH k hk
theorem m_drain {X M : TT} (h : MR X M) {r : Nat} {v : Int} (hr : (r : Int) < M 0 0) (hv : v = 0 ∨ v = 1) : MR (recF (tu X 14 r v)) (tu M 14 r v) := by
  obtain ⟨⟨⟨⟨hBX, hBM⟩, ⟨e0, e1, e2, e4, e5, e6, e7⟩, hRR, hRA, hJ, hH, hI, hIR, hIS⟩, h3⟩, h89, ht, z1, z2, z3⟩ := h
  have hv2 : (0 : Int) ≤ v ∧ v ≤ 1 := by omega
  have n_ : ∀ f a, f ≠ 7 → f ≠ 28 → recF (tu X 14 r v) f a = tu X 14 r v f a := fun f a q1 q2 => rec2_ne (by omega) (by omega)
  refine ⟨⟨rec_Rc ⟨bd_tu hBX (fun _ => hv2), bd_tu hBM (fun _ => hv2)⟩ ⟨e0, e1, e2, e4, e5, e6⟩ ?_ hRA ?_ hH hI hIR hIS, ?_⟩, ?_, ht, ?_, ?_, ?_⟩
  · intro k hk
    obtain ⟨g1, g2, g3⟩ := hRR k hk
    refine ⟨g1, ?_, g3⟩
    by_cases q : k = r
    · subst q; rw [tu_eq, tu_eq]
    · rw [tu_ne (by omega), tu_ne (by omega)]; exact g2
  · intro j hj
    obtain ⟨y1, y2, y3, y4⟩ := hJ j hj
    refine ⟨fun f hf1 hf2 => ?_, y3, fun k hk => ?_⟩
    · rw [tu_ne (by omega), tu_ne (by omega)]; exact y1 f hf1 hf2
    · rw [tu_ne (by omega)]; exact y4 k hk
  · rw [n_ _ _ (by omega) (by omega)]; exact h3
  · rw [n_ _ _ (by omega) (by omega), n_ _ _ (by omega) (by omega)]; exact h89
  · intro j hj hj2
    obtain ⟨g1, g2, g3, g4⟩ := z1 j hj hj2
    refine ⟨g1, g2, g3, fun k hk => ⟨(g4 k hk).1, ?_⟩⟩
    rw [n_ _ _ (by omega) (by omega), tu_ne (by omega)]; exact (g4 k hk).2
  · intro k hk hk2
    have hk3 : M 0 0 ≤ (k : Int) := hk2
    rw [n_ _ _ (by omega) (by omega), tu_ne (by omega), tu_ne (by omega)]
    exact z2 k hk hk3
  · intro a ha ha2
    rw [n_ _ _ (by omega) (by omega)]
    exact z3 a ha ha2
theorem m_rack {X M : TT} (h : MR X M) {n : Int} (hn : 1 ≤ n ∧ n ≤ 16) (h4 : M 0 0 < 4) : MR (arF X n) (tu (tu M 12 (M 0 0).toNat n) 0 0 (M 0 0 + 1)) := by
  obtain ⟨⟨⟨⟨hBX, hBM⟩, ⟨e0, e1, e2, e4, e5, e6, e7⟩, hRR, hRA, hJ, hH, hI, ⟨r1, r2⟩, hIS⟩, h3⟩, h89, ht, z1, z2, z3⟩ := h
  have b0 := bd0 hBM 0
  have b2 := bd2 hBM 0
  have hn2 : (0 : Int) ≤ n ∧ n ≤ 16 := by omega
  have hc : (0 : Int) ≤ M 0 0 + 1 ∧ M 0 0 + 1 ≤ 4 := by omega
  unfold arF
  rw [e0]
  have n_ : ∀ f a, f ≠ 7 → f ≠ 28 → recF (tu (tu (tu X 12 (M 0 0).toNat n) 13 (M 0 0).toNat n) 0 0 (M 0 0 + 1)) f a = tu (tu (tu X 12 (M 0 0).toNat n) 13 (M 0 0).toNat n) 0 0 (M 0 0 + 1) f a := fun f a q1 q2 => rec2_ne (by omega) (by omega)
  have hfo : ∀ r : Nat, r < 4 → foF (tu (tu M 12 (M 0 0).toNat n) 0 0 (M 0 0 + 1)) r = if r = (M 0 0).toNat then n else foF M r := by
    intro r hr
    have es : foS (tu (tu M 12 (M 0 0).toNat n) 0 0 (M 0 0 + 1)) r (M 2 0).toNat = foS M r (M 2 0).toNat := rfl
    unfold foF
    rw [tu_ne (a := 2) (by omega), tu_ne (a := 2) (by omega), es, tu_ne (by omega)]
    by_cases q : r = (M 0 0).toNat
    · subst q
      rw [tu_eq, if_pos rfl]
      have : foS M (M 0 0).toNat (M 2 0).toNat = 0 := by
        rw [← sumN_zero (M 2 0).toNat]
        exact sumN_congr (fun j hj => r2 j _ (by omega) (by omega) (by omega))
      omega
    · rw [tu_ne (by omega), if_neg q]
  refine ⟨⟨rec_Rc ⟨bd_tu (bd_tu (bd_tu hBX (fun _ => hn2)) (fun _ => hn2)) (fun _ => hc), bd_tu (bd_tu hBM (fun _ => hn2)) (fun _ => hc)⟩ ⟨by rw [tu_eq, tu_eq], e1, e2, e4, e5, e6⟩ ?_ hRA ?_ hH hI ⟨?_, ?_⟩ hIS, ?_⟩, ?_, ht, ?_, ?_, ?_⟩
  · intro k hk
    rw [tu_eq] at hk
    rw [hfo k (by omega)]
    by_cases q : k = (M 0 0).toNat
    · subst q
      rw [if_pos rfl]
      have := z2 (M 0 0).toNat (by omega) (by omega)
      refine ⟨?_, ?_, ?_⟩
      · rw [tu_ne (by omega), tu_ne (by omega), tu_eq, tu_ne (by omega), tu_eq]
      · rw [tu_ne (by omega), tu_ne (by omega), tu_ne (by omega), tu_ne (by omega), tu_ne (by omega), this.1, this.2]
      · rw [tu_ne (by omega), tu_eq]
    · rw [if_neg q]
      obtain ⟨g1, g2, g3⟩ := hRR k (by omega)
      refine ⟨?_, ?_, ?_⟩
      · rw [tu_ne (by omega), tu_ne (by omega), tu_ne (by omega), tu_ne (by omega), tu_ne (by omega)]; exact g1
      · rw [tu_ne (by omega), tu_ne (by omega), tu_ne (by omega), tu_ne (by omega), tu_ne (by omega)]; exact g2
      · rw [tu_ne (by omega), tu_ne (by omega), tu_ne (by omega)]; exact g3
  · intro j hj
    obtain ⟨y1, y2, y3, y4⟩ := hJ j hj
    refine ⟨fun f hf1 hf2 => ?_, y3, fun k hk => ?_⟩
    · rw [tu_ne (by omega), tu_ne (by omega), tu_ne (by omega), tu_ne (by omega), tu_ne (by omega)]; exact y1 f hf1 hf2
    · rw [tu_ne (by omega), tu_ne (by omega), tu_ne (by omega)]; exact y4 k hk
  · intro r hr
    rw [tu_eq] at hr
    rw [hfo r (by omega)]
    by_cases q : r = (M 0 0).toNat
    · rw [if_pos q]; omega
    · rw [if_neg q]; exact r1 r (by omega)
  · intro a r ha hr1 hr2
    rw [tu_eq] at hr1
    exact r2 a r ha (by omega) hr2
  · rw [n_ _ _ (by omega) (by omega)]; exact h3
  · rw [n_ _ _ (by omega) (by omega), n_ _ _ (by omega) (by omega)]; exact h89
  · intro j hj hj2
    obtain ⟨g1, g2, g3, g4⟩ := z1 j hj hj2
    refine ⟨g1, g2, g3, fun k hk => ⟨(g4 k hk).1, ?_⟩⟩
    rw [n_ _ _ (by omega) (by omega), tu_ne (by omega), tu_ne (by omega), tu_ne (by omega)]; exact (g4 k hk).2
  · intro k hk hk2
    rw [tu_eq] at hk2
    rw [n_ _ _ (by omega) (by omega), tu_ne (by omega), tu_ne (by omega), tu_ne (by omega), tu_ne (by omega), tu_ne (by omega)]
    exact z2 k hk (by omega)
  · intro a ha ha2
    rw [n_ _ _ (by omega) (by omega)]
    exact z3 a ha ha2
