/-! PURE: what does not matter to the relation; the queue -/
def zok (f : Nat) : Prop := f ≤ 7 ∨ (12 ≤ f ∧ f ≤ 36) ∨ f = 38
theorem Rc_congr {b : Prop} {tm : Nat → Int} {s z s' z' : TT} (h : Rc b tm s z) (hBs : Bd s') (hBz : Bd z') (hs : ∀ f a : Nat, (f ≠ 3 ∧ f ≠ 8 ∧ f ≠ 9 ∧ f ≠ 10 ∧ f ≠ 11) → ((31 ≤ f ∧ f ≤ 34) → (a : Int) < z 3 0) → s' f a = s f a) (hz : ∀ f a : Nat, zok f → z' f a = z f a) : Rc b tm s' z' := by
  obtain ⟨⟨_, _⟩, ⟨e0, e1, e2, e4, e5, e6, e7⟩, hRR, hRA, hJ, hH, hI, ⟨r1, r2⟩, hIS⟩ := h
  have z_ : ∀ f a, zok f → z' f a = z f a := hz
  have qr : roomF z' (z 0 0).toNat = roomF z (z 0 0).toNat := sumN_congr (fun r _ => by rw [hz 14 r (by unfold zok; omega), hz 12 r (by unfold zok; omega)])
  have qc : ∀ j, cmF z' j (z 0 0).toNat = cmF z j (z 0 0).toNat := fun j => sumN_congr (fun r _ => by rw [hz 14 r (by unfold zok; omega), hz 30 _ (by unfold zok; omega)])
  have qf : ∀ r, foF z' r = foF z r := fun r => by
    unfold foF foS
    rw [hz 12 r (by unfold zok; omega), hz 2 0 (by unfold zok; omega)]
    congr 1
    exact sumN_congr (fun j _ => hz 30 _ (by unfold zok; omega))
  have q0 := hz 0 0 (by unfold zok; omega)
  have q1 := hz 1 0 (by unfold zok; omega)
  have q2 := hz 2 0 (by unfold zok; omega)
  have q3 := hz 3 0 (by unfold zok; omega)
  refine ⟨⟨hBs, hBz⟩, ?_, ?_, ?_, ?_, ?_, ?_, ?_, ?_⟩
  · refine ⟨?_, ?_, ?_, ?_, ?_, ?_, ?_⟩
    · rw [q0, hs 0 0 (by omega) (by omega)]; exact e0
    · rw [q1, hs 1 0 (by omega) (by omega)]; exact e1
    · rw [q2, hs 2 0 (by omega) (by omega)]; exact e2
    · rw [hz 4 0 (by unfold zok; omega), hs 4 0 (by omega) (by omega)]; exact e4
    · rw [hz 5 0 (by unfold zok; omega), hs 5 0 (by omega) (by omega)]; exact e5
    · rw [hz 6 0 (by unfold zok; omega), hs 6 0 (by omega) (by omega)]; exact e6
    · rw [q0, qr, hs 7 0 (by omega) (by omega)]; exact e7
  · intro r hr
    rw [q0] at hr
    rw [hz 12 r (by unfold zok; omega), hz 14 r (by unfold zok; omega), qf, hs 12 r (by omega) (by omega), hs 13 r (by omega) (by omega), hs 14 r (by omega) (by omega)]
    exact hRR r hr
  · intro a ha
    rw [q1] at ha
    rw [hz 15 a (by unfold zok; omega), hz 16 a (by unfold zok; omega), hs 15 a (by omega) (by omega), hs 16 a (by omega) (by omega)]
    exact hRA a ha
  · intro j hj
    rw [q2] at hj
    obtain ⟨g1, g2, g3, g4⟩ := hJ j hj
    refine ⟨fun f hf1 hf2 => ?_, ?_, ?_, fun r hr => ?_⟩
    · rw [hz f j (by unfold zok; omega), hs f j (by omega) (by omega)]; exact g1 f hf1 hf2
    · rw [q0, qc, hs 28 j (by omega) (by omega)]; exact g2
    · unfold tkU
      rw [hz 24 j (by unfold zok; omega), hz 25 j (by unfold zok; omega), hz 36 j (by unfold zok; omega), hs 29 j (by omega) (by omega)]; exact g3
    · rw [hz 30 _ (by unfold zok; omega), hs (100 + j) r (by omega) (by omega)]; exact g4 r hr
  · intro k hk
    rw [q3] at hk
    rw [hz 31 k (by unfold zok; omega), hz 33 k (by unfold zok; omega), hz 34 k (by unfold zok; omega), hs 31 k (by omega) (fun _ => hk), hs 32 k (by omega) (fun _ => hk), hs 33 k (by omega) (fun _ => hk), hs 34 k (by omega) (fun _ => hk)]
    exact hH k hk
  · intro j hj
    rw [q2] at hj
    obtain ⟨i1, i2, i3⟩ := hI j hj
    refine ⟨?_, ?_, ?_⟩
    · unfold IJ1
      rw [hz 18 j (by unfold zok; omega), hz 27 j (by unfold zok; omega), hz 21 j (by unfold zok; omega), hz 20 j (by unfold zok; omega), hz 22 j (by unfold zok; omega), hz 23 j (by unfold zok; omega), hz 17 j (by unfold zok; omega), q1]
      exact i1
    · unfold IJ2 ndJ
      rw [hz 24 j (by unfold zok; omega), hz 35 j (by unfold zok; omega), hz 25 j (by unfold zok; omega), hz 36 j (by unfold zok; omega), hz 20 j (by unfold zok; omega), hz 27 j (by unfold zok; omega), hz 21 j (by unfold zok; omega)]
      exact i2
    · intro hn
      rw [hz 24 j (by unfold zok; omega)] at hn
      rw [hz 35 j (by unfold zok; omega)]
      exact ⟨(i3 hn).1, fun r hr => by rw [hz 30 _ (by unfold zok; omega)]; exact (i3 hn).2 r hr⟩
  · refine ⟨fun r hr => ?_, fun a r ha hr1 hr2 => ?_⟩
    · rw [q0] at hr; rw [qf]; exact r1 r hr
    · rw [q0] at hr1; rw [hz 30 _ (by unfold zok; omega)]; exact r2 a r ha hr1 hr2
  · unfold IS
    rw [q3, hz 5 0 (by unfold zok; omega), hz 38 0 (by unfold zok; omega)]
    exact hIS
theorem insQ_hi {lt : Int → Prop} {x : Int} : ∀ (p : Nat) (q : Nat → Int) (a : Nat), p < a → insQ lt x q p a = q a := by
  intro p
  induction p with
  | zero => intro q a h; unfold insQ qset; rw [if_neg (by omega)]
  | succ p ih =>
    intro q a h
    unfold insQ
    by_cases c : lt (q p)
    · rw [pif_t c, ih _ a (by omega)]; unfold qset; rw [if_neg (by omega)]
    · rw [pif_f c]; unfold qset; rw [if_neg (by omega)]
theorem insQ_eq {lt lt' : Int → Prop} {x : Int} : ∀ (p : Nat) (q q' : Nat → Int), (∀ a, a < p → q a = q' a ∧ (lt (q a) ↔ lt' (q a))) → ∀ a, a ≤ p → insQ lt x q p a = insQ lt' x q' p a := by
  intro p
  induction p with
  | zero =>
    intro q q' _ a ha
    unfold insQ qset
    rw [if_pos (by omega), if_pos (by omega)]
  | succ p ih =>
    intro q q' h a ha
    obtain ⟨g1, g2⟩ := h p (by omega)
    unfold insQ
    by_cases c : lt (q p)
    · rw [pif_t c, pif_t (by rw [← g1]; exact g2.mp c)]
      by_cases e : a ≤ p
      · refine ih _ _ (fun a2 ha2 => ?_) a e
        unfold qset
        rw [if_neg (by omega), if_neg (by omega)]
        exact h a2 (by omega)
      · rw [insQ_hi p _ a (by omega), insQ_hi p _ a (by omega)]
        unfold qset
        rw [if_pos (by omega), if_pos (by omega)]
        exact g1
    · rw [pif_f c, pif_f (by rw [← g1]; exact fun z => c (g2.mpr z))]
      unfold qset
      by_cases e : a = p + 1
      · rw [if_pos e, if_pos e]
      · rw [if_neg e, if_neg e]; exact (h a (by omega)).1
theorem insQ_char {lt : Int → Prop} {x : Int} : ∀ (p : Nat) (q : Nat → Int), ∃ p0, p0 ≤ p ∧ ∀ a, a ≤ p → insQ lt x q p a = if a < p0 then q a else if a = p0 then x else q (a - 1) := by
  intro p
  induction p with
  | zero =>
    intro q
    refine ⟨0, Nat.le_refl _, fun a ha => ?_⟩
    unfold insQ qset
    rw [if_pos (by omega), if_neg (by omega), if_pos (by omega)]
  | succ p ih =>
    intro q
    unfold insQ
    by_cases c : lt (q p)
    · obtain ⟨p0, h1, h2⟩ := ih (qset q (p + 1) (q p))
      refine ⟨p0, by omega, fun a ha => ?_⟩
      rw [pif_t c]
      by_cases e : a ≤ p
      · rw [h2 a e]
        unfold qset
        rw [if_neg (show ¬ a = p + 1 by omega), if_neg (show ¬ a - 1 = p + 1 by omega)]
      · rw [insQ_hi p _ a (by omega)]
        unfold qset
        rw [if_pos (by omega), if_neg (by omega), if_neg (by omega), show a - 1 = p by omega]
    · refine ⟨p + 1, Nat.le_refl _, fun a ha => ?_⟩
      rw [pif_f c]
      unfold qset
      by_cases e : a = p + 1
      · rw [if_pos e, if_neg (by omega), if_pos e]
      · rw [if_neg e, if_pos (by omega)]
/-- both queues, once the first i jobs were looked at -/
def QL (s z : TT) (i : Nat) : Prop := s 10 0 = z 10 0 ∧ (0 ≤ z 10 0 ∧ z 10 0 ≤ i) ∧ ∀ a, a < (z 10 0).toNat → s 11 a = z 11 a ∧ (0 ≤ z 11 a ∧ z 11 a < i) ∧ z 24 (z 11 a).toNat = 0 ∧ ∀ c, c < a → z 11 c ≠ z 11 a
theorem ul_eq {b : Prop} {tm : Nat → Int} {X M : TT} (h : Rc b tm X M) {x y : Nat} (hx : (x : Int) < M 2 0) (hy : (y : Int) < M 2 0) : ulP X (X 17 x).toNat (X 17 y).toNat ↔ ulP M (M 17 x).toNat (M 17 y).toNat := by
  obtain ⟨⟨_, hB⟩, _, _, hRA, hJ, _, hI, _⟩ := h
  have g1 := (hJ x hx).1 17 (by decide) (by decide)
  have g2 := (hJ y hy).1 17 (by decide) (by decide)
  have b1 := bd17 hB x
  have b2 := bd17 hB y
  have i1 := (hI x hx).1.2.2.2.2.2
  have i2 := (hI y hy).1.2.2.2.2.2
  obtain ⟨a1, a2⟩ := hRA (M 17 x).toNat (by omega)
  obtain ⟨a3, a4⟩ := hRA (M 17 y).toNat (by omega)
  unfold ulP
  rw [g1, g2, a1, a2, a3, a4]
theorem mb_eq {b : Prop} {tm : Nat → Int} {X M : TT} (h : Rc b tm X M) {i : Nat} (hi : (i : Int) < M 2 0) : mbP X i ↔ mbM M i := by
  obtain ⟨⟨_, hB⟩, ⟨_, _, e2, _⟩, _, _, hJ, _, hI, _⟩ := h
  have g1 := (hJ i hi).1 24 (by decide) (by decide)
  have g2 := (hJ i hi).1 23 (by decide) (by decide)
  have i1 := (hI i hi).1.2.2.2.2.1
  have b1 := bd23 hB i
  unfold mbP mbM
  rw [g1, g2, e2]
  by_cases c : M 23 i = -1
  · exact ⟨fun z => ⟨z.1, Or.inl c⟩, fun z => ⟨z.1, Or.inl (by omega)⟩⟩
  · have g3 := (hJ (M 23 i).toNat (by omega)).1 24 (by decide) (by decide)
    rw [g3]
    exact ⟨fun z => ⟨z.1, Or.inr (z.2.elim (fun w => absurd ⟨by omega, by omega⟩ w) id)⟩, fun z => ⟨z.1, Or.inr (z.2.elim (fun w => absurd w c) id)⟩⟩
theorem QL_all {b : Prop} {tm : Nat → Int} {X M : TT} (h : Rc b tm X M) : ∀ i : Nat, (i : Int) ≤ M 2 0 → QL (lnF X i) (fqF M i) i := by
  obtain ⟨⟨hBX, hBM⟩, ⟨_, _, e2, _⟩, _, _, hJ, _⟩ := id h
  have b2 := bd2 hBM 0
  intro i
  induction i with
  | zero =>
    intro _
    unfold lnF fqF QL
    rw [tu_eq, tu_eq]
    exact ⟨rfl, ⟨by omega, by omega⟩, fun a ha => by omega⟩
  | succ i ih =>
    intro hi
    obtain ⟨h1, h2, h3⟩ := ih (by omega)
    have hmb := mb_eq h (i := i) (by omega)
    have e1 : mbP (lnF X i) i ↔ mbP X i := by
      unfold mbP
      rw [lnF_ne (by decide) (by decide), lnF_ne (by decide) (by decide), lnF_ne (by decide) (by decide), lnF_ne (by decide) (by decide)]
    have e3 : mbM (fqF M i) i ↔ mbM M i := by
      unfold mbM
      rw [fqF_ne (by decide) (by decide), fqF_ne (by decide) (by decide), fqF_ne (by decide) (by decide)]
    rw [lnF_s, fqF_s]
    by_cases c : mbM M i
    · rw [pif_t (e1.mpr (hmb.mpr c)), pif_t (e3.mpr c)]
      have hk : ∀ a, a < (fqF M i 10 0).toNat → lnF X i 11 a = fqF M i 11 a ∧ (ltQ (lnF X i) i (lnF X i 11 a) ↔ iaP (fqF M i) i (lnF X i 11 a).toNat) := by
        intro a ha
        obtain ⟨g1, g2, g3, g4⟩ := h3 a ha
        refine ⟨g1, ?_⟩
        rw [g1]
        have u := ul_eq h (x := i) (y := (fqF M i 11 a).toNat) (by omega) (by omega)
        unfold ltQ iaP ulP
        unfold ulP at u
        simp only [lnF_ne (show (17 : Nat) ≠ 11 by decide) (show (17 : Nat) ≠ 10 by decide), lnF_ne (show (16 : Nat) ≠ 11 by decide) (show (16 : Nat) ≠ 10 by decide), lnF_ne (show (15 : Nat) ≠ 11 by decide) (show (15 : Nat) ≠ 10 by decide), fqF_ne (show (17 : Nat) ≠ 11 by decide) (show (17 : Nat) ≠ 10 by decide), fqF_ne (show (16 : Nat) ≠ 11 by decide) (show (16 : Nat) ≠ 10 by decide), fqF_ne (show (15 : Nat) ≠ 11 by decide) (show (15 : Nat) ≠ 10 by decide)]
        exact ⟨fun w => Or.inl (u.mp w), fun w => w.elim (fun w => u.mpr w) (fun w => absurd w.2 (by omega))⟩
      have hq : ∀ a, a ≤ (fqF M i 10 0).toNat → pqF (lnF X i) i 11 a = pqM (fqF M i) i 11 a := by
        intro a ha
        unfold pqF pqM
        rw [tu_ne (by omega), tu_ne (by omega), setQ_11, setQ_11, h1]
        exact insQ_eq _ _ _ hk a ha
      obtain ⟨p0, hp0, hch⟩ := insQ_char (lt := fun y => iaP (fqF M i) i y.toNat) (x := (i : Int)) (fqF M i 10 0).toNat (fqF M i 11)
      have hval : ∀ a, a ≤ (fqF M i 10 0).toNat → pqM (fqF M i) i 11 a = if a < p0 then fqF M i 11 a else if a = p0 then (i : Int) else fqF M i 11 (a - 1) := by
        intro a ha
        unfold pqM
        rw [tu_ne (by omega), setQ_11]
        exact hch a ha
      have h24 : ∀ a, pqM (fqF M i) i 24 a = M 24 a := fun a => by rw [pqM_ne (by decide) (by decide), fqF_ne (by decide) (by decide)]
      have k24 : ∀ a, fqF M i 24 a = M 24 a := fun a => fqF_ne (by decide) (by decide) i
      unfold QL
      rw [pqF_10, pqM_10, h1]
      refine ⟨rfl, ⟨by omega, by omega⟩, fun a ha => ⟨hq a (by omega), ?_, ?_, fun d hd => ?_⟩⟩
      · rw [hval a (by omega)]
        by_cases q1 : a < p0
        · rw [if_pos q1]; have := (h3 a (by omega)).2.1; omega
        · rw [if_neg q1]
          by_cases q2 : a = p0
          · rw [if_pos q2]; omega
          · rw [if_neg q2]; have := (h3 (a - 1) (by omega)).2.1; omega
      · rw [hval a (by omega), h24]
        by_cases q1 : a < p0
        · rw [if_pos q1, ← k24]; exact (h3 a (by omega)).2.2.1
        · rw [if_neg q1]
          by_cases q2 : a = p0
          · rw [if_pos q2]; exact c.1
          · rw [if_neg q2, ← k24]; exact (h3 (a - 1) (by omega)).2.2.1
      · have hlo : ∀ e, e < (fqF M i 10 0).toNat → fqF M i 11 e < i := fun e he => (h3 e he).2.1.2
        have hds : ∀ e f, e < f → f < (fqF M i 10 0).toNat → fqF M i 11 e ≠ fqF M i 11 f := fun e f hef hf => (h3 f hf).2.2.2 e hef
        rw [hval a (by omega), hval d (by omega)]
        by_cases q1 : a < p0
        · rw [if_pos q1, if_pos (by omega)]; exact hds d a hd (by omega)
        · rw [if_neg q1]
          by_cases q2 : a = p0
          · rw [if_pos q2, if_pos (by omega)]; have := hlo d (by omega); omega
          · rw [if_neg q2]
            have g9 := hlo (a - 1) (by omega)
            by_cases q3 : d < p0
            · rw [if_pos q3]; exact hds d (a - 1) (by omega) (by omega)
            · rw [if_neg q3]
              by_cases q4 : d = p0
              · rw [if_pos q4]; omega
              · rw [if_neg q4]; exact hds (d - 1) (a - 1) (by omega) (by omega)
    · rw [pif_f (fun z => c (hmb.mp (e1.mp z))), pif_f (fun z => c (e3.mp z))]
      exact ⟨h1, ⟨h2.1, by omega⟩, fun a ha => by
        obtain ⟨g1, g2, g3, g4⟩ := h3 a ha
        exact ⟨g1, ⟨g2.1, by omega⟩, g3, g4⟩⟩
