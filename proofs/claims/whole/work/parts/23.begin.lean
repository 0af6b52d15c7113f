/-! PURE: a job begins on both sides -/
theorem bit_lt {c n r : Nat} (hc : c < 2 ^ n) (hb : (c >>> r) % 2 = 1) : r < n := by
  apply Classical.byContradiction
  intro hr
  have h1 : 2 ^ n ≤ 2 ^ r := Nat.pow_le_pow_right (by decide) (by omega)
  rw [Nat.shiftRight_eq_div_pow, Nat.div_eq_of_lt (by omega)] at hb
  omega
theorem cmF_bd {z : TT} (hB : Bd z) {j n : Nat} (hn : n ≤ 4) : 0 ≤ cmF z j n ∧ cmF z j n ≤ 64 := by
  have h := sumN_bd (f := fun r => if z 14 r = 0 then z 30 (4 * j + r) else 0) (lo := 0) (hi := 16) (n := n) (fun i _ => by
    have := bd30 hB (4 * j + i)
    split <;> omega)
  unfold cmF; omega
theorem tnM_bd {z : TT} (hB : Bd z) (u : Int) : 0 ≤ tnM z u ∧ tnM z u ≤ 2500 := by
  have b0 := bd0 hB 0
  have b2 := bd2 hB 0
  have b3 := bd3 hB 0
  have h6 := sumN_bd (f := fun j => if ruM z j u then cmF z j (z 0 0).toNat else 0) (lo := 0) (hi := 64) (n := (z 2 0).toNat) (fun i _ => by
    have := cmF_bd hB (j := i) (n := (z 0 0).toNat) (by omega)
    split <;> omega)
  have h7 := sumN_bd (f := fun k => if z 33 k ≤ u ∧ u < z 34 k then z 31 k else 0) (lo := 0) (hi := 64) (n := (z 3 0).toNat) (fun i _ => by
    have := bd31 hB i
    split <;> omega)
  unfold tnM tnJ tnH
  omega
theorem tlM_bd {z : TT} (hB : Bd z) (u : Int) : 0 ≤ tlM z u (z 2 0).toNat ∧ tlM z u (z 2 0).toNat ≤ 3000 := by
  have b2 := bd2 hB 0
  have h6 := sumN_bd (f := fun j => if ruM z j u then z 19 j else 0) (lo := 0) (hi := 100) (n := (z 2 0).toNat) (fun i _ => by
    have := bd19 hB i
    split <;> omega)
  unfold tlM
  omega
theorem foF_bd {b : Prop} {tm : Nat → Int} {s z : TT} (h : Rc b tm s z) {r : Nat} (hr : r < 4) : 0 ≤ foF z r ∧ foF z r ≤ 16 := by
  obtain ⟨⟨_, hB⟩, _, _, _, _, _, _, ⟨h1, h2⟩, _⟩ := h
  have b2 := bd2 hB 0
  have b12 := bd12 hB r
  have h3 : 0 ≤ foS z r (z 2 0).toNat := sumN_nn (fun j _ => (bd30 hB (4 * j + r)).1)
  by_cases q : (r : Int) < z 0 0
  · have := h1 r q
    unfold foF at this ⊢
    omega
  · have h4 : foS z r (z 2 0).toNat = 0 := by
      rw [← sumN_zero (z 2 0).toNat]
      exact sumN_congr (fun j hj => h2 j r (by omega) (by omega) hr)
    unfold foF
    omega
/-- the free nodes of the racks that are not drained: ROOM without what runs -/
theorem cap_eq {z : TT} (n m : Nat) (hm : m = (z 2 0).toNat) : sumN (fun r => if z 14 r = 0 then foF z r else 0) n = roomF z n - sumN (fun j => cmF z j n) m := by
  have e1 : sumN (fun r => if z 14 r = 0 then foF z r else 0) n = sumN (fun r => (if z 14 r = 0 then z 12 r else 0) - sumN (fun j => if z 14 r = 0 then z 30 (4 * j + r) else 0) m) n := sumN_congr (fun r _ => by
    by_cases q : z 14 r = 0
    · simp only [if_pos q]; unfold foF foS; rw [hm]
    · simp only [if_neg q]; rw [sumN_zero]; rfl)
  rw [e1, sumN_sub, sumN_swap]
  rfl
theorem tn_now {b : Prop} {s z : TT} (h : Rc b (fun _ => z 4 0) s z) : tnJ z (z 4 0) (z 2 0).toNat = sumN (fun j => cmF z j (z 0 0).toNat) (z 2 0).toNat := by
  obtain ⟨⟨_, hB⟩, _, _, _, _, _, hI, _⟩ := h
  have b0 := bd0 hB 0
  refine sumN_congr (fun j hj => ?_)
  obtain ⟨⟨j1, j2, j3, _⟩, i2, i3⟩ := hI j (by omega)
  have b27 := bd27 hB j
  by_cases q : z 24 j = 1
  · obtain ⟨g1, g2, g3, g4, g5⟩ := i2 q
    have g1 : z 35 j = z 4 0 - z 25 j := g1
    have g6 : z 35 j < z 36 j := by
      unfold ndJ at g5
      by_cases qb : b
      · rw [pif_t qb] at g5; omega
      · rw [pif_f qb] at g5; omega
    rw [if_pos ⟨q, by omega⟩]
  · rw [if_neg (fun z => q z.1)]
    have g := (i3 q).2
    unfold cmF
    exact ((sumN_congr (g := fun _ => 0) (fun r hr => by rw [g r (by omega)]; split <;> rfl)).trans (sumN_zero _)).symm
section BEG
variable {b : Prop} {s z : TT} {x : Nat}
theorem bg_cap (h : SV b s z) (hx : (x : Int) < z 2 0) (hf : mfP z x (z 4 0) (z 8 0 ≠ -1)) : z 18 x ≤ sumN (fun r => if z 14 r = 0 then foF z r else 0) (z 0 0).toNat := by
  have hR := h.1
  obtain ⟨⟨_, hB⟩, _, _, _, _, _, hI, _⟩ := id hR
  obtain ⟨⟨j1, j2, j3, _⟩, _⟩ := hI x hx
  rw [cap_eq (z 0 0).toNat (z 2 0).toNat rfl, ← tn_now hR]
  have h1 := (mfP_all.mp hf (z 4 0) (by omega) (by omega)).1
  obtain ⟨n1, n2⟩ := h.2.2.2.1
  have m1 := (n1 0 (by decide)).1
  rw [show (z 4 0 - z 4 0).toNat = 0 by omega, m1, n2] at h1
  rw [show z 4 0 + ((0 : Nat) : Int) = z 4 0 by omega] at h1
  have h2 : 0 ≤ tnH z (z 4 0) (z 3 0).toNat := sumN_nn (fun k _ => by
    have := bd31 hB k
    split <;> omega)
  have h3 : 0 ≤ mrM z 18 (z 4 0) (z 8 0 ≠ -1) := by
    have := bd18 hB (z 8 0).toNat
    unfold mrM
    by_cases q : moM z (z 4 0) (z 8 0 ≠ -1)
    · rw [pif_t q]; omega
    · rw [pif_f q]; omega
  unfold tnM at h1
  omega
theorem wnM_all (h : Rc b (fun _ => z 4 0) s z) (c : Nat) {w : Int} (hw : 0 ≤ w) : ∀ r, r ≤ 4 → 0 ≤ wnM z c w r ∧ wnM z c w r ≤ w := by
  intro r
  induction r with
  | zero => intro _; exact ⟨hw, Int.le_refl _⟩
  | succ r ih =>
    intro hr
    have h1 := ih (by omega)
    have h2 := foF_bd h (r := r) (by omega)
    rw [wnM_s]
    split <;> omega
theorem mb_lt (z : TT) (w : Int) (h0 : z 0 0 ≤ 4) : mbF z w < 2 ^ (z 0 0).toNat := by
  have h := mb0_le z w (2 ^ (z 0 0).toNat - 1)
  have h2 := (p2_bd (show (z 0 0).toNat ≤ 4 by omega)).1
  unfold mbF
  omega
theorem mb1_bd (h : Rc b (fun _ => z 4 0) s z) (w : Int) (hw : 0 ≤ w) (i : Nat) : Bd (mb1 z x (mbF z w) w i) := by
  have hB := h.1.2
  have b0 := bd0 hB 0
  intro f a hf
  unfold mb1
  split
  · rename_i q
    obtain ⟨q1, q2, q3, q4⟩ := q
    have hr := bit_lt (mb_lt z w b0.2) q4
    have g1 := foF_bd h (r := a - 4 * x) (by omega)
    have g2 := wnM_all h (mbF z w) hw (a - 4 * x) (by omega)
    rw [q1]
    show (0 : Int) ≤ _ ∧ _ ≤ (16 : Int)
    omega
  · exact hB f a hf
theorem bg_C (h : SV b s z) : bgC z x := by
  have b18 := bd18 h.1.1.2 x
  refine ⟨fun i hi => ⟨foF_bd h.1 hi, ?_⟩, mb1_bd h.1 _ b18.1⟩
  have := wnM_all h.1 (mbF z (z 18 x)) b18.1 i (by omega)
  omega
theorem bgM_on (h : SV b s z) (hx : (x : Int) < z 2 0) (hw : z 24 x = 0) (j r : Nat) (hr : r < 4) : bgM z x 30 (4 * j + r) = if j = x then asg z (mbF z (z 18 x)) (z 18 x) r else z 30 (4 * j + r) := by
  have hB := h.1.1.2
  have b0 := bd0 hB 0
  have h3 := (h.1.2.2.2.2.2.2.1 x hx).2.2 (by omega)
  unfold bgM bq1
  rw [mc1_ne (by omega), tu_ne (by omega), tu_ne (by omega), tu_ne (by omega), tu_ne (by omega)]
  unfold mb1 asg
  by_cases q : j = x
  · subst q
    rw [if_pos rfl, show 4 * j + r - 4 * j = r by omega]
    by_cases q2 : ((mbF z (z 18 j)) >>> r) % 2 = 1
    · have := bit_lt (mb_lt z (z 18 j) b0.2) q2
      rw [if_pos ⟨rfl, by omega, by omega, q2⟩, if_pos q2]
    · rw [if_neg (fun z => q2 z.2.2.2), if_neg q2, h3.2 r hr]
  · rw [if_neg q, if_neg (by omega)]
theorem bgM_x (z : TT) (x : Nat) : bgM z x 24 x = 1 ∧ bgM z x 25 x = z 4 0 ∧ bgM z x 35 x = 0 ∧ bgM z x 36 x = z 20 x - z 27 x := by
  unfold bgM bq1
  refine ⟨?_, ?_, ?_, ?_⟩ <;> rw [mc1_ne (by omega)]
  · rw [tu_ne (by omega), tu_ne (by omega), tu_ne (by omega), tu_eq]
  · rw [tu_ne (by omega), tu_ne (by omega), tu_eq]
  · rw [tu_ne (by omega), tu_eq]
  · rw [tu_eq]
theorem bgM_o (z : TT) {x j f : Nat} (hj : j ≠ x) (hf : f ≠ 30 ∧ f ≠ 39 ∧ f ≠ 40) : bgM z x f j = z f j := by
  unfold bgM bq1
  rw [mc1_ne (by omega), tu_ne (by omega), tu_ne (by omega), tu_ne (by omega), tu_ne (by omega), mb1_ne hf.1]
theorem bgM_fo (h : SV b s z) (hx : (x : Int) < z 2 0) (hw : z 24 x = 0) {r : Nat} (hr : r < 4) : foF (bgM z x) r = foF z r - asg z (mbF z (z 18 x)) (z 18 x) r := by
  have h3 := (h.1.2.2.2.2.2.2.1 x hx).2.2 (by omega)
  unfold foF foS
  rw [bgM_ne (by omega), bgM_ne (by omega)]
  rw [sumN_one (f := fun j => bgM z x 30 (4 * j + r)) (g := fun j => z 30 (4 * j + r)) (k := x) (n := (z 2 0).toNat) (by omega) (fun i _ hne => by rw [bgM_on h hx hw i r hr, if_neg hne])]
  rw [bgM_on h hx hw x r hr, if_pos rfl, h3.2 r hr]
  omega
theorem bgM_cm (h : SV b s z) (hx : (x : Int) < z 2 0) (hw : z 24 x = 0) (hf : mfP z x (z 4 0) (z 8 0 ≠ -1)) (j : Nat) : cmF (bgM z x) j (z 0 0).toNat = if j = x then z 18 x else cmF z j (z 0 0).toNat := by
  have hB := h.1.1.2
  have b0 := bd0 hB 0
  have j1 := (h.1.2.2.2.2.2.2.1 x hx).1.1
  by_cases q : j = x
  · subst q
    rw [if_pos rfl]
    obtain ⟨g1, g2⟩ := mbF_ok b0.1 b0.2 j1 (bg_cap h hx hf)
    have hv := wn_val (mbF z (z 18 j)) (w := z 18 j) (by omega) (fun r hr => h.1.2.2.2.2.2.2.2.1.1 r hr) (z 0 0).toNat (by omega)
    rw [if_pos g2] at hv
    have hs := asg_sum z (mbF z (z 18 j)) (z 18 j) (z 0 0).toNat
    rw [hv.2, Int.sub_zero] at hs
    rw [← hs]
    refine sumN_congr (fun r hr => ?_)
    rw [bgM_on h hx hw j r (by omega), if_pos rfl, bgM_ne (by omega)]
    by_cases q2 : z 14 r = 0
    · rw [if_pos q2]
    · rw [if_neg q2]
      unfold asg
      rw [if_neg (fun q3 => q2 (g1 r hr q3))]
  · rw [if_neg q]
    refine sumN_congr (fun r hr => ?_)
    rw [bgM_on h hx hw j r (by omega), if_neg q, bgM_ne (by omega)]
theorem bgM_ru (z : TT) {x : Nat} (j : Nat) (u : Int) (hw : z 24 x = 0) : ruM (bgM z x) j u ↔ (if j = x then u < z 4 0 + (z 20 x - z 27 x) else ruM z j u) := by
  obtain ⟨g1, g2, g3, g4⟩ := bgM_x z x
  unfold ruM
  by_cases q : j = x
  · subst q
    rw [if_pos rfl, g1, g2, g4]
    simp
  · rw [if_neg q, bgM_o z q (by omega), bgM_o z q (by omega), bgM_o z q (by omega)]
theorem bgM_tn (h : SV b s z) (hx : (x : Int) < z 2 0) (hw : z 24 x = 0) (hf : mfP z x (z 4 0) (z 8 0 ≠ -1)) (u : Int) : tnM (bgM z x) u = tnM z u + (if u < z 4 0 + (z 20 x - z 27 x) then z 18 x else 0) ∧ tlM (bgM z x) u (z 2 0).toNat = tlM z u (z 2 0).toNat + (if u < z 4 0 + (z 20 x - z 27 x) then z 19 x else 0) := by
  have hno : ¬ ruM z x u := fun q => by have := q.1; omega
  have e1 : tnH (bgM z x) u (z 3 0).toNat = tnH z u (z 3 0).toNat := sumN_congr (fun k _ => by rw [bgM_ne (by omega), bgM_ne (by omega), bgM_ne (by omega)])
  have e2 : tnJ (bgM z x) u (z 2 0).toNat = tnJ z u (z 2 0).toNat + (if u < z 4 0 + (z 20 x - z 27 x) then z 18 x else 0) := by
    unfold tnJ
    rw [bgM_ne (by omega)]
    rw [sumN_one (f := fun j => if ruM (bgM z x) j u then cmF (bgM z x) j (z 0 0).toNat else 0) (g := fun j => if ruM z j u then cmF z j (z 0 0).toNat else 0) (k := x) (n := (z 2 0).toNat) (by omega) (fun i _ hne => by
      have e := bgM_ru z i u hw
      rw [if_neg hne] at e
      rw [bgM_cm h hx hw hf, if_neg hne]
      by_cases q : ruM z i u
      · rw [if_pos q, if_pos (e.mpr q)]
      · rw [if_neg q, if_neg (fun w => q (e.mp w))])]
    have e := bgM_ru z x u hw
    rw [if_pos rfl] at e
    rw [bgM_cm h hx hw hf, if_pos rfl, if_neg hno]
    by_cases q : u < z 4 0 + (z 20 x - z 27 x)
    · rw [if_pos q, if_pos (e.mpr q)]; omega
    · rw [if_neg q, if_neg (fun w => q (e.mp w))]; omega
  have e3 : tlM (bgM z x) u (z 2 0).toNat = tlM z u (z 2 0).toNat + (if u < z 4 0 + (z 20 x - z 27 x) then z 19 x else 0) := by
    unfold tlM
    rw [sumN_one (f := fun j => if ruM (bgM z x) j u then bgM z x 19 j else 0) (g := fun j => if ruM z j u then z 19 j else 0) (k := x) (n := (z 2 0).toNat) (by omega) (fun i _ hne => by
      have e := bgM_ru z i u hw
      rw [if_neg hne] at e
      rw [bgM_ne (f := 19) (by omega)]
      by_cases q : ruM z i u
      · rw [if_pos q, if_pos (e.mpr q)]
      · rw [if_neg q, if_neg (fun w => q (e.mp w))])]
    have e := bgM_ru z x u hw
    rw [if_pos rfl] at e
    rw [bgM_ne (f := 19) (by omega), if_neg hno]
    by_cases q : u < z 4 0 + (z 20 x - z 27 x)
    · rw [if_pos q, if_pos (e.mpr q)]; omega
    · rw [if_neg q, if_neg (fun w => q (e.mp w))]; omega
  refine ⟨?_, e3⟩
  unfold tnM
  rw [bgM_ne (by omega), bgM_ne (by omega), e1, e2]
  omega
theorem bgM_bd (h : SV b s z) (hx : (x : Int) < z 2 0) : Bd (bgM z x) := by
  have hB := h.1.1.2
  have b4 := bd4 hB 0
  have b18 := bd18 hB x
  have b19 := bd19 hB x
  have b20 := bd20 hB x
  have b27 := bd27 hB x
  obtain ⟨⟨j1, j2, j3, _⟩, _⟩ := h.1.2.2.2.2.2.2.1 x hx
  have hq : Bd (bq1 z x) := bd_tu (bd_tu (bd_tu (bd_tu (mb1_bd h.1 _ b18.1 _) (fun _ => by show (0 : Int) ≤ 1 ∧ (1 : Int) ≤ 3; omega)) (fun _ => by show (-1 : Int) ≤ z 4 0 ∧ z 4 0 ≤ 3000; omega)) (fun _ => by show (0 : Int) ≤ 0 ∧ (0 : Int) ≤ 50; omega)) (fun _ => by show (0 : Int) ≤ z 20 x - z 27 x ∧ z 20 x - z 27 x ≤ 50; omega)
  have e39 : ∀ a, bq1 z x 39 a = z 39 a := fun a => by unfold bq1; rw [tu_ne (by omega), tu_ne (by omega), tu_ne (by omega), tu_ne (by omega), mb1_ne (by omega)]
  have e40 : ∀ a, bq1 z x 40 a = z 40 a := fun a => by unfold bq1; rw [tu_ne (by omega), tu_ne (by omega), tu_ne (by omega), tu_ne (by omega), mb1_ne (by omega)]
  have e18 : bq1 z x 18 x = z 18 x := by unfold bq1; rw [tu_ne (by omega), tu_ne (by omega), tu_ne (by omega), tu_ne (by omega), mb1_ne (by omega)]
  have e19 : bq1 z x 19 x = z 19 x := by unfold bq1; rw [tu_ne (by omega), tu_ne (by omega), tu_ne (by omega), tu_ne (by omega), mb1_ne (by omega)]
  obtain ⟨n1, n2⟩ := h.2.2.2.1
  intro f a hf
  unfold bgM mc1
  split
  · rename_i q
    have := (n1 a (by omega)).1
    have hb := tnM_bd hB (z 4 0 + a)
    rw [q.1, e39, e18]
    show (0 : Int) ≤ _ ∧ _ ≤ (4000 : Int)
    omega
  split
  · rename_i q
    have := (n1 a (by omega)).2
    have hb := tlM_bd hB (z 4 0 + a)
    rw [q.1, e40, e19]
    show (0 : Int) ≤ _ ∧ _ ≤ (4000 : Int)
    omega
  · exact hq f a hf
theorem bgM_na (h : SV b s z) (hx : (x : Int) < z 2 0) (hw : z 24 x = 0) (hf : mfP z x (z 4 0) (z 8 0 ≠ -1)) : NA (bgM z x) := by
  obtain ⟨n1, n2⟩ := h.2.2.2.1
  have b20 := bd20 h.1.1.2 x
  have b27 := bd27 h.1.1.2 x
  have e39 : ∀ a, bq1 z x 39 a = z 39 a := fun a => by unfold bq1; rw [tu_ne (by omega), tu_ne (by omega), tu_ne (by omega), tu_ne (by omega), mb1_ne (by omega)]
  have e40 : ∀ a, bq1 z x 40 a = z 40 a := fun a => by unfold bq1; rw [tu_ne (by omega), tu_ne (by omega), tu_ne (by omega), tu_ne (by omega), mb1_ne (by omega)]
  have e18 : bq1 z x 18 x = z 18 x := by unfold bq1; rw [tu_ne (by omega), tu_ne (by omega), tu_ne (by omega), tu_ne (by omega), mb1_ne (by omega)]
  have e19 : bq1 z x 19 x = z 19 x := by unfold bq1; rw [tu_ne (by omega), tu_ne (by omega), tu_ne (by omega), tu_ne (by omega), mb1_ne (by omega)]
  refine ⟨fun a ha => ?_, ?_⟩
  · rw [bgM_ne (f := 4) (by omega), bgM_ne (f := 2) (by omega)]
    obtain ⟨t1, t2⟩ := bgM_tn h hx hw hf (z 4 0 + a)
    obtain ⟨m1, m2⟩ := n1 a ha
    rw [t1, t2]
    have k1 : bgM z x 39 a = z 39 a + (if z 4 0 + (a : Int) < z 4 0 + (z 20 x - z 27 x) then z 18 x else 0) := by
      unfold bgM mc1
      by_cases q : a < (z 20 x - z 27 x).toNat
      · rw [if_pos ⟨rfl, q⟩, e39, e18, if_pos (by omega)]
      · rw [if_neg (fun w => q w.2), if_neg (fun w => q w.2), e39, if_neg (by omega)]; omega
    have k2 : bgM z x 40 a = z 40 a + (if z 4 0 + (a : Int) < z 4 0 + (z 20 x - z 27 x) then z 19 x else 0) := by
      unfold bgM mc1
      rw [if_neg (by omega)]
      by_cases q : a < (z 20 x - z 27 x).toNat
      · rw [if_pos ⟨rfl, q⟩, e40, e19, if_pos (by omega)]
      · rw [if_neg (fun w => q w.2), e40, if_neg (by omega)]; omega
    rw [k1, k2, m1, m2]
    exact ⟨rfl, rfl⟩
  · have e48 : bgM z x 48 0 = z 48 0 := bgM_ne (by omega)
    rw [e48, n2, bgM_ne (f := 0) (by omega)]
    exact sumN_congr (fun r _ => by rw [bgM_ne (by omega), bgM_ne (by omega)])
theorem bgF_bd (hB : Bd s) (hx : x < 30) (hl : s 27 x ≤ s 20 x) : Bd (bgF s x) := by
  have b4 := bd4 hB 0
  have b18 := bd18 hB x
  have b20 := bd20 hB x
  have b27 := bd27 hB x
  exact bd_tu (bd_tu (bd_tu (bd_tu (bg1_bd hB x _ b18.1 _) (fun _ => by show (0 : Int) ≤ 1 ∧ (1 : Int) ≤ 3; omega)) (fun _ => by show (-1 : Int) ≤ s 4 0 ∧ s 4 0 ≤ 3000; omega)) (fun _ => b18)) (fun _ => by show (0 : Int) ≤ s 4 0 + (s 20 x - s 27 x) ∧ s 4 0 + (s 20 x - s 27 x) ≤ 3100; omega)
theorem bgF_x (s : TT) (x : Nat) : bgF s x 24 x = 1 ∧ bgF s x 25 x = s 4 0 ∧ bgF s x 28 x = s 18 x ∧ bgF s x 29 x = s 4 0 + (s 20 x - s 27 x) := by
  unfold bgF
  refine ⟨?_, ?_, ?_, ?_⟩
  · rw [tu_ne (by omega), tu_ne (by omega), tu_ne (by omega), tu_eq]
  · rw [tu_ne (by omega), tu_ne (by omega), tu_eq]
  · rw [tu_ne (by omega), tu_eq]
  · rw [tu_eq]
theorem bgF_o (s : TT) {x j f : Nat} (hj : j ≠ x) (hf : f < 100 ∧ f ≠ 13) : bgF s x f j = s f j := by
  unfold bgF
  rw [tu_ne (by omega), tu_ne (by omega), tu_ne (by omega), tu_ne (by omega), bg1_ne (by omega)]
theorem bgF_13 (h : SV b s z) (hx : (x : Int) < z 2 0) {r : Nat} (hr : (r : Int) < z 0 0) : bgF s x 13 r = foF z r - asg z (mbF z (z 18 x)) (z 18 x) r := by
  obtain ⟨_, ⟨e0, _⟩, hRR, _, hJ, _, hI, _⟩ := id h.1
  have b0 := bd0 h.1.1.2 0
  have f18 := (hJ x hx).1 18 (by decide) (by decide)
  unfold bgF
  rw [tu_ne (by omega), tu_ne (by omega), tu_ne (by omega), tu_ne (by omega), f18, frF_mbF e0 hRR b0.2 (hI x hx).1.1, e0]
  unfold bg1 asg
  rw [wn_eq hRR _ _ r (by omega), (hRR r hr).2.2]
  by_cases q : ((mbF z (z 18 x)) >>> r) % 2 = 1
  · rw [if_pos ⟨rfl, by omega, q⟩, if_pos q, Int.min_comm]
  · rw [if_neg (fun w => q w.2.2), if_neg (by omega), if_neg q]; omega
theorem bgF_on (h : SV b s z) (hx : (x : Int) < z 2 0) (hw : z 24 x = 0) (j r : Nat) (hj : (j : Int) < z 2 0) (hr : r < 4) : bgF s x (100 + j) r = if j = x then asg z (mbF z (z 18 x)) (z 18 x) r else z 30 (4 * j + r) := by
  obtain ⟨_, ⟨e0, _⟩, hRR, _, hJ, _, hI, _⟩ := id h.1
  have b0 := bd0 h.1.1.2 0
  have h3 := (hI x hx).2.2 (by omega)
  have f18 := (hJ x hx).1 18 (by decide) (by decide)
  unfold bgF
  rw [tu_ne (by omega), tu_ne (by omega), tu_ne (by omega), tu_ne (by omega)]
  by_cases q : j = x
  · subst q
    rw [if_pos rfl, f18, frF_mbF e0 hRR b0.2 (hI j hx).1.1, e0]
    unfold bg1 asg
    rw [if_neg (by omega)]
    by_cases q2 : ((mbF z (z 18 j)) >>> r) % 2 = 1
    · have hrl := bit_lt (mb_lt z (z 18 j) b0.2) q2
      rw [if_pos ⟨rfl, hrl, q2⟩, if_pos q2, wn_eq hRR _ _ r (by omega), (hRR r (by omega)).2.2, Int.min_comm]
    · rw [if_neg (fun w => q2 w.2.2), if_neg q2, (hJ j hx).2.2.2 r hr, h3.2 r hr]
  · rw [if_neg q]
    unfold bg1
    rw [if_neg (by omega), if_neg (by omega)]
    exact (hJ j hj).2.2.2 r hr
/-- THE BEGIN -/
theorem bg_SV (h : SV b s z) (hx : (x : Int) < z 2 0) (hw : z 24 x = 0) (hf : mfP z x (z 4 0) (z 8 0 ≠ -1)) : SV b (bgF s x) (bgM z x) := by
  obtain ⟨⟨⟨hBs, hBz⟩, ⟨e0, e1, e2, e4, e5, e6, e7⟩, hRR, hRA, hJ, hH, hI, ⟨r1, r2⟩, hIS⟩, h8, h9, hN, hK⟩ := id h
  have b2 := bd2 hBz 0
  have b4 := bd4 hBz 0
  obtain ⟨gx, _, _, _⟩ := hJ x hx
  have f20 := gx 20 (by decide) (by decide)
  have f27 := gx 27 (by decide) (by decide)
  have f18 := gx 18 (by decide) (by decide)
  obtain ⟨⟨j1, j2, j3, _⟩, _⟩ := hI x hx
  obtain ⟨m24, m25, m35, m36⟩ := bgM_x z x
  obtain ⟨s24, s25, s28, s29⟩ := bgF_x s x
  have q0 : bgM z x 0 0 = z 0 0 := bgM_ne (by omega)
  have q1 : bgM z x 1 0 = z 1 0 := bgM_ne (by omega)
  have q2 : bgM z x 2 0 = z 2 0 := bgM_ne (by omega)
  have q3 : bgM z x 3 0 = z 3 0 := bgM_ne (by omega)
  have q4 : bgM z x 4 0 = z 4 0 := bgM_ne (by omega)
  have qr : roomF (bgM z x) (z 0 0).toNat = roomF z (z 0 0).toNat := sumN_congr (fun r _ => by rw [bgM_ne (by omega), bgM_ne (by omega)])
  refine ⟨⟨⟨bgF_bd hBs (by omega) (by omega), bgM_bd h hx⟩, ?_, ?_, ?_, ?_, ?_, ?_, ?_, ?_⟩, ?_, ?_, bgM_na h hx hw hf, ?_⟩
  · refine ⟨?_, ?_, ?_, ?_, ?_, ?_, ?_⟩
    · rw [q0, bgF_ne (by omega)]; exact e0
    · rw [q1, bgF_ne (by omega)]; exact e1
    · rw [q2, bgF_ne (by omega)]; exact e2
    · rw [q4, bgF_ne (by omega)]; exact e4
    · rw [bgM_ne (by omega), bgF_ne (by omega)]; exact e5
    · rw [bgM_ne (by omega), bgF_ne (by omega)]; exact e6
    · rw [q0, qr, bgF_ne (by omega)]; exact e7
  · intro r hr
    rw [q0] at hr
    have b0 := bd0 hBz 0
    refine ⟨?_, ?_, ?_⟩
    · rw [bgM_ne (by omega), bgF_ne (by omega)]; exact (hRR r hr).1
    · rw [bgM_ne (by omega), bgF_ne (by omega)]; exact (hRR r hr).2.1
    · rw [bgM_fo h hx hw (by omega), bgF_13 h hx hr]
  · intro a ha
    rw [q1] at ha
    rw [bgM_ne (by omega), bgF_ne (by omega), bgM_ne (by omega), bgF_ne (by omega)]
    exact hRA a ha
  · intro j hj
    rw [q2] at hj
    obtain ⟨g1, g2, g3, g4⟩ := hJ j hj
    refine ⟨fun f hf1 hf2 => ?_, ?_, ?_, fun r hr => ?_⟩
    · by_cases q : j = x
      · subst q
        by_cases c24 : f = 24
        · subst c24; rw [s24, m24]
        by_cases c25 : f = 25
        · subst c25; rw [s25, m25]; exact e4
        rw [bgF_ne (by omega), bgM_ne (by omega)]; exact g1 f hf1 hf2
      · rw [bgF_o s q (by omega), bgM_o z q (by omega)]; exact g1 f hf1 hf2
    · rw [q0, bgM_cm h hx hw hf]
      by_cases q : j = x
      · subst q; rw [if_pos rfl, s28]; exact f18
      · rw [if_neg q, bgF_o s q (by omega)]; exact g2
    · unfold tkU
      by_cases q : j = x
      · subst q; rw [m24, if_pos rfl, m25, m36, s29, e4, f20, f27]
      · rw [bgF_o s q (by omega), bgM_o z q (by omega), bgM_o z q (by omega), bgM_o z q (by omega)]; exact g3
    · rw [bgF_on h hx hw j r hj hr, bgM_on h hx hw j r hr]
  · intro k hk
    rw [q3] at hk
    rw [bgM_ne (f := 31) (by omega), bgF_ne (f := 31) (by omega), bgF_ne (f := 32) (by omega), bgM_ne (f := 33) (by omega), bgF_ne (f := 33) (by omega), bgM_ne (f := 34) (by omega), bgF_ne (f := 34) (by omega)]
    exact hH k hk
  · intro j hj
    rw [q2] at hj
    obtain ⟨i1, i2, i3⟩ := hI j hj
    refine ⟨?_, ?_, ?_⟩
    · unfold IJ1
      rw [bgM_ne (f := 18) (by omega), bgM_ne (f := 27) (by omega), bgM_ne (f := 21) (by omega), bgM_ne (f := 20) (by omega), bgM_ne (f := 22) (by omega), bgM_ne (f := 23) (by omega), bgM_ne (f := 17) (by omega), q1]
      exact i1
    · by_cases q : j = x
      · subst q
        intro _
        rw [m25, m35, m36, bgM_ne (f := 20) (by omega), bgM_ne (f := 27) (by omega), q4]
        refine ⟨by show (0 : Int) = z 4 0 - z 4 0; omega, rfl, by omega, by omega, ?_⟩
        unfold ndJ
        rw [bgM_ne (f := 20) (by omega), bgM_ne (f := 27) (by omega), bgM_ne (f := 21) (by omega)]
        by_cases qb : b
        · rw [pif_t qb]; omega
        · rw [pif_f qb]; omega
      · unfold IJ2 ndJ
        rw [bgM_o z q (f := 24) (by omega), bgM_o z q (f := 35) (by omega), bgM_o z q (f := 25) (by omega), bgM_o z q (f := 36) (by omega), bgM_o z q (f := 20) (by omega), bgM_o z q (f := 27) (by omega), bgM_o z q (f := 21) (by omega), q4]
        exact i2
    · by_cases q : j = x
      · subst q
        intro hn; exact absurd m24 hn
      · intro hn
        rw [bgM_o z q (f := 24) (by omega)] at hn
        refine ⟨?_, fun r hr => ?_⟩
        · rw [bgM_o z q (f := 35) (by omega)]; exact (i3 hn).1
        · rw [bgM_on h hx hw j r hr, if_neg q]; exact (i3 hn).2 r hr
  · have b0 := bd0 hBz 0
    refine ⟨fun r hr => ?_, fun a r ha hr1 hr2 => ?_⟩
    · rw [q0] at hr
      rw [bgM_fo h hx hw (by omega)]
      have := asg_bd (mbF z (z 18 x)) (w := z 18 x) (by omega) (fun r hr => r1 r hr) hr
      omega
    · rw [q0] at hr1
      rw [bgM_on h hx hw a r hr2]
      by_cases q : a = x
      · rw [if_pos q]
        unfold asg
        rw [if_neg (fun hb => by have := bit_lt (mb_lt z (z 18 x) b0.2) hb; omega)]
      · rw [if_neg q]; exact r2 a r ha hr1 hr2
  · unfold IS
    rw [q3, bgM_ne (f := 5) (by omega), bgM_ne (f := 38) (by omega)]
    exact hIS
  · rw [bgF_ne (by omega), bgM_ne (by omega)]; exact h8
  · rw [bgF_ne (by omega), bgM_ne (by omega)]; exact h9
  · unfold KP
    rw [bgM_ne (f := 8) (by omega), bgM_ne (f := 9) (by omega), q3, bgM_ne (f := 18) (by omega), bgM_ne (f := 19) (by omega), bgM_ne (f := 37) (by omega), bgF_ne (f := 3) (by omega), bgF_ne (f := 31) (by omega), bgF_ne (f := 32) (by omega), bgF_ne (f := 33) (by omega), bgF_ne (f := 34) (by omega)]
    exact hK
end BEG
