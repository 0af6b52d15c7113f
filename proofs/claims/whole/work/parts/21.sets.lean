/-! PURE: the sets of racks; who begins gets the same nodes on both sides -/
theorem bc_mn : ∀ n, n ≤ 4 → ∀ c, c < 2 ^ n → mnF c n = ((bcN c : Nat) : Int) := by decide +kernel
def bitsN (a b c d : Bool) : Nat := (if a then 1 else 0) + (if b then 2 else 0) + (if c then 4 else 0) + (if d then 8 else 0)
theorem bits_ok : ∀ (a b c d : Bool), ((bitsN a b c d >>> 0) % 2 = 1 ↔ a = true) ∧ ((bitsN a b c d >>> 1) % 2 = 1 ↔ b = true) ∧ ((bitsN a b c d >>> 2) % 2 = 1 ↔ c = true) ∧ ((bitsN a b c d >>> 3) % 2 = 1 ↔ d = true) := by decide +kernel
theorem bits_lt : ∀ (a b c d : Bool) (n : Nat), n ≤ 4 → (n ≤ 3 → d = false) → (n ≤ 2 → c = false) → (n ≤ 1 → b = false) → (n ≤ 0 → a = false) → bitsN a b c d < 2 ^ n := by
  intro a b c d n hn h3 h2 h1 h0
  rcases (show n = 0 ∨ n = 1 ∨ n = 2 ∨ n = 3 ∨ n = 4 by omega) with rfl | rfl | rfl | rfl | rfl
  · rw [h0 (by omega), h1 (by omega), h2 (by omega), h3 (by omega)]; decide
  · rw [h1 (by omega), h2 (by omega), h3 (by omega)]; cases a <;> decide
  · rw [h2 (by omega), h3 (by omega)]; cases a <;> cases b <;> decide
  · rw [h3 (by omega)]; cases a <;> cases b <;> cases c <;> decide
  · cases a <;> cases b <;> cases c <;> cases d <;> decide
theorem bits_ex (P : Nat → Prop) {n : Nat} (hn : n ≤ 4) : ∃ c, c < 2 ^ n ∧ ∀ r, r < n → ((c >>> r) % 2 = 1 ↔ P r) := by
  have hd : ∀ r, ∃ b : Bool, (b = true ↔ (r < n ∧ P r)) := fun r => by
    by_cases q : r < n ∧ P r
    · exact ⟨true, by simp [q]⟩
    · exact ⟨false, by simp; exact fun z1 z2 => q ⟨z1, z2⟩⟩
  obtain ⟨a, ha⟩ := hd 0
  obtain ⟨b, hb⟩ := hd 1
  obtain ⟨c, hc⟩ := hd 2
  obtain ⟨d, hd3⟩ := hd 3
  have hf : ∀ (x : Bool) (r : Nat), (x = true ↔ (r < n ∧ P r)) → n ≤ r → x = false := fun x r hx hr => by
    cases x with
    | false => rfl
    | true => have := (hx.mp rfl).1; omega
  obtain ⟨k0, k1, k2, k3⟩ := bits_ok a b c d
  refine ⟨bitsN a b c d, bits_lt a b c d n hn (hf d 3 hd3) (hf c 2 hc) (hf b 1 hb) (hf a 0 ha), fun r hr => ?_⟩
  rcases (show r = 0 ∨ r = 1 ∨ r = 2 ∨ r = 3 by omega) with rfl | rfl | rfl | rfl
  · rw [k0, ha]; exact ⟨fun z => z.2, fun z => ⟨hr, z⟩⟩
  · rw [k1, hb]; exact ⟨fun z => z.2, fun z => ⟨hr, z⟩⟩
  · rw [k2, hc]; exact ⟨fun z => z.2, fun z => ⟨hr, z⟩⟩
  · rw [k3, hd3]; exact ⟨fun z => z.2, fun z => ⟨hr, z⟩⟩
/-- the racks of both sides agree -/
def RR (X M : TT) : Prop := ∀ r : Nat, (r : Int) < M 0 0 → X 12 r = M 12 r ∧ X 14 r = M 14 r ∧ X 13 r = foF M r
theorem uo_nd {X M : TT} (h0 : X 0 0 = M 0 0) (hR : RR X M) {w : Int} (hw : 1 ≤ w) (c : Nat) : w ≤ uoF X c ↔ (dyP M c (M 0 0).toNat ∧ w ≤ ndF M c (M 0 0).toNat) := by
  have e1 : uoS X c (M 0 0).toNat = ndF M c (M 0 0).toNat := sumN_congr (fun r hr => by rw [(hR r (by omega)).2.2])
  unfold uoF
  rw [h0]
  by_cases q : uoD X c (M 0 0).toNat
  · rw [pif_t q]
    refine ⟨fun z => by omega, fun z => ?_⟩
    obtain ⟨r, hr, hb, hd⟩ := q
    rw [(hR r (by omega)).2.1] at hd
    exact absurd (z.1 r hr hb) hd
  · rw [pif_f q, e1]
    refine ⟨fun z => ⟨fun r hr hb => Classical.byContradiction (fun hd => q ⟨r, hr, hb, by rw [(hR r (by omega)).2.1]; exact hd⟩), z⟩, fun z => z.2⟩
theorem fr_mb {X M : TT} (h0 : X 0 0 = M 0 0) (hR : RR X M) (h4 : M 0 0 ≤ 4) {w : Int} (hw : 1 ≤ w) : ∀ k, k < 2 ^ (M 0 0).toNat → frN X w k = mb0 M w k := by
  intro k
  induction k with
  | zero => intro _; rfl
  | succ k ih =>
    intro hk
    have e := ih (by omega)
    have hle := mb0_le M w k
    have b1 := bc_mn (M 0 0).toNat (by omega) (k + 1) hk
    have b2 := bc_mn (M 0 0).toNat (by omega) (mb0 M w k) (by omega)
    have b3 : bcN (k + 1) ≤ 4 := bcN_bd (by have := (p2_bd (show (M 0 0).toNat ≤ 4 by omega)).2; omega)
    rw [frN_s, mb0_s, e, b1, b2]
    have hiff : ((mb0 M w k = 0 ∨ bcN (k + 1) < bcN (mb0 M w k)) ∧ w ≤ uoF X (k + 1)) ↔ (dyP M (k + 1) (M 0 0).toNat ∧ w ≤ ndF M (k + 1) (M 0 0).toNat ∧ ((bcN (k + 1) : Nat) : Int) < (if mb0 M w k = 0 then 5 else ((bcN (mb0 M w k) : Nat) : Int))) := by
      rw [uo_nd h0 hR hw]
      constructor
      · rintro ⟨z1, z2, z3⟩
        exact ⟨z2, z3, by split <;> omega⟩
      · rintro ⟨z1, z2, z3⟩
        exact ⟨by split at z3 <;> omega, z1, z2⟩
    exact pif_c hiff
theorem frF_mbF {X M : TT} (h0 : X 0 0 = M 0 0) (hR : RR X M) (h4 : M 0 0 ≤ 4) {w : Int} (hw : 1 ≤ w) : frF X w = mbF M w := by
  unfold frF mbF
  rw [h0]
  have := p2_bd (show (M 0 0).toNat ≤ 4 by omega)
  exact fr_mb h0 hR h4 hw _ (by omega)
theorem mb0_ok (M : TT) (w : Int) : ∀ k, mb0 M w k = 0 ∨ (dyP M (mb0 M w k) (M 0 0).toNat ∧ w ≤ ndF M (mb0 M w k) (M 0 0).toNat) := by
  intro k
  induction k with
  | zero => exact Or.inl rfl
  | succ k ih =>
    rw [mb0_s]
    by_cases q : dyP M (k + 1) (M 0 0).toNat ∧ w ≤ ndF M (k + 1) (M 0 0).toNat ∧ mnF (k + 1) (M 0 0).toNat < (if mb0 M w k = 0 then 5 else mnF (mb0 M w k) (M 0 0).toNat)
    · rw [pif_t q]; exact Or.inr ⟨q.1, q.2.1⟩
    · rw [pif_f q]; exact ih
theorem mb0_nz {M : TT} (h4 : M 0 0 ≤ 4) {w : Int} {c : Nat} (hc : 1 ≤ c) (h1 : dyP M c (M 0 0).toNat) (h2 : w ≤ ndF M c (M 0 0).toNat) : ∀ k, c ≤ k → mb0 M w k ≠ 0 := by
  intro k
  induction k with
  | zero => intro h; omega
  | succ k ih =>
    intro hk
    rw [mb0_s]
    by_cases q : dyP M (k + 1) (M 0 0).toNat ∧ w ≤ ndF M (k + 1) (M 0 0).toNat ∧ mnF (k + 1) (M 0 0).toNat < (if mb0 M w k = 0 then 5 else mnF (mb0 M w k) (M 0 0).toNat)
    · rw [pif_t q]; omega
    · rw [pif_f q]
      by_cases e : c = k + 1
      · subst e
        intro hz
        have hm := mnF_bd (k + 1) (M 0 0).toNat (by omega)
        exact q ⟨h1, h2, by rw [if_pos hz]; omega⟩
      · exact ih (by omega)
/-- enough free nodes on the racks that are not drained: a set is found, and it has enough -/
theorem mbF_ok {M : TT} (h0 : 0 ≤ M 0 0) (h4 : M 0 0 ≤ 4) {w : Int} (hw : 1 ≤ w) (hcap : w ≤ sumN (fun r => if M 14 r = 0 then foF M r else 0) (M 0 0).toNat) : dyP M (mbF M w) (M 0 0).toNat ∧ w ≤ ndF M (mbF M w) (M 0 0).toNat := by
  obtain ⟨c, hc, hb⟩ := bits_ex (fun r => M 14 r = 0) (show (M 0 0).toNat ≤ 4 by omega)
  have e1 : ndF M c (M 0 0).toNat = sumN (fun r => if M 14 r = 0 then foF M r else 0) (M 0 0).toNat := sumN_congr (fun r hr => by
    by_cases q : M 14 r = 0
    · rw [if_pos ((hb r hr).mpr q), if_pos q]
    · rw [if_neg (fun z => q ((hb r hr).mp z)), if_neg q])
  have hc1 : 1 ≤ c := by
    by_cases q : c = 0
    · subst q
      have : ndF M 0 (M 0 0).toNat = 0 := by
        have := sumN_zero (M 0 0).toNat
        rw [← this]
        exact sumN_congr (fun r _ => by rw [if_neg (by simp)])
      omega
    · omega
  rcases mb0_ok M w (2 ^ (M 0 0).toNat - 1) with h | h
  · exact absurd h (mb0_nz h4 hc1 (fun r hr hbit => (hb r hr).mp hbit) (by omega) _ (by omega))
  · exact h
theorem wn_eq {X M : TT} (hR : RR X M) (s : Nat) (w : Int) : ∀ r : Nat, (r : Int) ≤ M 0 0 → wnF X s w r = wnM M s w r := by
  intro r
  induction r with
  | zero => intro _; rfl
  | succ r ih =>
    intro hr
    rw [wnF_s, wnM_s, ih (by omega), (hR r (by omega)).2.2, Int.min_comm]
theorem wn_val {M : TT} (s : Nat) {w : Int} (hw : 0 ≤ w) (hfo : ∀ r : Nat, (r : Int) < M 0 0 → 0 ≤ foF M r) : ∀ r : Nat, (r : Int) ≤ M 0 0 → 0 ≤ ndF M s r ∧ wnM M s w r = (if w ≤ ndF M s r then 0 else w - ndF M s r) := by
  intro r
  induction r with
  | zero =>
    intro _
    refine ⟨Int.le_refl _, ?_⟩
    show w = if w ≤ 0 then 0 else w - 0
    split <;> omega
  | succ r ih =>
    intro hr
    obtain ⟨g1, g2⟩ := ih (by omega)
    have g3 := hfo r (by omega)
    rw [ndF_s, wnM_s, g2]
    by_cases q : (s >>> r) % 2 = 1
    · rw [if_pos q, if_pos q]
      refine ⟨by omega, ?_⟩
      (repeat' split) <;> omega
    · rw [if_neg q, if_neg q]
      refine ⟨by omega, ?_⟩
      rw [Int.add_zero]
/-- what a beginning job gets of a rack -/
def asg (M : TT) (s : Nat) (w : Int) (r : Nat) : Int := if (s >>> r) % 2 = 1 then min (foF M r) (wnM M s w r) else 0
theorem asg_sum (M : TT) (s : Nat) (w : Int) : ∀ n, sumN (asg M s w) n = w - wnM M s w n := by
  intro n
  induction n with
  | zero => show (0 : Int) = w - w; omega
  | succ n ih =>
    rw [sumN_s, ih, wnM_s]
    unfold asg
    split <;> omega
theorem asg_bd {M : TT} (s : Nat) {w : Int} (hw : 0 ≤ w) (hfo : ∀ r : Nat, (r : Int) < M 0 0 → 0 ≤ foF M r) {r : Nat} (hr : (r : Int) < M 0 0) : 0 ≤ asg M s w r ∧ asg M s w r ≤ foF M r := by
  have h1 := wn_val s hw hfo r (by omega)
  have h2 := hfo r hr
  have h3 : 0 ≤ wnM M s w r := by rw [h1.2]; split <;> omega
  unfold asg
  split <;> omega
