/-! EACH CALL: the class and the model answer alike, and what they have to do with each other is kept -/
def Iv (S : WW) : Prop := MR (S 0) (S 2) ∧ Bd (S 1)
/-- a call on the class, then the same call on the model: one answer -/
def Cl (l : Launch) (E : Ew) (S : WW) (yG : MethodName) (bG : ByteArray) (nG hG : Nat) (yM : MethodName) (bM : ByteArray) (nM hM : Nat) (as : List Value) : Prop :=
  ∃ (v : Int) (S1 S2 : WW), Kf l yG bG nG (some .int) hG E S (rf E 0 :: as) (some (iv v)) S1 ∧ Kf l yM bM nM (some .int) hM E S1 (rf E 1 :: as) (some (iv v)) S2 ∧ Iv S2
section CALLS
variable {l : Launch} {E : Ew} {S : WW}
theorem cl_mk {yG yM : MethodName} {bG bM : ByteArray} {nG hG nM hM : Nat} {as : List Value} {v w : Int} {X M : TT} (h : Iv S) (kG : Kf l yG bG nG (some .int) hG E (sm S 0 (S 0)) (rf E 0 :: as) (some (iv v)) (sm S 0 X)) (kM : ∀ S1 : WW, Kf l yM bM nM (some .int) hM E (sm S1 2 (S 2)) (rf E 1 :: as) (some (iv w)) (sm S1 2 M)) (hv : v = w) (hI : MR X M) : Cl l E S yG bG nG hG yM bM nM hM as := by
  subst hv
  refine ⟨v, sm S 0 X, sm (sm S 0 X) 2 M, ?_, ?_, ?_, ?_⟩
  · rw [sm_self] at kG; exact kG
  · have k := kM (sm S 0 X)
    rw [show S 2 = sm S 0 X 2 from (sm_ne (by omega)).symm, sm_self] at k
    exact k
  · rw [sm_eq, sm_ne (by omega), sm_eq]; exact hI
  · rw [sm_ne (by omega), sm_ne (by omega)]; exact h.2
theorem mr_e {X M : TT} (h : MR X M) : Bd X ∧ Bd M ∧ X 0 0 = M 0 0 ∧ X 1 0 = M 1 0 ∧ X 2 0 = M 2 0 ∧ X 3 0 = M 3 0 ∧ X 4 0 = M 4 0 ∧ X 5 0 = M 5 0 ∧ X 6 0 = M 6 0 ∧ X 7 0 = roomF M (M 0 0).toNat ∧ M 3 0 ≤ 8 := by
  obtain ⟨⟨⟨⟨hBX, hBM⟩, ⟨e0, e1, e2, e4, e5, e6, e7⟩, hRR, hRA, hJ, hH, hI, hIR, hIS⟩, h3⟩, h89, ht, hz⟩ := h
  exact ⟨hBX, hBM, e0, e1, e2, h3, e4, e5, e6, e7, hIS.1⟩
theorem cl_rack (h : Iv S) {n : Int} (hn : ir n) : Cl l E S y_Gm_rack b_Gm_rack 2 3 y_Md_rack b_Md_rack 2 1 [iv n] := by
  obtain ⟨hX, hM, e0, e1, e2, e3, e4, e5, e6, e7, h8⟩ := mr_e h.1
  refine cl_mk h (k_Gm_rack hX hn) (fun _ => k_Md_rack hM hn) ?_ ?_ <;> rw [e0]
  · by_cases c : n < 1 ∨ 16 < n
    · rw [if_pos c, if_pos c]
    · have b := bd0 hM 0
      rw [if_neg c, if_neg c]
      by_cases q : S 2 0 0 = 4
      · rw [if_pos (by omega), if_pos q]
      · rw [if_neg (by omega), if_neg q]
  · have b := bd0 hM 0
    by_cases c : (n < 1 ∨ 16 < n) ∨ S 2 0 0 = 4
    · rw [if_pos (by omega), if_pos c]; exact h.1
    · rw [if_neg (by omega), if_neg c]
      exact m_rack h.1 (by omega) (by omega)
theorem cl_drain (h : Iv S) {n b : Int} (hn : ir n) (hb : b = 0 ∨ b = 1) : Cl l E S y_Gm_drain b_Gm_drain 4 2 y_Md_drain b_Md_drain 4 2 [iv n, iv b] := by
  obtain ⟨hX, hM, e0, e1, e2, e3, e4, e5, e6, e7, h8⟩ := mr_e h.1
  refine cl_mk h (k_Gm_drain hX hn hb) (fun _ => k_Md_drain hM hn hb) ?_ ?_ <;> rw [e0]
  · by_cases c : ¬ (0 ≤ n ∧ n < S 2 0 0)
    · rw [if_pos c, if_pos c]
    · rw [if_neg c, if_neg c]
      exact (h.1.1.1.2.2.1 n.toNat (by omega)).2.1
  · by_cases c : ¬ (0 ≤ n ∧ n < S 2 0 0)
    · rw [if_pos c, if_pos c]; exact h.1
    · rw [if_neg c, if_neg c]
      exact m_drain h.1 (by omega) hb
theorem cl_fail (h : Iv S) {n : Int} (hn : ir n) : Cl l E S y_Gm_fail b_Gm_fail 2 3 y_Md_fail b_Md_fail 5 2 [iv n] := by
  obtain ⟨hX, hM, e0, e1, e2, e3, e4, e5, e6, e7, h8⟩ := mr_e h.1
  have b0 := bd0 hM 0
  have b2 := bd2 hM 0
  refine cl_mk h (k_Gm_fail hX hn (fun r i q1 q2 q3 => ?_)) (fun _ => k_Md_fail hM hn (fun r i q1 q2 q3 => ?_)) ?_ ?_
  · obtain ⟨g1, _, g3⟩ := m_fail h.1 (r := r) (by omega) i (by omega)
    obtain ⟨y1, y2⟩ := g3 (by omega)
    exact ⟨g1.1.1.1.1, y1, y2⟩
  · exact (m_fail h.1 (r := r) (by omega) i (by omega)).1.1.1.1.2
  · rw [e0, e2]
    by_cases c : ¬ (0 ≤ n ∧ n < S 2 0 0)
    · rw [if_pos c, if_pos c]
    · rw [if_neg c, if_neg c]
      exact (m_fail h.1 (r := n.toNat) (by omega) (S 2 2 0).toNat (by omega)).2.1
  · rw [e0, e2]
    by_cases c : ¬ (0 ≤ n ∧ n < S 2 0 0)
    · rw [if_pos c, if_pos c]; exact h.1
    · rw [if_neg c, if_neg c]
      exact (m_fail h.1 (r := n.toNat) (by omega) (S 2 2 0).toNat (by omega)).1
theorem cl_licences (h : Iv S) {n : Int} (hn : ir n) : Cl l E S y_Gm_licences b_Gm_licences 3 1 y_Md_licences b_Md_licences 3 1 [iv n] := by
  obtain ⟨hX, hM, e0, e1, e2, e3, e4, e5, e6, e7, h8⟩ := mr_e h.1
  refine cl_mk h (k_Gm_licences hX hn) (fun _ => k_Md_licences hM hn) (by rw [e6]) ?_
  by_cases c : n < 0 ∨ 100 < n
  · rw [if_pos c, if_pos c]; exact h.1
  · rw [if_neg c, if_neg c]; exact m_licences h.1 (by omega)
theorem cl_half (h : Iv S) {n : Int} (hn : ir n) : Cl l E S y_Gm_half b_Gm_half 3 1 y_Md_half b_Md_half 3 1 [iv n] := by
  obtain ⟨hX, hM, e0, e1, e2, e3, e4, e5, e6, e7, h8⟩ := mr_e h.1
  refine cl_mk h (k_Gm_half hX hn) (fun _ => k_Md_half hM hn) (by rw [e5]) ?_
  by_cases c : n < 1 ∨ 1000 < n
  · rw [if_pos c, if_pos c]; exact h.1
  · rw [if_neg c, if_neg c]; exact m_half h.1 (by omega)
theorem cl_account (h : Iv S) {n : Int} (hn : ir n) : Cl l E S y_Gm_account b_Gm_account 2 1 y_Md_account b_Md_account 2 1 [iv n] := by
  obtain ⟨hX, hM, e0, e1, e2, e3, e4, e5, e6, e7, h8⟩ := mr_e h.1
  have b := bd1 hM 0
  refine cl_mk h (k_Gm_account hX hn) (fun _ => k_Md_account hM hn) ?_ ?_ <;> rw [e1]
  · by_cases c : n < 1 ∨ 100 < n
    · rw [if_pos c, if_pos c]
    · rw [if_neg c, if_neg c]
      by_cases q : S 2 1 0 = 6
      · rw [if_pos (by omega), if_pos q]
      · rw [if_neg (by omega), if_neg q]
  · by_cases c : (n < 1 ∨ 100 < n) ∨ S 2 1 0 = 6
    · rw [if_pos (by omega), if_pos c]; exact h.1
    · rw [if_neg (by omega), if_neg c]
      exact m_account h.1 (by omega) (by omega)
theorem cl_job (h : Iv S) {a n c d e f : Int} (ha : ir a) (hn : ir n) (hc : ir c) (hd : ir d) (he : ir e) (hf : ir f) : Cl l E S y_Gm_job b_Gm_job 8 1 y_Md_job b_Md_job 7 1 [iv a, iv n, iv c, iv d, iv e, iv f] := by
  obtain ⟨hX, hM, e0, e1, e2, e3, e4, e5, e6, e7, h8⟩ := mr_e h.1
  have b := bd2 hM 0
  have eC : jbG (S 0) a n c d e f = jbC (S 2) a n c d e f := by
    unfold jbG jbC
    rw [e1, e2]
    by_cases q1 : ¬ (0 ≤ a ∧ a < S 2 1 0)
    · rw [if_pos q1, if_pos q1]
    rw [if_neg q1, if_neg q1]
    by_cases q2 : (n < 1 ∨ 64 < n) ∨ (c < 0 ∨ 100 < c) ∨ (d < 1 ∨ 50 < d) ∨ (e < 1 ∨ d < e) ∨ (f < 0 ∨ 50 < f)
    · rw [if_pos q2, if_pos q2]
    rw [if_neg q2, if_neg q2]
    by_cases q3 : S 2 2 0 = 30
    · rw [if_pos (by omega), if_pos q3]
    · rw [if_neg (by omega), if_neg q3]
  refine cl_mk h (k_Gm_job hX ha hn hc hd he hf) (fun _ => k_Md_job hM ha hn hc hd he hf) (by rw [eC, e2]) ?_
  rw [eC]
  by_cases q : jbC (S 2) a n c d e f = 1
  · rw [if_pos q, if_pos q]
    unfold jbC at q
    by_cases q1 : ¬ (0 ≤ a ∧ a < S 2 1 0)
    · rw [if_pos q1] at q; omega
    rw [if_neg q1] at q
    by_cases q2 : (n < 1 ∨ 64 < n) ∨ (c < 0 ∨ 100 < c) ∨ (d < 1 ∨ 50 < d) ∨ (e < 1 ∨ d < e) ∨ (f < 0 ∨ 50 < f)
    · rw [if_pos q2] at q; omega
    rw [if_neg q2] at q
    by_cases q3 : S 2 2 0 = 30
    · rw [if_pos q3] at q; omega
    exact m_job h.1 (by omega) (by omega) (by omega) (by omega) (by omega) (by omega) (by omega)
  · rw [if_neg q, if_neg q]; exact h.1
theorem cl_behind (h : Iv S) {j k : Int} (hj : ir j) (hk : ir k) : Cl l E S y_Gm_behind b_Gm_behind 3 1 y_Md_behind b_Md_behind 3 2 [iv j, iv k] := by
  obtain ⟨hX, hM, e0, e1, e2, e3, e4, e5, e6, e7, h8⟩ := mr_e h.1
  have eC : bhC (S 0) j k = bhC (S 2) j k := by
    unfold bhC
    rw [e2]
    by_cases q1 : ¬ (0 ≤ j ∧ j < S 2 2 0) ∨ (k ≠ -1 ∧ ¬ (0 ≤ k ∧ k < S 2 2 0))
    · rw [if_pos q1, if_pos q1]
    rw [if_neg q1, if_neg q1, (h.1.1.1.2.2.2.2.1 j.toNat (by omega)).1 24 (by decide) (by decide)]
  refine cl_mk h (k_Gm_behind hX hj hk) (fun _ => k_Md_behind hM hj hk) eC ?_
  rw [eC]
  by_cases q : bhC (S 2) j k = 1
  · rw [if_pos q, if_pos q]
    unfold bhC at q
    by_cases q1 : ¬ (0 ≤ j ∧ j < S 2 2 0) ∨ (k ≠ -1 ∧ ¬ (0 ≤ k ∧ k < S 2 2 0))
    · rw [if_pos q1] at q; omega
    rw [if_neg q1] at q
    by_cases q2 : j ≤ k
    · rw [if_pos q2] at q; omega
    exact m_behind h.1 (by omega) (by omega)
  · rw [if_neg q, if_neg q]; exact h.1
theorem cl_cancel (h : Iv S) {j : Int} (hj : ir j) : Cl l E S y_Gm_cancel b_Gm_cancel 3 1 y_Md_cancel b_Md_cancel 2 2 [iv j] := by
  obtain ⟨hX, hM, e0, e1, e2, e3, e4, e5, e6, e7, h8⟩ := mr_e h.1
  have b := bd24 hM j.toNat
  have eC : cnC (S 0) j = caC (S 2) j := by
    unfold cnC caC
    rw [e2]
    by_cases q1 : ¬ (0 ≤ j ∧ j < S 2 2 0)
    · rw [if_pos q1, if_pos q1]
    rw [if_neg q1, if_neg q1, (h.1.1.1.2.2.2.2.1 j.toNat (by omega)).1 24 (by decide) (by decide)]
    by_cases q2 : 1 < S 2 24 j.toNat
    · rw [if_pos (by omega), if_pos q2]
    · rw [if_neg (by omega), if_neg q2]
  refine cl_mk h (k_Gm_cancel hX hj) (fun _ => k_Md_cancel hM hj) eC ?_
  rw [eC]
  by_cases q : caC (S 2) j = 1
  · rw [if_pos q, if_pos q]
    unfold caC at q
    by_cases q1 : ¬ (0 ≤ j ∧ j < S 2 2 0)
    · rw [if_pos q1] at q; omega
    exact m_cancel h.1 (by omega)
  · rw [if_neg q, if_neg q]; exact h.1
theorem cl_book (h : Iv S) {n a b : Int} (hn : ir n) (ha : ir a) (hb : ir b) : Cl l E S y_Gm_book b_Gm_book 5 2 y_Md_book b_Md_book 6 2 [iv n, iv a, iv b] := by
  obtain ⟨hX, hM, e0, e1, e2, e3, e4, e5, e6, e7, h8⟩ := mr_e h.1
  have b4 := bd4 hM 0
  have eP : ¬ bkO (S 2) n a b → (nfP (S 0) n a b (S 0 3 0).toNat ↔ mkP (S 2) n a b) := by
    intro c
    rw [nfP_all hX (by omega)]
    unfold mkP
    have key : ∀ u, a ≤ u → u < b → (n + ntF (S 0) u ≤ S 0 7 0 ↔ tnM (S 2) u + n ≤ roomF (S 2) (S 2 0 0).toNat) := by
      intro u u1 u2
      rw [(tk_n0 h.1.1.1 h.1.1.2 (u := u) (by omega)).1, e7]
      omega
    exact ⟨fun z u u1 u2 => (key u u1 u2).mp (z u u1 u2), fun z u u1 u2 => (key u u1 u2).mpr (z u u1 u2)⟩
  have eO : bkO (S 0) n a b ↔ bkO (S 2) n a b := by unfold bkO; rw [e4]
  refine cl_mk h (k_Gm_book hX hn ha hb) (fun _ => k_Md_book hM hn ha hb h8) ?_ ?_
  · unfold bkV mkV
    by_cases c : bkO (S 2) n a b
    · rw [if_pos c, if_pos (eO.mpr c)]
    rw [if_neg c, if_neg (fun z => c (eO.mp z)), e3]
    by_cases q : mkP (S 2) n a b
    · rw [pif_t q, pif_t (by rw [← e3]; exact (eP c).mpr q)]
      by_cases q3 : S 2 3 0 = 8
      · rw [if_pos (by omega), if_pos q3]
      · rw [if_neg (by omega), if_neg q3]
    · rw [pif_f q, pif_f (fun z => q ((eP c).mp (by rw [e3]; exact z)))]
  · unfold bkS mkS
    by_cases c : bkO (S 2) n a b
    · rw [if_pos c, if_pos (eO.mpr c)]; exact h.1
    rw [if_neg c, if_neg (fun z => c (eO.mp z))]
    by_cases q : mkP (S 2) n a b
    · rw [pif_t q, pif_t ((eP c).mpr q)]
      by_cases q3 : S 2 3 0 = 8
      · rw [if_pos (by omega), if_pos q3]; exact h.1
      · rw [if_neg (by omega), if_neg q3]
        exact m_book h.1 (by omega) (by omega) (by omega) (by omega)
    · rw [pif_f q, pif_f (fun z => q ((eP c).mp z))]; exact h.1
theorem cl_unbook (h : Iv S) {n : Int} (hn : ir n) : Cl l E S y_Gm_unbook b_Gm_unbook 2 3 y_Md_unbook b_Md_unbook 3 1 [iv n] := by
  obtain ⟨hX, hM, e0, e1, e2, e3, e4, e5, e6, e7, h8⟩ := mr_e h.1
  refine cl_mk h (k_Gm_unbook hX hn) (fun _ => k_Md_unbook hM hn h8) (by rw [e3]) ?_
  rw [e3]
  by_cases c : ¬ (0 ≤ n ∧ n < S 2 3 0)
  · rw [if_pos c, if_pos c]; exact h.1
  · rw [if_neg c, if_neg c]; exact m_unbook h.1 (by omega)
theorem cl_ticks (h : Iv S) {n : Int} (hn : ir n) : Cl l E S y_Gm_ticks b_Gm_ticks 3 6 y_Md_ticks b_Md_ticks 3 3 [iv n] := by
  obtain ⟨hX, hM, e0, e1, e2, e3, e4, e5, e6, e7, h8⟩ := mr_e h.1
  obtain ⟨g1, g2, g3, g4⟩ := c_ticks h.1 (n := n)
  exact cl_mk h (k_Gm_ticks hX hn g2) (fun _ => k_Md_ticks hM hn g1) g3 g4
theorem cl_told (h : Iv S) {j w : Int} (hj : ir j) (hw : ir w) : Cl l E S y_Gm_told b_Gm_told 4 1 y_Md_told b_Md_told 5 2 [iv j, iv w] := by
  obtain ⟨hX, hM, e0, e1, e2, e3, e4, e5, e6, e7, h8⟩ := mr_e h.1
  refine cl_mk h (k_Gm_told hX hj hw) (fun _ => k_Md_told hM hj hw) ?_ h.1
  unfold tdG tdM
  rw [e2]
  by_cases c : ¬ (0 ≤ j ∧ j < S 2 2 0)
  · rw [if_pos c, if_pos c]
  rw [if_neg c, if_neg c]
  obtain ⟨g1, g2, g3, g4⟩ := h.1.1.1.2.2.2.2.1 j.toNat (by omega)
  obtain ⟨i1, i2, i3⟩ := h.1.1.1.2.2.2.2.2.2.1 j.toNat (by omega)
  have f24 := g1 24 (by decide) (by decide)
  have f25 := g1 25 (by decide) (by decide)
  have er : ranF (S 0) j.toNat (S 0 4 0) = S 2 35 j.toNat := by
    unfold ranF
    rw [f24, e4, f25]
    by_cases q : S 2 24 j.toNat = 1
    · rw [if_pos q]; exact ((i2 q).1).symm
    · rw [if_neg q]; exact ((i3 q).1).symm
  have eh : heldF (S 0) j.toNat = mhF (S 2) j.toNat := by
    unfold heldF mhF
    refine sumN_congr (fun r hr => ?_)
    unfold b2i
    rw [g4 r hr]
  rw [f24, f25, g1 26 (by decide) (by decide), g1 27 (by decide) (by decide), er, eh]
theorem cl_on (h : Iv S) {j r : Int} (hj : ir j) (hr : ir r) : Cl l E S y_Gm_on b_Gm_on 3 1 y_Md_on b_Md_on 3 2 [iv j, iv r] := by
  obtain ⟨hX, hM, e0, e1, e2, e3, e4, e5, e6, e7, h8⟩ := mr_e h.1
  refine cl_mk h (k_Gm_on hX hj hr) (fun _ => k_Md_on hM hj hr) ?_ h.1
  rw [e2, e0]
  have b := bd0 hM 0
  by_cases c : (0 ≤ j ∧ j < S 2 2 0) ∧ (0 ≤ r ∧ r < S 2 0 0)
  · rw [if_pos c, if_pos c]
    exact (h.1.1.1.2.2.2.2.1 j.toNat (by omega)).2.2.2 r.toNat (by omega)
  · rw [if_neg c, if_neg c]
theorem cl_free (h : Iv S) {r : Int} (hr : ir r) : Cl l E S y_Gm_free b_Gm_free 2 1 y_Md_free b_Md_free 2 2 [iv r] := by
  obtain ⟨hX, hM, e0, e1, e2, e3, e4, e5, e6, e7, h8⟩ := mr_e h.1
  refine cl_mk h (k_Gm_free hX hr) (fun _ => k_Md_free hM hr) ?_ h.1
  rw [e0]
  by_cases c : 0 ≤ r ∧ r < S 2 0 0
  · rw [if_pos c, if_pos c]
    exact (h.1.1.1.2.2.1 r.toNat (by omega)).2.2
  · rw [if_neg c, if_neg c]
theorem cl_used (h : Iv S) {a : Int} (ha : ir a) : Cl l E S y_Gm_used b_Gm_used 2 1 y_Md_used b_Md_used 2 1 [iv a] := by
  obtain ⟨hX, hM, e0, e1, e2, e3, e4, e5, e6, e7, h8⟩ := mr_e h.1
  refine cl_mk h (k_Gm_used hX ha) (fun _ => k_Md_used hM ha) ?_ h.1
  rw [e1]
  by_cases c : 0 ≤ a ∧ a < S 2 1 0
  · rw [if_pos c, if_pos c]
    exact (h.1.1.1.2.2.2.1 a.toNat (by omega)).2
  · rw [if_neg c, if_neg c]
theorem cl_blocked (h : Iv S) {w : Int} (hw : ir w) : Cl l E S y_Gm_blocked b_Gm_blocked 2 0 y_Md_blocked b_Md_blocked 2 0 [iv w] := by
  obtain ⟨hX, hM, e0, e1, e2, e3, e4, e5, e6, e7, h8⟩ := mr_e h.1
  exact cl_mk h (k_Gm_blocked hX hw) (fun _ => k_Md_blocked hM hw) (by rw [h.1.2.1.1, h.1.2.1.2]) h.1
theorem cl_taken (h : Iv S) {w u : Int} (hw : ir w) (hu : ir u) : Cl l E S y_Gm_taken b_Gm_taken 3 1 y_Md_taken b_Md_taken 3 2 [iv w, iv u] := by
  obtain ⟨hX, hM, e0, e1, e2, e3, e4, e5, e6, e7, h8⟩ := mr_e h.1
  have b4 := bd4 hM 0
  refine cl_mk h (k_Gm_taken hX hw hu) (fun _ => k_Md_taken hM hw hu h8) ?_ h.1
  rw [e4]
  by_cases c : (w < 0 ∨ 1 < w) ∨ (u < S 2 4 0 ∨ S 2 4 0 + 300 < u)
  · rw [if_pos c, if_pos c]
  · rw [if_neg c, if_neg c]
    obtain ⟨k1, k2⟩ := tk_n0 h.1.1.1 h.1.1.2 (u := u) (by omega)
    rw [k1, k2]
theorem cl_foreseen (h : Iv S) {j : Int} (hj : ir j) : Cl l E S y_Gm_foreseen b_Gm_foreseen 5 6 y_Md_foreseen b_Md_foreseen 8 3 [iv j] := by
  obtain ⟨hX, hM, e0, e1, e2, e3, e4, e5, e6, e7, h8⟩ := mr_e h.1
  obtain ⟨g1, g2, g3⟩ := m_foreseen h.1 h.2 j
  have kG := k_Gm_foreseen (l := l) (E := E) (S0 := S) (t := S 1) hj hX (fun q i q1 q2 q3 q4 => by
    obtain ⟨⟨y1, y2⟩, _⟩ := fore_I h.1 h.2 (q := q) (i := i) (by omega) q4
    exact ⟨y1, fun _ _ => y2⟩)
  have kM := k_Md_foreseen (l := l) (E := E) (S0 := sm S 1 (fuS (S 0) (S 1) j)) (t := S 2) hM hj (fun q i q1 q2 q3 q4 => by
    obtain ⟨_, ⟨y1, y2⟩⟩ := fore_I h.1 h.2 (q := q) (i := i) (by omega) q4
    exact ⟨y1, fun _ _ => y2⟩)
  refine ⟨fuV (S 0) (S 1) j, sm S 1 (fuS (S 0) (S 1) j), sm (sm S 1 (fuS (S 0) (S 1) j)) 2 (fsS (S 2) j), ?_, ?_, ?_, ?_⟩
  · rw [sm_self] at kG; exact kG
  · rw [show S 2 = sm S 1 (fuS (S 0) (S 1) j) 2 from (sm_ne (by omega)).symm, sm_self] at kM
    rw [show sm S 1 (fuS (S 0) (S 1) j) 2 = S 2 from sm_ne (by omega)] at kM
    rw [g1]
    exact kM
  · rw [sm_ne (by omega), sm_ne (by omega), sm_eq]; exact g2
  · rw [sm_ne (by omega), sm_eq]; exact g3
theorem cl_count (h : Iv S) {w : Int} (hw : ir w) : Cl l E S y_Gm_count b_Gm_count 2 1 y_Md_count b_Md_count 4 1 [iv w] := by
  obtain ⟨hX, hM, e0, e1, e2, e3, e4, e5, e6, e7, h8⟩ := mr_e h.1
  have b2 := bd2 hM 0
  refine cl_mk h (k_Gm_count hX hw) (fun _ => k_Md_count hM hw) ?_ h.1
  have ej : ∀ st : Int, jtaF (S 0) st (S 2 2 0).toNat = mjF (S 2) st (S 2 2 0).toNat := by
    intro st
    unfold jtaF mjF
    refine sumN_congr (fun j hj => ?_)
    unfold b2i
    rw [(h.1.1.1.2.2.2.2.1 j (by omega)).1 24 (by decide) (by decide)]
  unfold ctG ctM
  rw [e0, e1, e2, e3, e4, e7, ej, ej]
end CALLS
