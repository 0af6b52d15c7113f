theorem g_goal {g : WW → Nat → LL → List Value → Prop} {S S2 : WW} {pc : Nat} {L : LL} {st : List Value} (h : S = S2) (k : g S2 pc L st) : g S pc L st := by rw [h]; exact k
def ulP (t : TT) (a b : Nat) : Prop := wr (t 16 a) * wr (t 15 b) < wr (t 16 b) * wr (t 15 a)
theorem cmpI_ge (a b : Int) : 0 ≤ cmpI a b ↔ b ≤ a := by unfold cmpI; (repeat' split) <;> omega
theorem cmpI_ir (a b : Int) : ir (cmpI a b) := by unfold cmpI; (repeat' split) <;> exact ⟨by omega, by omega⟩
theorem k_Ac_usedLessThan {l : Launch} {E : Ew} {S0 : WW} {m : Nat} {t : TT} (hm : m < 2) {a b : Nat} (ha : a < 6) (hb : b < 6) : Kf l y_Ac_usedLessThan b_Ac_usedLessThan 2 (some .boolean) 0 E (sm S0 m t) [rf E (kAc m a), rf E (kAc m b)] (some (iv (pb (ulP t a b)))) (sm S0 m t) := by
  refine KfZ rfl rfl (Nat.le_of_ble_eq_true rfl) (fun g C R => ?_)
  show g (sm S0 m t) 0 [some (rf E (kAc m a)), some (rf E (kAc m b))] []
  refine r_aload_n C d_Ac_usedLessThan_0 rfl ?_
  refine g_Ac_use C hm (by omega) lk_Ac_13 d_Ac_usedLessThan_1 ?_
  refine r_i2l C d_Ac_usedLessThan_4 ?_
  refine r_aload_n C d_Ac_usedLessThan_5 rfl ?_
  refine g_Ac_shares C hm (by omega) lk_Ac_7 d_Ac_usedLessThan_6 ?_
  refine r_i2l C d_Ac_usedLessThan_9 ?_
  refine r_lmul C d_Ac_usedLessThan_10 ?_
  refine r_aload_n C d_Ac_usedLessThan_11 rfl ?_
  refine g_Ac_use C hm (by omega) lk_Ac_13 d_Ac_usedLessThan_12 ?_
  refine r_i2l C d_Ac_usedLessThan_15 ?_
  refine r_aload_n C d_Ac_usedLessThan_16 rfl ?_
  refine g_Ac_shares C hm (by omega) lk_Ac_7 d_Ac_usedLessThan_17 ?_
  refine r_i2l C d_Ac_usedLessThan_20 ?_
  refine r_lmul C d_Ac_usedLessThan_21 ?_
  refine r_lcmp C d_Ac_usedLessThan_22 (lr_mul _ _) (lr_mul _ _) ?_
  refine r_if_ge (tgt := 30) C d_Ac_usedLessThan_23 (by decide) (cmpI_ir _ _) (fun c23 => ?_) (fun c23 => ?_)
  · refine r_iconst C d_Ac_usedLessThan_30 ?_
    exact R d_Ac_usedLessThan_31 (by omega) (by rw [cmpI_ge] at c23; first | exact (pb_f (fun q => by unfold ulP at q; omega)).symm | exact (pb_t (by unfold ulP; omega)).symm) rfl
  · refine r_iconst C d_Ac_usedLessThan_26 ?_
    refine r_goto (tgt := 31) C d_Ac_usedLessThan_27 (by decide) ?_
    exact R d_Ac_usedLessThan_31 (by omega) (by rw [cmpI_ge] at c23; first | exact (pb_f (fun q => by unfold ulP at q; omega)).symm | exact (pb_t (by unfold ulP; omega)).symm) rfl
def qset (q : Nat → Int) (i : Nat) (x : Int) : Nat → Int := fun a => if a = i then x else q a
noncomputable def insQ (lt : Int → Prop) (x : Int) : (Nat → Int) → Nat → (Nat → Int)
  | q, 0 => qset q 0 x
  | q, p + 1 => pif (lt (q p)) (insQ lt x (qset q (p + 1) (q p)) p) (qset q (p + 1) x)
def setQ (t : TT) (q : Nat → Int) : TT := fun f a => if f = 11 then q a else t f a
def ltQ (t : TT) (x : Nat) : Int → Prop := fun y => ulP t (t 17 x).toNat (t 17 y.toNat).toNat
noncomputable def pqF (t : TT) (x : Nat) : TT := tu (setQ t (insQ (ltQ t x) (x : Int) (t 11) (t 10 0).toNat)) 10 0 (t 10 0 + 1)
theorem setQ_11 (t : TT) (q : Nat → Int) (a : Nat) : setQ t q 11 a = q a := rfl
theorem setQ_ne {t : TT} {q : Nat → Int} {f a : Nat} (h : f ≠ 11) : setQ t q f a = t f a := if_neg h
theorem setQ_self (t : TT) : setQ t (t 11) = t := by
  funext f a; unfold setQ; split
  · rename_i h; rw [h]
  · rfl
theorem setQ_tu (t : TT) (q : Nat → Int) (i : Nat) (x : Int) : tu (setQ t q) 11 i x = setQ t (qset q i x) := by
  funext f a; unfold tu setQ qset; by_cases h : f = 11
  · subst h; by_cases h2 : a = i <;> simp [h2]
  · simp [h]
theorem setQ_bd {t : TT} (hB : Bd t) {q : Nat → Int} (hq : ∀ i, 0 ≤ q i ∧ q i ≤ 29) : Bd (setQ t q) := by
  intro f a hf
  unfold setQ; split
  · rename_i h; rw [h]; exact hq a
  · exact hB f a hf
theorem qset_bd {q : Nat → Int} (hq : ∀ i, 0 ≤ q i ∧ q i ≤ 29) {i : Nat} {x : Int} (hx : 0 ≤ x ∧ x ≤ 29) : ∀ a, 0 ≤ qset q i x a ∧ qset q i x a ≤ 29 := by
  intro a; unfold qset; split
  · exact hx
  · exact hq a
theorem insQ_bd {lt : Int → Prop} {x : Int} (hx : 0 ≤ x ∧ x ≤ 29) : ∀ (p : Nat) (q : Nat → Int), (∀ i, 0 ≤ q i ∧ q i ≤ 29) → ∀ i, 0 ≤ insQ lt x q p i ∧ insQ lt x q p i ≤ 29 := by
  intro p
  induction p with
  | zero => intro q hq; exact qset_bd hq hx
  | succ p ih =>
    intro q hq
    unfold insQ
    by_cases c : lt (q p)
    · rw [pif_t c]; exact ih _ (qset_bd hq (hq p))
    · rw [pif_f c]; exact qset_bd hq hx
theorem pqF_bd {t : TT} (hB : Bd t) {x : Nat} (hx : x < 30) (hl : t 10 0 < 30) : Bd (pqF t x) :=
  bd_tu (setQ_bd hB (insQ_bd ⟨by omega, by omega⟩ _ _ (bd11 hB))) (fun _ => by have := bd10 hB 0; show (0 : Int) ≤ _ ∧ _ ≤ (30 : Int); omega)
theorem pqF_ne {t : TT} {x f a : Nat} (h : f ≠ 11) (h2 : f ≠ 10) : pqF t x f a = t f a := by unfold pqF; rw [tu_ne (by omega), setQ_ne h]
theorem pqF_10 (t : TT) (x : Nat) : pqF t x 10 0 = t 10 0 + 1 := by unfold pqF; rw [tu_eq]
theorem k_Mc_putInQueue {l : Launch} {E : Ew} {S0 : WW} {m : Nat} {t : TT} (hm : m < 2) {x : Nat} (hx : x < 30) (hl0 : t 10 0 < 30) (hB : Bd t) : Kf l y_Mc_putInQueue b_Mc_putInQueue 4 none 1 E (sm S0 m t) [rf E (kMc m), iv (x : Int)] none (sm S0 m (pqF t x)) := by
  refine KfV rfl rfl (Nat.le_of_ble_eq_true rfl) (fun g C R => ?_)
  show g (sm S0 m t) 0 [some (rf E (kMc m)), some (iv (x : Int)), none, none] []
  have b10 := bd10 hB 0
  have b17 := bd17 hB x
  have hl : ∀ (p : Nat) (q : Nat → Int), (∀ i, 0 ≤ q i ∧ q i ≤ 29) → p < 30 → insQ (ltQ t x) (x : Int) q p = insQ (ltQ t x) (x : Int) (t 11) (t 10 0).toNat → g (sm S0 m (setQ t q)) 20 [some (rf E (kMc m)), some (iv (x : Int)), some (rf E (kAc m (t 17 x).toNat)), some (iv (p : Int))] [] := by
    intro p
    induction p with
    | zero =>
      intro q hq h1 h3
      refine r_iload_n C d_Mc_putInQueue_20 rfl ?_
      refine r_if_le (tgt := 72) C d_Mc_putInQueue_21 (by decide) (by first | assumption | exact bd_ir (by assumption) rfl | exact b2i_ir _ | exact pb_ir _ | exact ir_mk (by omega) (by omega)) (fun c21 => ?_) (fun c21 => ?_)
      · refine r_aload_n C d_Mc_putInQueue_72 rfl ?_
        refine g_Mc_queue C hm lk_Mc_48 d_Mc_putInQueue_73 ?_
        refine r_iload_n C d_Mc_putInQueue_76 rfl ?_
        refine r_iload_n C d_Mc_putInQueue_77 rfl ?_
        refine st_Qu C hm 0 rfl (by omega) d_Mc_putInQueue_78 ?_
        rw [setQ_tu]
        refine r_aload_n C d_Mc_putInQueue_79 rfl ?_
        refine r_dup C d_Mc_putInQueue_80 rfl ?_
        refine g_Mc_queueLength C hm lk_Mc_173 d_Mc_putInQueue_81 ?_
        refine r_iconst C d_Mc_putInQueue_84 ?_
        rw [setQ_ne (by decide)]
        refine r_iadd C d_Mc_putInQueue_85 ?_
        refine p_Mc_queueLength C hm lk_Mc_173 d_Mc_putInQueue_86 ?_
        exact R d_Mc_putInQueue_89 (by rw [show qset q 0 (x : Int) = insQ (ltQ t x) (x : Int) q 0 from rfl, h3]; rfl)
      · exact absurd c21 (by omega)
    | succ p ih =>
      intro q hq h1 h3
      have hqp := hq p
      have hac := bd17 hB (q p).toNat
      rw [insQ] at h3
      refine r_iload_n C d_Mc_putInQueue_20 rfl ?_
      refine r_if_le (tgt := 72) C d_Mc_putInQueue_21 (by decide) (by first | assumption | exact bd_ir (by assumption) rfl | exact b2i_ir _ | exact pb_ir _ | exact ir_mk (by omega) (by omega)) (fun c21 => ?_) (fun c21 => ?_)
      · refine r_aload_n C d_Mc_putInQueue_72 rfl ?_
        refine g_Mc_queue C hm lk_Mc_48 d_Mc_putInQueue_73 ?_
        refine r_iload_n C d_Mc_putInQueue_76 rfl ?_
        refine r_iload_n C d_Mc_putInQueue_77 rfl ?_
        refine st_Qu C hm (p + 1) rfl (by omega) d_Mc_putInQueue_78 ?_
        rw [setQ_tu]
        refine r_aload_n C d_Mc_putInQueue_79 rfl ?_
        refine r_dup C d_Mc_putInQueue_80 rfl ?_
        refine g_Mc_queueLength C hm lk_Mc_173 d_Mc_putInQueue_81 ?_
        refine r_iconst C d_Mc_putInQueue_84 ?_
        rw [setQ_ne (by decide)]
        refine r_iadd C d_Mc_putInQueue_85 ?_
        refine p_Mc_queueLength C hm lk_Mc_173 d_Mc_putInQueue_86 ?_
        exact R d_Mc_putInQueue_89 (by first | exact absurd c21 (by omega) | (rw [pif_f (show ¬ ltQ t x (q p) from pb_0.mp c49)] at h3; rw [h3]; rfl))
      · refine r_aload_n C d_Mc_putInQueue_24 rfl ?_
        refine r_aload_n C d_Mc_putInQueue_25 rfl ?_
        refine g_Mc_accounts C hm lk_Mc_19 d_Mc_putInQueue_26 ?_
        refine r_aload_n C d_Mc_putInQueue_29 rfl ?_
        refine g_Mc_jobs C hm lk_Mc_25 d_Mc_putInQueue_30 ?_
        refine r_aload_n C d_Mc_putInQueue_33 rfl ?_
        refine g_Mc_queue C hm lk_Mc_48 d_Mc_putInQueue_34 ?_
        refine r_iload_n C d_Mc_putInQueue_37 rfl ?_
        refine r_iconst C d_Mc_putInQueue_38 ?_
        refine r_isub C d_Mc_putInQueue_39 ?_
        refine x_Qu C hm p (by omega) (by omega) d_Mc_putInQueue_40 ?_
        rw [setQ_11]
        refine x_Jb C hm (q p).toNat (by omega) (by omega) d_Mc_putInQueue_41 ?_
        refine g_Jb_account C hm (by omega) lk_Mc_190 d_Mc_putInQueue_42 ?_
        rw [setQ_ne (by decide)]
        refine x_Ac C hm (t 17 (q p).toNat).toNat (by omega) (by omega) d_Mc_putInQueue_45 ?_
        refine r_cV1r C (k_Ac_usedLessThan hm (a := (t 17 x).toNat) (b := (t 17 (q p).toNat).toNat) (by omega) (by omega)) (by decide) (by decide) ml_Mc_193 mn_Ac_usedLessThan ms_Ac_usedLessThan mc_Ac_usedLessThan mi_Ac_usedLessThan md_Ac_usedLessThan (kAc_lt hm (by omega)) (zAc hm (by omega)) rfl rfl (Nat.le_of_ble_eq_true rfl) d_Mc_putInQueue_46 ?_
        refine r_if_eq (tgt := 72) C d_Mc_putInQueue_49 (by decide) (by first | assumption | exact bd_ir (by assumption) rfl | exact b2i_ir _ | exact pb_ir _ | exact ir_mk (by omega) (by omega)) (fun c49 => ?_) (fun c49 => ?_)
        · refine r_aload_n C d_Mc_putInQueue_72 rfl ?_
          refine g_Mc_queue C hm lk_Mc_48 d_Mc_putInQueue_73 ?_
          refine r_iload_n C d_Mc_putInQueue_76 rfl ?_
          refine r_iload_n C d_Mc_putInQueue_77 rfl ?_
          refine st_Qu C hm (p + 1) rfl (by omega) d_Mc_putInQueue_78 ?_
          rw [setQ_tu]
          refine r_aload_n C d_Mc_putInQueue_79 rfl ?_
          refine r_dup C d_Mc_putInQueue_80 rfl ?_
          refine g_Mc_queueLength C hm lk_Mc_173 d_Mc_putInQueue_81 ?_
          refine r_iconst C d_Mc_putInQueue_84 ?_
          rw [setQ_ne (by decide)]
          refine r_iadd C d_Mc_putInQueue_85 ?_
          refine p_Mc_queueLength C hm lk_Mc_173 d_Mc_putInQueue_86 ?_
          exact R d_Mc_putInQueue_89 (by first | exact absurd c21 (by omega) | (rw [pif_f (show ¬ ltQ t x (q p) from pb_0.mp c49)] at h3; rw [h3]; rfl))
        · refine r_aload_n C d_Mc_putInQueue_52 rfl ?_
          refine g_Mc_queue C hm lk_Mc_48 d_Mc_putInQueue_53 ?_
          refine r_iload_n C d_Mc_putInQueue_56 rfl ?_
          refine r_aload_n C d_Mc_putInQueue_57 rfl ?_
          refine g_Mc_queue C hm lk_Mc_48 d_Mc_putInQueue_58 ?_
          refine r_iload_n C d_Mc_putInQueue_61 rfl ?_
          refine r_iconst C d_Mc_putInQueue_62 ?_
          refine r_isub C d_Mc_putInQueue_63 ?_
          refine x_Qu C hm p (by omega) (by omega) d_Mc_putInQueue_64 ?_
          rw [setQ_11]
          refine st_Qu C hm (p + 1) rfl (by omega) d_Mc_putInQueue_65 ?_
          rw [setQ_tu]
          refine r_iinc_3 C d_Mc_putInQueue_66 ?_
          refine r_goto (tgt := 20) C d_Mc_putInQueue_69 (by decide) ?_
          have e : ((p + 1 : Nat) : Int) + -1 = (p : Int) := by omega
          rw [e]
          refine ih _ (qset_bd hq hqp) (by omega) ?_
          rw [pif_t (show ltQ t x (q p) from Classical.byContradiction (fun z => c49 (pb_f z)))] at h3
          exact h3
  refine r_aload_n C d_Mc_putInQueue_0 rfl ?_
  refine g_Mc_accounts C hm lk_Mc_19 d_Mc_putInQueue_1 ?_
  refine r_aload_n C d_Mc_putInQueue_4 rfl ?_
  refine g_Mc_jobs C hm lk_Mc_25 d_Mc_putInQueue_5 ?_
  refine r_iload_n C d_Mc_putInQueue_8 rfl ?_
  refine x_Jb C hm _ rfl (by omega) d_Mc_putInQueue_9 ?_
  refine g_Jb_account C hm (by omega) lk_Mc_190 d_Mc_putInQueue_10 ?_
  refine x_Ac C hm (t 17 x).toNat (by omega) (by omega) d_Mc_putInQueue_13 ?_
  refine r_astore_2 C d_Mc_putInQueue_14 ?_
  refine r_aload_n C d_Mc_putInQueue_15 rfl ?_
  refine g_Mc_queueLength C hm lk_Mc_173 d_Mc_putInQueue_16 ?_
  refine r_istore_3 C d_Mc_putInQueue_19 ?_
  have h := hl (t 10 0).toNat (t 11) (bd11 hB) (by omega) rfl
  rw [setQ_self, show (((t 10 0).toNat : Nat) : Int) = t 10 0 by omega] at h
  exact h
noncomputable def lnF (t : TT) : Nat → TT
  | 0 => tu t 10 0 0
  | i + 1 => pif (mbP (lnF t i) i) (pqF (lnF t i) i) (lnF t i)
theorem lnF_s (t : TT) (i : Nat) : lnF t (i + 1) = pif (mbP (lnF t i) i) (pqF (lnF t i) i) (lnF t i) := rfl
theorem lnF_inv {t : TT} (hB : Bd t) : ∀ i, i ≤ 30 → Bd (lnF t i) ∧ 0 ≤ lnF t i 10 0 ∧ lnF t i 10 0 ≤ i := by
  intro i
  induction i with
  | zero => intro _; exact ⟨bd_tu hB (fun _ => by show (0 : Int) ≤ 0 ∧ (0 : Int) ≤ 30; omega), by unfold lnF; rw [tu_eq]; omega, by unfold lnF; rw [tu_eq]; omega⟩
  | succ i ih =>
    intro hi
    obtain ⟨h1, h2, h3⟩ := ih (by omega)
    rw [lnF_s]
    by_cases c : mbP (lnF t i) i
    · rw [pif_t c, pqF_10]
      exact ⟨pqF_bd h1 (by omega) (by omega), by omega, by omega⟩
    · rw [pif_f c]
      exact ⟨h1, h2, by omega⟩
theorem lnF_ne {t : TT} {f a : Nat} (h : f ≠ 11) (h2 : f ≠ 10) : ∀ i, lnF t i f a = t f a := by
  intro i
  induction i with
  | zero => unfold lnF; rw [tu_ne (by omega)]
  | succ i ih =>
    rw [lnF_s]
    by_cases c : mbP (lnF t i) i
    · rw [pif_t c, pqF_ne h h2, ih]
    · rw [pif_f c, ih]
theorem k_Mc_lineUp {l : Launch} {E : Ew} {S0 : WW} {m : Nat} {t : TT} (hm : m < 2) (hB : Bd t) : Kf l y_Mc_lineUp b_Mc_lineUp 2 none 2 E (sm S0 m t) [rf E (kMc m)] none (sm S0 m (lnF t (t 2 0).toNat)) := by
  refine KfV rfl rfl (Nat.le_of_ble_eq_true rfl) (fun g C R => ?_)
  show g (sm S0 m t) 0 [some (rf E (kMc m)), none] []
  have b2 := bd2 hB 0
  have hl : ∀ (k i : Nat), i ≤ (t 2 0).toNat → (t 2 0).toNat - i < k → g (sm S0 m (lnF t i)) 7 [some (rf E (kMc m)), some (iv (i : Int))] [] := by
    intro k
    induction k with
    | zero => intro i h1 h2; omega
    | succ k ih =>
      intro i h1 h2
      obtain ⟨hi1, hi2, hi3⟩ := lnF_inv hB i (by omega)
      refine r_iload_n C d_Mc_lineUp_7 rfl ?_
      refine r_aload_n C d_Mc_lineUp_8 rfl ?_
      refine g_Mc_jobCount C hm lk_Mc_62 d_Mc_lineUp_9 ?_
      rw [lnF_ne (by decide) (by decide)]
      refine r_icmp_ge (tgt := 39) C d_Mc_lineUp_12 (by decide) (by first | assumption | exact bd_ir (by assumption) rfl | exact b2i_ir _ | exact pb_ir _ | exact ir_mk (by omega) (by omega)) (by first | assumption | exact bd_ir (by assumption) rfl | exact b2i_ir _ | exact pb_ir _ | exact ir_mk (by omega) (by omega)) (fun c12 => ?_) (fun c12 => ?_)
      · exact R d_Mc_lineUp_39 (by rw [show i = (t 2 0).toNat by omega])
      · refine r_aload_n C d_Mc_lineUp_15 rfl ?_
        refine r_aload_n C d_Mc_lineUp_16 rfl ?_
        refine g_Mc_jobs C hm lk_Mc_25 d_Mc_lineUp_17 ?_
        refine r_iload_n C d_Mc_lineUp_20 rfl ?_
        refine x_Jb C hm _ rfl (by omega) d_Mc_lineUp_21 ?_
        refine r_cV1r C (k_Mc_mayBegin hm (j := i) (by omega) hi1) (by decide) (by decide) ml_Mc_176 mn_Mc_mayBegin ms_Mc_mayBegin mc_Mc_mayBegin mi_Mc_mayBegin md_Mc_mayBegin (kMc_lt hm) (zMc hm) rfl rfl (Nat.le_of_ble_eq_true rfl) d_Mc_lineUp_22 ?_
        refine r_if_eq (tgt := 33) C d_Mc_lineUp_25 (by decide) (by first | assumption | exact bd_ir (by assumption) rfl | exact b2i_ir _ | exact pb_ir _ | exact ir_mk (by omega) (by omega)) (fun c25 => ?_) (fun c25 => ?_)
        · refine r_iinc_1 C d_Mc_lineUp_33 ?_
          refine r_goto (tgt := 7) C d_Mc_lineUp_36 (by decide) ?_
          have h := ih (i + 1) (by omega) (by omega)
          rw [lnF_s] at h
          first
            | (rw [pif_f (pb_0.mp c25)] at h; exact h)
            | (rw [pif_t (Classical.byContradiction (fun z => c25 (pb_f z)))] at h; exact h)
        · refine r_aload_n C d_Mc_lineUp_28 rfl ?_
          refine r_iload_n C d_Mc_lineUp_29 rfl ?_
          refine r_cV1v C (k_Mc_putInQueue hm (x := i) (by omega) (by omega) hi1) (by decide) (by decide) ml_Mc_180 mn_Mc_putInQueue ms_Mc_putInQueue mc_Mc_putInQueue mi_Mc_putInQueue md_Mc_putInQueue (kMc_lt hm) (zMc hm) rfl rfl (Nat.le_of_ble_eq_true rfl) d_Mc_lineUp_30 ?_
          refine r_iinc_1 C d_Mc_lineUp_33 ?_
          refine r_goto (tgt := 7) C d_Mc_lineUp_36 (by decide) ?_
          have h := ih (i + 1) (by omega) (by omega)
          rw [lnF_s] at h
          first
            | (rw [pif_f (pb_0.mp c25)] at h; exact h)
            | (rw [pif_t (Classical.byContradiction (fun z => c25 (pb_f z)))] at h; exact h)
  refine r_aload_n C d_Mc_lineUp_0 rfl ?_
  refine r_iconst C d_Mc_lineUp_1 ?_
  refine p_Mc_queueLength C hm lk_Mc_173 d_Mc_lineUp_2 ?_
  refine r_iconst C d_Mc_lineUp_5 ?_
  refine r_istore_1 C d_Mc_lineUp_6 ?_
  exact hl ((t 2 0).toNat + 1) 0 (by omega) (by omega)
noncomputable def svK (t : TT) (j : Nat) (k : Int) : TT := pif (k ≠ -1 ∧ t 3 0 ≤ 8) (tu (hdF t (t 3 0).toNat (t 18 j) (t 19 j) k (k + (t 20 j - t 27 j))) 3 0 (t 3 0 + 1)) t
noncomputable def svB (t : TT) (x : Int) : TT := svK (tu (tu t 8 0 x) 9 0 (ffF (tu t 8 0 x) x.toNat)) x.toNat (ffF (tu t 8 0 x) x.toNat)
noncomputable def svS (t : TT) (x : Int) : TT := pif (ftP t x.toNat (t 4 0)) (bgF t x.toNat) (pif (t 8 0 = -1) (svB t x) t)
noncomputable def svF (t : TT) : Nat → TT
  | 0 => tu (tu t 8 0 (-1)) 9 0 (-1)
  | i + 1 => svS (svF t i) (svF t i 11 i)
theorem svF_s (t : TT) (i : Nat) : svF t (i + 1) = svS (svF t i) (svF t i 11 i) := rfl
noncomputable def sqF (t : TT) : TT := tu (svF t (t 10 0).toNat) 3 0 (t 3 0)
theorem bgF_ne {t : TT} {j f a : Nat} (h : f ≠ 13 ∧ f ≠ 100 + j ∧ f ≠ 24 ∧ f ≠ 25 ∧ f ≠ 28 ∧ f ≠ 29) : bgF t j f a = t f a := by
  unfold bgF; rw [tu_ne (by omega), tu_ne (by omega), tu_ne (by omega), tu_ne (by omega), bg1_ne (by omega)]
theorem hdF_ne {t : TT} {i f k : Nat} {a b c d : Int} (h : f < 31 ∨ 34 < f) : hdF t i a b c d f k = t f k := by
  unfold hdF; rw [tu_ne (by omega), tu_ne (by omega), tu_ne (by omega), tu_ne (by omega)]
theorem svS_ne {t : TT} {x : Int} {f a : Nat} (h : f = 10 ∨ f = 11 ∨ f = 4 ∨ f = 2) : svS t x f a = t f a := by
  unfold svS svB svK
  by_cases c1 : ftP t x.toNat (t 4 0)
  · rw [pif_t c1, bgF_ne (by omega)]
  · rw [pif_f c1]
    by_cases c2 : t 8 0 = -1
    · rw [pif_t c2]
      generalize ffF (tu t 8 0 x) x.toNat = k
      by_cases c3 : k ≠ -1 ∧ tu (tu t 8 0 x) 9 0 k 3 0 ≤ 8
      · rw [pif_t c3, tu_ne (by omega), hdF_ne (by omega), tu_ne (by omega), tu_ne (by omega)]
      · rw [pif_f c3, tu_ne (by omega), tu_ne (by omega)]
    · rw [pif_f c2]
theorem svF_ne {t : TT} {f a : Nat} (h : f = 10 ∨ f = 11 ∨ f = 4 ∨ f = 2) : ∀ i, svF t i f a = t f a := by
  intro i
  induction i with
  | zero => unfold svF; rw [tu_ne (by omega), tu_ne (by omega)]
  | succ i ih => rw [svF_s, svS_ne h, ih]
theorem ffL_bd {t : TT} (hB : Bd t) (j : Nat) : ∀ (k : Nat) (x : Int), (-1 ≤ x) → -1 ≤ ffL t j k x ∧ ffL t j k x ≤ 2700 := by
  intro k
  induction k with
  | zero => intro x _; unfold ffL; omega
  | succ k ih =>
    intro x hx
    have b4 := bd4 hB 0
    unfold ffL
    by_cases c1 : x = -1 ∨ t 4 0 + 200 < x
    · rw [pif_t c1]; omega
    · rw [pif_f c1]
      by_cases c2 : ftP t j x
      · rw [pif_t c2]; omega
      · rw [pif_f c2]; exact ih _ (neF_bd hB x).1
theorem ffF_bd {t : TT} (hB : Bd t) (j : Nat) : -1 ≤ ffF t j ∧ ffF t j ≤ 2700 := ffL_bd hB j _ _ (neF_bd hB _).1
theorem k_Mc_serveQueue {l : Launch} {E : Ew} {S0 : WW} {m : Nat} {t : TT} (hm : m < 2) (hB : Bd t) (hI : ∀ i, i ≤ (t 10 0).toNat → Bd (svF t i) ∧ 0 ≤ svF t i 11 i ∧ svF t i 11 i ≤ 29) : Kf l y_Mc_serveQueue b_Mc_serveQueue 4 none 4 E (sm S0 m t) [rf E (kMc m)] none (sm S0 m (sqF t)) := by
  refine KfV rfl rfl (Nat.le_of_ble_eq_true rfl) (fun g C R => ?_)
  show g (sm S0 m t) 0 [some (rf E (kMc m)), none, none, none] []
  have b10 := bd10 hB 0
  have hl : ∀ (k i : Nat) (X : Option Value), i ≤ (t 10 0).toNat → (t 10 0).toNat - i < k → g (sm S0 m (svF t i)) 17 [some (rf E (kMc m)), some (iv (t 3 0)), some (iv (i : Int)), X] [] := by
    intro k
    induction k with
    | zero => intro i X h1 h2; omega
    | succ k ih =>
      intro i X h1 h2
      obtain ⟨hBi, hq⟩ := hI i h1
      refine r_iload_n C d_Mc_serveQueue_17 rfl ?_
      refine r_aload_n C d_Mc_serveQueue_18 rfl ?_
      refine g_Mc_queueLength C hm lk_Mc_173 d_Mc_serveQueue_19 ?_
      rw [svF_ne (by omega)]
      refine r_icmp_ge (tgt := 150) C d_Mc_serveQueue_22 (by decide) (by first | assumption | exact bd_ir (by assumption) rfl | exact b2i_ir _ | exact pb_ir _ | exact ir_mk (by omega) (by omega)) (by first | assumption | exact bd_ir (by assumption) rfl | exact b2i_ir _ | exact pb_ir _ | exact ir_mk (by omega) (by omega)) (fun c22 => ?_) (fun c22 => ?_)
      · refine r_aload_n C d_Mc_serveQueue_150 rfl ?_
        refine r_iload_n C d_Mc_serveQueue_151 rfl ?_
        refine p_Mc_holdCount C hm lk_Mc_65 d_Mc_serveQueue_152 ?_
        exact R d_Mc_serveQueue_155 (by rw [show i = (t 10 0).toNat by omega]; rfl)
      · refine r_aload_n C d_Mc_serveQueue_25 rfl ?_
        refine g_Mc_jobs C hm lk_Mc_25 d_Mc_serveQueue_26 ?_
        refine r_aload_n C d_Mc_serveQueue_29 rfl ?_
        refine g_Mc_queue C hm lk_Mc_48 d_Mc_serveQueue_30 ?_
        refine r_iload_n C d_Mc_serveQueue_33 rfl ?_
        refine x_Qu C hm i rfl (by omega) d_Mc_serveQueue_34 ?_
        refine x_Jb C hm (svF t i 11 i).toNat (by omega) (by omega) d_Mc_serveQueue_35 ?_
        refine r_astore_3 C d_Mc_serveQueue_36 ?_
        obtain ⟨s, hs⟩ : ∃ s, s = svF t i := ⟨_, rfl⟩
        obtain ⟨x, hx⟩ : ∃ x, x = svF t i 11 i := ⟨_, rfl⟩
        rw [← hx] at hq
        rw [← hs] at hBi hx
        rw [← hs, ← hx]
        have bn := bd4 hBi 0
        have b3 := bd3 hBi 0
        refine r_aload_n C d_Mc_serveQueue_37 rfl ?_
        refine r_aload_n C d_Mc_serveQueue_38 rfl ?_
        refine r_aload_n C d_Mc_serveQueue_39 rfl ?_
        refine g_Mc_now C hm lk_Mc_68 d_Mc_serveQueue_40 ?_
        refine r_cV2r C (k_Mc_fits hm (j := x.toNat) (by omega) (s := s 4 0) (by omega) hBi) (by decide) (by decide) ml_Mc_197 mn_Mc_fits ms_Mc_fits mc_Mc_fits mi_Mc_fits md_Mc_fits (kMc_lt hm) (zMc hm) rfl rfl (Nat.le_of_ble_eq_true rfl) d_Mc_serveQueue_43 ?_
        refine r_if_eq (tgt := 57) C d_Mc_serveQueue_46 (by decide) (by first | assumption | exact bd_ir (by assumption) rfl | exact b2i_ir _ | exact pb_ir _ | exact ir_mk (by omega) (by omega)) (fun c46 => ?_) (fun c46 => ?_)
        · refine r_aload_n C d_Mc_serveQueue_57 rfl ?_
          refine g_Mc_blockedJob C hm lk_Mc_42 d_Mc_serveQueue_58 ?_
          refine r_iconst C d_Mc_serveQueue_61 ?_
          refine r_icmp_ne (tgt := 144) C d_Mc_serveQueue_62 (by decide) (by first | assumption | exact bd_ir (by assumption) rfl | exact b2i_ir _ | exact pb_ir _ | exact ir_mk (by omega) (by omega)) (by first | assumption | exact bd_ir (by assumption) rfl | exact b2i_ir _ | exact pb_ir _ | exact ir_mk (by omega) (by omega)) (fun c62 => ?_) (fun c62 => ?_)
          · refine r_iinc_2 C d_Mc_serveQueue_144 ?_
            refine r_goto (tgt := 17) C d_Mc_serveQueue_147 (by decide) ?_
            have h := fun X => ih (i + 1) X (by omega) (by omega)
            rw [svF_s, ← hs, ← hx, svS] at h
            first
              | (rw [pif_t (Classical.byContradiction (fun z => c46 (pb_f z)))] at h; exact h _)
              | (rw [pif_f (pb_0.mp c46), pif_f (by omega)] at h; exact h _)
              | (rw [pif_f (pb_0.mp c46), pif_t (by omega), svB, ← hk9, svK] at h
                 simp (disch := omega) only [tu_ne, tu_eq] at h
                 first
                   | (rw [pif_f (fun z => by omega)] at h; exact h _)
                   | (rw [pif_t ⟨by omega, by omega⟩] at h; exact h _))
          · refine r_aload_n C d_Mc_serveQueue_65 rfl ?_
            refine r_aload_n C d_Mc_serveQueue_66 rfl ?_
            refine g_Mc_queue C hm lk_Mc_48 d_Mc_serveQueue_67 ?_
            refine r_iload_n C d_Mc_serveQueue_70 rfl ?_
            
            refine x_Qu C hm i rfl (by omega) d_Mc_serveQueue_71 ?_
            rw [← hx]
            refine p_Mc_blockedJob C hm lk_Mc_42 d_Mc_serveQueue_72 ?_
            refine r_aload_n C d_Mc_serveQueue_75 rfl ?_
            refine r_aload_n C d_Mc_serveQueue_76 rfl ?_
            refine r_aload_n C d_Mc_serveQueue_77 rfl ?_
            have hB1 : Bd (tu s 8 0 x) := bd_tu hBi (fun _ => by show (-1 : Int) ≤ x ∧ x ≤ 29; omega)
            have hk := ffF_bd hB1 x.toNat
            refine r_cV1r C (k_Mc_firstFit hm (j := x.toNat) (by omega) hB1) (by decide) (by decide) ml_Mc_204 mn_Mc_firstFit ms_Mc_firstFit mc_Mc_firstFit mi_Mc_firstFit md_Mc_firstFit (kMc_lt hm) (zMc hm) rfl rfl (Nat.le_of_ble_eq_true rfl) d_Mc_serveQueue_78 ?_
            obtain ⟨k9, hk9⟩ : ∃ k, k = ffF (tu s 8 0 x) x.toNat := ⟨_, rfl⟩
            rw [← hk9]
            rw [← hk9] at hk
            refine p_Mc_keptFrom C hm lk_Mc_45 d_Mc_serveQueue_81 ?_
            have hB2 : Bd (tu (tu s 8 0 x) 9 0 k9) := bd_tu hB1 (fun _ => by show (-1 : Int) ≤ k9 ∧ k9 ≤ 3000; omega)
            refine r_aload_n C d_Mc_serveQueue_84 rfl ?_
            refine g_Mc_keptFrom C hm lk_Mc_45 d_Mc_serveQueue_85 ?_
            try simp (disch := omega) only [tu_ne, tu_eq]
            refine r_iconst C d_Mc_serveQueue_88 ?_
            refine r_icmp_eq (tgt := 144) C d_Mc_serveQueue_89 (by decide) (by first | assumption | exact bd_ir (by assumption) rfl | exact b2i_ir _ | exact pb_ir _ | exact ir_mk (by omega) (by omega)) (by first | assumption | exact bd_ir (by assumption) rfl | exact b2i_ir _ | exact pb_ir _ | exact ir_mk (by omega) (by omega)) (fun c89 => ?_) (fun c89 => ?_)
            · refine r_iinc_2 C d_Mc_serveQueue_144 ?_
              refine r_goto (tgt := 17) C d_Mc_serveQueue_147 (by decide) ?_
              have h := fun X => ih (i + 1) X (by omega) (by omega)
              rw [svF_s, ← hs, ← hx, svS] at h
              first
                | (rw [pif_t (Classical.byContradiction (fun z => c46 (pb_f z)))] at h; exact h _)
                | (rw [pif_f (pb_0.mp c46), pif_f (by omega)] at h; exact h _)
                | (rw [pif_f (pb_0.mp c46), pif_t (by omega), svB, ← hk9, svK] at h
                   simp (disch := omega) only [tu_ne, tu_eq] at h
                   first
                     | (rw [pif_f (fun z => by omega)] at h; exact h _)
                     | (rw [pif_t ⟨by omega, by omega⟩] at h; exact h _))
            · refine r_aload_n C d_Mc_serveQueue_92 rfl ?_
              refine g_Mc_holdCount C hm lk_Mc_65 d_Mc_serveQueue_93 ?_
              try simp (disch := omega) only [tu_ne, tu_eq]
              refine r_bipush C d_Mc_serveQueue_96 (by decide) ?_
              refine r_icmp_gt (tgt := 144) C d_Mc_serveQueue_98 (by decide) (by first | assumption | exact bd_ir (by assumption) rfl | exact b2i_ir _ | exact pb_ir _ | exact ir_mk (by omega) (by omega)) (by first | assumption | exact bd_ir (by assumption) rfl | exact b2i_ir _ | exact pb_ir _ | exact ir_mk (by omega) (by omega)) (fun c98 => ?_) (fun c98 => ?_)
              · refine r_iinc_2 C d_Mc_serveQueue_144 ?_
                refine r_goto (tgt := 17) C d_Mc_serveQueue_147 (by decide) ?_
                have h := fun X => ih (i + 1) X (by omega) (by omega)
                rw [svF_s, ← hs, ← hx, svS] at h
                first
                  | (rw [pif_t (Classical.byContradiction (fun z => c46 (pb_f z)))] at h; exact h _)
                  | (rw [pif_f (pb_0.mp c46), pif_f (by omega)] at h; exact h _)
                  | (rw [pif_f (pb_0.mp c46), pif_t (by omega), svB, ← hk9, svK] at h
                     simp (disch := omega) only [tu_ne, tu_eq] at h
                     first
                       | (rw [pif_f (fun z => by omega)] at h; exact h _)
                       | (rw [pif_t ⟨by omega, by omega⟩] at h; exact h _))
              · refine r_aload_n C d_Mc_serveQueue_101 rfl ?_
                refine g_Mc_holds C hm lk_Mc_31 d_Mc_serveQueue_102 ?_
                refine r_aload_n C d_Mc_serveQueue_105 rfl ?_
                refine g_Mc_holdCount C hm lk_Mc_65 d_Mc_serveQueue_106 ?_
                try simp (disch := omega) only [tu_ne, tu_eq]
                refine x_Hd C hm (s 3 0).toNat (by omega) (by omega) d_Mc_serveQueue_109 ?_
                refine r_aload_n C d_Mc_serveQueue_110 rfl ?_
                refine g_Jb_nodes C hm (by omega) lk_Mc_152 d_Mc_serveQueue_111 ?_
                try simp (disch := omega) only [tu_ne, tu_eq]
                refine r_aload_n C d_Mc_serveQueue_114 rfl ?_
                refine g_Jb_licences C hm (by omega) lk_Mc_133 d_Mc_serveQueue_115 ?_
                try simp (disch := omega) only [tu_ne, tu_eq]
                refine r_aload_n C d_Mc_serveQueue_118 rfl ?_
                refine g_Mc_keptFrom C hm lk_Mc_45 d_Mc_serveQueue_119 ?_
                try simp (disch := omega) only [tu_ne, tu_eq]
                refine r_aload_n C d_Mc_serveQueue_122 rfl ?_
                refine g_Mc_keptFrom C hm lk_Mc_45 d_Mc_serveQueue_123 ?_
                try simp (disch := omega) only [tu_ne, tu_eq]
                refine r_aload_n C d_Mc_serveQueue_126 rfl ?_
                refine r_cV0r C (k_Jb_left hm (i := x.toNat) (by omega) hB2) (by decide) (by decide) ml_Mc_148 mn_Jb_left ms_Jb_left mc_Jb_left mi_Jb_left md_Jb_left (kJb_lt hm (by omega)) (zJb hm (by omega)) rfl rfl (Nat.le_of_ble_eq_true rfl) d_Mc_serveQueue_127 ?_
                try simp (disch := omega) only [tu_ne, tu_eq]
                refine r_iadd C d_Mc_serveQueue_130 ?_
                try simp (disch := omega) only [tu_ne, tu_eq]
                refine r_cV4v C (k_Hd_set hm (i := (s 3 0).toNat) (by omega)) (by decide) (by decide) ml_Mc_207 mn_Hd_set ms_Hd_set mc_Hd_set mi_Hd_set md_Hd_set (kHd_lt hm (by omega)) (zHd hm (by omega)) rfl rfl (Nat.le_of_ble_eq_true rfl) d_Mc_serveQueue_131 ?_
                refine r_aload_n C d_Mc_serveQueue_134 rfl ?_
                refine r_dup C d_Mc_serveQueue_135 rfl ?_
                refine g_Mc_holdCount C hm lk_Mc_65 d_Mc_serveQueue_136 ?_
                try simp (disch := omega) only [tu_ne, tu_eq, hdF_ne]
                refine r_iconst C d_Mc_serveQueue_139 ?_
                refine r_iadd C d_Mc_serveQueue_140 ?_
                refine p_Mc_holdCount C hm lk_Mc_65 d_Mc_serveQueue_141 ?_
                refine r_iinc_2 C d_Mc_serveQueue_144 ?_
                refine r_goto (tgt := 17) C d_Mc_serveQueue_147 (by decide) ?_
                have h := fun X => ih (i + 1) X (by omega) (by omega)
                rw [svF_s, ← hs, ← hx, svS] at h
                first
                  | (rw [pif_t (Classical.byContradiction (fun z => c46 (pb_f z)))] at h; exact h _)
                  | (rw [pif_f (pb_0.mp c46), pif_f (by omega)] at h; exact h _)
                  | (rw [pif_f (pb_0.mp c46), pif_t (by omega), svB, ← hk9, svK] at h
                     simp (disch := omega) only [tu_ne, tu_eq] at h
                     first
                       | (rw [pif_f (fun z => by omega)] at h; exact h _)
                       | (rw [pif_t ⟨by omega, by omega⟩] at h; exact h _))
        · refine r_aload_n C d_Mc_serveQueue_49 rfl ?_
          refine r_aload_n C d_Mc_serveQueue_50 rfl ?_
          refine r_cV1v C (k_Mc_begin hm (j := x.toNat) (by omega) hBi) (by decide) (by decide) ml_Mc_201 mn_Mc_begin ms_Mc_begin mc_Mc_begin mi_Mc_begin md_Mc_begin (kMc_lt hm) (zMc hm) rfl rfl (Nat.le_of_ble_eq_true rfl) d_Mc_serveQueue_51 ?_
          refine r_goto (tgt := 144) C d_Mc_serveQueue_54 (by decide) ?_
          refine r_iinc_2 C d_Mc_serveQueue_144 ?_
          refine r_goto (tgt := 17) C d_Mc_serveQueue_147 (by decide) ?_
          have h := fun X => ih (i + 1) X (by omega) (by omega)
          rw [svF_s, ← hs, ← hx, svS] at h
          first
            | (rw [pif_t (Classical.byContradiction (fun z => c46 (pb_f z)))] at h; exact h _)
            | (rw [pif_f (pb_0.mp c46), pif_f (by omega)] at h; exact h _)
            | (rw [pif_f (pb_0.mp c46), pif_t (by omega), svB, ← hk9, svK] at h
               simp (disch := omega) only [tu_ne, tu_eq] at h
               first
                 | (rw [pif_f (fun z => by omega)] at h; exact h _)
                 | (rw [pif_t ⟨by omega, by omega⟩] at h; exact h _))
  refine r_aload_n C d_Mc_serveQueue_0 rfl ?_
  refine g_Mc_holdCount C hm lk_Mc_65 d_Mc_serveQueue_1 ?_
  refine r_istore_1 C d_Mc_serveQueue_4 ?_
  refine r_aload_n C d_Mc_serveQueue_5 rfl ?_
  refine r_iconst C d_Mc_serveQueue_6 ?_
  refine p_Mc_blockedJob C hm lk_Mc_42 d_Mc_serveQueue_7 ?_
  refine r_aload_n C d_Mc_serveQueue_10 rfl ?_
  refine r_iconst C d_Mc_serveQueue_11 ?_
  refine p_Mc_keptFrom C hm lk_Mc_45 d_Mc_serveQueue_12 ?_
  refine r_iconst C d_Mc_serveQueue_15 ?_
  refine r_istore_2 C d_Mc_serveQueue_16 ?_
  exact hl ((t 10 0).toNat + 1) 0 none (by omega) (by omega)
def roN (t : TT) (j : Nat) (b : Prop) : Int := t 21 j - t 27 j
noncomputable def roF (t : TT) (j : Nat) (b : Prop) : TT := pif (pif b (t 20 j - t 27 j) (t 21 j - t 27 j) ≤ ranF t j (t 4 0 + 1)) (tu (tu (lvF (tu t 16 (t 17 j).toNat (t 16 (t 17 j).toNat + t 18 j)) j) 24 j 2) 26 j (t 4 0 + 1)) (tu t 16 (t 17 j).toNat (t 16 (t 17 j).toNat + t 18 j))
theorem lvF_ne {t : TT} {j f a : Nat} (h : f ≠ 13 ∧ f ≠ 100 + j ∧ f ≠ 28 ∧ f ≠ 29) : lvF t j f a = t f a := by
  unfold lvF; rw [tu_ne (by omega), tu_ne (by omega), lv1_ne (by omega) (by omega)]
theorem ranF_16 (t : TT) (i a : Nat) (x u : Int) : ranF (tu t 16 i x) a u = ranF t a u := rfl
theorem k_Mc_runOne {l : Launch} {E : Ew} {S0 : WW} {m : Nat} {t : TT} (hm : m < 2) {j : Nat} (hj : j < 30) {b : Prop} (hr : ir (ranF t j (t 4 0 + 1))) (hB : Bd t) : Kf l y_Mc_runOne b_Mc_runOne 4 none 1 E (sm S0 m t) [rf E (kMc m), rf E (kJb m j), iv (pb b)] none (sm S0 m (roF t j b)) := by
  refine KfV rfl rfl (Nat.le_of_ble_eq_true rfl) (fun g C R => ?_)
  show g (sm S0 m t) 0 [some (rf E (kMc m)), some (rf E (kJb m j)), some (iv (pb b)), none] []
  have b4 := bd4 hB 0
  have b17 := bd17 hB j
  have b20 := bd20 hB j
  have b21 := bd21 hB j
  have b27 := bd27 hB j
  obtain ⟨y, hy⟩ : ∃ y, y = t 16 (t 17 j).toNat + t 18 j := ⟨_, rfl⟩
  obtain ⟨a, ha⟩ : ∃ a, a = (t 17 j).toNat := ⟨_, rfl⟩
  have hB1 : Bd (tu t 16 a y) := bd_tu hB (fun h => absurd rfl h.1)
  have hB2 : Bd (tu t 16 (t 17 j).toNat (t 16 (t 17 j).toNat + t 18 j)) := bd_tu hB (fun h => absurd rfl h.1)
  refine r_aload_n C d_Mc_runOne_0 rfl ?_
  refine g_Mc_accounts C hm lk_Mc_19 d_Mc_runOne_1 ?_
  refine r_aload_n C d_Mc_runOne_4 rfl ?_
  refine g_Jb_account C hm (by omega) lk_Mc_190 d_Mc_runOne_5 ?_
  refine x_Ac C hm (t 17 j).toNat (by omega) (by omega) d_Mc_runOne_8 ?_
  refine r_dup C d_Mc_runOne_9 rfl ?_
  refine g_Ac_use C hm (by omega) lk_Mc_242 d_Mc_runOne_10 ?_
  refine r_aload_n C d_Mc_runOne_13 rfl ?_
  refine g_Jb_nodes C hm (by omega) lk_Mc_152 d_Mc_runOne_14 ?_
  refine r_iadd C d_Mc_runOne_17 ?_
  refine p_Ac_use C hm (by omega) lk_Mc_242 d_Mc_runOne_18 ?_
  refine r_iload_n C d_Mc_runOne_21 rfl ?_
  refine r_if_eq (tgt := 32) C d_Mc_runOne_22 (by decide) (by first | assumption | exact bd_ir (by assumption) rfl | exact b2i_ir _ | exact pb_ir _ | exact ir_mk (by omega) (by omega)) (fun c22 => ?_) (fun c22 => ?_)
  · refine r_aload_n C d_Mc_runOne_32 rfl ?_
    refine g_Jb_truly C hm (by omega) lk_Mc_245 d_Mc_runOne_33 ?_
    refine r_aload_n C d_Mc_runOne_36 rfl ?_
    refine g_Jb_saved C hm (by omega) lk_Mc_248 d_Mc_runOne_37 ?_
    try simp (disch := omega) only [tu_ne, tu_eq, lvF_ne, ranF_16]
    refine r_isub C d_Mc_runOne_40 ?_
    refine r_istore_3 C d_Mc_runOne_41 ?_
    refine r_aload_n C d_Mc_runOne_42 rfl ?_
    refine r_aload_n C d_Mc_runOne_43 rfl ?_
    refine g_Mc_now C hm lk_Mc_68 d_Mc_runOne_44 ?_
    try simp (disch := omega) only [tu_ne, tu_eq, lvF_ne, ranF_16]
    refine r_iconst C d_Mc_runOne_47 ?_
    refine r_iadd C d_Mc_runOne_48 ?_
    refine r_cV1r C (k_Jb_ranUntil hm hj hB2) (by decide) (by decide) ml_Mc_251 mn_Jb_ranUntil ms_Jb_ranUntil mc_Jb_ranUntil mi_Jb_ranUntil md_Jb_ranUntil (kJb_lt hm (by omega)) (zJb hm (by omega)) rfl rfl (Nat.le_of_ble_eq_true rfl) d_Mc_runOne_49 ?_
    try simp (disch := omega) only [tu_ne, tu_eq, lvF_ne, ranF_16]
    refine r_iload_n C d_Mc_runOne_52 rfl ?_
    refine r_icmp_lt (tgt := 76) C d_Mc_runOne_53 (by decide) (by first | assumption | exact bd_ir (by assumption) rfl | exact b2i_ir _ | exact pb_ir _ | exact ir_mk (by omega) (by omega)) (by first | assumption | exact bd_ir (by assumption) rfl | exact b2i_ir _ | exact pb_ir _ | exact ir_mk (by omega) (by omega)) (fun c53 => ?_) (fun c53 => ?_)
    · exact R d_Mc_runOne_76 (by first | (rw [roF, pif_t (by rw [pif_t (Classical.byContradiction (fun z => c22 (pb_f z)))]; omega)]) | (rw [roF, pif_t (by rw [pif_f (pb_0.mp c22)]; omega)]) | (rw [roF, pif_f (by rw [pif_t (Classical.byContradiction (fun z => c22 (pb_f z)))]; omega)]) | (rw [roF, pif_f (by rw [pif_f (pb_0.mp c22)]; omega)]))
    · refine r_aload_n C d_Mc_runOne_56 rfl ?_
      refine r_aload_n C d_Mc_runOne_57 rfl ?_
      refine r_cV1v C (k_Mc_leaveNodes hm hj hB2) (by decide) (by decide) ml_Mc_120 mn_Mc_leaveNodes ms_Mc_leaveNodes mc_Mc_leaveNodes mi_Mc_leaveNodes md_Mc_leaveNodes (kMc_lt hm) (zMc hm) rfl rfl (Nat.le_of_ble_eq_true rfl) d_Mc_runOne_58 ?_
      refine r_aload_n C d_Mc_runOne_61 rfl ?_
      refine r_iconst C d_Mc_runOne_62 ?_
      refine p_Jb_state C hm (by omega) lk_Mc_99 d_Mc_runOne_63 ?_
      refine r_aload_n C d_Mc_runOne_66 rfl ?_
      refine r_aload_n C d_Mc_runOne_67 rfl ?_
      refine g_Mc_now C hm lk_Mc_68 d_Mc_runOne_68 ?_
      try simp (disch := omega) only [tu_ne, tu_eq, lvF_ne, ranF_16]
      refine r_iconst C d_Mc_runOne_71 ?_
      refine r_iadd C d_Mc_runOne_72 ?_
      refine p_Jb_ended C hm (by omega) lk_Mc_254 d_Mc_runOne_73 ?_
      exact R d_Mc_runOne_76 (by first | (rw [roF, pif_t (by rw [pif_t (Classical.byContradiction (fun z => c22 (pb_f z)))]; omega)]) | (rw [roF, pif_t (by rw [pif_f (pb_0.mp c22)]; omega)]) | (rw [roF, pif_f (by rw [pif_t (Classical.byContradiction (fun z => c22 (pb_f z)))]; omega)]) | (rw [roF, pif_f (by rw [pif_f (pb_0.mp c22)]; omega)]))
  · refine r_aload_n C d_Mc_runOne_25 rfl ?_
    refine r_cV0r C (k_Jb_left hm hj hB2) (by decide) (by decide) ml_Mc_148 mn_Jb_left ms_Jb_left mc_Jb_left mi_Jb_left md_Jb_left (kJb_lt hm (by omega)) (zJb hm (by omega)) rfl rfl (Nat.le_of_ble_eq_true rfl) d_Mc_runOne_26 ?_
    try simp (disch := omega) only [tu_ne, tu_eq, lvF_ne, ranF_16]
    refine r_goto (tgt := 41) C d_Mc_runOne_29 (by decide) ?_
    refine r_istore_3 C d_Mc_runOne_41 ?_
    refine r_aload_n C d_Mc_runOne_42 rfl ?_
    refine r_aload_n C d_Mc_runOne_43 rfl ?_
    refine g_Mc_now C hm lk_Mc_68 d_Mc_runOne_44 ?_
    try simp (disch := omega) only [tu_ne, tu_eq, lvF_ne, ranF_16]
    refine r_iconst C d_Mc_runOne_47 ?_
    refine r_iadd C d_Mc_runOne_48 ?_
    refine r_cV1r C (k_Jb_ranUntil hm hj hB2) (by decide) (by decide) ml_Mc_251 mn_Jb_ranUntil ms_Jb_ranUntil mc_Jb_ranUntil mi_Jb_ranUntil md_Jb_ranUntil (kJb_lt hm (by omega)) (zJb hm (by omega)) rfl rfl (Nat.le_of_ble_eq_true rfl) d_Mc_runOne_49 ?_
    try simp (disch := omega) only [tu_ne, tu_eq, lvF_ne, ranF_16]
    refine r_iload_n C d_Mc_runOne_52 rfl ?_
    refine r_icmp_lt (tgt := 76) C d_Mc_runOne_53 (by decide) (by first | assumption | exact bd_ir (by assumption) rfl | exact b2i_ir _ | exact pb_ir _ | exact ir_mk (by omega) (by omega)) (by first | assumption | exact bd_ir (by assumption) rfl | exact b2i_ir _ | exact pb_ir _ | exact ir_mk (by omega) (by omega)) (fun c53 => ?_) (fun c53 => ?_)
    · exact R d_Mc_runOne_76 (by first | (rw [roF, pif_t (by rw [pif_t (Classical.byContradiction (fun z => c22 (pb_f z)))]; omega)]) | (rw [roF, pif_t (by rw [pif_f (pb_0.mp c22)]; omega)]) | (rw [roF, pif_f (by rw [pif_t (Classical.byContradiction (fun z => c22 (pb_f z)))]; omega)]) | (rw [roF, pif_f (by rw [pif_f (pb_0.mp c22)]; omega)]))
    · refine r_aload_n C d_Mc_runOne_56 rfl ?_
      refine r_aload_n C d_Mc_runOne_57 rfl ?_
      refine r_cV1v C (k_Mc_leaveNodes hm hj hB2) (by decide) (by decide) ml_Mc_120 mn_Mc_leaveNodes ms_Mc_leaveNodes mc_Mc_leaveNodes mi_Mc_leaveNodes md_Mc_leaveNodes (kMc_lt hm) (zMc hm) rfl rfl (Nat.le_of_ble_eq_true rfl) d_Mc_runOne_58 ?_
      refine r_aload_n C d_Mc_runOne_61 rfl ?_
      refine r_iconst C d_Mc_runOne_62 ?_
      refine p_Jb_state C hm (by omega) lk_Mc_99 d_Mc_runOne_63 ?_
      refine r_aload_n C d_Mc_runOne_66 rfl ?_
      refine r_aload_n C d_Mc_runOne_67 rfl ?_
      refine g_Mc_now C hm lk_Mc_68 d_Mc_runOne_68 ?_
      try simp (disch := omega) only [tu_ne, tu_eq, lvF_ne, ranF_16]
      refine r_iconst C d_Mc_runOne_71 ?_
      refine r_iadd C d_Mc_runOne_72 ?_
      refine p_Jb_ended C hm (by omega) lk_Mc_254 d_Mc_runOne_73 ?_
      exact R d_Mc_runOne_76 (by first | (rw [roF, pif_t (by rw [pif_t (Classical.byContradiction (fun z => c22 (pb_f z)))]; omega)]) | (rw [roF, pif_t (by rw [pif_f (pb_0.mp c22)]; omega)]) | (rw [roF, pif_f (by rw [pif_t (Classical.byContradiction (fun z => c22 (pb_f z)))]; omega)]) | (rw [roF, pif_f (by rw [pif_f (pb_0.mp c22)]; omega)]))
noncomputable def rjF (t : TT) (b : Prop) : Nat → TT
  | 0 => t
  | i + 1 => pif (rjF t b i 24 i = 1) (roF (rjF t b i) i b) (rjF t b i)
theorem rjF_s (t : TT) (b : Prop) (i : Nat) : rjF t b (i + 1) = pif (rjF t b i 24 i = 1) (roF (rjF t b i) i b) (rjF t b i) := rfl
theorem roF_ne {t : TT} {j f a : Nat} {b : Prop} (h : f ≠ 16 ∧ f ≠ 13 ∧ f ≠ 100 + j ∧ f ≠ 28 ∧ f ≠ 29 ∧ f ≠ 24 ∧ f ≠ 26) : roF t j b f a = t f a := by
  unfold roF
  by_cases c : pif b (t 20 j - t 27 j) (t 21 j - t 27 j) ≤ ranF t j (t 4 0 + 1)
  · rw [pif_t c, tu_ne (by omega), tu_ne (by omega), lvF_ne (by omega), tu_ne (by omega)]
  · rw [pif_f c, tu_ne (by omega)]
theorem rjF_ne {t : TT} {f a : Nat} {b : Prop} (h : f ≠ 16 ∧ f ≠ 13 ∧ f < 100 ∧ f ≠ 28 ∧ f ≠ 29 ∧ f ≠ 24 ∧ f ≠ 26) : ∀ i, rjF t b i f a = t f a := by
  intro i
  induction i with
  | zero => rfl
  | succ i ih =>
    rw [rjF_s]
    by_cases c : rjF t b i 24 i = 1
    · rw [pif_t c, roF_ne (by omega), ih]
    · rw [pif_f c, ih]
theorem k_Mc_runJobs {l : Launch} {E : Ew} {S0 : WW} {m : Nat} {t : TT} (hm : m < 2) {b : Prop} (hB : Bd t) (hI : ∀ i, i ≤ (t 2 0).toNat → Bd (rjF t b i) ∧ ir (ranF (rjF t b i) i (rjF t b i 4 0 + 1))) : Kf l y_Mc_runJobs b_Mc_runJobs 3 none 2 E (sm S0 m t) [rf E (kMc m), iv (pb b)] none (sm S0 m (rjF t b (t 2 0).toNat)) := by
  refine KfV rfl rfl (Nat.le_of_ble_eq_true rfl) (fun g C R => ?_)
  show g (sm S0 m t) 0 [some (rf E (kMc m)), some (iv (pb b)), none] []
  have b2 := bd2 hB 0
  have hl : ∀ (k i : Nat), i ≤ (t 2 0).toNat → (t 2 0).toNat - i < k → g (sm S0 m (rjF t b i)) 2 [some (rf E (kMc m)), some (iv (pb b)), some (iv (i : Int))] [] := by
    intro k
    induction k with
    | zero => intro i h1 h2; omega
    | succ k ih =>
      intro i h1 h2
      refine r_iload_n C d_Mc_runJobs_2 rfl ?_
      refine r_aload_n C d_Mc_runJobs_3 rfl ?_
      refine g_Mc_jobCount C hm lk_Mc_62 d_Mc_runJobs_4 ?_
      rw [rjF_ne (by omega)]
      refine r_icmp_ge (tgt := 40) C d_Mc_runJobs_7 (by decide) (by first | assumption | exact bd_ir (by assumption) rfl | exact b2i_ir _ | exact pb_ir _ | exact ir_mk (by omega) (by omega)) (by first | assumption | exact bd_ir (by assumption) rfl | exact b2i_ir _ | exact pb_ir _ | exact ir_mk (by omega) (by omega)) (fun c7 => ?_) (fun c7 => ?_)
      · exact R d_Mc_runJobs_40 (by rw [show i = (t 2 0).toNat by omega])
      · refine r_aload_n C d_Mc_runJobs_10 rfl ?_
        refine g_Mc_jobs C hm lk_Mc_25 d_Mc_runJobs_11 ?_
        refine r_iload_n C d_Mc_runJobs_14 rfl ?_
        refine x_Jb C hm _ rfl (by omega) d_Mc_runJobs_15 ?_
        refine g_Jb_state C hm (by omega) lk_Mc_99 d_Mc_runJobs_16 ?_
        refine r_iconst C d_Mc_runJobs_19 ?_
        refine r_icmp_ne (tgt := 34) C d_Mc_runJobs_20 (by decide) (bd_ir (hI i h1).1 rfl) (by first | assumption | exact bd_ir (by assumption) rfl | exact b2i_ir _ | exact pb_ir _ | exact ir_mk (by omega) (by omega)) (fun c20 => ?_) (fun c20 => ?_)
        · refine r_iinc_2 C d_Mc_runJobs_34 ?_
          refine r_goto (tgt := 2) C d_Mc_runJobs_37 (by decide) ?_
          have h := ih (i + 1) (by omega) (by omega)
          rw [rjF_s] at h
          first
            | (rw [pif_f (by omega)] at h; exact h)
            | (rw [pif_t (by omega)] at h; exact h)
        · obtain ⟨hBi, hri⟩ := hI i h1
          refine r_aload_n C d_Mc_runJobs_23 rfl ?_
          refine r_aload_n C d_Mc_runJobs_24 rfl ?_
          refine g_Mc_jobs C hm lk_Mc_25 d_Mc_runJobs_25 ?_
          refine r_iload_n C d_Mc_runJobs_28 rfl ?_
          refine x_Jb C hm _ rfl (by omega) d_Mc_runJobs_29 ?_
          refine r_iload_n C d_Mc_runJobs_30 rfl ?_
          refine r_cV2v C (k_Mc_runOne hm (j := i) (by omega) hri hBi) (by decide) (by decide) ml_Mc_238 mn_Mc_runOne ms_Mc_runOne mc_Mc_runOne mi_Mc_runOne md_Mc_runOne (kMc_lt hm) (zMc hm) rfl rfl (Nat.le_of_ble_eq_true rfl) d_Mc_runJobs_31 ?_
          refine r_iinc_2 C d_Mc_runJobs_34 ?_
          refine r_goto (tgt := 2) C d_Mc_runJobs_37 (by decide) ?_
          have h := ih (i + 1) (by omega) (by omega)
          rw [rjF_s] at h
          first
            | (rw [pif_f (by omega)] at h; exact h)
            | (rw [pif_t (by omega)] at h; exact h)
  refine r_iconst C d_Mc_runJobs_0 ?_
  refine r_istore_2 C d_Mc_runJobs_1 ?_
  exact hl ((t 2 0).toNat + 1) 0 (by omega) (by omega)
noncomputable def pt1 (t : TT) : TT := lnF t (t 2 0).toNat
noncomputable def pt2 (t : TT) : TT := sqF (pt1 t)
noncomputable def pt3 (t : TT) (b : Prop) : TT := rjF (pt2 t) b (pt2 t 2 0).toNat
noncomputable def pt4 (t : TT) (b : Prop) : TT := tu (pt3 t b) 4 0 (pt3 t b 4 0 + 1)
noncomputable def ptF (t : TT) (b : Prop) : TT := pif (0 < pt4 t b 5 0 ∧ pt4 t b 4 0 % pt4 t b 5 0 = 0) (hvF (pt4 t b)) (pt4 t b)
/-- what a tick needs on its way -/
def ptI (t : TT) (b : Prop) : Prop := Bd t ∧ Bd (pt1 t) ∧ (∀ i, i ≤ (pt1 t 10 0).toNat → Bd (svF (pt1 t) i) ∧ 0 ≤ svF (pt1 t) i 11 i ∧ svF (pt1 t) i 11 i ≤ 29) ∧ Bd (pt2 t) ∧ (∀ i, i ≤ (pt2 t 2 0).toNat → Bd (rjF (pt2 t) b i) ∧ ir (ranF (rjF (pt2 t) b i) i (rjF (pt2 t) b i 4 0 + 1))) ∧ Bd (pt4 t b)
theorem k_Mc_passTick {l : Launch} {E : Ew} {S0 : WW} {m : Nat} {t : TT} (hm : m < 2) {b : Prop} (hI : ptI t b) : Kf l y_Mc_passTick b_Mc_passTick 2 none 5 E (sm S0 m t) [rf E (kMc m), iv (pb b)] none (sm S0 m (ptF t b)) := by
  refine KfV rfl rfl (Nat.le_of_ble_eq_true rfl) (fun g C R => ?_)
  show g (sm S0 m t) 0 [some (rf E (kMc m)), some (iv (pb b))] []
  obtain ⟨h1, h2, h3, h4, h5, h6⟩ := hI
  have q4 := bd4 h6 0
  have q5 := bd5 h6 0
  refine r_aload_n C d_Mc_passTick_0 rfl ?_
  refine r_cV0v C (k_Mc_lineUp hm h1) (by decide) (by decide) ml_Mc_160 mn_Mc_lineUp ms_Mc_lineUp mc_Mc_lineUp mi_Mc_lineUp md_Mc_lineUp (kMc_lt hm) (zMc hm) rfl rfl (Nat.le_of_ble_eq_true rfl) d_Mc_passTick_1 ?_
  refine r_aload_n C d_Mc_passTick_4 rfl ?_
  refine r_cV0v C (k_Mc_serveQueue hm (t := pt1 t) h2 h3) (by decide) (by decide) ml_Mc_163 mn_Mc_serveQueue ms_Mc_serveQueue mc_Mc_serveQueue mi_Mc_serveQueue md_Mc_serveQueue (kMc_lt hm) (zMc hm) rfl rfl (Nat.le_of_ble_eq_true rfl) d_Mc_passTick_5 ?_
  refine r_aload_n C d_Mc_passTick_8 rfl ?_
  refine r_iload_n C d_Mc_passTick_9 rfl ?_
  refine r_cV1v C (k_Mc_runJobs hm (t := pt2 t) h4 h5) (by decide) (by decide) ml_Mc_166 mn_Mc_runJobs ms_Mc_runJobs mc_Mc_runJobs mi_Mc_runJobs md_Mc_runJobs (kMc_lt hm) (zMc hm) rfl rfl (Nat.le_of_ble_eq_true rfl) d_Mc_passTick_10 ?_
  refine r_aload_n C d_Mc_passTick_13 rfl ?_
  refine r_dup C d_Mc_passTick_14 rfl ?_
  refine g_Mc_now C hm lk_Mc_68 d_Mc_passTick_15 ?_
  refine r_iconst C d_Mc_passTick_18 ?_
  refine r_iadd C d_Mc_passTick_19 ?_
  refine p_Mc_now C hm lk_Mc_68 d_Mc_passTick_20 ?_
  obtain ⟨s, hs⟩ : ∃ s, s = pt4 t b := ⟨_, rfl⟩
  rw [← hs] at h6 q4 q5
  refine g_goal (S2 := sm S0 m s) (by rw [hs]; rfl) ?_
  refine r_aload_n C d_Mc_passTick_23 rfl ?_
  refine g_Mc_halving C hm lk_Mc_35 d_Mc_passTick_24 ?_
  refine r_if_le (tgt := 46) C d_Mc_passTick_27 (by decide) (by first | assumption | exact bd_ir (by assumption) rfl | exact b2i_ir _ | exact pb_ir _ | exact ir_mk (by omega) (by omega)) (fun c27 => ?_) (fun c27 => ?_)
  · exact R d_Mc_passTick_46 (by rw [ptF, ← hs]; first | (rw [pif_f (fun q => by omega)]) | (rw [pif_t ⟨by omega, by omega⟩]))
  · refine r_aload_n C d_Mc_passTick_30 rfl ?_
    refine g_Mc_now C hm lk_Mc_68 d_Mc_passTick_31 ?_
    refine r_aload_n C d_Mc_passTick_34 rfl ?_
    refine g_Mc_halving C hm lk_Mc_35 d_Mc_passTick_35 ?_
    refine r_irem C d_Mc_passTick_38 (by omega) (by omega) ?_
    refine r_if_ne (tgt := 46) C d_Mc_passTick_39 (by decide) (ir_mk (by have := Int.emod_nonneg (s 4 0) (show s 5 0 ≠ 0 by omega); omega) (by have := Int.emod_lt_of_pos (s 4 0) (show 0 < s 5 0 by omega); omega)) (fun c39 => ?_) (fun c39 => ?_)
    · exact R d_Mc_passTick_46 (by rw [ptF, ← hs]; first | (rw [pif_f (fun q => by omega)]) | (rw [pif_t ⟨by omega, by omega⟩]))
    · refine r_aload_n C d_Mc_passTick_42 rfl ?_
      refine r_cV0v C (k_Mc_halveUse hm (t := s) h6) (by decide) (by decide) ml_Mc_170 mn_Mc_halveUse ms_Mc_halveUse mc_Mc_halveUse mi_Mc_halveUse md_Mc_halveUse (kMc_lt hm) (zMc hm) rfl rfl (Nat.le_of_ble_eq_true rfl) d_Mc_passTick_43 ?_
      exact R d_Mc_passTick_46 (by rw [ptF, ← hs]; first | (rw [pif_f (fun q => by omega)]) | (rw [pif_t ⟨by omega, by omega⟩]))
def bk1 (t : TT) (r : Nat) : Nat → TT
  | 0 => t
  | i + 1 => if 0 < bk1 t r i (100 + i) r then tu (lvF (kwsF (bk1 t r i) i (bk1 t r i 4 0)) i) 24 i 0 else bk1 t r i
theorem bk1_s (t : TT) (r i : Nat) : bk1 t r (i + 1) = if 0 < bk1 t r i (100 + i) r then tu (lvF (kwsF (bk1 t r i) i (bk1 t r i 4 0)) i) 24 i 0 else bk1 t r i := rfl
def bkN (t : TT) (r : Nat) (n : Nat) : Int := sumN (fun i => b2i (0 < bk1 t r i (100 + i) r)) n
theorem bkN_s (t : TT) (r n : Nat) : bkN t r (n + 1) = bkN t r n + b2i (0 < bk1 t r n (100 + n) r) := rfl
theorem kwsF_ne {t : TT} {i f a : Nat} {u : Int} (h : f ≠ 27) : kwsF t i u f a = t f a := by
  unfold kwsF; split
  · rw [tu_ne (by omega)]
  · rfl
theorem bk1_ne {t : TT} {r f a : Nat} (h : f = 2 ∨ f = 4 ∨ f = 0) : ∀ i, bk1 t r i f a = t f a := by
  intro i
  induction i with
  | zero => rfl
  | succ i ih =>
    rw [bk1_s]
    split
    · rw [tu_ne (by omega), lvF_ne (by omega), kwsF_ne (by omega), ih]
    · exact ih
theorem k_Mc_breakRack {l : Launch} {E : Ew} {S0 : WW} {m : Nat} {t : TT} (hm : m < 2) {r : Nat} (hr : r < 4) (hB : Bd t) (hI : ∀ i, i < (t 2 0).toNat → Bd (bk1 t r i) ∧ (0 ≤ ranF (bk1 t r i) i (bk1 t r i 4 0) ∧ ranF (bk1 t r i) i (bk1 t r i 4 0) ≤ 2147483647) ∧ Bd (kwsF (bk1 t r i) i (bk1 t r i 4 0))) : Kf l y_Mc_breakRack b_Mc_breakRack 5 (some .int) 2 E (sm S0 m t) [rf E (kMc m), iv (r : Int)] (some (iv (bkN t r (t 2 0).toNat))) (sm S0 m (bk1 t r (t 2 0).toNat)) := by
  refine KfI rfl rfl (Nat.le_of_ble_eq_true rfl) (fun g C R => ?_)
  show g (sm S0 m t) 0 [some (rf E (kMc m)), some (iv (r : Int)), none, none, none] []
  have b2 := bd2 hB 0
  have hl : ∀ (k i : Nat) (X : Option Value), i ≤ (t 2 0).toNat → (t 2 0).toNat - i < k → g (sm S0 m (bk1 t r i)) 4 [some (rf E (kMc m)), some (iv (r : Int)), some (iv (bkN t r i)), some (iv (i : Int)), X] [] := by
    intro k
    induction k with
    | zero => intro i X h1 h2; omega
    | succ k ih =>
      intro i X h1 h2
      refine r_iload_n C d_Mc_breakRack_4 rfl ?_
      refine r_aload_n C d_Mc_breakRack_5 rfl ?_
      refine g_Mc_jobCount C hm lk_Mc_62 d_Mc_breakRack_6 ?_
      rw [bk1_ne (by omega)]
      refine r_icmp_ge (tgt := 60) C d_Mc_breakRack_9 (by decide) (by first | assumption | exact bd_ir (by assumption) rfl | exact b2i_ir _ | exact pb_ir _ | exact ir_mk (by omega) (by omega)) (by first | assumption | exact bd_ir (by assumption) rfl | exact b2i_ir _ | exact pb_ir _ | exact ir_mk (by omega) (by omega)) (fun c9 => ?_) (fun c9 => ?_)
      · refine r_iload_n C d_Mc_breakRack_60 rfl ?_
        exact R d_Mc_breakRack_61 (by rw [show i = (t 2 0).toNat by omega]) (by rw [show i = (t 2 0).toNat by omega])
      · obtain ⟨hBi, hri, hBk⟩ := hI i (by omega)
        refine r_aload_n C d_Mc_breakRack_12 rfl ?_
        refine g_Mc_jobs C hm lk_Mc_25 d_Mc_breakRack_13 ?_
        refine r_iload_n C d_Mc_breakRack_16 rfl ?_
        refine x_Jb C hm _ rfl (by omega) d_Mc_breakRack_17 ?_
        refine r_astore_4 C d_Mc_breakRack_18 ?_
        refine r_aload C d_Mc_breakRack_20 rfl ?_
        refine g_Jb_nodesOn C hm (by omega) lk_Mc_113 d_Mc_breakRack_22 ?_
        refine r_iload_n C d_Mc_breakRack_25 rfl ?_
        refine x_On C hm (by omega) r rfl (by omega) d_Mc_breakRack_26 ?_
        refine r_if_le (tgt := 54) C d_Mc_breakRack_27 (by decide) (bdOn_ir hBi _ _) (fun c27 => ?_) (fun c27 => ?_)
        · refine r_iinc_3 C d_Mc_breakRack_54 ?_
          refine r_goto (tgt := 4) C d_Mc_breakRack_57 (by decide) ?_
          have h := fun X => ih (i + 1) X (by omega) (by omega)
          rw [bk1_s, bkN_s, b2i] at h
          first
            | (rw [if_neg (by omega), if_neg (by omega), Int.add_zero] at h; exact h _)
            | (rw [if_pos (by omega), if_pos (by omega)] at h; exact h _)
        · refine r_aload C d_Mc_breakRack_30 rfl ?_
          refine r_aload_n C d_Mc_breakRack_32 rfl ?_
          refine g_Mc_now C hm lk_Mc_68 d_Mc_breakRack_33 ?_
          refine r_cV1v C (k_Jb_keepWhatWasSaved hm (i := i) (by omega) hBi hri) (by decide) (by decide) ml_Mc_116 mn_Jb_keepWhatWasSaved ms_Jb_keepWhatWasSaved mc_Jb_keepWhatWasSaved mi_Jb_keepWhatWasSaved md_Jb_keepWhatWasSaved (kJb_lt hm (by omega)) (zJb hm (by omega)) rfl rfl (Nat.le_of_ble_eq_true rfl) d_Mc_breakRack_36 ?_
          refine r_aload_n C d_Mc_breakRack_39 rfl ?_
          refine r_aload C d_Mc_breakRack_40 rfl ?_
          refine r_cV1v C (k_Mc_leaveNodes hm (j := i) (by omega) hBk) (by decide) (by decide) ml_Mc_120 mn_Mc_leaveNodes ms_Mc_leaveNodes mc_Mc_leaveNodes mi_Mc_leaveNodes md_Mc_leaveNodes (kMc_lt hm) (zMc hm) rfl rfl (Nat.le_of_ble_eq_true rfl) d_Mc_breakRack_42 ?_
          refine r_aload C d_Mc_breakRack_45 rfl ?_
          refine r_iconst C d_Mc_breakRack_47 ?_
          refine p_Jb_state C hm (by omega) lk_Mc_99 d_Mc_breakRack_48 ?_
          refine r_iinc_2 C d_Mc_breakRack_51 ?_
          refine r_iinc_3 C d_Mc_breakRack_54 ?_
          refine r_goto (tgt := 4) C d_Mc_breakRack_57 (by decide) ?_
          have h := fun X => ih (i + 1) X (by omega) (by omega)
          rw [bk1_s, bkN_s, b2i] at h
          first
            | (rw [if_neg (by omega), if_neg (by omega), Int.add_zero] at h; exact h _)
            | (rw [if_pos (by omega), if_pos (by omega)] at h; exact h _)
  refine r_iconst C d_Mc_breakRack_0 ?_
  refine r_istore_2 C d_Mc_breakRack_1 ?_
  refine r_iconst C d_Mc_breakRack_2 ?_
  refine r_istore_3 C d_Mc_breakRack_3 ?_
  exact hl ((t 2 0).toNat + 1) 0 none (by omega) (by omega)
def wtF (t : TT) (j : Nat) (a b c d e f : Int) : TT := tu (tu (tu (tu (tu (tu (tu (tu (tu (tu (tu (tu (tu t 17 j a) 18 j b) 19 j c) 20 j d) 21 j e) 22 j f) 23 j (-1)) 24 j 0) 25 j (-1)) 26 j (-1)) 27 j 0) 28 j 0) 29 j 0
theorem k_Jb_want {l : Launch} {E : Ew} {S0 : WW} {m : Nat} {t : TT} (hm : m < 2) {j : Nat} (hj : j < 30) {a b c d e f : Int} : Kf l y_Jb_want b_Jb_want 7 none 0 E (sm S0 m t) [rf E (kJb m j), iv a, iv b, iv c, iv d, iv e, iv f] none (sm S0 m (wtF t j a b c d e f)) := by
  refine KfV rfl rfl (Nat.le_of_ble_eq_true rfl) (fun g C R => ?_)
  show g (sm S0 m t) 0 [some (rf E (kJb m j)), some (iv a), some (iv b), some (iv c), some (iv d), some (iv e), some (iv f)] []
  refine r_aload_n C d_Jb_want_0 rfl ?_
  refine r_iload_n C d_Jb_want_1 rfl ?_
  refine p_Jb_account C hm (by omega) lk_Jb_15 d_Jb_want_2 ?_
  refine r_aload_n C d_Jb_want_5 rfl ?_
  refine r_iload_n C d_Jb_want_6 rfl ?_
  refine p_Jb_nodes C hm (by omega) lk_Jb_19 d_Jb_want_7 ?_
  refine r_aload_n C d_Jb_want_10 rfl ?_
  refine r_iload_n C d_Jb_want_11 rfl ?_
  refine p_Jb_licences C hm (by omega) lk_Jb_22 d_Jb_want_12 ?_
  refine r_aload_n C d_Jb_want_15 rfl ?_
  refine r_iload C d_Jb_want_16 rfl ?_
  refine p_Jb_limit C hm (by omega) lk_Jb_25 d_Jb_want_18 ?_
  refine r_aload_n C d_Jb_want_21 rfl ?_
  refine r_iload C d_Jb_want_22 rfl ?_
  refine p_Jb_truly C hm (by omega) lk_Jb_28 d_Jb_want_24 ?_
  refine r_aload_n C d_Jb_want_27 rfl ?_
  refine r_iload C d_Jb_want_28 rfl ?_
  refine p_Jb_save C hm (by omega) lk_Jb_31 d_Jb_want_30 ?_
  refine r_aload_n C d_Jb_want_33 rfl ?_
  refine r_iconst C d_Jb_want_34 ?_
  refine p_Jb_ahead C hm (by omega) lk_Jb_34 d_Jb_want_35 ?_
  refine r_aload_n C d_Jb_want_38 rfl ?_
  refine r_iconst C d_Jb_want_39 ?_
  refine p_Jb_state C hm (by omega) lk_Jb_37 d_Jb_want_40 ?_
  refine r_aload_n C d_Jb_want_43 rfl ?_
  refine r_iconst C d_Jb_want_44 ?_
  refine p_Jb_begun C hm (by omega) lk_Jb_40 d_Jb_want_45 ?_
  refine r_aload_n C d_Jb_want_48 rfl ?_
  refine r_iconst C d_Jb_want_49 ?_
  refine p_Jb_ended C hm (by omega) lk_Jb_43 d_Jb_want_50 ?_
  refine r_aload_n C d_Jb_want_53 rfl ?_
  refine r_iconst C d_Jb_want_54 ?_
  refine p_Jb_saved C hm (by omega) lk_Jb_46 d_Jb_want_55 ?_
  refine r_aload_n C d_Jb_want_58 rfl ?_
  refine r_iconst C d_Jb_want_59 ?_
  refine p_Jb_counted C hm (by omega) lk_Jb_49 d_Jb_want_60 ?_
  refine r_aload_n C d_Jb_want_63 rfl ?_
  refine r_iconst C d_Jb_want_64 ?_
  refine p_Jb_takesUntil C hm (by omega) lk_Jb_52 d_Jb_want_65 ?_
  exact R d_Jb_want_68 rfl
