noncomputable def pb (p : Prop) : Int := @ite Int p (Classical.propDecidable p) 1 0
theorem pb_t {p : Prop} (h : p) : pb p = 1 := by unfold pb; rw [if_pos h]
theorem pb_f {p : Prop} (h : ¬ p) : pb p = 0 := by unfold pb; rw [if_neg h]
theorem pb_01 (p : Prop) : pb p = 0 ∨ pb p = 1 := by by_cases h : p; exact Or.inr (pb_t h); exact Or.inl (pb_f h)
theorem pb_ir (p : Prop) : ir (pb p) := by rcases pb_01 p with h | h <;> rw [h] <;> exact ⟨by omega, by omega⟩
theorem pb_1 {p : Prop} : pb p = 1 ↔ p := by
  by_cases h : p
  · rw [pb_t h]; simp [h]
  · rw [pb_f h]; simp [h]
theorem pb_0 {p : Prop} : pb p = 0 ↔ ¬ p := by
  by_cases h : p
  · rw [pb_t h]; simp [h]
  · rw [pb_f h]; simp [h]
theorem pb_c {p q : Prop} (h : p ↔ q) : pb p = pb q := by rw [propext h]
noncomputable def pif {α : Type} (p : Prop) (a b : α) : α := @ite α p (Classical.propDecidable p) a b
theorem pif_t {α : Type} {p : Prop} {a b : α} (h : p) : pif p a b = a := by unfold pif; rw [if_pos h]
theorem pif_f {α : Type} {p : Prop} {a b : α} (h : ¬ p) : pif p a b = b := by unfold pif; rw [if_neg h]
theorem pif_c {α : Type} {p q : Prop} {a b : α} (h : p ↔ q) : pif p a b = pif q a b := by rw [propext h]
def roomF (t : TT) (n : Nat) : Int := sumN (fun r => if t 14 r = 0 then t 12 r else 0) n
theorem roomF_s (t : TT) (n : Nat) : roomF t (n + 1) = roomF t n + if t 14 n = 0 then t 12 n else 0 := rfl
def rec2 (t : TT) (n : Nat) : TT := fun f a => if f = 7 ∧ a = 0 then roomF t (t 0 0).toNat else if f = 28 ∧ a < n then cntF t a (t 0 0).toNat else t f a
def recF (t : TT) : TT := rec2 t (t 2 0).toNat
theorem roomF_bd {t : TT} (hB : Bd t) {n : Nat} (hn : n ≤ 4) : 0 ≤ roomF t n ∧ roomF t n ≤ 64 := by
  have h := sumN_bd (f := fun r => if t 14 r = 0 then t 12 r else 0) (lo := 0) (hi := 16) (n := n) (fun i _ => by
    have := bd12 hB i
    split <;> omega)
  unfold roomF; omega
theorem cntF_bd {t : TT} (hB : Bd t) {j n : Nat} (hn : n ≤ 4) : 0 ≤ cntF t j n ∧ cntF t j n ≤ 64 := by
  have h := sumN_bd (f := fun r => if t 14 r = 0 then t (100 + j) r else 0) (lo := 0) (hi := 16) (n := n) (fun i _ => by
    have := bdOn hB j i
    split <;> omega)
  unfold cntF; omega
theorem rec2_bd {t : TT} (hB : Bd t) (n : Nat) : Bd (rec2 t n) := by
  intro f a hf
  have b0 := bd0 hB 0
  unfold rec2
  split
  · rename_i q; rw [q.1]; exact roomF_bd hB (by omega)
  split
  · rename_i q; rw [q.1]; exact cntF_bd hB (by omega)
  · exact hB f a hf
theorem rec2_ne {t : TT} {n f a : Nat} (h : ¬ (f = 7 ∧ a = 0)) (h2 : ¬ (f = 28 ∧ a < n)) : rec2 t n f a = t f a := by unfold rec2; rw [if_neg h, if_neg h2]
theorem rec2_cnt {t : TT} {n j k : Nat} : cntF (rec2 t n) j k = cntF t j k := by
  unfold cntF
  refine sumN_congr (fun r _ => ?_)
  rw [rec2_ne (by omega) (by omega), rec2_ne (by omega) (by omega)]
theorem k_Mc_recount {l : Launch} {E : Ew} {S0 : WW} {m : Nat} {t : TT} (hm : m < 2) (hB : Bd t) : Kf l y_Mc_recount b_Mc_recount 2 none 1 E (sm S0 m t) [rf E (kMc m)] none (sm S0 m (recF t)) := by
  refine KfV rfl rfl (Nat.le_of_ble_eq_true rfl) (fun g C R => ?_)
  show g (sm S0 m t) 0 [some (rf E (kMc m)), none] []
  have b0 := bd0 hB 0
  have b2 := bd2 hB 0
  have hl2 : ∀ (k i : Nat), i ≤ (t 2 0).toNat → (t 2 0).toNat - i < k → g (sm S0 m (rec2 t i)) 57 [some (rf E (kMc m)), some (iv (i : Int))] [] := by
    intro k
    induction k with
    | zero => intro i h1 h2; omega
    | succ k ih =>
      intro i h1 h2
      refine r_iload_n C d_Mc_recount_57 rfl ?_
      refine r_aload_n C d_Mc_recount_58 rfl ?_
      refine g_Mc_jobCount C hm lk_Mc_62 d_Mc_recount_59 ?_
      rw [rec2_ne (by omega) (by omega)]
      refine r_icmp_ge (tgt := 90) C d_Mc_recount_62 (by decide) (by first | assumption | exact bd_ir (by assumption) rfl | exact b2i_ir _ | exact pb_ir _ | exact ir_mk (by omega) (by omega)) (by first | assumption | exact bd_ir (by assumption) rfl | exact b2i_ir _ | exact pb_ir _ | exact ir_mk (by omega) (by omega)) (fun c62 => ?_) (fun c62 => ?_)
      · exact R d_Mc_recount_90 (by rw [show i = (t 2 0).toNat by omega]; rfl)
      · refine r_aload_n C d_Mc_recount_65 rfl ?_
        refine g_Mc_jobs C hm lk_Mc_25 d_Mc_recount_66 ?_
        refine r_iload_n C d_Mc_recount_69 rfl ?_
        refine x_Jb C hm _ rfl (by omega) d_Mc_recount_70 ?_
        refine r_aload_n C d_Mc_recount_71 rfl ?_
        refine r_aload_n C d_Mc_recount_72 rfl ?_
        refine g_Mc_jobs C hm lk_Mc_25 d_Mc_recount_73 ?_
        refine r_iload_n C d_Mc_recount_76 rfl ?_
        refine x_Jb C hm _ rfl (by omega) d_Mc_recount_77 ?_
        refine r_cV1r C (k_Mc_countedOf hm (j := i) (by omega) (rec2_bd hB i)) (by decide) (by decide) ml_Mc_106 mn_Mc_countedOf ms_Mc_countedOf mc_Mc_countedOf mi_Mc_countedOf md_Mc_countedOf (kMc_lt hm) (zMc hm) rfl rfl (Nat.le_of_ble_eq_true rfl) d_Mc_recount_78 ?_
        rw [rec2_cnt, rec2_ne (by omega) (by omega)]
        refine p_Jb_counted C hm (by omega) lk_Mc_110 d_Mc_recount_81 ?_
        rw [show tu (rec2 t i) 28 i (cntF t i (t 0 0).toNat) = rec2 t (i + 1) by
            funext f a
            simp only [tu, rec2]
            grind]
        refine r_iinc_1 C d_Mc_recount_84 ?_
        refine r_goto (tgt := 57) C d_Mc_recount_87 (by decide) ?_
        exact ih (i + 1) (by omega) (by omega)
  have hl1 : ∀ (k i : Nat), i ≤ (t 0 0).toNat → (t 0 0).toNat - i < k → g (sm S0 m (tu t 7 0 (roomF t i))) 7 [some (rf E (kMc m)), some (iv (i : Int))] [] := by
    intro k
    induction k with
    | zero => intro i h1 h2; omega
    | succ k ih =>
      intro i h1 h2
      refine r_iload_n C d_Mc_recount_7 rfl ?_
      refine r_aload_n C d_Mc_recount_8 rfl ?_
      refine g_Mc_rackCount C hm lk_Mc_56 d_Mc_recount_9 ?_
      try simp (disch := omega) only [tu_ne, tu_eq]
      refine r_icmp_ge (tgt := 55) C d_Mc_recount_12 (by decide) (by first | assumption | exact bd_ir (by assumption) rfl | exact b2i_ir _ | exact pb_ir _ | exact ir_mk (by omega) (by omega)) (by first | assumption | exact bd_ir (by assumption) rfl | exact b2i_ir _ | exact pb_ir _ | exact ir_mk (by omega) (by omega)) (fun c12 => ?_) (fun c12 => ?_)
      · refine r_iconst C d_Mc_recount_55 ?_
        refine r_istore_1 C d_Mc_recount_56 ?_
        rw [show i = (t 0 0).toNat by omega, show tu t 7 0 (roomF t (t 0 0).toNat) = rec2 t 0 by
            funext f a
            simp only [tu, rec2]
            grind]
        exact hl2 ((t 2 0).toNat + 1) 0 (by omega) (by omega)
      · refine r_aload_n C d_Mc_recount_15 rfl ?_
        refine r_dup C d_Mc_recount_16 rfl ?_
        refine g_Mc_room C hm lk_Mc_71 d_Mc_recount_17 ?_
        refine r_aload_n C d_Mc_recount_20 rfl ?_
        refine g_Mc_racks C hm lk_Mc_11 d_Mc_recount_21 ?_
        refine r_iload_n C d_Mc_recount_24 rfl ?_
        refine x_Rk C hm _ rfl (by omega) d_Mc_recount_25 ?_
        refine g_Rk_drained C hm (by omega) lk_Mc_102 d_Mc_recount_26 ?_
        try simp (disch := omega) only [tu_ne, tu_eq]
        refine r_if_eq (tgt := 36) C d_Mc_recount_29 (by decide) (by first | assumption | exact bd_ir (by assumption) rfl | exact b2i_ir _ | exact pb_ir _ | exact ir_mk (by omega) (by omega)) (fun c29 => ?_) (fun c29 => ?_)
        · refine r_aload_n C d_Mc_recount_36 rfl ?_
          refine g_Mc_racks C hm lk_Mc_11 d_Mc_recount_37 ?_
          refine r_iload_n C d_Mc_recount_40 rfl ?_
          refine x_Rk C hm _ rfl (by omega) d_Mc_recount_41 ?_
          refine g_Rk_nodes C hm (by omega) lk_Mc_87 d_Mc_recount_42 ?_
          try simp (disch := omega) only [tu_ne, tu_eq]
          refine r_iadd C d_Mc_recount_45 ?_
          refine p_Mc_room C hm lk_Mc_71 d_Mc_recount_46 ?_
          refine r_iinc_1 C d_Mc_recount_49 ?_
          refine r_goto (tgt := 7) C d_Mc_recount_52 (by decide) ?_
          have h := ih (i + 1) (by omega) (by omega)
          rw [roomF_s] at h
          have e : ∀ x y : Int, tu (tu t 7 0 x) 7 0 y = tu t 7 0 y := fun x y => by funext f a; simp only [tu]; split <;> rfl
          rw [e]
          first | (rw [if_pos (by omega)] at h; exact h) | (rw [if_neg (by omega)] at h; exact h)
        · refine r_iconst C d_Mc_recount_32 ?_
          refine r_goto (tgt := 45) C d_Mc_recount_33 (by decide) ?_
          try simp (disch := omega) only [tu_ne, tu_eq]
          refine r_iadd C d_Mc_recount_45 ?_
          refine p_Mc_room C hm lk_Mc_71 d_Mc_recount_46 ?_
          refine r_iinc_1 C d_Mc_recount_49 ?_
          refine r_goto (tgt := 7) C d_Mc_recount_52 (by decide) ?_
          have h := ih (i + 1) (by omega) (by omega)
          rw [roomF_s] at h
          have e : ∀ x y : Int, tu (tu t 7 0 x) 7 0 y = tu t 7 0 y := fun x y => by funext f a; simp only [tu]; split <;> rfl
          rw [e]
          first | (rw [if_pos (by omega)] at h; exact h) | (rw [if_neg (by omega)] at h; exact h)
  refine r_aload_n C d_Mc_recount_0 rfl ?_
  refine r_iconst C d_Mc_recount_1 ?_
  refine p_Mc_room C hm lk_Mc_71 d_Mc_recount_2 ?_
  refine r_iconst C d_Mc_recount_5 ?_
  refine r_istore_1 C d_Mc_recount_6 ?_
  exact hl1 ((t 0 0).toNat + 1) 0 (by omega) (by omega)
def lv1 (t : TT) (j n : Nat) : TT := fun f a => if f = 13 ∧ a < n then t 13 a + t (100 + j) a else if f = 100 + j ∧ a < n then 0 else t f a
def lvF (t : TT) (j : Nat) : TT := tu (tu (lv1 t j (t 0 0).toNat) 28 j 0) 29 j 0
theorem lv1_ne {t : TT} {j n f a : Nat} (h : f ≠ 13 ∨ n ≤ a) (h2 : f ≠ 100 + j ∨ n ≤ a) : lv1 t j n f a = t f a := by unfold lv1; rw [if_neg (by omega), if_neg (by omega)]
theorem lv1_s (t : TT) (j n : Nat) : tu (tu (lv1 t j n) 13 n (t 13 n + t (100 + j) n)) (100 + j) n 0 = lv1 t j (n + 1) := by
  funext f a
  simp only [tu, lv1]
  grind
theorem lv1_0 (t : TT) (j : Nat) : lv1 t j 0 = t := by
  funext f a
  simp [lv1]
theorem k_Mc_leaveNodes {l : Launch} {E : Ew} {S0 : WW} {m : Nat} {t : TT} (hm : m < 2) {j : Nat} (hj : j < 30) (hB : Bd t) : Kf l y_Mc_leaveNodes b_Mc_leaveNodes 3 none 0 E (sm S0 m t) [rf E (kMc m), rf E (kJb m j)] none (sm S0 m (lvF t j)) := by
  refine KfV rfl rfl (Nat.le_of_ble_eq_true rfl) (fun g C R => ?_)
  show g (sm S0 m t) 0 [some (rf E (kMc m)), some (rf E (kJb m j)), none] []
  have b0 := bd0 hB 0
  have hl : ∀ (k i : Nat), i ≤ (t 0 0).toNat → (t 0 0).toNat - i < k → g (sm S0 m (lv1 t j i)) 2 [some (rf E (kMc m)), some (rf E (kJb m j)), some (iv (i : Int))] [] := by
    intro k
    induction k with
    | zero => intro i h1 h2; omega
    | succ k ih =>
      intro i h1 h2
      refine r_iload_n C d_Mc_leaveNodes_2 rfl ?_
      refine r_aload_n C d_Mc_leaveNodes_3 rfl ?_
      refine g_Mc_rackCount C hm lk_Mc_56 d_Mc_leaveNodes_4 ?_
      rw [lv1_ne (by omega) (by omega)]
      refine r_icmp_ge (tgt := 43) C d_Mc_leaveNodes_7 (by decide) (by first | assumption | exact bd_ir (by assumption) rfl | exact b2i_ir _ | exact pb_ir _ | exact ir_mk (by omega) (by omega)) (by first | assumption | exact bd_ir (by assumption) rfl | exact b2i_ir _ | exact pb_ir _ | exact ir_mk (by omega) (by omega)) (fun c7 => ?_) (fun c7 => ?_)
      · refine r_aload_n C d_Mc_leaveNodes_43 rfl ?_
        refine r_iconst C d_Mc_leaveNodes_44 ?_
        refine p_Jb_counted C hm (by omega) lk_Mc_110 d_Mc_leaveNodes_45 ?_
        refine r_aload_n C d_Mc_leaveNodes_48 rfl ?_
        refine r_iconst C d_Mc_leaveNodes_49 ?_
        refine p_Jb_takesUntil C hm (by omega) lk_Mc_123 d_Mc_leaveNodes_50 ?_
        exact R d_Mc_leaveNodes_53 (by rw [show i = (t 0 0).toNat by omega]; rfl)
      · refine r_aload_n C d_Mc_leaveNodes_10 rfl ?_
        refine g_Mc_racks C hm lk_Mc_11 d_Mc_leaveNodes_11 ?_
        refine r_iload_n C d_Mc_leaveNodes_14 rfl ?_
        refine x_Rk C hm _ rfl (by omega) d_Mc_leaveNodes_15 ?_
        refine r_dup C d_Mc_leaveNodes_16 rfl ?_
        refine g_Rk_unused C hm (by omega) lk_Mc_90 d_Mc_leaveNodes_17 ?_
        refine r_aload_n C d_Mc_leaveNodes_20 rfl ?_
        refine g_Jb_nodesOn C hm (by omega) lk_Mc_113 d_Mc_leaveNodes_21 ?_
        refine r_iload_n C d_Mc_leaveNodes_24 rfl ?_
        refine x_On C hm (by omega) _ rfl (by omega) d_Mc_leaveNodes_25 ?_
        refine r_iadd C d_Mc_leaveNodes_26 ?_
        refine p_Rk_unused C hm (by omega) lk_Mc_90 d_Mc_leaveNodes_27 ?_
        rw [lv1_ne (by omega) (by omega), lv1_ne (by omega) (by omega)]
        refine r_aload_n C d_Mc_leaveNodes_30 rfl ?_
        refine g_Jb_nodesOn C hm (by omega) lk_Mc_113 d_Mc_leaveNodes_31 ?_
        refine r_iload_n C d_Mc_leaveNodes_34 rfl ?_
        refine r_iconst C d_Mc_leaveNodes_35 ?_
        refine st_On C hm (by omega) _ rfl (by omega) d_Mc_leaveNodes_36 ?_
        rw [lv1_s]
        refine r_iinc_2 C d_Mc_leaveNodes_37 ?_
        refine r_goto (tgt := 2) C d_Mc_leaveNodes_40 (by decide) ?_
        exact ih (i + 1) (by omega) (by omega)
  refine r_iconst C d_Mc_leaveNodes_0 ?_
  refine r_istore_2 C d_Mc_leaveNodes_1 ?_
  have h := hl ((t 0 0).toNat + 1) 0 (by omega) (by omega)
  rw [lv1_0] at h
  exact h
def arF (t : TT) (x : Int) : TT := recF (tu (tu (tu t 12 (t 0 0).toNat x) 13 (t 0 0).toNat x) 0 0 (t 0 0 + 1))
def aaF (t : TT) (x : Int) : TT := tu (tu t 15 (t 1 0).toNat x) 1 0 (t 1 0 + 1)
theorem k_Mc_addRack {l : Launch} {E : Ew} {S0 : WW} {m : Nat} {t : TT} (hm : m < 2) {x : Int} (hx : 0 ≤ x ∧ x ≤ 16) (h4 : t 0 0 < 4) (hB : Bd t) : Kf l y_Mc_addRack b_Mc_addRack 3 (some .int) 2 E (sm S0 m t) [rf E (kMc m), iv x] (some (iv (t 0 0))) (sm S0 m (arF t x)) := by
  refine KfI rfl rfl (Nat.le_of_ble_eq_true rfl) (fun g C R => ?_)
  show g (sm S0 m t) 0 [some (rf E (kMc m)), some (iv x), none] []
  have b0 := bd0 hB 0
  refine r_aload_n C d_Mc_addRack_0 rfl ?_
  refine g_Mc_rackCount C hm lk_Mc_56 d_Mc_addRack_1 ?_
  refine r_istore_2 C d_Mc_addRack_4 ?_
  refine r_aload_n C d_Mc_addRack_5 rfl ?_
  refine g_Mc_racks C hm lk_Mc_11 d_Mc_addRack_6 ?_
  refine r_iload_n C d_Mc_addRack_9 rfl ?_
  refine x_Rk C hm (t 0 0).toNat (by omega) (by omega) d_Mc_addRack_10 ?_
  refine r_iload_n C d_Mc_addRack_11 rfl ?_
  refine p_Rk_nodes C hm (by omega) lk_Mc_87 d_Mc_addRack_12 ?_
  refine r_aload_n C d_Mc_addRack_15 rfl ?_
  refine g_Mc_racks C hm lk_Mc_11 d_Mc_addRack_16 ?_
  refine r_iload_n C d_Mc_addRack_19 rfl ?_
  refine x_Rk C hm (t 0 0).toNat (by omega) (by omega) d_Mc_addRack_20 ?_
  refine r_iload_n C d_Mc_addRack_21 rfl ?_
  refine p_Rk_unused C hm (by omega) lk_Mc_90 d_Mc_addRack_22 ?_
  refine r_aload_n C d_Mc_addRack_25 rfl ?_
  refine r_dup C d_Mc_addRack_26 rfl ?_
  refine g_Mc_rackCount C hm lk_Mc_56 d_Mc_addRack_27 ?_
  try simp (disch := omega) only [tu_ne, tu_eq]
  refine r_iconst C d_Mc_addRack_30 ?_
  refine r_iadd C d_Mc_addRack_31 ?_
  refine p_Mc_rackCount C hm lk_Mc_56 d_Mc_addRack_32 ?_
  refine r_aload_n C d_Mc_addRack_35 rfl ?_
  refine r_cV0v C (k_Mc_recount hm (bd_tu (bd_tu (bd_tu hB (fun _ => hx)) (fun _ => hx)) (fun _ => (show (0 : Int) ≤ t 0 0 + 1 ∧ t 0 0 + 1 ≤ 4 by omega)))) (by decide) (by decide) ml_Mc_93 mn_Mc_recount ms_Mc_recount mc_Mc_recount mi_Mc_recount md_Mc_recount (kMc_lt hm) (zMc hm) rfl rfl (Nat.le_of_ble_eq_true rfl) d_Mc_addRack_36 ?_
  refine r_iload_n C d_Mc_addRack_39 rfl ?_
  exact R d_Mc_addRack_40 rfl rfl
theorem k_Mc_addAccount {l : Launch} {E : Ew} {S0 : WW} {m : Nat} {t : TT} (hm : m < 2) {x : Int} (h4 : t 1 0 < 6) (hB : Bd t) : Kf l y_Mc_addAccount b_Mc_addAccount 3 (some .int) 0 E (sm S0 m t) [rf E (kMc m), iv x] (some (iv (t 1 0))) (sm S0 m (aaF t x)) := by
  refine KfI rfl rfl (Nat.le_of_ble_eq_true rfl) (fun g C R => ?_)
  show g (sm S0 m t) 0 [some (rf E (kMc m)), some (iv x), none] []
  have b1 := bd1 hB 0
  refine r_aload_n C d_Mc_addAccount_0 rfl ?_
  refine g_Mc_accountCount C hm lk_Mc_59 d_Mc_addAccount_1 ?_
  refine r_istore_2 C d_Mc_addAccount_4 ?_
  refine r_aload_n C d_Mc_addAccount_5 rfl ?_
  refine g_Mc_accounts C hm lk_Mc_19 d_Mc_addAccount_6 ?_
  refine r_iload_n C d_Mc_addAccount_9 rfl ?_
  refine x_Ac C hm (t 1 0).toNat (by omega) (by omega) d_Mc_addAccount_10 ?_
  refine r_iload_n C d_Mc_addAccount_11 rfl ?_
  refine p_Ac_shares C hm (by omega) lk_Mc_96 d_Mc_addAccount_12 ?_
  refine r_aload_n C d_Mc_addAccount_15 rfl ?_
  refine r_dup C d_Mc_addAccount_16 rfl ?_
  refine g_Mc_accountCount C hm lk_Mc_59 d_Mc_addAccount_17 ?_
  try simp (disch := omega) only [tu_ne, tu_eq]
  refine r_iconst C d_Mc_addAccount_20 ?_
  refine r_iadd C d_Mc_addAccount_21 ?_
  refine p_Mc_accountCount C hm lk_Mc_59 d_Mc_addAccount_22 ?_
  refine r_iload_n C d_Mc_addAccount_25 rfl ?_
  exact R d_Mc_addAccount_26 rfl rfl
theorem k_Hd_become_s {l : Launch} {E : Ew} {S0 : WW} {m : Nat} {t : TT} (hm : m < 2) {i : Nat} (hi : i < 9) {q : Nat} (hq : q < 9) : Kf l y_Hd_become b_Hd_become 2 none 1 E (sm S0 m t) [rf E (kHd m i), rf E (kHd m q)] none (sm S0 m (hdF t i (t 31 q) (t 32 q) (t 33 q) (t 34 q))) := by
  refine KfV rfl rfl (Nat.le_of_ble_eq_true rfl) (fun g C R => ?_)
  show g (sm S0 m t) 0 [some (rf E (kHd m i)), some (rf E (kHd m q))] []
  refine r_aload_n C d_Hd_become_0 rfl ?_
  refine r_aload_n C d_Hd_become_1 rfl ?_
  refine g_Hd_nodes C hm (by omega) lk_Hd_7 d_Hd_become_2 ?_
  refine r_aload_n C d_Hd_become_5 rfl ?_
  refine g_Hd_licences C hm (by omega) lk_Hd_13 d_Hd_become_6 ?_
  refine r_aload_n C d_Hd_become_9 rfl ?_
  refine g_Hd_from C hm (by omega) lk_Hd_16 d_Hd_become_10 ?_
  refine r_aload_n C d_Hd_become_13 rfl ?_
  refine g_Hd_to C hm (by omega) lk_Hd_19 d_Hd_become_14 ?_
  refine r_cV4v C (k_Hd_set hm hi) (by decide) (by decide) ml_Hd_22 mn_Hd_set ms_Hd_set mc_Hd_set mi_Hd_set md_Hd_set (kHd_lt hm (by omega)) (zHd hm (by omega)) rfl rfl (Nat.le_of_ble_eq_true rfl) d_Hd_become_17 ?_
  exact R d_Hd_become_20 rfl
def db1 (t : TT) (b i : Nat) : TT := fun f a => if (31 ≤ f ∧ f ≤ 34) ∧ b ≤ a ∧ a < i then t f (a + 1) else t f a
def dbF (t : TT) (b : Nat) : TT := tu (db1 t b ((t 3 0).toNat - 1)) 3 0 (t 3 0 - 1)
theorem db1_0 (t : TT) (b : Nat) : db1 t b b = t := by
  funext f a
  unfold db1
  rw [if_neg (by omega)]
theorem db1_ne {t : TT} {b i f a : Nat} (h : f < 31 ∨ 34 < f ∨ i ≤ a) : db1 t b i f a = t f a := by unfold db1; rw [if_neg (by omega)]
theorem db1_s {t : TT} {b i : Nat} (h : b ≤ i) : hdF (db1 t b i) i (t 31 (i + 1)) (t 32 (i + 1)) (t 33 (i + 1)) (t 34 (i + 1)) = db1 t b (i + 1) := by
  funext f a
  simp only [hdF, tu, db1]
  grind
theorem k_Mc_dropBooking {l : Launch} {E : Ew} {S0 : WW} {m : Nat} {t : TT} (hm : m < 2) {b : Nat} (hb : (b : Int) < t 3 0) (hB : Bd t) : Kf l y_Mc_dropBooking b_Mc_dropBooking 3 none 2 E (sm S0 m t) [rf E (kMc m), iv (b : Int)] none (sm S0 m (dbF t b)) := by
  refine KfV rfl rfl (Nat.le_of_ble_eq_true rfl) (fun g C R => ?_)
  show g (sm S0 m t) 0 [some (rf E (kMc m)), some (iv (b : Int)), none] []
  have b3 := bd3 hB 0
  have hl : ∀ (k i : Nat), b ≤ i → i ≤ ((t 3 0).toNat - 1) → ((t 3 0).toNat - 1) - i < k → g (sm S0 m (db1 t b i)) 2 [some (rf E (kMc m)), some (iv (b : Int)), some (iv (i : Int))] [] := by
    intro k
    induction k with
    | zero => intro i h0 h1 h2; omega
    | succ k ih =>
      intro i h0 h1 h2
      refine r_iload_n C d_Mc_dropBooking_2 rfl ?_
      refine r_iconst C d_Mc_dropBooking_3 ?_
      refine r_iadd C d_Mc_dropBooking_4 ?_
      refine r_aload_n C d_Mc_dropBooking_5 rfl ?_
      refine g_Mc_holdCount C hm lk_Mc_65 d_Mc_dropBooking_6 ?_
      rw [db1_ne (by omega)]
      refine r_icmp_ge (tgt := 35) C d_Mc_dropBooking_9 (by decide) (by first | assumption | exact bd_ir (by assumption) rfl | exact b2i_ir _ | exact pb_ir _ | exact ir_mk (by omega) (by omega)) (by first | assumption | exact bd_ir (by assumption) rfl | exact b2i_ir _ | exact pb_ir _ | exact ir_mk (by omega) (by omega)) (fun c9 => ?_) (fun c9 => ?_)
      · refine r_aload_n C d_Mc_dropBooking_35 rfl ?_
        refine r_dup C d_Mc_dropBooking_36 rfl ?_
        refine g_Mc_holdCount C hm lk_Mc_65 d_Mc_dropBooking_37 ?_
        rw [show i = (t 3 0).toNat - 1 by omega]
        rw [db1_ne (by omega)]
        refine r_iconst C d_Mc_dropBooking_40 ?_
        refine r_isub C d_Mc_dropBooking_41 ?_
        refine p_Mc_holdCount C hm lk_Mc_65 d_Mc_dropBooking_42 ?_
        exact R d_Mc_dropBooking_45 rfl
      · refine r_aload_n C d_Mc_dropBooking_12 rfl ?_
        refine g_Mc_holds C hm lk_Mc_31 d_Mc_dropBooking_13 ?_
        refine r_iload_n C d_Mc_dropBooking_16 rfl ?_
        refine x_Hd C hm _ rfl (by omega) d_Mc_dropBooking_17 ?_
        refine r_aload_n C d_Mc_dropBooking_18 rfl ?_
        refine g_Mc_holds C hm lk_Mc_31 d_Mc_dropBooking_19 ?_
        refine r_iload_n C d_Mc_dropBooking_22 rfl ?_
        refine r_iconst C d_Mc_dropBooking_23 ?_
        refine r_iadd C d_Mc_dropBooking_24 ?_
        refine x_Hd C hm (i + 1) (by omega) (by omega) d_Mc_dropBooking_25 ?_
        refine r_cV1v C (k_Hd_become_s hm (i := i) (by omega) (q := i + 1) (by omega)) (by decide) (by decide) ml_Mc_84 mn_Hd_become ms_Hd_become mc_Hd_become mi_Hd_become md_Hd_become (kHd_lt hm (i := i) (by omega)) (zHd hm (by omega)) rfl rfl (Nat.le_of_ble_eq_true rfl) d_Mc_dropBooking_26 ?_
        rw [db1_ne (by omega), db1_ne (by omega), db1_ne (by omega), db1_ne (by omega), db1_s h0]
        refine r_iinc_2 C d_Mc_dropBooking_29 ?_
        refine r_goto (tgt := 2) C d_Mc_dropBooking_32 (by decide) ?_
        exact ih (i + 1) (by omega) (by omega) (by omega)
  refine r_iload_n C d_Mc_dropBooking_0 rfl ?_
  refine r_istore_2 C d_Mc_dropBooking_1 ?_
  have h := hl ((t 3 0).toNat + 1) b (by omega) (by omega) (by omega)
  rw [db1_0] at h
  exact h
theorem ntF_bd {t : TT} (hB : Bd t) (u : Int) : 0 ≤ ntF t u ∧ ntF t u ≤ 2496 := by
  have b2 := bd2 hB 0
  have b3 := bd3 hB 0
  have h1 := sumN_bd (f := fun j => if u < t 29 j then t 28 j else 0) (lo := 0) (hi := 64) (n := (t 2 0).toNat) (fun i _ => by
    have := bd28 hB i
    split <;> omega)
  have h2 := sumN_bd (f := fun k => if t 33 k ≤ u ∧ u < t 34 k then t 31 k else 0) (lo := 0) (hi := 64) (n := (t 3 0).toNat) (fun i _ => by
    have := bd31 hB i
    split <;> omega)
  unfold ntF ntFj ntFh
  omega
def nfP (t : TT) (n a b : Int) (i : Nat) : Prop := n + ntF t a ≤ t 7 0 ∧ ∀ k, k < i → a < t 33 k → t 33 k < b → n + ntF t (t 33 k) ≤ t 7 0
theorem nfP_s {t : TT} {n a b : Int} {i : Nat} : nfP t n a b (i + 1) ↔ nfP t n a b i ∧ (a < t 33 i → t 33 i < b → n + ntF t (t 33 i) ≤ t 7 0) := by
  unfold nfP
  constructor
  · rintro ⟨h1, h2⟩
    exact ⟨⟨h1, fun k hk => h2 k (by omega)⟩, h2 i (by omega)⟩
  · rintro ⟨⟨h1, h2⟩, h3⟩
    refine ⟨h1, fun k hk => ?_⟩
    by_cases q : k = i
    · subst q; exact h3
    · exact h2 k (by omega)
theorem nfP_stop {t : TT} {n a b : Int} {i N : Nat} (h : pb (nfP t n a b i) = 0) (hi : i ≤ N) : pb (nfP t n a b i) = pb (nfP t n a b N) := by
  rw [h]
  refine (pb_f (fun q => pb_0.mp h ⟨q.1, fun k hk => q.2 k (by omega)⟩)).symm
theorem k_Mc_nodesFit {l : Launch} {E : Ew} {S0 : WW} {m : Nat} {t : TT} (hm : m < 2) {n a b : Int} (hn : 0 ≤ n ∧ n ≤ 1000) (ha : ir a) (hb : ir b) (hB : Bd t) : Kf l y_Mc_nodesFit b_Mc_nodesFit 6 (some .boolean) 1 E (sm S0 m t) [rf E (kMc m), iv n, iv a, iv b] (some (iv (pb (nfP t n a b (t 3 0).toNat)))) (sm S0 m t) := by
  refine KfZ rfl rfl (Nat.le_of_ble_eq_true rfl) (fun g C R => ?_)
  show g (sm S0 m t) 0 [some (rf E (kMc m)), some (iv n), some (iv a), some (iv b), none, none] []
  have b3 := bd3 hB 0
  have hnt := ntF_bd hB a
  have hl : ∀ (k i : Nat), i ≤ (t 3 0).toNat → (t 3 0).toNat - i < k → g (sm S0 m t) 24 [some (rf E (kMc m)), some (iv n), some (iv a), some (iv b), some (iv (pb (nfP t n a b i))), some (iv (i : Int))] [] := by
    intro k
    induction k with
    | zero => intro i h1 h2; omega
    | succ k ih =>
      intro i h1 h2
      refine r_iload C d_Mc_nodesFit_24 rfl ?_
      refine r_aload_n C d_Mc_nodesFit_26 rfl ?_
      refine g_Mc_holdCount C hm lk_Mc_65 d_Mc_nodesFit_27 ?_
      refine r_icmp_ge (tgt := 89) C d_Mc_nodesFit_30 (by decide) (by first | assumption | exact bd_ir (by assumption) rfl | exact b2i_ir _ | exact pb_ir _ | exact ir_mk (by omega) (by omega)) (by first | assumption | exact bd_ir (by assumption) rfl | exact b2i_ir _ | exact pb_ir _ | exact ir_mk (by omega) (by omega)) (fun c30 => ?_) (fun c30 => ?_)
      · refine r_iload C d_Mc_nodesFit_89 rfl ?_
        exact R d_Mc_nodesFit_91 (pb_01 _) (by first | (rw [show i = (t 3 0).toNat by omega]) | exact nfP_stop c35 h1) rfl
      · refine r_iload C d_Mc_nodesFit_33 rfl ?_
        refine r_if_eq (tgt := 89) C d_Mc_nodesFit_35 (by decide) (by first | assumption | exact bd_ir (by assumption) rfl | exact b2i_ir _ | exact pb_ir _ | exact ir_mk (by omega) (by omega)) (fun c35 => ?_) (fun c35 => ?_)
        · refine r_iload C d_Mc_nodesFit_89 rfl ?_
          exact R d_Mc_nodesFit_91 (pb_01 _) (by first | (rw [show i = (t 3 0).toNat by omega]) | exact nfP_stop c35 h1) rfl
        · refine r_aload_n C d_Mc_nodesFit_38 rfl ?_
          refine g_Mc_holds C hm lk_Mc_31 d_Mc_nodesFit_39 ?_
          refine r_iload C d_Mc_nodesFit_42 rfl ?_
          refine x_Hd C hm _ rfl (by omega) d_Mc_nodesFit_44 ?_
          refine r_iload_n C d_Mc_nodesFit_45 rfl ?_
          refine r_iload_n C d_Mc_nodesFit_46 rfl ?_
          refine r_cV2r C (k_Hd_beginsWithin hm (i := i) (by omega) ha hb hB) (by decide) (by decide) ml_Mc_141 mn_Hd_beginsWithin ms_Hd_beginsWithin mc_Hd_beginsWithin mi_Hd_beginsWithin md_Hd_beginsWithin (kHd_lt hm (by omega)) (zHd hm (by omega)) rfl rfl (Nat.le_of_ble_eq_true rfl) d_Mc_nodesFit_47 ?_
          refine r_if_eq (tgt := 83) C d_Mc_nodesFit_50 (by decide) (by first | assumption | exact bd_ir (by assumption) rfl | exact b2i_ir _ | exact pb_ir _ | exact ir_mk (by omega) (by omega)) (fun c50 => ?_) (fun c50 => ?_)
          · refine r_iinc_5 C d_Mc_nodesFit_83 ?_
            refine r_goto (tgt := 24) C d_Mc_nodesFit_86 (by decide) ?_
            have h := ih (i + 1) (by omega) (by omega)
            first
              | (rw [show pb (nfP t n a b (i + 1)) = pb (nfP t n a b i) from pb_c ⟨fun q => (nfP_s.mp q).1, fun q => nfP_s.mpr ⟨q, fun q1 q2 => absurd c50 (by rw [b2i, if_pos ⟨q1, q2⟩]; omega)⟩⟩] at h; exact h)
              | (rw [show pb (nfP t n a b (i + 1)) = 0 from pb_f (fun q => absurd ((nfP_s.mp q).2 q2.1 q2.2) (by omega))] at h; exact h)
              | (rw [show pb (nfP t n a b (i + 1)) = 1 from pb_t (nfP_s.mpr ⟨Classical.byContradiction (fun q => c35 (pb_f q)), fun _ _ => by omega⟩)] at h; exact h)
          · have hnt := ntF_bd hB (t 33 i)
            have q2 : a < t 33 i ∧ t 33 i < b := by
              by_cases q3 : a < t 33 i ∧ t 33 i < b
              · exact q3
              · exact absurd (show b2i (a < t 33 i ∧ t 33 i < b) = 0 by rw [b2i, if_neg q3]) c50
            refine r_iload_n C d_Mc_nodesFit_53 rfl ?_
            refine r_aload_n C d_Mc_nodesFit_54 rfl ?_
            refine r_aload_n C d_Mc_nodesFit_55 rfl ?_
            refine g_Mc_holds C hm lk_Mc_31 d_Mc_nodesFit_56 ?_
            refine r_iload C d_Mc_nodesFit_59 rfl ?_
            refine x_Hd C hm _ rfl (by omega) d_Mc_nodesFit_61 ?_
            refine g_Hd_from C hm (by omega) lk_Mc_126 d_Mc_nodesFit_62 ?_
            refine r_cV1r C (k_Mc_nodesTaken hm (u := t 33 i) (bd_ir hB rfl) hB) (by decide) (by decide) ml_Mc_137 mn_Mc_nodesTaken ms_Mc_nodesTaken mc_Mc_nodesTaken mi_Mc_nodesTaken md_Mc_nodesTaken (kMc_lt hm) (zMc hm) rfl rfl (Nat.le_of_ble_eq_true rfl) d_Mc_nodesFit_65 ?_
            refine r_iadd C d_Mc_nodesFit_68 ?_
            refine r_aload_n C d_Mc_nodesFit_69 rfl ?_
            refine g_Mc_room C hm lk_Mc_71 d_Mc_nodesFit_70 ?_
            refine r_icmp_gt (tgt := 80) C d_Mc_nodesFit_73 (by decide) (by first | assumption | exact bd_ir (by assumption) rfl | exact b2i_ir _ | exact pb_ir _ | exact ir_mk (by omega) (by omega)) (by first | assumption | exact bd_ir (by assumption) rfl | exact b2i_ir _ | exact pb_ir _ | exact ir_mk (by omega) (by omega)) (fun c73 => ?_) (fun c73 => ?_)
            · refine r_iconst C d_Mc_nodesFit_80 ?_
              refine r_istore_4 C d_Mc_nodesFit_81 ?_
              refine r_iinc_5 C d_Mc_nodesFit_83 ?_
              refine r_goto (tgt := 24) C d_Mc_nodesFit_86 (by decide) ?_
              have h := ih (i + 1) (by omega) (by omega)
              first
                | (rw [show pb (nfP t n a b (i + 1)) = pb (nfP t n a b i) from pb_c ⟨fun q => (nfP_s.mp q).1, fun q => nfP_s.mpr ⟨q, fun q1 q2 => absurd c50 (by rw [b2i, if_pos ⟨q1, q2⟩]; omega)⟩⟩] at h; exact h)
                | (rw [show pb (nfP t n a b (i + 1)) = 0 from pb_f (fun q => absurd ((nfP_s.mp q).2 q2.1 q2.2) (by omega))] at h; exact h)
                | (rw [show pb (nfP t n a b (i + 1)) = 1 from pb_t (nfP_s.mpr ⟨Classical.byContradiction (fun q => c35 (pb_f q)), fun _ _ => by omega⟩)] at h; exact h)
            · refine r_iconst C d_Mc_nodesFit_76 ?_
              refine r_goto (tgt := 81) C d_Mc_nodesFit_77 (by decide) ?_
              refine r_istore_4 C d_Mc_nodesFit_81 ?_
              refine r_iinc_5 C d_Mc_nodesFit_83 ?_
              refine r_goto (tgt := 24) C d_Mc_nodesFit_86 (by decide) ?_
              have h := ih (i + 1) (by omega) (by omega)
              first
                | (rw [show pb (nfP t n a b (i + 1)) = pb (nfP t n a b i) from pb_c ⟨fun q => (nfP_s.mp q).1, fun q => nfP_s.mpr ⟨q, fun q1 q2 => absurd c50 (by rw [b2i, if_pos ⟨q1, q2⟩]; omega)⟩⟩] at h; exact h)
                | (rw [show pb (nfP t n a b (i + 1)) = 0 from pb_f (fun q => absurd ((nfP_s.mp q).2 q2.1 q2.2) (by omega))] at h; exact h)
                | (rw [show pb (nfP t n a b (i + 1)) = 1 from pb_t (nfP_s.mpr ⟨Classical.byContradiction (fun q => c35 (pb_f q)), fun _ _ => by omega⟩)] at h; exact h)
  refine r_iload_n C d_Mc_nodesFit_0 rfl ?_
  refine r_aload_n C d_Mc_nodesFit_1 rfl ?_
  refine r_iload_n C d_Mc_nodesFit_2 rfl ?_
  refine r_cV1r C (k_Mc_nodesTaken hm ha hB) (by decide) (by decide) ml_Mc_137 mn_Mc_nodesTaken ms_Mc_nodesTaken mc_Mc_nodesTaken mi_Mc_nodesTaken md_Mc_nodesTaken (kMc_lt hm) (zMc hm) rfl rfl (Nat.le_of_ble_eq_true rfl) d_Mc_nodesFit_3 ?_
  refine r_iadd C d_Mc_nodesFit_6 ?_
  refine r_aload_n C d_Mc_nodesFit_7 rfl ?_
  refine g_Mc_room C hm lk_Mc_71 d_Mc_nodesFit_8 ?_
  refine r_icmp_gt (tgt := 18) C d_Mc_nodesFit_11 (by decide) (by first | assumption | exact bd_ir (by assumption) rfl | exact b2i_ir _ | exact pb_ir _ | exact ir_mk (by omega) (by omega)) (by first | assumption | exact bd_ir (by assumption) rfl | exact b2i_ir _ | exact pb_ir _ | exact ir_mk (by omega) (by omega)) (fun c11 => ?_) (fun c11 => ?_)
  · refine r_iconst C d_Mc_nodesFit_18 ?_
    refine r_istore_4 C d_Mc_nodesFit_19 ?_
    refine r_iconst C d_Mc_nodesFit_21 ?_
    refine r_istore_5 C d_Mc_nodesFit_22 ?_
    have h := hl ((t 3 0).toNat + 1) 0 (by omega) (by omega)
    first
      | (rw [show pb (nfP t n a b 0) = 1 from pb_t ⟨by omega, fun k hk => by omega⟩] at h; exact h)
      | (rw [show pb (nfP t n a b 0) = 0 from pb_f (fun q => absurd q.1 (by omega))] at h; exact h)
  · refine r_iconst C d_Mc_nodesFit_14 ?_
    refine r_goto (tgt := 19) C d_Mc_nodesFit_15 (by decide) ?_
    refine r_istore_4 C d_Mc_nodesFit_19 ?_
    refine r_iconst C d_Mc_nodesFit_21 ?_
    refine r_istore_5 C d_Mc_nodesFit_22 ?_
    have h := hl ((t 3 0).toNat + 1) 0 (by omega) (by omega)
    first
      | (rw [show pb (nfP t n a b 0) = 1 from pb_t ⟨by omega, fun k hk => by omega⟩] at h; exact h)
      | (rw [show pb (nfP t n a b 0) = 0 from pb_f (fun q => absurd q.1 (by omega))] at h; exact h)
theorem ltF_bd {t : TT} (hB : Bd t) (u : Int) : 0 ≤ ltF t u ∧ ltF t u ≤ 3900 := by
  have b2 := bd2 hB 0
  have b3 := bd3 hB 0
  have h1 := sumN_bd (f := fun j => if u < t 29 j then t 19 j else 0) (lo := 0) (hi := 100) (n := (t 2 0).toNat) (fun i _ => by
    have := bd19 hB i
    split <;> omega)
  have h2 := sumN_bd (f := fun k => if t 33 k ≤ u ∧ u < t 34 k then t 32 k else 0) (lo := 0) (hi := 100) (n := (t 3 0).toNat) (fun i _ => by
    have := bd32 hB i
    split <;> omega)
  unfold ltF ltFj ltFh
  omega
def lfP (t : TT) (n a b : Int) (i : Nat) : Prop := n + ltF t a ≤ t 6 0 ∧ ∀ k, k < i → a < t 33 k → t 33 k < b → n + ltF t (t 33 k) ≤ t 6 0
theorem lfP_s {t : TT} {n a b : Int} {i : Nat} : lfP t n a b (i + 1) ↔ lfP t n a b i ∧ (a < t 33 i → t 33 i < b → n + ltF t (t 33 i) ≤ t 6 0) := by
  unfold lfP
  constructor
  · rintro ⟨h1, h2⟩
    exact ⟨⟨h1, fun k hk => h2 k (by omega)⟩, h2 i (by omega)⟩
  · rintro ⟨⟨h1, h2⟩, h3⟩
    refine ⟨h1, fun k hk => ?_⟩
    by_cases q : k = i
    · subst q; exact h3
    · exact h2 k (by omega)
theorem lfP_stop {t : TT} {n a b : Int} {i N : Nat} (h : pb (lfP t n a b i) = 0) (hi : i ≤ N) : pb (lfP t n a b i) = pb (lfP t n a b N) := by
  rw [h]
  refine (pb_f (fun q => pb_0.mp h ⟨q.1, fun k hk => q.2 k (by omega)⟩)).symm
theorem k_Mc_licencesFit {l : Launch} {E : Ew} {S0 : WW} {m : Nat} {t : TT} (hm : m < 2) {n a b : Int} (hn : 0 ≤ n ∧ n ≤ 1000) (ha : ir a) (hb : ir b) (hB : Bd t) : Kf l y_Mc_licencesFit b_Mc_licencesFit 6 (some .boolean) 1 E (sm S0 m t) [rf E (kMc m), iv n, iv a, iv b] (some (iv (pb (lfP t n a b (t 3 0).toNat)))) (sm S0 m t) := by
  refine KfZ rfl rfl (Nat.le_of_ble_eq_true rfl) (fun g C R => ?_)
  show g (sm S0 m t) 0 [some (rf E (kMc m)), some (iv n), some (iv a), some (iv b), none, none] []
  have b3 := bd3 hB 0
  have hnt := ltF_bd hB a
  have hl : ∀ (k i : Nat), i ≤ (t 3 0).toNat → (t 3 0).toNat - i < k → g (sm S0 m t) 24 [some (rf E (kMc m)), some (iv n), some (iv a), some (iv b), some (iv (pb (lfP t n a b i))), some (iv (i : Int))] [] := by
    intro k
    induction k with
    | zero => intro i h1 h2; omega
    | succ k ih =>
      intro i h1 h2
      refine r_iload C d_Mc_licencesFit_24 rfl ?_
      refine r_aload_n C d_Mc_licencesFit_26 rfl ?_
      refine g_Mc_holdCount C hm lk_Mc_65 d_Mc_licencesFit_27 ?_
      refine r_icmp_ge (tgt := 89) C d_Mc_licencesFit_30 (by decide) (by first | assumption | exact bd_ir (by assumption) rfl | exact b2i_ir _ | exact pb_ir _ | exact ir_mk (by omega) (by omega)) (by first | assumption | exact bd_ir (by assumption) rfl | exact b2i_ir _ | exact pb_ir _ | exact ir_mk (by omega) (by omega)) (fun c30 => ?_) (fun c30 => ?_)
      · refine r_iload C d_Mc_licencesFit_89 rfl ?_
        exact R d_Mc_licencesFit_91 (pb_01 _) (by first | (rw [show i = (t 3 0).toNat by omega]) | exact lfP_stop c35 h1) rfl
      · refine r_iload C d_Mc_licencesFit_33 rfl ?_
        refine r_if_eq (tgt := 89) C d_Mc_licencesFit_35 (by decide) (by first | assumption | exact bd_ir (by assumption) rfl | exact b2i_ir _ | exact pb_ir _ | exact ir_mk (by omega) (by omega)) (fun c35 => ?_) (fun c35 => ?_)
        · refine r_iload C d_Mc_licencesFit_89 rfl ?_
          exact R d_Mc_licencesFit_91 (pb_01 _) (by first | (rw [show i = (t 3 0).toNat by omega]) | exact lfP_stop c35 h1) rfl
        · refine r_aload_n C d_Mc_licencesFit_38 rfl ?_
          refine g_Mc_holds C hm lk_Mc_31 d_Mc_licencesFit_39 ?_
          refine r_iload C d_Mc_licencesFit_42 rfl ?_
          refine x_Hd C hm _ rfl (by omega) d_Mc_licencesFit_44 ?_
          refine r_iload_n C d_Mc_licencesFit_45 rfl ?_
          refine r_iload_n C d_Mc_licencesFit_46 rfl ?_
          refine r_cV2r C (k_Hd_beginsWithin hm (i := i) (by omega) ha hb hB) (by decide) (by decide) ml_Mc_141 mn_Hd_beginsWithin ms_Hd_beginsWithin mc_Hd_beginsWithin mi_Hd_beginsWithin md_Hd_beginsWithin (kHd_lt hm (by omega)) (zHd hm (by omega)) rfl rfl (Nat.le_of_ble_eq_true rfl) d_Mc_licencesFit_47 ?_
          refine r_if_eq (tgt := 83) C d_Mc_licencesFit_50 (by decide) (by first | assumption | exact bd_ir (by assumption) rfl | exact b2i_ir _ | exact pb_ir _ | exact ir_mk (by omega) (by omega)) (fun c50 => ?_) (fun c50 => ?_)
          · refine r_iinc_5 C d_Mc_licencesFit_83 ?_
            refine r_goto (tgt := 24) C d_Mc_licencesFit_86 (by decide) ?_
            have h := ih (i + 1) (by omega) (by omega)
            first
              | (rw [show pb (lfP t n a b (i + 1)) = pb (lfP t n a b i) from pb_c ⟨fun q => (lfP_s.mp q).1, fun q => lfP_s.mpr ⟨q, fun q1 q2 => absurd c50 (by rw [b2i, if_pos ⟨q1, q2⟩]; omega)⟩⟩] at h; exact h)
              | (rw [show pb (lfP t n a b (i + 1)) = 0 from pb_f (fun q => absurd ((lfP_s.mp q).2 q2.1 q2.2) (by omega))] at h; exact h)
              | (rw [show pb (lfP t n a b (i + 1)) = 1 from pb_t (lfP_s.mpr ⟨Classical.byContradiction (fun q => c35 (pb_f q)), fun _ _ => by omega⟩)] at h; exact h)
          · have hnt := ltF_bd hB (t 33 i)
            have q2 : a < t 33 i ∧ t 33 i < b := by
              by_cases q3 : a < t 33 i ∧ t 33 i < b
              · exact q3
              · exact absurd (show b2i (a < t 33 i ∧ t 33 i < b) = 0 by rw [b2i, if_neg q3]) c50
            refine r_iload_n C d_Mc_licencesFit_53 rfl ?_
            refine r_aload_n C d_Mc_licencesFit_54 rfl ?_
            refine r_aload_n C d_Mc_licencesFit_55 rfl ?_
            refine g_Mc_holds C hm lk_Mc_31 d_Mc_licencesFit_56 ?_
            refine r_iload C d_Mc_licencesFit_59 rfl ?_
            refine x_Hd C hm _ rfl (by omega) d_Mc_licencesFit_61 ?_
            refine g_Hd_from C hm (by omega) lk_Mc_126 d_Mc_licencesFit_62 ?_
            refine r_cV1r C (k_Mc_licencesTaken hm (u := t 33 i) (bd_ir hB rfl) hB) (by decide) (by decide) ml_Mc_145 mn_Mc_licencesTaken ms_Mc_licencesTaken mc_Mc_licencesTaken mi_Mc_licencesTaken md_Mc_licencesTaken (kMc_lt hm) (zMc hm) rfl rfl (Nat.le_of_ble_eq_true rfl) d_Mc_licencesFit_65 ?_
            refine r_iadd C d_Mc_licencesFit_68 ?_
            refine r_aload_n C d_Mc_licencesFit_69 rfl ?_
            refine g_Mc_licencesInAll C hm lk_Mc_39 d_Mc_licencesFit_70 ?_
            refine r_icmp_gt (tgt := 80) C d_Mc_licencesFit_73 (by decide) (by first | assumption | exact bd_ir (by assumption) rfl | exact b2i_ir _ | exact pb_ir _ | exact ir_mk (by omega) (by omega)) (by first | assumption | exact bd_ir (by assumption) rfl | exact b2i_ir _ | exact pb_ir _ | exact ir_mk (by omega) (by omega)) (fun c73 => ?_) (fun c73 => ?_)
            · refine r_iconst C d_Mc_licencesFit_80 ?_
              refine r_istore_4 C d_Mc_licencesFit_81 ?_
              refine r_iinc_5 C d_Mc_licencesFit_83 ?_
              refine r_goto (tgt := 24) C d_Mc_licencesFit_86 (by decide) ?_
              have h := ih (i + 1) (by omega) (by omega)
              first
                | (rw [show pb (lfP t n a b (i + 1)) = pb (lfP t n a b i) from pb_c ⟨fun q => (lfP_s.mp q).1, fun q => lfP_s.mpr ⟨q, fun q1 q2 => absurd c50 (by rw [b2i, if_pos ⟨q1, q2⟩]; omega)⟩⟩] at h; exact h)
                | (rw [show pb (lfP t n a b (i + 1)) = 0 from pb_f (fun q => absurd ((lfP_s.mp q).2 q2.1 q2.2) (by omega))] at h; exact h)
                | (rw [show pb (lfP t n a b (i + 1)) = 1 from pb_t (lfP_s.mpr ⟨Classical.byContradiction (fun q => c35 (pb_f q)), fun _ _ => by omega⟩)] at h; exact h)
            · refine r_iconst C d_Mc_licencesFit_76 ?_
              refine r_goto (tgt := 81) C d_Mc_licencesFit_77 (by decide) ?_
              refine r_istore_4 C d_Mc_licencesFit_81 ?_
              refine r_iinc_5 C d_Mc_licencesFit_83 ?_
              refine r_goto (tgt := 24) C d_Mc_licencesFit_86 (by decide) ?_
              have h := ih (i + 1) (by omega) (by omega)
              first
                | (rw [show pb (lfP t n a b (i + 1)) = pb (lfP t n a b i) from pb_c ⟨fun q => (lfP_s.mp q).1, fun q => lfP_s.mpr ⟨q, fun q1 q2 => absurd c50 (by rw [b2i, if_pos ⟨q1, q2⟩]; omega)⟩⟩] at h; exact h)
                | (rw [show pb (lfP t n a b (i + 1)) = 0 from pb_f (fun q => absurd ((lfP_s.mp q).2 q2.1 q2.2) (by omega))] at h; exact h)
                | (rw [show pb (lfP t n a b (i + 1)) = 1 from pb_t (lfP_s.mpr ⟨Classical.byContradiction (fun q => c35 (pb_f q)), fun _ _ => by omega⟩)] at h; exact h)
  refine r_iload_n C d_Mc_licencesFit_0 rfl ?_
  refine r_aload_n C d_Mc_licencesFit_1 rfl ?_
  refine r_iload_n C d_Mc_licencesFit_2 rfl ?_
  refine r_cV1r C (k_Mc_licencesTaken hm ha hB) (by decide) (by decide) ml_Mc_145 mn_Mc_licencesTaken ms_Mc_licencesTaken mc_Mc_licencesTaken mi_Mc_licencesTaken md_Mc_licencesTaken (kMc_lt hm) (zMc hm) rfl rfl (Nat.le_of_ble_eq_true rfl) d_Mc_licencesFit_3 ?_
  refine r_iadd C d_Mc_licencesFit_6 ?_
  refine r_aload_n C d_Mc_licencesFit_7 rfl ?_
  refine g_Mc_licencesInAll C hm lk_Mc_39 d_Mc_licencesFit_8 ?_
  refine r_icmp_gt (tgt := 18) C d_Mc_licencesFit_11 (by decide) (by first | assumption | exact bd_ir (by assumption) rfl | exact b2i_ir _ | exact pb_ir _ | exact ir_mk (by omega) (by omega)) (by first | assumption | exact bd_ir (by assumption) rfl | exact b2i_ir _ | exact pb_ir _ | exact ir_mk (by omega) (by omega)) (fun c11 => ?_) (fun c11 => ?_)
  · refine r_iconst C d_Mc_licencesFit_18 ?_
    refine r_istore_4 C d_Mc_licencesFit_19 ?_
    refine r_iconst C d_Mc_licencesFit_21 ?_
    refine r_istore_5 C d_Mc_licencesFit_22 ?_
    have h := hl ((t 3 0).toNat + 1) 0 (by omega) (by omega)
    first
      | (rw [show pb (lfP t n a b 0) = 1 from pb_t ⟨by omega, fun k hk => by omega⟩] at h; exact h)
      | (rw [show pb (lfP t n a b 0) = 0 from pb_f (fun q => absurd q.1 (by omega))] at h; exact h)
  · refine r_iconst C d_Mc_licencesFit_14 ?_
    refine r_goto (tgt := 19) C d_Mc_licencesFit_15 (by decide) ?_
    refine r_istore_4 C d_Mc_licencesFit_19 ?_
    refine r_iconst C d_Mc_licencesFit_21 ?_
    refine r_istore_5 C d_Mc_licencesFit_22 ?_
    have h := hl ((t 3 0).toNat + 1) 0 (by omega) (by omega)
    first
      | (rw [show pb (lfP t n a b 0) = 1 from pb_t ⟨by omega, fun k hk => by omega⟩] at h; exact h)
      | (rw [show pb (lfP t n a b 0) = 0 from pb_f (fun q => absurd q.1 (by omega))] at h; exact h)
def ftP (t : TT) (j : Nat) (s : Int) : Prop := nfP t (t 18 j) s (s + (t 20 j - t 27 j)) (t 3 0).toNat ∧ lfP t (t 19 j) s (s + (t 20 j - t 27 j)) (t 3 0).toNat
theorem k_Mc_fits {l : Launch} {E : Ew} {S0 : WW} {m : Nat} {t : TT} (hm : m < 2) {j : Nat} (hj : j < 30) {s : Int} (hs : 0 ≤ s ∧ s ≤ 10000) (hB : Bd t) : Kf l y_Mc_fits b_Mc_fits 4 (some .boolean) 2 E (sm S0 m t) [rf E (kMc m), rf E (kJb m j), iv s] (some (iv (pb (ftP t j s)))) (sm S0 m t) := by
  refine KfZ rfl rfl (Nat.le_of_ble_eq_true rfl) (fun g C R => ?_)
  show g (sm S0 m t) 0 [some (rf E (kMc m)), some (rf E (kJb m j)), some (iv s), none] []
  have b18 := bd18 hB j
  have b19 := bd19 hB j
  have b20 := bd20 hB j
  have b27 := bd27 hB j
  refine r_iload_n C d_Mc_fits_0 rfl ?_
  refine r_aload_n C d_Mc_fits_1 rfl ?_
  refine r_cV0r C (k_Jb_left hm hj hB) (by decide) (by decide) ml_Mc_148 mn_Jb_left ms_Jb_left mc_Jb_left mi_Jb_left md_Jb_left (kJb_lt hm (by omega)) (zJb hm (by omega)) rfl rfl (Nat.le_of_ble_eq_true rfl) d_Mc_fits_2 ?_
  refine r_iadd C d_Mc_fits_5 ?_
  refine r_istore_3 C d_Mc_fits_6 ?_
  refine r_aload_n C d_Mc_fits_7 rfl ?_
  refine r_aload_n C d_Mc_fits_8 rfl ?_
  refine g_Jb_nodes C hm (by omega) lk_Mc_152 d_Mc_fits_9 ?_
  refine r_iload_n C d_Mc_fits_12 rfl ?_
  refine r_iload_n C d_Mc_fits_13 rfl ?_
  refine r_cV3r C (k_Mc_nodesFit hm (by omega) (ir_mk (by omega) (by omega)) (ir_mk (by omega) (by omega)) hB) (by decide) (by decide) ml_Mc_153 mn_Mc_nodesFit ms_Mc_nodesFit mc_Mc_nodesFit mi_Mc_nodesFit md_Mc_nodesFit (kMc_lt hm) (zMc hm) rfl rfl (Nat.le_of_ble_eq_true rfl) d_Mc_fits_14 ?_
  refine r_if_eq (tgt := 37) C d_Mc_fits_17 (by decide) (by first | assumption | exact bd_ir (by assumption) rfl | exact b2i_ir _ | exact pb_ir _ | exact ir_mk (by omega) (by omega)) (fun c17 => ?_) (fun c17 => ?_)
  · refine r_iconst C d_Mc_fits_37 ?_
    exact R d_Mc_fits_38 (by omega) (by first | exact (pb_f (fun q => pb_0.mp c17 q.1)).symm | exact (pb_f (fun q => pb_0.mp c30 q.2)).symm | exact (pb_t ⟨Classical.byContradiction (fun q => c17 (pb_f q)), Classical.byContradiction (fun q => c30 (pb_f q))⟩).symm) rfl
  · refine r_aload_n C d_Mc_fits_20 rfl ?_
    refine r_aload_n C d_Mc_fits_21 rfl ?_
    refine g_Jb_licences C hm (by omega) lk_Mc_133 d_Mc_fits_22 ?_
    refine r_iload_n C d_Mc_fits_25 rfl ?_
    refine r_iload_n C d_Mc_fits_26 rfl ?_
    refine r_cV3r C (k_Mc_licencesFit hm (by omega) (ir_mk (by omega) (by omega)) (ir_mk (by omega) (by omega)) hB) (by decide) (by decide) ml_Mc_157 mn_Mc_licencesFit ms_Mc_licencesFit mc_Mc_licencesFit mi_Mc_licencesFit md_Mc_licencesFit (kMc_lt hm) (zMc hm) rfl rfl (Nat.le_of_ble_eq_true rfl) d_Mc_fits_27 ?_
    refine r_if_eq (tgt := 37) C d_Mc_fits_30 (by decide) (by first | assumption | exact bd_ir (by assumption) rfl | exact b2i_ir _ | exact pb_ir _ | exact ir_mk (by omega) (by omega)) (fun c30 => ?_) (fun c30 => ?_)
    · refine r_iconst C d_Mc_fits_37 ?_
      exact R d_Mc_fits_38 (by omega) (by first | exact (pb_f (fun q => pb_0.mp c17 q.1)).symm | exact (pb_f (fun q => pb_0.mp c30 q.2)).symm | exact (pb_t ⟨Classical.byContradiction (fun q => c17 (pb_f q)), Classical.byContradiction (fun q => c30 (pb_f q))⟩).symm) rfl
    · refine r_iconst C d_Mc_fits_33 ?_
      refine r_goto (tgt := 38) C d_Mc_fits_34 (by decide) ?_
      exact R d_Mc_fits_38 (by omega) (by first | exact (pb_f (fun q => pb_0.mp c17 q.1)).symm | exact (pb_f (fun q => pb_0.mp c30 q.2)).symm | exact (pb_t ⟨Classical.byContradiction (fun q => c17 (pb_f q)), Classical.byContradiction (fun q => c30 (pb_f q))⟩).symm) rfl
def mbP (t : TT) (j : Nat) : Prop := t 24 j = 0 ∧ (¬ (0 ≤ t 23 j ∧ t 23 j < t 2 0) ∨ t 24 (t 23 j).toNat = 2)
theorem k_Mc_mayBegin {l : Launch} {E : Ew} {S0 : WW} {m : Nat} {t : TT} (hm : m < 2) {j : Nat} (hj : j < 30) (hB : Bd t) : Kf l y_Mc_mayBegin b_Mc_mayBegin 2 (some .boolean) 1 E (sm S0 m t) [rf E (kMc m), rf E (kJb m j)] (some (iv (pb (mbP t j)))) (sm S0 m t) := by
  refine KfZ rfl rfl (Nat.le_of_ble_eq_true rfl) (fun g C R => ?_)
  show g (sm S0 m t) 0 [some (rf E (kMc m)), some (rf E (kJb m j))] []
  have b2 := bd2 hB 0
  refine r_aload_n C d_Mc_mayBegin_0 rfl ?_
  refine g_Jb_state C hm (by omega) lk_Mc_99 d_Mc_mayBegin_1 ?_
  refine r_if_eq (tgt := 9) C d_Mc_mayBegin_4 (by decide) (by first | assumption | exact bd_ir (by assumption) rfl | exact b2i_ir _ | exact pb_ir _ | exact ir_mk (by omega) (by omega)) (fun c4 => ?_) (fun c4 => ?_)
  · refine r_aload_n C d_Mc_mayBegin_9 rfl ?_
    refine r_aload_n C d_Mc_mayBegin_10 rfl ?_
    refine g_Jb_ahead C hm (by omega) lk_Mc_183 d_Mc_mayBegin_11 ?_
    refine r_cV1r C (k_Mc_hasJob hm (bd_ir hB rfl) hB) (by decide) (by decide) ml_Mc_186 mn_Mc_hasJob ms_Mc_hasJob mc_Mc_hasJob mi_Mc_hasJob md_Mc_hasJob (kMc_lt hm) (zMc hm) rfl rfl (Nat.le_of_ble_eq_true rfl) d_Mc_mayBegin_14 ?_
    refine r_if_eq (tgt := 36) C d_Mc_mayBegin_17 (by decide) (by first | assumption | exact bd_ir (by assumption) rfl | exact b2i_ir _ | exact pb_ir _ | exact ir_mk (by omega) (by omega)) (fun c17 => ?_) (fun c17 => ?_)
    · refine r_iconst C d_Mc_mayBegin_36 ?_
      refine r_goto (tgt := 41) C d_Mc_mayBegin_37 (by decide) ?_
      exact R d_Mc_mayBegin_41 (by omega) (by first | exact (pb_f (fun q => by have := q.1; omega)).symm | exact (pb_t ⟨by omega, Or.inl (fun q => absurd c17 (by rw [b2i, if_pos q]; omega))⟩).symm | exact (pb_t ⟨by omega, Or.inr (by omega)⟩).symm | exact (pb_f (fun q => by rcases q.2 with q2 | q2; exact q2 hq; omega)).symm) rfl
    · have hq : 0 ≤ t 23 j ∧ t 23 j < t 2 0 := by
        by_cases q : 0 ≤ t 23 j ∧ t 23 j < t 2 0
        · exact q
        · exact absurd (show b2i _ = 0 by rw [b2i, if_neg q]) c17
      refine r_aload_n C d_Mc_mayBegin_20 rfl ?_
      refine g_Mc_jobs C hm lk_Mc_25 d_Mc_mayBegin_21 ?_
      refine r_aload_n C d_Mc_mayBegin_24 rfl ?_
      refine g_Jb_ahead C hm (by omega) lk_Mc_183 d_Mc_mayBegin_25 ?_
      refine x_Jb C hm (t 23 j).toNat (by omega) (by omega) d_Mc_mayBegin_28 ?_
      refine g_Jb_state C hm (by omega) lk_Mc_99 d_Mc_mayBegin_29 ?_
      refine r_iconst C d_Mc_mayBegin_32 ?_
      refine r_icmp_ne (tgt := 40) C d_Mc_mayBegin_33 (by decide) (by first | assumption | exact bd_ir (by assumption) rfl | exact b2i_ir _ | exact pb_ir _ | exact ir_mk (by omega) (by omega)) (by first | assumption | exact bd_ir (by assumption) rfl | exact b2i_ir _ | exact pb_ir _ | exact ir_mk (by omega) (by omega)) (fun c33 => ?_) (fun c33 => ?_)
      · refine r_iconst C d_Mc_mayBegin_40 ?_
        exact R d_Mc_mayBegin_41 (by omega) (by first | exact (pb_f (fun q => by have := q.1; omega)).symm | exact (pb_t ⟨by omega, Or.inl (fun q => absurd c17 (by rw [b2i, if_pos q]; omega))⟩).symm | exact (pb_t ⟨by omega, Or.inr (by omega)⟩).symm | exact (pb_f (fun q => by rcases q.2 with q2 | q2; exact q2 hq; omega)).symm) rfl
      · refine r_iconst C d_Mc_mayBegin_36 ?_
        refine r_goto (tgt := 41) C d_Mc_mayBegin_37 (by decide) ?_
        exact R d_Mc_mayBegin_41 (by omega) (by first | exact (pb_f (fun q => by have := q.1; omega)).symm | exact (pb_t ⟨by omega, Or.inl (fun q => absurd c17 (by rw [b2i, if_pos q]; omega))⟩).symm | exact (pb_t ⟨by omega, Or.inr (by omega)⟩).symm | exact (pb_f (fun q => by rcases q.2 with q2 | q2; exact q2 hq; omega)).symm) rfl
  · refine r_iconst C d_Mc_mayBegin_7 ?_
    exact R d_Mc_mayBegin_8 (by omega) (by first | exact (pb_f (fun q => by have := q.1; omega)).symm | exact (pb_t ⟨by omega, Or.inl (fun q => absurd c17 (by rw [b2i, if_pos q]; omega))⟩).symm | exact (pb_t ⟨by omega, Or.inr (by omega)⟩).symm | exact (pb_f (fun q => by rcases q.2 with q2 | q2; exact q2 hq; omega)).symm) rfl
def hv1 (t : TT) (n : Nat) : TT := fun f a => if f = 16 ∧ a < n then (wr (t 16 a)).tdiv 2 else t f a
def hvF (t : TT) : TT := hv1 t (t 1 0).toNat
theorem hv1_0 (t : TT) : hv1 t 0 = t := by
  funext f a
  simp [hv1]
theorem hv1_s (t : TT) (n : Nat) : tu (hv1 t n) 16 n ((wr (t 16 n)).tdiv 2) = hv1 t (n + 1) := by
  funext f a
  simp only [tu, hv1]
  grind
theorem hv1_ne {t : TT} {n f a : Nat} (h : f ≠ 16 ∨ n ≤ a) : hv1 t n f a = t f a := by unfold hv1; rw [if_neg (by omega)]
theorem k_Mc_halveUse {l : Launch} {E : Ew} {S0 : WW} {m : Nat} {t : TT} (hm : m < 2) (hB : Bd t) : Kf l y_Mc_halveUse b_Mc_halveUse 2 none 0 E (sm S0 m t) [rf E (kMc m)] none (sm S0 m (hvF t)) := by
  refine KfV rfl rfl (Nat.le_of_ble_eq_true rfl) (fun g C R => ?_)
  show g (sm S0 m t) 0 [some (rf E (kMc m)), none] []
  have b1 := bd1 hB 0
  have hl : ∀ (k i : Nat), i ≤ (t 1 0).toNat → (t 1 0).toNat - i < k → g (sm S0 m (hv1 t i)) 2 [some (rf E (kMc m)), some (iv (i : Int))] [] := by
    intro k
    induction k with
    | zero => intro i h1 h2; omega
    | succ k ih =>
      intro i h1 h2
      refine r_iload_n C d_Mc_halveUse_2 rfl ?_
      refine r_aload_n C d_Mc_halveUse_3 rfl ?_
      refine g_Mc_accountCount C hm lk_Mc_59 d_Mc_halveUse_4 ?_
      rw [hv1_ne (by omega)]
      refine r_icmp_ge (tgt := 31) C d_Mc_halveUse_7 (by decide) (by first | assumption | exact bd_ir (by assumption) rfl | exact b2i_ir _ | exact pb_ir _ | exact ir_mk (by omega) (by omega)) (by first | assumption | exact bd_ir (by assumption) rfl | exact b2i_ir _ | exact pb_ir _ | exact ir_mk (by omega) (by omega)) (fun c7 => ?_) (fun c7 => ?_)
      · exact R d_Mc_halveUse_31 (by rw [show i = (t 1 0).toNat by omega]; rfl)
      · refine r_aload_n C d_Mc_halveUse_10 rfl ?_
        refine g_Mc_accounts C hm lk_Mc_19 d_Mc_halveUse_11 ?_
        refine r_iload_n C d_Mc_halveUse_14 rfl ?_
        refine x_Ac C hm _ rfl (by omega) d_Mc_halveUse_15 ?_
        refine r_dup C d_Mc_halveUse_16 rfl ?_
        refine g_Ac_use C hm (by omega) lk_Mc_242 d_Mc_halveUse_17 ?_
        rw [hv1_ne (by omega)]
        refine r_iconst C d_Mc_halveUse_20 ?_
        refine r_idiv2 C d_Mc_halveUse_21  ?_
        refine p_Ac_use C hm (by omega) lk_Mc_242 d_Mc_halveUse_22 ?_
        rw [hv1_s]
        refine r_iinc_1 C d_Mc_halveUse_25 ?_
        refine r_goto (tgt := 2) C d_Mc_halveUse_28 (by decide) ?_
        exact ih (i + 1) (by omega) (by omega)
  refine r_iconst C d_Mc_halveUse_0 ?_
  refine r_istore_1 C d_Mc_halveUse_1 ?_
  have h := hl ((t 1 0).toNat + 1) 0 (by omega) (by omega)
  rw [hv1_0] at h
  exact h
def neJ (t : TT) (a : Int) : Nat → Int
  | 0 => -1
  | i + 1 => nearF (neJ t a i) (t 29 i) a
def neH (t : TT) (a : Int) : Nat → Int
  | 0 => neJ t a (t 2 0).toNat
  | i + 1 => nearF (neH t a i) (t 34 i) a
def neF (t : TT) (a : Int) : Int := neH t a (t 3 0).toNat
theorem neJ_bd {t : TT} (hB : Bd t) (a : Int) : ∀ i, -1 ≤ neJ t a i ∧ neJ t a i ≤ 3100 := by
  intro i
  induction i with
  | zero => unfold neJ; omega
  | succ i ih => have := bd29 hB i; unfold neJ nearF; (repeat' split) <;> omega
theorem neH_bd {t : TT} (hB : Bd t) (a : Int) : ∀ i, -1 ≤ neH t a i ∧ neH t a i ≤ 3100 := by
  intro i
  induction i with
  | zero => unfold neH; exact neJ_bd hB a _
  | succ i ih => have := bd34 hB i; unfold neH nearF; (repeat' split) <;> omega
theorem k_Mc_nextEnd {l : Launch} {E : Ew} {S0 : WW} {m : Nat} {t : TT} (hm : m < 2) {a : Int} (ha : ir a) (hB : Bd t) : Kf l y_Mc_nextEnd b_Mc_nextEnd 4 (some .int) 2 E (sm S0 m t) [rf E (kMc m), iv a] (some (iv (neF t a))) (sm S0 m t) := by
  refine KfI rfl rfl (Nat.le_of_ble_eq_true rfl) (fun g C R => ?_)
  show g (sm S0 m t) 0 [some (rf E (kMc m)), some (iv a), none, none] []
  have b2 := bd2 hB 0
  have b3 := bd3 hB 0
  have hl2 : ∀ (k i : Nat), i ≤ (t 3 0).toNat → (t 3 0).toNat - i < k → g (sm S0 m t) 35 [some (rf E (kMc m)), some (iv a), some (iv (neH t a i)), some (iv (i : Int))] [] := by
    intro k
    induction k with
    | zero => intro i h1 h2; omega
    | succ k ih =>
      intro i h1 h2
      refine r_iload_n C d_Mc_nextEnd_35 rfl ?_
      refine r_aload_n C d_Mc_nextEnd_36 rfl ?_
      refine g_Mc_holdCount C hm lk_Mc_65 d_Mc_nextEnd_37 ?_
      refine r_icmp_ge (tgt := 64) C d_Mc_nextEnd_40 (by decide) (by first | assumption | exact bd_ir (by assumption) rfl | exact b2i_ir _ | exact pb_ir _ | exact ir_mk (by omega) (by omega)) (by first | assumption | exact bd_ir (by assumption) rfl | exact b2i_ir _ | exact pb_ir _ | exact ir_mk (by omega) (by omega)) (fun c40 => ?_) (fun c40 => ?_)
      · refine r_iload_n C d_Mc_nextEnd_64 rfl ?_
        exact R d_Mc_nextEnd_65 (by rw [show i = (t 3 0).toNat by omega]; rfl) rfl
      · have hne := neH_bd hB a i
        refine r_iload_n C d_Mc_nextEnd_43 rfl ?_
        refine r_aload_n C d_Mc_nextEnd_44 rfl ?_
        refine g_Mc_holds C hm lk_Mc_31 d_Mc_nextEnd_45 ?_
        refine r_iload_n C d_Mc_nextEnd_48 rfl ?_
        refine x_Hd C hm _ rfl (by omega) d_Mc_nextEnd_49 ?_
        refine g_Hd_to C hm (by omega) lk_Mc_129 d_Mc_nextEnd_50 ?_
        refine r_iload_n C d_Mc_nextEnd_53 rfl ?_
        refine r_cS3r C (k_Mc_nearer (ir_mk (by omega) (by omega)) (bd_ir hB rfl) ha) (by decide) (by decide) ml_Mc_214 mt_Mc_nearer mc_Mc_nearer mi_Mc_nearer md_Mc_nearer (Nat.le_of_ble_eq_true rfl) d_Mc_nextEnd_54 ?_
        refine r_istore_2 C d_Mc_nextEnd_57 ?_
        refine r_iinc_3 C d_Mc_nextEnd_58 ?_
        refine r_goto (tgt := 35) C d_Mc_nextEnd_61 (by decide) ?_
        exact ih (i + 1) (by omega) (by omega)
  have hl1 : ∀ (k i : Nat), i ≤ (t 2 0).toNat → (t 2 0).toNat - i < k → g (sm S0 m t) 4 [some (rf E (kMc m)), some (iv a), some (iv (neJ t a i)), some (iv (i : Int))] [] := by
    intro k
    induction k with
    | zero => intro i h1 h2; omega
    | succ k ih =>
      intro i h1 h2
      refine r_iload_n C d_Mc_nextEnd_4 rfl ?_
      refine r_aload_n C d_Mc_nextEnd_5 rfl ?_
      refine g_Mc_jobCount C hm lk_Mc_62 d_Mc_nextEnd_6 ?_
      refine r_icmp_ge (tgt := 33) C d_Mc_nextEnd_9 (by decide) (by first | assumption | exact bd_ir (by assumption) rfl | exact b2i_ir _ | exact pb_ir _ | exact ir_mk (by omega) (by omega)) (by first | assumption | exact bd_ir (by assumption) rfl | exact b2i_ir _ | exact pb_ir _ | exact ir_mk (by omega) (by omega)) (fun c9 => ?_) (fun c9 => ?_)
      · refine r_iconst C d_Mc_nextEnd_33 ?_
        refine r_istore_3 C d_Mc_nextEnd_34 ?_
        rw [show i = (t 2 0).toNat by omega]
        exact hl2 ((t 3 0).toNat + 1) 0 (by omega) (by omega)
      · have hne := neJ_bd hB a i
        refine r_iload_n C d_Mc_nextEnd_12 rfl ?_
        refine r_aload_n C d_Mc_nextEnd_13 rfl ?_
        refine g_Mc_jobs C hm lk_Mc_25 d_Mc_nextEnd_14 ?_
        refine r_iload_n C d_Mc_nextEnd_17 rfl ?_
        refine x_Jb C hm _ rfl (by omega) d_Mc_nextEnd_18 ?_
        refine g_Jb_takesUntil C hm (by omega) lk_Mc_123 d_Mc_nextEnd_19 ?_
        refine r_iload_n C d_Mc_nextEnd_22 rfl ?_
        refine r_cS3r C (k_Mc_nearer (ir_mk (by omega) (by omega)) (bd_ir hB rfl) ha) (by decide) (by decide) ml_Mc_214 mt_Mc_nearer mc_Mc_nearer mi_Mc_nearer md_Mc_nearer (Nat.le_of_ble_eq_true rfl) d_Mc_nextEnd_23 ?_
        refine r_istore_2 C d_Mc_nextEnd_26 ?_
        refine r_iinc_3 C d_Mc_nextEnd_27 ?_
        refine r_goto (tgt := 4) C d_Mc_nextEnd_30 (by decide) ?_
        exact ih (i + 1) (by omega) (by omega)
  refine r_iconst C d_Mc_nextEnd_0 ?_
  refine r_istore_2 C d_Mc_nextEnd_1 ?_
  refine r_iconst C d_Mc_nextEnd_2 ?_
  refine r_istore_3 C d_Mc_nextEnd_3 ?_
  exact hl1 ((t 2 0).toNat + 1) 0 (by omega) (by omega)
noncomputable def ffL (t : TT) (j : Nat) : Nat → Int → Int
  | 0, _ => -1
  | k + 1, x => pif (x = -1 ∨ t 4 0 + 200 < x) (-1) (pif (ftP t j x) x (ffL t j k (neF t x)))
noncomputable def ffF (t : TT) (j : Nat) : Int := ffL t j 38 (neF t (t 4 0))
theorem neF_bd {t : TT} (hB : Bd t) (a : Int) : -1 ≤ neF t a ∧ neF t a ≤ 3100 := neH_bd hB a _
theorem neF_gt {t : TT} {a : Int} (hB : Bd t) : neF t a = -1 ∨ a < neF t a := by
  have h1 : ∀ i, neJ t a i = -1 ∨ a < neJ t a i := by
    intro i
    induction i with
    | zero => left; rfl
    | succ i ih => unfold neJ nearF; (repeat' split) <;> omega
  have h2 : ∀ i, neH t a i = -1 ∨ a < neH t a i := by
    intro i
    induction i with
    | zero => exact h1 _
    | succ i ih => unfold neH nearF; (repeat' split) <;> omega
  exact h2 _
theorem k_Mc_firstFit {l : Launch} {E : Ew} {S0 : WW} {m : Nat} {t : TT} (hm : m < 2) {j : Nat} (hj : j < 30) (hB : Bd t) : Kf l y_Mc_firstFit b_Mc_firstFit 4 (some .int) 3 E (sm S0 m t) [rf E (kMc m), rf E (kJb m j)] (some (iv (ffF t j))) (sm S0 m t) := by
  refine KfI rfl rfl (Nat.le_of_ble_eq_true rfl) (fun g C R => ?_)
  show g (sm S0 m t) 0 [some (rf E (kMc m)), some (rf E (kJb m j)), none, none] []
  have b4 := bd4 hB 0
  have hl : ∀ (k i : Nat) (x : Int), i + k = 38 → (-1 ≤ x ∧ x ≤ 3100) → (x = -1 ∨ t 4 0 < x) → ffL t j k x = ffF t j → g (sm S0 m t) 11 [some (rf E (kMc m)), some (rf E (kJb m j)), some (iv x), some (iv (i : Int))] [] := by
    intro k
    induction k with
    | zero =>
      intro i x h1 h2 h4 h3
      refine r_iload_n C d_Mc_firstFit_11 rfl ?_
      refine r_bipush C d_Mc_firstFit_12 (by decide) ?_
      refine r_icmp_ge (tgt := 59) C d_Mc_firstFit_14 (by decide) (by first | assumption | exact bd_ir (by assumption) rfl | exact b2i_ir _ | exact pb_ir _ | exact ir_mk (by omega) (by omega)) (by first | assumption | exact bd_ir (by assumption) rfl | exact b2i_ir _ | exact pb_ir _ | exact ir_mk (by omega) (by omega)) (fun c14 => ?_) (fun c14 => ?_)
      · refine r_iconst C d_Mc_firstFit_59 ?_
        exact R d_Mc_firstFit_60 h3 rfl
      · exact absurd c14 (by omega)
    | succ k ih =>
      intro i x h1 h2 h4 h3
      rw [ffL] at h3
      refine r_iload_n C d_Mc_firstFit_11 rfl ?_
      refine r_bipush C d_Mc_firstFit_12 (by decide) ?_
      refine r_icmp_ge (tgt := 59) C d_Mc_firstFit_14 (by decide) (by first | assumption | exact bd_ir (by assumption) rfl | exact b2i_ir _ | exact pb_ir _ | exact ir_mk (by omega) (by omega)) (by first | assumption | exact bd_ir (by assumption) rfl | exact b2i_ir _ | exact pb_ir _ | exact ir_mk (by omega) (by omega)) (fun c14 => ?_) (fun c14 => ?_)
      · exact absurd c14 (by omega)
      · refine r_iload_n C d_Mc_firstFit_17 rfl ?_
        refine r_iconst C d_Mc_firstFit_18 ?_
        refine r_icmp_eq (tgt := 34) C d_Mc_firstFit_19 (by decide) (by first | assumption | exact bd_ir (by assumption) rfl | exact b2i_ir _ | exact pb_ir _ | exact ir_mk (by omega) (by omega)) (by first | assumption | exact bd_ir (by assumption) rfl | exact b2i_ir _ | exact pb_ir _ | exact ir_mk (by omega) (by omega)) (fun c19 => ?_) (fun c19 => ?_)
        · refine r_iconst C d_Mc_firstFit_34 ?_
          exact R d_Mc_firstFit_35 (by first | (rw [pif_t (by omega)] at h3; exact h3) | (rw [pif_f (by omega), pif_t (Classical.byContradiction (fun q => c42 (pb_f q)))] at h3; exact h3)) rfl
        · refine r_iload_n C d_Mc_firstFit_22 rfl ?_
          refine r_aload_n C d_Mc_firstFit_23 rfl ?_
          refine g_Mc_now C hm lk_Mc_68 d_Mc_firstFit_24 ?_
          refine r_sipush C d_Mc_firstFit_27 (by decide) ?_
          refine r_iadd C d_Mc_firstFit_30 ?_
          refine r_icmp_le (tgt := 36) C d_Mc_firstFit_31 (by decide) (by first | assumption | exact bd_ir (by assumption) rfl | exact b2i_ir _ | exact pb_ir _ | exact ir_mk (by omega) (by omega)) (by first | assumption | exact bd_ir (by assumption) rfl | exact b2i_ir _ | exact pb_ir _ | exact ir_mk (by omega) (by omega)) (fun c31 => ?_) (fun c31 => ?_)
          · refine r_aload_n C d_Mc_firstFit_36 rfl ?_
            refine r_aload_n C d_Mc_firstFit_37 rfl ?_
            refine r_iload_n C d_Mc_firstFit_38 rfl ?_
            refine r_cV2r C (k_Mc_fits hm hj (by omega) hB) (by decide) (by decide) ml_Mc_197 mn_Mc_fits ms_Mc_fits mc_Mc_fits mi_Mc_fits md_Mc_fits (kMc_lt hm) (zMc hm) rfl rfl (Nat.le_of_ble_eq_true rfl) d_Mc_firstFit_39 ?_
            refine r_if_eq (tgt := 47) C d_Mc_firstFit_42 (by decide) (by first | assumption | exact bd_ir (by assumption) rfl | exact b2i_ir _ | exact pb_ir _ | exact ir_mk (by omega) (by omega)) (fun c42 => ?_) (fun c42 => ?_)
            · refine r_aload_n C d_Mc_firstFit_47 rfl ?_
              refine r_iload_n C d_Mc_firstFit_48 rfl ?_
              refine r_cV1r C (k_Mc_nextEnd hm (ir_mk (by omega) (by omega)) hB) (by decide) (by decide) ml_Mc_211 mn_Mc_nextEnd ms_Mc_nextEnd mc_Mc_nextEnd mi_Mc_nextEnd md_Mc_nextEnd (kMc_lt hm) (zMc hm) rfl rfl (Nat.le_of_ble_eq_true rfl) d_Mc_firstFit_49 ?_
              refine r_istore_2 C d_Mc_firstFit_52 ?_
              refine r_iinc_3 C d_Mc_firstFit_53 ?_
              refine r_goto (tgt := 11) C d_Mc_firstFit_56 (by decide) ?_
              refine ih (i + 1) (neF t x) (by omega) (neF_bd hB x) (by have := neF_gt (a := x) hB; omega) ?_
              rw [pif_f (by omega), pif_f (pb_0.mp c42)] at h3
              exact h3
            · refine r_iload_n C d_Mc_firstFit_45 rfl ?_
              exact R d_Mc_firstFit_46 (by first | (rw [pif_t (by omega)] at h3; exact h3) | (rw [pif_f (by omega), pif_t (Classical.byContradiction (fun q => c42 (pb_f q)))] at h3; exact h3)) rfl
          · refine r_iconst C d_Mc_firstFit_34 ?_
            exact R d_Mc_firstFit_35 (by first | (rw [pif_t (by omega)] at h3; exact h3) | (rw [pif_f (by omega), pif_t (Classical.byContradiction (fun q => c42 (pb_f q)))] at h3; exact h3)) rfl
  refine r_aload_n C d_Mc_firstFit_0 rfl ?_
  refine r_aload_n C d_Mc_firstFit_1 rfl ?_
  refine g_Mc_now C hm lk_Mc_68 d_Mc_firstFit_2 ?_
  refine r_cV1r C (k_Mc_nextEnd hm (bd_ir hB rfl) hB) (by decide) (by decide) ml_Mc_211 mn_Mc_nextEnd ms_Mc_nextEnd mc_Mc_nextEnd mi_Mc_nextEnd md_Mc_nextEnd (kMc_lt hm) (zMc hm) rfl rfl (Nat.le_of_ble_eq_true rfl) d_Mc_firstFit_5 ?_
  refine r_istore_2 C d_Mc_firstFit_8 ?_
  refine r_iconst C d_Mc_firstFit_9 ?_
  refine r_istore_3 C d_Mc_firstFit_10 ?_
  exact hl 38 0 _ rfl (neF_bd hB _) (neF_gt hB) rfl
