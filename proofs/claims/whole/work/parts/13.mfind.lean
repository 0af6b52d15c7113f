def mbM (t : TT) (i : Nat) : Prop := t 24 i = 0 ∧ (t 23 i = -1 ∨ t 24 (t 23 i).toNat = 2)
noncomputable def pqM (t : TT) (x : Nat) : TT := tu (setQ t (insQ (fun y => iaP t x y.toNat) (x : Int) (t 11) (t 10 0).toNat)) 10 0 (t 10 0 + 1)
noncomputable def fqF (t : TT) : Nat → TT
  | 0 => tu t 10 0 0
  | i + 1 => pif (mbM (fqF t i) i) (pqM (fqF t i) i) (fqF t i)
theorem fqF_s (t : TT) (i : Nat) : fqF t (i + 1) = pif (mbM (fqF t i) i) (pqM (fqF t i) i) (fqF t i) := rfl
theorem pqM_bd {t : TT} (hB : Bd t) {x : Nat} (hx : x < 30) (hl : t 10 0 < 30) : Bd (pqM t x) :=
  bd_tu (setQ_bd hB (insQ_bd ⟨by omega, by omega⟩ _ _ (bd11 hB))) (fun _ => by have := bd10 hB 0; show (0 : Int) ≤ _ ∧ _ ≤ (30 : Int); omega)
theorem pqM_ne {t : TT} {x f a : Nat} (h : f ≠ 11) (h2 : f ≠ 10) : pqM t x f a = t f a := by unfold pqM; rw [tu_ne (by omega), setQ_ne h]
theorem pqM_10 (t : TT) (x : Nat) : pqM t x 10 0 = t 10 0 + 1 := by unfold pqM; rw [tu_eq]
theorem fqF_inv {t : TT} (hB : Bd t) : ∀ i, i ≤ 30 → Bd (fqF t i) ∧ 0 ≤ fqF t i 10 0 ∧ fqF t i 10 0 ≤ i := by
  intro i
  induction i with
  | zero => intro _; exact ⟨bd_tu hB (fun _ => by show (0 : Int) ≤ 0 ∧ (0 : Int) ≤ 30; omega), by unfold fqF; rw [tu_eq]; omega, by unfold fqF; rw [tu_eq]; omega⟩
  | succ i ih =>
    intro hi
    obtain ⟨h1, h2, h3⟩ := ih (by omega)
    rw [fqF_s]
    by_cases c : mbM (fqF t i) i
    · rw [pif_t c, pqM_10]
      exact ⟨pqM_bd h1 (by omega) (by omega), by omega, by omega⟩
    · rw [pif_f c]
      exact ⟨h1, h2, by omega⟩
theorem fqF_ne {t : TT} {f a : Nat} (h : f ≠ 11) (h2 : f ≠ 10) : ∀ i, fqF t i f a = t f a := by
  intro i
  induction i with
  | zero => unfold fqF; rw [tu_ne (by omega)]
  | succ i ih =>
    rw [fqF_s]
    by_cases c : mbM (fqF t i) i
    · rw [pif_t c, pqM_ne h h2, ih]
    · rw [pif_f c, ih]
theorem k_Md_findQueue {l : Launch} {E : Ew} {S0 : WW} {t : TT} (hB : Bd t)  : Kf l y_Md_findQueue b_Md_findQueue 3 none 1 E (sm S0 2 t) [rf E 1] none (sm S0 2 (fqF t (t 2 0).toNat)) := by
  refine KfV rfl rfl (Nat.le_of_ble_eq_true rfl) (fun g C R => ?_)
  show g (sm S0 2 t) 0 [some (rf E 1), none, none] []
  have b2 := bd2 hB 0
  have hin : ∀ (s : TT) (x : Nat), Bd s → x < 30 → (∀ X : Option Value, g (sm S0 2 (pqM s x)) 111 [some (rf E 1), some (iv (x : Int)), X] []) → ∀ (p : Nat) (q : Nat → Int), (∀ i, 0 ≤ q i ∧ q i ≤ 29) → p < 30 → insQ (fun y => iaP s x y.toNat) (x : Int) q p = insQ (fun y => iaP s x y.toNat) (x : Int) (s 11) (s 10 0).toNat → g (sm S0 2 (setQ s q)) 54 [some (rf E 1), some (iv (x : Int)), some (iv (p : Int))] [] := by
    intro s x hBs hx hk p
    induction p with
    | zero =>
      intro q hq h1 h3
      refine r_iload_n C d_Md_findQueue_54 rfl ?_
      refine r_if_le (tgt := 94) C d_Md_findQueue_55 (by decide) (by first | assumption | exact bd_ir (by assumption) rfl | exact b2i_ir _ | exact pb_ir _ | exact ir_mk (by omega) (by omega)) (fun c55 => ?_) (fun c55 => ?_)
      · refine r_aload_n C d_Md_findQueue_94 rfl ?_
        refine g_Md_queue C lk_Md_93 d_Md_findQueue_95 ?_
        refine r_iload_n C d_Md_findQueue_98 rfl ?_
        refine r_iload_n C d_Md_findQueue_99 rfl ?_
        refine st_Md_queue C 0 rfl (by omega) d_Md_findQueue_100 ?_
        rw [setQ_tu]
        refine r_aload_n C d_Md_findQueue_101 rfl ?_
        refine r_dup C d_Md_findQueue_102 rfl ?_
        refine g_Md_queued C lk_Md_171 d_Md_findQueue_103 ?_
        refine r_iconst C d_Md_findQueue_106 ?_
        rw [setQ_ne (by decide)]
        refine r_iadd C d_Md_findQueue_107 ?_
        refine p_Md_queued C lk_Md_171 d_Md_findQueue_108 ?_
        rw [show qset q 0 (x : Int) = insQ (fun y => iaP s x y.toNat) (x : Int) q 0 from rfl, h3]
        exact hk _
      · exact absurd c55 (by omega)
    | succ p ih =>
      intro q hq h1 h3
      have hqp := hq p
      rw [insQ] at h3
      refine r_iload_n C d_Md_findQueue_54 rfl ?_
      refine r_if_le (tgt := 94) C d_Md_findQueue_55 (by decide) (by first | assumption | exact bd_ir (by assumption) rfl | exact b2i_ir _ | exact pb_ir _ | exact ir_mk (by omega) (by omega)) (fun c55 => ?_) (fun c55 => ?_)
      · refine r_aload_n C d_Md_findQueue_94 rfl ?_
        refine g_Md_queue C lk_Md_93 d_Md_findQueue_95 ?_
        refine r_iload_n C d_Md_findQueue_98 rfl ?_
        refine r_iload_n C d_Md_findQueue_99 rfl ?_
        refine st_Md_queue C (p + 1) rfl (by omega) d_Md_findQueue_100 ?_
        rw [setQ_tu]
        refine r_aload_n C d_Md_findQueue_101 rfl ?_
        refine r_dup C d_Md_findQueue_102 rfl ?_
        refine g_Md_queued C lk_Md_171 d_Md_findQueue_103 ?_
        refine r_iconst C d_Md_findQueue_106 ?_
        rw [setQ_ne (by decide)]
        refine r_iadd C d_Md_findQueue_107 ?_
        refine p_Md_queued C lk_Md_171 d_Md_findQueue_108 ?_
        first
          | exact absurd c55 (by omega)
          | (rw [pif_f (show ¬ iaP s x (q p).toNat from pb_0.mp c71)] at h3
             rw [h3]
             exact hk _)
      · refine r_aload_n C d_Md_findQueue_58 rfl ?_
        refine r_iload_n C d_Md_findQueue_59 rfl ?_
        refine r_aload_n C d_Md_findQueue_60 rfl ?_
        refine g_Md_queue C lk_Md_93 d_Md_findQueue_61 ?_
        refine r_iload_n C d_Md_findQueue_64 rfl ?_
        refine r_iconst C d_Md_findQueue_65 ?_
        refine r_isub C d_Md_findQueue_66 ?_
        refine x_Md_queue C p (by omega) (by omega) d_Md_findQueue_67 ?_
        rw [setQ_11, show q p = (((q p).toNat : Nat) : Int) by omega]
        refine r_cV2r C (k_Md_isAhead (setQ_bd hBs hq) (i := x) (j := (q p).toNat) hx (by omega)) (by decide) (by decide) ml_Md_174 mn_Md_isAhead ms_Md_isAhead mc_Md_isAhead mi_Md_isAhead md_Md_isAhead (by decide) zMd rfl rfl (Nat.le_of_ble_eq_true rfl) d_Md_findQueue_68 ?_
        refine r_if_eq (tgt := 94) C d_Md_findQueue_71 (by decide) (by first | assumption | exact bd_ir (by assumption) rfl | exact b2i_ir _ | exact pb_ir _ | exact ir_mk (by omega) (by omega)) (fun c71 => ?_) (fun c71 => ?_)
        · refine r_aload_n C d_Md_findQueue_94 rfl ?_
          refine g_Md_queue C lk_Md_93 d_Md_findQueue_95 ?_
          refine r_iload_n C d_Md_findQueue_98 rfl ?_
          refine r_iload_n C d_Md_findQueue_99 rfl ?_
          refine st_Md_queue C (p + 1) rfl (by omega) d_Md_findQueue_100 ?_
          rw [setQ_tu]
          refine r_aload_n C d_Md_findQueue_101 rfl ?_
          refine r_dup C d_Md_findQueue_102 rfl ?_
          refine g_Md_queued C lk_Md_171 d_Md_findQueue_103 ?_
          refine r_iconst C d_Md_findQueue_106 ?_
          rw [setQ_ne (by decide)]
          refine r_iadd C d_Md_findQueue_107 ?_
          refine p_Md_queued C lk_Md_171 d_Md_findQueue_108 ?_
          first
            | exact absurd c55 (by omega)
            | (rw [pif_f (show ¬ iaP s x (q p).toNat from pb_0.mp c71)] at h3
               rw [h3]
               exact hk _)
        · refine r_aload_n C d_Md_findQueue_74 rfl ?_
          refine g_Md_queue C lk_Md_93 d_Md_findQueue_75 ?_
          refine r_iload_n C d_Md_findQueue_78 rfl ?_
          refine r_aload_n C d_Md_findQueue_79 rfl ?_
          refine g_Md_queue C lk_Md_93 d_Md_findQueue_80 ?_
          refine r_iload_n C d_Md_findQueue_83 rfl ?_
          refine r_iconst C d_Md_findQueue_84 ?_
          refine r_isub C d_Md_findQueue_85 ?_
          refine x_Md_queue C p (by omega) (by omega) d_Md_findQueue_86 ?_
          rw [setQ_11]
          refine st_Md_queue C (p + 1) rfl (by omega) d_Md_findQueue_87 ?_
          rw [setQ_tu]
          refine r_iinc_2 C d_Md_findQueue_88 ?_
          refine r_goto (tgt := 54) C d_Md_findQueue_91 (by decide) ?_
          have e : ((p + 1 : Nat) : Int) + -1 = (p : Int) := by omega
          rw [e]
          refine ih _ (qset_bd hq hqp) (by omega) ?_
          rw [pif_t (show iaP s x (q p).toNat from Classical.byContradiction (fun z => c71 (pb_f z)))] at h3
          exact h3
  have hl : ∀ (k i : Nat) (X : Option Value), i ≤ (t 2 0).toNat → (t 2 0).toNat - i < k → g (sm S0 2 (fqF t i)) 7 [some (rf E 1), some (iv (i : Int)), X] [] := by
    intro k
    induction k with
    | zero => intro i X h1 h2; omega
    | succ k ih =>
      intro i X h1 h2
      obtain ⟨hi1, hi2, hi3⟩ := fqF_inv hB i (by omega)
      refine r_iload_n C d_Md_findQueue_7 rfl ?_
      refine r_aload_n C d_Md_findQueue_8 rfl ?_
      refine g_Md_jobs C lk_Md_124 d_Md_findQueue_9 ?_
      rw [fqF_ne (by decide) (by decide)]
      refine r_icmp_ge (tgt := 117) C d_Md_findQueue_12 (by decide) (by first | assumption | exact bd_ir (by assumption) rfl | exact b2i_ir _ | exact pb_ir _ | exact ir_mk (by omega) (by omega)) (by first | assumption | exact bd_ir (by assumption) rfl | exact b2i_ir _ | exact pb_ir _ | exact ir_mk (by omega) (by omega)) (fun c12 => ?_) (fun c12 => ?_)
      · exact R d_Md_findQueue_117 (by rw [show i = (t 2 0).toNat by omega])
      · have ha := bd23 hi1 i
        refine r_aload_n C d_Md_findQueue_15 rfl ?_
        refine g_Md_state C lk_Md_51 d_Md_findQueue_16 ?_
        refine r_iload_n C d_Md_findQueue_19 rfl ?_
        refine x_Md_state C _ rfl (by omega) d_Md_findQueue_20 ?_
        refine r_if_ne (tgt := 111) C d_Md_findQueue_21 (by decide) (by first | assumption | exact bd_ir (by assumption) rfl | exact b2i_ir _ | exact pb_ir _ | exact ir_mk (by omega) (by omega)) (fun c21 => ?_) (fun c21 => ?_)
        · refine r_iinc_1 C d_Md_findQueue_111 ?_
          refine r_goto (tgt := 7) C d_Md_findQueue_114 (by decide) ?_
          have h := ih (i + 1) X (by omega) (by omega)
          rw [fqF_s, pif_f (fun z => by have z1 := z.1; have z2 := z.2; omega)] at h
          exact h
        · refine r_aload_n C d_Md_findQueue_24 rfl ?_
          refine g_Md_ahead C lk_Md_48 d_Md_findQueue_25 ?_
          refine r_iload_n C d_Md_findQueue_28 rfl ?_
          refine x_Md_ahead C _ rfl (by omega) d_Md_findQueue_29 ?_
          refine r_iconst C d_Md_findQueue_30 ?_
          refine r_icmp_eq (tgt := 49) C d_Md_findQueue_31 (by decide) (by first | assumption | exact bd_ir (by assumption) rfl | exact b2i_ir _ | exact pb_ir _ | exact ir_mk (by omega) (by omega)) (by first | assumption | exact bd_ir (by assumption) rfl | exact b2i_ir _ | exact pb_ir _ | exact ir_mk (by omega) (by omega)) (fun c31 => ?_) (fun c31 => ?_)
          · refine r_aload_n C d_Md_findQueue_49 rfl ?_
            refine g_Md_queued C lk_Md_171 d_Md_findQueue_50 ?_
            refine r_istore_2 C d_Md_findQueue_53 ?_
            have h9 := hin (fqF t i) i hi1 (by omega) (fun X => by
              refine r_iinc_1 C d_Md_findQueue_111 ?_
              refine r_goto (tgt := 7) C d_Md_findQueue_114 (by decide) ?_
              have h := ih (i + 1) X (by omega) (by omega)
              rw [fqF_s, pif_t] at h
              · exact h
              · exact ⟨by omega, by omega⟩) (fqF t i 10 0).toNat (fqF t i 11) (bd11 hi1) (by omega) rfl
            rw [setQ_self, show (((fqF t i 10 0).toNat : Nat) : Int) = fqF t i 10 0 by omega] at h9
            exact h9
          · refine r_aload_n C d_Md_findQueue_34 rfl ?_
            refine g_Md_state C lk_Md_51 d_Md_findQueue_35 ?_
            refine r_aload_n C d_Md_findQueue_38 rfl ?_
            refine g_Md_ahead C lk_Md_48 d_Md_findQueue_39 ?_
            refine r_iload_n C d_Md_findQueue_42 rfl ?_
            refine x_Md_ahead C _ rfl (by omega) d_Md_findQueue_43 ?_
            refine x_Md_state C (fqF t i 23 i).toNat (by omega) (by omega) d_Md_findQueue_44 ?_
            refine r_iconst C d_Md_findQueue_45 ?_
            refine r_icmp_ne (tgt := 111) C d_Md_findQueue_46 (by decide) (by first | assumption | exact bd_ir (by assumption) rfl | exact b2i_ir _ | exact pb_ir _ | exact ir_mk (by omega) (by omega)) (by first | assumption | exact bd_ir (by assumption) rfl | exact b2i_ir _ | exact pb_ir _ | exact ir_mk (by omega) (by omega)) (fun c46 => ?_) (fun c46 => ?_)
            · refine r_iinc_1 C d_Md_findQueue_111 ?_
              refine r_goto (tgt := 7) C d_Md_findQueue_114 (by decide) ?_
              have h := ih (i + 1) X (by omega) (by omega)
              rw [fqF_s, pif_f (fun z => by have z1 := z.1; have z2 := z.2; omega)] at h
              exact h
            · refine r_aload_n C d_Md_findQueue_49 rfl ?_
              refine g_Md_queued C lk_Md_171 d_Md_findQueue_50 ?_
              refine r_istore_2 C d_Md_findQueue_53 ?_
              have h9 := hin (fqF t i) i hi1 (by omega) (fun X => by
                refine r_iinc_1 C d_Md_findQueue_111 ?_
                refine r_goto (tgt := 7) C d_Md_findQueue_114 (by decide) ?_
                have h := ih (i + 1) X (by omega) (by omega)
                rw [fqF_s, pif_t] at h
                · exact h
                · exact ⟨by omega, by omega⟩) (fqF t i 10 0).toNat (fqF t i 11) (bd11 hi1) (by omega) rfl
              rw [setQ_self, show (((fqF t i 10 0).toNat : Nat) : Int) = fqF t i 10 0 by omega] at h9
              exact h9
  refine r_aload_n C d_Md_findQueue_0 rfl ?_
  refine r_iconst C d_Md_findQueue_1 ?_
  refine p_Md_queued C lk_Md_171 d_Md_findQueue_2 ?_
  refine r_iconst C d_Md_findQueue_5 ?_
  refine r_istore_1 C d_Md_findQueue_6 ?_
  exact hl ((t 2 0).toNat + 1) 0 none (by omega) (by omega)
theorem k_Md_runsAt_w {l : Launch} {E : Ew} {S0 : WW} {t : TT} {j : Nat} (hj : j < 30) {u : Int} (hu : ir u) (h24 : ir (t 24 j)) (b25 : -1 ≤ t 25 j ∧ t 25 j ≤ 3000) (b36 : 0 ≤ t 36 j ∧ t 36 j ≤ 50) : Kf l y_Md_runsAt b_Md_runsAt 3 (some .boolean) 0 E (sm S0 2 t) [rf E 1, iv (j : Int), iv u] (some (iv (b2i (ruM t j u)))) (sm S0 2 t) := by
  refine KfZ rfl rfl (Nat.le_of_ble_eq_true rfl) (fun g C R => ?_)
  show g (sm S0 2 t) 0 [some (rf E 1), some (iv (j : Int)), some (iv u)] []
  refine r_aload_n C d_Md_runsAt_0 rfl ?_
  refine g_Md_state C lk_Md_51 d_Md_runsAt_1 ?_
  refine r_iload_n C d_Md_runsAt_4 rfl ?_
  refine x_Md_state C _ rfl (by omega) d_Md_runsAt_5 ?_
  refine r_iconst C d_Md_runsAt_6 ?_
  refine r_icmp_ne (tgt := 31) C d_Md_runsAt_7 (by decide) (by first | assumption | exact bd_ir (by assumption) rfl | exact b2i_ir _ | exact pb_ir _ | exact ir_mk (by omega) (by omega)) (by first | assumption | exact bd_ir (by assumption) rfl | exact b2i_ir _ | exact pb_ir _ | exact ir_mk (by omega) (by omega)) (fun c7 => ?_) (fun c7 => ?_)
  · refine r_iconst C d_Md_runsAt_31 ?_
    exact R d_Md_runsAt_32 (by omega) (by unfold b2i ruM; split <;> omega) rfl
  · refine r_aload_n C d_Md_runsAt_10 rfl ?_
    refine g_Md_began C lk_Md_54 d_Md_runsAt_11 ?_
    refine r_iload_n C d_Md_runsAt_14 rfl ?_
    refine x_Md_began C _ rfl (by omega) d_Md_runsAt_15 ?_
    refine r_aload_n C d_Md_runsAt_16 rfl ?_
    refine g_Md_leftAt C lk_Md_66 d_Md_runsAt_17 ?_
    refine r_iload_n C d_Md_runsAt_20 rfl ?_
    refine x_Md_leftAt C _ rfl (by omega) d_Md_runsAt_21 ?_
    refine r_iadd C d_Md_runsAt_22 ?_
    refine r_iload_n C d_Md_runsAt_23 rfl ?_
    refine r_icmp_le (tgt := 31) C d_Md_runsAt_24 (by decide) (by first | assumption | exact bd_ir (by assumption) rfl | exact b2i_ir _ | exact pb_ir _ | exact ir_mk (by omega) (by omega)) (by first | assumption | exact bd_ir (by assumption) rfl | exact b2i_ir _ | exact pb_ir _ | exact ir_mk (by omega) (by omega)) (fun c24 => ?_) (fun c24 => ?_)
    · refine r_iconst C d_Md_runsAt_31 ?_
      exact R d_Md_runsAt_32 (by omega) (by unfold b2i ruM; split <;> omega) rfl
    · refine r_iconst C d_Md_runsAt_27 ?_
      refine r_goto (tgt := 32) C d_Md_runsAt_28 (by decide) ?_
      exact R d_Md_runsAt_32 (by omega) (by unfold b2i ruM; split <;> omega) rfl
def fd (t : TT) (A B : Nat → Int) : TT := fun f a => if f = 48 ∧ a = 0 then roomF t (t 0 0).toNat else if f = 39 ∧ a < 260 then A a else if f = 40 ∧ a < 260 then B a else t f a
def fz (t : TT) (n : Nat) : TT := fun f a => if f = 48 ∧ a = 0 then roomF t (t 0 0).toNat else if (f = 39 ∨ f = 40) ∧ a < n then 0 else t f a
def fdF (t : TT) : TT := fd t (fun a => tnM t (t 4 0 + a)) (fun a => tlM t (t 4 0 + a) (t 2 0).toNat)
theorem fd_ne {t : TT} {A B : Nat → Int} {f a : Nat} (h : f ≠ 48 ∧ f ≠ 39 ∧ f ≠ 40) : fd t A B f a = t f a := by unfold fd; rw [if_neg (by omega), if_neg (by omega), if_neg (by omega)]
theorem fd_39 {t : TT} {A B : Nat → Int} {a : Nat} (h : a < 260) : fd t A B 39 a = A a := by unfold fd; rw [if_neg (by omega), if_pos ⟨rfl, h⟩]
theorem fd_40 {t : TT} {A B : Nat → Int} {a : Nat} (h : a < 260) : fd t A B 40 a = B a := by unfold fd; rw [if_neg (by omega), if_neg (by omega), if_pos ⟨rfl, h⟩]
theorem fd_congr {t : TT} {A B A' B' : Nat → Int} (hA : ∀ a, a < 260 → A a = A' a) (hB : ∀ a, a < 260 → B a = B' a) : fd t A B = fd t A' B' := by
  funext f a
  unfold fd
  by_cases h : a < 260
  · rw [hA a h, hB a h]
  · rw [if_neg (show ¬ (f = 39 ∧ a < 260) by omega), if_neg (show ¬ (f = 40 ∧ a < 260) by omega), if_neg (show ¬ (f = 39 ∧ a < 260) by omega), if_neg (show ¬ (f = 40 ∧ a < 260) by omega)]
theorem fd_tuA {t : TT} {A B : Nat → Int} {i : Nat} {x : Int} (h : i < 260) : tu (fd t A B) 39 i x = fd t (fun a => if a = i then x else A a) B := by
  funext f a; simp only [tu, fd]; grind
theorem fd_tuB {t : TT} {A B : Nat → Int} {i : Nat} {x : Int} (h : i < 260) : tu (fd t A B) 40 i x = fd t A (fun a => if a = i then x else B a) := by
  funext f a; simp only [tu, fd]; grind
theorem fz_s (t : TT) (n : Nat) : tu (tu (fz t n) 39 n 0) 40 n 0 = fz t (n + 1) := by
  funext f a; simp only [tu, fz]; grind
theorem fz_fd (t : TT) : fz t 260 = fd t (fun _ => 0) (fun _ => 0) := by
  funext f a; simp only [fz, fd]; grind
theorem fz_0 (t : TT) : tu t 48 0 (roomF t (t 0 0).toNat) = fz t 0 := by
  funext f a; simp only [tu, fz]; grind
theorem ruM_dn {t : TT} {j : Nat} {u v : Int} (h : ruM t j u) (hv : v ≤ u) : ruM t j v := ⟨h.1, by have := h.2; omega⟩
theorem g_st {g : WW → Nat → LL → List Value → Prop} {S : WW} {pc : Nat} {L : LL} {st : List Value} {v w : Value} (h : v = w) (k : g S pc L (w :: st)) : g S pc L (v :: st) := by rw [h]; exact k
theorem k_Md_findTaken {l : Launch} {E : Ew} {S0 : WW} {t : TT} (hB : Bd t) (h8 : t 3 0 ≤ 8)  : Kf l y_Md_findTaken b_Md_findTaken 4 none 1 E (sm S0 2 t) [rf E 1] none (sm S0 2 (fdF t)) := by
  refine KfV rfl rfl (Nat.le_of_ble_eq_true rfl) (fun g C R => ?_)
  show g (sm S0 2 t) 0 [some (rf E 1), none, none, none] []
  have b0 := bd0 hB 0
  have b2 := bd2 hB 0
  have b3 := bd3 hB 0
  have b4 := bd4 hB 0
  have hl4 : ∀ (kk : Nat) (fr : Nat), (kk : Int) < t 3 0 → (fr : Int) = (if t 4 0 < t 33 kk then t 33 kk - t 4 0 else 0) → (∀ X : Option Value, g (sm S0 2 (fd t (fun a => tnJ t (t 4 0 + a) (t 2 0).toNat + tnH t (t 4 0 + a) (kk + 1)) (fun a => tlM t (t 4 0 + a) (t 2 0).toNat))) 235 [some (rf E 1), some (iv (kk : Int)), some (iv (fr : Int)), X] []) → ∀ (k i : Nat), fr ≤ i → (i = fr ∨ (t 4 0 + (i : Int) - 1 < t 34 kk ∧ i ≤ 260)) → 260 + fr - i < k → g (sm S0 2 (fd t (fun a => if fr ≤ a ∧ a < i then tnJ t (t 4 0 + a) (t 2 0).toNat + tnH t (t 4 0 + a) (kk + 1) else tnJ t (t 4 0 + a) (t 2 0).toNat + tnH t (t 4 0 + a) kk) (fun a => tlM t (t 4 0 + a) (t 2 0).toNat))) 192 [some (rf E 1), some (iv (kk : Int)), some (iv (fr : Int)), some (iv (i : Int))] [] := by
    intro kk fr hkk hfr hcont k
    have b33 := bd33 hB kk
    have b34 := bd34 hB kk
    have hfrb : fr ≤ 3000 := by split at hfr <;> omega
    induction k with
    | zero => intro i h0 h3 h2; exact absurd h2 (by omega)
    | succ k ih =>
      intro i h0 h3 h2
      refine r_iload_n C d_Md_findTaken_192 rfl ?_
      refine r_sipush C d_Md_findTaken_193 (by decide) ?_
      refine r_icmp_ge (tgt := 235) C d_Md_findTaken_196 (by decide) (by first | assumption | exact bd_ir (by assumption) rfl | exact b2i_ir _ | exact pb_ir _ | exact ir_mk (by omega) (by omega)) (by first | assumption | exact bd_ir (by assumption) rfl | exact b2i_ir _ | exact pb_ir _ | exact ir_mk (by omega) (by omega)) (fun c196 => ?_) (fun c196 => ?_)
      · refine g_goal ?_ (hcont _)
        congr 1
        refine fd_congr (fun a ha => ?_) (fun _ _ => rfl)
        by_cases q2 : fr ≤ a ∧ a < i
        · rw [if_pos q2]
        · rw [if_neg q2, tnH_s, if_neg (fun z => by split at hfr <;> omega), Int.add_zero]
      · refine r_aload_n C d_Md_findTaken_199 rfl ?_
        refine g_Md_time C lk_Md_148 d_Md_findTaken_200 ?_
        try simp (disch := omega) only [fd_ne, fd_39, fd_40]
        refine r_iload_n C d_Md_findTaken_203 rfl ?_
        refine r_iadd C d_Md_findTaken_204 ?_
        refine r_aload_n C d_Md_findTaken_205 rfl ?_
        refine g_Md_bookTo C lk_Md_78 d_Md_findTaken_206 ?_
        refine r_iload_n C d_Md_findTaken_209 rfl ?_
        refine x_Md_bookTo C _ rfl (by omega) d_Md_findTaken_210 ?_
        try simp (disch := omega) only [fd_ne, fd_39, fd_40]
        refine r_icmp_ge (tgt := 235) C d_Md_findTaken_211 (by decide) (by first | assumption | exact bd_ir (by assumption) rfl | exact b2i_ir _ | exact pb_ir _ | exact ir_mk (by omega) (by omega)) (by first | assumption | exact bd_ir (by assumption) rfl | exact b2i_ir _ | exact pb_ir _ | exact ir_mk (by omega) (by omega)) (fun c211 => ?_) (fun c211 => ?_)
        · refine g_goal ?_ (hcont _)
          congr 1
          refine fd_congr (fun a ha => ?_) (fun _ _ => rfl)
          by_cases q2 : fr ≤ a ∧ a < i
          · rw [if_pos q2]
          · rw [if_neg q2, tnH_s, if_neg (fun z => by split at hfr <;> omega), Int.add_zero]
        · refine r_aload_n C d_Md_findTaken_214 rfl ?_
          refine g_Md_nodesAt C lk_Md_87 d_Md_findTaken_215 ?_
          refine r_iload_n C d_Md_findTaken_218 rfl ?_
          refine r_dup2 C d_Md_findTaken_219 rfl rfl ?_
          refine x_Md_nodesAt C _ rfl (by omega) d_Md_findTaken_220 ?_
          refine r_aload_n C d_Md_findTaken_221 rfl ?_
          refine g_Md_bookNodes C lk_Md_72 d_Md_findTaken_222 ?_
          refine r_iload_n C d_Md_findTaken_225 rfl ?_
          try simp (disch := omega) only [fd_ne, fd_39, fd_40]
          try rw [if_neg (show ¬ (fr ≤ i ∧ i < i) by omega)]
          refine x_Md_bookNodes C _ rfl (by omega) d_Md_findTaken_226 ?_
          try simp (disch := omega) only [fd_ne, fd_39, fd_40]
          refine r_iadd C d_Md_findTaken_227 ?_
          refine st_Md_nodesAt C _ rfl (by omega) d_Md_findTaken_228 ?_
          rw [fd_tuA (by omega)]
          refine r_iinc_3 C d_Md_findTaken_229 ?_
          refine r_goto (tgt := 192) C d_Md_findTaken_232 (by decide) ?_
          refine g_goal ?_ (ih (i + 1) (by omega) (Or.inr ⟨by omega, by omega⟩) (by omega))
          congr 1
          refine fd_congr (fun a ha => ?_) (fun _ _ => rfl)
          by_cases q : a = i
          · subst q
            rw [if_pos rfl, if_pos ⟨h0, by omega⟩, tnH_s, if_pos ⟨by split at hfr <;> omega, by omega⟩]
            omega
          · rw [if_neg q]
            by_cases q2 : fr ≤ a ∧ a < i
            · rw [if_pos q2, if_pos ⟨q2.1, by omega⟩]
            · rw [if_neg q2, if_neg (by omega)]
  have hl3 : ∀ (k i : Nat) (X Y : Option Value), i ≤ (t 3 0).toNat → (t 3 0).toNat - i < k → g (sm S0 2 (fd t (fun a => tnJ t (t 4 0 + a) (t 2 0).toNat + tnH t (t 4 0 + a) i) (fun a => tlM t (t 4 0 + a) (t 2 0).toNat))) 153 [some (rf E 1), some (iv (i : Int)), X, Y] [] := by
    intro k
    induction k with
    | zero => intro i X Y h1 h2; omega
    | succ k ih =>
      intro i X Y h1 h2
      refine r_iload_n C d_Md_findTaken_153 rfl ?_
      refine r_aload_n C d_Md_findTaken_154 rfl ?_
      refine g_Md_bookings C lk_Md_145 d_Md_findTaken_155 ?_
      try simp (disch := omega) only [fd_ne, fd_39, fd_40]
      refine r_icmp_ge (tgt := 241) C d_Md_findTaken_158 (by decide) (by first | assumption | exact bd_ir (by assumption) rfl | exact b2i_ir _ | exact pb_ir _ | exact ir_mk (by omega) (by omega)) (by first | assumption | exact bd_ir (by assumption) rfl | exact b2i_ir _ | exact pb_ir _ | exact ir_mk (by omega) (by omega)) (fun c158 => ?_) (fun c158 => ?_)
      · exact R d_Md_findTaken_241 (by rw [show i = (t 3 0).toNat by omega]; rfl)
      · have b33 := bd33 hB i
        refine r_aload_n C d_Md_findTaken_161 rfl ?_
        refine g_Md_bookFrom C lk_Md_75 d_Md_findTaken_162 ?_
        refine r_iload_n C d_Md_findTaken_165 rfl ?_
        refine x_Md_bookFrom C _ rfl (by omega) d_Md_findTaken_166 ?_
        refine r_aload_n C d_Md_findTaken_167 rfl ?_
        refine g_Md_time C lk_Md_148 d_Md_findTaken_168 ?_
        try simp (disch := omega) only [fd_ne, fd_39, fd_40]
        refine r_icmp_le (tgt := 188) C d_Md_findTaken_171 (by decide) (by first | assumption | exact bd_ir (by assumption) rfl | exact b2i_ir _ | exact pb_ir _ | exact ir_mk (by omega) (by omega)) (by first | assumption | exact bd_ir (by assumption) rfl | exact b2i_ir _ | exact pb_ir _ | exact ir_mk (by omega) (by omega)) (fun c171 => ?_) (fun c171 => ?_)
        · refine r_iconst C d_Md_findTaken_188 ?_
          obtain ⟨fr, hfr⟩ : ∃ fr : Nat, (fr : Int) = (if t 4 0 < t 33 i then t 33 i - t 4 0 else 0) := ⟨(if t 4 0 < t 33 i then t 33 i - t 4 0 else 0).toNat, by split <;> omega⟩
          first | (rw [show t 33 i - t 4 0 = (fr : Int) by rw [hfr, if_pos (by omega)]]) | (refine g_st (show iv 0 = iv (fr : Int) by rw [hfr, if_neg (by omega)]) ?_)
          refine r_istore_2 C d_Md_findTaken_189 ?_
          refine r_iload_n C d_Md_findTaken_190 rfl ?_
          refine r_istore_3 C d_Md_findTaken_191 ?_
          refine g_goal ?_ (hl4 i fr (by omega) hfr (fun X => ?_) (260 + 1) fr (Nat.le_refl _) (Or.inl rfl) (by omega))
          · congr 1
            refine fd_congr (fun a ha => ?_) (fun _ _ => rfl)
            rw [if_neg (by omega)]
          · refine r_iinc_1 C d_Md_findTaken_235 ?_
            refine r_goto (tgt := 153) C d_Md_findTaken_238 (by decide) ?_
            exact ih (i + 1) _ X (by omega) (by omega)
        · refine r_aload_n C d_Md_findTaken_174 rfl ?_
          refine g_Md_bookFrom C lk_Md_75 d_Md_findTaken_175 ?_
          refine r_iload_n C d_Md_findTaken_178 rfl ?_
          refine x_Md_bookFrom C _ rfl (by omega) d_Md_findTaken_179 ?_
          refine r_aload_n C d_Md_findTaken_180 rfl ?_
          refine g_Md_time C lk_Md_148 d_Md_findTaken_181 ?_
          try simp (disch := omega) only [fd_ne, fd_39, fd_40]
          refine r_isub C d_Md_findTaken_184 ?_
          refine r_goto (tgt := 189) C d_Md_findTaken_185 (by decide) ?_
          obtain ⟨fr, hfr⟩ : ∃ fr : Nat, (fr : Int) = (if t 4 0 < t 33 i then t 33 i - t 4 0 else 0) := ⟨(if t 4 0 < t 33 i then t 33 i - t 4 0 else 0).toNat, by split <;> omega⟩
          first | (rw [show t 33 i - t 4 0 = (fr : Int) by rw [hfr, if_pos (by omega)]]) | (refine g_st (show iv 0 = iv (fr : Int) by rw [hfr, if_neg (by omega)]) ?_)
          refine r_istore_2 C d_Md_findTaken_189 ?_
          refine r_iload_n C d_Md_findTaken_190 rfl ?_
          refine r_istore_3 C d_Md_findTaken_191 ?_
          refine g_goal ?_ (hl4 i fr (by omega) hfr (fun X => ?_) (260 + 1) fr (Nat.le_refl _) (Or.inl rfl) (by omega))
          · congr 1
            refine fd_congr (fun a ha => ?_) (fun _ _ => rfl)
            rw [if_neg (by omega)]
          · refine r_iinc_1 C d_Md_findTaken_235 ?_
            refine r_goto (tgt := 153) C d_Md_findTaken_238 (by decide) ?_
            exact ih (i + 1) _ X (by omega) (by omega)
  have hl2 : ∀ (j : Nat), (j : Int) < t 2 0 → (∀ X : Option Value, g (sm S0 2 (fd t (fun a => tnJ t (t 4 0 + a) (j + 1)) (fun a => tlM t (t 4 0 + a) (j + 1)))) 145 [some (rf E 1), some (iv (j : Int)), some (iv (cmF t j (t 0 0).toNat)), X] []) → ∀ (k i : Nat), (i = 0 ∨ ruM t j (t 4 0 + i - 1)) → i ≤ 260 → 260 - i < k → g (sm S0 2 (fd t (fun a => if a < i then tnJ t (t 4 0 + a) (j + 1) else tnJ t (t 4 0 + a) j) (fun a => if a < i then tlM t (t 4 0 + a) (j + 1) else tlM t (t 4 0 + a) j))) 93 [some (rf E 1), some (iv (j : Int)), some (iv (cmF t j (t 0 0).toNat)), some (iv (i : Int))] [] := by
    intro j hj hcont k
    have b25 := bd25 hB j
    have b36 := bd36 hB j
    induction k with
    | zero => intro i h0 h1 h2; omega
    | succ k ih =>
      intro i h0 h1 h2
      refine r_iload_n C d_Md_findTaken_93 rfl ?_
      refine r_sipush C d_Md_findTaken_94 (by decide) ?_
      refine r_icmp_ge (tgt := 145) C d_Md_findTaken_97 (by decide) (by first | assumption | exact bd_ir (by assumption) rfl | exact b2i_ir _ | exact pb_ir _ | exact ir_mk (by omega) (by omega)) (by first | assumption | exact bd_ir (by assumption) rfl | exact b2i_ir _ | exact pb_ir _ | exact ir_mk (by omega) (by omega)) (fun c97 => ?_) (fun c97 => ?_)
      · refine g_goal ?_ (hcont _)
        have hno : ∀ a : Nat, a < 260 → ¬ a < i → ¬ ruM t j (t 4 0 + a) := by
          intro a ha ha2 hz
          first
            | omega
            | exact b2i_eq c111 (ruM_dn (t := t) hz (by omega))
        congr 1
        refine fd_congr (fun a ha => ?_) (fun a ha => ?_)
        · by_cases q2 : a < i
          · rw [if_pos q2]
          · rw [if_neg q2, tnJ_s, if_neg (hno a ha q2), Int.add_zero]
        · by_cases q2 : a < i
          · rw [if_pos q2]
          · rw [if_neg q2, tlM_s, if_neg (hno a ha q2), Int.add_zero]
      · refine r_aload_n C d_Md_findTaken_100 rfl ?_
        refine r_iload_n C d_Md_findTaken_101 rfl ?_
        refine r_aload_n C d_Md_findTaken_102 rfl ?_
        refine g_Md_time C lk_Md_148 d_Md_findTaken_103 ?_
        refine r_iload_n C d_Md_findTaken_106 rfl ?_
        try simp (disch := omega) only [fd_ne, fd_39, fd_40]
        refine r_iadd C d_Md_findTaken_107 ?_
        refine r_cV2r C (k_Md_runsAt_w (j := j) (by omega) (u := t 4 0 + i) (ir_mk (by omega) (by omega)) (by rw [fd_ne (by omega)]; exact bd_ir hB rfl) (by rw [fd_ne (by omega)]; exact b25) (by rw [fd_ne (by omega)]; exact b36)) (by decide) (by decide) ml_Md_141 mn_Md_runsAt ms_Md_runsAt mc_Md_runsAt mi_Md_runsAt md_Md_runsAt (by decide) zMd rfl rfl (Nat.le_of_ble_eq_true rfl) d_Md_findTaken_108 ?_
        refine r_if_eq (tgt := 145) C d_Md_findTaken_111 (by decide) (by first | assumption | exact bd_ir (by assumption) rfl | exact b2i_ir _ | exact pb_ir _ | exact ir_mk (by omega) (by omega)) (fun c111 => ?_) (fun c111 => ?_)
        · refine g_goal ?_ (hcont _)
          have hno : ∀ a : Nat, a < 260 → ¬ a < i → ¬ ruM t j (t 4 0 + a) := by
            intro a ha ha2 hz
            first
              | omega
              | exact b2i_eq c111 (ruM_dn (t := t) hz (by omega))
          congr 1
          refine fd_congr (fun a ha => ?_) (fun a ha => ?_)
          · by_cases q2 : a < i
            · rw [if_pos q2]
            · rw [if_neg q2, tnJ_s, if_neg (hno a ha q2), Int.add_zero]
          · by_cases q2 : a < i
            · rw [if_pos q2]
            · rw [if_neg q2, tlM_s, if_neg (hno a ha q2), Int.add_zero]
        · refine r_aload_n C d_Md_findTaken_114 rfl ?_
          refine g_Md_nodesAt C lk_Md_87 d_Md_findTaken_115 ?_
          refine r_iload_n C d_Md_findTaken_118 rfl ?_
          refine r_dup2 C d_Md_findTaken_119 rfl rfl ?_
          refine x_Md_nodesAt C _ rfl (by omega) d_Md_findTaken_120 ?_
          try simp (disch := omega) only [fd_ne, fd_39, fd_40]
          rw [if_neg (show ¬ i < i by omega)]
          refine r_iload_n C d_Md_findTaken_121 rfl ?_
          refine r_iadd C d_Md_findTaken_122 ?_
          refine st_Md_nodesAt C _ rfl (by omega) d_Md_findTaken_123 ?_
          rw [fd_tuA (by omega)]
          refine r_aload_n C d_Md_findTaken_124 rfl ?_
          refine g_Md_licencesAt C lk_Md_90 d_Md_findTaken_125 ?_
          refine r_iload_n C d_Md_findTaken_128 rfl ?_
          refine r_dup2 C d_Md_findTaken_129 rfl rfl ?_
          refine x_Md_licencesAt C _ rfl (by omega) d_Md_findTaken_130 ?_
          refine r_aload_n C d_Md_findTaken_131 rfl ?_
          refine g_Md_needs C lk_Md_36 d_Md_findTaken_132 ?_
          refine r_iload_n C d_Md_findTaken_135 rfl ?_
          try simp (disch := omega) only [fd_ne, fd_39, fd_40]
          rw [if_neg (show ¬ i < i by omega)]
          refine x_Md_needs C _ rfl (by omega) d_Md_findTaken_136 ?_
          try simp (disch := omega) only [fd_ne, fd_39, fd_40]
          refine r_iadd C d_Md_findTaken_137 ?_
          refine st_Md_licencesAt C _ rfl (by omega) d_Md_findTaken_138 ?_
          rw [fd_tuB (by omega)]
          refine r_iinc_3 C d_Md_findTaken_139 ?_
          refine r_goto (tgt := 93) C d_Md_findTaken_142 (by decide) ?_
          have hr : ruM t j (t 4 0 + i) := b2i_ne c111
          refine g_goal ?_ (ih (i + 1) (Or.inr (by rw [show t 4 0 + ((i + 1 : Nat) : Int) - 1 = t 4 0 + i by omega]; exact hr)) (by omega) (by omega))
          congr 1
          refine fd_congr (fun a ha => ?_) (fun a ha => ?_)
          · by_cases q : a = i
            · subst q
              rw [if_pos rfl, if_pos (by omega), tnJ_s, if_pos hr]
            · rw [if_neg q]
              by_cases q2 : a < i
              · rw [if_pos q2, if_pos (by omega)]
              · rw [if_neg q2, if_neg (by omega)]
          · by_cases q : a = i
            · subst q
              rw [if_pos rfl, if_pos (by omega), tlM_s, if_pos hr]
            · rw [if_neg q]
              by_cases q2 : a < i
              · rw [if_pos q2, if_pos (by omega)]
              · rw [if_neg q2, if_neg (by omega)]
  have hl2a : ∀ (s : TT) (j : Nat), (∀ f a, (f ≠ 48 ∧ f ≠ 39 ∧ f ≠ 40) → s f a = t f a) → (j : Int) < t 2 0 → (∀ X : Option Value, g (sm S0 2 s) 91 [some (rf E 1), some (iv (j : Int)), some (iv (cmF t j (t 0 0).toNat)), X] []) → ∀ (k i : Nat), i ≤ (t 0 0).toNat → (t 0 0).toNat - i < k → g (sm S0 2 s) 51 [some (rf E 1), some (iv (j : Int)), some (iv (cmF t j i)), some (iv (i : Int))] [] := by
    intro s j hs hj hcont k
    induction k with
    | zero => intro i h1 h2; omega
    | succ k ih =>
      intro i h1 h2
      refine r_iload_n C d_Md_findTaken_51 rfl ?_
      refine r_aload_n C d_Md_findTaken_52 rfl ?_
      refine g_Md_racks C lk_Md_117 d_Md_findTaken_53 ?_
      rw [hs _ _ (by omega)]
      refine r_icmp_ge (tgt := 91) C d_Md_findTaken_56 (by decide) (by first | assumption | exact bd_ir (by assumption) rfl | exact b2i_ir _ | exact pb_ir _ | exact ir_mk (by omega) (by omega)) (by first | assumption | exact bd_ir (by assumption) rfl | exact b2i_ir _ | exact pb_ir _ | exact ir_mk (by omega) (by omega)) (fun c56 => ?_) (fun c56 => ?_)
      · rw [show i = (t 0 0).toNat by omega]
        exact hcont _
      · refine r_iload_n C d_Md_findTaken_59 rfl ?_
        refine r_aload_n C d_Md_findTaken_60 rfl ?_
        refine g_Md_isDrained C lk_Md_20 d_Md_findTaken_61 ?_
        refine r_iload_n C d_Md_findTaken_64 rfl ?_
        refine x_Md_isDrained C _ rfl (by omega) d_Md_findTaken_65 ?_
        rw [hs _ _ (by omega)]
        refine r_if_eq (tgt := 73) C d_Md_findTaken_66 (by decide) (by first | assumption | exact bd_ir (by assumption) rfl | exact b2i_ir _ | exact pb_ir _ | exact ir_mk (by omega) (by omega)) (fun c66 => ?_) (fun c66 => ?_)
        · refine r_aload_n C d_Md_findTaken_73 rfl ?_
          refine g_Md_on C lk_Md_69 d_Md_findTaken_74 ?_
          refine r_iconst C d_Md_findTaken_77 ?_
          refine r_iload_n C d_Md_findTaken_78 rfl ?_
          refine r_imul C d_Md_findTaken_79 ?_
          refine r_iload_n C d_Md_findTaken_80 rfl ?_
          refine r_iadd C d_Md_findTaken_81 ?_
          refine x_Md_on C (4 * j + i) (by omega) (by omega) d_Md_findTaken_82 ?_
          try rw [hs 30 _ (by omega)]
          refine r_iadd C d_Md_findTaken_83 ?_
          refine r_istore_2 C d_Md_findTaken_84 ?_
          refine r_iinc_3 C d_Md_findTaken_85 ?_
          refine r_goto (tgt := 51) C d_Md_findTaken_88 (by decide) ?_
          have h := ih (i + 1) (by omega) (by omega)
          rw [cmF_s] at h
          first
            | (rw [if_pos (by omega)] at h; exact h)
            | (rw [if_neg (by omega)] at h; exact h)
        · refine r_iconst C d_Md_findTaken_69 ?_
          refine r_goto (tgt := 83) C d_Md_findTaken_70 (by decide) ?_
          try rw [hs 30 _ (by omega)]
          refine r_iadd C d_Md_findTaken_83 ?_
          refine r_istore_2 C d_Md_findTaken_84 ?_
          refine r_iinc_3 C d_Md_findTaken_85 ?_
          refine r_goto (tgt := 51) C d_Md_findTaken_88 (by decide) ?_
          have h := ih (i + 1) (by omega) (by omega)
          rw [cmF_s] at h
          first
            | (rw [if_pos (by omega)] at h; exact h)
            | (rw [if_neg (by omega)] at h; exact h)
  have hl1 : ∀ (k i : Nat) (X Y : Option Value), i ≤ (t 2 0).toNat → (t 2 0).toNat - i < k → g (sm S0 2 (fd t (fun a => tnJ t (t 4 0 + a) i) (fun a => tlM t (t 4 0 + a) i))) 39 [some (rf E 1), some (iv (i : Int)), X, Y] [] := by
    intro k
    induction k with
    | zero => intro i X Y h1 h2; omega
    | succ k ih =>
      intro i X Y h1 h2
      refine r_iload_n C d_Md_findTaken_39 rfl ?_
      refine r_aload_n C d_Md_findTaken_40 rfl ?_
      refine g_Md_jobs C lk_Md_124 d_Md_findTaken_41 ?_
      try simp (disch := omega) only [fd_ne, fd_39, fd_40]
      refine r_icmp_ge (tgt := 151) C d_Md_findTaken_44 (by decide) (by first | assumption | exact bd_ir (by assumption) rfl | exact b2i_ir _ | exact pb_ir _ | exact ir_mk (by omega) (by omega)) (by first | assumption | exact bd_ir (by assumption) rfl | exact b2i_ir _ | exact pb_ir _ | exact ir_mk (by omega) (by omega)) (fun c44 => ?_) (fun c44 => ?_)
      · refine r_iconst C d_Md_findTaken_151 ?_
        refine r_istore_1 C d_Md_findTaken_152 ?_
        refine g_goal ?_ (hl3 ((t 3 0).toNat + 1) 0 X Y (by omega) (by omega))
        rw [show i = (t 2 0).toNat by omega]
        congr 1
        refine fd_congr (fun a ha => ?_) (fun _ _ => rfl)
        rw [show tnH t (t 4 0 + a) 0 = 0 from rfl, Int.add_zero]
      · refine r_iconst C d_Md_findTaken_47 ?_
        refine r_istore_2 C d_Md_findTaken_48 ?_
        refine r_iconst C d_Md_findTaken_49 ?_
        refine r_istore_3 C d_Md_findTaken_50 ?_
        refine hl2a _ i (fun f a hf => fd_ne hf) (by omega) (fun X => ?_) ((t 0 0).toNat + 1) 0 (by omega) (by omega)
        refine r_iconst C d_Md_findTaken_91 ?_
        refine r_istore_3 C d_Md_findTaken_92 ?_
        refine g_goal ?_ (hl2 i (by omega) (fun X => ?_) 261 0 (Or.inl rfl) (by omega) (by omega))
        · congr 1
        · refine r_iinc_1 C d_Md_findTaken_145 ?_
          refine r_goto (tgt := 39) C d_Md_findTaken_148 (by decide) ?_
          exact ih (i + 1) _ X (by omega) (by omega)
  have hl0 : ∀ (k i : Nat), i ≤ 260 → 260 - i < k → g (sm S0 2 (fz t i)) 10 [some (rf E 1), some (iv (i : Int)), none, none] [] := by
    intro k
    induction k with
    | zero => intro i h1 h2; omega
    | succ k ih =>
      intro i h1 h2
      refine r_iload_n C d_Md_findTaken_10 rfl ?_
      refine r_sipush C d_Md_findTaken_11 (by decide) ?_
      refine r_icmp_ge (tgt := 37) C d_Md_findTaken_14 (by decide) (by first | assumption | exact bd_ir (by assumption) rfl | exact b2i_ir _ | exact pb_ir _ | exact ir_mk (by omega) (by omega)) (by first | assumption | exact bd_ir (by assumption) rfl | exact b2i_ir _ | exact pb_ir _ | exact ir_mk (by omega) (by omega)) (fun c14 => ?_) (fun c14 => ?_)
      · refine r_iconst C d_Md_findTaken_37 ?_
        refine r_istore_1 C d_Md_findTaken_38 ?_
        refine g_goal ?_ (hl1 ((t 2 0).toNat + 1) 0 none none (by omega) (by omega))
        rw [show i = 260 by omega, fz_fd]
        congr 1
      · refine r_aload_n C d_Md_findTaken_17 rfl ?_
        refine g_Md_nodesAt C lk_Md_87 d_Md_findTaken_18 ?_
        refine r_iload_n C d_Md_findTaken_21 rfl ?_
        refine r_iconst C d_Md_findTaken_22 ?_
        refine st_Md_nodesAt C _ rfl (by omega) d_Md_findTaken_23 ?_
        refine r_aload_n C d_Md_findTaken_24 rfl ?_
        refine g_Md_licencesAt C lk_Md_90 d_Md_findTaken_25 ?_
        refine r_iload_n C d_Md_findTaken_28 rfl ?_
        refine r_iconst C d_Md_findTaken_29 ?_
        refine st_Md_licencesAt C _ rfl (by omega) d_Md_findTaken_30 ?_
        rw [fz_s]
        refine r_iinc_1 C d_Md_findTaken_31 ?_
        refine r_goto (tgt := 10) C d_Md_findTaken_34 (by decide) ?_
        exact ih (i + 1) (by omega) (by omega)
  refine r_aload_n C d_Md_findTaken_0 rfl ?_
  refine r_aload_n C d_Md_findTaken_1 rfl ?_
  refine r_cV0r C (k_Md_room hB) (by decide) (by decide) ml_Md_151 mn_Md_room ms_Md_room mc_Md_room mi_Md_room md_Md_room (by decide) zMd rfl rfl (Nat.le_of_ble_eq_true rfl) d_Md_findTaken_2 ?_
  refine p_Md_roomNow C lk_Md_165 d_Md_findTaken_5 ?_
  rw [fz_0]
  refine r_iconst C d_Md_findTaken_8 ?_
  refine r_istore_1 C d_Md_findTaken_9 ?_
  exact hl0 261 0 (by omega) (by omega)
