theorem b2i_ne {p : Prop} [Decidable p] (h : ¬ b2i p = 0) : p := by
  by_cases q : p
  · exact q
  · exact absurd (by rw [b2i, if_neg q]) h
theorem b2i_eq {p : Prop} [Decidable p] (h : b2i p = 0) : ¬ p := by
  intro q; rw [b2i, if_pos q] at h; omega
theorem k_Md_isRack {l : Launch} {E : Ew} {S0 : WW} {t : TT} (hB : Bd t) {n : Int} (hn : ir n) : Kf l y_Md_isRack b_Md_isRack 2 (some .boolean) 1 E (sm S0 2 t) [rf E 1, iv n] (some (iv (b2i (0 ≤ n ∧ n ≤ t 0 0 - 1)))) (sm S0 2 t) := by
  refine KfZ rfl rfl (Nat.le_of_ble_eq_true rfl) (fun g C R => ?_)
  show g (sm S0 2 t) 0 [some (rf E 1), some (iv n)] []
  have b0 := bd0 hB 0
  refine r_iload_n C d_Md_isRack_0 rfl ?_
  refine r_iconst C d_Md_isRack_1 ?_
  refine r_aload_n C d_Md_isRack_2 rfl ?_
  refine g_Md_racks C lk_Md_117 d_Md_isRack_3 ?_
  refine r_iconst C d_Md_isRack_6 ?_
  refine r_isub C d_Md_isRack_7 ?_
  refine r_cS3r C (k_Md_in hn ir_0 (ir_mk (by omega) (by omega))) (by decide) (by decide) ml_Md_120 mt_Md_in mc_Md_in mi_Md_in md_Md_in (Nat.le_of_ble_eq_true rfl) d_Md_isRack_8 ?_
  exact R d_Md_isRack_11 (by unfold b2i; split <;> omega) rfl rfl
theorem k_Md_isJob {l : Launch} {E : Ew} {S0 : WW} {t : TT} (hB : Bd t) {n : Int} (hn : ir n) : Kf l y_Md_isJob b_Md_isJob 2 (some .boolean) 1 E (sm S0 2 t) [rf E 1, iv n] (some (iv (b2i (0 ≤ n ∧ n ≤ t 2 0 - 1)))) (sm S0 2 t) := by
  refine KfZ rfl rfl (Nat.le_of_ble_eq_true rfl) (fun g C R => ?_)
  show g (sm S0 2 t) 0 [some (rf E 1), some (iv n)] []
  have b2 := bd2 hB 0
  refine r_iload_n C d_Md_isJob_0 rfl ?_
  refine r_iconst C d_Md_isJob_1 ?_
  refine r_aload_n C d_Md_isJob_2 rfl ?_
  refine g_Md_jobs C lk_Md_124 d_Md_isJob_3 ?_
  refine r_iconst C d_Md_isJob_6 ?_
  refine r_isub C d_Md_isJob_7 ?_
  refine r_cS3r C (k_Md_in hn ir_0 (ir_mk (by omega) (by omega))) (by decide) (by decide) ml_Md_120 mt_Md_in mc_Md_in mi_Md_in md_Md_in (Nat.le_of_ble_eq_true rfl) d_Md_isJob_8 ?_
  exact R d_Md_isJob_11 (by unfold b2i; split <;> omega) rfl rfl
def le1 (t : TT) (j n : Nat) : TT := fun f a => if f = 30 ∧ 4 * j ≤ a ∧ a < 4 * j + n then 0 else t f a
def leM (t : TT) (j : Nat) : TT := tu (le1 t j 4) 35 j 0
theorem le1_0 (t : TT) (j : Nat) : le1 t j 0 = t := by
  funext f a; unfold le1; rw [if_neg (by omega)]
theorem le1_s (t : TT) (j n : Nat) : tu (le1 t j n) 30 (4 * j + n) 0 = le1 t j (n + 1) := by
  funext f a; simp only [tu, le1]; grind
theorem le1_ne {t : TT} {j n f a : Nat} (h : f ≠ 30) : le1 t j n f a = t f a := by unfold le1; rw [if_neg (by omega)]
theorem leM_ne {t : TT} {j f a : Nat} (h : f ≠ 30 ∧ f ≠ 35) : leM t j f a = t f a := by unfold leM; rw [tu_ne (by omega), le1_ne h.1]
theorem k_Md_leave {l : Launch} {E : Ew} {S0 : WW} {t : TT} {j : Nat} (hj : j < 30) : Kf l y_Md_leave b_Md_leave 3 none 0 E (sm S0 2 t) [rf E 1, iv (j : Int)] none (sm S0 2 (leM t j)) := by
  refine KfV rfl rfl (Nat.le_of_ble_eq_true rfl) (fun g C R => ?_)
  show g (sm S0 2 t) 0 [some (rf E 1), some (iv (j : Int)), none] []
  have hl : ∀ (k i : Nat), i ≤ 4 → 4 - i < k → g (sm S0 2 (le1 t j i)) 2 [some (rf E 1), some (iv (j : Int)), some (iv (i : Int))] [] := by
    intro k
    induction k with
    | zero => intro i h1 h2; omega
    | succ k ih =>
      intro i h1 h2
      refine r_iload_n C d_Md_leave_2 rfl ?_
      refine r_iconst C d_Md_leave_3 ?_
      refine r_icmp_ge (tgt := 24) C d_Md_leave_4 (by decide) (by first | assumption | exact bd_ir (by assumption) rfl | exact b2i_ir _ | exact pb_ir _ | exact ir_mk (by omega) (by omega)) (by first | assumption | exact bd_ir (by assumption) rfl | exact b2i_ir _ | exact pb_ir _ | exact ir_mk (by omega) (by omega)) (fun c4 => ?_) (fun c4 => ?_)
      · refine r_aload_n C d_Md_leave_24 rfl ?_
        refine g_Md_ran C lk_Md_63 d_Md_leave_25 ?_
        refine r_iload_n C d_Md_leave_28 rfl ?_
        refine r_iconst C d_Md_leave_29 ?_
        refine st_Md_ran C _ rfl (by omega) d_Md_leave_30 ?_
        exact R d_Md_leave_31 (by rw [show i = 4 by omega]; rfl)
      · refine r_aload_n C d_Md_leave_7 rfl ?_
        refine g_Md_on C lk_Md_69 d_Md_leave_8 ?_
        refine r_iconst C d_Md_leave_11 ?_
        refine r_iload_n C d_Md_leave_12 rfl ?_
        refine r_imul C d_Md_leave_13 ?_
        refine r_iload_n C d_Md_leave_14 rfl ?_
        refine r_iadd C d_Md_leave_15 ?_
        refine r_iconst C d_Md_leave_16 ?_
        refine st_Md_on C (4 * j + i) (by omega) (by omega) d_Md_leave_17 ?_
        rw [le1_s]
        refine r_iinc_2 C d_Md_leave_18 ?_
        refine r_goto (tgt := 2) C d_Md_leave_21 (by decide) ?_
        exact ih (i + 1) (by omega) (by omega)
  refine r_iconst C d_Md_leave_0 ?_
  refine r_istore_2 C d_Md_leave_1 ?_
  have h := hl 5 0 (by omega) (by omega)
  rw [le1_0] at h
  exact h
theorem k_Md_room {l : Launch} {E : Ew} {S0 : WW} {t : TT} (hB : Bd t)  : Kf l y_Md_room b_Md_room 3 (some .int) 0 E (sm S0 2 t) [rf E 1] (some (iv (roomF t (t 0 0).toNat))) (sm S0 2 t) := by
  refine KfI rfl rfl (Nat.le_of_ble_eq_true rfl) (fun g C R => ?_)
  show g (sm S0 2 t) 0 [some (rf E 1), none, none] []
  have b0 := bd0 hB 0
  have hl : ∀ (k i : Nat), i ≤ (t 0 0).toNat → (t 0 0).toNat - i < k → g (sm S0 2 t) 4 [some (rf E 1), some (iv (roomF t i)), some (iv (i : Int))] [] := by
    intro k
    induction k with
    | zero => intro i h1 h2; omega
    | succ k ih =>
      intro i h1 h2
      refine r_iload_n C d_Md_room_4 rfl ?_
      refine r_aload_n C d_Md_room_5 rfl ?_
      refine g_Md_racks C lk_Md_117 d_Md_room_6 ?_
      refine r_icmp_ge (tgt := 40) C d_Md_room_9 (by decide) (by first | assumption | exact bd_ir (by assumption) rfl | exact b2i_ir _ | exact pb_ir _ | exact ir_mk (by omega) (by omega)) (by first | assumption | exact bd_ir (by assumption) rfl | exact b2i_ir _ | exact pb_ir _ | exact ir_mk (by omega) (by omega)) (fun c9 => ?_) (fun c9 => ?_)
      · refine r_iload_n C d_Md_room_40 rfl ?_
        exact R d_Md_room_41 (by rw [show i = (t 0 0).toNat by omega]) rfl
      · refine r_iload_n C d_Md_room_12 rfl ?_
        refine r_aload_n C d_Md_room_13 rfl ?_
        refine g_Md_isDrained C lk_Md_20 d_Md_room_14 ?_
        refine r_iload_n C d_Md_room_17 rfl ?_
        refine x_Md_isDrained C _ rfl (by omega) d_Md_room_18 ?_
        refine r_if_eq (tgt := 26) C d_Md_room_19 (by decide) (by first | assumption | exact bd_ir (by assumption) rfl | exact b2i_ir _ | exact pb_ir _ | exact ir_mk (by omega) (by omega)) (fun c19 => ?_) (fun c19 => ?_)
        · refine r_aload_n C d_Md_room_26 rfl ?_
          refine g_Md_nodes C lk_Md_16 d_Md_room_27 ?_
          refine r_iload_n C d_Md_room_30 rfl ?_
          refine x_Md_nodes C _ rfl (by omega) d_Md_room_31 ?_
          refine r_iadd C d_Md_room_32 ?_
          refine r_istore_1 C d_Md_room_33 ?_
          refine r_iinc_2 C d_Md_room_34 ?_
          refine r_goto (tgt := 4) C d_Md_room_37 (by decide) ?_
          have h := ih (i + 1) (by omega) (by omega)
          rw [roomF_s] at h
          first
            | (rw [if_pos (by omega)] at h; exact h)
            | (rw [if_neg (by omega)] at h; exact h)
        · refine r_iconst C d_Md_room_22 ?_
          refine r_goto (tgt := 32) C d_Md_room_23 (by decide) ?_
          refine r_iadd C d_Md_room_32 ?_
          refine r_istore_1 C d_Md_room_33 ?_
          refine r_iinc_2 C d_Md_room_34 ?_
          refine r_goto (tgt := 4) C d_Md_room_37 (by decide) ?_
          have h := ih (i + 1) (by omega) (by omega)
          rw [roomF_s] at h
          first
            | (rw [if_pos (by omega)] at h; exact h)
            | (rw [if_neg (by omega)] at h; exact h)
  refine r_iconst C d_Md_room_0 ?_
  refine r_istore_1 C d_Md_room_1 ?_
  refine r_iconst C d_Md_room_2 ?_
  refine r_istore_2 C d_Md_room_3 ?_
  exact hl ((t 0 0).toNat + 1) 0 (by omega) (by omega)
theorem k_Md_leftOf {l : Launch} {E : Ew} {S0 : WW} {t : TT} {j : Nat} (hj : j < 30) : Kf l y_Md_leftOf b_Md_leftOf 2 (some .int) 0 E (sm S0 2 t) [rf E 1, iv (j : Int)] (some (iv (t 20 j - t 27 j))) (sm S0 2 t) := by
  refine KfI rfl rfl (Nat.le_of_ble_eq_true rfl) (fun g C R => ?_)
  show g (sm S0 2 t) 0 [some (rf E 1), some (iv (j : Int))] []
  refine r_aload_n C d_Md_leftOf_0 rfl ?_
  refine g_Md_limit C lk_Md_39 d_Md_leftOf_1 ?_
  refine r_iload_n C d_Md_leftOf_4 rfl ?_
  refine x_Md_limit C _ rfl (by omega) d_Md_leftOf_5 ?_
  refine r_aload_n C d_Md_leftOf_6 rfl ?_
  refine g_Md_saved C lk_Md_60 d_Md_leftOf_7 ?_
  refine r_iload_n C d_Md_leftOf_10 rfl ?_
  refine x_Md_saved C _ rfl (by omega) d_Md_leftOf_11 ?_
  refine r_isub C d_Md_leftOf_12 ?_
  exact R d_Md_leftOf_13 rfl rfl
abbrev ruM (t : TT) (j : Nat) (u : Int) : Prop := t 24 j = 1 ∧ u < t 25 j + t 36 j
theorem k_Md_runsAt {l : Launch} {E : Ew} {S0 : WW} {t : TT} (hB : Bd t) {j : Nat} (hj : j < 30) {u : Int} (hu : ir u) : Kf l y_Md_runsAt b_Md_runsAt 3 (some .boolean) 0 E (sm S0 2 t) [rf E 1, iv (j : Int), iv u] (some (iv (b2i (ruM t j u)))) (sm S0 2 t) := by
  refine KfZ rfl rfl (Nat.le_of_ble_eq_true rfl) (fun g C R => ?_)
  show g (sm S0 2 t) 0 [some (rf E 1), some (iv (j : Int)), some (iv u)] []
  have b25 := bd25 hB j
  have b36 := bd36 hB j
  refine r_aload_n C d_Md_runsAt_0 rfl ?_
  refine g_Md_state C lk_Md_51 d_Md_runsAt_1 ?_
  refine r_iload_n C d_Md_runsAt_4 rfl ?_
  refine x_Md_state C _ rfl (by omega) d_Md_runsAt_5 ?_
  refine r_iconst C d_Md_runsAt_6 ?_
  refine r_icmp_ne (tgt := 31) C d_Md_runsAt_7 (by decide) (by first | assumption | exact bd_ir (by assumption) rfl | exact b2i_ir _ | exact pb_ir _ | exact ir_mk (by omega) (by omega)) (by first | assumption | exact bd_ir (by assumption) rfl | exact b2i_ir _ | exact pb_ir _ | exact ir_mk (by omega) (by omega)) (fun c7 => ?_) (fun c7 => ?_)
  · refine r_iconst C d_Md_runsAt_31 ?_
    exact R d_Md_runsAt_32 (by omega) (by unfold b2i ruM; split <;> omega) rfl
  · refine r_aload_n C d_Md_runsAt_10 rfl ?_
    refine g_Md_began C lk_Md_54 d_Md_runsAt_11 ?_
    refine r_iload_n C d_Md_runsAt_14 rfl ?_
    refine x_Md_began C _ rfl (by omega) d_Md_runsAt_15 ?_
    refine r_aload_n C d_Md_runsAt_16 rfl ?_
    refine g_Md_leftAt C lk_Md_66 d_Md_runsAt_17 ?_
    refine r_iload_n C d_Md_runsAt_20 rfl ?_
    refine x_Md_leftAt C _ rfl (by omega) d_Md_runsAt_21 ?_
    refine r_iadd C d_Md_runsAt_22 ?_
    refine r_iload_n C d_Md_runsAt_23 rfl ?_
    refine r_icmp_le (tgt := 31) C d_Md_runsAt_24 (by decide) (by first | assumption | exact bd_ir (by assumption) rfl | exact b2i_ir _ | exact pb_ir _ | exact ir_mk (by omega) (by omega)) (by first | assumption | exact bd_ir (by assumption) rfl | exact b2i_ir _ | exact pb_ir _ | exact ir_mk (by omega) (by omega)) (fun c24 => ?_) (fun c24 => ?_)
    · refine r_iconst C d_Md_runsAt_31 ?_
      exact R d_Md_runsAt_32 (by omega) (by unfold b2i ruM; split <;> omega) rfl
    · refine r_iconst C d_Md_runsAt_27 ?_
      refine r_goto (tgt := 32) C d_Md_runsAt_28 (by decide) ?_
      exact R d_Md_runsAt_32 (by omega) (by unfold b2i ruM; split <;> omega) rfl
def cmF (t : TT) (j n : Nat) : Int := sumN (fun r => if t 14 r = 0 then t 30 (4 * j + r) else 0) n
theorem cmF_s (t : TT) (j n : Nat) : cmF t j (n + 1) = cmF t j n + if t 14 n = 0 then t 30 (4 * j + n) else 0 := rfl
def tnJ (t : TT) (u : Int) (n : Nat) : Int := sumN (fun j => if ruM t j u then cmF t j (t 0 0).toNat else 0) n
theorem tnJ_s (t : TT) (u : Int) (n : Nat) : tnJ t u (n + 1) = tnJ t u n + if ruM t n u then cmF t n (t 0 0).toNat else 0 := rfl
def tnH (t : TT) (u : Int) (n : Nat) : Int := sumN (fun k => if t 33 k ≤ u ∧ u < t 34 k then t 31 k else 0) n
theorem tnH_s (t : TT) (u : Int) (n : Nat) : tnH t u (n + 1) = tnH t u n + if t 33 n ≤ u ∧ u < t 34 n then t 31 n else 0 := rfl
def tnM (t : TT) (u : Int) : Int := tnJ t u (t 2 0).toNat + tnH t u (t 3 0).toNat
def tlM (t : TT) (u : Int) (n : Nat) : Int := sumN (fun j => if ruM t j u then t 19 j else 0) n
theorem tlM_s (t : TT) (u : Int) (n : Nat) : tlM t u (n + 1) = tlM t u n + if ruM t n u then t 19 n else 0 := rfl
theorem k_Md_takenNodes {l : Launch} {E : Ew} {S0 : WW} {t : TT} (hB : Bd t) (h8 : t 3 0 ≤ 8) {u : Int} (hu : ir u) : Kf l y_Md_takenNodes b_Md_takenNodes 5 (some .int) 1 E (sm S0 2 t) [rf E 1, iv u] (some (iv (tnM t u))) (sm S0 2 t) := by
  refine KfI rfl rfl (Nat.le_of_ble_eq_true rfl) (fun g C R => ?_)
  show g (sm S0 2 t) 0 [some (rf E 1), some (iv u), none, none, none] []
  have b0 := bd0 hB 0
  have b2 := bd2 hB 0
  have b3 := bd3 hB 0
  have b3x : t 3 0 ≤ 8 := h8
  have hl3 : ∀ (k i : Nat) (X : Option Value), i ≤ (t 3 0).toNat → (t 3 0).toNat - i < k → g (sm S0 2 t) 75 [some (rf E 1), some (iv u), some (iv (tnJ t u (t 2 0).toNat + tnH t u i)), some (iv (i : Int)), X] [] := by
    intro k
    induction k with
    | zero => intro i X h1 h2; omega
    | succ k ih =>
      intro i X h1 h2
      refine r_iload_n C d_Md_takenNodes_75 rfl ?_
      refine r_aload_n C d_Md_takenNodes_76 rfl ?_
      refine g_Md_bookings C lk_Md_145 d_Md_takenNodes_77 ?_
      refine r_icmp_ge (tgt := 122) C d_Md_takenNodes_80 (by decide) (by first | assumption | exact bd_ir (by assumption) rfl | exact b2i_ir _ | exact pb_ir _ | exact ir_mk (by omega) (by omega)) (by first | assumption | exact bd_ir (by assumption) rfl | exact b2i_ir _ | exact pb_ir _ | exact ir_mk (by omega) (by omega)) (fun c80 => ?_) (fun c80 => ?_)
      · refine r_iload_n C d_Md_takenNodes_122 rfl ?_
        exact R d_Md_takenNodes_123 (by rw [show i = (t 3 0).toNat by omega]; rfl) rfl
      · refine r_iload_n C d_Md_takenNodes_83 rfl ?_
        refine r_iload_n C d_Md_takenNodes_84 rfl ?_
        refine r_aload_n C d_Md_takenNodes_85 rfl ?_
        refine g_Md_bookFrom C lk_Md_75 d_Md_takenNodes_86 ?_
        refine r_iload_n C d_Md_takenNodes_89 rfl ?_
        refine x_Md_bookFrom C _ rfl (by omega) d_Md_takenNodes_90 ?_
        refine r_icmp_lt (tgt := 113) C d_Md_takenNodes_91 (by decide) (by first | assumption | exact bd_ir (by assumption) rfl | exact b2i_ir _ | exact pb_ir _ | exact ir_mk (by omega) (by omega)) (by first | assumption | exact bd_ir (by assumption) rfl | exact b2i_ir _ | exact pb_ir _ | exact ir_mk (by omega) (by omega)) (fun c91 => ?_) (fun c91 => ?_)
        · refine r_iconst C d_Md_takenNodes_113 ?_
          refine r_iadd C d_Md_takenNodes_114 ?_
          refine r_istore_2 C d_Md_takenNodes_115 ?_
          refine r_iinc_3 C d_Md_takenNodes_116 ?_
          refine r_goto (tgt := 75) C d_Md_takenNodes_119 (by decide) ?_
          have h := fun X => ih (i + 1) X (by omega) (by omega)
          rw [tnH_s] at h
          first
            | (rw [if_pos (by omega), ← Int.add_assoc] at h; exact h _)
            | (rw [if_neg (by omega)] at h; rw [Int.add_zero]; rw [Int.add_zero] at h; exact h _)
        · refine r_iload_n C d_Md_takenNodes_94 rfl ?_
          refine r_aload_n C d_Md_takenNodes_95 rfl ?_
          refine g_Md_bookTo C lk_Md_78 d_Md_takenNodes_96 ?_
          refine r_iload_n C d_Md_takenNodes_99 rfl ?_
          refine x_Md_bookTo C _ rfl (by omega) d_Md_takenNodes_100 ?_
          refine r_icmp_ge (tgt := 113) C d_Md_takenNodes_101 (by decide) (by first | assumption | exact bd_ir (by assumption) rfl | exact b2i_ir _ | exact pb_ir _ | exact ir_mk (by omega) (by omega)) (by first | assumption | exact bd_ir (by assumption) rfl | exact b2i_ir _ | exact pb_ir _ | exact ir_mk (by omega) (by omega)) (fun c101 => ?_) (fun c101 => ?_)
          · refine r_iconst C d_Md_takenNodes_113 ?_
            refine r_iadd C d_Md_takenNodes_114 ?_
            refine r_istore_2 C d_Md_takenNodes_115 ?_
            refine r_iinc_3 C d_Md_takenNodes_116 ?_
            refine r_goto (tgt := 75) C d_Md_takenNodes_119 (by decide) ?_
            have h := fun X => ih (i + 1) X (by omega) (by omega)
            rw [tnH_s] at h
            first
              | (rw [if_pos (by omega), ← Int.add_assoc] at h; exact h _)
              | (rw [if_neg (by omega)] at h; rw [Int.add_zero]; rw [Int.add_zero] at h; exact h _)
          · refine r_aload_n C d_Md_takenNodes_104 rfl ?_
            refine g_Md_bookNodes C lk_Md_72 d_Md_takenNodes_105 ?_
            refine r_iload_n C d_Md_takenNodes_108 rfl ?_
            refine x_Md_bookNodes C _ rfl (by omega) d_Md_takenNodes_109 ?_
            refine r_goto (tgt := 114) C d_Md_takenNodes_110 (by decide) ?_
            refine r_iadd C d_Md_takenNodes_114 ?_
            refine r_istore_2 C d_Md_takenNodes_115 ?_
            refine r_iinc_3 C d_Md_takenNodes_116 ?_
            refine r_goto (tgt := 75) C d_Md_takenNodes_119 (by decide) ?_
            have h := fun X => ih (i + 1) X (by omega) (by omega)
            rw [tnH_s] at h
            first
              | (rw [if_pos (by omega), ← Int.add_assoc] at h; exact h _)
              | (rw [if_neg (by omega)] at h; rw [Int.add_zero]; rw [Int.add_zero] at h; exact h _)
  have hl2 : ∀ (j : Nat), (j : Int) < t 2 0 → (∀ (v : Int) (X : Option Value), v = tnJ t u (j + 1) → g (sm S0 2 t) 67 [some (rf E 1), some (iv u), some (iv v), some (iv (j : Int)), X] []) → ∀ (k i : Nat), (i = 0 ∨ ruM t j u) → i ≤ (t 0 0).toNat → (t 0 0).toNat - i < k → g (sm S0 2 t) 15 [some (rf E 1), some (iv u), some (iv (tnJ t u j + cmF t j i)), some (iv (j : Int)), some (iv (i : Int))] [] := by
    intro j hj hk k
    induction k with
    | zero => intro i h0 h1 h2; omega
    | succ k ih =>
      intro i h0 h1 h2
      refine r_iload C d_Md_takenNodes_15 rfl ?_
      refine r_aload_n C d_Md_takenNodes_17 rfl ?_
      refine g_Md_racks C lk_Md_117 d_Md_takenNodes_18 ?_
      refine r_icmp_ge (tgt := 67) C d_Md_takenNodes_21 (by decide) (by first | assumption | exact bd_ir (by assumption) rfl | exact b2i_ir _ | exact pb_ir _ | exact ir_mk (by omega) (by omega)) (by first | assumption | exact bd_ir (by assumption) rfl | exact b2i_ir _ | exact pb_ir _ | exact ir_mk (by omega) (by omega)) (fun c21 => ?_) (fun c21 => ?_)
      · refine hk _ _ ?_
        rw [tnJ_s]
        first
          | (rw [if_neg (b2i_eq c30)]
             rcases h0 with h0 | h0
             · subst h0; rfl
             · exact absurd h0 (b2i_eq c30))
          | (by_cases q : ruM t j u
             · rw [if_pos q, show i = (t 0 0).toNat by omega]
             · rw [if_neg q]
               rcases h0 with h0 | h0
               · subst h0; rfl
               · exact absurd h0 q)
      · refine r_aload_n C d_Md_takenNodes_24 rfl ?_
        refine r_iload_n C d_Md_takenNodes_25 rfl ?_
        refine r_iload_n C d_Md_takenNodes_26 rfl ?_
        refine r_cV2r C (k_Md_runsAt hB (j := j) (by omega) hu) (by decide) (by decide) ml_Md_141 mn_Md_runsAt ms_Md_runsAt mc_Md_runsAt mi_Md_runsAt md_Md_runsAt (by decide) zMd rfl rfl (Nat.le_of_ble_eq_true rfl) d_Md_takenNodes_27 ?_
        refine r_if_eq (tgt := 67) C d_Md_takenNodes_30 (by decide) (by first | assumption | exact bd_ir (by assumption) rfl | exact b2i_ir _ | exact pb_ir _ | exact ir_mk (by omega) (by omega)) (fun c30 => ?_) (fun c30 => ?_)
        · refine hk _ _ ?_
          rw [tnJ_s]
          first
            | (rw [if_neg (b2i_eq c30)]
               rcases h0 with h0 | h0
               · subst h0; rfl
               · exact absurd h0 (b2i_eq c30))
            | (by_cases q : ruM t j u
               · rw [if_pos q, show i = (t 0 0).toNat by omega]
               · rw [if_neg q]
                 rcases h0 with h0 | h0
                 · subst h0; rfl
                 · exact absurd h0 q)
        · refine r_iload_n C d_Md_takenNodes_33 rfl ?_
          refine r_aload_n C d_Md_takenNodes_34 rfl ?_
          refine g_Md_isDrained C lk_Md_20 d_Md_takenNodes_35 ?_
          refine r_iload C d_Md_takenNodes_38 rfl ?_
          refine x_Md_isDrained C _ rfl (by omega) d_Md_takenNodes_40 ?_
          refine r_if_eq (tgt := 48) C d_Md_takenNodes_41 (by decide) (by first | assumption | exact bd_ir (by assumption) rfl | exact b2i_ir _ | exact pb_ir _ | exact ir_mk (by omega) (by omega)) (fun c41 => ?_) (fun c41 => ?_)
          · refine r_aload_n C d_Md_takenNodes_48 rfl ?_
            refine g_Md_on C lk_Md_69 d_Md_takenNodes_49 ?_
            refine r_iconst C d_Md_takenNodes_52 ?_
            refine r_iload_n C d_Md_takenNodes_53 rfl ?_
            refine r_imul C d_Md_takenNodes_54 ?_
            refine r_iload C d_Md_takenNodes_55 rfl ?_
            refine r_iadd C d_Md_takenNodes_57 ?_
            refine x_Md_on C (4 * j + i) (by omega) (by omega) d_Md_takenNodes_58 ?_
            refine r_iadd C d_Md_takenNodes_59 ?_
            refine r_istore_2 C d_Md_takenNodes_60 ?_
            refine r_iinc_4 C d_Md_takenNodes_61 ?_
            refine r_goto (tgt := 15) C d_Md_takenNodes_64 (by decide) ?_
            have h := ih (i + 1) (Or.inr (b2i_ne c30)) (by omega) (by omega)
            rw [cmF_s, ← Int.add_assoc] at h
            first
              | (rw [if_pos (by omega)] at h; exact h)
              | (rw [if_neg (by omega)] at h; exact h)
          · refine r_iconst C d_Md_takenNodes_44 ?_
            refine r_goto (tgt := 59) C d_Md_takenNodes_45 (by decide) ?_
            refine r_iadd C d_Md_takenNodes_59 ?_
            refine r_istore_2 C d_Md_takenNodes_60 ?_
            refine r_iinc_4 C d_Md_takenNodes_61 ?_
            refine r_goto (tgt := 15) C d_Md_takenNodes_64 (by decide) ?_
            have h := ih (i + 1) (Or.inr (b2i_ne c30)) (by omega) (by omega)
            rw [cmF_s, ← Int.add_assoc] at h
            first
              | (rw [if_pos (by omega)] at h; exact h)
              | (rw [if_neg (by omega)] at h; exact h)
  have hl1 : ∀ (k i : Nat) (X : Option Value), i ≤ (t 2 0).toNat → (t 2 0).toNat - i < k → g (sm S0 2 t) 4 [some (rf E 1), some (iv u), some (iv (tnJ t u i)), some (iv (i : Int)), X] [] := by
    intro k
    induction k with
    | zero => intro i X h1 h2; omega
    | succ k ih =>
      intro i X h1 h2
      refine r_iload_n C d_Md_takenNodes_4 rfl ?_
      refine r_aload_n C d_Md_takenNodes_5 rfl ?_
      refine g_Md_jobs C lk_Md_124 d_Md_takenNodes_6 ?_
      refine r_icmp_ge (tgt := 73) C d_Md_takenNodes_9 (by decide) (by first | assumption | exact bd_ir (by assumption) rfl | exact b2i_ir _ | exact pb_ir _ | exact ir_mk (by omega) (by omega)) (by first | assumption | exact bd_ir (by assumption) rfl | exact b2i_ir _ | exact pb_ir _ | exact ir_mk (by omega) (by omega)) (fun c9 => ?_) (fun c9 => ?_)
      · refine r_iconst C d_Md_takenNodes_73 ?_
        refine r_istore_3 C d_Md_takenNodes_74 ?_
        have h := hl3 ((t 3 0).toNat + 1) 0 X (by omega) (by omega)
        rw [show tnH t u 0 = 0 from rfl, Int.add_zero] at h
        rw [show i = (t 2 0).toNat by omega]
        exact h
      · refine r_iconst C d_Md_takenNodes_12 ?_
        refine r_istore_4 C d_Md_takenNodes_13 ?_
        have h := hl2 i (by omega) (fun v X hv => by
          rw [hv]
          refine r_iinc_3 C d_Md_takenNodes_67 ?_
          refine r_goto (tgt := 4) C d_Md_takenNodes_70 (by decide) ?_
          exact ih (i + 1) X (by omega) (by omega)) ((t 0 0).toNat + 1) 0 (Or.inl rfl) (by omega) (by omega)
        rw [show cmF t i 0 = 0 from rfl, Int.add_zero] at h
        exact h
  refine r_iconst C d_Md_takenNodes_0 ?_
  refine r_istore_2 C d_Md_takenNodes_1 ?_
  refine r_iconst C d_Md_takenNodes_2 ?_
  refine r_istore_3 C d_Md_takenNodes_3 ?_
  exact hl1 ((t 2 0).toNat + 1) 0 none (by omega) (by omega)
theorem k_Md_takenLicences {l : Launch} {E : Ew} {S0 : WW} {t : TT} (hB : Bd t) {u : Int} (hu : ir u) : Kf l y_Md_takenLicences b_Md_takenLicences 4 (some .int) 1 E (sm S0 2 t) [rf E 1, iv u] (some (iv (tlM t u (t 2 0).toNat))) (sm S0 2 t) := by
  refine KfI rfl rfl (Nat.le_of_ble_eq_true rfl) (fun g C R => ?_)
  show g (sm S0 2 t) 0 [some (rf E 1), some (iv u), none, none] []
  have b2 := bd2 hB 0
  have hl : ∀ (k i : Nat), i ≤ (t 2 0).toNat → (t 2 0).toNat - i < k → g (sm S0 2 t) 4 [some (rf E 1), some (iv u), some (iv (tlM t u i)), some (iv (i : Int))] [] := by
    intro k
    induction k with
    | zero => intro i h1 h2; omega
    | succ k ih =>
      intro i h1 h2
      refine r_iload_n C d_Md_takenLicences_4 rfl ?_
      refine r_aload_n C d_Md_takenLicences_5 rfl ?_
      refine g_Md_jobs C lk_Md_124 d_Md_takenLicences_6 ?_
      refine r_icmp_ge (tgt := 40) C d_Md_takenLicences_9 (by decide) (by first | assumption | exact bd_ir (by assumption) rfl | exact b2i_ir _ | exact pb_ir _ | exact ir_mk (by omega) (by omega)) (by first | assumption | exact bd_ir (by assumption) rfl | exact b2i_ir _ | exact pb_ir _ | exact ir_mk (by omega) (by omega)) (fun c9 => ?_) (fun c9 => ?_)
      · refine r_iload_n C d_Md_takenLicences_40 rfl ?_
        exact R d_Md_takenLicences_41 (by rw [show i = (t 2 0).toNat by omega]) rfl
      · refine r_iload_n C d_Md_takenLicences_12 rfl ?_
        refine r_aload_n C d_Md_takenLicences_13 rfl ?_
        refine r_iload_n C d_Md_takenLicences_14 rfl ?_
        refine r_iload_n C d_Md_takenLicences_15 rfl ?_
        refine r_cV2r C (k_Md_runsAt hB (j := i) (by omega) hu) (by decide) (by decide) ml_Md_141 mn_Md_runsAt ms_Md_runsAt mc_Md_runsAt mi_Md_runsAt md_Md_runsAt (by decide) zMd rfl rfl (Nat.le_of_ble_eq_true rfl) d_Md_takenLicences_16 ?_
        refine r_if_eq (tgt := 31) C d_Md_takenLicences_19 (by decide) (by first | assumption | exact bd_ir (by assumption) rfl | exact b2i_ir _ | exact pb_ir _ | exact ir_mk (by omega) (by omega)) (fun c19 => ?_) (fun c19 => ?_)
        · refine r_iconst C d_Md_takenLicences_31 ?_
          refine r_iadd C d_Md_takenLicences_32 ?_
          refine r_istore_2 C d_Md_takenLicences_33 ?_
          refine r_iinc_3 C d_Md_takenLicences_34 ?_
          refine r_goto (tgt := 4) C d_Md_takenLicences_37 (by decide) ?_
          have h := ih (i + 1) (by omega) (by omega)
          rw [tlM_s] at h
          first
            | (rw [if_neg (b2i_eq c19)] at h; exact h)
            | (rw [if_pos (b2i_ne c19)] at h; exact h)
        · refine r_aload_n C d_Md_takenLicences_22 rfl ?_
          refine g_Md_needs C lk_Md_36 d_Md_takenLicences_23 ?_
          refine r_iload_n C d_Md_takenLicences_26 rfl ?_
          refine x_Md_needs C _ rfl (by omega) d_Md_takenLicences_27 ?_
          refine r_goto (tgt := 32) C d_Md_takenLicences_28 (by decide) ?_
          refine r_iadd C d_Md_takenLicences_32 ?_
          refine r_istore_2 C d_Md_takenLicences_33 ?_
          refine r_iinc_3 C d_Md_takenLicences_34 ?_
          refine r_goto (tgt := 4) C d_Md_takenLicences_37 (by decide) ?_
          have h := ih (i + 1) (by omega) (by omega)
          rw [tlM_s] at h
          first
            | (rw [if_neg (b2i_eq c19)] at h; exact h)
            | (rw [if_pos (b2i_ne c19)] at h; exact h)
  refine r_iconst C d_Md_takenLicences_0 ?_
  refine r_istore_2 C d_Md_takenLicences_1 ?_
  refine r_iconst C d_Md_takenLicences_2 ?_
  refine r_istore_3 C d_Md_takenLicences_3 ?_
  exact hl ((t 2 0).toNat + 1) 0 (by omega) (by omega)
def foS (t : TT) (r n : Nat) : Int := sumN (fun j => t 30 (4 * j + r)) n
theorem foS_s (t : TT) (r n : Nat) : foS t r (n + 1) = foS t r n + t 30 (4 * n + r) := rfl
def foF (t : TT) (r : Nat) : Int := t 12 r - foS t r (t 2 0).toNat
theorem k_Md_freeOn {l : Launch} {E : Ew} {S0 : WW} {t : TT} (hB : Bd t) {r : Nat} (hr : r < 4) : Kf l y_Md_freeOn b_Md_freeOn 4 (some .int) 0 E (sm S0 2 t) [rf E 1, iv (r : Int)] (some (iv (foF t r))) (sm S0 2 t) := by
  refine KfI rfl rfl (Nat.le_of_ble_eq_true rfl) (fun g C R => ?_)
  show g (sm S0 2 t) 0 [some (rf E 1), some (iv (r : Int)), none, none] []
  have b2 := bd2 hB 0
  have hl : ∀ (k i : Nat), i ≤ (t 2 0).toNat → (t 2 0).toNat - i < k → g (sm S0 2 t) 9 [some (rf E 1), some (iv (r : Int)), some (iv (t 12 r - foS t r i)), some (iv (i : Int))] [] := by
    intro k
    induction k with
    | zero => intro i h1 h2; omega
    | succ k ih =>
      intro i h1 h2
      refine r_iload_n C d_Md_freeOn_9 rfl ?_
      refine r_aload_n C d_Md_freeOn_10 rfl ?_
      refine g_Md_jobs C lk_Md_124 d_Md_freeOn_11 ?_
      refine r_icmp_ge (tgt := 36) C d_Md_freeOn_14 (by decide) (by first | assumption | exact bd_ir (by assumption) rfl | exact b2i_ir _ | exact pb_ir _ | exact ir_mk (by omega) (by omega)) (by first | assumption | exact bd_ir (by assumption) rfl | exact b2i_ir _ | exact pb_ir _ | exact ir_mk (by omega) (by omega)) (fun c14 => ?_) (fun c14 => ?_)
      · refine r_iload_n C d_Md_freeOn_36 rfl ?_
        exact R d_Md_freeOn_37 (by rw [show i = (t 2 0).toNat by omega]; rfl) rfl
      · refine r_iload_n C d_Md_freeOn_17 rfl ?_
        refine r_aload_n C d_Md_freeOn_18 rfl ?_
        refine g_Md_on C lk_Md_69 d_Md_freeOn_19 ?_
        refine r_iconst C d_Md_freeOn_22 ?_
        refine r_iload_n C d_Md_freeOn_23 rfl ?_
        refine r_imul C d_Md_freeOn_24 ?_
        refine r_iload_n C d_Md_freeOn_25 rfl ?_
        refine r_iadd C d_Md_freeOn_26 ?_
        refine x_Md_on C (4 * i + r) (by omega) (by omega) d_Md_freeOn_27 ?_
        refine r_isub C d_Md_freeOn_28 ?_
        refine r_istore_2 C d_Md_freeOn_29 ?_
        refine r_iinc_3 C d_Md_freeOn_30 ?_
        refine r_goto (tgt := 9) C d_Md_freeOn_33 (by decide) ?_
        have h := ih (i + 1) (by omega) (by omega)
        rw [foS_s, show ∀ a b c : Int, a - (b + c) = a - b - c from fun a b c => by omega] at h
        exact h
  refine r_aload_n C d_Md_freeOn_0 rfl ?_
  refine g_Md_nodes C lk_Md_16 d_Md_freeOn_1 ?_
  refine r_iload_n C d_Md_freeOn_4 rfl ?_
  refine x_Md_nodes C _ rfl (by omega) d_Md_freeOn_5 ?_
  refine r_istore_2 C d_Md_freeOn_6 ?_
  refine r_iconst C d_Md_freeOn_7 ?_
  refine r_istore_3 C d_Md_freeOn_8 ?_
  have h := hl ((t 2 0).toNat + 1) 0 (by omega) (by omega)
  rw [show foS t r 0 = 0 from rfl, Int.sub_zero] at h
  exact h
