theorem b2i_ir (p : Prop) [Decidable p] : ir (b2i p) := by unfold b2i; split <;> exact ⟨by omega, by omega⟩
theorem k_Gm_isOutside {l : Launch} {E : Ew} {S : WW} {n a b : Int} (hn : ir n) (ha : ir a) (hb : ir b) : Kf l y_Gm_isOutside b_Gm_isOutside 3 (some .boolean) 0 E S [iv n, iv a, iv b] (some (iv (b2i (n < a ∨ b < n)))) S := by
  refine KfZ rfl rfl (Nat.le_of_ble_eq_true rfl) (fun g C R => ?_)
  show g S 0 [some (iv n), some (iv a), some (iv b)] []
  refine r_iload_n C d_Gm_isOutside_0 rfl ?_
  refine r_iload_n C d_Gm_isOutside_1 rfl ?_
  refine r_icmp_lt (tgt := 10) C d_Gm_isOutside_2 (by decide) (by first | assumption | exact bd_ir (by assumption) rfl | exact b2i_ir _ | exact pb_ir _ | exact ir_mk (by omega) (by omega)) (by first | assumption | exact bd_ir (by assumption) rfl | exact b2i_ir _ | exact pb_ir _ | exact ir_mk (by omega) (by omega)) (fun c2 => ?_) (fun c2 => ?_)
  · refine r_iconst C d_Gm_isOutside_10 ?_
    refine r_goto (tgt := 15) C d_Gm_isOutside_11 (by decide) ?_
    exact R d_Gm_isOutside_15 (by omega) (by unfold b2i; split <;> omega) rfl
  · refine r_iload_n C d_Gm_isOutside_5 rfl ?_
    refine r_iload_n C d_Gm_isOutside_6 rfl ?_
    refine r_icmp_le (tgt := 14) C d_Gm_isOutside_7 (by decide) (by first | assumption | exact bd_ir (by assumption) rfl | exact b2i_ir _ | exact pb_ir _ | exact ir_mk (by omega) (by omega)) (by first | assumption | exact bd_ir (by assumption) rfl | exact b2i_ir _ | exact pb_ir _ | exact ir_mk (by omega) (by omega)) (fun c7 => ?_) (fun c7 => ?_)
    · refine r_iconst C d_Gm_isOutside_14 ?_
      exact R d_Gm_isOutside_15 (by omega) (by unfold b2i; split <;> omega) rfl
    · refine r_iconst C d_Gm_isOutside_10 ?_
      refine r_goto (tgt := 15) C d_Gm_isOutside_11 (by decide) ?_
      exact R d_Gm_isOutside_15 (by omega) (by unfold b2i; split <;> omega) rfl
theorem k_Md_in {l : Launch} {E : Ew} {S : WW} {n a b : Int} (hn : ir n) (ha : ir a) (hb : ir b) : Kf l y_Md_in b_Md_in 3 (some .boolean) 0 E S [iv n, iv a, iv b] (some (iv (b2i (a ≤ n ∧ n ≤ b)))) S := by
  refine KfZ rfl rfl (Nat.le_of_ble_eq_true rfl) (fun g C R => ?_)
  show g S 0 [some (iv n), some (iv a), some (iv b)] []
  refine r_iload_n C d_Md_in_0 rfl ?_
  refine r_iload_n C d_Md_in_1 rfl ?_
  refine r_icmp_lt (tgt := 14) C d_Md_in_2 (by decide) (by first | assumption | exact bd_ir (by assumption) rfl | exact b2i_ir _ | exact pb_ir _ | exact ir_mk (by omega) (by omega)) (by first | assumption | exact bd_ir (by assumption) rfl | exact b2i_ir _ | exact pb_ir _ | exact ir_mk (by omega) (by omega)) (fun c2 => ?_) (fun c2 => ?_)
  · refine r_iconst C d_Md_in_14 ?_
    exact R d_Md_in_15 (by omega) (by unfold b2i; split <;> omega) rfl
  · refine r_iload_n C d_Md_in_5 rfl ?_
    refine r_iload_n C d_Md_in_6 rfl ?_
    refine r_icmp_gt (tgt := 14) C d_Md_in_7 (by decide) (by first | assumption | exact bd_ir (by assumption) rfl | exact b2i_ir _ | exact pb_ir _ | exact ir_mk (by omega) (by omega)) (by first | assumption | exact bd_ir (by assumption) rfl | exact b2i_ir _ | exact pb_ir _ | exact ir_mk (by omega) (by omega)) (fun c7 => ?_) (fun c7 => ?_)
    · refine r_iconst C d_Md_in_14 ?_
      exact R d_Md_in_15 (by omega) (by unfold b2i; split <;> omega) rfl
    · refine r_iconst C d_Md_in_10 ?_
      refine r_goto (tgt := 15) C d_Md_in_11 (by decide) ?_
      exact R d_Md_in_15 (by omega) (by unfold b2i; split <;> omega) rfl
def nearF (x e a : Int) : Int := if e ≤ a then x else if x = -1 then e else min x e
theorem k_Mc_nearer {l : Launch} {E : Ew} {S : WW} {x e a : Int} (hx : ir x) (he : ir e) (ha : ir a) : Kf l y_Mc_nearer b_Mc_nearer 3 (some .int) 1 E S [iv x, iv e, iv a] (some (iv (nearF x e a))) S := by
  refine KfI rfl rfl (Nat.le_of_ble_eq_true rfl) (fun g C R => ?_)
  show g S 0 [some (iv x), some (iv e), some (iv a)] []
  refine r_iload_n C d_Mc_nearer_0 rfl ?_
  refine r_iload_n C d_Mc_nearer_1 rfl ?_
  refine r_icmp_gt (tgt := 7) C d_Mc_nearer_2 (by decide) (by first | assumption | exact bd_ir (by assumption) rfl | exact b2i_ir _ | exact pb_ir _ | exact ir_mk (by omega) (by omega)) (by first | assumption | exact bd_ir (by assumption) rfl | exact b2i_ir _ | exact pb_ir _ | exact ir_mk (by omega) (by omega)) (fun c2 => ?_) (fun c2 => ?_)
  · refine r_iload_n C d_Mc_nearer_7 rfl ?_
    refine r_iconst C d_Mc_nearer_8 ?_
    refine r_icmp_ne (tgt := 16) C d_Mc_nearer_9 (by decide) (by first | assumption | exact bd_ir (by assumption) rfl | exact b2i_ir _ | exact pb_ir _ | exact ir_mk (by omega) (by omega)) (by first | assumption | exact bd_ir (by assumption) rfl | exact b2i_ir _ | exact pb_ir _ | exact ir_mk (by omega) (by omega)) (fun c9 => ?_) (fun c9 => ?_)
    · refine r_iload_n C d_Mc_nearer_16 rfl ?_
      refine r_iload_n C d_Mc_nearer_17 rfl ?_
      refine r_min C (by first | assumption | exact bd_ir (by assumption) rfl | exact b2i_ir _ | exact pb_ir _ | exact ir_mk (by omega) (by omega)) (by first | assumption | exact bd_ir (by assumption) rfl | exact b2i_ir _ | exact pb_ir _ | exact ir_mk (by omega) (by omega)) (by decide) ml_Mc_218 lw_Math_s lw_Math_i lw_Math_c (Nat.le_of_ble_eq_true rfl) d_Mc_nearer_18 ?_
      exact R d_Mc_nearer_21 (by unfold nearF; (repeat' split) <;> omega) rfl
    · refine r_iload_n C d_Mc_nearer_12 rfl ?_
      refine r_goto (tgt := 21) C d_Mc_nearer_13 (by decide) ?_
      exact R d_Mc_nearer_21 (by unfold nearF; (repeat' split) <;> omega) rfl
  · refine r_iload_n C d_Mc_nearer_5 rfl ?_
    exact R d_Mc_nearer_6 (by unfold nearF; (repeat' split) <;> omega) rfl
theorem k_Jb_left {l : Launch} {E : Ew} {S0 : WW} {m : Nat} {t : TT} (hm : m < 2) {i : Nat} (hi : i < 30) (hB : Bd t)  : Kf l y_Jb_left b_Jb_left 1 (some .int) 0 E (sm S0 m t) [rf E (kJb m i)] (some (iv (t 20 i - t 27 i))) (sm S0 m t) := by
  refine KfI rfl rfl (Nat.le_of_ble_eq_true rfl) (fun g C R => ?_)
  show g (sm S0 m t) 0 [some (rf E (kJb m i))] []
  refine r_aload_n C d_Jb_left_0 rfl ?_
  refine g_Jb_limit C hm (by omega) lk_Jb_25 d_Jb_left_1 ?_
  refine r_aload_n C d_Jb_left_4 rfl ?_
  refine g_Jb_saved C hm (by omega) lk_Jb_46 d_Jb_left_5 ?_
  refine r_isub C d_Jb_left_8 ?_
  exact R d_Jb_left_9 rfl rfl
def ranF (t : TT) (i : Nat) (u : Int) : Int := if t 24 i = 1 then u - t 25 i else 0
theorem k_Jb_ranUntil {l : Launch} {E : Ew} {S0 : WW} {m : Nat} {t : TT} (hm : m < 2) {i : Nat} (hi : i < 30) (hB : Bd t) {u : Int} : Kf l y_Jb_ranUntil b_Jb_ranUntil 2 (some .int) 0 E (sm S0 m t) [rf E (kJb m i), iv u] (some (iv (ranF t i u))) (sm S0 m t) := by
  refine KfI rfl rfl (Nat.le_of_ble_eq_true rfl) (fun g C R => ?_)
  show g (sm S0 m t) 0 [some (rf E (kJb m i)), some (iv u)] []
  refine r_aload_n C d_Jb_ranUntil_0 rfl ?_
  refine g_Jb_state C hm (by omega) lk_Jb_37 d_Jb_ranUntil_1 ?_
  refine r_iconst C d_Jb_ranUntil_4 ?_
  refine r_icmp_ne (tgt := 17) C d_Jb_ranUntil_5 (by decide) (by first | assumption | exact bd_ir (by assumption) rfl | exact b2i_ir _ | exact pb_ir _ | exact ir_mk (by omega) (by omega)) (by first | assumption | exact bd_ir (by assumption) rfl | exact b2i_ir _ | exact pb_ir _ | exact ir_mk (by omega) (by omega)) (fun c5 => ?_) (fun c5 => ?_)
  · refine r_iconst C d_Jb_ranUntil_17 ?_
    exact R d_Jb_ranUntil_18 (by unfold ranF; split <;> omega) rfl
  · refine r_iload_n C d_Jb_ranUntil_8 rfl ?_
    refine r_aload_n C d_Jb_ranUntil_9 rfl ?_
    refine g_Jb_begun C hm (by omega) lk_Jb_40 d_Jb_ranUntil_10 ?_
    refine r_isub C d_Jb_ranUntil_13 ?_
    refine r_goto (tgt := 18) C d_Jb_ranUntil_14 (by decide) ?_
    exact R d_Jb_ranUntil_18 (by unfold ranF; split <;> omega) rfl
def kwsF (t : TT) (i : Nat) (u : Int) : TT := if 0 < t 22 i then tu t 27 i (t 27 i + (ranF t i u - ranF t i u % t 22 i)) else t
theorem k_Jb_keepWhatWasSaved {l : Launch} {E : Ew} {S0 : WW} {m : Nat} {t : TT} (hm : m < 2) {i : Nat} (hi : i < 30) (hB : Bd t) {u : Int} (hr : 0 ≤ ranF t i u ∧ ranF t i u ≤ 2147483647) : Kf l y_Jb_keepWhatWasSaved b_Jb_keepWhatWasSaved 3 none 1 E (sm S0 m t) [rf E (kJb m i), iv u] none (sm S0 m (kwsF t i u)) := by
  refine KfV rfl rfl (Nat.le_of_ble_eq_true rfl) (fun g C R => ?_)
  show g (sm S0 m t) 0 [some (rf E (kJb m i)), some (iv u), none] []
  have b22 := bd22 hB i
  refine r_aload_n C d_Jb_keepWhatWasSaved_0 rfl ?_
  refine g_Jb_save C hm (by omega) lk_Jb_31 d_Jb_keepWhatWasSaved_1 ?_
  refine r_if_le (tgt := 30) C d_Jb_keepWhatWasSaved_4 (by decide) (by first | assumption | exact bd_ir (by assumption) rfl | exact b2i_ir _ | exact pb_ir _ | exact ir_mk (by omega) (by omega)) (fun c4 => ?_) (fun c4 => ?_)
  · exact R d_Jb_keepWhatWasSaved_30 (by unfold kwsF; split <;> first | rfl | omega)
  · refine r_aload_n C d_Jb_keepWhatWasSaved_7 rfl ?_
    refine r_iload_n C d_Jb_keepWhatWasSaved_8 rfl ?_
    refine r_cV1r C (k_Jb_ranUntil hm hi hB) (by decide) (by decide) ml_Jb_61 mn_Jb_ranUntil ms_Jb_ranUntil mc_Jb_ranUntil mi_Jb_ranUntil md_Jb_ranUntil (kJb_lt hm (by omega)) (zJb hm (by omega)) rfl rfl (Nat.le_of_ble_eq_true rfl) d_Jb_keepWhatWasSaved_9 ?_
    refine r_istore_2 C d_Jb_keepWhatWasSaved_12 ?_
    refine r_aload_n C d_Jb_keepWhatWasSaved_13 rfl ?_
    refine r_dup C d_Jb_keepWhatWasSaved_14 rfl ?_
    refine g_Jb_saved C hm (by omega) lk_Jb_46 d_Jb_keepWhatWasSaved_15 ?_
    refine r_iload_n C d_Jb_keepWhatWasSaved_18 rfl ?_
    refine r_iload_n C d_Jb_keepWhatWasSaved_19 rfl ?_
    refine r_aload_n C d_Jb_keepWhatWasSaved_20 rfl ?_
    refine g_Jb_save C hm (by omega) lk_Jb_31 d_Jb_keepWhatWasSaved_21 ?_
    refine r_irem C d_Jb_keepWhatWasSaved_24 hr (by omega) ?_
    refine r_isub C d_Jb_keepWhatWasSaved_25 ?_
    refine r_iadd C d_Jb_keepWhatWasSaved_26 ?_
    refine p_Jb_saved C hm (by omega) lk_Jb_46 d_Jb_keepWhatWasSaved_27 ?_
    exact R d_Jb_keepWhatWasSaved_30 (by unfold kwsF; split <;> first | rfl | omega)
def heldF (t : TT) (i : Nat) : Int := sumN (fun r => b2i (0 < t (100 + i) r)) 4
theorem k_Jb_racksHeld {l : Launch} {E : Ew} {S0 : WW} {m : Nat} {t : TT} (hm : m < 2) {j : Nat} (hj : j < 30) (hB : Bd t)  : Kf l y_Jb_racksHeld b_Jb_racksHeld 3 (some .int) 0 E (sm S0 m t) [rf E (kJb m j)] (some (iv (heldF t j))) (sm S0 m t) := by
  refine KfI rfl rfl (Nat.le_of_ble_eq_true rfl) (fun g C R => ?_)
  show g (sm S0 m t) 0 [some (rf E (kJb m j)), none, none] []
  have hl : ∀ (k i : Nat), i ≤ 4 → 4 - i < k → g (sm S0 m t) 4 [some (rf E (kJb m j)), some (iv (sumN (fun r => b2i (0 < t (100 + j) r)) i)), some (iv (i : Int))] [] := by
    intro k
    induction k with
    | zero => intro i h1 h2; omega
    | succ k ih =>
      intro i h1 h2
      have hs := sumN_bd (f := fun r => b2i (0 < t (100 + j) r)) (lo := 0) (hi := 1) (n := i) (fun r _ => by unfold b2i; split <;> omega)
      refine r_iload_n C d_Jb_racksHeld_4 rfl ?_
      refine r_iconst C d_Jb_racksHeld_5 ?_
      refine r_icmp_ge (tgt := 27) C d_Jb_racksHeld_6 (by decide) (by first | assumption | exact bd_ir (by assumption) rfl | exact b2i_ir _ | exact pb_ir _ | exact ir_mk (by omega) (by omega)) (by first | assumption | exact bd_ir (by assumption) rfl | exact b2i_ir _ | exact pb_ir _ | exact ir_mk (by omega) (by omega)) (fun c6 => ?_) (fun c6 => ?_)
      · refine r_iload_n C d_Jb_racksHeld_27 rfl ?_
        exact R d_Jb_racksHeld_28 (by unfold heldF; rw [show i = 4 by omega]) rfl
      · refine r_aload_n C d_Jb_racksHeld_9 rfl ?_
        refine g_Jb_nodesOn C hm (by omega) lk_Jb_9 d_Jb_racksHeld_10 ?_
        refine r_iload_n C d_Jb_racksHeld_13 rfl ?_
        refine x_On C hm (by omega) _ rfl (by omega) d_Jb_racksHeld_14 ?_
        refine r_if_le (tgt := 21) C d_Jb_racksHeld_15 (by decide) (bdOn_ir hB _ _) (fun c15 => ?_) (fun c15 => ?_)
        · refine r_iinc_2 C d_Jb_racksHeld_21 ?_
          refine r_goto (tgt := 4) C d_Jb_racksHeld_24 (by decide) ?_
          have h := ih (i + 1) (by omega) (by omega)
          rw [sumN_s, b2i] at h
          first | (rw [if_pos (by omega)] at h; exact h) | (rw [if_neg (by omega), Int.add_zero] at h; exact h)
        · refine r_iinc_1 C d_Jb_racksHeld_18 ?_
          refine r_iinc_2 C d_Jb_racksHeld_21 ?_
          refine r_goto (tgt := 4) C d_Jb_racksHeld_24 (by decide) ?_
          have h := ih (i + 1) (by omega) (by omega)
          rw [sumN_s, b2i] at h
          first | (rw [if_pos (by omega)] at h; exact h) | (rw [if_neg (by omega), Int.add_zero] at h; exact h)
  refine r_iconst C d_Jb_racksHeld_0 ?_
  refine r_istore_1 C d_Jb_racksHeld_1 ?_
  refine r_iconst C d_Jb_racksHeld_2 ?_
  refine r_istore_2 C d_Jb_racksHeld_3 ?_
  exact hl 5 0 (by omega) (by omega)
def hdF (t : TT) (i : Nat) (a b c d : Int) : TT := tu (tu (tu (tu t 31 i a) 32 i b) 33 i c) 34 i d
theorem k_Hd_set {l : Launch} {E : Ew} {S0 : WW} {m : Nat} {t : TT} (hm : m < 2) {i : Nat} (hi : i < 9) {a b c d : Int} : Kf l y_Hd_set b_Hd_set 5 none 0 E (sm S0 m t) [rf E (kHd m i), iv a, iv b, iv c, iv d] none (sm S0 m (hdF t i a b c d)) := by
  refine KfV rfl rfl (Nat.le_of_ble_eq_true rfl) (fun g C R => ?_)
  show g (sm S0 m t) 0 [some (rf E (kHd m i)), some (iv a), some (iv b), some (iv c), some (iv d)] []
  refine r_aload_n C d_Hd_set_0 rfl ?_
  refine r_iload_n C d_Hd_set_1 rfl ?_
  refine p_Hd_nodes C hm (by omega) lk_Hd_7 d_Hd_set_2 ?_
  refine r_aload_n C d_Hd_set_5 rfl ?_
  refine r_iload_n C d_Hd_set_6 rfl ?_
  refine p_Hd_licences C hm (by omega) lk_Hd_13 d_Hd_set_7 ?_
  refine r_aload_n C d_Hd_set_10 rfl ?_
  refine r_iload_n C d_Hd_set_11 rfl ?_
  refine p_Hd_from C hm (by omega) lk_Hd_16 d_Hd_set_12 ?_
  refine r_aload_n C d_Hd_set_15 rfl ?_
  refine r_iload C d_Hd_set_16 rfl ?_
  refine p_Hd_to C hm (by omega) lk_Hd_19 d_Hd_set_18 ?_
  exact R d_Hd_set_21 rfl
theorem k_Hd_beginsWithin {l : Launch} {E : Ew} {S0 : WW} {m : Nat} {t : TT} (hm : m < 2) {i : Nat} (hi : i < 9) {a b : Int} (ha : ir a) (hb : ir b) (hB : Bd t) : Kf l y_Hd_beginsWithin b_Hd_beginsWithin 3 (some .boolean) 0 E (sm S0 m t) [rf E (kHd m i), iv a, iv b] (some (iv (b2i (a < t 33 i ∧ t 33 i < b)))) (sm S0 m t) := by
  refine KfZ rfl rfl (Nat.le_of_ble_eq_true rfl) (fun g C R => ?_)
  show g (sm S0 m t) 0 [some (rf E (kHd m i)), some (iv a), some (iv b)] []
  refine r_aload_n C d_Hd_beginsWithin_0 rfl ?_
  refine g_Hd_from C hm (by omega) lk_Hd_16 d_Hd_beginsWithin_1 ?_
  refine r_iload_n C d_Hd_beginsWithin_4 rfl ?_
  refine r_icmp_le (tgt := 20) C d_Hd_beginsWithin_5 (by decide) (by first | assumption | exact bd_ir (by assumption) rfl | exact b2i_ir _ | exact pb_ir _ | exact ir_mk (by omega) (by omega)) (by first | assumption | exact bd_ir (by assumption) rfl | exact b2i_ir _ | exact pb_ir _ | exact ir_mk (by omega) (by omega)) (fun c5 => ?_) (fun c5 => ?_)
  · refine r_iconst C d_Hd_beginsWithin_20 ?_
    exact R d_Hd_beginsWithin_21 (by omega) (by unfold b2i; split <;> omega) rfl
  · refine r_aload_n C d_Hd_beginsWithin_8 rfl ?_
    refine g_Hd_from C hm (by omega) lk_Hd_16 d_Hd_beginsWithin_9 ?_
    refine r_iload_n C d_Hd_beginsWithin_12 rfl ?_
    refine r_icmp_ge (tgt := 20) C d_Hd_beginsWithin_13 (by decide) (by first | assumption | exact bd_ir (by assumption) rfl | exact b2i_ir _ | exact pb_ir _ | exact ir_mk (by omega) (by omega)) (by first | assumption | exact bd_ir (by assumption) rfl | exact b2i_ir _ | exact pb_ir _ | exact ir_mk (by omega) (by omega)) (fun c13 => ?_) (fun c13 => ?_)
    · refine r_iconst C d_Hd_beginsWithin_20 ?_
      exact R d_Hd_beginsWithin_21 (by omega) (by unfold b2i; split <;> omega) rfl
    · refine r_iconst C d_Hd_beginsWithin_16 ?_
      refine r_goto (tgt := 21) C d_Hd_beginsWithin_17 (by decide) ?_
      exact R d_Hd_beginsWithin_21 (by omega) (by unfold b2i; split <;> omega) rfl
theorem k_Mc_hasRack {l : Launch} {E : Ew} {S0 : WW} {m : Nat} {t : TT} (hm : m < 2) {r : Int} (hr : ir r) (hB : Bd t) : Kf l y_Mc_hasRack b_Mc_hasRack 2 (some .boolean) 0 E (sm S0 m t) [rf E (kMc m), iv r] (some (iv (b2i (0 ≤ r ∧ r < t 0 0)))) (sm S0 m t) := by
  refine KfZ rfl rfl (Nat.le_of_ble_eq_true rfl) (fun g C R => ?_)
  show g (sm S0 m t) 0 [some (rf E (kMc m)), some (iv r)] []
  refine r_iload_n C d_Mc_hasRack_0 rfl ?_
  refine r_if_lt (tgt := 16) C d_Mc_hasRack_1 (by decide) (by first | assumption | exact bd_ir (by assumption) rfl | exact b2i_ir _ | exact pb_ir _ | exact ir_mk (by omega) (by omega)) (fun c1 => ?_) (fun c1 => ?_)
  · refine r_iconst C d_Mc_hasRack_16 ?_
    exact R d_Mc_hasRack_17 (by omega) (by unfold b2i; split <;> omega) rfl
  · refine r_iload_n C d_Mc_hasRack_4 rfl ?_
    refine r_aload_n C d_Mc_hasRack_5 rfl ?_
    refine g_Mc_rackCount C hm lk_Mc_56 d_Mc_hasRack_6 ?_
    refine r_icmp_ge (tgt := 16) C d_Mc_hasRack_9 (by decide) (by first | assumption | exact bd_ir (by assumption) rfl | exact b2i_ir _ | exact pb_ir _ | exact ir_mk (by omega) (by omega)) (by first | assumption | exact bd_ir (by assumption) rfl | exact b2i_ir _ | exact pb_ir _ | exact ir_mk (by omega) (by omega)) (fun c9 => ?_) (fun c9 => ?_)
    · refine r_iconst C d_Mc_hasRack_16 ?_
      exact R d_Mc_hasRack_17 (by omega) (by unfold b2i; split <;> omega) rfl
    · refine r_iconst C d_Mc_hasRack_12 ?_
      refine r_goto (tgt := 17) C d_Mc_hasRack_13 (by decide) ?_
      exact R d_Mc_hasRack_17 (by omega) (by unfold b2i; split <;> omega) rfl
theorem k_Mc_hasAccount {l : Launch} {E : Ew} {S0 : WW} {m : Nat} {t : TT} (hm : m < 2) {r : Int} (hr : ir r) (hB : Bd t) : Kf l y_Mc_hasAccount b_Mc_hasAccount 2 (some .boolean) 0 E (sm S0 m t) [rf E (kMc m), iv r] (some (iv (b2i (0 ≤ r ∧ r < t 1 0)))) (sm S0 m t) := by
  refine KfZ rfl rfl (Nat.le_of_ble_eq_true rfl) (fun g C R => ?_)
  show g (sm S0 m t) 0 [some (rf E (kMc m)), some (iv r)] []
  refine r_iload_n C d_Mc_hasAccount_0 rfl ?_
  refine r_if_lt (tgt := 16) C d_Mc_hasAccount_1 (by decide) (by first | assumption | exact bd_ir (by assumption) rfl | exact b2i_ir _ | exact pb_ir _ | exact ir_mk (by omega) (by omega)) (fun c1 => ?_) (fun c1 => ?_)
  · refine r_iconst C d_Mc_hasAccount_16 ?_
    exact R d_Mc_hasAccount_17 (by omega) (by unfold b2i; split <;> omega) rfl
  · refine r_iload_n C d_Mc_hasAccount_4 rfl ?_
    refine r_aload_n C d_Mc_hasAccount_5 rfl ?_
    refine g_Mc_accountCount C hm lk_Mc_59 d_Mc_hasAccount_6 ?_
    refine r_icmp_ge (tgt := 16) C d_Mc_hasAccount_9 (by decide) (by first | assumption | exact bd_ir (by assumption) rfl | exact b2i_ir _ | exact pb_ir _ | exact ir_mk (by omega) (by omega)) (by first | assumption | exact bd_ir (by assumption) rfl | exact b2i_ir _ | exact pb_ir _ | exact ir_mk (by omega) (by omega)) (fun c9 => ?_) (fun c9 => ?_)
    · refine r_iconst C d_Mc_hasAccount_16 ?_
      exact R d_Mc_hasAccount_17 (by omega) (by unfold b2i; split <;> omega) rfl
    · refine r_iconst C d_Mc_hasAccount_12 ?_
      refine r_goto (tgt := 17) C d_Mc_hasAccount_13 (by decide) ?_
      exact R d_Mc_hasAccount_17 (by omega) (by unfold b2i; split <;> omega) rfl
theorem k_Mc_hasJob {l : Launch} {E : Ew} {S0 : WW} {m : Nat} {t : TT} (hm : m < 2) {r : Int} (hr : ir r) (hB : Bd t) : Kf l y_Mc_hasJob b_Mc_hasJob 2 (some .boolean) 0 E (sm S0 m t) [rf E (kMc m), iv r] (some (iv (b2i (0 ≤ r ∧ r < t 2 0)))) (sm S0 m t) := by
  refine KfZ rfl rfl (Nat.le_of_ble_eq_true rfl) (fun g C R => ?_)
  show g (sm S0 m t) 0 [some (rf E (kMc m)), some (iv r)] []
  refine r_iload_n C d_Mc_hasJob_0 rfl ?_
  refine r_if_lt (tgt := 16) C d_Mc_hasJob_1 (by decide) (by first | assumption | exact bd_ir (by assumption) rfl | exact b2i_ir _ | exact pb_ir _ | exact ir_mk (by omega) (by omega)) (fun c1 => ?_) (fun c1 => ?_)
  · refine r_iconst C d_Mc_hasJob_16 ?_
    exact R d_Mc_hasJob_17 (by omega) (by unfold b2i; split <;> omega) rfl
  · refine r_iload_n C d_Mc_hasJob_4 rfl ?_
    refine r_aload_n C d_Mc_hasJob_5 rfl ?_
    refine g_Mc_jobCount C hm lk_Mc_62 d_Mc_hasJob_6 ?_
    refine r_icmp_ge (tgt := 16) C d_Mc_hasJob_9 (by decide) (by first | assumption | exact bd_ir (by assumption) rfl | exact b2i_ir _ | exact pb_ir _ | exact ir_mk (by omega) (by omega)) (by first | assumption | exact bd_ir (by assumption) rfl | exact b2i_ir _ | exact pb_ir _ | exact ir_mk (by omega) (by omega)) (fun c9 => ?_) (fun c9 => ?_)
    · refine r_iconst C d_Mc_hasJob_16 ?_
      exact R d_Mc_hasJob_17 (by omega) (by unfold b2i; split <;> omega) rfl
    · refine r_iconst C d_Mc_hasJob_12 ?_
      refine r_goto (tgt := 17) C d_Mc_hasJob_13 (by decide) ?_
      exact R d_Mc_hasJob_17 (by omega) (by unfold b2i; split <;> omega) rfl
def cntF (t : TT) (j n : Nat) : Int := sumN (fun r => if t 14 r = 0 then t (100 + j) r else 0) n
theorem cntF_s (t : TT) (j n : Nat) : cntF t j (n + 1) = cntF t j n + if t 14 n = 0 then t (100 + j) n else 0 := rfl
theorem k_Mc_countedOf {l : Launch} {E : Ew} {S0 : WW} {m : Nat} {t : TT} (hm : m < 2) {j : Nat} (hj : j < 30) (hB : Bd t)  : Kf l y_Mc_countedOf b_Mc_countedOf 4 (some .int) 0 E (sm S0 m t) [rf E (kMc m), rf E (kJb m j)] (some (iv (cntF t j (t 0 0).toNat))) (sm S0 m t) := by
  refine KfI rfl rfl (Nat.le_of_ble_eq_true rfl) (fun g C R => ?_)
  show g (sm S0 m t) 0 [some (rf E (kMc m)), some (rf E (kJb m j)), none, none] []
  have b0 := bd0 hB 0
  have hl : ∀ (k i : Nat), i ≤ (t 0 0).toNat → (t 0 0).toNat - i < k → g (sm S0 m t) 4 [some (rf E (kMc m)), some (rf E (kJb m j)), some (iv (cntF t j i)), some (iv (i : Int))] [] := by
    intro k
    induction k with
    | zero => intro i h1 h2; omega
    | succ k ih =>
      intro i h1 h2
      refine r_iload_n C d_Mc_countedOf_4 rfl ?_
      refine r_aload_n C d_Mc_countedOf_5 rfl ?_
      refine g_Mc_rackCount C hm lk_Mc_56 d_Mc_countedOf_6 ?_
      refine r_icmp_ge (tgt := 43) C d_Mc_countedOf_9 (by decide) (by first | assumption | exact bd_ir (by assumption) rfl | exact b2i_ir _ | exact pb_ir _ | exact ir_mk (by omega) (by omega)) (by first | assumption | exact bd_ir (by assumption) rfl | exact b2i_ir _ | exact pb_ir _ | exact ir_mk (by omega) (by omega)) (fun c9 => ?_) (fun c9 => ?_)
      · refine r_iload_n C d_Mc_countedOf_43 rfl ?_
        exact R d_Mc_countedOf_44 (by rw [show i = (t 0 0).toNat by omega]) rfl
      · refine r_iload_n C d_Mc_countedOf_12 rfl ?_
        refine r_aload_n C d_Mc_countedOf_13 rfl ?_
        refine g_Mc_racks C hm lk_Mc_11 d_Mc_countedOf_14 ?_
        refine r_iload_n C d_Mc_countedOf_17 rfl ?_
        refine x_Rk C hm _ rfl (by omega) d_Mc_countedOf_18 ?_
        refine g_Rk_drained C hm (by omega) lk_Mc_102 d_Mc_countedOf_19 ?_
        refine r_if_eq (tgt := 29) C d_Mc_countedOf_22 (by decide) (by first | assumption | exact bd_ir (by assumption) rfl | exact b2i_ir _ | exact pb_ir _ | exact ir_mk (by omega) (by omega)) (fun c22 => ?_) (fun c22 => ?_)
        · refine r_aload_n C d_Mc_countedOf_29 rfl ?_
          refine g_Jb_nodesOn C hm (by omega) lk_Mc_113 d_Mc_countedOf_30 ?_
          refine r_iload_n C d_Mc_countedOf_33 rfl ?_
          refine x_On C hm (by omega) _ rfl (by omega) d_Mc_countedOf_34 ?_
          refine r_iadd C d_Mc_countedOf_35 ?_
          refine r_istore_2 C d_Mc_countedOf_36 ?_
          refine r_iinc_3 C d_Mc_countedOf_37 ?_
          refine r_goto (tgt := 4) C d_Mc_countedOf_40 (by decide) ?_
          have h := ih (i + 1) (by omega) (by omega)
          rw [cntF_s] at h
          first | (rw [if_pos (by omega)] at h; exact h) | (rw [if_neg (by omega)] at h; exact h)
        · refine r_iconst C d_Mc_countedOf_25 ?_
          refine r_goto (tgt := 35) C d_Mc_countedOf_26 (by decide) ?_
          refine r_iadd C d_Mc_countedOf_35 ?_
          refine r_istore_2 C d_Mc_countedOf_36 ?_
          refine r_iinc_3 C d_Mc_countedOf_37 ?_
          refine r_goto (tgt := 4) C d_Mc_countedOf_40 (by decide) ?_
          have h := ih (i + 1) (by omega) (by omega)
          rw [cntF_s] at h
          first | (rw [if_pos (by omega)] at h; exact h) | (rw [if_neg (by omega)] at h; exact h)
  refine r_iconst C d_Mc_countedOf_0 ?_
  refine r_istore_2 C d_Mc_countedOf_1 ?_
  refine r_iconst C d_Mc_countedOf_2 ?_
  refine r_istore_3 C d_Mc_countedOf_3 ?_
  exact hl ((t 0 0).toNat + 1) 0 (by omega) (by omega)
def jtaF (t : TT) (s : Int) (n : Nat) : Int := sumN (fun j => b2i (t 24 j = s)) n
theorem k_Mc_jobsThatAre {l : Launch} {E : Ew} {S0 : WW} {m : Nat} {t : TT} (hm : m < 2) {s : Int} (hs : ir s) (hB : Bd t) : Kf l y_Mc_jobsThatAre b_Mc_jobsThatAre 4 (some .int) 0 E (sm S0 m t) [rf E (kMc m), iv s] (some (iv (jtaF t s (t 2 0).toNat))) (sm S0 m t) := by
  refine KfI rfl rfl (Nat.le_of_ble_eq_true rfl) (fun g C R => ?_)
  show g (sm S0 m t) 0 [some (rf E (kMc m)), some (iv s), none, none] []
  have b2 := bd2 hB 0
  have hl : ∀ (k i : Nat), i ≤ (t 2 0).toNat → (t 2 0).toNat - i < k → g (sm S0 m t) 4 [some (rf E (kMc m)), some (iv s), some (iv (jtaF t s i)), some (iv (i : Int))] [] := by
    intro k
    induction k with
    | zero => intro i h1 h2; omega
    | succ k ih =>
      intro i h1 h2
      refine r_iload_n C d_Mc_jobsThatAre_4 rfl ?_
      refine r_aload_n C d_Mc_jobsThatAre_5 rfl ?_
      refine g_Mc_jobCount C hm lk_Mc_62 d_Mc_jobsThatAre_6 ?_
      refine r_icmp_ge (tgt := 34) C d_Mc_jobsThatAre_9 (by decide) (by first | assumption | exact bd_ir (by assumption) rfl | exact b2i_ir _ | exact pb_ir _ | exact ir_mk (by omega) (by omega)) (by first | assumption | exact bd_ir (by assumption) rfl | exact b2i_ir _ | exact pb_ir _ | exact ir_mk (by omega) (by omega)) (fun c9 => ?_) (fun c9 => ?_)
      · refine r_iload_n C d_Mc_jobsThatAre_34 rfl ?_
        exact R d_Mc_jobsThatAre_35 (by rw [show i = (t 2 0).toNat by omega]) rfl
      · refine r_aload_n C d_Mc_jobsThatAre_12 rfl ?_
        refine g_Mc_jobs C hm lk_Mc_25 d_Mc_jobsThatAre_13 ?_
        refine r_iload_n C d_Mc_jobsThatAre_16 rfl ?_
        refine x_Jb C hm _ rfl (by omega) d_Mc_jobsThatAre_17 ?_
        refine g_Jb_state C hm (by omega) lk_Mc_99 d_Mc_jobsThatAre_18 ?_
        refine r_iload_n C d_Mc_jobsThatAre_21 rfl ?_
        refine r_icmp_ne (tgt := 28) C d_Mc_jobsThatAre_22 (by decide) (by first | assumption | exact bd_ir (by assumption) rfl | exact b2i_ir _ | exact pb_ir _ | exact ir_mk (by omega) (by omega)) (by first | assumption | exact bd_ir (by assumption) rfl | exact b2i_ir _ | exact pb_ir _ | exact ir_mk (by omega) (by omega)) (fun c22 => ?_) (fun c22 => ?_)
        · refine r_iinc_3 C d_Mc_jobsThatAre_28 ?_
          refine r_goto (tgt := 4) C d_Mc_jobsThatAre_31 (by decide) ?_
          have h := ih (i + 1) (by omega) (by omega)
          rw [jtaF, sumN_s, b2i] at h
          first | (rw [if_pos (by omega)] at h; exact h) | (rw [if_neg (by omega), Int.add_zero] at h; exact h)
        · refine r_iinc_2 C d_Mc_jobsThatAre_25 ?_
          refine r_iinc_3 C d_Mc_jobsThatAre_28 ?_
          refine r_goto (tgt := 4) C d_Mc_jobsThatAre_31 (by decide) ?_
          have h := ih (i + 1) (by omega) (by omega)
          rw [jtaF, sumN_s, b2i] at h
          first | (rw [if_pos (by omega)] at h; exact h) | (rw [if_neg (by omega), Int.add_zero] at h; exact h)
  refine r_iconst C d_Mc_jobsThatAre_0 ?_
  refine r_istore_2 C d_Mc_jobsThatAre_1 ?_
  refine r_iconst C d_Mc_jobsThatAre_2 ?_
  refine r_istore_3 C d_Mc_jobsThatAre_3 ?_
  exact hl ((t 2 0).toNat + 1) 0 (by omega) (by omega)
def ntFj (t : TT) (u : Int) (n : Nat) : Int := sumN (fun j => if u < t 29 j then t 28 j else 0) n
def ntFh (t : TT) (u : Int) (n : Nat) : Int := sumN (fun k => if t 33 k ≤ u ∧ u < t 34 k then t 31 k else 0) n
def ntF (t : TT) (u : Int) : Int := ntFj t u (t 2 0).toNat + ntFh t u (t 3 0).toNat
theorem k_Mc_nodesTaken {l : Launch} {E : Ew} {S0 : WW} {m : Nat} {t : TT} (hm : m < 2) {u : Int} (hu : ir u) (hB : Bd t) : Kf l y_Mc_nodesTaken b_Mc_nodesTaken 4 (some .int) 0 E (sm S0 m t) [rf E (kMc m), iv u] (some (iv (ntF t u))) (sm S0 m t) := by
  refine KfI rfl rfl (Nat.le_of_ble_eq_true rfl) (fun g C R => ?_)
  show g (sm S0 m t) 0 [some (rf E (kMc m)), some (iv u), none, none] []
  have b2 := bd2 hB 0
  have b3 := bd3 hB 0
  have hl2 : ∀ (k i : Nat), i ≤ (t 3 0).toNat → (t 3 0).toNat - i < k → g (sm S0 m t) 45 [some (rf E (kMc m)), some (iv u), some (iv (ntFj t u (t 2 0).toNat + ntFh t u i)), some (iv (i : Int))] [] := by
    intro k
    induction k with
    | zero => intro i h1 h2; omega
    | succ k ih =>
      intro i h1 h2
      refine r_iload_n C d_Mc_nodesTaken_45 rfl ?_
      refine r_aload_n C d_Mc_nodesTaken_46 rfl ?_
      refine g_Mc_holdCount C hm lk_Mc_65 d_Mc_nodesTaken_47 ?_
      refine r_icmp_ge (tgt := 97) C d_Mc_nodesTaken_50 (by decide) (by first | assumption | exact bd_ir (by assumption) rfl | exact b2i_ir _ | exact pb_ir _ | exact ir_mk (by omega) (by omega)) (by first | assumption | exact bd_ir (by assumption) rfl | exact b2i_ir _ | exact pb_ir _ | exact ir_mk (by omega) (by omega)) (fun c50 => ?_) (fun c50 => ?_)
      · refine r_iload_n C d_Mc_nodesTaken_97 rfl ?_
        exact R d_Mc_nodesTaken_98 (by rw [show i = (t 3 0).toNat by omega]; rfl) rfl
      · refine r_iload_n C d_Mc_nodesTaken_53 rfl ?_
        refine r_aload_n C d_Mc_nodesTaken_54 rfl ?_
        refine g_Mc_holds C hm lk_Mc_31 d_Mc_nodesTaken_55 ?_
        refine r_iload_n C d_Mc_nodesTaken_58 rfl ?_
        refine x_Hd C hm _ rfl (by omega) d_Mc_nodesTaken_59 ?_
        refine g_Hd_from C hm (by omega) lk_Mc_126 d_Mc_nodesTaken_60 ?_
        refine r_icmp_lt (tgt := 91) C d_Mc_nodesTaken_63 (by decide) (by first | assumption | exact bd_ir (by assumption) rfl | exact b2i_ir _ | exact pb_ir _ | exact ir_mk (by omega) (by omega)) (by first | assumption | exact bd_ir (by assumption) rfl | exact b2i_ir _ | exact pb_ir _ | exact ir_mk (by omega) (by omega)) (fun c63 => ?_) (fun c63 => ?_)
        · refine r_iinc_3 C d_Mc_nodesTaken_91 ?_
          refine r_goto (tgt := 45) C d_Mc_nodesTaken_94 (by decide) ?_
          have h := ih (i + 1) (by omega) (by omega)
          rw [ntFh, sumN_s] at h
          first | (rw [if_pos (by omega), ← Int.add_assoc] at h; exact h) | (rw [if_neg (by omega), Int.add_zero] at h; exact h)
        · refine r_iload_n C d_Mc_nodesTaken_66 rfl ?_
          refine r_aload_n C d_Mc_nodesTaken_67 rfl ?_
          refine g_Mc_holds C hm lk_Mc_31 d_Mc_nodesTaken_68 ?_
          refine r_iload_n C d_Mc_nodesTaken_71 rfl ?_
          refine x_Hd C hm _ rfl (by omega) d_Mc_nodesTaken_72 ?_
          refine g_Hd_to C hm (by omega) lk_Mc_129 d_Mc_nodesTaken_73 ?_
          refine r_icmp_ge (tgt := 91) C d_Mc_nodesTaken_76 (by decide) (by first | assumption | exact bd_ir (by assumption) rfl | exact b2i_ir _ | exact pb_ir _ | exact ir_mk (by omega) (by omega)) (by first | assumption | exact bd_ir (by assumption) rfl | exact b2i_ir _ | exact pb_ir _ | exact ir_mk (by omega) (by omega)) (fun c76 => ?_) (fun c76 => ?_)
          · refine r_iinc_3 C d_Mc_nodesTaken_91 ?_
            refine r_goto (tgt := 45) C d_Mc_nodesTaken_94 (by decide) ?_
            have h := ih (i + 1) (by omega) (by omega)
            rw [ntFh, sumN_s] at h
            first | (rw [if_pos (by omega), ← Int.add_assoc] at h; exact h) | (rw [if_neg (by omega), Int.add_zero] at h; exact h)
          · refine r_iload_n C d_Mc_nodesTaken_79 rfl ?_
            refine r_aload_n C d_Mc_nodesTaken_80 rfl ?_
            refine g_Mc_holds C hm lk_Mc_31 d_Mc_nodesTaken_81 ?_
            refine r_iload_n C d_Mc_nodesTaken_84 rfl ?_
            refine x_Hd C hm _ rfl (by omega) d_Mc_nodesTaken_85 ?_
            refine g_Hd_nodes C hm (by omega) lk_Mc_132 d_Mc_nodesTaken_86 ?_
            refine r_iadd C d_Mc_nodesTaken_89 ?_
            refine r_istore_2 C d_Mc_nodesTaken_90 ?_
            refine r_iinc_3 C d_Mc_nodesTaken_91 ?_
            refine r_goto (tgt := 45) C d_Mc_nodesTaken_94 (by decide) ?_
            have h := ih (i + 1) (by omega) (by omega)
            rw [ntFh, sumN_s] at h
            first | (rw [if_pos (by omega), ← Int.add_assoc] at h; exact h) | (rw [if_neg (by omega), Int.add_zero] at h; exact h)
  have hl1 : ∀ (k i : Nat), i ≤ (t 2 0).toNat → (t 2 0).toNat - i < k → g (sm S0 m t) 4 [some (rf E (kMc m)), some (iv u), some (iv (ntFj t u i)), some (iv (i : Int))] [] := by
    intro k
    induction k with
    | zero => intro i h1 h2; omega
    | succ k ih =>
      intro i h1 h2
      refine r_iload_n C d_Mc_nodesTaken_4 rfl ?_
      refine r_aload_n C d_Mc_nodesTaken_5 rfl ?_
      refine g_Mc_jobCount C hm lk_Mc_62 d_Mc_nodesTaken_6 ?_
      refine r_icmp_ge (tgt := 43) C d_Mc_nodesTaken_9 (by decide) (by first | assumption | exact bd_ir (by assumption) rfl | exact b2i_ir _ | exact pb_ir _ | exact ir_mk (by omega) (by omega)) (by first | assumption | exact bd_ir (by assumption) rfl | exact b2i_ir _ | exact pb_ir _ | exact ir_mk (by omega) (by omega)) (fun c9 => ?_) (fun c9 => ?_)
      · refine r_iconst C d_Mc_nodesTaken_43 ?_
        refine r_istore_3 C d_Mc_nodesTaken_44 ?_
        have h := hl2 ((t 3 0).toNat + 1) 0 (by omega) (by omega)
        rw [show ntFh t u 0 = 0 from rfl, Int.add_zero] at h
        rw [show i = (t 2 0).toNat by omega]
        exact h
      · refine r_iload_n C d_Mc_nodesTaken_12 rfl ?_
        refine r_aload_n C d_Mc_nodesTaken_13 rfl ?_
        refine g_Mc_jobs C hm lk_Mc_25 d_Mc_nodesTaken_14 ?_
        refine r_iload_n C d_Mc_nodesTaken_17 rfl ?_
        refine x_Jb C hm _ rfl (by omega) d_Mc_nodesTaken_18 ?_
        refine g_Jb_takesUntil C hm (by omega) lk_Mc_123 d_Mc_nodesTaken_19 ?_
        refine r_icmp_ge (tgt := 37) C d_Mc_nodesTaken_22 (by decide) (by first | assumption | exact bd_ir (by assumption) rfl | exact b2i_ir _ | exact pb_ir _ | exact ir_mk (by omega) (by omega)) (by first | assumption | exact bd_ir (by assumption) rfl | exact b2i_ir _ | exact pb_ir _ | exact ir_mk (by omega) (by omega)) (fun c22 => ?_) (fun c22 => ?_)
        · refine r_iinc_3 C d_Mc_nodesTaken_37 ?_
          refine r_goto (tgt := 4) C d_Mc_nodesTaken_40 (by decide) ?_
          have h := ih (i + 1) (by omega) (by omega)
          rw [ntFj, sumN_s] at h
          first | (rw [if_pos (by omega)] at h; exact h) | (rw [if_neg (by omega), Int.add_zero] at h; exact h)
        · refine r_iload_n C d_Mc_nodesTaken_25 rfl ?_
          refine r_aload_n C d_Mc_nodesTaken_26 rfl ?_
          refine g_Mc_jobs C hm lk_Mc_25 d_Mc_nodesTaken_27 ?_
          refine r_iload_n C d_Mc_nodesTaken_30 rfl ?_
          refine x_Jb C hm _ rfl (by omega) d_Mc_nodesTaken_31 ?_
          refine g_Jb_counted C hm (by omega) lk_Mc_110 d_Mc_nodesTaken_32 ?_
          refine r_iadd C d_Mc_nodesTaken_35 ?_
          refine r_istore_2 C d_Mc_nodesTaken_36 ?_
          refine r_iinc_3 C d_Mc_nodesTaken_37 ?_
          refine r_goto (tgt := 4) C d_Mc_nodesTaken_40 (by decide) ?_
          have h := ih (i + 1) (by omega) (by omega)
          rw [ntFj, sumN_s] at h
          first | (rw [if_pos (by omega)] at h; exact h) | (rw [if_neg (by omega), Int.add_zero] at h; exact h)
  refine r_iconst C d_Mc_nodesTaken_0 ?_
  refine r_istore_2 C d_Mc_nodesTaken_1 ?_
  refine r_iconst C d_Mc_nodesTaken_2 ?_
  refine r_istore_3 C d_Mc_nodesTaken_3 ?_
  exact hl1 ((t 2 0).toNat + 1) 0 (by omega) (by omega)
def ltFj (t : TT) (u : Int) (n : Nat) : Int := sumN (fun j => if u < t 29 j then t 19 j else 0) n
def ltFh (t : TT) (u : Int) (n : Nat) : Int := sumN (fun k => if t 33 k ≤ u ∧ u < t 34 k then t 32 k else 0) n
def ltF (t : TT) (u : Int) : Int := ltFj t u (t 2 0).toNat + ltFh t u (t 3 0).toNat
theorem k_Mc_licencesTaken {l : Launch} {E : Ew} {S0 : WW} {m : Nat} {t : TT} (hm : m < 2) {u : Int} (hu : ir u) (hB : Bd t) : Kf l y_Mc_licencesTaken b_Mc_licencesTaken 4 (some .int) 0 E (sm S0 m t) [rf E (kMc m), iv u] (some (iv (ltF t u))) (sm S0 m t) := by
  refine KfI rfl rfl (Nat.le_of_ble_eq_true rfl) (fun g C R => ?_)
  show g (sm S0 m t) 0 [some (rf E (kMc m)), some (iv u), none, none] []
  have b2 := bd2 hB 0
  have b3 := bd3 hB 0
  have hl2 : ∀ (k i : Nat), i ≤ (t 3 0).toNat → (t 3 0).toNat - i < k → g (sm S0 m t) 45 [some (rf E (kMc m)), some (iv u), some (iv (ltFj t u (t 2 0).toNat + ltFh t u i)), some (iv (i : Int))] [] := by
    intro k
    induction k with
    | zero => intro i h1 h2; omega
    | succ k ih =>
      intro i h1 h2
      refine r_iload_n C d_Mc_licencesTaken_45 rfl ?_
      refine r_aload_n C d_Mc_licencesTaken_46 rfl ?_
      refine g_Mc_holdCount C hm lk_Mc_65 d_Mc_licencesTaken_47 ?_
      refine r_icmp_ge (tgt := 97) C d_Mc_licencesTaken_50 (by decide) (by first | assumption | exact bd_ir (by assumption) rfl | exact b2i_ir _ | exact pb_ir _ | exact ir_mk (by omega) (by omega)) (by first | assumption | exact bd_ir (by assumption) rfl | exact b2i_ir _ | exact pb_ir _ | exact ir_mk (by omega) (by omega)) (fun c50 => ?_) (fun c50 => ?_)
      · refine r_iload_n C d_Mc_licencesTaken_97 rfl ?_
        exact R d_Mc_licencesTaken_98 (by rw [show i = (t 3 0).toNat by omega]; rfl) rfl
      · refine r_iload_n C d_Mc_licencesTaken_53 rfl ?_
        refine r_aload_n C d_Mc_licencesTaken_54 rfl ?_
        refine g_Mc_holds C hm lk_Mc_31 d_Mc_licencesTaken_55 ?_
        refine r_iload_n C d_Mc_licencesTaken_58 rfl ?_
        refine x_Hd C hm _ rfl (by omega) d_Mc_licencesTaken_59 ?_
        refine g_Hd_from C hm (by omega) lk_Mc_126 d_Mc_licencesTaken_60 ?_
        refine r_icmp_lt (tgt := 91) C d_Mc_licencesTaken_63 (by decide) (by first | assumption | exact bd_ir (by assumption) rfl | exact b2i_ir _ | exact pb_ir _ | exact ir_mk (by omega) (by omega)) (by first | assumption | exact bd_ir (by assumption) rfl | exact b2i_ir _ | exact pb_ir _ | exact ir_mk (by omega) (by omega)) (fun c63 => ?_) (fun c63 => ?_)
        · refine r_iinc_3 C d_Mc_licencesTaken_91 ?_
          refine r_goto (tgt := 45) C d_Mc_licencesTaken_94 (by decide) ?_
          have h := ih (i + 1) (by omega) (by omega)
          rw [ltFh, sumN_s] at h
          first | (rw [if_pos (by omega), ← Int.add_assoc] at h; exact h) | (rw [if_neg (by omega), Int.add_zero] at h; exact h)
        · refine r_iload_n C d_Mc_licencesTaken_66 rfl ?_
          refine r_aload_n C d_Mc_licencesTaken_67 rfl ?_
          refine g_Mc_holds C hm lk_Mc_31 d_Mc_licencesTaken_68 ?_
          refine r_iload_n C d_Mc_licencesTaken_71 rfl ?_
          refine x_Hd C hm _ rfl (by omega) d_Mc_licencesTaken_72 ?_
          refine g_Hd_to C hm (by omega) lk_Mc_129 d_Mc_licencesTaken_73 ?_
          refine r_icmp_ge (tgt := 91) C d_Mc_licencesTaken_76 (by decide) (by first | assumption | exact bd_ir (by assumption) rfl | exact b2i_ir _ | exact pb_ir _ | exact ir_mk (by omega) (by omega)) (by first | assumption | exact bd_ir (by assumption) rfl | exact b2i_ir _ | exact pb_ir _ | exact ir_mk (by omega) (by omega)) (fun c76 => ?_) (fun c76 => ?_)
          · refine r_iinc_3 C d_Mc_licencesTaken_91 ?_
            refine r_goto (tgt := 45) C d_Mc_licencesTaken_94 (by decide) ?_
            have h := ih (i + 1) (by omega) (by omega)
            rw [ltFh, sumN_s] at h
            first | (rw [if_pos (by omega), ← Int.add_assoc] at h; exact h) | (rw [if_neg (by omega), Int.add_zero] at h; exact h)
          · refine r_iload_n C d_Mc_licencesTaken_79 rfl ?_
            refine r_aload_n C d_Mc_licencesTaken_80 rfl ?_
            refine g_Mc_holds C hm lk_Mc_31 d_Mc_licencesTaken_81 ?_
            refine r_iload_n C d_Mc_licencesTaken_84 rfl ?_
            refine x_Hd C hm _ rfl (by omega) d_Mc_licencesTaken_85 ?_
            refine g_Hd_licences C hm (by omega) lk_Mc_136 d_Mc_licencesTaken_86 ?_
            refine r_iadd C d_Mc_licencesTaken_89 ?_
            refine r_istore_2 C d_Mc_licencesTaken_90 ?_
            refine r_iinc_3 C d_Mc_licencesTaken_91 ?_
            refine r_goto (tgt := 45) C d_Mc_licencesTaken_94 (by decide) ?_
            have h := ih (i + 1) (by omega) (by omega)
            rw [ltFh, sumN_s] at h
            first | (rw [if_pos (by omega), ← Int.add_assoc] at h; exact h) | (rw [if_neg (by omega), Int.add_zero] at h; exact h)
  have hl1 : ∀ (k i : Nat), i ≤ (t 2 0).toNat → (t 2 0).toNat - i < k → g (sm S0 m t) 4 [some (rf E (kMc m)), some (iv u), some (iv (ltFj t u i)), some (iv (i : Int))] [] := by
    intro k
    induction k with
    | zero => intro i h1 h2; omega
    | succ k ih =>
      intro i h1 h2
      refine r_iload_n C d_Mc_licencesTaken_4 rfl ?_
      refine r_aload_n C d_Mc_licencesTaken_5 rfl ?_
      refine g_Mc_jobCount C hm lk_Mc_62 d_Mc_licencesTaken_6 ?_
      refine r_icmp_ge (tgt := 43) C d_Mc_licencesTaken_9 (by decide) (by first | assumption | exact bd_ir (by assumption) rfl | exact b2i_ir _ | exact pb_ir _ | exact ir_mk (by omega) (by omega)) (by first | assumption | exact bd_ir (by assumption) rfl | exact b2i_ir _ | exact pb_ir _ | exact ir_mk (by omega) (by omega)) (fun c9 => ?_) (fun c9 => ?_)
      · refine r_iconst C d_Mc_licencesTaken_43 ?_
        refine r_istore_3 C d_Mc_licencesTaken_44 ?_
        have h := hl2 ((t 3 0).toNat + 1) 0 (by omega) (by omega)
        rw [show ltFh t u 0 = 0 from rfl, Int.add_zero] at h
        rw [show i = (t 2 0).toNat by omega]
        exact h
      · refine r_iload_n C d_Mc_licencesTaken_12 rfl ?_
        refine r_aload_n C d_Mc_licencesTaken_13 rfl ?_
        refine g_Mc_jobs C hm lk_Mc_25 d_Mc_licencesTaken_14 ?_
        refine r_iload_n C d_Mc_licencesTaken_17 rfl ?_
        refine x_Jb C hm _ rfl (by omega) d_Mc_licencesTaken_18 ?_
        refine g_Jb_takesUntil C hm (by omega) lk_Mc_123 d_Mc_licencesTaken_19 ?_
        refine r_icmp_ge (tgt := 37) C d_Mc_licencesTaken_22 (by decide) (by first | assumption | exact bd_ir (by assumption) rfl | exact b2i_ir _ | exact pb_ir _ | exact ir_mk (by omega) (by omega)) (by first | assumption | exact bd_ir (by assumption) rfl | exact b2i_ir _ | exact pb_ir _ | exact ir_mk (by omega) (by omega)) (fun c22 => ?_) (fun c22 => ?_)
        · refine r_iinc_3 C d_Mc_licencesTaken_37 ?_
          refine r_goto (tgt := 4) C d_Mc_licencesTaken_40 (by decide) ?_
          have h := ih (i + 1) (by omega) (by omega)
          rw [ltFj, sumN_s] at h
          first | (rw [if_pos (by omega)] at h; exact h) | (rw [if_neg (by omega), Int.add_zero] at h; exact h)
        · refine r_iload_n C d_Mc_licencesTaken_25 rfl ?_
          refine r_aload_n C d_Mc_licencesTaken_26 rfl ?_
          refine g_Mc_jobs C hm lk_Mc_25 d_Mc_licencesTaken_27 ?_
          refine r_iload_n C d_Mc_licencesTaken_30 rfl ?_
          refine x_Jb C hm _ rfl (by omega) d_Mc_licencesTaken_31 ?_
          refine g_Jb_licences C hm (by omega) lk_Mc_133 d_Mc_licencesTaken_32 ?_
          refine r_iadd C d_Mc_licencesTaken_35 ?_
          refine r_istore_2 C d_Mc_licencesTaken_36 ?_
          refine r_iinc_3 C d_Mc_licencesTaken_37 ?_
          refine r_goto (tgt := 4) C d_Mc_licencesTaken_40 (by decide) ?_
          have h := ih (i + 1) (by omega) (by omega)
          rw [ltFj, sumN_s] at h
          first | (rw [if_pos (by omega)] at h; exact h) | (rw [if_neg (by omega), Int.add_zero] at h; exact h)
  refine r_iconst C d_Mc_licencesTaken_0 ?_
  refine r_istore_2 C d_Mc_licencesTaken_1 ?_
  refine r_iconst C d_Mc_licencesTaken_2 ?_
  refine r_istore_3 C d_Mc_licencesTaken_3 ?_
  exact hl1 ((t 2 0).toNat + 1) 0 (by omega) (by omega)
