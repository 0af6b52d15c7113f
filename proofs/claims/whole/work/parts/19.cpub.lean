theorem k_Gm_rack {l : Launch} {E : Ew} {S0 : WW} {t : TT} (hB : Bd t) {n : Int} (hn : ir n) : Kf l y_Gm_rack b_Gm_rack 2 (some .int) 3 E (sm S0 0 t) [rf E 0, iv n] (some (iv (if n < 1 ∨ 16 < n then -3 else if 4 ≤ t 0 0 then -5 else t 0 0))) (sm S0 0 (if (n < 1 ∨ 16 < n) ∨ 4 ≤ t 0 0 then t else arF t n)) := by
  refine KfI rfl rfl (Nat.le_of_ble_eq_true rfl) (fun g C R => ?_)
  show g (sm S0 0 t) 0 [some (rf E 0), some (iv n)] []
  have b0 := bd0 hB 0
  refine r_iload_n C d_Gm_rack_0 rfl ?_
  refine r_iconst C d_Gm_rack_1 ?_
  refine r_bipush C d_Gm_rack_2 (by decide) ?_
  refine r_cS3r C (k_Gm_isOutside (by first | assumption | exact ir_mk (by omega) (by omega)) (by first | assumption | exact ir_mk (by omega) (by omega)) (by first | assumption | exact ir_mk (by omega) (by omega))) (by decide) (by decide) ml_Gm_19 mt_Gm_isOutside mc_Gm_isOutside mi_Gm_isOutside md_Gm_isOutside (Nat.le_of_ble_eq_true rfl) d_Gm_rack_4 ?_
  refine r_if_eq (tgt := 13) C d_Gm_rack_7 (by decide) (by first | assumption | exact bd_ir (by assumption) rfl | exact b2i_ir _ | exact pb_ir _ | exact ir_mk (by omega) (by omega)) (fun c7 => ?_) (fun c7 => ?_)
  · try have k7 := b2i_eq c7
    refine r_aload_n C d_Gm_rack_13 rfl ?_
    refine g_Gm_machine C lk_Gm_10 d_Gm_rack_14 ?_
    refine g_Mc_rackCount C h02 lk_Gm_23 d_Gm_rack_17 ?_
    refine r_iconst C d_Gm_rack_20 ?_
    refine r_icmp_lt (tgt := 27) C d_Gm_rack_21 (by decide) (by first | assumption | exact bd_ir (by assumption) rfl | exact b2i_ir _ | exact pb_ir _ | exact ir_mk (by omega) (by omega)) (by first | assumption | exact bd_ir (by assumption) rfl | exact b2i_ir _ | exact pb_ir _ | exact ir_mk (by omega) (by omega)) (fun c21 => ?_) (fun c21 => ?_)
    · refine r_aload_n C d_Gm_rack_27 rfl ?_
      refine g_Gm_machine C lk_Gm_10 d_Gm_rack_28 ?_
      refine r_iload_n C d_Gm_rack_31 rfl ?_
      refine r_cV1r C (k_Mc_addRack h02 (by omega) (by omega) hB) (by decide) (by decide) ml_Gm_27 mn_Mc_addRack ms_Mc_addRack mc_Mc_addRack mi_Mc_addRack md_Mc_addRack (kMc_lt h02) (zMc h02) rfl rfl (Nat.le_of_ble_eq_true rfl) d_Gm_rack_32 ?_
      exact R d_Gm_rack_35 (by (repeat' split) <;> omega) (by (repeat' split) <;> first | rfl | (exfalso; omega))
    · refine r_bipush C d_Gm_rack_24 (by decide) ?_
      exact R d_Gm_rack_26 (by (repeat' split) <;> omega) (by (repeat' split) <;> first | rfl | (exfalso; omega))
  · try have k7 := b2i_ne c7
    refine r_bipush C d_Gm_rack_10 (by decide) ?_
    exact R d_Gm_rack_12 (by (repeat' split) <;> omega) (by (repeat' split) <;> first | rfl | (exfalso; omega))
theorem k_Gm_drain {l : Launch} {E : Ew} {S0 : WW} {t : TT} (hB : Bd t) {n b : Int} (hn : ir n) (hb : b = 0 ∨ b = 1) : Kf l y_Gm_drain b_Gm_drain 4 (some .int) 2 E (sm S0 0 t) [rf E 0, iv n, iv b] (some (iv (if ¬ (0 ≤ n ∧ n < t 0 0) then -2 else t 14 n.toNat))) (sm S0 0 (if ¬ (0 ≤ n ∧ n < t 0 0) then t else recF (tu t 14 n.toNat b))) := by
  refine KfI rfl rfl (Nat.le_of_ble_eq_true rfl) (fun g C R => ?_)
  show g (sm S0 0 t) 0 [some (rf E 0), some (iv n), some (iv b), none] []
  have b0 := bd0 hB 0
  have b14 := bd14 hB n.toNat
  have hB2 : Bd (tu t 14 n.toNat b) := bd_tu hB (fun _ => by show (0 : Int) ≤ b ∧ b ≤ 1; omega)
  refine r_aload_n C d_Gm_drain_0 rfl ?_
  refine g_Gm_machine C lk_Gm_10 d_Gm_drain_1 ?_
  refine r_iload_n C d_Gm_drain_4 rfl ?_
  refine r_cV1r C (k_Mc_hasRack h02 (by first | assumption | exact ir_mk (by omega) (by omega)) hB) (by decide) (by decide) ml_Gm_31 mn_Mc_hasRack ms_Mc_hasRack mc_Mc_hasRack mi_Mc_hasRack md_Mc_hasRack (kMc_lt h02) (zMc h02) rfl rfl (Nat.le_of_ble_eq_true rfl) d_Gm_drain_5 ?_
  refine r_if_ne (tgt := 14) C d_Gm_drain_8 (by decide) (by first | assumption | exact bd_ir (by assumption) rfl | exact b2i_ir _ | exact pb_ir _ | exact ir_mk (by omega) (by omega)) (fun c8 => ?_) (fun c8 => ?_)
  · try have k8 := b2i_ne c8
    refine r_aload_n C d_Gm_drain_14 rfl ?_
    refine g_Gm_machine C lk_Gm_10 d_Gm_drain_15 ?_
    refine g_Mc_racks C h02 lk_Gm_35 d_Gm_drain_18 ?_
    refine r_iload_n C d_Gm_drain_21 rfl ?_
    refine x_Rk C h02 n.toNat (by omega) (by omega) d_Gm_drain_22 ?_
    refine g_Rk_drained C h02 (by omega) lk_Gm_39 d_Gm_drain_23 ?_
    refine r_if_eq (tgt := 33) C d_Gm_drain_26 (by decide) (by first | assumption | exact bd_ir (by assumption) rfl | exact b2i_ir _ | exact pb_ir _ | exact ir_mk (by omega) (by omega)) (fun c26 => ?_) (fun c26 => ?_)
    · try have k26 := b2i_eq c26
      refine r_iconst C d_Gm_drain_33 ?_
      refine r_istore_3 C d_Gm_drain_34 ?_
      refine r_aload_n C d_Gm_drain_35 rfl ?_
      refine g_Gm_machine C lk_Gm_10 d_Gm_drain_36 ?_
      refine g_Mc_racks C h02 lk_Gm_35 d_Gm_drain_39 ?_
      refine r_iload_n C d_Gm_drain_42 rfl ?_
      refine x_Rk C h02 n.toNat (by omega) (by omega) d_Gm_drain_43 ?_
      refine r_iload_n C d_Gm_drain_44 rfl ?_
      refine p_Rk_drained C h02 (by omega) hb lk_Gm_39 d_Gm_drain_45 ?_
      refine r_aload_n C d_Gm_drain_48 rfl ?_
      refine g_Gm_machine C lk_Gm_10 d_Gm_drain_49 ?_
      refine r_cV0v C (k_Mc_recount h02 hB2) (by decide) (by decide) ml_Gm_45 mn_Mc_recount ms_Mc_recount mc_Mc_recount mi_Mc_recount md_Mc_recount (kMc_lt h02) (zMc h02) rfl rfl (Nat.le_of_ble_eq_true rfl) d_Gm_drain_52 ?_
      refine r_iload_n C d_Gm_drain_55 rfl ?_
      exact R d_Gm_drain_56 (by (repeat' split) <;> omega) (by (repeat' split) <;> first | rfl | (exfalso; omega))
    · try have k26 := b2i_ne c26
      refine r_iconst C d_Gm_drain_29 ?_
      refine r_goto (tgt := 34) C d_Gm_drain_30 (by decide) ?_
      refine r_istore_3 C d_Gm_drain_34 ?_
      refine r_aload_n C d_Gm_drain_35 rfl ?_
      refine g_Gm_machine C lk_Gm_10 d_Gm_drain_36 ?_
      refine g_Mc_racks C h02 lk_Gm_35 d_Gm_drain_39 ?_
      refine r_iload_n C d_Gm_drain_42 rfl ?_
      refine x_Rk C h02 n.toNat (by omega) (by omega) d_Gm_drain_43 ?_
      refine r_iload_n C d_Gm_drain_44 rfl ?_
      refine p_Rk_drained C h02 (by omega) hb lk_Gm_39 d_Gm_drain_45 ?_
      refine r_aload_n C d_Gm_drain_48 rfl ?_
      refine g_Gm_machine C lk_Gm_10 d_Gm_drain_49 ?_
      refine r_cV0v C (k_Mc_recount h02 hB2) (by decide) (by decide) ml_Gm_45 mn_Mc_recount ms_Mc_recount mc_Mc_recount mi_Mc_recount md_Mc_recount (kMc_lt h02) (zMc h02) rfl rfl (Nat.le_of_ble_eq_true rfl) d_Gm_drain_52 ?_
      refine r_iload_n C d_Gm_drain_55 rfl ?_
      exact R d_Gm_drain_56 (by (repeat' split) <;> omega) (by (repeat' split) <;> first | rfl | (exfalso; omega))
  · try have k8 := b2i_nn c8
    refine r_bipush C d_Gm_drain_11 (by decide) ?_
    exact R d_Gm_drain_13 (by (repeat' split) <;> omega) (by (repeat' split) <;> first | rfl | (exfalso; omega))
theorem k_Gm_fail {l : Launch} {E : Ew} {S0 : WW} {t : TT} (hB : Bd t) {n : Int} (hn : ir n) (hI : ∀ (r i : Nat), n = (r : Int) → n < t 0 0 → i < (t 2 0).toNat → Bd (bk1 t r i) ∧ (0 ≤ ranF (bk1 t r i) i (bk1 t r i 4 0) ∧ ranF (bk1 t r i) i (bk1 t r i 4 0) ≤ 2147483647) ∧ Bd (kwsF (bk1 t r i) i (bk1 t r i 4 0))) : Kf l y_Gm_fail b_Gm_fail 2 (some .int) 3 E (sm S0 0 t) [rf E 0, iv n] (some (iv (if ¬ (0 ≤ n ∧ n < t 0 0) then -2 else bkN t n.toNat (t 2 0).toNat))) (sm S0 0 (if ¬ (0 ≤ n ∧ n < t 0 0) then t else bk1 t n.toNat (t 2 0).toNat)) := by
  refine KfI rfl rfl (Nat.le_of_ble_eq_true rfl) (fun g C R => ?_)
  show g (sm S0 0 t) 0 [some (rf E 0), some (iv n)] []
  have b0 := bd0 hB 0
  refine r_aload_n C d_Gm_fail_0 rfl ?_
  refine g_Gm_machine C lk_Gm_10 d_Gm_fail_1 ?_
  refine r_iload_n C d_Gm_fail_4 rfl ?_
  refine r_cV1r C (k_Mc_hasRack h02 (by first | assumption | exact ir_mk (by omega) (by omega)) hB) (by decide) (by decide) ml_Gm_31 mn_Mc_hasRack ms_Mc_hasRack mc_Mc_hasRack mi_Mc_hasRack md_Mc_hasRack (kMc_lt h02) (zMc h02) rfl rfl (Nat.le_of_ble_eq_true rfl) d_Gm_fail_5 ?_
  refine r_if_ne (tgt := 14) C d_Gm_fail_8 (by decide) (by first | assumption | exact bd_ir (by assumption) rfl | exact b2i_ir _ | exact pb_ir _ | exact ir_mk (by omega) (by omega)) (fun c8 => ?_) (fun c8 => ?_)
  · try have k8 := b2i_ne c8
    refine r_aload_n C d_Gm_fail_14 rfl ?_
    refine g_Gm_machine C lk_Gm_10 d_Gm_fail_15 ?_
    refine r_iload_n C d_Gm_fail_18 rfl ?_
    refine g_st (show iv n = iv ((n.toNat : Nat) : Int) by rw [Int.toNat_of_nonneg (by omega)]) ?_
    refine r_cV1r C (k_Mc_breakRack h02 (r := n.toNat) (by omega) hB (fun i hi => hI n.toNat i (by omega) (by omega) hi)) (by decide) (by decide) ml_Gm_48 mn_Mc_breakRack ms_Mc_breakRack mc_Mc_breakRack mi_Mc_breakRack md_Mc_breakRack (kMc_lt h02) (zMc h02) rfl rfl (Nat.le_of_ble_eq_true rfl) d_Gm_fail_19 ?_
    exact R d_Gm_fail_22 (by (repeat' split) <;> omega) (by (repeat' split) <;> first | rfl | (exfalso; omega))
  · try have k8 := b2i_nn c8
    refine r_bipush C d_Gm_fail_11 (by decide) ?_
    exact R d_Gm_fail_13 (by (repeat' split) <;> omega) (by (repeat' split) <;> first | rfl | (exfalso; omega))
theorem k_Gm_licences {l : Launch} {E : Ew} {S0 : WW} {t : TT} (hB : Bd t) {n : Int} (hn : ir n) : Kf l y_Gm_licences b_Gm_licences 3 (some .int) 1 E (sm S0 0 t) [rf E 0, iv n] (some (iv (if n < 0 ∨ 100 < n then -3 else t 6 0))) (sm S0 0 (if n < 0 ∨ 100 < n then t else tu t 6 0 n)) := by
  refine KfI rfl rfl (Nat.le_of_ble_eq_true rfl) (fun g C R => ?_)
  show g (sm S0 0 t) 0 [some (rf E 0), some (iv n), none] []
  refine r_iload_n C d_Gm_licences_0 rfl ?_
  refine r_iconst C d_Gm_licences_1 ?_
  refine r_bipush C d_Gm_licences_2 (by decide) ?_
  refine r_cS3r C (k_Gm_isOutside (by first | assumption | exact ir_mk (by omega) (by omega)) (by first | assumption | exact ir_mk (by omega) (by omega)) (by first | assumption | exact ir_mk (by omega) (by omega))) (by decide) (by decide) ml_Gm_19 mt_Gm_isOutside mc_Gm_isOutside mi_Gm_isOutside md_Gm_isOutside (Nat.le_of_ble_eq_true rfl) d_Gm_licences_4 ?_
  refine r_if_eq (tgt := 13) C d_Gm_licences_7 (by decide) (by first | assumption | exact bd_ir (by assumption) rfl | exact b2i_ir _ | exact pb_ir _ | exact ir_mk (by omega) (by omega)) (fun c7 => ?_) (fun c7 => ?_)
  · try have k7 := b2i_eq c7
    refine r_aload_n C d_Gm_licences_13 rfl ?_
    refine g_Gm_machine C lk_Gm_10 d_Gm_licences_14 ?_
    refine g_Mc_licencesInAll C h02 lk_Gm_51 d_Gm_licences_17 ?_
    refine r_istore_2 C d_Gm_licences_20 ?_
    refine r_aload_n C d_Gm_licences_21 rfl ?_
    refine g_Gm_machine C lk_Gm_10 d_Gm_licences_22 ?_
    refine r_iload_n C d_Gm_licences_25 rfl ?_
    refine p_Mc_licencesInAll C h02 lk_Gm_51 d_Gm_licences_26 ?_
    refine r_iload_n C d_Gm_licences_29 rfl ?_
    exact R d_Gm_licences_30 (by (repeat' split) <;> omega) (by (repeat' split) <;> first | rfl | (exfalso; omega))
  · try have k7 := b2i_ne c7
    refine r_bipush C d_Gm_licences_10 (by decide) ?_
    exact R d_Gm_licences_12 (by (repeat' split) <;> omega) (by (repeat' split) <;> first | rfl | (exfalso; omega))
theorem k_Gm_half {l : Launch} {E : Ew} {S0 : WW} {t : TT} (hB : Bd t) {n : Int} (hn : ir n) : Kf l y_Gm_half b_Gm_half 3 (some .int) 1 E (sm S0 0 t) [rf E 0, iv n] (some (iv (if n < 1 ∨ 1000 < n then -3 else t 5 0))) (sm S0 0 (if n < 1 ∨ 1000 < n then t else tu t 5 0 n)) := by
  refine KfI rfl rfl (Nat.le_of_ble_eq_true rfl) (fun g C R => ?_)
  show g (sm S0 0 t) 0 [some (rf E 0), some (iv n), none] []
  refine r_iload_n C d_Gm_half_0 rfl ?_
  refine r_iconst C d_Gm_half_1 ?_
  refine r_sipush C d_Gm_half_2 (by decide) ?_
  refine r_cS3r C (k_Gm_isOutside (by first | assumption | exact ir_mk (by omega) (by omega)) (by first | assumption | exact ir_mk (by omega) (by omega)) (by first | assumption | exact ir_mk (by omega) (by omega))) (by decide) (by decide) ml_Gm_19 mt_Gm_isOutside mc_Gm_isOutside mi_Gm_isOutside md_Gm_isOutside (Nat.le_of_ble_eq_true rfl) d_Gm_half_5 ?_
  refine r_if_eq (tgt := 14) C d_Gm_half_8 (by decide) (by first | assumption | exact bd_ir (by assumption) rfl | exact b2i_ir _ | exact pb_ir _ | exact ir_mk (by omega) (by omega)) (fun c8 => ?_) (fun c8 => ?_)
  · try have k8 := b2i_eq c8
    refine r_aload_n C d_Gm_half_14 rfl ?_
    refine g_Gm_machine C lk_Gm_10 d_Gm_half_15 ?_
    refine g_Mc_halving C h02 lk_Gm_54 d_Gm_half_18 ?_
    refine r_istore_2 C d_Gm_half_21 ?_
    refine r_aload_n C d_Gm_half_22 rfl ?_
    refine g_Gm_machine C lk_Gm_10 d_Gm_half_23 ?_
    refine r_iload_n C d_Gm_half_26 rfl ?_
    refine p_Mc_halving C h02 lk_Gm_54 d_Gm_half_27 ?_
    refine r_iload_n C d_Gm_half_30 rfl ?_
    exact R d_Gm_half_31 (by (repeat' split) <;> omega) (by (repeat' split) <;> first | rfl | (exfalso; omega))
  · try have k8 := b2i_ne c8
    refine r_bipush C d_Gm_half_11 (by decide) ?_
    exact R d_Gm_half_13 (by (repeat' split) <;> omega) (by (repeat' split) <;> first | rfl | (exfalso; omega))
theorem k_Gm_account {l : Launch} {E : Ew} {S0 : WW} {t : TT} (hB : Bd t) {n : Int} (hn : ir n) : Kf l y_Gm_account b_Gm_account 2 (some .int) 1 E (sm S0 0 t) [rf E 0, iv n] (some (iv (if n < 1 ∨ 100 < n then -3 else if 6 ≤ t 1 0 then -5 else t 1 0))) (sm S0 0 (if (n < 1 ∨ 100 < n) ∨ 6 ≤ t 1 0 then t else aaF t n)) := by
  refine KfI rfl rfl (Nat.le_of_ble_eq_true rfl) (fun g C R => ?_)
  show g (sm S0 0 t) 0 [some (rf E 0), some (iv n)] []
  have b1 := bd1 hB 0
  refine r_iload_n C d_Gm_account_0 rfl ?_
  refine r_iconst C d_Gm_account_1 ?_
  refine r_bipush C d_Gm_account_2 (by decide) ?_
  refine r_cS3r C (k_Gm_isOutside (by first | assumption | exact ir_mk (by omega) (by omega)) (by first | assumption | exact ir_mk (by omega) (by omega)) (by first | assumption | exact ir_mk (by omega) (by omega))) (by decide) (by decide) ml_Gm_19 mt_Gm_isOutside mc_Gm_isOutside mi_Gm_isOutside md_Gm_isOutside (Nat.le_of_ble_eq_true rfl) d_Gm_account_4 ?_
  refine r_if_eq (tgt := 13) C d_Gm_account_7 (by decide) (by first | assumption | exact bd_ir (by assumption) rfl | exact b2i_ir _ | exact pb_ir _ | exact ir_mk (by omega) (by omega)) (fun c7 => ?_) (fun c7 => ?_)
  · try have k7 := b2i_eq c7
    refine r_aload_n C d_Gm_account_13 rfl ?_
    refine g_Gm_machine C lk_Gm_10 d_Gm_account_14 ?_
    refine g_Mc_accountCount C h02 lk_Gm_57 d_Gm_account_17 ?_
    refine r_bipush C d_Gm_account_20 (by decide) ?_
    refine r_icmp_lt (tgt := 28) C d_Gm_account_22 (by decide) (by first | assumption | exact bd_ir (by assumption) rfl | exact b2i_ir _ | exact pb_ir _ | exact ir_mk (by omega) (by omega)) (by first | assumption | exact bd_ir (by assumption) rfl | exact b2i_ir _ | exact pb_ir _ | exact ir_mk (by omega) (by omega)) (fun c22 => ?_) (fun c22 => ?_)
    · refine r_aload_n C d_Gm_account_28 rfl ?_
      refine g_Gm_machine C lk_Gm_10 d_Gm_account_29 ?_
      refine r_iload_n C d_Gm_account_32 rfl ?_
      refine r_cV1r C (k_Mc_addAccount h02 (by omega) hB) (by decide) (by decide) ml_Gm_60 mn_Mc_addAccount ms_Mc_addAccount mc_Mc_addAccount mi_Mc_addAccount md_Mc_addAccount (kMc_lt h02) (zMc h02) rfl rfl (Nat.le_of_ble_eq_true rfl) d_Gm_account_33 ?_
      exact R d_Gm_account_36 (by (repeat' split) <;> omega) (by (repeat' split) <;> first | rfl | (exfalso; omega))
    · refine r_bipush C d_Gm_account_25 (by decide) ?_
      exact R d_Gm_account_27 (by (repeat' split) <;> omega) (by (repeat' split) <;> first | rfl | (exfalso; omega))
  · try have k7 := b2i_ne c7
    refine r_bipush C d_Gm_account_10 (by decide) ?_
    exact R d_Gm_account_12 (by (repeat' split) <;> omega) (by (repeat' split) <;> first | rfl | (exfalso; omega))
def jbG (t : TT) (a n c d e f : Int) : Int := if ¬ (0 ≤ a ∧ a < t 1 0) then -2 else if (n < 1 ∨ 64 < n) ∨ (c < 0 ∨ 100 < c) ∨ (d < 1 ∨ 50 < d) ∨ (e < 1 ∨ d < e) ∨ (f < 0 ∨ 50 < f) then -3 else if 30 ≤ t 2 0 then -5 else 1
def jwG (t : TT) (a n c d e f : Int) : TT := tu (wtF t (t 2 0).toNat a n c d e f) 2 0 (t 2 0 + 1)
theorem wtF_ne {t : TT} {j g k : Nat} {a b c d e f : Int} (h : g < 17 ∨ 29 < g) : wtF t j a b c d e f g k = t g k := by
  unfold wtF; simp (disch := omega) only [tu_ne]
theorem k_Gm_job {l : Launch} {E : Ew} {S0 : WW} {t : TT} (hB : Bd t) {a n c d e f : Int} (ha : ir a) (hn : ir n) (hc : ir c) (hd : ir d) (he : ir e) (hf : ir f) : Kf l y_Gm_job b_Gm_job 8 (some .int) 1 E (sm S0 0 t) [rf E 0, iv a, iv n, iv c, iv d, iv e, iv f] (some (iv (if jbG t a n c d e f = 1 then t 2 0 else jbG t a n c d e f))) (sm S0 0 (if jbG t a n c d e f = 1 then jwG t a n c d e f else t)) := by
  refine KfI rfl rfl (Nat.le_of_ble_eq_true rfl) (fun g C R => ?_)
  show g (sm S0 0 t) 0 [some (rf E 0), some (iv a), some (iv n), some (iv c), some (iv d), some (iv e), some (iv f), none] []
  have b1 := bd1 hB 0
  have b2 := bd2 hB 0
  refine r_aload_n C d_Gm_job_0 rfl ?_
  refine g_Gm_machine C lk_Gm_10 d_Gm_job_1 ?_
  refine r_iload_n C d_Gm_job_4 rfl ?_
  refine r_cV1r C (k_Mc_hasAccount h02 (by first | assumption | exact ir_mk (by omega) (by omega)) hB) (by decide) (by decide) ml_Gm_63 mn_Mc_hasAccount ms_Mc_hasAccount mc_Mc_hasAccount mi_Mc_hasAccount md_Mc_hasAccount (kMc_lt h02) (zMc h02) rfl rfl (Nat.le_of_ble_eq_true rfl) d_Gm_job_5 ?_
  refine r_if_ne (tgt := 14) C d_Gm_job_8 (by decide) (by first | assumption | exact bd_ir (by assumption) rfl | exact b2i_ir _ | exact pb_ir _ | exact ir_mk (by omega) (by omega)) (fun c8 => ?_) (fun c8 => ?_)
  · try have k8 := b2i_ne c8
    refine r_iload_n C d_Gm_job_14 rfl ?_
    refine r_iconst C d_Gm_job_15 ?_
    refine r_bipush C d_Gm_job_16 (by decide) ?_
    refine r_cS3r C (k_Gm_isOutside (by first | assumption | exact ir_mk (by omega) (by omega)) (by first | assumption | exact ir_mk (by omega) (by omega)) (by first | assumption | exact ir_mk (by omega) (by omega))) (by decide) (by decide) ml_Gm_19 mt_Gm_isOutside mc_Gm_isOutside mi_Gm_isOutside md_Gm_isOutside (Nat.le_of_ble_eq_true rfl) d_Gm_job_18 ?_
    refine r_if_ne (tgt := 67) C d_Gm_job_21 (by decide) (by first | assumption | exact bd_ir (by assumption) rfl | exact b2i_ir _ | exact pb_ir _ | exact ir_mk (by omega) (by omega)) (fun c21 => ?_) (fun c21 => ?_)
    · try have k21 := b2i_ne c21
      refine r_bipush C d_Gm_job_67 (by decide) ?_
      exact R d_Gm_job_69 (by unfold jbG; (repeat' split) <;> omega) (by unfold jbG; (repeat' split) <;> first | rfl | (exfalso; omega))
    · try have k21 := b2i_nn c21
      refine r_iload_n C d_Gm_job_24 rfl ?_
      refine r_iconst C d_Gm_job_25 ?_
      refine r_bipush C d_Gm_job_26 (by decide) ?_
      refine r_cS3r C (k_Gm_isOutside (by first | assumption | exact ir_mk (by omega) (by omega)) (by first | assumption | exact ir_mk (by omega) (by omega)) (by first | assumption | exact ir_mk (by omega) (by omega))) (by decide) (by decide) ml_Gm_19 mt_Gm_isOutside mc_Gm_isOutside mi_Gm_isOutside md_Gm_isOutside (Nat.le_of_ble_eq_true rfl) d_Gm_job_28 ?_
      refine r_if_ne (tgt := 67) C d_Gm_job_31 (by decide) (by first | assumption | exact bd_ir (by assumption) rfl | exact b2i_ir _ | exact pb_ir _ | exact ir_mk (by omega) (by omega)) (fun c31 => ?_) (fun c31 => ?_)
      · try have k31 := b2i_ne c31
        refine r_bipush C d_Gm_job_67 (by decide) ?_
        exact R d_Gm_job_69 (by unfold jbG; (repeat' split) <;> omega) (by unfold jbG; (repeat' split) <;> first | rfl | (exfalso; omega))
      · try have k31 := b2i_nn c31
        refine r_iload C d_Gm_job_34 rfl ?_
        refine r_iconst C d_Gm_job_36 ?_
        refine r_bipush C d_Gm_job_37 (by decide) ?_
        refine r_cS3r C (k_Gm_isOutside (by first | assumption | exact ir_mk (by omega) (by omega)) (by first | assumption | exact ir_mk (by omega) (by omega)) (by first | assumption | exact ir_mk (by omega) (by omega))) (by decide) (by decide) ml_Gm_19 mt_Gm_isOutside mc_Gm_isOutside mi_Gm_isOutside md_Gm_isOutside (Nat.le_of_ble_eq_true rfl) d_Gm_job_39 ?_
        refine r_if_ne (tgt := 67) C d_Gm_job_42 (by decide) (by first | assumption | exact bd_ir (by assumption) rfl | exact b2i_ir _ | exact pb_ir _ | exact ir_mk (by omega) (by omega)) (fun c42 => ?_) (fun c42 => ?_)
        · try have k42 := b2i_ne c42
          refine r_bipush C d_Gm_job_67 (by decide) ?_
          exact R d_Gm_job_69 (by unfold jbG; (repeat' split) <;> omega) (by unfold jbG; (repeat' split) <;> first | rfl | (exfalso; omega))
        · try have k42 := b2i_nn c42
          refine r_iload C d_Gm_job_45 rfl ?_
          refine r_iconst C d_Gm_job_47 ?_
          refine r_iload C d_Gm_job_48 rfl ?_
          refine r_cS3r C (k_Gm_isOutside (by first | assumption | exact ir_mk (by omega) (by omega)) (by first | assumption | exact ir_mk (by omega) (by omega)) (by first | assumption | exact ir_mk (by omega) (by omega))) (by decide) (by decide) ml_Gm_19 mt_Gm_isOutside mc_Gm_isOutside mi_Gm_isOutside md_Gm_isOutside (Nat.le_of_ble_eq_true rfl) d_Gm_job_50 ?_
          refine r_if_ne (tgt := 67) C d_Gm_job_53 (by decide) (by first | assumption | exact bd_ir (by assumption) rfl | exact b2i_ir _ | exact pb_ir _ | exact ir_mk (by omega) (by omega)) (fun c53 => ?_) (fun c53 => ?_)
          · try have k53 := b2i_ne c53
            refine r_bipush C d_Gm_job_67 (by decide) ?_
            exact R d_Gm_job_69 (by unfold jbG; (repeat' split) <;> omega) (by unfold jbG; (repeat' split) <;> first | rfl | (exfalso; omega))
          · try have k53 := b2i_nn c53
            refine r_iload C d_Gm_job_56 rfl ?_
            refine r_iconst C d_Gm_job_58 ?_
            refine r_bipush C d_Gm_job_59 (by decide) ?_
            refine r_cS3r C (k_Gm_isOutside (by first | assumption | exact ir_mk (by omega) (by omega)) (by first | assumption | exact ir_mk (by omega) (by omega)) (by first | assumption | exact ir_mk (by omega) (by omega))) (by decide) (by decide) ml_Gm_19 mt_Gm_isOutside mc_Gm_isOutside mi_Gm_isOutside md_Gm_isOutside (Nat.le_of_ble_eq_true rfl) d_Gm_job_61 ?_
            refine r_if_eq (tgt := 70) C d_Gm_job_64 (by decide) (by first | assumption | exact bd_ir (by assumption) rfl | exact b2i_ir _ | exact pb_ir _ | exact ir_mk (by omega) (by omega)) (fun c64 => ?_) (fun c64 => ?_)
            · try have k64 := b2i_eq c64
              refine r_aload_n C d_Gm_job_70 rfl ?_
              refine g_Gm_machine C lk_Gm_10 d_Gm_job_71 ?_
              refine g_Mc_jobCount C h02 lk_Gm_66 d_Gm_job_74 ?_
              refine r_bipush C d_Gm_job_77 (by decide) ?_
              refine r_icmp_lt (tgt := 85) C d_Gm_job_79 (by decide) (by first | assumption | exact bd_ir (by assumption) rfl | exact b2i_ir _ | exact pb_ir _ | exact ir_mk (by omega) (by omega)) (by first | assumption | exact bd_ir (by assumption) rfl | exact b2i_ir _ | exact pb_ir _ | exact ir_mk (by omega) (by omega)) (fun c79 => ?_) (fun c79 => ?_)
              · refine r_aload_n C d_Gm_job_85 rfl ?_
                refine g_Gm_machine C lk_Gm_10 d_Gm_job_86 ?_
                refine g_Mc_jobCount C h02 lk_Gm_66 d_Gm_job_89 ?_
                refine r_istore_7 C d_Gm_job_92 ?_
                refine r_aload_n C d_Gm_job_94 rfl ?_
                refine g_Gm_machine C lk_Gm_10 d_Gm_job_95 ?_
                refine g_Mc_jobs C h02 lk_Gm_69 d_Gm_job_98 ?_
                refine r_iload C d_Gm_job_101 rfl ?_
                refine x_Jb C h02 (t 2 0).toNat (by omega) (by omega) d_Gm_job_103 ?_
                refine r_iload_n C d_Gm_job_104 rfl ?_
                refine r_iload_n C d_Gm_job_105 rfl ?_
                refine r_iload_n C d_Gm_job_106 rfl ?_
                refine r_iload C d_Gm_job_107 rfl ?_
                refine r_iload C d_Gm_job_109 rfl ?_
                refine r_iload C d_Gm_job_111 rfl ?_
                refine r_cV6v C (k_Jb_want h02 (j := (t 2 0).toNat) (by omega)) (by decide) (by decide) ml_Gm_73 mn_Jb_want ms_Jb_want mc_Jb_want mi_Jb_want md_Jb_want (kJb_lt h02 (by omega)) (zJb h02 (by omega)) rfl rfl (Nat.le_of_ble_eq_true rfl) d_Gm_job_113 ?_
                refine r_aload_n C d_Gm_job_116 rfl ?_
                refine g_Gm_machine C lk_Gm_10 d_Gm_job_117 ?_
                refine r_dup C d_Gm_job_120 rfl ?_
                refine g_Mc_jobCount C h02 lk_Gm_66 d_Gm_job_121 ?_
                rw [wtF_ne (by omega)]
                refine r_iconst C d_Gm_job_124 ?_
                refine r_iadd C d_Gm_job_125 ?_
                refine p_Mc_jobCount C h02 lk_Gm_66 d_Gm_job_126 ?_
                refine r_iload C d_Gm_job_129 rfl ?_
                exact R d_Gm_job_131 (by unfold jbG; (repeat' split) <;> omega) (by unfold jbG; (repeat' split) <;> first | rfl | (exfalso; omega))
              · refine r_bipush C d_Gm_job_82 (by decide) ?_
                exact R d_Gm_job_84 (by unfold jbG; (repeat' split) <;> omega) (by unfold jbG; (repeat' split) <;> first | rfl | (exfalso; omega))
            · try have k64 := b2i_ne c64
              refine r_bipush C d_Gm_job_67 (by decide) ?_
              exact R d_Gm_job_69 (by unfold jbG; (repeat' split) <;> omega) (by unfold jbG; (repeat' split) <;> first | rfl | (exfalso; omega))
  · try have k8 := b2i_nn c8
    refine r_bipush C d_Gm_job_11 (by decide) ?_
    exact R d_Gm_job_13 (by unfold jbG; (repeat' split) <;> omega) (by unfold jbG; (repeat' split) <;> first | rfl | (exfalso; omega))
theorem k_Gm_behind {l : Launch} {E : Ew} {S0 : WW} {t : TT} (hB : Bd t) {j k : Int} (hj : ir j) (hk : ir k) : Kf l y_Gm_behind b_Gm_behind 3 (some .int) 1 E (sm S0 0 t) [rf E 0, iv j, iv k] (some (iv (bhC t j k))) (sm S0 0 (if bhC t j k = 1 then tu t 23 j.toNat k else t)) := by
  refine KfI rfl rfl (Nat.le_of_ble_eq_true rfl) (fun g C R => ?_)
  show g (sm S0 0 t) 0 [some (rf E 0), some (iv j), some (iv k)] []
  have b2 := bd2 hB 0
  have b24 := bd24 hB j.toNat
  refine r_aload_n C d_Gm_behind_0 rfl ?_
  refine g_Gm_machine C lk_Gm_10 d_Gm_behind_1 ?_
  refine r_iload_n C d_Gm_behind_4 rfl ?_
  refine r_cV1r C (k_Mc_hasJob h02 (by first | assumption | exact ir_mk (by omega) (by omega)) hB) (by decide) (by decide) ml_Gm_79 mn_Mc_hasJob ms_Mc_hasJob mc_Mc_hasJob mi_Mc_hasJob md_Mc_hasJob (kMc_lt h02) (zMc h02) rfl rfl (Nat.le_of_ble_eq_true rfl) d_Gm_behind_5 ?_
  refine r_if_eq (tgt := 27) C d_Gm_behind_8 (by decide) (by first | assumption | exact bd_ir (by assumption) rfl | exact b2i_ir _ | exact pb_ir _ | exact ir_mk (by omega) (by omega)) (fun c8 => ?_) (fun c8 => ?_)
  · try have k8 := b2i_eq c8
    refine r_bipush C d_Gm_behind_27 (by decide) ?_
    exact R d_Gm_behind_29 (by unfold bhC; (repeat' split) <;> omega) (by unfold bhC; (repeat' split) <;> first | rfl | (exfalso; omega))
  · try have k8 := b2i_ne c8
    refine r_iload_n C d_Gm_behind_11 rfl ?_
    refine r_iconst C d_Gm_behind_12 ?_
    refine r_icmp_eq (tgt := 30) C d_Gm_behind_13 (by decide) (by first | assumption | exact bd_ir (by assumption) rfl | exact b2i_ir _ | exact pb_ir _ | exact ir_mk (by omega) (by omega)) (by first | assumption | exact bd_ir (by assumption) rfl | exact b2i_ir _ | exact pb_ir _ | exact ir_mk (by omega) (by omega)) (fun c13 => ?_) (fun c13 => ?_)
    · refine r_iload_n C d_Gm_behind_30 rfl ?_
      refine r_iload_n C d_Gm_behind_31 rfl ?_
      refine r_icmp_lt (tgt := 38) C d_Gm_behind_32 (by decide) (by first | assumption | exact bd_ir (by assumption) rfl | exact b2i_ir _ | exact pb_ir _ | exact ir_mk (by omega) (by omega)) (by first | assumption | exact bd_ir (by assumption) rfl | exact b2i_ir _ | exact pb_ir _ | exact ir_mk (by omega) (by omega)) (fun c32 => ?_) (fun c32 => ?_)
      · refine r_aload_n C d_Gm_behind_38 rfl ?_
        refine g_Gm_machine C lk_Gm_10 d_Gm_behind_39 ?_
        refine g_Mc_jobs C h02 lk_Gm_69 d_Gm_behind_42 ?_
        refine r_iload_n C d_Gm_behind_45 rfl ?_
        refine x_Jb C h02 j.toNat (by omega) (by omega) d_Gm_behind_46 ?_
        refine g_Jb_state C h02 (by omega) lk_Gm_82 d_Gm_behind_47 ?_
        refine r_if_eq (tgt := 56) C d_Gm_behind_50 (by decide) (by first | assumption | exact bd_ir (by assumption) rfl | exact b2i_ir _ | exact pb_ir _ | exact ir_mk (by omega) (by omega)) (fun c50 => ?_) (fun c50 => ?_)
        · try have k50 := b2i_eq c50
          refine r_aload_n C d_Gm_behind_56 rfl ?_
          refine g_Gm_machine C lk_Gm_10 d_Gm_behind_57 ?_
          refine g_Mc_jobs C h02 lk_Gm_69 d_Gm_behind_60 ?_
          refine r_iload_n C d_Gm_behind_63 rfl ?_
          refine x_Jb C h02 j.toNat (by omega) (by omega) d_Gm_behind_64 ?_
          refine r_iload_n C d_Gm_behind_65 rfl ?_
          refine p_Jb_ahead C h02 (by omega) lk_Gm_85 d_Gm_behind_66 ?_
          refine r_iconst C d_Gm_behind_69 ?_
          exact R d_Gm_behind_70 (by unfold bhC; (repeat' split) <;> omega) (by unfold bhC; (repeat' split) <;> first | rfl | (exfalso; omega))
        · try have k50 := b2i_ne c50
          refine r_bipush C d_Gm_behind_53 (by decide) ?_
          exact R d_Gm_behind_55 (by unfold bhC; (repeat' split) <;> omega) (by unfold bhC; (repeat' split) <;> first | rfl | (exfalso; omega))
      · refine r_bipush C d_Gm_behind_35 (by decide) ?_
        exact R d_Gm_behind_37 (by unfold bhC; (repeat' split) <;> omega) (by unfold bhC; (repeat' split) <;> first | rfl | (exfalso; omega))
    · refine r_aload_n C d_Gm_behind_16 rfl ?_
      refine g_Gm_machine C lk_Gm_10 d_Gm_behind_17 ?_
      refine r_iload_n C d_Gm_behind_20 rfl ?_
      refine r_cV1r C (k_Mc_hasJob h02 (by first | assumption | exact ir_mk (by omega) (by omega)) hB) (by decide) (by decide) ml_Gm_79 mn_Mc_hasJob ms_Mc_hasJob mc_Mc_hasJob mi_Mc_hasJob md_Mc_hasJob (kMc_lt h02) (zMc h02) rfl rfl (Nat.le_of_ble_eq_true rfl) d_Gm_behind_21 ?_
      refine r_if_ne (tgt := 30) C d_Gm_behind_24 (by decide) (by first | assumption | exact bd_ir (by assumption) rfl | exact b2i_ir _ | exact pb_ir _ | exact ir_mk (by omega) (by omega)) (fun c24 => ?_) (fun c24 => ?_)
      · try have k24 := b2i_ne c24
        refine r_iload_n C d_Gm_behind_30 rfl ?_
        refine r_iload_n C d_Gm_behind_31 rfl ?_
        refine r_icmp_lt (tgt := 38) C d_Gm_behind_32 (by decide) (by first | assumption | exact bd_ir (by assumption) rfl | exact b2i_ir _ | exact pb_ir _ | exact ir_mk (by omega) (by omega)) (by first | assumption | exact bd_ir (by assumption) rfl | exact b2i_ir _ | exact pb_ir _ | exact ir_mk (by omega) (by omega)) (fun c32 => ?_) (fun c32 => ?_)
        · refine r_aload_n C d_Gm_behind_38 rfl ?_
          refine g_Gm_machine C lk_Gm_10 d_Gm_behind_39 ?_
          refine g_Mc_jobs C h02 lk_Gm_69 d_Gm_behind_42 ?_
          refine r_iload_n C d_Gm_behind_45 rfl ?_
          refine x_Jb C h02 j.toNat (by omega) (by omega) d_Gm_behind_46 ?_
          refine g_Jb_state C h02 (by omega) lk_Gm_82 d_Gm_behind_47 ?_
          refine r_if_eq (tgt := 56) C d_Gm_behind_50 (by decide) (by first | assumption | exact bd_ir (by assumption) rfl | exact b2i_ir _ | exact pb_ir _ | exact ir_mk (by omega) (by omega)) (fun c50 => ?_) (fun c50 => ?_)
          · try have k50 := b2i_eq c50
            refine r_aload_n C d_Gm_behind_56 rfl ?_
            refine g_Gm_machine C lk_Gm_10 d_Gm_behind_57 ?_
            refine g_Mc_jobs C h02 lk_Gm_69 d_Gm_behind_60 ?_
            refine r_iload_n C d_Gm_behind_63 rfl ?_
            refine x_Jb C h02 j.toNat (by omega) (by omega) d_Gm_behind_64 ?_
            refine r_iload_n C d_Gm_behind_65 rfl ?_
            refine p_Jb_ahead C h02 (by omega) lk_Gm_85 d_Gm_behind_66 ?_
            refine r_iconst C d_Gm_behind_69 ?_
            exact R d_Gm_behind_70 (by unfold bhC; (repeat' split) <;> omega) (by unfold bhC; (repeat' split) <;> first | rfl | (exfalso; omega))
          · try have k50 := b2i_ne c50
            refine r_bipush C d_Gm_behind_53 (by decide) ?_
            exact R d_Gm_behind_55 (by unfold bhC; (repeat' split) <;> omega) (by unfold bhC; (repeat' split) <;> first | rfl | (exfalso; omega))
        · refine r_bipush C d_Gm_behind_35 (by decide) ?_
          exact R d_Gm_behind_37 (by unfold bhC; (repeat' split) <;> omega) (by unfold bhC; (repeat' split) <;> first | rfl | (exfalso; omega))
      · try have k24 := b2i_nn c24
        refine r_bipush C d_Gm_behind_27 (by decide) ?_
        exact R d_Gm_behind_29 (by unfold bhC; (repeat' split) <;> omega) (by unfold bhC; (repeat' split) <;> first | rfl | (exfalso; omega))
def cnC (t : TT) (j : Int) : Int := if ¬ (0 ≤ j ∧ j < t 2 0) then -2 else if t 24 j.toNat ≠ 0 ∧ t 24 j.toNat ≠ 1 then -4 else 1
theorem k_Gm_cancel {l : Launch} {E : Ew} {S0 : WW} {t : TT} (hB : Bd t) {j : Int} (hj : ir j) : Kf l y_Gm_cancel b_Gm_cancel 3 (some .int) 1 E (sm S0 0 t) [rf E 0, iv j] (some (iv (cnC t j))) (sm S0 0 (if cnC t j = 1 then tu (lvF t j.toNat) 24 j.toNat 3 else t)) := by
  refine KfI rfl rfl (Nat.le_of_ble_eq_true rfl) (fun g C R => ?_)
  show g (sm S0 0 t) 0 [some (rf E 0), some (iv j), none] []
  have b2 := bd2 hB 0
  have b24 := bd24 hB j.toNat
  refine r_aload_n C d_Gm_cancel_0 rfl ?_
  refine g_Gm_machine C lk_Gm_10 d_Gm_cancel_1 ?_
  refine r_iload_n C d_Gm_cancel_4 rfl ?_
  refine r_cV1r C (k_Mc_hasJob h02 (by first | assumption | exact ir_mk (by omega) (by omega)) hB) (by decide) (by decide) ml_Gm_79 mn_Mc_hasJob ms_Mc_hasJob mc_Mc_hasJob mi_Mc_hasJob md_Mc_hasJob (kMc_lt h02) (zMc h02) rfl rfl (Nat.le_of_ble_eq_true rfl) d_Gm_cancel_5 ?_
  refine r_if_ne (tgt := 14) C d_Gm_cancel_8 (by decide) (by first | assumption | exact bd_ir (by assumption) rfl | exact b2i_ir _ | exact pb_ir _ | exact ir_mk (by omega) (by omega)) (fun c8 => ?_) (fun c8 => ?_)
  · try have k8 := b2i_ne c8
    refine r_aload_n C d_Gm_cancel_14 rfl ?_
    refine g_Gm_machine C lk_Gm_10 d_Gm_cancel_15 ?_
    refine g_Mc_jobs C h02 lk_Gm_69 d_Gm_cancel_18 ?_
    refine r_iload_n C d_Gm_cancel_21 rfl ?_
    refine x_Jb C h02 j.toNat (by omega) (by omega) d_Gm_cancel_22 ?_
    refine r_astore_2 C d_Gm_cancel_23 ?_
    refine r_aload_n C d_Gm_cancel_24 rfl ?_
    refine g_Jb_state C h02 (by omega) lk_Gm_82 d_Gm_cancel_25 ?_
    refine r_if_eq (tgt := 42) C d_Gm_cancel_28 (by decide) (by first | assumption | exact bd_ir (by assumption) rfl | exact b2i_ir _ | exact pb_ir _ | exact ir_mk (by omega) (by omega)) (fun c28 => ?_) (fun c28 => ?_)
    · try have k28 := b2i_eq c28
      refine r_aload_n C d_Gm_cancel_42 rfl ?_
      refine g_Gm_machine C lk_Gm_10 d_Gm_cancel_43 ?_
      refine r_aload_n C d_Gm_cancel_46 rfl ?_
      refine r_cV1v C (k_Mc_leaveNodes h02 (j := j.toNat) (by omega) hB) (by decide) (by decide) ml_Gm_88 mn_Mc_leaveNodes ms_Mc_leaveNodes mc_Mc_leaveNodes mi_Mc_leaveNodes md_Mc_leaveNodes (kMc_lt h02) (zMc h02) rfl rfl (Nat.le_of_ble_eq_true rfl) d_Gm_cancel_47 ?_
      refine r_aload_n C d_Gm_cancel_50 rfl ?_
      refine r_iconst C d_Gm_cancel_51 ?_
      refine p_Jb_state C h02 (by omega) lk_Gm_82 d_Gm_cancel_52 ?_
      refine r_iconst C d_Gm_cancel_55 ?_
      exact R d_Gm_cancel_56 (by unfold cnC; (repeat' split) <;> omega) (by unfold cnC; (repeat' split) <;> first | rfl | (exfalso; omega))
    · try have k28 := b2i_ne c28
      refine r_aload_n C d_Gm_cancel_31 rfl ?_
      refine g_Jb_state C h02 (by omega) lk_Gm_82 d_Gm_cancel_32 ?_
      refine r_iconst C d_Gm_cancel_35 ?_
      refine r_icmp_eq (tgt := 42) C d_Gm_cancel_36 (by decide) (by first | assumption | exact bd_ir (by assumption) rfl | exact b2i_ir _ | exact pb_ir _ | exact ir_mk (by omega) (by omega)) (by first | assumption | exact bd_ir (by assumption) rfl | exact b2i_ir _ | exact pb_ir _ | exact ir_mk (by omega) (by omega)) (fun c36 => ?_) (fun c36 => ?_)
      · refine r_aload_n C d_Gm_cancel_42 rfl ?_
        refine g_Gm_machine C lk_Gm_10 d_Gm_cancel_43 ?_
        refine r_aload_n C d_Gm_cancel_46 rfl ?_
        refine r_cV1v C (k_Mc_leaveNodes h02 (j := j.toNat) (by omega) hB) (by decide) (by decide) ml_Gm_88 mn_Mc_leaveNodes ms_Mc_leaveNodes mc_Mc_leaveNodes mi_Mc_leaveNodes md_Mc_leaveNodes (kMc_lt h02) (zMc h02) rfl rfl (Nat.le_of_ble_eq_true rfl) d_Gm_cancel_47 ?_
        refine r_aload_n C d_Gm_cancel_50 rfl ?_
        refine r_iconst C d_Gm_cancel_51 ?_
        refine p_Jb_state C h02 (by omega) lk_Gm_82 d_Gm_cancel_52 ?_
        refine r_iconst C d_Gm_cancel_55 ?_
        exact R d_Gm_cancel_56 (by unfold cnC; (repeat' split) <;> omega) (by unfold cnC; (repeat' split) <;> first | rfl | (exfalso; omega))
      · refine r_bipush C d_Gm_cancel_39 (by decide) ?_
        exact R d_Gm_cancel_41 (by unfold cnC; (repeat' split) <;> omega) (by unfold cnC; (repeat' split) <;> first | rfl | (exfalso; omega))
  · try have k8 := b2i_nn c8
    refine r_bipush C d_Gm_cancel_11 (by decide) ?_
    exact R d_Gm_cancel_13 (by unfold cnC; (repeat' split) <;> omega) (by unfold cnC; (repeat' split) <;> first | rfl | (exfalso; omega))
abbrev bkO (t : TT) (n a b : Int) : Prop := (n < 1 ∨ 64 < n) ∨ a < t 4 0 ∨ b ≤ a ∨ 3000 < b
noncomputable def bkV (t : TT) (n a b : Int) (p : Prop) : Int := if bkO t n a b then -3 else pif p (if 8 ≤ t 3 0 then -5 else t 3 0) (-4)
noncomputable def bkS (t : TT) (n a b : Int) : TT := if bkO t n a b then t else pif (nfP t n a b (t 3 0).toNat) (if 8 ≤ t 3 0 then t else tu (hdF t (t 3 0).toNat n 0 a b) 3 0 (t 3 0 + 1)) t
theorem pb_nn {p : Prop} (h : ¬ (pb p ≠ 0)) : ¬ p := pb_0.mp (by omega)
theorem pb_ne {p : Prop} (h : pb p ≠ 0) : p := Classical.byContradiction (fun z => h (pb_f z))
theorem k_Gm_book {l : Launch} {E : Ew} {S0 : WW} {t : TT} (hB : Bd t) {n a b : Int} (hn : ir n) (ha : ir a) (hb : ir b) : Kf l y_Gm_book b_Gm_book 5 (some .int) 2 E (sm S0 0 t) [rf E 0, iv n, iv a, iv b] (some (iv (bkV t n a b (nfP t n a b (t 3 0).toNat)))) (sm S0 0 (bkS t n a b)) := by
  refine KfI rfl rfl (Nat.le_of_ble_eq_true rfl) (fun g C R => ?_)
  show g (sm S0 0 t) 0 [some (rf E 0), some (iv n), some (iv a), some (iv b), none] []
  have b3 := bd3 hB 0
  have b4 := bd4 hB 0
  refine r_iload_n C d_Gm_book_0 rfl ?_
  refine r_iconst C d_Gm_book_1 ?_
  refine r_bipush C d_Gm_book_2 (by decide) ?_
  refine r_cS3r C (k_Gm_isOutside (by first | assumption | exact ir_mk (by omega) (by omega)) (by first | assumption | exact ir_mk (by omega) (by omega)) (by first | assumption | exact ir_mk (by omega) (by omega))) (by decide) (by decide) ml_Gm_19 mt_Gm_isOutside mc_Gm_isOutside mi_Gm_isOutside md_Gm_isOutside (Nat.le_of_ble_eq_true rfl) d_Gm_book_4 ?_
  refine r_if_ne (tgt := 33) C d_Gm_book_7 (by decide) (by first | assumption | exact bd_ir (by assumption) rfl | exact b2i_ir _ | exact pb_ir _ | exact ir_mk (by omega) (by omega)) (fun c7 => ?_) (fun c7 => ?_)
  · try have k7 := b2i_ne c7
    refine r_bipush C d_Gm_book_33 (by decide) ?_
    exact R d_Gm_book_35 (by unfold bkV; first | (rw [if_pos (by omega)]; done) | (rw [if_neg (by omega), pif_f (pb_nn c46)]; done) | (rw [if_neg (by omega), pif_t (pb_ne c46), if_pos (by omega)]; done) | (rw [if_neg (by omega), pif_t (pb_ne c46), if_neg (by omega)]; done)) (by unfold bkS; first | (rw [if_pos (by omega)]; done) | (rw [if_neg (by omega), pif_f (pb_nn c46)]; done) | (rw [if_neg (by omega), pif_t (pb_ne c46), if_pos (by omega)]; done) | (rw [if_neg (by omega), pif_t (pb_ne c46), if_neg (by omega)]; done))
  · try have k7 := b2i_nn c7
    refine r_iload_n C d_Gm_book_10 rfl ?_
    refine r_aload_n C d_Gm_book_11 rfl ?_
    refine g_Gm_machine C lk_Gm_10 d_Gm_book_12 ?_
    refine g_Mc_now C h02 lk_Gm_92 d_Gm_book_15 ?_
    refine r_icmp_lt (tgt := 33) C d_Gm_book_18 (by decide) (by first | assumption | exact bd_ir (by assumption) rfl | exact b2i_ir _ | exact pb_ir _ | exact ir_mk (by omega) (by omega)) (by first | assumption | exact bd_ir (by assumption) rfl | exact b2i_ir _ | exact pb_ir _ | exact ir_mk (by omega) (by omega)) (fun c18 => ?_) (fun c18 => ?_)
    · refine r_bipush C d_Gm_book_33 (by decide) ?_
      exact R d_Gm_book_35 (by unfold bkV; first | (rw [if_pos (by omega)]; done) | (rw [if_neg (by omega), pif_f (pb_nn c46)]; done) | (rw [if_neg (by omega), pif_t (pb_ne c46), if_pos (by omega)]; done) | (rw [if_neg (by omega), pif_t (pb_ne c46), if_neg (by omega)]; done)) (by unfold bkS; first | (rw [if_pos (by omega)]; done) | (rw [if_neg (by omega), pif_f (pb_nn c46)]; done) | (rw [if_neg (by omega), pif_t (pb_ne c46), if_pos (by omega)]; done) | (rw [if_neg (by omega), pif_t (pb_ne c46), if_neg (by omega)]; done))
    · refine r_iload_n C d_Gm_book_21 rfl ?_
      refine r_iload_n C d_Gm_book_22 rfl ?_
      refine r_icmp_le (tgt := 33) C d_Gm_book_23 (by decide) (by first | assumption | exact bd_ir (by assumption) rfl | exact b2i_ir _ | exact pb_ir _ | exact ir_mk (by omega) (by omega)) (by first | assumption | exact bd_ir (by assumption) rfl | exact b2i_ir _ | exact pb_ir _ | exact ir_mk (by omega) (by omega)) (fun c23 => ?_) (fun c23 => ?_)
      · refine r_bipush C d_Gm_book_33 (by decide) ?_
        exact R d_Gm_book_35 (by unfold bkV; first | (rw [if_pos (by omega)]; done) | (rw [if_neg (by omega), pif_f (pb_nn c46)]; done) | (rw [if_neg (by omega), pif_t (pb_ne c46), if_pos (by omega)]; done) | (rw [if_neg (by omega), pif_t (pb_ne c46), if_neg (by omega)]; done)) (by unfold bkS; first | (rw [if_pos (by omega)]; done) | (rw [if_neg (by omega), pif_f (pb_nn c46)]; done) | (rw [if_neg (by omega), pif_t (pb_ne c46), if_pos (by omega)]; done) | (rw [if_neg (by omega), pif_t (pb_ne c46), if_neg (by omega)]; done))
      · refine r_iload_n C d_Gm_book_26 rfl ?_
        refine r_sipush C d_Gm_book_27 (by decide) ?_
        refine r_icmp_le (tgt := 36) C d_Gm_book_30 (by decide) (by first | assumption | exact bd_ir (by assumption) rfl | exact b2i_ir _ | exact pb_ir _ | exact ir_mk (by omega) (by omega)) (by first | assumption | exact bd_ir (by assumption) rfl | exact b2i_ir _ | exact pb_ir _ | exact ir_mk (by omega) (by omega)) (fun c30 => ?_) (fun c30 => ?_)
        · refine r_aload_n C d_Gm_book_36 rfl ?_
          refine g_Gm_machine C lk_Gm_10 d_Gm_book_37 ?_
          refine r_iload_n C d_Gm_book_40 rfl ?_
          refine r_iload_n C d_Gm_book_41 rfl ?_
          refine r_iload_n C d_Gm_book_42 rfl ?_
          refine r_cV3r C (k_Mc_nodesFit h02 (by omega) ha hb hB) (by decide) (by decide) ml_Gm_95 mn_Mc_nodesFit ms_Mc_nodesFit mc_Mc_nodesFit mi_Mc_nodesFit md_Mc_nodesFit (kMc_lt h02) (zMc h02) rfl rfl (Nat.le_of_ble_eq_true rfl) d_Gm_book_43 ?_
          refine r_if_ne (tgt := 52) C d_Gm_book_46 (by decide) (by first | assumption | exact bd_ir (by assumption) rfl | exact b2i_ir _ | exact pb_ir _ | exact ir_mk (by omega) (by omega)) (fun c46 => ?_) (fun c46 => ?_)
          · try have k46 := b2i_ne c46
            refine r_aload_n C d_Gm_book_52 rfl ?_
            refine g_Gm_machine C lk_Gm_10 d_Gm_book_53 ?_
            refine g_Mc_holdCount C h02 lk_Gm_98 d_Gm_book_56 ?_
            refine r_bipush C d_Gm_book_59 (by decide) ?_
            refine r_icmp_lt (tgt := 67) C d_Gm_book_61 (by decide) (by first | assumption | exact bd_ir (by assumption) rfl | exact b2i_ir _ | exact pb_ir _ | exact ir_mk (by omega) (by omega)) (by first | assumption | exact bd_ir (by assumption) rfl | exact b2i_ir _ | exact pb_ir _ | exact ir_mk (by omega) (by omega)) (fun c61 => ?_) (fun c61 => ?_)
            · refine r_aload_n C d_Gm_book_67 rfl ?_
              refine g_Gm_machine C lk_Gm_10 d_Gm_book_68 ?_
              refine g_Mc_holdCount C h02 lk_Gm_98 d_Gm_book_71 ?_
              refine r_istore_4 C d_Gm_book_74 ?_
              refine r_aload_n C d_Gm_book_76 rfl ?_
              refine g_Gm_machine C lk_Gm_10 d_Gm_book_77 ?_
              refine g_Mc_holds C h02 lk_Gm_101 d_Gm_book_80 ?_
              refine r_iload C d_Gm_book_83 rfl ?_
              refine x_Hd C h02 (t 3 0).toNat (by omega) (by omega) d_Gm_book_85 ?_
              refine r_iload_n C d_Gm_book_86 rfl ?_
              refine r_iconst C d_Gm_book_87 ?_
              refine r_iload_n C d_Gm_book_88 rfl ?_
              refine r_iload_n C d_Gm_book_89 rfl ?_
              refine r_cV4v C (k_Hd_set h02 (i := (t 3 0).toNat) (by omega)) (by decide) (by decide) ml_Gm_105 mn_Hd_set ms_Hd_set mc_Hd_set mi_Hd_set md_Hd_set (kHd_lt h02 (by omega)) (zHd h02 (by omega)) rfl rfl (Nat.le_of_ble_eq_true rfl) d_Gm_book_90 ?_
              refine r_aload_n C d_Gm_book_93 rfl ?_
              refine g_Gm_machine C lk_Gm_10 d_Gm_book_94 ?_
              refine r_dup C d_Gm_book_97 rfl ?_
              refine g_Mc_holdCount C h02 lk_Gm_98 d_Gm_book_98 ?_
              rw [hdF_ne (by omega)]
              refine r_iconst C d_Gm_book_101 ?_
              refine r_iadd C d_Gm_book_102 ?_
              refine p_Mc_holdCount C h02 lk_Gm_98 d_Gm_book_103 ?_
              refine r_iload C d_Gm_book_106 rfl ?_
              exact R d_Gm_book_108 (by unfold bkV; first | (rw [if_pos (by omega)]; done) | (rw [if_neg (by omega), pif_f (pb_nn c46)]; done) | (rw [if_neg (by omega), pif_t (pb_ne c46), if_pos (by omega)]; done) | (rw [if_neg (by omega), pif_t (pb_ne c46), if_neg (by omega)]; done)) (by unfold bkS; first | (rw [if_pos (by omega)]; done) | (rw [if_neg (by omega), pif_f (pb_nn c46)]; done) | (rw [if_neg (by omega), pif_t (pb_ne c46), if_pos (by omega)]; done) | (rw [if_neg (by omega), pif_t (pb_ne c46), if_neg (by omega)]; done))
            · refine r_bipush C d_Gm_book_64 (by decide) ?_
              exact R d_Gm_book_66 (by unfold bkV; first | (rw [if_pos (by omega)]; done) | (rw [if_neg (by omega), pif_f (pb_nn c46)]; done) | (rw [if_neg (by omega), pif_t (pb_ne c46), if_pos (by omega)]; done) | (rw [if_neg (by omega), pif_t (pb_ne c46), if_neg (by omega)]; done)) (by unfold bkS; first | (rw [if_pos (by omega)]; done) | (rw [if_neg (by omega), pif_f (pb_nn c46)]; done) | (rw [if_neg (by omega), pif_t (pb_ne c46), if_pos (by omega)]; done) | (rw [if_neg (by omega), pif_t (pb_ne c46), if_neg (by omega)]; done))
          · try have k46 := b2i_nn c46
            refine r_bipush C d_Gm_book_49 (by decide) ?_
            exact R d_Gm_book_51 (by unfold bkV; first | (rw [if_pos (by omega)]; done) | (rw [if_neg (by omega), pif_f (pb_nn c46)]; done) | (rw [if_neg (by omega), pif_t (pb_ne c46), if_pos (by omega)]; done) | (rw [if_neg (by omega), pif_t (pb_ne c46), if_neg (by omega)]; done)) (by unfold bkS; first | (rw [if_pos (by omega)]; done) | (rw [if_neg (by omega), pif_f (pb_nn c46)]; done) | (rw [if_neg (by omega), pif_t (pb_ne c46), if_pos (by omega)]; done) | (rw [if_neg (by omega), pif_t (pb_ne c46), if_neg (by omega)]; done))
        · refine r_bipush C d_Gm_book_33 (by decide) ?_
          exact R d_Gm_book_35 (by unfold bkV; first | (rw [if_pos (by omega)]; done) | (rw [if_neg (by omega), pif_f (pb_nn c46)]; done) | (rw [if_neg (by omega), pif_t (pb_ne c46), if_pos (by omega)]; done) | (rw [if_neg (by omega), pif_t (pb_ne c46), if_neg (by omega)]; done)) (by unfold bkS; first | (rw [if_pos (by omega)]; done) | (rw [if_neg (by omega), pif_f (pb_nn c46)]; done) | (rw [if_neg (by omega), pif_t (pb_ne c46), if_pos (by omega)]; done) | (rw [if_neg (by omega), pif_t (pb_ne c46), if_neg (by omega)]; done))
theorem k_Gm_unbook {l : Launch} {E : Ew} {S0 : WW} {t : TT} (hB : Bd t) {n : Int} (hn : ir n) : Kf l y_Gm_unbook b_Gm_unbook 2 (some .int) 3 E (sm S0 0 t) [rf E 0, iv n] (some (iv (if ¬ (0 ≤ n ∧ n < t 3 0) then -2 else 1))) (sm S0 0 (if ¬ (0 ≤ n ∧ n < t 3 0) then t else dbF t n.toNat)) := by
  refine KfI rfl rfl (Nat.le_of_ble_eq_true rfl) (fun g C R => ?_)
  show g (sm S0 0 t) 0 [some (rf E 0), some (iv n)] []
  have b3 := bd3 hB 0
  refine r_iload_n C d_Gm_unbook_0 rfl ?_
  refine r_if_lt (tgt := 15) C d_Gm_unbook_1 (by decide) (by first | assumption | exact bd_ir (by assumption) rfl | exact b2i_ir _ | exact pb_ir _ | exact ir_mk (by omega) (by omega)) (fun c1 => ?_) (fun c1 => ?_)
  · refine r_bipush C d_Gm_unbook_15 (by decide) ?_
    exact R d_Gm_unbook_17 (by (repeat' split) <;> omega) (by (repeat' split) <;> first | rfl | (exfalso; omega))
  · refine r_iload_n C d_Gm_unbook_4 rfl ?_
    refine r_aload_n C d_Gm_unbook_5 rfl ?_
    refine g_Gm_machine C lk_Gm_10 d_Gm_unbook_6 ?_
    refine g_Mc_holdCount C h02 lk_Gm_98 d_Gm_unbook_9 ?_
    refine r_icmp_lt (tgt := 18) C d_Gm_unbook_12 (by decide) (by first | assumption | exact bd_ir (by assumption) rfl | exact b2i_ir _ | exact pb_ir _ | exact ir_mk (by omega) (by omega)) (by first | assumption | exact bd_ir (by assumption) rfl | exact b2i_ir _ | exact pb_ir _ | exact ir_mk (by omega) (by omega)) (fun c12 => ?_) (fun c12 => ?_)
    · refine r_aload_n C d_Gm_unbook_18 rfl ?_
      refine g_Gm_machine C lk_Gm_10 d_Gm_unbook_19 ?_
      refine r_iload_n C d_Gm_unbook_22 rfl ?_
      refine g_st (show iv n = iv ((n.toNat : Nat) : Int) by rw [Int.toNat_of_nonneg (by omega)]) ?_
      refine r_cV1v C (k_Mc_dropBooking h02 (b := n.toNat) (by omega) hB) (by decide) (by decide) ml_Gm_111 mn_Mc_dropBooking ms_Mc_dropBooking mc_Mc_dropBooking mi_Mc_dropBooking md_Mc_dropBooking (kMc_lt h02) (zMc h02) rfl rfl (Nat.le_of_ble_eq_true rfl) d_Gm_unbook_23 ?_
      refine r_iconst C d_Gm_unbook_26 ?_
      exact R d_Gm_unbook_27 (by (repeat' split) <;> omega) (by (repeat' split) <;> first | rfl | (exfalso; omega))
    · refine r_bipush C d_Gm_unbook_15 (by decide) ?_
      exact R d_Gm_unbook_17 (by (repeat' split) <;> omega) (by (repeat' split) <;> first | rfl | (exfalso; omega))
noncomputable def itC (t : TT) : Nat → TT
  | 0 => t
  | i + 1 => ptF (itC t i) False
theorem itC_s (t : TT) (i : Nat) : itC t (i + 1) = ptF (itC t i) False := rfl
theorem k_Gm_ticks {l : Launch} {E : Ew} {S0 : WW} {t : TT} (hB : Bd t) {n : Int} (hn : ir n) (hI : ∀ i : Nat, ¬ toC t n → (i : Int) < n → ptI (itC t i) False) : Kf l y_Gm_ticks b_Gm_ticks 3 (some .int) 6 E (sm S0 0 t) [rf E 0, iv n] (some (iv (if toC t n then -3 else itC t n.toNat 4 0))) (sm S0 0 (if toC t n then t else itC t n.toNat)) := by
  refine KfI rfl rfl (Nat.le_of_ble_eq_true rfl) (fun g C R => ?_)
  show g (sm S0 0 t) 0 [some (rf E 0), some (iv n), none] []
  have b4 := bd4 hB 0
  have hl : ∀ (k i : Nat), 1 ≤ n ∧ n ≤ 100 → ¬ toC t n → (i : Int) ≤ n → n - i < k → g (sm S0 0 (itC t i)) 30 [some (rf E 0), some (iv n), some (iv (i : Int))] [] := by
    intro k
    induction k with
    | zero => intro i h0 hto h1 h2; omega
    | succ k ih =>
      intro i h0 hto h1 h2
      refine r_iload_n C d_Gm_ticks_30 rfl ?_
      refine r_iload_n C d_Gm_ticks_31 rfl ?_
      refine r_icmp_ge (tgt := 49) C d_Gm_ticks_32 (by decide) (by first | assumption | exact bd_ir (by assumption) rfl | exact b2i_ir _ | exact pb_ir _ | exact ir_mk (by omega) (by omega)) (by first | assumption | exact bd_ir (by assumption) rfl | exact b2i_ir _ | exact pb_ir _ | exact ir_mk (by omega) (by omega)) (fun c32 => ?_) (fun c32 => ?_)
      · refine r_aload_n C d_Gm_ticks_49 rfl ?_
        refine g_Gm_machine C lk_Gm_10 d_Gm_ticks_50 ?_
        refine g_Mc_now C h02 lk_Gm_92 d_Gm_ticks_53 ?_
        exact R d_Gm_ticks_56 (by rw [if_neg hto, show n.toNat = i by omega]) (by rw [if_neg hto, show n.toNat = i by omega])
      · refine r_aload_n C d_Gm_ticks_35 rfl ?_
        refine g_Gm_machine C lk_Gm_10 d_Gm_ticks_36 ?_
        refine r_iconst C d_Gm_ticks_39 ?_
        refine r_cV1v C (by have h9 := k_Mc_passTick (l := l) (E := E) (S0 := S0) h02 (b := False) (hI i hto (by omega)); rw [pb_f (fun z => z)] at h9; exact h9) (by decide) (by decide) ml_Gm_115 mn_Mc_passTick ms_Mc_passTick mc_Mc_passTick mi_Mc_passTick md_Mc_passTick (kMc_lt h02) (zMc h02) rfl rfl (Nat.le_of_ble_eq_true rfl) d_Gm_ticks_40 ?_
        refine r_iinc_2 C d_Gm_ticks_43 ?_
        refine r_goto (tgt := 30) C d_Gm_ticks_46 (by decide) ?_
        exact ih (i + 1) h0 hto (by omega) (by omega)
  refine r_iload_n C d_Gm_ticks_0 rfl ?_
  refine r_iconst C d_Gm_ticks_1 ?_
  refine r_bipush C d_Gm_ticks_2 (by decide) ?_
  refine r_cS3r C (k_Gm_isOutside (by first | assumption | exact ir_mk (by omega) (by omega)) (by first | assumption | exact ir_mk (by omega) (by omega)) (by first | assumption | exact ir_mk (by omega) (by omega))) (by decide) (by decide) ml_Gm_19 mt_Gm_isOutside mc_Gm_isOutside mi_Gm_isOutside md_Gm_isOutside (Nat.le_of_ble_eq_true rfl) d_Gm_ticks_4 ?_
  refine r_if_ne (tgt := 25) C d_Gm_ticks_7 (by decide) (by first | assumption | exact bd_ir (by assumption) rfl | exact b2i_ir _ | exact pb_ir _ | exact ir_mk (by omega) (by omega)) (fun c7 => ?_) (fun c7 => ?_)
  · try have k7 := b2i_ne c7
    refine r_bipush C d_Gm_ticks_25 (by decide) ?_
    exact R d_Gm_ticks_27 (by (repeat' split) <;> omega) (by (repeat' split) <;> first | rfl | (exfalso; omega))
  · try have k7 := b2i_nn c7
    refine r_aload_n C d_Gm_ticks_10 rfl ?_
    refine g_Gm_machine C lk_Gm_10 d_Gm_ticks_11 ?_
    refine g_Mc_now C h02 lk_Gm_92 d_Gm_ticks_14 ?_
    refine r_iload_n C d_Gm_ticks_17 rfl ?_
    refine r_iadd C d_Gm_ticks_18 ?_
    refine r_sipush C d_Gm_ticks_19 (by decide) ?_
    refine r_icmp_le (tgt := 28) C d_Gm_ticks_22 (by decide) (by first | assumption | exact bd_ir (by assumption) rfl | exact b2i_ir _ | exact pb_ir _ | exact ir_mk (by omega) (by omega)) (by first | assumption | exact bd_ir (by assumption) rfl | exact b2i_ir _ | exact pb_ir _ | exact ir_mk (by omega) (by omega)) (fun c22 => ?_) (fun c22 => ?_)
    · refine r_iconst C d_Gm_ticks_28 ?_
      refine r_istore_2 C d_Gm_ticks_29 ?_
      exact hl (n.toNat + 1) 0 (by omega) (by omega) (by omega) (by omega)
    · refine r_bipush C d_Gm_ticks_25 (by decide) ?_
      exact R d_Gm_ticks_27 (by (repeat' split) <;> omega) (by (repeat' split) <;> first | rfl | (exfalso; omega))
def tdG (t : TT) (j w : Int) : Int := if ¬ (0 ≤ j ∧ j < t 2 0) then -2 else if w = 0 then t 24 j.toNat else if w = 1 then t 25 j.toNat else if w = 2 then t 26 j.toNat else if w = 3 then t 27 j.toNat else if w = 4 then ranF t j.toNat (t 4 0) else if w = 5 then heldF t j.toNat else -3
theorem k_Gm_told {l : Launch} {E : Ew} {S0 : WW} {t : TT} (hB : Bd t) {j w : Int} (hj : ir j) (hw : ir w) : Kf l y_Gm_told b_Gm_told 4 (some .int) 1 E (sm S0 0 t) [rf E 0, iv j, iv w] (some (iv (tdG t j w))) (sm S0 0 (t)) := by
  refine KfI rfl rfl (Nat.le_of_ble_eq_true rfl) (fun g C R => ?_)
  show g (sm S0 0 t) 0 [some (rf E 0), some (iv j), some (iv w), none] []
  have b2 := bd2 hB 0
  refine r_aload_n C d_Gm_told_0 rfl ?_
  refine g_Gm_machine C lk_Gm_10 d_Gm_told_1 ?_
  refine r_iload_n C d_Gm_told_4 rfl ?_
  refine r_cV1r C (k_Mc_hasJob h02 (by first | assumption | exact ir_mk (by omega) (by omega)) hB) (by decide) (by decide) ml_Gm_79 mn_Mc_hasJob ms_Mc_hasJob mc_Mc_hasJob mi_Mc_hasJob md_Mc_hasJob (kMc_lt h02) (zMc h02) rfl rfl (Nat.le_of_ble_eq_true rfl) d_Gm_told_5 ?_
  refine r_if_ne (tgt := 14) C d_Gm_told_8 (by decide) (by first | assumption | exact bd_ir (by assumption) rfl | exact b2i_ir _ | exact pb_ir _ | exact ir_mk (by omega) (by omega)) (fun c8 => ?_) (fun c8 => ?_)
  · try have k8 := b2i_ne c8
    refine r_aload_n C d_Gm_told_14 rfl ?_
    refine g_Gm_machine C lk_Gm_10 d_Gm_told_15 ?_
    refine g_Mc_jobs C h02 lk_Gm_69 d_Gm_told_18 ?_
    refine r_iload_n C d_Gm_told_21 rfl ?_
    refine x_Jb C h02 j.toNat (by omega) (by omega) d_Gm_told_22 ?_
    refine r_astore_3 C d_Gm_told_23 ?_
    refine r_iload_n C d_Gm_told_24 rfl ?_
    by_cases q25_0 : w = 0
    · refine r_tabIn (tgt := 64) C d_Gm_told_25 (by first | assumption | exact ir_mk (by omega) (by omega)) (by omega) (by omega) (by rw [q25_0]; rfl) (by decide) ?_
      refine r_aload_n C d_Gm_told_64 rfl ?_
      refine g_Jb_state C h02 (by omega) lk_Gm_82 d_Gm_told_65 ?_
      exact R d_Gm_told_68 (by unfold tdG; (repeat' split) <;> omega) rfl
    by_cases q25_1 : w = 1
    · refine r_tabIn (tgt := 69) C d_Gm_told_25 (by first | assumption | exact ir_mk (by omega) (by omega)) (by omega) (by omega) (by rw [q25_1]; rfl) (by decide) ?_
      refine r_aload_n C d_Gm_told_69 rfl ?_
      refine g_Jb_begun C h02 (by omega) lk_Gm_119 d_Gm_told_70 ?_
      exact R d_Gm_told_73 (by unfold tdG; (repeat' split) <;> omega) rfl
    by_cases q25_2 : w = 2
    · refine r_tabIn (tgt := 74) C d_Gm_told_25 (by first | assumption | exact ir_mk (by omega) (by omega)) (by omega) (by omega) (by rw [q25_2]; rfl) (by decide) ?_
      refine r_aload_n C d_Gm_told_74 rfl ?_
      refine g_Jb_ended C h02 (by omega) lk_Gm_122 d_Gm_told_75 ?_
      exact R d_Gm_told_78 (by unfold tdG; (repeat' split) <;> omega) rfl
    by_cases q25_3 : w = 3
    · refine r_tabIn (tgt := 79) C d_Gm_told_25 (by first | assumption | exact ir_mk (by omega) (by omega)) (by omega) (by omega) (by rw [q25_3]; rfl) (by decide) ?_
      refine r_aload_n C d_Gm_told_79 rfl ?_
      refine g_Jb_saved C h02 (by omega) lk_Gm_125 d_Gm_told_80 ?_
      exact R d_Gm_told_83 (by unfold tdG; (repeat' split) <;> omega) rfl
    by_cases q25_4 : w = 4
    · refine r_tabIn (tgt := 84) C d_Gm_told_25 (by first | assumption | exact ir_mk (by omega) (by omega)) (by omega) (by omega) (by rw [q25_4]; rfl) (by decide) ?_
      refine r_aload_n C d_Gm_told_84 rfl ?_
      refine r_aload_n C d_Gm_told_85 rfl ?_
      refine g_Gm_machine C lk_Gm_10 d_Gm_told_86 ?_
      refine g_Mc_now C h02 lk_Gm_92 d_Gm_told_89 ?_
      refine r_cV1r C (k_Jb_ranUntil h02 (i := j.toNat) (by omega) hB) (by decide) (by decide) ml_Gm_128 mn_Jb_ranUntil ms_Jb_ranUntil mc_Jb_ranUntil mi_Jb_ranUntil md_Jb_ranUntil (kJb_lt h02 (by omega)) (zJb h02 (by omega)) rfl rfl (Nat.le_of_ble_eq_true rfl) d_Gm_told_92 ?_
      exact R d_Gm_told_95 (by unfold tdG; (repeat' split) <;> omega) rfl
    by_cases q25_5 : w = 5
    · refine r_tabIn (tgt := 96) C d_Gm_told_25 (by first | assumption | exact ir_mk (by omega) (by omega)) (by omega) (by omega) (by rw [q25_5]; rfl) (by decide) ?_
      refine r_aload_n C d_Gm_told_96 rfl ?_
      refine r_cV0r C (k_Jb_racksHeld h02 (j := j.toNat) (by omega) hB) (by decide) (by decide) ml_Gm_131 mn_Jb_racksHeld ms_Jb_racksHeld mc_Jb_racksHeld mi_Jb_racksHeld md_Jb_racksHeld (kJb_lt h02 (by omega)) (zJb h02 (by omega)) rfl rfl (Nat.le_of_ble_eq_true rfl) d_Gm_told_97 ?_
      exact R d_Gm_told_100 (by unfold tdG; (repeat' split) <;> omega) rfl
    refine r_tabOut (tgt := 101) C d_Gm_told_25 (by first | assumption | exact ir_mk (by omega) (by omega)) (by omega) (by decide) ?_
    refine r_bipush C d_Gm_told_101 (by decide) ?_
    exact R d_Gm_told_103 (by unfold tdG; (repeat' split) <;> omega) rfl
  · try have k8 := b2i_nn c8
    refine r_bipush C d_Gm_told_11 (by decide) ?_
    exact R d_Gm_told_13 (by unfold tdG; (repeat' split) <;> omega) rfl
theorem k_Gm_on {l : Launch} {E : Ew} {S0 : WW} {t : TT} (hB : Bd t) {j r : Int} (hj : ir j) (hr : ir r) : Kf l y_Gm_on b_Gm_on 3 (some .int) 1 E (sm S0 0 t) [rf E 0, iv j, iv r] (some (iv (if (0 ≤ j ∧ j < t 2 0) ∧ (0 ≤ r ∧ r < t 0 0) then t (100 + j.toNat) r.toNat else -2))) (sm S0 0 (t)) := by
  refine KfI rfl rfl (Nat.le_of_ble_eq_true rfl) (fun g C R => ?_)
  show g (sm S0 0 t) 0 [some (rf E 0), some (iv j), some (iv r)] []
  have b0 := bd0 hB 0
  have b2 := bd2 hB 0
  refine r_aload_n C d_Gm_on_0 rfl ?_
  refine g_Gm_machine C lk_Gm_10 d_Gm_on_1 ?_
  refine r_iload_n C d_Gm_on_4 rfl ?_
  refine r_cV1r C (k_Mc_hasJob h02 (by first | assumption | exact ir_mk (by omega) (by omega)) hB) (by decide) (by decide) ml_Gm_79 mn_Mc_hasJob ms_Mc_hasJob mc_Mc_hasJob mi_Mc_hasJob md_Mc_hasJob (kMc_lt h02) (zMc h02) rfl rfl (Nat.le_of_ble_eq_true rfl) d_Gm_on_5 ?_
  refine r_if_eq (tgt := 22) C d_Gm_on_8 (by decide) (by first | assumption | exact bd_ir (by assumption) rfl | exact b2i_ir _ | exact pb_ir _ | exact ir_mk (by omega) (by omega)) (fun c8 => ?_) (fun c8 => ?_)
  · try have k8 := b2i_eq c8
    refine r_bipush C d_Gm_on_22 (by decide) ?_
    exact R d_Gm_on_24 (by (repeat' split) <;> omega) rfl
  · try have k8 := b2i_ne c8
    refine r_aload_n C d_Gm_on_11 rfl ?_
    refine g_Gm_machine C lk_Gm_10 d_Gm_on_12 ?_
    refine r_iload_n C d_Gm_on_15 rfl ?_
    refine r_cV1r C (k_Mc_hasRack h02 (by first | assumption | exact ir_mk (by omega) (by omega)) hB) (by decide) (by decide) ml_Gm_31 mn_Mc_hasRack ms_Mc_hasRack mc_Mc_hasRack mi_Mc_hasRack md_Mc_hasRack (kMc_lt h02) (zMc h02) rfl rfl (Nat.le_of_ble_eq_true rfl) d_Gm_on_16 ?_
    refine r_if_ne (tgt := 25) C d_Gm_on_19 (by decide) (by first | assumption | exact bd_ir (by assumption) rfl | exact b2i_ir _ | exact pb_ir _ | exact ir_mk (by omega) (by omega)) (fun c19 => ?_) (fun c19 => ?_)
    · try have k19 := b2i_ne c19
      refine r_aload_n C d_Gm_on_25 rfl ?_
      refine g_Gm_machine C lk_Gm_10 d_Gm_on_26 ?_
      refine g_Mc_jobs C h02 lk_Gm_69 d_Gm_on_29 ?_
      refine r_iload_n C d_Gm_on_32 rfl ?_
      refine x_Jb C h02 j.toNat (by omega) (by omega) d_Gm_on_33 ?_
      refine g_Jb_nodesOn C h02 (by omega) lk_Gm_135 d_Gm_on_34 ?_
      refine r_iload_n C d_Gm_on_37 rfl ?_
      refine x_On C h02 (by omega) r.toNat (by omega) (by omega) d_Gm_on_38 ?_
      exact R d_Gm_on_39 (by (repeat' split) <;> omega) rfl
    · try have k19 := b2i_nn c19
      refine r_bipush C d_Gm_on_22 (by decide) ?_
      exact R d_Gm_on_24 (by (repeat' split) <;> omega) rfl
theorem k_Gm_free {l : Launch} {E : Ew} {S0 : WW} {t : TT} (hB : Bd t) {r : Int} (hr : ir r) : Kf l y_Gm_free b_Gm_free 2 (some .int) 1 E (sm S0 0 t) [rf E 0, iv r] (some (iv (if 0 ≤ r ∧ r < t 0 0 then t 13 r.toNat else -2))) (sm S0 0 (t)) := by
  refine KfI rfl rfl (Nat.le_of_ble_eq_true rfl) (fun g C R => ?_)
  show g (sm S0 0 t) 0 [some (rf E 0), some (iv r)] []
  have b0 := bd0 hB 0
  refine r_aload_n C d_Gm_free_0 rfl ?_
  refine g_Gm_machine C lk_Gm_10 d_Gm_free_1 ?_
  refine r_iload_n C d_Gm_free_4 rfl ?_
  refine r_cV1r C (k_Mc_hasRack h02 (by first | assumption | exact ir_mk (by omega) (by omega)) hB) (by decide) (by decide) ml_Gm_31 mn_Mc_hasRack ms_Mc_hasRack mc_Mc_hasRack mi_Mc_hasRack md_Mc_hasRack (kMc_lt h02) (zMc h02) rfl rfl (Nat.le_of_ble_eq_true rfl) d_Gm_free_5 ?_
  refine r_if_eq (tgt := 26) C d_Gm_free_8 (by decide) (by first | assumption | exact bd_ir (by assumption) rfl | exact b2i_ir _ | exact pb_ir _ | exact ir_mk (by omega) (by omega)) (fun c8 => ?_) (fun c8 => ?_)
  · try have k8 := b2i_eq c8
    refine r_bipush C d_Gm_free_26 (by decide) ?_
    exact R d_Gm_free_28 (by (repeat' split) <;> omega) rfl
  · try have k8 := b2i_ne c8
    refine r_aload_n C d_Gm_free_11 rfl ?_
    refine g_Gm_machine C lk_Gm_10 d_Gm_free_12 ?_
    refine g_Mc_racks C h02 lk_Gm_35 d_Gm_free_15 ?_
    refine r_iload_n C d_Gm_free_18 rfl ?_
    refine x_Rk C h02 r.toNat (by omega) (by omega) d_Gm_free_19 ?_
    refine g_Rk_unused C h02 (by omega) lk_Gm_139 d_Gm_free_20 ?_
    refine r_goto (tgt := 28) C d_Gm_free_23 (by decide) ?_
    exact R d_Gm_free_28 (by (repeat' split) <;> omega) rfl
theorem k_Gm_used {l : Launch} {E : Ew} {S0 : WW} {t : TT} (hB : Bd t) {a : Int} (ha : ir a) : Kf l y_Gm_used b_Gm_used 2 (some .int) 1 E (sm S0 0 t) [rf E 0, iv a] (some (iv (if 0 ≤ a ∧ a < t 1 0 then t 16 a.toNat else -2))) (sm S0 0 (t)) := by
  refine KfI rfl rfl (Nat.le_of_ble_eq_true rfl) (fun g C R => ?_)
  show g (sm S0 0 t) 0 [some (rf E 0), some (iv a)] []
  have b1 := bd1 hB 0
  refine r_aload_n C d_Gm_used_0 rfl ?_
  refine g_Gm_machine C lk_Gm_10 d_Gm_used_1 ?_
  refine r_iload_n C d_Gm_used_4 rfl ?_
  refine r_cV1r C (k_Mc_hasAccount h02 (by first | assumption | exact ir_mk (by omega) (by omega)) hB) (by decide) (by decide) ml_Gm_63 mn_Mc_hasAccount ms_Mc_hasAccount mc_Mc_hasAccount mi_Mc_hasAccount md_Mc_hasAccount (kMc_lt h02) (zMc h02) rfl rfl (Nat.le_of_ble_eq_true rfl) d_Gm_used_5 ?_
  refine r_if_eq (tgt := 26) C d_Gm_used_8 (by decide) (by first | assumption | exact bd_ir (by assumption) rfl | exact b2i_ir _ | exact pb_ir _ | exact ir_mk (by omega) (by omega)) (fun c8 => ?_) (fun c8 => ?_)
  · try have k8 := b2i_eq c8
    refine r_bipush C d_Gm_used_26 (by decide) ?_
    exact R d_Gm_used_28 (by (repeat' split) <;> omega) rfl
  · try have k8 := b2i_ne c8
    refine r_aload_n C d_Gm_used_11 rfl ?_
    refine g_Gm_machine C lk_Gm_10 d_Gm_used_12 ?_
    refine g_Mc_accounts C h02 lk_Gm_142 d_Gm_used_15 ?_
    refine r_iload_n C d_Gm_used_18 rfl ?_
    refine x_Ac C h02 a.toNat (by omega) (by omega) d_Gm_used_19 ?_
    refine g_Ac_use C h02 (by omega) lk_Gm_146 d_Gm_used_20 ?_
    refine r_goto (tgt := 28) C d_Gm_used_23 (by decide) ?_
    exact R d_Gm_used_28 (by (repeat' split) <;> omega) rfl
theorem k_Gm_blocked {l : Launch} {E : Ew} {S0 : WW} {t : TT} (hB : Bd t) {w : Int} (hw : ir w) : Kf l y_Gm_blocked b_Gm_blocked 2 (some .int) 0 E (sm S0 0 t) [rf E 0, iv w] (some (iv (if w = 0 then t 8 0 else if w = 1 then t 9 0 else -3))) (sm S0 0 (t)) := by
  refine KfI rfl rfl (Nat.le_of_ble_eq_true rfl) (fun g C R => ?_)
  show g (sm S0 0 t) 0 [some (rf E 0), some (iv w)] []
  refine r_iload_n C d_Gm_blocked_0 rfl ?_
  by_cases q1_0 : w = 0
  · refine r_lookup (tgt := 28) C d_Gm_blocked_1 (by decide) (by first | assumption | exact ir_mk (by omega) (by omega)) (by rw [q1_0]; try rfl) (by decide) ?_
    refine r_aload_n C d_Gm_blocked_28 rfl ?_
    refine g_Gm_machine C lk_Gm_10 d_Gm_blocked_29 ?_
    refine g_Mc_blockedJob C h02 lk_Gm_151 d_Gm_blocked_32 ?_
    exact R d_Gm_blocked_35 (by (repeat' split) <;> omega) rfl
  by_cases q1_1 : w = 1
  · refine r_lookup (tgt := 36) C d_Gm_blocked_1 (by decide) (by first | assumption | exact ir_mk (by omega) (by omega)) (by rw [q1_1]; try rfl) (by decide) ?_
    refine r_aload_n C d_Gm_blocked_36 rfl ?_
    refine g_Gm_machine C lk_Gm_10 d_Gm_blocked_37 ?_
    refine g_Mc_keptFrom C h02 lk_Gm_154 d_Gm_blocked_40 ?_
    exact R d_Gm_blocked_43 (by (repeat' split) <;> omega) rfl
  refine r_lookup (tgt := 44) C d_Gm_blocked_1 (by decide) (by first | assumption | exact ir_mk (by omega) (by omega)) (lk_out q1_0 q1_1) (by decide) ?_
  refine r_bipush C d_Gm_blocked_44 (by decide) ?_
  exact R d_Gm_blocked_46 (by (repeat' split) <;> omega) rfl
theorem k_Gm_taken {l : Launch} {E : Ew} {S0 : WW} {t : TT} (hB : Bd t) {w u : Int} (hw : ir w) (hu : ir u) : Kf l y_Gm_taken b_Gm_taken 3 (some .int) 1 E (sm S0 0 t) [rf E 0, iv w, iv u] (some (iv (if (w < 0 ∨ 1 < w) ∨ (u < t 4 0 ∨ t 4 0 + 300 < u) then -3 else if w = 0 then ntF t u else ltF t u))) (sm S0 0 (t)) := by
  refine KfI rfl rfl (Nat.le_of_ble_eq_true rfl) (fun g C R => ?_)
  show g (sm S0 0 t) 0 [some (rf E 0), some (iv w), some (iv u)] []
  have b4 := bd4 hB 0
  refine r_iload_n C d_Gm_taken_0 rfl ?_
  refine r_iconst C d_Gm_taken_1 ?_
  refine r_iconst C d_Gm_taken_2 ?_
  refine r_cS3r C (k_Gm_isOutside (by first | assumption | exact ir_mk (by omega) (by omega)) (by first | assumption | exact ir_mk (by omega) (by omega)) (by first | assumption | exact ir_mk (by omega) (by omega))) (by decide) (by decide) ml_Gm_19 mt_Gm_isOutside mc_Gm_isOutside mi_Gm_isOutside md_Gm_isOutside (Nat.le_of_ble_eq_true rfl) d_Gm_taken_3 ?_
  refine r_if_ne (tgt := 34) C d_Gm_taken_6 (by decide) (by first | assumption | exact bd_ir (by assumption) rfl | exact b2i_ir _ | exact pb_ir _ | exact ir_mk (by omega) (by omega)) (fun c6 => ?_) (fun c6 => ?_)
  · try have k6 := b2i_ne c6
    refine r_bipush C d_Gm_taken_34 (by decide) ?_
    exact R d_Gm_taken_36 (by (repeat' split) <;> omega) rfl
  · try have k6 := b2i_nn c6
    refine r_iload_n C d_Gm_taken_9 rfl ?_
    refine r_aload_n C d_Gm_taken_10 rfl ?_
    refine g_Gm_machine C lk_Gm_10 d_Gm_taken_11 ?_
    refine g_Mc_now C h02 lk_Gm_92 d_Gm_taken_14 ?_
    refine r_aload_n C d_Gm_taken_17 rfl ?_
    refine g_Gm_machine C lk_Gm_10 d_Gm_taken_18 ?_
    refine g_Mc_now C h02 lk_Gm_92 d_Gm_taken_21 ?_
    refine r_sipush C d_Gm_taken_24 (by decide) ?_
    refine r_iadd C d_Gm_taken_27 ?_
    refine r_cS3r C (k_Gm_isOutside (by first | assumption | exact ir_mk (by omega) (by omega)) (by first | assumption | exact ir_mk (by omega) (by omega)) (by first | assumption | exact ir_mk (by omega) (by omega))) (by decide) (by decide) ml_Gm_19 mt_Gm_isOutside mc_Gm_isOutside mi_Gm_isOutside md_Gm_isOutside (Nat.le_of_ble_eq_true rfl) d_Gm_taken_28 ?_
    refine r_if_eq (tgt := 37) C d_Gm_taken_31 (by decide) (by first | assumption | exact bd_ir (by assumption) rfl | exact b2i_ir _ | exact pb_ir _ | exact ir_mk (by omega) (by omega)) (fun c31 => ?_) (fun c31 => ?_)
    · try have k31 := b2i_eq c31
      refine r_iload_n C d_Gm_taken_37 rfl ?_
      refine r_if_ne (tgt := 52) C d_Gm_taken_38 (by decide) (by first | assumption | exact bd_ir (by assumption) rfl | exact b2i_ir _ | exact pb_ir _ | exact ir_mk (by omega) (by omega)) (fun c38 => ?_) (fun c38 => ?_)
      · try have k38 := b2i_ne c38
        refine r_aload_n C d_Gm_taken_52 rfl ?_
        refine g_Gm_machine C lk_Gm_10 d_Gm_taken_53 ?_
        refine r_iload_n C d_Gm_taken_56 rfl ?_
        refine r_cV1r C (k_Mc_licencesTaken h02 hu hB) (by decide) (by decide) ml_Gm_160 mn_Mc_licencesTaken ms_Mc_licencesTaken mc_Mc_licencesTaken mi_Mc_licencesTaken md_Mc_licencesTaken (kMc_lt h02) (zMc h02) rfl rfl (Nat.le_of_ble_eq_true rfl) d_Gm_taken_57 ?_
        exact R d_Gm_taken_60 (by (repeat' split) <;> omega) rfl
      · try have k38 := b2i_nn c38
        refine r_aload_n C d_Gm_taken_41 rfl ?_
        refine g_Gm_machine C lk_Gm_10 d_Gm_taken_42 ?_
        refine r_iload_n C d_Gm_taken_45 rfl ?_
        refine r_cV1r C (k_Mc_nodesTaken h02 hu hB) (by decide) (by decide) ml_Gm_157 mn_Mc_nodesTaken ms_Mc_nodesTaken mc_Mc_nodesTaken mi_Mc_nodesTaken md_Mc_nodesTaken (kMc_lt h02) (zMc h02) rfl rfl (Nat.le_of_ble_eq_true rfl) d_Gm_taken_46 ?_
        refine r_goto (tgt := 60) C d_Gm_taken_49 (by decide) ?_
        exact R d_Gm_taken_60 (by (repeat' split) <;> omega) rfl
    · try have k31 := b2i_ne c31
      refine r_bipush C d_Gm_taken_34 (by decide) ?_
      exact R d_Gm_taken_36 (by (repeat' split) <;> omega) rfl
def ctG (t : TT) (w : Int) : Int := if w = 0 then t 0 0 else if w = 1 then t 1 0 else if w = 2 then t 2 0 else if w = 3 then jtaF t 1 (t 2 0).toNat else if w = 4 then jtaF t 2 (t 2 0).toNat else if w = 5 then t 3 0 else if w = 6 then t 4 0 else if w = 7 then t 7 0 else -3
theorem k_Gm_count {l : Launch} {E : Ew} {S0 : WW} {t : TT} (hB : Bd t) {w : Int} (hw : ir w) : Kf l y_Gm_count b_Gm_count 2 (some .int) 1 E (sm S0 0 t) [rf E 0, iv w] (some (iv (ctG t w))) (sm S0 0 (t)) := by
  refine KfI rfl rfl (Nat.le_of_ble_eq_true rfl) (fun g C R => ?_)
  show g (sm S0 0 t) 0 [some (rf E 0), some (iv w)] []
  refine r_iload_n C d_Gm_count_0 rfl ?_
  by_cases q1_0 : w = 0
  · refine r_tabIn (tgt := 48) C d_Gm_count_1 (by first | assumption | exact ir_mk (by omega) (by omega)) (by omega) (by omega) (by rw [q1_0]; rfl) (by decide) ?_
    refine r_aload_n C d_Gm_count_48 rfl ?_
    refine g_Gm_machine C lk_Gm_10 d_Gm_count_49 ?_
    refine g_Mc_rackCount C h02 lk_Gm_23 d_Gm_count_52 ?_
    exact R d_Gm_count_55 (by unfold ctG; (repeat' split) <;> omega) rfl
  by_cases q1_1 : w = 1
  · refine r_tabIn (tgt := 56) C d_Gm_count_1 (by first | assumption | exact ir_mk (by omega) (by omega)) (by omega) (by omega) (by rw [q1_1]; rfl) (by decide) ?_
    refine r_aload_n C d_Gm_count_56 rfl ?_
    refine g_Gm_machine C lk_Gm_10 d_Gm_count_57 ?_
    refine g_Mc_accountCount C h02 lk_Gm_57 d_Gm_count_60 ?_
    exact R d_Gm_count_63 (by unfold ctG; (repeat' split) <;> omega) rfl
  by_cases q1_2 : w = 2
  · refine r_tabIn (tgt := 64) C d_Gm_count_1 (by first | assumption | exact ir_mk (by omega) (by omega)) (by omega) (by omega) (by rw [q1_2]; rfl) (by decide) ?_
    refine r_aload_n C d_Gm_count_64 rfl ?_
    refine g_Gm_machine C lk_Gm_10 d_Gm_count_65 ?_
    refine g_Mc_jobCount C h02 lk_Gm_66 d_Gm_count_68 ?_
    exact R d_Gm_count_71 (by unfold ctG; (repeat' split) <;> omega) rfl
  by_cases q1_3 : w = 3
  · refine r_tabIn (tgt := 72) C d_Gm_count_1 (by first | assumption | exact ir_mk (by omega) (by omega)) (by omega) (by omega) (by rw [q1_3]; rfl) (by decide) ?_
    refine r_aload_n C d_Gm_count_72 rfl ?_
    refine g_Gm_machine C lk_Gm_10 d_Gm_count_73 ?_
    refine r_iconst C d_Gm_count_76 ?_
    refine r_cV1r C (k_Mc_jobsThatAre h02 (by exact ir_mk (by omega) (by omega)) hB) (by decide) (by decide) ml_Gm_167 mn_Mc_jobsThatAre ms_Mc_jobsThatAre mc_Mc_jobsThatAre mi_Mc_jobsThatAre md_Mc_jobsThatAre (kMc_lt h02) (zMc h02) rfl rfl (Nat.le_of_ble_eq_true rfl) d_Gm_count_77 ?_
    exact R d_Gm_count_80 (by unfold ctG; (repeat' split) <;> omega) rfl
  by_cases q1_4 : w = 4
  · refine r_tabIn (tgt := 81) C d_Gm_count_1 (by first | assumption | exact ir_mk (by omega) (by omega)) (by omega) (by omega) (by rw [q1_4]; rfl) (by decide) ?_
    refine r_aload_n C d_Gm_count_81 rfl ?_
    refine g_Gm_machine C lk_Gm_10 d_Gm_count_82 ?_
    refine r_iconst C d_Gm_count_85 ?_
    refine r_cV1r C (k_Mc_jobsThatAre h02 (by exact ir_mk (by omega) (by omega)) hB) (by decide) (by decide) ml_Gm_167 mn_Mc_jobsThatAre ms_Mc_jobsThatAre mc_Mc_jobsThatAre mi_Mc_jobsThatAre md_Mc_jobsThatAre (kMc_lt h02) (zMc h02) rfl rfl (Nat.le_of_ble_eq_true rfl) d_Gm_count_86 ?_
    exact R d_Gm_count_89 (by unfold ctG; (repeat' split) <;> omega) rfl
  by_cases q1_5 : w = 5
  · refine r_tabIn (tgt := 90) C d_Gm_count_1 (by first | assumption | exact ir_mk (by omega) (by omega)) (by omega) (by omega) (by rw [q1_5]; rfl) (by decide) ?_
    refine r_aload_n C d_Gm_count_90 rfl ?_
    refine g_Gm_machine C lk_Gm_10 d_Gm_count_91 ?_
    refine g_Mc_holdCount C h02 lk_Gm_98 d_Gm_count_94 ?_
    exact R d_Gm_count_97 (by unfold ctG; (repeat' split) <;> omega) rfl
  by_cases q1_6 : w = 6
  · refine r_tabIn (tgt := 98) C d_Gm_count_1 (by first | assumption | exact ir_mk (by omega) (by omega)) (by omega) (by omega) (by rw [q1_6]; rfl) (by decide) ?_
    refine r_aload_n C d_Gm_count_98 rfl ?_
    refine g_Gm_machine C lk_Gm_10 d_Gm_count_99 ?_
    refine g_Mc_now C h02 lk_Gm_92 d_Gm_count_102 ?_
    exact R d_Gm_count_105 (by unfold ctG; (repeat' split) <;> omega) rfl
  by_cases q1_7 : w = 7
  · refine r_tabIn (tgt := 106) C d_Gm_count_1 (by first | assumption | exact ir_mk (by omega) (by omega)) (by omega) (by omega) (by rw [q1_7]; rfl) (by decide) ?_
    refine r_aload_n C d_Gm_count_106 rfl ?_
    refine g_Gm_machine C lk_Gm_10 d_Gm_count_107 ?_
    refine g_Mc_room C h02 lk_Gm_170 d_Gm_count_110 ?_
    exact R d_Gm_count_113 (by unfold ctG; (repeat' split) <;> omega) rfl
  refine r_tabOut (tgt := 114) C d_Gm_count_1 (by first | assumption | exact ir_mk (by omega) (by omega)) (by omega) (by decide) ?_
  refine r_bipush C d_Gm_count_114 (by decide) ?_
  exact R d_Gm_count_116 (by unfold ctG; (repeat' split) <;> omega) rfl
noncomputable def fuI (x : TT) (j : Nat) : Nat → TT
  | 0 => x
  | k + 1 => if fuI x j k 24 j = 0 then ptF (fuI x j k) True else fuI x j k
theorem fuI_s (x : TT) (j k : Nat) : fuI x j (k + 1) = if fuI x j k 24 j = 0 then ptF (fuI x j k) True else fuI x j k := rfl
theorem fuI_stop {x : TT} {j k : Nat} (h : fuI x j k 24 j ≠ 0) : ∀ m, fuI x j (k + m) = fuI x j k := by
  intro m
  induction m with
  | zero => rfl
  | succ m ih => rw [show k + (m + 1) = k + m + 1 by omega, fuI_s, ih, if_neg h]
noncomputable def fuN (x t : TT) (j : Nat) : TT := fuI (beF x t) j 300
noncomputable def fuV (x t : TT) (j : Int) : Int := if ¬ (0 ≤ j ∧ j < x 2 0) then -2 else if x 24 j.toNat = 1 then x 25 j.toNat else if x 24 j.toNat ≠ 0 then -1 else if fuN x t j.toNat 24 j.toNat = 0 then -1 else fuN x t j.toNat 25 j.toNat
noncomputable def fuS (x t : TT) (j : Int) : TT := if (0 ≤ j ∧ j < x 2 0) ∧ x 24 j.toNat = 0 then fuN x t j.toNat else t
theorem k_Gm_foreseen {l : Launch} {E : Ew} {S0 : WW} {t : TT} {j : Int} (hj : ir j) (hB : Bd (S0 0)) (hI : ∀ (q i : Nat), j = (q : Int) → j < S0 0 2 0 → S0 0 24 q = 0 → i ≤ 300 → Bd (fuI (beF (S0 0) t) q i) ∧ (i < 300 → fuI (beF (S0 0) t) q i 24 q = 0 → ptI (fuI (beF (S0 0) t) q i) True)) : Kf l y_Gm_foreseen b_Gm_foreseen 5 (some .int) 6 E (sm S0 1 t) [rf E 0, iv j] (some (iv (fuV (S0 0) t j))) (sm S0 1 (fuS (S0 0) t j)) := by
  refine KfI rfl rfl (Nat.le_of_ble_eq_true rfl) (fun g C R => ?_)
  show g (sm S0 1 t) 0 [some (rf E 0), some (iv j), none, none, none] []
  have b2 := bd2 hB 0
  have b24 := bd24 hB j.toNat
  have hself : sm (sm S0 1 t) 0 (S0 0) = sm S0 1 t := by
    have h9 := sm_self (sm S0 1 t) 0
    rw [sm_ne (by decide)] at h9
    exact h9
  have hl : ∀ (q : Nat), j = (q : Int) → q < 30 → (0 ≤ j ∧ j < S0 0 2 0) → S0 0 24 q = 0 → ∀ (k i : Nat), i ≤ 300 → 300 - i < k → g (sm S0 1 (fuI (beF (S0 0) t) q i)) 70 [some (rf E 0), some (iv j), some (rf E (kJb 0 q)), some (rf E (kJb 1 q)), some (iv (i : Int))] [] := by
    intro q hq hq3 hj2 hw k
    induction k with
    | zero => intro i h1 h2; omega
    | succ k ih =>
      intro i h1 h2
      obtain ⟨hBi, htk⟩ := hI q i hq hj2.2 hw h1
      refine r_iload C d_Gm_foreseen_70 rfl ?_
      refine r_sipush C d_Gm_foreseen_72 (by decide) ?_
      refine r_icmp_ge (tgt := 99) C d_Gm_foreseen_75 (by decide) (by first | assumption | exact bd_ir (by assumption) rfl | exact b2i_ir _ | exact pb_ir _ | exact ir_mk (by omega) (by omega)) (by first | assumption | exact bd_ir (by assumption) rfl | exact b2i_ir _ | exact pb_ir _ | exact ir_mk (by omega) (by omega)) (fun c75 => ?_) (fun c75 => ?_)
      · have hfin : fuN (S0 0) t j.toNat = fuI (beF (S0 0) t) q i := by
          rw [show j.toNat = q by omega, fuN]
          by_cases z : fuI (beF (S0 0) t) q i 24 q = 0
          · rw [show i = 300 by omega]
          · rw [show 300 = i + (300 - i) by omega, fuI_stop z]
        refine r_aload_n C d_Gm_foreseen_99 rfl ?_
        refine g_Jb_state C h12 (by omega) lk_Gm_82 d_Gm_foreseen_100 ?_
        refine r_if_ne (tgt := 110) C d_Gm_foreseen_103 (by decide) (bd_ir hBi rfl) (fun c103 => ?_) (fun c103 => ?_)
        · refine r_aload_n C d_Gm_foreseen_110 rfl ?_
          refine g_Jb_begun C h12 (by omega) lk_Gm_119 d_Gm_foreseen_111 ?_
          exact R d_Gm_foreseen_114 (by unfold fuV; rw [if_neg (by omega), show j.toNat = q by omega, if_neg (by omega), if_neg (by omega)]; rw [show j.toNat = q by omega] at hfin; rw [hfin]; first | (rw [if_pos (by omega)]) | (rw [if_neg (by omega)])) (by unfold fuS; rw [if_pos ⟨hj2, by rw [show j.toNat = q by omega]; exact hw⟩, hfin])
        · refine r_iconst C d_Gm_foreseen_106 ?_
          refine r_goto (tgt := 114) C d_Gm_foreseen_107 (by decide) ?_
          exact R d_Gm_foreseen_114 (by unfold fuV; rw [if_neg (by omega), show j.toNat = q by omega, if_neg (by omega), if_neg (by omega)]; rw [show j.toNat = q by omega] at hfin; rw [hfin]; first | (rw [if_pos (by omega)]) | (rw [if_neg (by omega)])) (by unfold fuS; rw [if_pos ⟨hj2, by rw [show j.toNat = q by omega]; exact hw⟩, hfin])
      · refine r_aload_n C d_Gm_foreseen_78 rfl ?_
        refine g_Jb_state C h12 (by omega) lk_Gm_82 d_Gm_foreseen_79 ?_
        refine r_if_ne (tgt := 99) C d_Gm_foreseen_82 (by decide) (bd_ir hBi rfl) (fun c82 => ?_) (fun c82 => ?_)
        · have hfin : fuN (S0 0) t j.toNat = fuI (beF (S0 0) t) q i := by
            rw [show j.toNat = q by omega, fuN]
            by_cases z : fuI (beF (S0 0) t) q i 24 q = 0
            · rw [show i = 300 by omega]
            · rw [show 300 = i + (300 - i) by omega, fuI_stop z]
          refine r_aload_n C d_Gm_foreseen_99 rfl ?_
          refine g_Jb_state C h12 (by omega) lk_Gm_82 d_Gm_foreseen_100 ?_
          refine r_if_ne (tgt := 110) C d_Gm_foreseen_103 (by decide) (bd_ir hBi rfl) (fun c103 => ?_) (fun c103 => ?_)
          · refine r_aload_n C d_Gm_foreseen_110 rfl ?_
            refine g_Jb_begun C h12 (by omega) lk_Gm_119 d_Gm_foreseen_111 ?_
            exact R d_Gm_foreseen_114 (by unfold fuV; rw [if_neg (by omega), show j.toNat = q by omega, if_neg (by omega), if_neg (by omega)]; rw [show j.toNat = q by omega] at hfin; rw [hfin]; first | (rw [if_pos (by omega)]) | (rw [if_neg (by omega)])) (by unfold fuS; rw [if_pos ⟨hj2, by rw [show j.toNat = q by omega]; exact hw⟩, hfin])
          · refine r_iconst C d_Gm_foreseen_106 ?_
            refine r_goto (tgt := 114) C d_Gm_foreseen_107 (by decide) ?_
            exact R d_Gm_foreseen_114 (by unfold fuV; rw [if_neg (by omega), show j.toNat = q by omega, if_neg (by omega), if_neg (by omega)]; rw [show j.toNat = q by omega] at hfin; rw [hfin]; first | (rw [if_pos (by omega)]) | (rw [if_neg (by omega)])) (by unfold fuS; rw [if_pos ⟨hj2, by rw [show j.toNat = q by omega]; exact hw⟩, hfin])
        · refine r_aload_n C d_Gm_foreseen_85 rfl ?_
          refine g_Gm_foresight C lk_Gm_16 d_Gm_foreseen_86 ?_
          refine r_iconst C d_Gm_foreseen_89 ?_
          refine r_cV1v C (by have h9 := k_Mc_passTick (l := l) (E := E) (S0 := S0) h12 (b := True) (htk (by omega) (by omega)); rw [pb_t trivial] at h9; exact h9) (by decide) (by decide) ml_Gm_115 mn_Mc_passTick ms_Mc_passTick mc_Mc_passTick mi_Mc_passTick md_Mc_passTick (kMc_lt h12) (zMc h12) rfl rfl (Nat.le_of_ble_eq_true rfl) d_Gm_foreseen_90 ?_
          refine r_iinc_4 C d_Gm_foreseen_93 ?_
          refine r_goto (tgt := 70) C d_Gm_foreseen_96 (by decide) ?_
          have h := ih (i + 1) (by omega) (by omega)
          rw [fuI_s, if_pos (by omega)] at h
          exact h
  refine r_aload_n C d_Gm_foreseen_0 rfl ?_
  refine g_Gm_machine C lk_Gm_10 d_Gm_foreseen_1 ?_
  refine r_iload_n C d_Gm_foreseen_4 rfl ?_
  refine r_cV1r C (by have h9 := k_Mc_hasJob (l := l) (E := E) (S0 := sm S0 1 t) (t := S0 0) h02 hj hB; rw [hself] at h9; exact h9) (by decide) (by decide) ml_Gm_79 mn_Mc_hasJob ms_Mc_hasJob mc_Mc_hasJob mi_Mc_hasJob md_Mc_hasJob (kMc_lt h02) (zMc h02) rfl rfl (Nat.le_of_ble_eq_true rfl) d_Gm_foreseen_5 ?_
  refine r_if_ne (tgt := 14) C d_Gm_foreseen_8 (by decide) (by first | assumption | exact bd_ir (by assumption) rfl | exact b2i_ir _ | exact pb_ir _ | exact ir_mk (by omega) (by omega)) (fun c8 => ?_) (fun c8 => ?_)
  · try have k8 := b2i_ne c8
    refine r_aload_n C d_Gm_foreseen_14 rfl ?_
    refine g_Gm_machine C lk_Gm_10 d_Gm_foreseen_15 ?_
    refine g_Mc_jobs C h02 lk_Gm_69 d_Gm_foreseen_18 ?_
    refine r_iload_n C d_Gm_foreseen_21 rfl ?_
    refine x_Jb C h02 j.toNat (by omega) (by omega) d_Gm_foreseen_22 ?_
    refine r_astore_2 C d_Gm_foreseen_23 ?_
    refine r_aload_n C d_Gm_foreseen_24 rfl ?_
    refine gx_Jb_state C ⟨h02, by decide⟩ (by omega) lk_Gm_82 d_Gm_foreseen_25 ?_
    refine r_iconst C d_Gm_foreseen_28 ?_
    refine r_icmp_ne (tgt := 37) C d_Gm_foreseen_29 (by decide) (by have := bd24 hB j.toNat; exact ir_mk (by omega) (by omega)) (by first | assumption | exact bd_ir (by assumption) rfl | exact b2i_ir _ | exact pb_ir _ | exact ir_mk (by omega) (by omega)) (fun c29 => ?_) (fun c29 => ?_)
    · refine r_aload_n C d_Gm_foreseen_37 rfl ?_
      refine gx_Jb_state C ⟨h02, by decide⟩ (by omega) lk_Gm_82 d_Gm_foreseen_38 ?_
      refine r_if_eq (tgt := 46) C d_Gm_foreseen_41 (by decide) (by have := bd24 hB j.toNat; exact ir_mk (by omega) (by omega)) (fun c41 => ?_) (fun c41 => ?_)
      · try have k41 := b2i_eq c41
        refine r_aload_n C d_Gm_foreseen_46 rfl ?_
        refine g_Gm_foresight C lk_Gm_16 d_Gm_foreseen_47 ?_
        refine r_aload_n C d_Gm_foreseen_50 rfl ?_
        refine g_Gm_machine C lk_Gm_10 d_Gm_foreseen_51 ?_
        refine r_cV1v C (k_Mc_become (q := 0) h12 ⟨h02, by decide⟩ hB) (by decide) (by decide) ml_Gm_163 mn_Mc_become ms_Mc_become mc_Mc_become mi_Mc_become md_Mc_become (kMc_lt h12) (zMc h12) rfl rfl (Nat.le_of_ble_eq_true rfl) d_Gm_foreseen_54 ?_
        refine r_aload_n C d_Gm_foreseen_57 rfl ?_
        refine g_Gm_foresight C lk_Gm_16 d_Gm_foreseen_58 ?_
        refine g_Mc_jobs C h12 lk_Gm_69 d_Gm_foreseen_61 ?_
        refine r_iload_n C d_Gm_foreseen_64 rfl ?_
        refine x_Jb C h12 j.toNat (by omega) (by omega) d_Gm_foreseen_65 ?_
        refine r_astore_3 C d_Gm_foreseen_66 ?_
        refine r_iconst C d_Gm_foreseen_67 ?_
        refine r_istore_4 C d_Gm_foreseen_68 ?_
        exact hl j.toNat (by omega) (by omega) (by omega) (by omega) 301 0 (by omega) (by omega)
      · try have k41 := b2i_ne c41
        refine r_iconst C d_Gm_foreseen_44 ?_
        exact R d_Gm_foreseen_45 (by unfold fuV; (repeat' split) <;> omega) (by unfold fuS; rw [if_neg (by omega)])
    · refine r_aload_n C d_Gm_foreseen_32 rfl ?_
      refine gx_Jb_begun C ⟨h02, by decide⟩ (by omega) lk_Gm_119 d_Gm_foreseen_33 ?_
      exact R d_Gm_foreseen_36 (by unfold fuV; (repeat' split) <;> omega) (by unfold fuS; rw [if_neg (by omega)])
  · try have k8 := b2i_nn c8
    refine r_bipush C d_Gm_foreseen_11 (by decide) ?_
    exact R d_Gm_foreseen_13 (by unfold fuV; (repeat' split) <;> omega) (by unfold fuS; rw [if_neg (by omega)])
def mkP (t : TT) (n a : Int) (b : Int) : Prop := ∀ u : Int, a ≤ u → u < b → tnM t u + n ≤ roomF t (t 0 0).toNat
noncomputable def mkS (t : TT) (n a b : Int) : TT := if bkO t n a b then t else pif (mkP t n a b) (if t 3 0 = 8 then t else tu (tu (tu (tu t 31 (t 3 0).toNat n) 33 (t 3 0).toNat a) 34 (t 3 0).toNat b) 3 0 (t 3 0 + 1)) t
noncomputable def mkV (t : TT) (n a b : Int) : Int := if bkO t n a b then -3 else pif (mkP t n a b) (if t 3 0 = 8 then -5 else t 3 0) (-4)
theorem k_Md_book {l : Launch} {E : Ew} {S0 : WW} {t : TT} (hB : Bd t) {n a b : Int} (hn : ir n) (ha : ir a) (hb : ir b) (h8 : t 3 0 ≤ 8) : Kf l y_Md_book b_Md_book 6 (some .int) 2 E (sm S0 2 t) [rf E 1, iv n, iv a, iv b] (some (iv (mkV t n a b))) (sm S0 2 (mkS t n a b)) := by
  refine KfI rfl rfl (Nat.le_of_ble_eq_true rfl) (fun g C R => ?_)
  show g (sm S0 2 t) 0 [some (rf E 1), some (iv n), some (iv a), some (iv b), none, none] []
  have b0 := bd0 hB 0
  have b2 := bd2 hB 0
  have b3 := bd3 hB 0
  have b4 := bd4 hB 0
  have hrm := roomF_bd hB (n := (t 0 0).toNat) (by omega)
  have htnb : ∀ u, 0 ≤ tnM t u ∧ tnM t u ≤ 3000 := by
    intro u
    have hb30 := bd30 hB
    have h5 : ∀ j, 0 ≤ cmF t j (t 0 0).toNat ∧ cmF t j (t 0 0).toNat ≤ 64 := by
      intro j
      have h := sumN_bd (f := fun r => if t 14 r = 0 then t 30 (4 * j + r) else 0) (lo := 0) (hi := 16) (n := (t 0 0).toNat) (fun i _ => by
        have := hb30 (4 * j + i)
        split <;> omega)
      unfold cmF
      omega
    have h6 := sumN_bd (f := fun j => if ruM t j u then cmF t j (t 0 0).toNat else 0) (lo := 0) (hi := 64) (n := (t 2 0).toNat) (fun i _ => by
      have := h5 i
      split <;> omega)
    have h7 := sumN_bd (f := fun k => if t 33 k ≤ u ∧ u < t 34 k then t 31 k else 0) (lo := 0) (hi := 64) (n := (t 3 0).toNat) (fun i _ => by
      have := bd31 hB i
      split <;> omega)
    unfold tnM tnJ tnH
    omega
  have hl : ∀ (k : Nat) (u : Int), ¬ bkO t n a b → a ≤ u → u ≤ b → b - u < k → (∀ v : Int, a ≤ v → v < u → tnM t v + n ≤ roomF t (t 0 0).toNat) → g (sm S0 2 t) 42 [some (rf E 1), some (iv n), some (iv a), some (iv b), some (iv (roomF t (t 0 0).toNat)), some (iv u)] [] := by
    intro k
    induction k with
    | zero => intro u h0 h1 h2 h3; omega
    | succ k ih =>
      intro u h0 h1 h2 h3 h4
      refine r_iload C d_Md_book_42 rfl ?_
      refine r_iload_n C d_Md_book_44 rfl ?_
      refine r_icmp_ge (tgt := 70) C d_Md_book_45 (by decide) (by first | assumption | exact bd_ir (by assumption) rfl | exact b2i_ir _ | exact pb_ir _ | exact ir_mk (by omega) (by omega)) (by first | assumption | exact bd_ir (by assumption) rfl | exact b2i_ir _ | exact pb_ir _ | exact ir_mk (by omega) (by omega)) (fun c45 => ?_) (fun c45 => ?_)
      · have hyes : mkP t n a b := fun v hv1 hv2 => h4 v hv1 (by omega)
        refine r_aload_n C d_Md_book_70 rfl ?_
        refine g_Md_bookings C lk_Md_145 d_Md_book_71 ?_
        refine r_bipush C d_Md_book_74 (by decide) ?_
        refine r_icmp_ne (tgt := 82) C d_Md_book_76 (by decide) (by first | assumption | exact bd_ir (by assumption) rfl | exact b2i_ir _ | exact pb_ir _ | exact ir_mk (by omega) (by omega)) (by first | assumption | exact bd_ir (by assumption) rfl | exact b2i_ir _ | exact pb_ir _ | exact ir_mk (by omega) (by omega)) (fun c76 => ?_) (fun c76 => ?_)
        · refine r_aload_n C d_Md_book_82 rfl ?_
          refine g_Md_bookNodes C lk_Md_72 d_Md_book_83 ?_
          refine r_aload_n C d_Md_book_86 rfl ?_
          refine g_Md_bookings C lk_Md_145 d_Md_book_87 ?_
          refine r_iload_n C d_Md_book_90 rfl ?_
          refine st_Md_bookNodes C (t 3 0).toNat (by omega) (by omega) d_Md_book_91 ?_
          refine r_aload_n C d_Md_book_92 rfl ?_
          refine g_Md_bookFrom C lk_Md_75 d_Md_book_93 ?_
          refine r_aload_n C d_Md_book_96 rfl ?_
          refine g_Md_bookings C lk_Md_145 d_Md_book_97 ?_
          try simp (disch := omega) only [tu_ne, tu_eq]
          refine r_iload_n C d_Md_book_100 rfl ?_
          refine st_Md_bookFrom C (t 3 0).toNat (by omega) (by omega) d_Md_book_101 ?_
          refine r_aload_n C d_Md_book_102 rfl ?_
          refine g_Md_bookTo C lk_Md_78 d_Md_book_103 ?_
          refine r_aload_n C d_Md_book_106 rfl ?_
          refine g_Md_bookings C lk_Md_145 d_Md_book_107 ?_
          try simp (disch := omega) only [tu_ne, tu_eq]
          refine r_iload_n C d_Md_book_110 rfl ?_
          refine st_Md_bookTo C (t 3 0).toNat (by omega) (by omega) d_Md_book_111 ?_
          refine r_aload_n C d_Md_book_112 rfl ?_
          refine r_dup C d_Md_book_113 rfl ?_
          refine g_Md_bookings C lk_Md_145 d_Md_book_114 ?_
          try simp (disch := omega) only [tu_ne, tu_eq]
          refine r_iconst C d_Md_book_117 ?_
          refine r_iadd C d_Md_book_118 ?_
          refine p_Md_bookings C lk_Md_145 d_Md_book_119 ?_
          refine r_aload_n C d_Md_book_122 rfl ?_
          refine g_Md_bookings C lk_Md_145 d_Md_book_123 ?_
          try simp (disch := omega) only [tu_ne, tu_eq]
          refine r_iconst C d_Md_book_126 ?_
          refine r_isub C d_Md_book_127 ?_
          exact R d_Md_book_128 (by unfold mkV; first | (rw [if_pos (by omega)]; done) | (rw [if_neg (by omega), pif_f hno]; done) | (rw [if_neg (by omega), pif_t hyes, if_pos (by omega)]; done) | (rw [if_neg (by omega), pif_t hyes, if_neg (by omega)]; omega)) (by unfold mkS; first | (rw [if_pos (by omega)]; done) | (rw [if_neg (by omega), pif_f hno]; done) | (rw [if_neg (by omega), pif_t hyes, if_pos (by omega)]; done) | (rw [if_neg (by omega), pif_t hyes, if_neg (by omega)]; done))
        · refine r_bipush C d_Md_book_79 (by decide) ?_
          exact R d_Md_book_81 (by unfold mkV; first | (rw [if_pos (by omega)]; done) | (rw [if_neg (by omega), pif_f hno]; done) | (rw [if_neg (by omega), pif_t hyes, if_pos (by omega)]; done) | (rw [if_neg (by omega), pif_t hyes, if_neg (by omega)]; omega)) (by unfold mkS; first | (rw [if_pos (by omega)]; done) | (rw [if_neg (by omega), pif_f hno]; done) | (rw [if_neg (by omega), pif_t hyes, if_pos (by omega)]; done) | (rw [if_neg (by omega), pif_t hyes, if_neg (by omega)]; done))
      · refine r_aload_n C d_Md_book_48 rfl ?_
        refine r_iload C d_Md_book_49 rfl ?_
        refine r_cV1r C (k_Md_takenNodes hB h8 (ir_mk (by omega) (by omega))) (by decide) (by decide) ml_Md_155 mn_Md_takenNodes ms_Md_takenNodes mc_Md_takenNodes mi_Md_takenNodes md_Md_takenNodes (by decide) zMd rfl rfl (Nat.le_of_ble_eq_true rfl) d_Md_book_51 ?_
        have htn := htnb u
        refine r_iload_n C d_Md_book_54 rfl ?_
        refine r_iadd C d_Md_book_55 ?_
        refine r_iload C d_Md_book_56 rfl ?_
        refine r_icmp_le (tgt := 64) C d_Md_book_58 (by decide) (by first | assumption | exact bd_ir (by assumption) rfl | exact b2i_ir _ | exact pb_ir _ | exact ir_mk (by omega) (by omega)) (by first | assumption | exact bd_ir (by assumption) rfl | exact b2i_ir _ | exact pb_ir _ | exact ir_mk (by omega) (by omega)) (fun c58 => ?_) (fun c58 => ?_)
        · refine r_iinc_5 C d_Md_book_64 ?_
          refine r_goto (tgt := 42) C d_Md_book_67 (by decide) ?_
          exact ih (u + 1) h0 (by omega) (by omega) (by omega) (fun v hv1 hv2 => by
            by_cases z : v = u
            · rw [z]; omega
            · exact h4 v hv1 (by omega))
        · have hno : ¬ mkP t n a b := fun z => by have := z u h1 (by omega); omega
          refine r_bipush C d_Md_book_61 (by decide) ?_
          exact R d_Md_book_63 (by unfold mkV; first | (rw [if_pos (by omega)]; done) | (rw [if_neg (by omega), pif_f hno]; done) | (rw [if_neg (by omega), pif_t hyes, if_pos (by omega)]; done) | (rw [if_neg (by omega), pif_t hyes, if_neg (by omega)]; omega)) (by unfold mkS; first | (rw [if_pos (by omega)]; done) | (rw [if_neg (by omega), pif_f hno]; done) | (rw [if_neg (by omega), pif_t hyes, if_pos (by omega)]; done) | (rw [if_neg (by omega), pif_t hyes, if_neg (by omega)]; done))
  refine r_iload_n C d_Md_book_0 rfl ?_
  refine r_iconst C d_Md_book_1 ?_
  refine r_bipush C d_Md_book_2 (by decide) ?_
  refine r_cS3r C (k_Md_in (by first | assumption | exact ir_mk (by omega) (by omega)) (by first | assumption | exact ir_mk (by omega) (by omega)) (by first | assumption | exact ir_mk (by omega) (by omega))) (by decide) (by decide) ml_Md_120 mt_Md_in mc_Md_in mi_Md_in md_Md_in (Nat.le_of_ble_eq_true rfl) d_Md_book_4 ?_
  refine r_if_eq (tgt := 30) C d_Md_book_7 (by decide) (by first | assumption | exact bd_ir (by assumption) rfl | exact b2i_ir _ | exact pb_ir _ | exact ir_mk (by omega) (by omega)) (fun c7 => ?_) (fun c7 => ?_)
  · try have k7 := b2i_eq c7
    refine r_bipush C d_Md_book_30 (by decide) ?_
    exact R d_Md_book_32 (by unfold mkV; first | (rw [if_pos (by omega)]; done) | (rw [if_neg (by omega), pif_f hno]; done) | (rw [if_neg (by omega), pif_t hyes, if_pos (by omega)]; done) | (rw [if_neg (by omega), pif_t hyes, if_neg (by omega)]; omega)) (by unfold mkS; first | (rw [if_pos (by omega)]; done) | (rw [if_neg (by omega), pif_f hno]; done) | (rw [if_neg (by omega), pif_t hyes, if_pos (by omega)]; done) | (rw [if_neg (by omega), pif_t hyes, if_neg (by omega)]; done))
  · try have k7 := b2i_ne c7
    refine r_iload_n C d_Md_book_10 rfl ?_
    refine r_aload_n C d_Md_book_11 rfl ?_
    refine g_Md_time C lk_Md_148 d_Md_book_12 ?_
    refine r_icmp_lt (tgt := 30) C d_Md_book_15 (by decide) (by first | assumption | exact bd_ir (by assumption) rfl | exact b2i_ir _ | exact pb_ir _ | exact ir_mk (by omega) (by omega)) (by first | assumption | exact bd_ir (by assumption) rfl | exact b2i_ir _ | exact pb_ir _ | exact ir_mk (by omega) (by omega)) (fun c15 => ?_) (fun c15 => ?_)
    · refine r_bipush C d_Md_book_30 (by decide) ?_
      exact R d_Md_book_32 (by unfold mkV; first | (rw [if_pos (by omega)]; done) | (rw [if_neg (by omega), pif_f hno]; done) | (rw [if_neg (by omega), pif_t hyes, if_pos (by omega)]; done) | (rw [if_neg (by omega), pif_t hyes, if_neg (by omega)]; omega)) (by unfold mkS; first | (rw [if_pos (by omega)]; done) | (rw [if_neg (by omega), pif_f hno]; done) | (rw [if_neg (by omega), pif_t hyes, if_pos (by omega)]; done) | (rw [if_neg (by omega), pif_t hyes, if_neg (by omega)]; done))
    · refine r_iload_n C d_Md_book_18 rfl ?_
      refine r_iload_n C d_Md_book_19 rfl ?_
      refine r_icmp_le (tgt := 30) C d_Md_book_20 (by decide) (by first | assumption | exact bd_ir (by assumption) rfl | exact b2i_ir _ | exact pb_ir _ | exact ir_mk (by omega) (by omega)) (by first | assumption | exact bd_ir (by assumption) rfl | exact b2i_ir _ | exact pb_ir _ | exact ir_mk (by omega) (by omega)) (fun c20 => ?_) (fun c20 => ?_)
      · refine r_bipush C d_Md_book_30 (by decide) ?_
        exact R d_Md_book_32 (by unfold mkV; first | (rw [if_pos (by omega)]; done) | (rw [if_neg (by omega), pif_f hno]; done) | (rw [if_neg (by omega), pif_t hyes, if_pos (by omega)]; done) | (rw [if_neg (by omega), pif_t hyes, if_neg (by omega)]; omega)) (by unfold mkS; first | (rw [if_pos (by omega)]; done) | (rw [if_neg (by omega), pif_f hno]; done) | (rw [if_neg (by omega), pif_t hyes, if_pos (by omega)]; done) | (rw [if_neg (by omega), pif_t hyes, if_neg (by omega)]; done))
      · refine r_iload_n C d_Md_book_23 rfl ?_
        refine r_sipush C d_Md_book_24 (by decide) ?_
        refine r_icmp_le (tgt := 33) C d_Md_book_27 (by decide) (by first | assumption | exact bd_ir (by assumption) rfl | exact b2i_ir _ | exact pb_ir _ | exact ir_mk (by omega) (by omega)) (by first | assumption | exact bd_ir (by assumption) rfl | exact b2i_ir _ | exact pb_ir _ | exact ir_mk (by omega) (by omega)) (fun c27 => ?_) (fun c27 => ?_)
        · refine r_aload_n C d_Md_book_33 rfl ?_
          refine r_cV0r C (k_Md_room hB) (by decide) (by decide) ml_Md_151 mn_Md_room ms_Md_room mc_Md_room mi_Md_room md_Md_room (by decide) zMd rfl rfl (Nat.le_of_ble_eq_true rfl) d_Md_book_34 ?_
          refine r_istore_4 C d_Md_book_37 ?_
          refine r_iload_n C d_Md_book_39 rfl ?_
          refine r_istore_5 C d_Md_book_40 ?_
          exact hl ((b - a).toNat + 1) a (by omega) (by omega) (by omega) (by omega) (fun v hv1 hv2 => by omega)
        · refine r_bipush C d_Md_book_30 (by decide) ?_
          exact R d_Md_book_32 (by unfold mkV; first | (rw [if_pos (by omega)]; done) | (rw [if_neg (by omega), pif_f hno]; done) | (rw [if_neg (by omega), pif_t hyes, if_pos (by omega)]; done) | (rw [if_neg (by omega), pif_t hyes, if_neg (by omega)]; omega)) (by unfold mkS; first | (rw [if_pos (by omega)]; done) | (rw [if_neg (by omega), pif_f hno]; done) | (rw [if_neg (by omega), pif_t hyes, if_pos (by omega)]; done) | (rw [if_neg (by omega), pif_t hyes, if_neg (by omega)]; done))
