theorem b2i_nn {p : Prop} [Decidable p] (h : ¬ (b2i p ≠ 0)) : ¬ p := b2i_eq (by omega)
theorem if_t {α : Type} {p : Prop} [Decidable p] {a b : α} (h : p) : (if p then a else b) = a := if_pos h
theorem if_f {α : Type} {p : Prop} [Decidable p] {a b : α} (h : ¬ p) : (if p then a else b) = b := if_neg h
theorem k_Md_rack {l : Launch} {E : Ew} {S0 : WW} {t : TT} (hB : Bd t) {n : Int} (hn : ir n) : Kf l y_Md_rack b_Md_rack 2 (some .int) 1 E (sm S0 2 t) [rf E 1, iv n] (some (iv (if n < 1 ∨ 16 < n then -3 else if t 0 0 = 4 then -5 else t 0 0))) (sm S0 2 (if (n < 1 ∨ 16 < n) ∨ t 0 0 = 4 then t else tu (tu t 12 (t 0 0).toNat n) 0 0 (t 0 0 + 1))) := by
  refine KfI rfl rfl (Nat.le_of_ble_eq_true rfl) (fun g C R => ?_)
  show g (sm S0 2 t) 0 [some (rf E 1), some (iv n)] []
  have b0 := bd0 hB 0
  refine r_iload_n C d_Md_rack_0 rfl ?_
  refine r_iconst C d_Md_rack_1 ?_
  refine r_bipush C d_Md_rack_2 (by decide) ?_
  refine r_cS3r C (k_Md_in (by first | assumption | exact ir_mk (by omega) (by omega)) (by first | assumption | exact ir_mk (by omega) (by omega)) (by first | assumption | exact ir_mk (by omega) (by omega))) (by decide) (by decide) ml_Md_120 mt_Md_in mc_Md_in mi_Md_in md_Md_in (Nat.le_of_ble_eq_true rfl) d_Md_rack_4 ?_
  refine r_if_ne (tgt := 13) C d_Md_rack_7 (by decide) (by first | assumption | exact bd_ir (by assumption) rfl | exact b2i_ir _ | exact pb_ir _ | exact ir_mk (by omega) (by omega)) (fun c7 => ?_) (fun c7 => ?_)
  · try have k7 := b2i_ne c7
    refine r_aload_n C d_Md_rack_13 rfl ?_
    refine g_Md_racks C lk_Md_117 d_Md_rack_14 ?_
    refine r_iconst C d_Md_rack_17 ?_
    refine r_icmp_ne (tgt := 24) C d_Md_rack_18 (by decide) (by first | assumption | exact bd_ir (by assumption) rfl | exact b2i_ir _ | exact pb_ir _ | exact ir_mk (by omega) (by omega)) (by first | assumption | exact bd_ir (by assumption) rfl | exact b2i_ir _ | exact pb_ir _ | exact ir_mk (by omega) (by omega)) (fun c18 => ?_) (fun c18 => ?_)
    · refine r_aload_n C d_Md_rack_24 rfl ?_
      refine g_Md_nodes C lk_Md_16 d_Md_rack_25 ?_
      refine r_aload_n C d_Md_rack_28 rfl ?_
      refine g_Md_racks C lk_Md_117 d_Md_rack_29 ?_
      refine r_iload_n C d_Md_rack_32 rfl ?_
      refine st_Md_nodes C (t 0 0).toNat (by omega) (by omega) d_Md_rack_33 ?_
      
      refine r_aload_n C d_Md_rack_34 rfl ?_
      refine r_dup C d_Md_rack_35 rfl ?_
      refine g_Md_racks C lk_Md_117 d_Md_rack_36 ?_
      try simp (disch := omega) only [tu_ne, tu_eq]
      refine r_iconst C d_Md_rack_39 ?_
      refine r_iadd C d_Md_rack_40 ?_
      refine p_Md_racks C lk_Md_117 d_Md_rack_41 ?_
      refine r_aload_n C d_Md_rack_44 rfl ?_
      refine g_Md_racks C lk_Md_117 d_Md_rack_45 ?_
      try simp (disch := omega) only [tu_ne, tu_eq]
      refine r_iconst C d_Md_rack_48 ?_
      refine r_isub C d_Md_rack_49 ?_
      exact R d_Md_rack_50 (by (repeat' split) <;> omega) (by (repeat' split) <;> first | rfl | (exfalso; omega))
    · refine r_bipush C d_Md_rack_21 (by decide) ?_
      exact R d_Md_rack_23 (by (repeat' split) <;> omega) (by (repeat' split) <;> first | rfl | (exfalso; omega))
  · try have k7 := b2i_nn c7
    refine r_bipush C d_Md_rack_10 (by decide) ?_
    exact R d_Md_rack_12 (by (repeat' split) <;> omega) (by (repeat' split) <;> first | rfl | (exfalso; omega))
theorem k_Md_drain {l : Launch} {E : Ew} {S0 : WW} {t : TT} (hB : Bd t) {n b : Int} (hn : ir n) (hb : b = 0 ∨ b = 1) : Kf l y_Md_drain b_Md_drain 4 (some .int) 2 E (sm S0 2 t) [rf E 1, iv n, iv b] (some (iv (if ¬ (0 ≤ n ∧ n < t 0 0) then -2 else t 14 n.toNat))) (sm S0 2 (if ¬ (0 ≤ n ∧ n < t 0 0) then t else tu t 14 n.toNat b)) := by
  refine KfI rfl rfl (Nat.le_of_ble_eq_true rfl) (fun g C R => ?_)
  show g (sm S0 2 t) 0 [some (rf E 1), some (iv n), some (iv b), none] []
  have b0 := bd0 hB 0
  have b14 := bd14 hB n.toNat
  refine r_aload_n C d_Md_drain_0 rfl ?_
  refine r_iload_n C d_Md_drain_1 rfl ?_
  refine r_cV1r C (k_Md_isRack hB (by first | assumption | exact ir_mk (by omega) (by omega))) (by decide) (by decide) ml_Md_127 mn_Md_isRack ms_Md_isRack mc_Md_isRack mi_Md_isRack md_Md_isRack (by decide) zMd rfl rfl (Nat.le_of_ble_eq_true rfl) d_Md_drain_2 ?_
  refine r_if_ne (tgt := 11) C d_Md_drain_5 (by decide) (by first | assumption | exact bd_ir (by assumption) rfl | exact b2i_ir _ | exact pb_ir _ | exact ir_mk (by omega) (by omega)) (fun c5 => ?_) (fun c5 => ?_)
  · try have k5 := b2i_ne c5
    refine r_aload_n C d_Md_drain_11 rfl ?_
    refine g_Md_isDrained C lk_Md_20 d_Md_drain_12 ?_
    refine r_iload_n C d_Md_drain_15 rfl ?_
    refine x_Md_isDrained C n.toNat (by omega) (by omega) d_Md_drain_16 ?_
    refine r_istore_3 C d_Md_drain_17 ?_
    refine r_aload_n C d_Md_drain_18 rfl ?_
    refine g_Md_isDrained C lk_Md_20 d_Md_drain_19 ?_
    refine r_iload_n C d_Md_drain_22 rfl ?_
    refine r_iload_n C d_Md_drain_23 rfl ?_
    refine st_Md_isDrained C (by omega) n.toNat (by omega) (by omega) d_Md_drain_24 ?_
    refine r_iload_n C d_Md_drain_25 rfl ?_
    refine r_if_eq (tgt := 33) C d_Md_drain_26 (by decide) (by first | assumption | exact bd_ir (by assumption) rfl | exact b2i_ir _ | exact pb_ir _ | exact ir_mk (by omega) (by omega)) (fun c26 => ?_) (fun c26 => ?_)
    · try have k26 := b2i_eq c26
      refine r_iconst C d_Md_drain_33 ?_
      exact R d_Md_drain_34 (by (repeat' split) <;> omega) (by (repeat' split) <;> first | rfl | (exfalso; omega))
    · try have k26 := b2i_ne c26
      refine r_iconst C d_Md_drain_29 ?_
      refine r_goto (tgt := 34) C d_Md_drain_30 (by decide) ?_
      exact R d_Md_drain_34 (by (repeat' split) <;> omega) (by (repeat' split) <;> first | rfl | (exfalso; omega))
  · try have k5 := b2i_nn c5
    refine r_bipush C d_Md_drain_8 (by decide) ?_
    exact R d_Md_drain_10 (by (repeat' split) <;> omega) (by (repeat' split) <;> first | rfl | (exfalso; omega))
theorem k_Md_licences {l : Launch} {E : Ew} {S0 : WW} {t : TT} (hB : Bd t) {n : Int} (hn : ir n) : Kf l y_Md_licences b_Md_licences 3 (some .int) 1 E (sm S0 2 t) [rf E 1, iv n] (some (iv (if n < 0 ∨ 100 < n then -3 else t 6 0))) (sm S0 2 (if n < 0 ∨ 100 < n then t else tu t 6 0 n)) := by
  refine KfI rfl rfl (Nat.le_of_ble_eq_true rfl) (fun g C R => ?_)
  show g (sm S0 2 t) 0 [some (rf E 1), some (iv n), none] []
  refine r_iload_n C d_Md_licences_0 rfl ?_
  refine r_iconst C d_Md_licences_1 ?_
  refine r_bipush C d_Md_licences_2 (by decide) ?_
  refine r_cS3r C (k_Md_in (by first | assumption | exact ir_mk (by omega) (by omega)) (by first | assumption | exact ir_mk (by omega) (by omega)) (by first | assumption | exact ir_mk (by omega) (by omega))) (by decide) (by decide) ml_Md_120 mt_Md_in mc_Md_in mi_Md_in md_Md_in (Nat.le_of_ble_eq_true rfl) d_Md_licences_4 ?_
  refine r_if_ne (tgt := 13) C d_Md_licences_7 (by decide) (by first | assumption | exact bd_ir (by assumption) rfl | exact b2i_ir _ | exact pb_ir _ | exact ir_mk (by omega) (by omega)) (fun c7 => ?_) (fun c7 => ?_)
  · try have k7 := b2i_ne c7
    refine r_aload_n C d_Md_licences_13 rfl ?_
    refine g_Md_allLicences C lk_Md_13 d_Md_licences_14 ?_
    refine r_istore_2 C d_Md_licences_17 ?_
    refine r_aload_n C d_Md_licences_18 rfl ?_
    refine r_iload_n C d_Md_licences_19 rfl ?_
    refine p_Md_allLicences C lk_Md_13 d_Md_licences_20 ?_
    refine r_iload_n C d_Md_licences_23 rfl ?_
    exact R d_Md_licences_24 (by (repeat' split) <;> omega) (by (repeat' split) <;> first | rfl | (exfalso; omega))
  · try have k7 := b2i_nn c7
    refine r_bipush C d_Md_licences_10 (by decide) ?_
    exact R d_Md_licences_12 (by (repeat' split) <;> omega) (by (repeat' split) <;> first | rfl | (exfalso; omega))
theorem k_Md_half {l : Launch} {E : Ew} {S0 : WW} {t : TT} (hB : Bd t) {n : Int} (hn : ir n) : Kf l y_Md_half b_Md_half 3 (some .int) 1 E (sm S0 2 t) [rf E 1, iv n] (some (iv (if n < 1 ∨ 1000 < n then -3 else t 5 0))) (sm S0 2 (if n < 1 ∨ 1000 < n then t else tu t 5 0 n)) := by
  refine KfI rfl rfl (Nat.le_of_ble_eq_true rfl) (fun g C R => ?_)
  show g (sm S0 2 t) 0 [some (rf E 1), some (iv n), none] []
  refine r_iload_n C d_Md_half_0 rfl ?_
  refine r_iconst C d_Md_half_1 ?_
  refine r_sipush C d_Md_half_2 (by decide) ?_
  refine r_cS3r C (k_Md_in (by first | assumption | exact ir_mk (by omega) (by omega)) (by first | assumption | exact ir_mk (by omega) (by omega)) (by first | assumption | exact ir_mk (by omega) (by omega))) (by decide) (by decide) ml_Md_120 mt_Md_in mc_Md_in mi_Md_in md_Md_in (Nat.le_of_ble_eq_true rfl) d_Md_half_5 ?_
  refine r_if_ne (tgt := 14) C d_Md_half_8 (by decide) (by first | assumption | exact bd_ir (by assumption) rfl | exact b2i_ir _ | exact pb_ir _ | exact ir_mk (by omega) (by omega)) (fun c8 => ?_) (fun c8 => ?_)
  · try have k8 := b2i_ne c8
    refine r_aload_n C d_Md_half_14 rfl ?_
    refine g_Md_half C lk_Md_7 d_Md_half_15 ?_
    refine r_istore_2 C d_Md_half_18 ?_
    refine r_aload_n C d_Md_half_19 rfl ?_
    refine r_iload_n C d_Md_half_20 rfl ?_
    refine p_Md_half C lk_Md_7 d_Md_half_21 ?_
    refine r_iload_n C d_Md_half_24 rfl ?_
    exact R d_Md_half_25 (by (repeat' split) <;> omega) (by (repeat' split) <;> first | rfl | (exfalso; omega))
  · try have k8 := b2i_nn c8
    refine r_bipush C d_Md_half_11 (by decide) ?_
    exact R d_Md_half_13 (by (repeat' split) <;> omega) (by (repeat' split) <;> first | rfl | (exfalso; omega))
theorem k_Md_account {l : Launch} {E : Ew} {S0 : WW} {t : TT} (hB : Bd t) {n : Int} (hn : ir n) : Kf l y_Md_account b_Md_account 2 (some .int) 1 E (sm S0 2 t) [rf E 1, iv n] (some (iv (if n < 1 ∨ 100 < n then -3 else if t 1 0 = 6 then -5 else t 1 0))) (sm S0 2 (if (n < 1 ∨ 100 < n) ∨ t 1 0 = 6 then t else tu (tu t 15 (t 1 0).toNat n) 1 0 (t 1 0 + 1))) := by
  refine KfI rfl rfl (Nat.le_of_ble_eq_true rfl) (fun g C R => ?_)
  show g (sm S0 2 t) 0 [some (rf E 1), some (iv n)] []
  have b1 := bd1 hB 0
  refine r_iload_n C d_Md_account_0 rfl ?_
  refine r_iconst C d_Md_account_1 ?_
  refine r_bipush C d_Md_account_2 (by decide) ?_
  refine r_cS3r C (k_Md_in (by first | assumption | exact ir_mk (by omega) (by omega)) (by first | assumption | exact ir_mk (by omega) (by omega)) (by first | assumption | exact ir_mk (by omega) (by omega))) (by decide) (by decide) ml_Md_120 mt_Md_in mc_Md_in mi_Md_in md_Md_in (Nat.le_of_ble_eq_true rfl) d_Md_account_4 ?_
  refine r_if_ne (tgt := 13) C d_Md_account_7 (by decide) (by first | assumption | exact bd_ir (by assumption) rfl | exact b2i_ir _ | exact pb_ir _ | exact ir_mk (by omega) (by omega)) (fun c7 => ?_) (fun c7 => ?_)
  · try have k7 := b2i_ne c7
    refine r_aload_n C d_Md_account_13 rfl ?_
    refine g_Md_accounts C lk_Md_135 d_Md_account_14 ?_
    refine r_bipush C d_Md_account_17 (by decide) ?_
    refine r_icmp_ne (tgt := 25) C d_Md_account_19 (by decide) (by first | assumption | exact bd_ir (by assumption) rfl | exact b2i_ir _ | exact pb_ir _ | exact ir_mk (by omega) (by omega)) (by first | assumption | exact bd_ir (by assumption) rfl | exact b2i_ir _ | exact pb_ir _ | exact ir_mk (by omega) (by omega)) (fun c19 => ?_) (fun c19 => ?_)
    · refine r_aload_n C d_Md_account_25 rfl ?_
      refine g_Md_shares C lk_Md_24 d_Md_account_26 ?_
      refine r_aload_n C d_Md_account_29 rfl ?_
      refine g_Md_accounts C lk_Md_135 d_Md_account_30 ?_
      refine r_iload_n C d_Md_account_33 rfl ?_
      refine st_Md_shares C (t 1 0).toNat (by omega) (by omega) d_Md_account_34 ?_
      refine r_aload_n C d_Md_account_35 rfl ?_
      refine r_dup C d_Md_account_36 rfl ?_
      refine g_Md_accounts C lk_Md_135 d_Md_account_37 ?_
      try simp (disch := omega) only [tu_ne, tu_eq]
      refine r_iconst C d_Md_account_40 ?_
      refine r_iadd C d_Md_account_41 ?_
      refine p_Md_accounts C lk_Md_135 d_Md_account_42 ?_
      refine r_aload_n C d_Md_account_45 rfl ?_
      refine g_Md_accounts C lk_Md_135 d_Md_account_46 ?_
      try simp (disch := omega) only [tu_ne, tu_eq]
      refine r_iconst C d_Md_account_49 ?_
      refine r_isub C d_Md_account_50 ?_
      exact R d_Md_account_51 (by (repeat' split) <;> omega) (by (repeat' split) <;> first | rfl | (exfalso; omega))
    · refine r_bipush C d_Md_account_22 (by decide) ?_
      exact R d_Md_account_24 (by (repeat' split) <;> omega) (by (repeat' split) <;> first | rfl | (exfalso; omega))
  · try have k7 := b2i_nn c7
    refine r_bipush C d_Md_account_10 (by decide) ?_
    exact R d_Md_account_12 (by (repeat' split) <;> omega) (by (repeat' split) <;> first | rfl | (exfalso; omega))
def jbC (t : TT) (a n c d e f : Int) : Int := if ¬ (0 ≤ a ∧ a < t 1 0) then -2 else if (n < 1 ∨ 64 < n) ∨ (c < 0 ∨ 100 < c) ∨ (d < 1 ∨ 50 < d) ∨ (e < 1 ∨ d < e) ∨ (f < 0 ∨ 50 < f) then -3 else if t 2 0 = 30 then -5 else 1
def jbM (t : TT) (a n c d e f : Int) : TT := tu (tu (tu (tu (tu (tu (tu (tu (tu (tu t 17 (t 2 0).toNat a) 18 (t 2 0).toNat n) 19 (t 2 0).toNat c) 20 (t 2 0).toNat d) 21 (t 2 0).toNat e) 22 (t 2 0).toNat f) 23 (t 2 0).toNat (-1)) 25 (t 2 0).toNat (-1)) 26 (t 2 0).toNat (-1)) 2 0 (t 2 0 + 1)
theorem k_Md_job {l : Launch} {E : Ew} {S0 : WW} {t : TT} (hB : Bd t) {a n c d e f : Int} (ha : ir a) (hn : ir n) (hc : ir c) (hd : ir d) (he : ir e) (hf : ir f) : Kf l y_Md_job b_Md_job 7 (some .int) 1 E (sm S0 2 t) [rf E 1, iv a, iv n, iv c, iv d, iv e, iv f] (some (iv (if jbC t a n c d e f = 1 then t 2 0 else jbC t a n c d e f))) (sm S0 2 (if jbC t a n c d e f = 1 then jbM t a n c d e f else t)) := by
  refine KfI rfl rfl (Nat.le_of_ble_eq_true rfl) (fun g C R => ?_)
  show g (sm S0 2 t) 0 [some (rf E 1), some (iv a), some (iv n), some (iv c), some (iv d), some (iv e), some (iv f)] []
  have b1 := bd1 hB 0
  have b2 := bd2 hB 0
  refine r_iload_n C d_Md_job_0 rfl ?_
  refine r_iconst C d_Md_job_1 ?_
  refine r_aload_n C d_Md_job_2 rfl ?_
  refine g_Md_accounts C lk_Md_135 d_Md_job_3 ?_
  refine r_iconst C d_Md_job_6 ?_
  refine r_isub C d_Md_job_7 ?_
  refine r_cS3r C (k_Md_in (by first | assumption | exact ir_mk (by omega) (by omega)) (by first | assumption | exact ir_mk (by omega) (by omega)) (by first | assumption | exact ir_mk (by omega) (by omega))) (by decide) (by decide) ml_Md_120 mt_Md_in mc_Md_in mi_Md_in md_Md_in (Nat.le_of_ble_eq_true rfl) d_Md_job_8 ?_
  refine r_if_ne (tgt := 17) C d_Md_job_11 (by decide) (by first | assumption | exact bd_ir (by assumption) rfl | exact b2i_ir _ | exact pb_ir _ | exact ir_mk (by omega) (by omega)) (fun c11 => ?_) (fun c11 => ?_)
  · try have k11 := b2i_ne c11
    refine r_iload_n C d_Md_job_17 rfl ?_
    refine r_iconst C d_Md_job_18 ?_
    refine r_bipush C d_Md_job_19 (by decide) ?_
    refine r_cS3r C (k_Md_in (by first | assumption | exact ir_mk (by omega) (by omega)) (by first | assumption | exact ir_mk (by omega) (by omega)) (by first | assumption | exact ir_mk (by omega) (by omega))) (by decide) (by decide) ml_Md_120 mt_Md_in mc_Md_in mi_Md_in md_Md_in (Nat.le_of_ble_eq_true rfl) d_Md_job_21 ?_
    refine r_if_eq (tgt := 70) C d_Md_job_24 (by decide) (by first | assumption | exact bd_ir (by assumption) rfl | exact b2i_ir _ | exact pb_ir _ | exact ir_mk (by omega) (by omega)) (fun c24 => ?_) (fun c24 => ?_)
    · try have k24 := b2i_eq c24
      refine r_bipush C d_Md_job_70 (by decide) ?_
      exact R d_Md_job_72 (by unfold jbC; (repeat' split) <;> omega) (by unfold jbC; (repeat' split) <;> first | rfl | (exfalso; omega))
    · try have k24 := b2i_ne c24
      refine r_iload_n C d_Md_job_27 rfl ?_
      refine r_iconst C d_Md_job_28 ?_
      refine r_bipush C d_Md_job_29 (by decide) ?_
      refine r_cS3r C (k_Md_in (by first | assumption | exact ir_mk (by omega) (by omega)) (by first | assumption | exact ir_mk (by omega) (by omega)) (by first | assumption | exact ir_mk (by omega) (by omega))) (by decide) (by decide) ml_Md_120 mt_Md_in mc_Md_in mi_Md_in md_Md_in (Nat.le_of_ble_eq_true rfl) d_Md_job_31 ?_
      refine r_if_eq (tgt := 70) C d_Md_job_34 (by decide) (by first | assumption | exact bd_ir (by assumption) rfl | exact b2i_ir _ | exact pb_ir _ | exact ir_mk (by omega) (by omega)) (fun c34 => ?_) (fun c34 => ?_)
      · try have k34 := b2i_eq c34
        refine r_bipush C d_Md_job_70 (by decide) ?_
        exact R d_Md_job_72 (by unfold jbC; (repeat' split) <;> omega) (by unfold jbC; (repeat' split) <;> first | rfl | (exfalso; omega))
      · try have k34 := b2i_ne c34
        refine r_iload C d_Md_job_37 rfl ?_
        refine r_iconst C d_Md_job_39 ?_
        refine r_bipush C d_Md_job_40 (by decide) ?_
        refine r_cS3r C (k_Md_in (by first | assumption | exact ir_mk (by omega) (by omega)) (by first | assumption | exact ir_mk (by omega) (by omega)) (by first | assumption | exact ir_mk (by omega) (by omega))) (by decide) (by decide) ml_Md_120 mt_Md_in mc_Md_in mi_Md_in md_Md_in (Nat.le_of_ble_eq_true rfl) d_Md_job_42 ?_
        refine r_if_eq (tgt := 70) C d_Md_job_45 (by decide) (by first | assumption | exact bd_ir (by assumption) rfl | exact b2i_ir _ | exact pb_ir _ | exact ir_mk (by omega) (by omega)) (fun c45 => ?_) (fun c45 => ?_)
        · try have k45 := b2i_eq c45
          refine r_bipush C d_Md_job_70 (by decide) ?_
          exact R d_Md_job_72 (by unfold jbC; (repeat' split) <;> omega) (by unfold jbC; (repeat' split) <;> first | rfl | (exfalso; omega))
        · try have k45 := b2i_ne c45
          refine r_iload C d_Md_job_48 rfl ?_
          refine r_iconst C d_Md_job_50 ?_
          refine r_iload C d_Md_job_51 rfl ?_
          refine r_cS3r C (k_Md_in (by first | assumption | exact ir_mk (by omega) (by omega)) (by first | assumption | exact ir_mk (by omega) (by omega)) (by first | assumption | exact ir_mk (by omega) (by omega))) (by decide) (by decide) ml_Md_120 mt_Md_in mc_Md_in mi_Md_in md_Md_in (Nat.le_of_ble_eq_true rfl) d_Md_job_53 ?_
          refine r_if_eq (tgt := 70) C d_Md_job_56 (by decide) (by first | assumption | exact bd_ir (by assumption) rfl | exact b2i_ir _ | exact pb_ir _ | exact ir_mk (by omega) (by omega)) (fun c56 => ?_) (fun c56 => ?_)
          · try have k56 := b2i_eq c56
            refine r_bipush C d_Md_job_70 (by decide) ?_
            exact R d_Md_job_72 (by unfold jbC; (repeat' split) <;> omega) (by unfold jbC; (repeat' split) <;> first | rfl | (exfalso; omega))
          · try have k56 := b2i_ne c56
            refine r_iload C d_Md_job_59 rfl ?_
            refine r_iconst C d_Md_job_61 ?_
            refine r_bipush C d_Md_job_62 (by decide) ?_
            refine r_cS3r C (k_Md_in (by first | assumption | exact ir_mk (by omega) (by omega)) (by first | assumption | exact ir_mk (by omega) (by omega)) (by first | assumption | exact ir_mk (by omega) (by omega))) (by decide) (by decide) ml_Md_120 mt_Md_in mc_Md_in mi_Md_in md_Md_in (Nat.le_of_ble_eq_true rfl) d_Md_job_64 ?_
            refine r_if_ne (tgt := 73) C d_Md_job_67 (by decide) (by first | assumption | exact bd_ir (by assumption) rfl | exact b2i_ir _ | exact pb_ir _ | exact ir_mk (by omega) (by omega)) (fun c67 => ?_) (fun c67 => ?_)
            · try have k67 := b2i_ne c67
              refine r_aload_n C d_Md_job_73 rfl ?_
              refine g_Md_jobs C lk_Md_124 d_Md_job_74 ?_
              refine r_bipush C d_Md_job_77 (by decide) ?_
              refine r_icmp_ne (tgt := 85) C d_Md_job_79 (by decide) (by first | assumption | exact bd_ir (by assumption) rfl | exact b2i_ir _ | exact pb_ir _ | exact ir_mk (by omega) (by omega)) (by first | assumption | exact bd_ir (by assumption) rfl | exact b2i_ir _ | exact pb_ir _ | exact ir_mk (by omega) (by omega)) (fun c79 => ?_) (fun c79 => ?_)
              · refine r_aload_n C d_Md_job_85 rfl ?_
                refine g_Md_account C lk_Md_30 d_Md_job_86 ?_
                refine r_aload_n C d_Md_job_89 rfl ?_
                refine g_Md_jobs C lk_Md_124 d_Md_job_90 ?_
                try simp (disch := omega) only [tu_ne, tu_eq]
                refine r_iload_n C d_Md_job_93 rfl ?_
                refine st_Md_account C (t 2 0).toNat (by omega) (by omega) d_Md_job_94 ?_
                refine r_aload_n C d_Md_job_95 rfl ?_
                refine g_Md_wants C lk_Md_33 d_Md_job_96 ?_
                refine r_aload_n C d_Md_job_99 rfl ?_
                refine g_Md_jobs C lk_Md_124 d_Md_job_100 ?_
                try simp (disch := omega) only [tu_ne, tu_eq]
                refine r_iload_n C d_Md_job_103 rfl ?_
                refine st_Md_wants C (t 2 0).toNat (by omega) (by omega) d_Md_job_104 ?_
                refine r_aload_n C d_Md_job_105 rfl ?_
                refine g_Md_needs C lk_Md_36 d_Md_job_106 ?_
                refine r_aload_n C d_Md_job_109 rfl ?_
                refine g_Md_jobs C lk_Md_124 d_Md_job_110 ?_
                try simp (disch := omega) only [tu_ne, tu_eq]
                refine r_iload_n C d_Md_job_113 rfl ?_
                refine st_Md_needs C (t 2 0).toNat (by omega) (by omega) d_Md_job_114 ?_
                refine r_aload_n C d_Md_job_115 rfl ?_
                refine g_Md_limit C lk_Md_39 d_Md_job_116 ?_
                refine r_aload_n C d_Md_job_119 rfl ?_
                refine g_Md_jobs C lk_Md_124 d_Md_job_120 ?_
                try simp (disch := omega) only [tu_ne, tu_eq]
                refine r_iload C d_Md_job_123 rfl ?_
                refine st_Md_limit C (t 2 0).toNat (by omega) (by omega) d_Md_job_125 ?_
                refine r_aload_n C d_Md_job_126 rfl ?_
                refine g_Md_truly C lk_Md_42 d_Md_job_127 ?_
                refine r_aload_n C d_Md_job_130 rfl ?_
                refine g_Md_jobs C lk_Md_124 d_Md_job_131 ?_
                try simp (disch := omega) only [tu_ne, tu_eq]
                refine r_iload C d_Md_job_134 rfl ?_
                refine st_Md_truly C (t 2 0).toNat (by omega) (by omega) d_Md_job_136 ?_
                refine r_aload_n C d_Md_job_137 rfl ?_
                refine g_Md_save C lk_Md_45 d_Md_job_138 ?_
                refine r_aload_n C d_Md_job_141 rfl ?_
                refine g_Md_jobs C lk_Md_124 d_Md_job_142 ?_
                try simp (disch := omega) only [tu_ne, tu_eq]
                refine r_iload C d_Md_job_145 rfl ?_
                refine st_Md_save C (t 2 0).toNat (by omega) (by omega) d_Md_job_147 ?_
                refine r_aload_n C d_Md_job_148 rfl ?_
                refine g_Md_ahead C lk_Md_48 d_Md_job_149 ?_
                refine r_aload_n C d_Md_job_152 rfl ?_
                refine g_Md_jobs C lk_Md_124 d_Md_job_153 ?_
                try simp (disch := omega) only [tu_ne, tu_eq]
                refine r_iconst C d_Md_job_156 ?_
                refine st_Md_ahead C (t 2 0).toNat (by omega) (by omega) d_Md_job_157 ?_
                refine r_aload_n C d_Md_job_158 rfl ?_
                refine g_Md_began C lk_Md_54 d_Md_job_159 ?_
                refine r_aload_n C d_Md_job_162 rfl ?_
                refine g_Md_jobs C lk_Md_124 d_Md_job_163 ?_
                try simp (disch := omega) only [tu_ne, tu_eq]
                refine r_iconst C d_Md_job_166 ?_
                refine st_Md_began C (t 2 0).toNat (by omega) (by omega) d_Md_job_167 ?_
                refine r_aload_n C d_Md_job_168 rfl ?_
                refine g_Md_ended C lk_Md_57 d_Md_job_169 ?_
                refine r_aload_n C d_Md_job_172 rfl ?_
                refine g_Md_jobs C lk_Md_124 d_Md_job_173 ?_
                try simp (disch := omega) only [tu_ne, tu_eq]
                refine r_iconst C d_Md_job_176 ?_
                refine st_Md_ended C (t 2 0).toNat (by omega) (by omega) d_Md_job_177 ?_
                refine r_aload_n C d_Md_job_178 rfl ?_
                refine r_dup C d_Md_job_179 rfl ?_
                refine g_Md_jobs C lk_Md_124 d_Md_job_180 ?_
                try simp (disch := omega) only [tu_ne, tu_eq]
                refine r_iconst C d_Md_job_183 ?_
                refine r_iadd C d_Md_job_184 ?_
                refine p_Md_jobs C lk_Md_124 d_Md_job_185 ?_
                refine r_aload_n C d_Md_job_188 rfl ?_
                refine g_Md_jobs C lk_Md_124 d_Md_job_189 ?_
                try simp (disch := omega) only [tu_ne, tu_eq]
                refine r_iconst C d_Md_job_192 ?_
                refine r_isub C d_Md_job_193 ?_
                exact R d_Md_job_194 (by unfold jbC; (repeat' split) <;> omega) (by unfold jbC; (repeat' split) <;> first | rfl | (exfalso; omega))
              · refine r_bipush C d_Md_job_82 (by decide) ?_
                exact R d_Md_job_84 (by unfold jbC; (repeat' split) <;> omega) (by unfold jbC; (repeat' split) <;> first | rfl | (exfalso; omega))
            · try have k67 := b2i_nn c67
              refine r_bipush C d_Md_job_70 (by decide) ?_
              exact R d_Md_job_72 (by unfold jbC; (repeat' split) <;> omega) (by unfold jbC; (repeat' split) <;> first | rfl | (exfalso; omega))
  · try have k11 := b2i_nn c11
    refine r_bipush C d_Md_job_14 (by decide) ?_
    exact R d_Md_job_16 (by unfold jbC; (repeat' split) <;> omega) (by unfold jbC; (repeat' split) <;> first | rfl | (exfalso; omega))
def bhC (t : TT) (j k : Int) : Int := if ¬ (0 ≤ j ∧ j < t 2 0) ∨ (k ≠ -1 ∧ ¬ (0 ≤ k ∧ k < t 2 0)) then -2 else if j ≤ k then -3 else if t 24 j.toNat ≠ 0 then -4 else 1
theorem k_Md_behind {l : Launch} {E : Ew} {S0 : WW} {t : TT} (hB : Bd t) {j k : Int} (hj : ir j) (hk : ir k) : Kf l y_Md_behind b_Md_behind 3 (some .int) 2 E (sm S0 2 t) [rf E 1, iv j, iv k] (some (iv (bhC t j k))) (sm S0 2 (if bhC t j k = 1 then tu t 23 j.toNat k else t)) := by
  refine KfI rfl rfl (Nat.le_of_ble_eq_true rfl) (fun g C R => ?_)
  show g (sm S0 2 t) 0 [some (rf E 1), some (iv j), some (iv k)] []
  have b2 := bd2 hB 0
  have b24 := bd24 hB j.toNat
  refine r_aload_n C d_Md_behind_0 rfl ?_
  refine r_iload_n C d_Md_behind_1 rfl ?_
  refine r_cV1r C (k_Md_isJob hB (by first | assumption | exact ir_mk (by omega) (by omega))) (by decide) (by decide) ml_Md_138 mn_Md_isJob ms_Md_isJob mc_Md_isJob mi_Md_isJob md_Md_isJob (by decide) zMd rfl rfl (Nat.le_of_ble_eq_true rfl) d_Md_behind_2 ?_
  refine r_if_eq (tgt := 21) C d_Md_behind_5 (by decide) (by first | assumption | exact bd_ir (by assumption) rfl | exact b2i_ir _ | exact pb_ir _ | exact ir_mk (by omega) (by omega)) (fun c5 => ?_) (fun c5 => ?_)
  · try have k5 := b2i_eq c5
    refine r_bipush C d_Md_behind_21 (by decide) ?_
    exact R d_Md_behind_23 (by unfold bhC; (repeat' split) <;> omega) (by unfold bhC; (repeat' split) <;> first | rfl | (exfalso; omega))
  · try have k5 := b2i_ne c5
    refine r_iload_n C d_Md_behind_8 rfl ?_
    refine r_iconst C d_Md_behind_9 ?_
    refine r_icmp_eq (tgt := 24) C d_Md_behind_10 (by decide) (by first | assumption | exact bd_ir (by assumption) rfl | exact b2i_ir _ | exact pb_ir _ | exact ir_mk (by omega) (by omega)) (by first | assumption | exact bd_ir (by assumption) rfl | exact b2i_ir _ | exact pb_ir _ | exact ir_mk (by omega) (by omega)) (fun c10 => ?_) (fun c10 => ?_)
    · refine r_iload_n C d_Md_behind_24 rfl ?_
      refine r_iload_n C d_Md_behind_25 rfl ?_
      refine r_icmp_lt (tgt := 32) C d_Md_behind_26 (by decide) (by first | assumption | exact bd_ir (by assumption) rfl | exact b2i_ir _ | exact pb_ir _ | exact ir_mk (by omega) (by omega)) (by first | assumption | exact bd_ir (by assumption) rfl | exact b2i_ir _ | exact pb_ir _ | exact ir_mk (by omega) (by omega)) (fun c26 => ?_) (fun c26 => ?_)
      · refine r_aload_n C d_Md_behind_32 rfl ?_
        refine g_Md_state C lk_Md_51 d_Md_behind_33 ?_
        refine r_iload_n C d_Md_behind_36 rfl ?_
        refine x_Md_state C j.toNat (by omega) (by omega) d_Md_behind_37 ?_
        refine r_if_eq (tgt := 44) C d_Md_behind_38 (by decide) (by first | assumption | exact bd_ir (by assumption) rfl | exact b2i_ir _ | exact pb_ir _ | exact ir_mk (by omega) (by omega)) (fun c38 => ?_) (fun c38 => ?_)
        · try have k38 := b2i_eq c38
          refine r_aload_n C d_Md_behind_44 rfl ?_
          refine g_Md_ahead C lk_Md_48 d_Md_behind_45 ?_
          refine r_iload_n C d_Md_behind_48 rfl ?_
          refine r_iload_n C d_Md_behind_49 rfl ?_
          refine st_Md_ahead C j.toNat (by omega) (by omega) d_Md_behind_50 ?_
          refine r_iconst C d_Md_behind_51 ?_
          exact R d_Md_behind_52 (by unfold bhC; (repeat' split) <;> omega) (by unfold bhC; (repeat' split) <;> first | rfl | (exfalso; omega))
        · try have k38 := b2i_ne c38
          refine r_bipush C d_Md_behind_41 (by decide) ?_
          exact R d_Md_behind_43 (by unfold bhC; (repeat' split) <;> omega) (by unfold bhC; (repeat' split) <;> first | rfl | (exfalso; omega))
      · refine r_bipush C d_Md_behind_29 (by decide) ?_
        exact R d_Md_behind_31 (by unfold bhC; (repeat' split) <;> omega) (by unfold bhC; (repeat' split) <;> first | rfl | (exfalso; omega))
    · refine r_aload_n C d_Md_behind_13 rfl ?_
      refine r_iload_n C d_Md_behind_14 rfl ?_
      refine r_cV1r C (k_Md_isJob hB (by first | assumption | exact ir_mk (by omega) (by omega))) (by decide) (by decide) ml_Md_138 mn_Md_isJob ms_Md_isJob mc_Md_isJob mi_Md_isJob md_Md_isJob (by decide) zMd rfl rfl (Nat.le_of_ble_eq_true rfl) d_Md_behind_15 ?_
      refine r_if_ne (tgt := 24) C d_Md_behind_18 (by decide) (by first | assumption | exact bd_ir (by assumption) rfl | exact b2i_ir _ | exact pb_ir _ | exact ir_mk (by omega) (by omega)) (fun c18 => ?_) (fun c18 => ?_)
      · try have k18 := b2i_ne c18
        refine r_iload_n C d_Md_behind_24 rfl ?_
        refine r_iload_n C d_Md_behind_25 rfl ?_
        refine r_icmp_lt (tgt := 32) C d_Md_behind_26 (by decide) (by first | assumption | exact bd_ir (by assumption) rfl | exact b2i_ir _ | exact pb_ir _ | exact ir_mk (by omega) (by omega)) (by first | assumption | exact bd_ir (by assumption) rfl | exact b2i_ir _ | exact pb_ir _ | exact ir_mk (by omega) (by omega)) (fun c26 => ?_) (fun c26 => ?_)
        · refine r_aload_n C d_Md_behind_32 rfl ?_
          refine g_Md_state C lk_Md_51 d_Md_behind_33 ?_
          refine r_iload_n C d_Md_behind_36 rfl ?_
          refine x_Md_state C j.toNat (by omega) (by omega) d_Md_behind_37 ?_
          refine r_if_eq (tgt := 44) C d_Md_behind_38 (by decide) (by first | assumption | exact bd_ir (by assumption) rfl | exact b2i_ir _ | exact pb_ir _ | exact ir_mk (by omega) (by omega)) (fun c38 => ?_) (fun c38 => ?_)
          · try have k38 := b2i_eq c38
            refine r_aload_n C d_Md_behind_44 rfl ?_
            refine g_Md_ahead C lk_Md_48 d_Md_behind_45 ?_
            refine r_iload_n C d_Md_behind_48 rfl ?_
            refine r_iload_n C d_Md_behind_49 rfl ?_
            refine st_Md_ahead C j.toNat (by omega) (by omega) d_Md_behind_50 ?_
            refine r_iconst C d_Md_behind_51 ?_
            exact R d_Md_behind_52 (by unfold bhC; (repeat' split) <;> omega) (by unfold bhC; (repeat' split) <;> first | rfl | (exfalso; omega))
          · try have k38 := b2i_ne c38
            refine r_bipush C d_Md_behind_41 (by decide) ?_
            exact R d_Md_behind_43 (by unfold bhC; (repeat' split) <;> omega) (by unfold bhC; (repeat' split) <;> first | rfl | (exfalso; omega))
        · refine r_bipush C d_Md_behind_29 (by decide) ?_
          exact R d_Md_behind_31 (by unfold bhC; (repeat' split) <;> omega) (by unfold bhC; (repeat' split) <;> first | rfl | (exfalso; omega))
      · try have k18 := b2i_nn c18
        refine r_bipush C d_Md_behind_21 (by decide) ?_
        exact R d_Md_behind_23 (by unfold bhC; (repeat' split) <;> omega) (by unfold bhC; (repeat' split) <;> first | rfl | (exfalso; omega))
def caC (t : TT) (j : Int) : Int := if ¬ (0 ≤ j ∧ j < t 2 0) then -2 else if 1 < t 24 j.toNat then -4 else 1
theorem k_Md_cancel {l : Launch} {E : Ew} {S0 : WW} {t : TT} (hB : Bd t) {j : Int} (hj : ir j) : Kf l y_Md_cancel b_Md_cancel 2 (some .int) 2 E (sm S0 2 t) [rf E 1, iv j] (some (iv (caC t j))) (sm S0 2 (if caC t j = 1 then leM (tu t 24 j.toNat 3) j.toNat else t)) := by
  refine KfI rfl rfl (Nat.le_of_ble_eq_true rfl) (fun g C R => ?_)
  show g (sm S0 2 t) 0 [some (rf E 1), some (iv j)] []
  have b2 := bd2 hB 0
  have b24 := bd24 hB j.toNat
  refine r_aload_n C d_Md_cancel_0 rfl ?_
  refine r_iload_n C d_Md_cancel_1 rfl ?_
  refine r_cV1r C (k_Md_isJob hB (by first | assumption | exact ir_mk (by omega) (by omega))) (by decide) (by decide) ml_Md_138 mn_Md_isJob ms_Md_isJob mc_Md_isJob mi_Md_isJob md_Md_isJob (by decide) zMd rfl rfl (Nat.le_of_ble_eq_true rfl) d_Md_cancel_2 ?_
  refine r_if_ne (tgt := 11) C d_Md_cancel_5 (by decide) (by first | assumption | exact bd_ir (by assumption) rfl | exact b2i_ir _ | exact pb_ir _ | exact ir_mk (by omega) (by omega)) (fun c5 => ?_) (fun c5 => ?_)
  · try have k5 := b2i_ne c5
    refine r_aload_n C d_Md_cancel_11 rfl ?_
    refine g_Md_state C lk_Md_51 d_Md_cancel_12 ?_
    refine r_iload_n C d_Md_cancel_15 rfl ?_
    refine x_Md_state C j.toNat (by omega) (by omega) d_Md_cancel_16 ?_
    refine r_iconst C d_Md_cancel_17 ?_
    refine r_icmp_le (tgt := 24) C d_Md_cancel_18 (by decide) (by first | assumption | exact bd_ir (by assumption) rfl | exact b2i_ir _ | exact pb_ir _ | exact ir_mk (by omega) (by omega)) (by first | assumption | exact bd_ir (by assumption) rfl | exact b2i_ir _ | exact pb_ir _ | exact ir_mk (by omega) (by omega)) (fun c18 => ?_) (fun c18 => ?_)
    · refine r_aload_n C d_Md_cancel_24 rfl ?_
      refine g_Md_state C lk_Md_51 d_Md_cancel_25 ?_
      refine r_iload_n C d_Md_cancel_28 rfl ?_
      refine r_iconst C d_Md_cancel_29 ?_
      refine st_Md_state C j.toNat (by omega) (by omega) d_Md_cancel_30 ?_
      refine r_aload_n C d_Md_cancel_31 rfl ?_
      refine r_iload_n C d_Md_cancel_32 rfl ?_
      refine g_st (show iv j = iv ((j.toNat : Nat) : Int) by rw [Int.toNat_of_nonneg (by omega)]) ?_
      refine r_cV1v C (k_Md_leave (j := j.toNat) (by omega)) (by decide) (by decide) ml_Md_131 mn_Md_leave ms_Md_leave mc_Md_leave mi_Md_leave md_Md_leave (by decide) zMd rfl rfl (Nat.le_of_ble_eq_true rfl) d_Md_cancel_33 ?_
      refine r_iconst C d_Md_cancel_36 ?_
      exact R d_Md_cancel_37 (by unfold caC; (repeat' split) <;> omega) (by unfold caC; (repeat' split) <;> first | rfl | (exfalso; omega))
    · refine r_bipush C d_Md_cancel_21 (by decide) ?_
      exact R d_Md_cancel_23 (by unfold caC; (repeat' split) <;> omega) (by unfold caC; (repeat' split) <;> first | rfl | (exfalso; omega))
  · try have k5 := b2i_nn c5
    refine r_bipush C d_Md_cancel_8 (by decide) ?_
    exact R d_Md_cancel_10 (by unfold caC; (repeat' split) <;> omega) (by unfold caC; (repeat' split) <;> first | rfl | (exfalso; omega))
def mfS (t : TT) (j r : Nat) : TT := if t 24 j = 1 ∧ 0 < t 30 (4 * j + r) then leM (tu (tu t 27 j (if t 22 j = 0 then t 27 j else (t 27 j + t 35 j) - (t 27 j + t 35 j) % t 22 j)) 24 j 0) j else t
def mfT (t : TT) (r : Nat) : Nat → TT
  | 0 => t
  | i + 1 => mfS (mfT t r i) i r
theorem mfT_s (t : TT) (r i : Nat) : mfT t r (i + 1) = mfS (mfT t r i) i r := rfl
def mfC (t : TT) (r : Nat) (n : Nat) : Int := sumN (fun i => b2i (mfT t r i 24 i = 1 ∧ 0 < mfT t r i 30 (4 * i + r))) n
theorem mfC_s (t : TT) (r n : Nat) : mfC t r (n + 1) = mfC t r n + b2i (mfT t r n 24 n = 1 ∧ 0 < mfT t r n 30 (4 * n + r)) := rfl
theorem mfS_ne {t : TT} {j r f a : Nat} (h : f ≠ 27 ∧ f ≠ 24 ∧ f ≠ 30 ∧ f ≠ 35) : mfS t j r f a = t f a := by
  unfold mfS; split
  · rw [leM_ne (by omega), tu_ne (by omega), tu_ne (by omega)]
  · rfl
theorem mfT_ne {t : TT} {r f a : Nat} (h : f ≠ 27 ∧ f ≠ 24 ∧ f ≠ 30 ∧ f ≠ 35) : ∀ i, mfT t r i f a = t f a := by
  intro i
  induction i with
  | zero => rfl
  | succ i ih => rw [mfT_s, mfS_ne h, ih]
theorem k_Md_fail {l : Launch} {E : Ew} {S0 : WW} {t : TT} (hB : Bd t) {n : Int} (hn : ir n) (hI : ∀ (r i : Nat), n = (r : Int) → n < t 0 0 → i ≤ (t 2 0).toNat → Bd (mfT t r i)) : Kf l y_Md_fail b_Md_fail 5 (some .int) 2 E (sm S0 2 t) [rf E 1, iv n] (some (iv (if ¬ (0 ≤ n ∧ n < t 0 0) then -2 else mfC t n.toNat (t 2 0).toNat))) (sm S0 2 (if ¬ (0 ≤ n ∧ n < t 0 0) then t else mfT t n.toNat (t 2 0).toNat)) := by
  refine KfI rfl rfl (Nat.le_of_ble_eq_true rfl) (fun g C R => ?_)
  show g (sm S0 2 t) 0 [some (rf E 1), some (iv n), none, none, none] []
  have b0 := bd0 hB 0
  have b2 := bd2 hB 0
  have hl : ∀ (r : Nat), n = (r : Int) → r < 4 → 0 ≤ n ∧ n < t 0 0 → ∀ (k i : Nat) (X : Option Value), i ≤ (t 2 0).toNat → (t 2 0).toNat - i < k → g (sm S0 2 (mfT t r i)) 15 [some (rf E 1), some (iv n), some (iv (mfC t r i)), some (iv (i : Int)), X] [] := by
    intro r hr hr4 hnr k
    induction k with
    | zero => intro i X h1 h2; omega
    | succ k ih =>
      intro i X h1 h2
      have hT := mfT_s t r i
      have hC := mfC_s t r i
      have hN : mfT t r i 2 0 = t 2 0 := mfT_ne (by omega) i
      have hBi := hI r i hr hnr.2 h1
      obtain ⟨s, hs9⟩ : ∃ s, s = mfT t r i := ⟨_, rfl⟩
      rw [← hs9] at hBi hT hN hC ⊢
      have b27 := bd27 hBi i
      have b35 := bd35 hBi i
      have b22 := bd22 hBi i
      refine r_iload_n C d_Md_fail_15 rfl ?_
      refine r_aload_n C d_Md_fail_16 rfl ?_
      refine g_Md_jobs C lk_Md_124 d_Md_fail_17 ?_
      rw [hN]
      refine r_icmp_ge (tgt := 118) C d_Md_fail_20 (by decide) (by first | assumption | exact bd_ir (by assumption) rfl | exact b2i_ir _ | exact pb_ir _ | exact ir_mk (by omega) (by omega)) (by first | assumption | exact bd_ir (by assumption) rfl | exact b2i_ir _ | exact pb_ir _ | exact ir_mk (by omega) (by omega)) (fun c20 => ?_) (fun c20 => ?_)
      · refine r_iload_n C d_Md_fail_118 rfl ?_
        exact R d_Md_fail_119 (by rw [if_neg (by omega), hr, show i = (t 2 0).toNat by omega]; rfl) (by rw [hs9, if_neg (by omega), hr, show i = (t 2 0).toNat by omega]; rfl)
      · refine r_aload_n C d_Md_fail_23 rfl ?_
        refine g_Md_state C lk_Md_51 d_Md_fail_24 ?_
        refine r_iload_n C d_Md_fail_27 rfl ?_
        refine x_Md_state C _ rfl (by omega) d_Md_fail_28 ?_
        refine r_iconst C d_Md_fail_29 ?_
        refine r_icmp_ne (tgt := 112) C d_Md_fail_30 (by decide) (bd_ir hBi rfl) (by first | assumption | exact bd_ir (by assumption) rfl | exact b2i_ir _ | exact pb_ir _ | exact ir_mk (by omega) (by omega)) (fun c30 => ?_) (fun c30 => ?_)
        · refine r_iinc_3 C d_Md_fail_112 ?_
          refine r_goto (tgt := 15) C d_Md_fail_115 (by decide) ?_
          have h := fun X => ih (i + 1) X (by omega) (by omega)
          rw [hT, hC, mfS, b2i] at h
          first
            | (rw [if_neg (by omega), if_neg (by omega), Int.add_zero] at h; exact h _)
            | (rw [if_pos (by omega), if_pos (by omega), if_pos (by omega)] at h; exact h _)
            | (rw [if_pos (by omega), if_neg (by omega), if_pos (by omega)] at h; exact h _)
        · refine r_aload_n C d_Md_fail_33 rfl ?_
          refine g_Md_on C lk_Md_69 d_Md_fail_34 ?_
          refine r_iconst C d_Md_fail_37 ?_
          refine r_iload_n C d_Md_fail_38 rfl ?_
          refine r_imul C d_Md_fail_39 ?_
          refine r_iload_n C d_Md_fail_40 rfl ?_
          refine r_iadd C d_Md_fail_41 ?_
          refine x_Md_on C (4 * i + r) (by omega) (by omega) d_Md_fail_42 ?_
          refine r_if_le (tgt := 112) C d_Md_fail_43 (by decide) (by first | assumption | exact bd_ir (by assumption) rfl | exact b2i_ir _ | exact pb_ir _ | exact ir_mk (by omega) (by omega)) (fun c43 => ?_) (fun c43 => ?_)
          · refine r_iinc_3 C d_Md_fail_112 ?_
            refine r_goto (tgt := 15) C d_Md_fail_115 (by decide) ?_
            have h := fun X => ih (i + 1) X (by omega) (by omega)
            rw [hT, hC, mfS, b2i] at h
            first
              | (rw [if_neg (by omega), if_neg (by omega), Int.add_zero] at h; exact h _)
              | (rw [if_pos (by omega), if_pos (by omega), if_pos (by omega)] at h; exact h _)
              | (rw [if_pos (by omega), if_neg (by omega), if_pos (by omega)] at h; exact h _)
          · refine r_aload_n C d_Md_fail_46 rfl ?_
            refine g_Md_saved C lk_Md_60 d_Md_fail_47 ?_
            refine r_iload_n C d_Md_fail_50 rfl ?_
            refine x_Md_saved C _ rfl (by omega) d_Md_fail_51 ?_
            refine r_aload_n C d_Md_fail_52 rfl ?_
            refine g_Md_ran C lk_Md_63 d_Md_fail_53 ?_
            refine r_iload_n C d_Md_fail_56 rfl ?_
            refine x_Md_ran C _ rfl (by omega) d_Md_fail_57 ?_
            refine r_iadd C d_Md_fail_58 ?_
            refine r_istore_4 C d_Md_fail_59 ?_
            refine r_aload_n C d_Md_fail_61 rfl ?_
            refine g_Md_saved C lk_Md_60 d_Md_fail_62 ?_
            refine r_iload_n C d_Md_fail_65 rfl ?_
            refine r_aload_n C d_Md_fail_66 rfl ?_
            refine g_Md_save C lk_Md_45 d_Md_fail_67 ?_
            refine r_iload_n C d_Md_fail_70 rfl ?_
            refine x_Md_save C _ rfl (by omega) d_Md_fail_71 ?_
            refine r_if_ne (tgt := 84) C d_Md_fail_72 (by decide) (bd_ir hBi rfl) (fun c72 => ?_) (fun c72 => ?_)
            · refine r_iload C d_Md_fail_84 rfl ?_
              refine r_iload C d_Md_fail_86 rfl ?_
              refine r_aload_n C d_Md_fail_88 rfl ?_
              refine g_Md_save C lk_Md_45 d_Md_fail_89 ?_
              refine r_iload_n C d_Md_fail_92 rfl ?_
              refine x_Md_save C _ rfl (by omega) d_Md_fail_93 ?_
              
              refine r_irem C d_Md_fail_94 (by omega) (by omega) ?_
              refine r_isub C d_Md_fail_95 ?_
              try simp (disch := omega) only [tu_ne, tu_eq]
              refine st_Md_saved C _ rfl (by omega) d_Md_fail_96 ?_
              try simp (disch := omega) only [tu_ne, tu_eq]
              refine r_aload_n C d_Md_fail_97 rfl ?_
              refine g_Md_state C lk_Md_51 d_Md_fail_98 ?_
              refine r_iload_n C d_Md_fail_101 rfl ?_
              refine r_iconst C d_Md_fail_102 ?_
              refine st_Md_state C _ rfl (by omega) d_Md_fail_103 ?_
              refine r_aload_n C d_Md_fail_104 rfl ?_
              refine r_iload_n C d_Md_fail_105 rfl ?_
              refine r_cV1v C (k_Md_leave (j := i) (by omega)) (by decide) (by decide) ml_Md_131 mn_Md_leave ms_Md_leave mc_Md_leave mi_Md_leave md_Md_leave (by decide) zMd rfl rfl (Nat.le_of_ble_eq_true rfl) d_Md_fail_106 ?_
              refine r_iinc_2 C d_Md_fail_109 ?_
              refine r_iinc_3 C d_Md_fail_112 ?_
              refine r_goto (tgt := 15) C d_Md_fail_115 (by decide) ?_
              have h := fun X => ih (i + 1) X (by omega) (by omega)
              rw [hT, hC, mfS, b2i] at h
              first
                | (rw [if_neg (by omega), if_neg (by omega), Int.add_zero] at h; exact h _)
                | (rw [if_pos (by omega), if_pos (by omega), if_pos (by omega)] at h; exact h _)
                | (rw [if_pos (by omega), if_neg (by omega), if_pos (by omega)] at h; exact h _)
            · refine r_aload_n C d_Md_fail_75 rfl ?_
              refine g_Md_saved C lk_Md_60 d_Md_fail_76 ?_
              refine r_iload_n C d_Md_fail_79 rfl ?_
              refine x_Md_saved C _ rfl (by omega) d_Md_fail_80 ?_
              refine r_goto (tgt := 96) C d_Md_fail_81 (by decide) ?_
              try simp (disch := omega) only [tu_ne, tu_eq]
              refine st_Md_saved C _ rfl (by omega) d_Md_fail_96 ?_
              try simp (disch := omega) only [tu_ne, tu_eq]
              refine r_aload_n C d_Md_fail_97 rfl ?_
              refine g_Md_state C lk_Md_51 d_Md_fail_98 ?_
              refine r_iload_n C d_Md_fail_101 rfl ?_
              refine r_iconst C d_Md_fail_102 ?_
              refine st_Md_state C _ rfl (by omega) d_Md_fail_103 ?_
              refine r_aload_n C d_Md_fail_104 rfl ?_
              refine r_iload_n C d_Md_fail_105 rfl ?_
              refine r_cV1v C (k_Md_leave (j := i) (by omega)) (by decide) (by decide) ml_Md_131 mn_Md_leave ms_Md_leave mc_Md_leave mi_Md_leave md_Md_leave (by decide) zMd rfl rfl (Nat.le_of_ble_eq_true rfl) d_Md_fail_106 ?_
              refine r_iinc_2 C d_Md_fail_109 ?_
              refine r_iinc_3 C d_Md_fail_112 ?_
              refine r_goto (tgt := 15) C d_Md_fail_115 (by decide) ?_
              have h := fun X => ih (i + 1) X (by omega) (by omega)
              rw [hT, hC, mfS, b2i] at h
              first
                | (rw [if_neg (by omega), if_neg (by omega), Int.add_zero] at h; exact h _)
                | (rw [if_pos (by omega), if_pos (by omega), if_pos (by omega)] at h; exact h _)
                | (rw [if_pos (by omega), if_neg (by omega), if_pos (by omega)] at h; exact h _)
  refine r_aload_n C d_Md_fail_0 rfl ?_
  refine r_iload_n C d_Md_fail_1 rfl ?_
  refine r_cV1r C (k_Md_isRack hB (by first | assumption | exact ir_mk (by omega) (by omega))) (by decide) (by decide) ml_Md_127 mn_Md_isRack ms_Md_isRack mc_Md_isRack mi_Md_isRack md_Md_isRack (by decide) zMd rfl rfl (Nat.le_of_ble_eq_true rfl) d_Md_fail_2 ?_
  refine r_if_ne (tgt := 11) C d_Md_fail_5 (by decide) (by first | assumption | exact bd_ir (by assumption) rfl | exact b2i_ir _ | exact pb_ir _ | exact ir_mk (by omega) (by omega)) (fun c5 => ?_) (fun c5 => ?_)
  · try have k5 := b2i_ne c5
    refine r_iconst C d_Md_fail_11 ?_
    refine r_istore_2 C d_Md_fail_12 ?_
    refine r_iconst C d_Md_fail_13 ?_
    refine r_istore_3 C d_Md_fail_14 ?_
    exact hl n.toNat (by omega) (by omega) (by omega) ((t 2 0).toNat + 1) 0 none (by omega) (by omega)
  · try have k5 := b2i_nn c5
    refine r_bipush C d_Md_fail_8 (by decide) ?_
    exact R d_Md_fail_10 (by (repeat' split) <;> omega) (by (repeat' split) <;> first | rfl | (exfalso; omega))
def ub1 (t : TT) (b i : Nat) : TT := fun f a => if (f = 31 ∨ f = 33 ∨ f = 34) ∧ b ≤ a ∧ a < i then t f (a + 1) else t f a
def ubF (t : TT) (b : Nat) : TT := ub1 (tu t 3 0 (t 3 0 - 1)) b ((t 3 0).toNat - 1)
theorem ub1_0 (t : TT) (b : Nat) : ub1 t b b = t := by
  funext f a; unfold ub1; rw [if_neg (by omega)]
theorem ub1_ne {t : TT} {b i f a : Nat} (h : (f ≠ 31 ∧ f ≠ 33 ∧ f ≠ 34) ∨ i ≤ a) : ub1 t b i f a = t f a := by unfold ub1; rw [if_neg (by omega)]
theorem ub1_s {t : TT} {b i : Nat} (h : b ≤ i) : tu (tu (tu (ub1 t b i) 31 i (t 31 (i + 1))) 33 i (t 33 (i + 1))) 34 i (t 34 (i + 1)) = ub1 t b (i + 1) := by
  funext f a; simp only [tu, ub1]; grind
theorem k_Md_unbook {l : Launch} {E : Ew} {S0 : WW} {t : TT} (hB : Bd t) {n : Int} (hn : ir n) (h8 : t 3 0 ≤ 8) : Kf l y_Md_unbook b_Md_unbook 3 (some .int) 1 E (sm S0 2 t) [rf E 1, iv n] (some (iv (if ¬ (0 ≤ n ∧ n < t 3 0) then -2 else 1))) (sm S0 2 (if ¬ (0 ≤ n ∧ n < t 3 0) then t else ubF t n.toNat)) := by
  refine KfI rfl rfl (Nat.le_of_ble_eq_true rfl) (fun g C R => ?_)
  show g (sm S0 2 t) 0 [some (rf E 1), some (iv n), none] []
  have b3 := bd3 hB 0
  have hl : ∀ (q : TT) (b : Nat), n = (b : Int) → (0 ≤ q 3 0 ∧ q 3 0 ≤ 7) → (∀ {T : TT}, T = ub1 q b (q 3 0).toNat → T = ubF t b) → 0 ≤ n ∧ n < t 3 0 → ∀ (k i : Nat), b ≤ i → i ≤ (q 3 0).toNat → (q 3 0).toNat - i < k → g (sm S0 2 (ub1 q b i)) 29 [some (rf E 1), some (iv n), some (iv (i : Int))] [] := by
    intro q b hb hq7 hfin hnr k
    induction k with
    | zero => intro i h0 h1 h2; omega
    | succ k ih =>
      intro i h0 h1 h2
      refine r_iload_n C d_Md_unbook_29 rfl ?_
      refine r_aload_n C d_Md_unbook_30 rfl ?_
      refine g_Md_bookings C lk_Md_145 d_Md_unbook_31 ?_
      rw [ub1_ne (by omega)]
      refine r_icmp_ge (tgt := 85) C d_Md_unbook_34 (by decide) (ir_mk (by omega) (by omega)) (ir_mk (by omega) (by omega)) (fun c34 => ?_) (fun c34 => ?_)
      · refine r_iconst C d_Md_unbook_85 ?_
        exact R d_Md_unbook_86 (by rw [if_neg (by omega)]) (by rw [if_neg (by omega)]; exact congrArg (sm S0 2) (by rw [show n.toNat = b by omega]; exact hfin (by rw [show i = (q 3 0).toNat by omega])))
      · refine r_aload_n C d_Md_unbook_37 rfl ?_
        refine g_Md_bookNodes C lk_Md_72 d_Md_unbook_38 ?_
        refine r_iload_n C d_Md_unbook_41 rfl ?_
        refine r_aload_n C d_Md_unbook_42 rfl ?_
        refine g_Md_bookNodes C lk_Md_72 d_Md_unbook_43 ?_
        refine r_iload_n C d_Md_unbook_46 rfl ?_
        refine r_iconst C d_Md_unbook_47 ?_
        refine r_iadd C d_Md_unbook_48 ?_
        refine x_Md_bookNodes C (i + 1) (by omega) (by omega) d_Md_unbook_49 ?_
        try simp (disch := omega) only [tu_ne, tu_eq, ub1_ne]
        refine st_Md_bookNodes C _ rfl (by omega) d_Md_unbook_50 ?_
        refine r_aload_n C d_Md_unbook_51 rfl ?_
        refine g_Md_bookFrom C lk_Md_75 d_Md_unbook_52 ?_
        refine r_iload_n C d_Md_unbook_55 rfl ?_
        refine r_aload_n C d_Md_unbook_56 rfl ?_
        refine g_Md_bookFrom C lk_Md_75 d_Md_unbook_57 ?_
        refine r_iload_n C d_Md_unbook_60 rfl ?_
        refine r_iconst C d_Md_unbook_61 ?_
        refine r_iadd C d_Md_unbook_62 ?_
        refine x_Md_bookFrom C (i + 1) (by omega) (by omega) d_Md_unbook_63 ?_
        try simp (disch := omega) only [tu_ne, tu_eq, ub1_ne]
        refine st_Md_bookFrom C _ rfl (by omega) d_Md_unbook_64 ?_
        refine r_aload_n C d_Md_unbook_65 rfl ?_
        refine g_Md_bookTo C lk_Md_78 d_Md_unbook_66 ?_
        refine r_iload_n C d_Md_unbook_69 rfl ?_
        refine r_aload_n C d_Md_unbook_70 rfl ?_
        refine g_Md_bookTo C lk_Md_78 d_Md_unbook_71 ?_
        refine r_iload_n C d_Md_unbook_74 rfl ?_
        refine r_iconst C d_Md_unbook_75 ?_
        refine r_iadd C d_Md_unbook_76 ?_
        refine x_Md_bookTo C (i + 1) (by omega) (by omega) d_Md_unbook_77 ?_
        try simp (disch := omega) only [tu_ne, tu_eq, ub1_ne]
        refine st_Md_bookTo C _ rfl (by omega) d_Md_unbook_78 ?_
        rw [ub1_s h0]
        refine r_iinc_2 C d_Md_unbook_79 ?_
        refine r_goto (tgt := 29) C d_Md_unbook_82 (by decide) ?_
        exact ih (i + 1) (by omega) (by omega) (by omega)
  refine r_iload_n C d_Md_unbook_0 rfl ?_
  refine r_iconst C d_Md_unbook_1 ?_
  refine r_aload_n C d_Md_unbook_2 rfl ?_
  refine g_Md_bookings C lk_Md_145 d_Md_unbook_3 ?_
  refine r_iconst C d_Md_unbook_6 ?_
  refine r_isub C d_Md_unbook_7 ?_
  refine r_cS3r C (k_Md_in (by first | assumption | exact ir_mk (by omega) (by omega)) (by first | assumption | exact ir_mk (by omega) (by omega)) (by first | assumption | exact ir_mk (by omega) (by omega))) (by decide) (by decide) ml_Md_120 mt_Md_in mc_Md_in mi_Md_in md_Md_in (Nat.le_of_ble_eq_true rfl) d_Md_unbook_8 ?_
  refine r_if_ne (tgt := 17) C d_Md_unbook_11 (by decide) (by first | assumption | exact bd_ir (by assumption) rfl | exact b2i_ir _ | exact pb_ir _ | exact ir_mk (by omega) (by omega)) (fun c11 => ?_) (fun c11 => ?_)
  · try have k11 := b2i_ne c11
    refine r_aload_n C d_Md_unbook_17 rfl ?_
    refine r_dup C d_Md_unbook_18 rfl ?_
    refine g_Md_bookings C lk_Md_145 d_Md_unbook_19 ?_
    refine r_iconst C d_Md_unbook_22 ?_
    refine r_isub C d_Md_unbook_23 ?_
    refine p_Md_bookings C lk_Md_145 d_Md_unbook_24 ?_
    refine r_iload_n C d_Md_unbook_27 rfl ?_
    refine r_istore_2 C d_Md_unbook_28 ?_
    have h := hl (tu t 3 0 (t 3 0 - 1)) n.toNat (by omega) (by rw [tu_eq]; omega) (fun hT => by rw [hT, tu_eq, ubF, show (t 3 0 - 1).toNat = (t 3 0).toNat - 1 by omega]) (by omega) ((t 3 0).toNat + 1) n.toNat (Nat.le_refl _) (by rw [tu_eq]; omega) (by rw [tu_eq]; omega)
    rw [ub1_0, show ((n.toNat : Nat) : Int) = n by omega] at h
    exact h
  · try have k11 := b2i_nn c11
    refine r_bipush C d_Md_unbook_14 (by decide) ?_
    exact R d_Md_unbook_16 (by (repeat' split) <;> omega) (by (repeat' split) <;> first | rfl | (exfalso; omega))
def tdM (t : TT) (j w : Int) (held : Int) : Int := if ¬ (0 ≤ j ∧ j < t 2 0) then -2 else if w = 0 then t 24 j.toNat else if w = 1 then t 25 j.toNat else if w = 2 then t 26 j.toNat else if w = 3 then t 27 j.toNat else if w = 4 then t 35 j.toNat else if w = 5 then held else -3
def mhF (t : TT) (j : Nat) : Int := sumN (fun r => if 0 < t 30 (4 * j + r) then 1 else 0) 4
theorem lk_out {w : Int} {off a b : Int} (h0 : ¬ w = 0) (h1 : ¬ w = 1) : Op.lookupswitch.offset [(0, a), (1, b)] off w = off := by
  have h2 : ¬ (0 : Int) = w := fun z => h0 z.symm
  have h3 : ¬ (1 : Int) = w := fun z => h1 z.symm
  simp [Op.lookupswitch.offset, h0, h1, h2, h3]
theorem k_Md_told {l : Launch} {E : Ew} {S0 : WW} {t : TT} (hB : Bd t) {j w : Int} (hj : ir j) (hw : ir w) : Kf l y_Md_told b_Md_told 5 (some .int) 2 E (sm S0 2 t) [rf E 1, iv j, iv w] (some (iv (tdM t j w (mhF t j.toNat)))) (sm S0 2 (t)) := by
  refine KfI rfl rfl (Nat.le_of_ble_eq_true rfl) (fun g C R => ?_)
  show g (sm S0 2 t) 0 [some (rf E 1), some (iv j), some (iv w), none, none] []
  have b2 := bd2 hB 0
  have hl : ∀ (q : Nat), j = (q : Int) → q < 30 → 0 ≤ j ∧ j < t 2 0 → w = 5 → ∀ (k i : Nat), i ≤ 4 → 4 - i < k → g (sm S0 2 t) 92 [some (rf E 1), some (iv j), some (iv w), some (iv (sumN (fun r => if 0 < t 30 (4 * q + r) then 1 else 0) i)), some (iv (i : Int))] [] := by
    intro q hq hq3 hj2 hw5 k
    induction k with
    | zero => intro i h1 h2; omega
    | succ k ih =>
      intro i h1 h2
      refine r_iload C d_Md_told_92 rfl ?_
      refine r_iconst C d_Md_told_94 ?_
      refine r_icmp_ge (tgt := 126) C d_Md_told_95 (by decide) (by first | assumption | exact bd_ir (by assumption) rfl | exact b2i_ir _ | exact pb_ir _ | exact ir_mk (by omega) (by omega)) (by first | assumption | exact bd_ir (by assumption) rfl | exact b2i_ir _ | exact pb_ir _ | exact ir_mk (by omega) (by omega)) (fun c95 => ?_) (fun c95 => ?_)
      · refine r_iload_n C d_Md_told_126 rfl ?_
        exact R d_Md_told_127 (by unfold tdM; rw [if_neg (by omega), if_neg (by omega), if_neg (by omega), if_neg (by omega), if_neg (by omega), if_neg (by omega), if_pos hw5, mhF, show i = 4 by omega, show j.toNat = q by omega]) rfl
      · refine r_iload_n C d_Md_told_98 rfl ?_
        refine r_aload_n C d_Md_told_99 rfl ?_
        refine g_Md_on C lk_Md_69 d_Md_told_100 ?_
        refine r_iconst C d_Md_told_103 ?_
        refine r_iload_n C d_Md_told_104 rfl ?_
        refine r_imul C d_Md_told_105 ?_
        refine r_iload C d_Md_told_106 rfl ?_
        refine r_iadd C d_Md_told_108 ?_
        refine x_Md_on C (4 * q + i) (by omega) (by omega) d_Md_told_109 ?_
        refine r_if_le (tgt := 117) C d_Md_told_110 (by decide) (by first | assumption | exact bd_ir (by assumption) rfl | exact b2i_ir _ | exact pb_ir _ | exact ir_mk (by omega) (by omega)) (fun c110 => ?_) (fun c110 => ?_)
        · refine r_iconst C d_Md_told_117 ?_
          refine r_iadd C d_Md_told_118 ?_
          refine r_istore_3 C d_Md_told_119 ?_
          refine r_iinc_4 C d_Md_told_120 ?_
          refine r_goto (tgt := 92) C d_Md_told_123 (by decide) ?_
          have h := ih (i + 1) (by omega) (by omega)
          rw [sumN_s] at h
          first
            | (rw [if_pos (by omega)] at h; exact h)
            | (rw [if_neg (by omega)] at h; exact h)
        · refine r_iconst C d_Md_told_113 ?_
          refine r_goto (tgt := 118) C d_Md_told_114 (by decide) ?_
          refine r_iadd C d_Md_told_118 ?_
          refine r_istore_3 C d_Md_told_119 ?_
          refine r_iinc_4 C d_Md_told_120 ?_
          refine r_goto (tgt := 92) C d_Md_told_123 (by decide) ?_
          have h := ih (i + 1) (by omega) (by omega)
          rw [sumN_s] at h
          first
            | (rw [if_pos (by omega)] at h; exact h)
            | (rw [if_neg (by omega)] at h; exact h)
  refine r_aload_n C d_Md_told_0 rfl ?_
  refine r_iload_n C d_Md_told_1 rfl ?_
  refine r_cV1r C (k_Md_isJob hB (by first | assumption | exact ir_mk (by omega) (by omega))) (by decide) (by decide) ml_Md_138 mn_Md_isJob ms_Md_isJob mc_Md_isJob mi_Md_isJob md_Md_isJob (by decide) zMd rfl rfl (Nat.le_of_ble_eq_true rfl) d_Md_told_2 ?_
  refine r_if_ne (tgt := 11) C d_Md_told_5 (by decide) (by first | assumption | exact bd_ir (by assumption) rfl | exact b2i_ir _ | exact pb_ir _ | exact ir_mk (by omega) (by omega)) (fun c5 => ?_) (fun c5 => ?_)
  · try have k5 := b2i_ne c5
    refine r_iload_n C d_Md_told_11 rfl ?_
    by_cases q12_0 : w = 0
    · refine r_tabIn (tgt := 52) C d_Md_told_12 (by first | assumption | exact ir_mk (by omega) (by omega)) (by omega) (by omega) (by rw [q12_0]; rfl) (by decide) ?_
      refine r_aload_n C d_Md_told_52 rfl ?_
      refine g_Md_state C lk_Md_51 d_Md_told_53 ?_
      refine r_iload_n C d_Md_told_56 rfl ?_
      refine x_Md_state C j.toNat (by omega) (by omega) d_Md_told_57 ?_
      exact R d_Md_told_58 (by unfold tdM; (repeat' split) <;> omega) rfl
    by_cases q12_1 : w = 1
    · refine r_tabIn (tgt := 59) C d_Md_told_12 (by first | assumption | exact ir_mk (by omega) (by omega)) (by omega) (by omega) (by rw [q12_1]; rfl) (by decide) ?_
      refine r_aload_n C d_Md_told_59 rfl ?_
      refine g_Md_began C lk_Md_54 d_Md_told_60 ?_
      refine r_iload_n C d_Md_told_63 rfl ?_
      refine x_Md_began C j.toNat (by omega) (by omega) d_Md_told_64 ?_
      exact R d_Md_told_65 (by unfold tdM; (repeat' split) <;> omega) rfl
    by_cases q12_2 : w = 2
    · refine r_tabIn (tgt := 66) C d_Md_told_12 (by first | assumption | exact ir_mk (by omega) (by omega)) (by omega) (by omega) (by rw [q12_2]; rfl) (by decide) ?_
      refine r_aload_n C d_Md_told_66 rfl ?_
      refine g_Md_ended C lk_Md_57 d_Md_told_67 ?_
      refine r_iload_n C d_Md_told_70 rfl ?_
      refine x_Md_ended C j.toNat (by omega) (by omega) d_Md_told_71 ?_
      exact R d_Md_told_72 (by unfold tdM; (repeat' split) <;> omega) rfl
    by_cases q12_3 : w = 3
    · refine r_tabIn (tgt := 73) C d_Md_told_12 (by first | assumption | exact ir_mk (by omega) (by omega)) (by omega) (by omega) (by rw [q12_3]; rfl) (by decide) ?_
      refine r_aload_n C d_Md_told_73 rfl ?_
      refine g_Md_saved C lk_Md_60 d_Md_told_74 ?_
      refine r_iload_n C d_Md_told_77 rfl ?_
      refine x_Md_saved C j.toNat (by omega) (by omega) d_Md_told_78 ?_
      exact R d_Md_told_79 (by unfold tdM; (repeat' split) <;> omega) rfl
    by_cases q12_4 : w = 4
    · refine r_tabIn (tgt := 80) C d_Md_told_12 (by first | assumption | exact ir_mk (by omega) (by omega)) (by omega) (by omega) (by rw [q12_4]; rfl) (by decide) ?_
      refine r_aload_n C d_Md_told_80 rfl ?_
      refine g_Md_ran C lk_Md_63 d_Md_told_81 ?_
      refine r_iload_n C d_Md_told_84 rfl ?_
      refine x_Md_ran C j.toNat (by omega) (by omega) d_Md_told_85 ?_
      exact R d_Md_told_86 (by unfold tdM; (repeat' split) <;> omega) rfl
    by_cases q12_5 : w = 5
    · refine r_tabIn (tgt := 87) C d_Md_told_12 (by first | assumption | exact ir_mk (by omega) (by omega)) (by omega) (by omega) (by rw [q12_5]; rfl) (by decide) ?_
      refine r_iconst C d_Md_told_87 ?_
      refine r_istore_3 C d_Md_told_88 ?_
      refine r_iconst C d_Md_told_89 ?_
      refine r_istore_4 C d_Md_told_90 ?_
      exact hl j.toNat (by omega) (by omega) (by omega) q12_5 5 0 (by omega) (by omega)
    refine r_tabOut (tgt := 128) C d_Md_told_12 (by first | assumption | exact ir_mk (by omega) (by omega)) (by omega) (by decide) ?_
    refine r_bipush C d_Md_told_128 (by decide) ?_
    exact R d_Md_told_130 (by unfold tdM; (repeat' split) <;> omega) rfl
  · try have k5 := b2i_nn c5
    refine r_bipush C d_Md_told_8 (by decide) ?_
    exact R d_Md_told_10 (by unfold tdM; (repeat' split) <;> omega) rfl
theorem k_Md_on {l : Launch} {E : Ew} {S0 : WW} {t : TT} (hB : Bd t) {j r : Int} (hj : ir j) (hr : ir r) : Kf l y_Md_on b_Md_on 3 (some .int) 2 E (sm S0 2 t) [rf E 1, iv j, iv r] (some (iv (if (0 ≤ j ∧ j < t 2 0) ∧ (0 ≤ r ∧ r < t 0 0) then t 30 (4 * j.toNat + r.toNat) else -2))) (sm S0 2 (t)) := by
  refine KfI rfl rfl (Nat.le_of_ble_eq_true rfl) (fun g C R => ?_)
  show g (sm S0 2 t) 0 [some (rf E 1), some (iv j), some (iv r)] []
  have b0 := bd0 hB 0
  have b2 := bd2 hB 0
  refine r_aload_n C d_Md_on_0 rfl ?_
  refine r_iload_n C d_Md_on_1 rfl ?_
  refine r_cV1r C (k_Md_isJob hB (by first | assumption | exact ir_mk (by omega) (by omega))) (by decide) (by decide) ml_Md_138 mn_Md_isJob ms_Md_isJob mc_Md_isJob mi_Md_isJob md_Md_isJob (by decide) zMd rfl rfl (Nat.le_of_ble_eq_true rfl) d_Md_on_2 ?_
  refine r_if_eq (tgt := 29) C d_Md_on_5 (by decide) (by first | assumption | exact bd_ir (by assumption) rfl | exact b2i_ir _ | exact pb_ir _ | exact ir_mk (by omega) (by omega)) (fun c5 => ?_) (fun c5 => ?_)
  · try have k5 := b2i_eq c5
    refine r_bipush C d_Md_on_29 (by decide) ?_
    exact R d_Md_on_31 (by (repeat' split) <;> omega) rfl
  · try have k5 := b2i_ne c5
    refine r_aload_n C d_Md_on_8 rfl ?_
    refine r_iload_n C d_Md_on_9 rfl ?_
    refine r_cV1r C (k_Md_isRack hB (by first | assumption | exact ir_mk (by omega) (by omega))) (by decide) (by decide) ml_Md_127 mn_Md_isRack ms_Md_isRack mc_Md_isRack mi_Md_isRack md_Md_isRack (by decide) zMd rfl rfl (Nat.le_of_ble_eq_true rfl) d_Md_on_10 ?_
    refine r_if_eq (tgt := 29) C d_Md_on_13 (by decide) (by first | assumption | exact bd_ir (by assumption) rfl | exact b2i_ir _ | exact pb_ir _ | exact ir_mk (by omega) (by omega)) (fun c13 => ?_) (fun c13 => ?_)
    · try have k13 := b2i_eq c13
      refine r_bipush C d_Md_on_29 (by decide) ?_
      exact R d_Md_on_31 (by (repeat' split) <;> omega) rfl
    · try have k13 := b2i_ne c13
      refine r_aload_n C d_Md_on_16 rfl ?_
      refine g_Md_on C lk_Md_69 d_Md_on_17 ?_
      refine r_iconst C d_Md_on_20 ?_
      refine r_iload_n C d_Md_on_21 rfl ?_
      refine r_imul C d_Md_on_22 ?_
      refine r_iload_n C d_Md_on_23 rfl ?_
      refine r_iadd C d_Md_on_24 ?_
      refine x_Md_on C (4 * j.toNat + r.toNat) (by omega) (by omega) d_Md_on_25 ?_
      refine r_goto (tgt := 31) C d_Md_on_26 (by decide) ?_
      exact R d_Md_on_31 (by (repeat' split) <;> omega) rfl
theorem k_Md_free {l : Launch} {E : Ew} {S0 : WW} {t : TT} (hB : Bd t) {r : Int} (hr : ir r) : Kf l y_Md_free b_Md_free 2 (some .int) 2 E (sm S0 2 t) [rf E 1, iv r] (some (iv (if 0 ≤ r ∧ r < t 0 0 then foF t r.toNat else -2))) (sm S0 2 (t)) := by
  refine KfI rfl rfl (Nat.le_of_ble_eq_true rfl) (fun g C R => ?_)
  show g (sm S0 2 t) 0 [some (rf E 1), some (iv r)] []
  have b0 := bd0 hB 0
  refine r_aload_n C d_Md_free_0 rfl ?_
  refine r_iload_n C d_Md_free_1 rfl ?_
  refine r_cV1r C (k_Md_isRack hB (by first | assumption | exact ir_mk (by omega) (by omega))) (by decide) (by decide) ml_Md_127 mn_Md_isRack ms_Md_isRack mc_Md_isRack mi_Md_isRack md_Md_isRack (by decide) zMd rfl rfl (Nat.le_of_ble_eq_true rfl) d_Md_free_2 ?_
  refine r_if_eq (tgt := 16) C d_Md_free_5 (by decide) (by first | assumption | exact bd_ir (by assumption) rfl | exact b2i_ir _ | exact pb_ir _ | exact ir_mk (by omega) (by omega)) (fun c5 => ?_) (fun c5 => ?_)
  · try have k5 := b2i_eq c5
    refine r_bipush C d_Md_free_16 (by decide) ?_
    exact R d_Md_free_18 (by (repeat' split) <;> omega) rfl
  · try have k5 := b2i_ne c5
    refine r_aload_n C d_Md_free_8 rfl ?_
    refine r_iload_n C d_Md_free_9 rfl ?_
    refine g_st (show iv r = iv ((r.toNat : Nat) : Int) by rw [Int.toNat_of_nonneg (by omega)]) ?_
    refine r_cV1r C (k_Md_freeOn hB (r := r.toNat) (by omega)) (by decide) (by decide) ml_Md_168 mn_Md_freeOn ms_Md_freeOn mc_Md_freeOn mi_Md_freeOn md_Md_freeOn (by decide) zMd rfl rfl (Nat.le_of_ble_eq_true rfl) d_Md_free_10 ?_
    refine r_goto (tgt := 18) C d_Md_free_13 (by decide) ?_
    exact R d_Md_free_18 (by (repeat' split) <;> omega) rfl
theorem k_Md_used {l : Launch} {E : Ew} {S0 : WW} {t : TT} (hB : Bd t) {a : Int} (ha : ir a) : Kf l y_Md_used b_Md_used 2 (some .int) 1 E (sm S0 2 t) [rf E 1, iv a] (some (iv (if 0 ≤ a ∧ a < t 1 0 then t 16 a.toNat else -2))) (sm S0 2 (t)) := by
  refine KfI rfl rfl (Nat.le_of_ble_eq_true rfl) (fun g C R => ?_)
  show g (sm S0 2 t) 0 [some (rf E 1), some (iv a)] []
  have b1 := bd1 hB 0
  refine r_iload_n C d_Md_used_0 rfl ?_
  refine r_iconst C d_Md_used_1 ?_
  refine r_aload_n C d_Md_used_2 rfl ?_
  refine g_Md_accounts C lk_Md_135 d_Md_used_3 ?_
  refine r_iconst C d_Md_used_6 ?_
  refine r_isub C d_Md_used_7 ?_
  refine r_cS3r C (k_Md_in (by first | assumption | exact ir_mk (by omega) (by omega)) (by first | assumption | exact ir_mk (by omega) (by omega)) (by first | assumption | exact ir_mk (by omega) (by omega))) (by decide) (by decide) ml_Md_120 mt_Md_in mc_Md_in mi_Md_in md_Md_in (Nat.le_of_ble_eq_true rfl) d_Md_used_8 ?_
  refine r_if_eq (tgt := 23) C d_Md_used_11 (by decide) (by first | assumption | exact bd_ir (by assumption) rfl | exact b2i_ir _ | exact pb_ir _ | exact ir_mk (by omega) (by omega)) (fun c11 => ?_) (fun c11 => ?_)
  · try have k11 := b2i_eq c11
    refine r_bipush C d_Md_used_23 (by decide) ?_
    exact R d_Md_used_25 (by (repeat' split) <;> omega) rfl
  · try have k11 := b2i_ne c11
    refine r_aload_n C d_Md_used_14 rfl ?_
    refine g_Md_used C lk_Md_27 d_Md_used_15 ?_
    refine r_iload_n C d_Md_used_18 rfl ?_
    refine x_Md_used C a.toNat (by omega) (by omega) d_Md_used_19 ?_
    refine r_goto (tgt := 25) C d_Md_used_20 (by decide) ?_
    exact R d_Md_used_25 (by (repeat' split) <;> omega) rfl
theorem k_Md_blocked {l : Launch} {E : Ew} {S0 : WW} {t : TT} (hB : Bd t) {w : Int} (hw : ir w) : Kf l y_Md_blocked b_Md_blocked 2 (some .int) 0 E (sm S0 2 t) [rf E 1, iv w] (some (iv (if w = 0 then t 8 0 else if w = 1 then t 9 0 else -3))) (sm S0 2 (t)) := by
  refine KfI rfl rfl (Nat.le_of_ble_eq_true rfl) (fun g C R => ?_)
  show g (sm S0 2 t) 0 [some (rf E 1), some (iv w)] []
  refine r_iload_n C d_Md_blocked_0 rfl ?_
  refine r_if_ne (tgt := 11) C d_Md_blocked_1 (by decide) (by first | assumption | exact bd_ir (by assumption) rfl | exact b2i_ir _ | exact pb_ir _ | exact ir_mk (by omega) (by omega)) (fun c1 => ?_) (fun c1 => ?_)
  · try have k1 := b2i_ne c1
    refine r_iload_n C d_Md_blocked_11 rfl ?_
    refine r_iconst C d_Md_blocked_12 ?_
    refine r_icmp_ne (tgt := 23) C d_Md_blocked_13 (by decide) (by first | assumption | exact bd_ir (by assumption) rfl | exact b2i_ir _ | exact pb_ir _ | exact ir_mk (by omega) (by omega)) (by first | assumption | exact bd_ir (by assumption) rfl | exact b2i_ir _ | exact pb_ir _ | exact ir_mk (by omega) (by omega)) (fun c13 => ?_) (fun c13 => ?_)
    · refine r_bipush C d_Md_blocked_23 (by decide) ?_
      exact R d_Md_blocked_25 (by (repeat' split) <;> omega) rfl
    · refine r_aload_n C d_Md_blocked_16 rfl ?_
      refine g_Md_kept C lk_Md_84 d_Md_blocked_17 ?_
      refine r_goto (tgt := 25) C d_Md_blocked_20 (by decide) ?_
      exact R d_Md_blocked_25 (by (repeat' split) <;> omega) rfl
  · try have k1 := b2i_nn c1
    refine r_aload_n C d_Md_blocked_4 rfl ?_
    refine g_Md_blocked C lk_Md_81 d_Md_blocked_5 ?_
    refine r_goto (tgt := 25) C d_Md_blocked_8 (by decide) ?_
    exact R d_Md_blocked_25 (by (repeat' split) <;> omega) rfl
theorem k_Md_taken {l : Launch} {E : Ew} {S0 : WW} {t : TT} (hB : Bd t) {w u : Int} (hw : ir w) (hu : ir u) (h8 : t 3 0 ≤ 8) : Kf l y_Md_taken b_Md_taken 3 (some .int) 2 E (sm S0 2 t) [rf E 1, iv w, iv u] (some (iv (if (w < 0 ∨ 1 < w) ∨ (u < t 4 0 ∨ t 4 0 + 300 < u) then -3 else if w = 0 then tnM t u else tlM t u (t 2 0).toNat))) (sm S0 2 (t)) := by
  refine KfI rfl rfl (Nat.le_of_ble_eq_true rfl) (fun g C R => ?_)
  show g (sm S0 2 t) 0 [some (rf E 1), some (iv w), some (iv u)] []
  have b4 := bd4 hB 0
  refine r_iload_n C d_Md_taken_0 rfl ?_
  refine r_iconst C d_Md_taken_1 ?_
  refine r_iconst C d_Md_taken_2 ?_
  refine r_cS3r C (k_Md_in (by first | assumption | exact ir_mk (by omega) (by omega)) (by first | assumption | exact ir_mk (by omega) (by omega)) (by first | assumption | exact ir_mk (by omega) (by omega))) (by decide) (by decide) ml_Md_120 mt_Md_in mc_Md_in mi_Md_in md_Md_in (Nat.le_of_ble_eq_true rfl) d_Md_taken_3 ?_
  refine r_if_eq (tgt := 28) C d_Md_taken_6 (by decide) (by first | assumption | exact bd_ir (by assumption) rfl | exact b2i_ir _ | exact pb_ir _ | exact ir_mk (by omega) (by omega)) (fun c6 => ?_) (fun c6 => ?_)
  · try have k6 := b2i_eq c6
    refine r_bipush C d_Md_taken_28 (by decide) ?_
    exact R d_Md_taken_30 (by (repeat' split) <;> omega) rfl
  · try have k6 := b2i_ne c6
    refine r_iload_n C d_Md_taken_9 rfl ?_
    refine r_aload_n C d_Md_taken_10 rfl ?_
    refine g_Md_time C lk_Md_148 d_Md_taken_11 ?_
    refine r_aload_n C d_Md_taken_14 rfl ?_
    refine g_Md_time C lk_Md_148 d_Md_taken_15 ?_
    refine r_sipush C d_Md_taken_18 (by decide) ?_
    refine r_iadd C d_Md_taken_21 ?_
    refine r_cS3r C (k_Md_in (by first | assumption | exact ir_mk (by omega) (by omega)) (by first | assumption | exact ir_mk (by omega) (by omega)) (by first | assumption | exact ir_mk (by omega) (by omega))) (by decide) (by decide) ml_Md_120 mt_Md_in mc_Md_in mi_Md_in md_Md_in (Nat.le_of_ble_eq_true rfl) d_Md_taken_22 ?_
    refine r_if_ne (tgt := 31) C d_Md_taken_25 (by decide) (by first | assumption | exact bd_ir (by assumption) rfl | exact b2i_ir _ | exact pb_ir _ | exact ir_mk (by omega) (by omega)) (fun c25 => ?_) (fun c25 => ?_)
    · try have k25 := b2i_ne c25
      refine r_iload_n C d_Md_taken_31 rfl ?_
      refine r_if_ne (tgt := 43) C d_Md_taken_32 (by decide) (by first | assumption | exact bd_ir (by assumption) rfl | exact b2i_ir _ | exact pb_ir _ | exact ir_mk (by omega) (by omega)) (fun c32 => ?_) (fun c32 => ?_)
      · try have k32 := b2i_ne c32
        refine r_aload_n C d_Md_taken_43 rfl ?_
        refine r_iload_n C d_Md_taken_44 rfl ?_
        refine r_cV1r C (k_Md_takenLicences hB hu) (by decide) (by decide) ml_Md_197 mn_Md_takenLicences ms_Md_takenLicences mc_Md_takenLicences mi_Md_takenLicences md_Md_takenLicences (by decide) zMd rfl rfl (Nat.le_of_ble_eq_true rfl) d_Md_taken_45 ?_
        exact R d_Md_taken_48 (by (repeat' split) <;> omega) rfl
      · try have k32 := b2i_nn c32
        refine r_aload_n C d_Md_taken_35 rfl ?_
        refine r_iload_n C d_Md_taken_36 rfl ?_
        refine r_cV1r C (k_Md_takenNodes hB h8 hu) (by decide) (by decide) ml_Md_155 mn_Md_takenNodes ms_Md_takenNodes mc_Md_takenNodes mi_Md_takenNodes md_Md_takenNodes (by decide) zMd rfl rfl (Nat.le_of_ble_eq_true rfl) d_Md_taken_37 ?_
        refine r_goto (tgt := 48) C d_Md_taken_40 (by decide) ?_
        exact R d_Md_taken_48 (by (repeat' split) <;> omega) rfl
    · try have k25 := b2i_nn c25
      refine r_bipush C d_Md_taken_28 (by decide) ?_
      exact R d_Md_taken_30 (by (repeat' split) <;> omega) rfl
def mjF (t : TT) (s : Int) (n : Nat) : Int := sumN (fun j => if t 24 j = s then 1 else 0) n
theorem mjF_s (t : TT) (s : Int) (n : Nat) : mjF t s (n + 1) = mjF t s n + if t 24 n = s then 1 else 0 := rfl
def ctM (t : TT) (w : Int) : Int := if w = 0 then t 0 0 else if w = 1 then t 1 0 else if w = 2 then t 2 0 else if w = 3 then mjF t 1 (t 2 0).toNat else if w = 4 then mjF t 2 (t 2 0).toNat else if w = 5 then t 3 0 else if w = 6 then t 4 0 else if w = 7 then roomF t (t 0 0).toNat else -3
theorem k_Md_count {l : Launch} {E : Ew} {S0 : WW} {t : TT} (hB : Bd t) {w : Int} (hw : ir w) : Kf l y_Md_count b_Md_count 4 (some .int) 1 E (sm S0 2 t) [rf E 1, iv w] (some (iv (ctM t w))) (sm S0 2 (t)) := by
  refine KfI rfl rfl (Nat.le_of_ble_eq_true rfl) (fun g C R => ?_)
  show g (sm S0 2 t) 0 [some (rf E 1), some (iv w), none, none] []
  have b2 := bd2 hB 0
  have hl65 : w = 3 → ∀ (k i : Nat), i ≤ (t 2 0).toNat → (t 2 0).toNat - i < k → g (sm S0 2 t) 65 [some (rf E 1), some (iv w), some (iv (mjF t 1 i)), some (iv (i : Int))] [] := by
    intro hw3 k
    induction k with
    | zero => intro i h1 h2; omega
    | succ k ih =>
      intro i h1 h2
      refine r_iload_n C d_Md_count_65 rfl ?_
      refine r_aload_n C d_Md_count_66 rfl ?_
      refine g_Md_jobs C lk_Md_124 d_Md_count_67 ?_
      refine r_icmp_ge (tgt := 97) C d_Md_count_70 (by decide) (by first | assumption | exact bd_ir (by assumption) rfl | exact b2i_ir _ | exact pb_ir _ | exact ir_mk (by omega) (by omega)) (by first | assumption | exact bd_ir (by assumption) rfl | exact b2i_ir _ | exact pb_ir _ | exact ir_mk (by omega) (by omega)) (fun c70 => ?_) (fun c70 => ?_)
      · refine r_iload_n C d_Md_count_97 rfl ?_
        exact R d_Md_count_98 (by unfold ctM; (repeat' split) <;> first | omega | (rw [show i = (t 2 0).toNat by omega])) rfl
      · refine r_iload_n C d_Md_count_73 rfl ?_
        refine r_aload_n C d_Md_count_74 rfl ?_
        refine g_Md_state C lk_Md_51 d_Md_count_75 ?_
        refine r_iload_n C d_Md_count_78 rfl ?_
        refine x_Md_state C _ rfl (by omega) d_Md_count_79 ?_
        refine r_iconst C d_Md_count_80 ?_
        refine r_icmp_ne (tgt := 88) C d_Md_count_81 (by decide) (by first | assumption | exact bd_ir (by assumption) rfl | exact b2i_ir _ | exact pb_ir _ | exact ir_mk (by omega) (by omega)) (by first | assumption | exact bd_ir (by assumption) rfl | exact b2i_ir _ | exact pb_ir _ | exact ir_mk (by omega) (by omega)) (fun c81 => ?_) (fun c81 => ?_)
        · refine r_iconst C d_Md_count_88 ?_
          refine r_iadd C d_Md_count_89 ?_
          refine r_istore_2 C d_Md_count_90 ?_
          refine r_iinc_3 C d_Md_count_91 ?_
          refine r_goto (tgt := 65) C d_Md_count_94 (by decide) ?_
          have h := ih (i + 1) (by omega) (by omega)
          rw [mjF_s] at h
          first
            | (rw [if_pos (by omega)] at h; exact h)
            | (rw [if_neg (by omega)] at h; exact h)
        · refine r_iconst C d_Md_count_84 ?_
          refine r_goto (tgt := 89) C d_Md_count_85 (by decide) ?_
          refine r_iadd C d_Md_count_89 ?_
          refine r_istore_2 C d_Md_count_90 ?_
          refine r_iinc_3 C d_Md_count_91 ?_
          refine r_goto (tgt := 65) C d_Md_count_94 (by decide) ?_
          have h := ih (i + 1) (by omega) (by omega)
          rw [mjF_s] at h
          first
            | (rw [if_pos (by omega)] at h; exact h)
            | (rw [if_neg (by omega)] at h; exact h)
  have hl101 : w = 4 → ∀ (k i : Nat), i ≤ (t 2 0).toNat → (t 2 0).toNat - i < k → g (sm S0 2 t) 101 [some (rf E 1), some (iv w), some (iv (mjF t 2 i)), some (iv (i : Int))] [] := by
    intro hw3 k
    induction k with
    | zero => intro i h1 h2; omega
    | succ k ih =>
      intro i h1 h2
      refine r_iload_n C d_Md_count_101 rfl ?_
      refine r_aload_n C d_Md_count_102 rfl ?_
      refine g_Md_jobs C lk_Md_124 d_Md_count_103 ?_
      refine r_icmp_ge (tgt := 133) C d_Md_count_106 (by decide) (by first | assumption | exact bd_ir (by assumption) rfl | exact b2i_ir _ | exact pb_ir _ | exact ir_mk (by omega) (by omega)) (by first | assumption | exact bd_ir (by assumption) rfl | exact b2i_ir _ | exact pb_ir _ | exact ir_mk (by omega) (by omega)) (fun c106 => ?_) (fun c106 => ?_)
      · refine r_iload_n C d_Md_count_133 rfl ?_
        exact R d_Md_count_134 (by unfold ctM; (repeat' split) <;> first | omega | (rw [show i = (t 2 0).toNat by omega])) rfl
      · refine r_iload_n C d_Md_count_109 rfl ?_
        refine r_aload_n C d_Md_count_110 rfl ?_
        refine g_Md_state C lk_Md_51 d_Md_count_111 ?_
        refine r_iload_n C d_Md_count_114 rfl ?_
        refine x_Md_state C _ rfl (by omega) d_Md_count_115 ?_
        refine r_iconst C d_Md_count_116 ?_
        refine r_icmp_ne (tgt := 124) C d_Md_count_117 (by decide) (by first | assumption | exact bd_ir (by assumption) rfl | exact b2i_ir _ | exact pb_ir _ | exact ir_mk (by omega) (by omega)) (by first | assumption | exact bd_ir (by assumption) rfl | exact b2i_ir _ | exact pb_ir _ | exact ir_mk (by omega) (by omega)) (fun c117 => ?_) (fun c117 => ?_)
        · refine r_iconst C d_Md_count_124 ?_
          refine r_iadd C d_Md_count_125 ?_
          refine r_istore_2 C d_Md_count_126 ?_
          refine r_iinc_3 C d_Md_count_127 ?_
          refine r_goto (tgt := 101) C d_Md_count_130 (by decide) ?_
          have h := ih (i + 1) (by omega) (by omega)
          rw [mjF_s] at h
          first
            | (rw [if_pos (by omega)] at h; exact h)
            | (rw [if_neg (by omega)] at h; exact h)
        · refine r_iconst C d_Md_count_120 ?_
          refine r_goto (tgt := 125) C d_Md_count_121 (by decide) ?_
          refine r_iadd C d_Md_count_125 ?_
          refine r_istore_2 C d_Md_count_126 ?_
          refine r_iinc_3 C d_Md_count_127 ?_
          refine r_goto (tgt := 101) C d_Md_count_130 (by decide) ?_
          have h := ih (i + 1) (by omega) (by omega)
          rw [mjF_s] at h
          first
            | (rw [if_pos (by omega)] at h; exact h)
            | (rw [if_neg (by omega)] at h; exact h)
  refine r_iconst C d_Md_count_0 ?_
  refine r_istore_2 C d_Md_count_1 ?_
  refine r_iload_n C d_Md_count_2 rfl ?_
  by_cases q3_0 : w = 0
  · refine r_tabIn (tgt := 48) C d_Md_count_3 (by first | assumption | exact ir_mk (by omega) (by omega)) (by omega) (by omega) (by rw [q3_0]; rfl) (by decide) ?_
    refine r_aload_n C d_Md_count_48 rfl ?_
    refine g_Md_racks C lk_Md_117 d_Md_count_49 ?_
    exact R d_Md_count_52 (by unfold ctM; (repeat' split) <;> omega) rfl
  by_cases q3_1 : w = 1
  · refine r_tabIn (tgt := 53) C d_Md_count_3 (by first | assumption | exact ir_mk (by omega) (by omega)) (by omega) (by omega) (by rw [q3_1]; rfl) (by decide) ?_
    refine r_aload_n C d_Md_count_53 rfl ?_
    refine g_Md_accounts C lk_Md_135 d_Md_count_54 ?_
    exact R d_Md_count_57 (by unfold ctM; (repeat' split) <;> omega) rfl
  by_cases q3_2 : w = 2
  · refine r_tabIn (tgt := 58) C d_Md_count_3 (by first | assumption | exact ir_mk (by omega) (by omega)) (by omega) (by omega) (by rw [q3_2]; rfl) (by decide) ?_
    refine r_aload_n C d_Md_count_58 rfl ?_
    refine g_Md_jobs C lk_Md_124 d_Md_count_59 ?_
    exact R d_Md_count_62 (by unfold ctM; (repeat' split) <;> omega) rfl
  by_cases q3_3 : w = 3
  · refine r_tabIn (tgt := 63) C d_Md_count_3 (by first | assumption | exact ir_mk (by omega) (by omega)) (by omega) (by omega) (by rw [q3_3]; rfl) (by decide) ?_
    refine r_iconst C d_Md_count_63 ?_
    refine r_istore_3 C d_Md_count_64 ?_
    exact hl65 q3_3 ((t 2 0).toNat + 1) 0 (by omega) (by omega)
  by_cases q3_4 : w = 4
  · refine r_tabIn (tgt := 99) C d_Md_count_3 (by first | assumption | exact ir_mk (by omega) (by omega)) (by omega) (by omega) (by rw [q3_4]; rfl) (by decide) ?_
    refine r_iconst C d_Md_count_99 ?_
    refine r_istore_3 C d_Md_count_100 ?_
    exact hl101 q3_4 ((t 2 0).toNat + 1) 0 (by omega) (by omega)
  by_cases q3_5 : w = 5
  · refine r_tabIn (tgt := 135) C d_Md_count_3 (by first | assumption | exact ir_mk (by omega) (by omega)) (by omega) (by omega) (by rw [q3_5]; rfl) (by decide) ?_
    refine r_aload_n C d_Md_count_135 rfl ?_
    refine g_Md_bookings C lk_Md_145 d_Md_count_136 ?_
    exact R d_Md_count_139 (by unfold ctM; (repeat' split) <;> omega) rfl
  by_cases q3_6 : w = 6
  · refine r_tabIn (tgt := 140) C d_Md_count_3 (by first | assumption | exact ir_mk (by omega) (by omega)) (by omega) (by omega) (by rw [q3_6]; rfl) (by decide) ?_
    refine r_aload_n C d_Md_count_140 rfl ?_
    refine g_Md_time C lk_Md_148 d_Md_count_141 ?_
    exact R d_Md_count_144 (by unfold ctM; (repeat' split) <;> omega) rfl
  by_cases q3_7 : w = 7
  · refine r_tabIn (tgt := 145) C d_Md_count_3 (by first | assumption | exact ir_mk (by omega) (by omega)) (by omega) (by omega) (by rw [q3_7]; rfl) (by decide) ?_
    refine r_aload_n C d_Md_count_145 rfl ?_
    refine r_cV0r C (k_Md_room hB) (by decide) (by decide) ml_Md_151 mn_Md_room ms_Md_room mc_Md_room mi_Md_room md_Md_room (by decide) zMd rfl rfl (Nat.le_of_ble_eq_true rfl) d_Md_count_146 ?_
    exact R d_Md_count_149 (by unfold ctM; (repeat' split) <;> omega) rfl
  refine r_tabOut (tgt := 150) C d_Md_count_3 (by first | assumption | exact ir_mk (by omega) (by omega)) (by omega) (by decide) ?_
  refine r_bipush C d_Md_count_150 (by decide) ?_
  exact R d_Md_count_152 (by unfold ctM; (repeat' split) <;> omega) rfl
