def moM (t : TT) (u : Int) (wk : Prop) : Prop := wk ∧ t 9 0 ≠ -1 ∧ t 9 0 ≤ u ∧ u < t 9 0 + t 37 0
noncomputable def mrM (t : TT) (f : Nat) (u : Int) (wk : Prop) : Int := pif (moM t u wk) (t f (t 8 0).toNat) 0
def okM (t : TT) (j : Nat) (u : Int) (wk : Prop) : Prop := t 39 (u - t 4 0).toNat + t 18 j + mrM t 18 u wk ≤ t 48 0 ∧ t 40 (u - t 4 0).toNat + t 19 j + mrM t 19 u wk ≤ t 6 0
def mfN (t : TT) (j : Nat) (s : Int) (wk : Prop) (n : Nat) : Prop := ∀ d : Nat, d < n → okM t j (s + d) wk
def mfP (t : TT) (j : Nat) (s : Int) (wk : Prop) : Prop := mfN t j s wk (t 20 j - t 27 j).toNat
theorem mfN_s {t : TT} {j : Nat} {s : Int} {wk : Prop} {n : Nat} : mfN t j s wk (n + 1) ↔ mfN t j s wk n ∧ okM t j (s + n) wk := by
  unfold mfN
  constructor
  · intro h; exact ⟨fun d hd => h d (by omega), h n (by omega)⟩
  · rintro ⟨h1, h2⟩ d hd
    by_cases q : d = n
    · subst q; exact h2
    · exact h1 d (by omega)
theorem mfN_stop {t : TT} {j : Nat} {s : Int} {wk : Prop} {i n : Nat} (h : pb (mfN t j s wk i) = 0) (hi : i ≤ n) : pb (mfN t j s wk i) = pb (mfN t j s wk n) := by
  rw [h]
  exact (pb_f (fun q => pb_0.mp h (fun d hd => q d (by omega)))).symm
theorem k_Md_fits {l : Launch} {E : Ew} {S0 : WW} {t : TT} (hB : Bd t) {j : Nat} (hj : j < 30) {s w : Int} {wk : Prop} (hw : w = pb wk) (hs : t 4 0 ≤ s ∧ s ≤ t 4 0 + 200) (hw8 : wk → 0 ≤ t 8 0) : Kf l y_Md_fits b_Md_fits 9 (some .boolean) 1 E (sm S0 2 t) [rf E 1, iv (j : Int), iv s, iv w] (some (iv (pb (mfP t j s wk)))) (sm S0 2 t) := by
  refine KfZ rfl rfl (Nat.le_of_ble_eq_true rfl) (fun g C R => ?_)
  show g (sm S0 2 t) 0 [some (rf E 1), some (iv (j : Int)), some (iv s), some (iv w), none, none, none, none, none] []
  have b4 := bd4 hB 0
  have b8 := bd8 hB 0
  have b9 := bd9 hB 0
  have b37 := bd37 hB 0
  have b48 := bd48 hB 0
  have b6 := bd6 hB 0
  have b18 := bd18 hB j
  have b19 := bd19 hB j
  have b20 := bd20 hB j
  have b27 := bd27 hB j
  have c18 := bd18 hB (t 8 0).toNat
  have c19 := bd19 hB (t 8 0).toNat
  have hw01 := pb_01 wk
  rw [← hw] at hw01
  have hl : ∀ (k i : Nat) (X Y Z : Option Value), i ≤ (t 20 j - t 27 j).toNat → (t 20 j - t 27 j).toNat - i < k → g (sm S0 2 t) 6 [some (rf E 1), some (iv (j : Int)), some (iv s), some (iv w), some (iv (pb (mfN t j s wk i))), some (iv (s + (i : Int))), X, Y, Z] [] := by
    intro k
    induction k with
    | zero => intro i X Y Z h1 h2; omega
    | succ k ih =>
      intro i X Y Z h1 h2
      refine r_iload C d_Md_fits_6 rfl ?_
      refine r_iload_n C d_Md_fits_8 rfl ?_
      refine r_aload_n C d_Md_fits_9 rfl ?_
      refine r_iload_n C d_Md_fits_10 rfl ?_
      refine r_cV1r C (k_Md_leftOf (j := j) hj) (by decide) (by decide) ml_Md_159 mn_Md_leftOf ms_Md_leftOf mc_Md_leftOf mi_Md_leftOf md_Md_leftOf (by decide) zMd rfl rfl (Nat.le_of_ble_eq_true rfl) d_Md_fits_11 ?_
      refine r_iadd C d_Md_fits_14 ?_
      refine r_icmp_ge (tgt := 176) C d_Md_fits_15 (by decide) (by first | assumption | exact bd_ir (by assumption) rfl | exact b2i_ir _ | exact pb_ir _ | exact ir_mk (by omega) (by omega)) (by first | assumption | exact bd_ir (by assumption) rfl | exact b2i_ir _ | exact pb_ir _ | exact ir_mk (by omega) (by omega)) (fun c15 => ?_) (fun c15 => ?_)
      · refine r_iload C d_Md_fits_176 rfl ?_
        exact R d_Md_fits_178 (pb_01 _) (by first | (unfold mfP; rw [show i = (t 20 j - t 27 j).toNat by omega]) | exact mfN_stop c20 h1) rfl
      · refine r_iload C d_Md_fits_18 rfl ?_
        refine r_if_eq (tgt := 176) C d_Md_fits_20 (by decide) (by first | assumption | exact bd_ir (by assumption) rfl | exact b2i_ir _ | exact pb_ir _ | exact ir_mk (by omega) (by omega)) (fun c20 => ?_) (fun c20 => ?_)
        · refine r_iload C d_Md_fits_176 rfl ?_
          exact R d_Md_fits_178 (pb_01 _) (by first | (unfold mfP; rw [show i = (t 20 j - t 27 j).toNat by omega]) | exact mfN_stop c20 h1) rfl
        · have n39 := bd39 hB (s + (i : Int) - t 4 0).toNat
          have n40 := bd40 hB (s + (i : Int) - t 4 0).toNat
          have hpw : ¬ w = 0 → wk := fun z => Classical.byContradiction (fun z2 => z (by rw [hw, pb_f z2]))
          have hpz : w = 0 → ¬ wk := fun z => pb_0.mp (by rw [← hw]; exact z)
          refine r_iload_n C d_Md_fits_23 rfl ?_
          refine r_if_eq (tgt := 62) C d_Md_fits_24 (by decide) (by first | assumption | exact bd_ir (by assumption) rfl | exact b2i_ir _ | exact pb_ir _ | exact ir_mk (by omega) (by omega)) (fun c24 => ?_) (fun c24 => ?_)
          · refine r_iconst C d_Md_fits_62 ?_
            refine r_istore_6 C d_Md_fits_63 ?_
            refine r_aload_n C d_Md_fits_65 rfl ?_
            refine g_Md_nodesAt C lk_Md_87 d_Md_fits_66 ?_
            refine r_iload C d_Md_fits_69 rfl ?_
            refine r_aload_n C d_Md_fits_71 rfl ?_
            refine g_Md_time C lk_Md_148 d_Md_fits_72 ?_
            refine r_isub C d_Md_fits_75 ?_
            refine x_Md_nodesAt C (s + (i : Int) - t 4 0).toNat (by omega) (by omega) d_Md_fits_76 ?_
            refine r_aload_n C d_Md_fits_77 rfl ?_
            refine g_Md_wants C lk_Md_33 d_Md_fits_78 ?_
            refine r_iload_n C d_Md_fits_81 rfl ?_
            refine x_Md_wants C _ rfl (by omega) d_Md_fits_82 ?_
            refine r_iadd C d_Md_fits_83 ?_
            refine r_iload C d_Md_fits_84 rfl ?_
            refine r_if_eq (tgt := 101) C d_Md_fits_86 (by decide) (ir_mk (by omega) (by omega)) (fun c86 => ?_) (fun c86 => ?_)
            · refine r_iconst C d_Md_fits_101 ?_
              refine r_iadd C d_Md_fits_102 ?_
              refine r_istore_7 C d_Md_fits_103 ?_
              refine r_aload_n C d_Md_fits_105 rfl ?_
              refine g_Md_licencesAt C lk_Md_90 d_Md_fits_106 ?_
              refine r_iload C d_Md_fits_109 rfl ?_
              refine r_aload_n C d_Md_fits_111 rfl ?_
              refine g_Md_time C lk_Md_148 d_Md_fits_112 ?_
              refine r_isub C d_Md_fits_115 ?_
              refine x_Md_licencesAt C (s + (i : Int) - t 4 0).toNat (by omega) (by omega) d_Md_fits_116 ?_
              refine r_aload_n C d_Md_fits_117 rfl ?_
              refine g_Md_needs C lk_Md_36 d_Md_fits_118 ?_
              refine r_iload_n C d_Md_fits_121 rfl ?_
              refine x_Md_needs C _ rfl (by omega) d_Md_fits_122 ?_
              refine r_iadd C d_Md_fits_123 ?_
              refine r_iload C d_Md_fits_124 rfl ?_
              refine r_if_eq (tgt := 141) C d_Md_fits_126 (by decide) (ir_mk (by omega) (by omega)) (fun c126 => ?_) (fun c126 => ?_)
              · refine r_iconst C d_Md_fits_141 ?_
                refine r_iadd C d_Md_fits_142 ?_
                refine r_istore_8 C d_Md_fits_143 ?_
                refine r_iload C d_Md_fits_145 rfl ?_
                refine r_aload_n C d_Md_fits_147 rfl ?_
                refine g_Md_roomNow C lk_Md_165 d_Md_fits_148 ?_
                
                refine r_icmp_gt (tgt := 167) C d_Md_fits_151 (by decide) (by first | assumption | exact bd_ir (by assumption) rfl | exact b2i_ir _ | exact pb_ir _ | exact ir_mk (by omega) (by omega)) (by first | assumption | exact bd_ir (by assumption) rfl | exact b2i_ir _ | exact pb_ir _ | exact ir_mk (by omega) (by omega)) (fun c151 => ?_) (fun c151 => ?_)
                · refine r_iconst C d_Md_fits_167 ?_
                  refine r_istore_4 C d_Md_fits_168 ?_
                  refine r_iinc_5 C d_Md_fits_170 ?_
                  refine r_goto (tgt := 6) C d_Md_fits_173 (by decide) ?_
                  have h := fun X Y Z => ih (i + 1) X Y Z (by omega) (by omega)
                  rw [show s + ((i + 1 : Nat) : Int) = s + (i : Int) + 1 by omega] at h
                  have e9 : pb (mfN t j s wk (i + 1)) = pb (okM t j (s + (i : Int)) wk) := pb_c ⟨fun q => (mfN_s.mp q).2, fun q => mfN_s.mpr ⟨Classical.byContradiction (fun z => c20 (pb_f z)), q⟩⟩
                  rw [e9] at h
                  have hm : (moM t (s + (i : Int)) wk ∧ mrM t 18 (s + (i : Int)) wk = t 18 (t 8 0).toNat ∧ mrM t 19 (s + (i : Int)) wk = t 19 (t 8 0).toNat) ∨ (¬ moM t (s + (i : Int)) wk ∧ mrM t 18 (s + (i : Int)) wk = 0 ∧ mrM t 19 (s + (i : Int)) wk = 0) := by
                    by_cases q : moM t (s + (i : Int)) wk
                    · exact Or.inl ⟨q, by unfold mrM; rw [pif_t q], by unfold mrM; rw [pif_t q]⟩
                    · exact Or.inr ⟨q, by unfold mrM; rw [pif_f q], by unfold mrM; rw [pif_f q]⟩
                  have hno : (w = 0 ∨ t 9 0 = -1 ∨ s + (i : Int) < t 9 0 ∨ t 9 0 + t 37 0 ≤ s + (i : Int)) → ¬ moM t (s + (i : Int)) wk := by
                    rintro (z | z | z | z) ⟨m1, m2, m3, m4⟩
                    · exact hpz z m1
                    · exact m2 z
                    · omega
                    · omega
                  have hyes : ¬ w = 0 → ¬ t 9 0 = -1 → ¬ s + (i : Int) < t 9 0 → ¬ t 9 0 + t 37 0 ≤ s + (i : Int) → moM t (s + (i : Int)) wk := fun z1 z2 z3 z4 => ⟨hpw z1, z2, by omega, by omega⟩
                  first
                    | (rw [show pb (okM t j (s + (i : Int)) wk) = 1 from pb_t (by
                          unfold okM
                          rcases hm with ⟨m0, m1, m2⟩ | ⟨m0, m1, m2⟩ <;> rw [m1, m2]
                          · first | exact ⟨by omega, by omega⟩ | exact absurd m0 (hno (by omega))
                          · first | exact ⟨by omega, by omega⟩ | exact absurd (hyes (by omega) (by omega) (by omega) (by omega)) m0)] at h
                       exact h _ _ _)
                    | (rw [show pb (okM t j (s + (i : Int)) wk) = 0 from pb_f (fun z => by
                          unfold okM at z
                          rcases hm with ⟨m0, m1, m2⟩ | ⟨m0, m1, m2⟩ <;> rw [m1, m2] at z
                          · first | exact absurd m0 (hno (by omega)) | omega
                          · first | exact absurd (hyes (by omega) (by omega) (by omega) (by omega)) m0 | omega)] at h
                       exact h _ _ _)
                · refine r_iload C d_Md_fits_154 rfl ?_
                  refine r_aload_n C d_Md_fits_156 rfl ?_
                  refine g_Md_allLicences C lk_Md_13 d_Md_fits_157 ?_
                  refine r_icmp_gt (tgt := 167) C d_Md_fits_160 (by decide) (by first | assumption | exact bd_ir (by assumption) rfl | exact b2i_ir _ | exact pb_ir _ | exact ir_mk (by omega) (by omega)) (by first | assumption | exact bd_ir (by assumption) rfl | exact b2i_ir _ | exact pb_ir _ | exact ir_mk (by omega) (by omega)) (fun c160 => ?_) (fun c160 => ?_)
                  · refine r_iconst C d_Md_fits_167 ?_
                    refine r_istore_4 C d_Md_fits_168 ?_
                    refine r_iinc_5 C d_Md_fits_170 ?_
                    refine r_goto (tgt := 6) C d_Md_fits_173 (by decide) ?_
                    have h := fun X Y Z => ih (i + 1) X Y Z (by omega) (by omega)
                    rw [show s + ((i + 1 : Nat) : Int) = s + (i : Int) + 1 by omega] at h
                    have e9 : pb (mfN t j s wk (i + 1)) = pb (okM t j (s + (i : Int)) wk) := pb_c ⟨fun q => (mfN_s.mp q).2, fun q => mfN_s.mpr ⟨Classical.byContradiction (fun z => c20 (pb_f z)), q⟩⟩
                    rw [e9] at h
                    have hm : (moM t (s + (i : Int)) wk ∧ mrM t 18 (s + (i : Int)) wk = t 18 (t 8 0).toNat ∧ mrM t 19 (s + (i : Int)) wk = t 19 (t 8 0).toNat) ∨ (¬ moM t (s + (i : Int)) wk ∧ mrM t 18 (s + (i : Int)) wk = 0 ∧ mrM t 19 (s + (i : Int)) wk = 0) := by
                      by_cases q : moM t (s + (i : Int)) wk
                      · exact Or.inl ⟨q, by unfold mrM; rw [pif_t q], by unfold mrM; rw [pif_t q]⟩
                      · exact Or.inr ⟨q, by unfold mrM; rw [pif_f q], by unfold mrM; rw [pif_f q]⟩
                    have hno : (w = 0 ∨ t 9 0 = -1 ∨ s + (i : Int) < t 9 0 ∨ t 9 0 + t 37 0 ≤ s + (i : Int)) → ¬ moM t (s + (i : Int)) wk := by
                      rintro (z | z | z | z) ⟨m1, m2, m3, m4⟩
                      · exact hpz z m1
                      · exact m2 z
                      · omega
                      · omega
                    have hyes : ¬ w = 0 → ¬ t 9 0 = -1 → ¬ s + (i : Int) < t 9 0 → ¬ t 9 0 + t 37 0 ≤ s + (i : Int) → moM t (s + (i : Int)) wk := fun z1 z2 z3 z4 => ⟨hpw z1, z2, by omega, by omega⟩
                    first
                      | (rw [show pb (okM t j (s + (i : Int)) wk) = 1 from pb_t (by
                            unfold okM
                            rcases hm with ⟨m0, m1, m2⟩ | ⟨m0, m1, m2⟩ <;> rw [m1, m2]
                            · first | exact ⟨by omega, by omega⟩ | exact absurd m0 (hno (by omega))
                            · first | exact ⟨by omega, by omega⟩ | exact absurd (hyes (by omega) (by omega) (by omega) (by omega)) m0)] at h
                         exact h _ _ _)
                      | (rw [show pb (okM t j (s + (i : Int)) wk) = 0 from pb_f (fun z => by
                            unfold okM at z
                            rcases hm with ⟨m0, m1, m2⟩ | ⟨m0, m1, m2⟩ <;> rw [m1, m2] at z
                            · first | exact absurd m0 (hno (by omega)) | omega
                            · first | exact absurd (hyes (by omega) (by omega) (by omega) (by omega)) m0 | omega)] at h
                         exact h _ _ _)
                  · refine r_iconst C d_Md_fits_163 ?_
                    refine r_goto (tgt := 168) C d_Md_fits_164 (by decide) ?_
                    refine r_istore_4 C d_Md_fits_168 ?_
                    refine r_iinc_5 C d_Md_fits_170 ?_
                    refine r_goto (tgt := 6) C d_Md_fits_173 (by decide) ?_
                    have h := fun X Y Z => ih (i + 1) X Y Z (by omega) (by omega)
                    rw [show s + ((i + 1 : Nat) : Int) = s + (i : Int) + 1 by omega] at h
                    have e9 : pb (mfN t j s wk (i + 1)) = pb (okM t j (s + (i : Int)) wk) := pb_c ⟨fun q => (mfN_s.mp q).2, fun q => mfN_s.mpr ⟨Classical.byContradiction (fun z => c20 (pb_f z)), q⟩⟩
                    rw [e9] at h
                    have hm : (moM t (s + (i : Int)) wk ∧ mrM t 18 (s + (i : Int)) wk = t 18 (t 8 0).toNat ∧ mrM t 19 (s + (i : Int)) wk = t 19 (t 8 0).toNat) ∨ (¬ moM t (s + (i : Int)) wk ∧ mrM t 18 (s + (i : Int)) wk = 0 ∧ mrM t 19 (s + (i : Int)) wk = 0) := by
                      by_cases q : moM t (s + (i : Int)) wk
                      · exact Or.inl ⟨q, by unfold mrM; rw [pif_t q], by unfold mrM; rw [pif_t q]⟩
                      · exact Or.inr ⟨q, by unfold mrM; rw [pif_f q], by unfold mrM; rw [pif_f q]⟩
                    have hno : (w = 0 ∨ t 9 0 = -1 ∨ s + (i : Int) < t 9 0 ∨ t 9 0 + t 37 0 ≤ s + (i : Int)) → ¬ moM t (s + (i : Int)) wk := by
                      rintro (z | z | z | z) ⟨m1, m2, m3, m4⟩
                      · exact hpz z m1
                      · exact m2 z
                      · omega
                      · omega
                    have hyes : ¬ w = 0 → ¬ t 9 0 = -1 → ¬ s + (i : Int) < t 9 0 → ¬ t 9 0 + t 37 0 ≤ s + (i : Int) → moM t (s + (i : Int)) wk := fun z1 z2 z3 z4 => ⟨hpw z1, z2, by omega, by omega⟩
                    first
                      | (rw [show pb (okM t j (s + (i : Int)) wk) = 1 from pb_t (by
                            unfold okM
                            rcases hm with ⟨m0, m1, m2⟩ | ⟨m0, m1, m2⟩ <;> rw [m1, m2]
                            · first | exact ⟨by omega, by omega⟩ | exact absurd m0 (hno (by omega))
                            · first | exact ⟨by omega, by omega⟩ | exact absurd (hyes (by omega) (by omega) (by omega) (by omega)) m0)] at h
                         exact h _ _ _)
                      | (rw [show pb (okM t j (s + (i : Int)) wk) = 0 from pb_f (fun z => by
                            unfold okM at z
                            rcases hm with ⟨m0, m1, m2⟩ | ⟨m0, m1, m2⟩ <;> rw [m1, m2] at z
                            · first | exact absurd m0 (hno (by omega)) | omega
                            · first | exact absurd (hyes (by omega) (by omega) (by omega) (by omega)) m0 | omega)] at h
                         exact h _ _ _)
              · refine r_aload_n C d_Md_fits_129 rfl ?_
                refine g_Md_needs C lk_Md_36 d_Md_fits_130 ?_
                refine r_aload_n C d_Md_fits_133 rfl ?_
                refine g_Md_blocked C lk_Md_81 d_Md_fits_134 ?_
                refine x_Md_needs C (t 8 0).toNat (by first | (have := hw8 (hpw c24); omega) | omega) (by omega) d_Md_fits_137 ?_
                refine r_goto (tgt := 142) C d_Md_fits_138 (by decide) ?_
                refine r_iadd C d_Md_fits_142 ?_
                refine r_istore_8 C d_Md_fits_143 ?_
                refine r_iload C d_Md_fits_145 rfl ?_
                refine r_aload_n C d_Md_fits_147 rfl ?_
                refine g_Md_roomNow C lk_Md_165 d_Md_fits_148 ?_
                
                refine r_icmp_gt (tgt := 167) C d_Md_fits_151 (by decide) (by first | assumption | exact bd_ir (by assumption) rfl | exact b2i_ir _ | exact pb_ir _ | exact ir_mk (by omega) (by omega)) (by first | assumption | exact bd_ir (by assumption) rfl | exact b2i_ir _ | exact pb_ir _ | exact ir_mk (by omega) (by omega)) (fun c151 => ?_) (fun c151 => ?_)
                · refine r_iconst C d_Md_fits_167 ?_
                  refine r_istore_4 C d_Md_fits_168 ?_
                  refine r_iinc_5 C d_Md_fits_170 ?_
                  refine r_goto (tgt := 6) C d_Md_fits_173 (by decide) ?_
                  have h := fun X Y Z => ih (i + 1) X Y Z (by omega) (by omega)
                  rw [show s + ((i + 1 : Nat) : Int) = s + (i : Int) + 1 by omega] at h
                  have e9 : pb (mfN t j s wk (i + 1)) = pb (okM t j (s + (i : Int)) wk) := pb_c ⟨fun q => (mfN_s.mp q).2, fun q => mfN_s.mpr ⟨Classical.byContradiction (fun z => c20 (pb_f z)), q⟩⟩
                  rw [e9] at h
                  have hm : (moM t (s + (i : Int)) wk ∧ mrM t 18 (s + (i : Int)) wk = t 18 (t 8 0).toNat ∧ mrM t 19 (s + (i : Int)) wk = t 19 (t 8 0).toNat) ∨ (¬ moM t (s + (i : Int)) wk ∧ mrM t 18 (s + (i : Int)) wk = 0 ∧ mrM t 19 (s + (i : Int)) wk = 0) := by
                    by_cases q : moM t (s + (i : Int)) wk
                    · exact Or.inl ⟨q, by unfold mrM; rw [pif_t q], by unfold mrM; rw [pif_t q]⟩
                    · exact Or.inr ⟨q, by unfold mrM; rw [pif_f q], by unfold mrM; rw [pif_f q]⟩
                  have hno : (w = 0 ∨ t 9 0 = -1 ∨ s + (i : Int) < t 9 0 ∨ t 9 0 + t 37 0 ≤ s + (i : Int)) → ¬ moM t (s + (i : Int)) wk := by
                    rintro (z | z | z | z) ⟨m1, m2, m3, m4⟩
                    · exact hpz z m1
                    · exact m2 z
                    · omega
                    · omega
                  have hyes : ¬ w = 0 → ¬ t 9 0 = -1 → ¬ s + (i : Int) < t 9 0 → ¬ t 9 0 + t 37 0 ≤ s + (i : Int) → moM t (s + (i : Int)) wk := fun z1 z2 z3 z4 => ⟨hpw z1, z2, by omega, by omega⟩
                  first
                    | (rw [show pb (okM t j (s + (i : Int)) wk) = 1 from pb_t (by
                          unfold okM
                          rcases hm with ⟨m0, m1, m2⟩ | ⟨m0, m1, m2⟩ <;> rw [m1, m2]
                          · first | exact ⟨by omega, by omega⟩ | exact absurd m0 (hno (by omega))
                          · first | exact ⟨by omega, by omega⟩ | exact absurd (hyes (by omega) (by omega) (by omega) (by omega)) m0)] at h
                       exact h _ _ _)
                    | (rw [show pb (okM t j (s + (i : Int)) wk) = 0 from pb_f (fun z => by
                          unfold okM at z
                          rcases hm with ⟨m0, m1, m2⟩ | ⟨m0, m1, m2⟩ <;> rw [m1, m2] at z
                          · first | exact absurd m0 (hno (by omega)) | omega
                          · first | exact absurd (hyes (by omega) (by omega) (by omega) (by omega)) m0 | omega)] at h
                       exact h _ _ _)
                · refine r_iload C d_Md_fits_154 rfl ?_
                  refine r_aload_n C d_Md_fits_156 rfl ?_
                  refine g_Md_allLicences C lk_Md_13 d_Md_fits_157 ?_
                  refine r_icmp_gt (tgt := 167) C d_Md_fits_160 (by decide) (by first | assumption | exact bd_ir (by assumption) rfl | exact b2i_ir _ | exact pb_ir _ | exact ir_mk (by omega) (by omega)) (by first | assumption | exact bd_ir (by assumption) rfl | exact b2i_ir _ | exact pb_ir _ | exact ir_mk (by omega) (by omega)) (fun c160 => ?_) (fun c160 => ?_)
                  · refine r_iconst C d_Md_fits_167 ?_
                    refine r_istore_4 C d_Md_fits_168 ?_
                    refine r_iinc_5 C d_Md_fits_170 ?_
                    refine r_goto (tgt := 6) C d_Md_fits_173 (by decide) ?_
                    have h := fun X Y Z => ih (i + 1) X Y Z (by omega) (by omega)
                    rw [show s + ((i + 1 : Nat) : Int) = s + (i : Int) + 1 by omega] at h
                    have e9 : pb (mfN t j s wk (i + 1)) = pb (okM t j (s + (i : Int)) wk) := pb_c ⟨fun q => (mfN_s.mp q).2, fun q => mfN_s.mpr ⟨Classical.byContradiction (fun z => c20 (pb_f z)), q⟩⟩
                    rw [e9] at h
                    have hm : (moM t (s + (i : Int)) wk ∧ mrM t 18 (s + (i : Int)) wk = t 18 (t 8 0).toNat ∧ mrM t 19 (s + (i : Int)) wk = t 19 (t 8 0).toNat) ∨ (¬ moM t (s + (i : Int)) wk ∧ mrM t 18 (s + (i : Int)) wk = 0 ∧ mrM t 19 (s + (i : Int)) wk = 0) := by
                      by_cases q : moM t (s + (i : Int)) wk
                      · exact Or.inl ⟨q, by unfold mrM; rw [pif_t q], by unfold mrM; rw [pif_t q]⟩
                      · exact Or.inr ⟨q, by unfold mrM; rw [pif_f q], by unfold mrM; rw [pif_f q]⟩
                    have hno : (w = 0 ∨ t 9 0 = -1 ∨ s + (i : Int) < t 9 0 ∨ t 9 0 + t 37 0 ≤ s + (i : Int)) → ¬ moM t (s + (i : Int)) wk := by
                      rintro (z | z | z | z) ⟨m1, m2, m3, m4⟩
                      · exact hpz z m1
                      · exact m2 z
                      · omega
                      · omega
                    have hyes : ¬ w = 0 → ¬ t 9 0 = -1 → ¬ s + (i : Int) < t 9 0 → ¬ t 9 0 + t 37 0 ≤ s + (i : Int) → moM t (s + (i : Int)) wk := fun z1 z2 z3 z4 => ⟨hpw z1, z2, by omega, by omega⟩
                    first
                      | (rw [show pb (okM t j (s + (i : Int)) wk) = 1 from pb_t (by
                            unfold okM
                            rcases hm with ⟨m0, m1, m2⟩ | ⟨m0, m1, m2⟩ <;> rw [m1, m2]
                            · first | exact ⟨by omega, by omega⟩ | exact absurd m0 (hno (by omega))
                            · first | exact ⟨by omega, by omega⟩ | exact absurd (hyes (by omega) (by omega) (by omega) (by omega)) m0)] at h
                         exact h _ _ _)
                      | (rw [show pb (okM t j (s + (i : Int)) wk) = 0 from pb_f (fun z => by
                            unfold okM at z
                            rcases hm with ⟨m0, m1, m2⟩ | ⟨m0, m1, m2⟩ <;> rw [m1, m2] at z
                            · first | exact absurd m0 (hno (by omega)) | omega
                            · first | exact absurd (hyes (by omega) (by omega) (by omega) (by omega)) m0 | omega)] at h
                         exact h _ _ _)
                  · refine r_iconst C d_Md_fits_163 ?_
                    refine r_goto (tgt := 168) C d_Md_fits_164 (by decide) ?_
                    refine r_istore_4 C d_Md_fits_168 ?_
                    refine r_iinc_5 C d_Md_fits_170 ?_
                    refine r_goto (tgt := 6) C d_Md_fits_173 (by decide) ?_
                    have h := fun X Y Z => ih (i + 1) X Y Z (by omega) (by omega)
                    rw [show s + ((i + 1 : Nat) : Int) = s + (i : Int) + 1 by omega] at h
                    have e9 : pb (mfN t j s wk (i + 1)) = pb (okM t j (s + (i : Int)) wk) := pb_c ⟨fun q => (mfN_s.mp q).2, fun q => mfN_s.mpr ⟨Classical.byContradiction (fun z => c20 (pb_f z)), q⟩⟩
                    rw [e9] at h
                    have hm : (moM t (s + (i : Int)) wk ∧ mrM t 18 (s + (i : Int)) wk = t 18 (t 8 0).toNat ∧ mrM t 19 (s + (i : Int)) wk = t 19 (t 8 0).toNat) ∨ (¬ moM t (s + (i : Int)) wk ∧ mrM t 18 (s + (i : Int)) wk = 0 ∧ mrM t 19 (s + (i : Int)) wk = 0) := by
                      by_cases q : moM t (s + (i : Int)) wk
                      · exact Or.inl ⟨q, by unfold mrM; rw [pif_t q], by unfold mrM; rw [pif_t q]⟩
                      · exact Or.inr ⟨q, by unfold mrM; rw [pif_f q], by unfold mrM; rw [pif_f q]⟩
                    have hno : (w = 0 ∨ t 9 0 = -1 ∨ s + (i : Int) < t 9 0 ∨ t 9 0 + t 37 0 ≤ s + (i : Int)) → ¬ moM t (s + (i : Int)) wk := by
                      rintro (z | z | z | z) ⟨m1, m2, m3, m4⟩
                      · exact hpz z m1
                      · exact m2 z
                      · omega
                      · omega
                    have hyes : ¬ w = 0 → ¬ t 9 0 = -1 → ¬ s + (i : Int) < t 9 0 → ¬ t 9 0 + t 37 0 ≤ s + (i : Int) → moM t (s + (i : Int)) wk := fun z1 z2 z3 z4 => ⟨hpw z1, z2, by omega, by omega⟩
                    first
                      | (rw [show pb (okM t j (s + (i : Int)) wk) = 1 from pb_t (by
                            unfold okM
                            rcases hm with ⟨m0, m1, m2⟩ | ⟨m0, m1, m2⟩ <;> rw [m1, m2]
                            · first | exact ⟨by omega, by omega⟩ | exact absurd m0 (hno (by omega))
                            · first | exact ⟨by omega, by omega⟩ | exact absurd (hyes (by omega) (by omega) (by omega) (by omega)) m0)] at h
                         exact h _ _ _)
                      | (rw [show pb (okM t j (s + (i : Int)) wk) = 0 from pb_f (fun z => by
                            unfold okM at z
                            rcases hm with ⟨m0, m1, m2⟩ | ⟨m0, m1, m2⟩ <;> rw [m1, m2] at z
                            · first | exact absurd m0 (hno (by omega)) | omega
                            · first | exact absurd (hyes (by omega) (by omega) (by omega) (by omega)) m0 | omega)] at h
                         exact h _ _ _)
            · refine r_aload_n C d_Md_fits_89 rfl ?_
              refine g_Md_wants C lk_Md_33 d_Md_fits_90 ?_
              refine r_aload_n C d_Md_fits_93 rfl ?_
              refine g_Md_blocked C lk_Md_81 d_Md_fits_94 ?_
              refine x_Md_wants C (t 8 0).toNat (by first | (have := hw8 (hpw c24); omega) | omega) (by omega) d_Md_fits_97 ?_
              refine r_goto (tgt := 102) C d_Md_fits_98 (by decide) ?_
              refine r_iadd C d_Md_fits_102 ?_
              refine r_istore_7 C d_Md_fits_103 ?_
              refine r_aload_n C d_Md_fits_105 rfl ?_
              refine g_Md_licencesAt C lk_Md_90 d_Md_fits_106 ?_
              refine r_iload C d_Md_fits_109 rfl ?_
              refine r_aload_n C d_Md_fits_111 rfl ?_
              refine g_Md_time C lk_Md_148 d_Md_fits_112 ?_
              refine r_isub C d_Md_fits_115 ?_
              refine x_Md_licencesAt C (s + (i : Int) - t 4 0).toNat (by omega) (by omega) d_Md_fits_116 ?_
              refine r_aload_n C d_Md_fits_117 rfl ?_
              refine g_Md_needs C lk_Md_36 d_Md_fits_118 ?_
              refine r_iload_n C d_Md_fits_121 rfl ?_
              refine x_Md_needs C _ rfl (by omega) d_Md_fits_122 ?_
              refine r_iadd C d_Md_fits_123 ?_
              refine r_iload C d_Md_fits_124 rfl ?_
              refine r_if_eq (tgt := 141) C d_Md_fits_126 (by decide) (ir_mk (by omega) (by omega)) (fun c126 => ?_) (fun c126 => ?_)
              · refine r_iconst C d_Md_fits_141 ?_
                refine r_iadd C d_Md_fits_142 ?_
                refine r_istore_8 C d_Md_fits_143 ?_
                refine r_iload C d_Md_fits_145 rfl ?_
                refine r_aload_n C d_Md_fits_147 rfl ?_
                refine g_Md_roomNow C lk_Md_165 d_Md_fits_148 ?_
                
                refine r_icmp_gt (tgt := 167) C d_Md_fits_151 (by decide) (by first | assumption | exact bd_ir (by assumption) rfl | exact b2i_ir _ | exact pb_ir _ | exact ir_mk (by omega) (by omega)) (by first | assumption | exact bd_ir (by assumption) rfl | exact b2i_ir _ | exact pb_ir _ | exact ir_mk (by omega) (by omega)) (fun c151 => ?_) (fun c151 => ?_)
                · refine r_iconst C d_Md_fits_167 ?_
                  refine r_istore_4 C d_Md_fits_168 ?_
                  refine r_iinc_5 C d_Md_fits_170 ?_
                  refine r_goto (tgt := 6) C d_Md_fits_173 (by decide) ?_
                  have h := fun X Y Z => ih (i + 1) X Y Z (by omega) (by omega)
                  rw [show s + ((i + 1 : Nat) : Int) = s + (i : Int) + 1 by omega] at h
                  have e9 : pb (mfN t j s wk (i + 1)) = pb (okM t j (s + (i : Int)) wk) := pb_c ⟨fun q => (mfN_s.mp q).2, fun q => mfN_s.mpr ⟨Classical.byContradiction (fun z => c20 (pb_f z)), q⟩⟩
                  rw [e9] at h
                  have hm : (moM t (s + (i : Int)) wk ∧ mrM t 18 (s + (i : Int)) wk = t 18 (t 8 0).toNat ∧ mrM t 19 (s + (i : Int)) wk = t 19 (t 8 0).toNat) ∨ (¬ moM t (s + (i : Int)) wk ∧ mrM t 18 (s + (i : Int)) wk = 0 ∧ mrM t 19 (s + (i : Int)) wk = 0) := by
                    by_cases q : moM t (s + (i : Int)) wk
                    · exact Or.inl ⟨q, by unfold mrM; rw [pif_t q], by unfold mrM; rw [pif_t q]⟩
                    · exact Or.inr ⟨q, by unfold mrM; rw [pif_f q], by unfold mrM; rw [pif_f q]⟩
                  have hno : (w = 0 ∨ t 9 0 = -1 ∨ s + (i : Int) < t 9 0 ∨ t 9 0 + t 37 0 ≤ s + (i : Int)) → ¬ moM t (s + (i : Int)) wk := by
                    rintro (z | z | z | z) ⟨m1, m2, m3, m4⟩
                    · exact hpz z m1
                    · exact m2 z
                    · omega
                    · omega
                  have hyes : ¬ w = 0 → ¬ t 9 0 = -1 → ¬ s + (i : Int) < t 9 0 → ¬ t 9 0 + t 37 0 ≤ s + (i : Int) → moM t (s + (i : Int)) wk := fun z1 z2 z3 z4 => ⟨hpw z1, z2, by omega, by omega⟩
                  first
                    | (rw [show pb (okM t j (s + (i : Int)) wk) = 1 from pb_t (by
                          unfold okM
                          rcases hm with ⟨m0, m1, m2⟩ | ⟨m0, m1, m2⟩ <;> rw [m1, m2]
                          · first | exact ⟨by omega, by omega⟩ | exact absurd m0 (hno (by omega))
                          · first | exact ⟨by omega, by omega⟩ | exact absurd (hyes (by omega) (by omega) (by omega) (by omega)) m0)] at h
                       exact h _ _ _)
                    | (rw [show pb (okM t j (s + (i : Int)) wk) = 0 from pb_f (fun z => by
                          unfold okM at z
                          rcases hm with ⟨m0, m1, m2⟩ | ⟨m0, m1, m2⟩ <;> rw [m1, m2] at z
                          · first | exact absurd m0 (hno (by omega)) | omega
                          · first | exact absurd (hyes (by omega) (by omega) (by omega) (by omega)) m0 | omega)] at h
                       exact h _ _ _)
                · refine r_iload C d_Md_fits_154 rfl ?_
                  refine r_aload_n C d_Md_fits_156 rfl ?_
                  refine g_Md_allLicences C lk_Md_13 d_Md_fits_157 ?_
                  refine r_icmp_gt (tgt := 167) C d_Md_fits_160 (by decide) (by first | assumption | exact bd_ir (by assumption) rfl | exact b2i_ir _ | exact pb_ir _ | exact ir_mk (by omega) (by omega)) (by first | assumption | exact bd_ir (by assumption) rfl | exact b2i_ir _ | exact pb_ir _ | exact ir_mk (by omega) (by omega)) (fun c160 => ?_) (fun c160 => ?_)
                  · refine r_iconst C d_Md_fits_167 ?_
                    refine r_istore_4 C d_Md_fits_168 ?_
                    refine r_iinc_5 C d_Md_fits_170 ?_
                    refine r_goto (tgt := 6) C d_Md_fits_173 (by decide) ?_
                    have h := fun X Y Z => ih (i + 1) X Y Z (by omega) (by omega)
                    rw [show s + ((i + 1 : Nat) : Int) = s + (i : Int) + 1 by omega] at h
                    have e9 : pb (mfN t j s wk (i + 1)) = pb (okM t j (s + (i : Int)) wk) := pb_c ⟨fun q => (mfN_s.mp q).2, fun q => mfN_s.mpr ⟨Classical.byContradiction (fun z => c20 (pb_f z)), q⟩⟩
                    rw [e9] at h
                    have hm : (moM t (s + (i : Int)) wk ∧ mrM t 18 (s + (i : Int)) wk = t 18 (t 8 0).toNat ∧ mrM t 19 (s + (i : Int)) wk = t 19 (t 8 0).toNat) ∨ (¬ moM t (s + (i : Int)) wk ∧ mrM t 18 (s + (i : Int)) wk = 0 ∧ mrM t 19 (s + (i : Int)) wk = 0) := by
                      by_cases q : moM t (s + (i : Int)) wk
                      · exact Or.inl ⟨q, by unfold mrM; rw [pif_t q], by unfold mrM; rw [pif_t q]⟩
                      · exact Or.inr ⟨q, by unfold mrM; rw [pif_f q], by unfold mrM; rw [pif_f q]⟩
                    have hno : (w = 0 ∨ t 9 0 = -1 ∨ s + (i : Int) < t 9 0 ∨ t 9 0 + t 37 0 ≤ s + (i : Int)) → ¬ moM t (s + (i : Int)) wk := by
                      rintro (z | z | z | z) ⟨m1, m2, m3, m4⟩
                      · exact hpz z m1
                      · exact m2 z
                      · omega
                      · omega
                    have hyes : ¬ w = 0 → ¬ t 9 0 = -1 → ¬ s + (i : Int) < t 9 0 → ¬ t 9 0 + t 37 0 ≤ s + (i : Int) → moM t (s + (i : Int)) wk := fun z1 z2 z3 z4 => ⟨hpw z1, z2, by omega, by omega⟩
                    first
                      | (rw [show pb (okM t j (s + (i : Int)) wk) = 1 from pb_t (by
                            unfold okM
                            rcases hm with ⟨m0, m1, m2⟩ | ⟨m0, m1, m2⟩ <;> rw [m1, m2]
                            · first | exact ⟨by omega, by omega⟩ | exact absurd m0 (hno (by omega))
                            · first | exact ⟨by omega, by omega⟩ | exact absurd (hyes (by omega) (by omega) (by omega) (by omega)) m0)] at h
                         exact h _ _ _)
                      | (rw [show pb (okM t j (s + (i : Int)) wk) = 0 from pb_f (fun z => by
                            unfold okM at z
                            rcases hm with ⟨m0, m1, m2⟩ | ⟨m0, m1, m2⟩ <;> rw [m1, m2] at z
                            · first | exact absurd m0 (hno (by omega)) | omega
                            · first | exact absurd (hyes (by omega) (by omega) (by omega) (by omega)) m0 | omega)] at h
                         exact h _ _ _)
                  · refine r_iconst C d_Md_fits_163 ?_
                    refine r_goto (tgt := 168) C d_Md_fits_164 (by decide) ?_
                    refine r_istore_4 C d_Md_fits_168 ?_
                    refine r_iinc_5 C d_Md_fits_170 ?_
                    refine r_goto (tgt := 6) C d_Md_fits_173 (by decide) ?_
                    have h := fun X Y Z => ih (i + 1) X Y Z (by omega) (by omega)
                    rw [show s + ((i + 1 : Nat) : Int) = s + (i : Int) + 1 by omega] at h
                    have e9 : pb (mfN t j s wk (i + 1)) = pb (okM t j (s + (i : Int)) wk) := pb_c ⟨fun q => (mfN_s.mp q).2, fun q => mfN_s.mpr ⟨Classical.byContradiction (fun z => c20 (pb_f z)), q⟩⟩
                    rw [e9] at h
                    have hm : (moM t (s + (i : Int)) wk ∧ mrM t 18 (s + (i : Int)) wk = t 18 (t 8 0).toNat ∧ mrM t 19 (s + (i : Int)) wk = t 19 (t 8 0).toNat) ∨ (¬ moM t (s + (i : Int)) wk ∧ mrM t 18 (s + (i : Int)) wk = 0 ∧ mrM t 19 (s + (i : Int)) wk = 0) := by
                      by_cases q : moM t (s + (i : Int)) wk
                      · exact Or.inl ⟨q, by unfold mrM; rw [pif_t q], by unfold mrM; rw [pif_t q]⟩
                      · exact Or.inr ⟨q, by unfold mrM; rw [pif_f q], by unfold mrM; rw [pif_f q]⟩
                    have hno : (w = 0 ∨ t 9 0 = -1 ∨ s + (i : Int) < t 9 0 ∨ t 9 0 + t 37 0 ≤ s + (i : Int)) → ¬ moM t (s + (i : Int)) wk := by
                      rintro (z | z | z | z) ⟨m1, m2, m3, m4⟩
                      · exact hpz z m1
                      · exact m2 z
                      · omega
                      · omega
                    have hyes : ¬ w = 0 → ¬ t 9 0 = -1 → ¬ s + (i : Int) < t 9 0 → ¬ t 9 0 + t 37 0 ≤ s + (i : Int) → moM t (s + (i : Int)) wk := fun z1 z2 z3 z4 => ⟨hpw z1, z2, by omega, by omega⟩
                    first
                      | (rw [show pb (okM t j (s + (i : Int)) wk) = 1 from pb_t (by
                            unfold okM
                            rcases hm with ⟨m0, m1, m2⟩ | ⟨m0, m1, m2⟩ <;> rw [m1, m2]
                            · first | exact ⟨by omega, by omega⟩ | exact absurd m0 (hno (by omega))
                            · first | exact ⟨by omega, by omega⟩ | exact absurd (hyes (by omega) (by omega) (by omega) (by omega)) m0)] at h
                         exact h _ _ _)
                      | (rw [show pb (okM t j (s + (i : Int)) wk) = 0 from pb_f (fun z => by
                            unfold okM at z
                            rcases hm with ⟨m0, m1, m2⟩ | ⟨m0, m1, m2⟩ <;> rw [m1, m2] at z
                            · first | exact absurd m0 (hno (by omega)) | omega
                            · first | exact absurd (hyes (by omega) (by omega) (by omega) (by omega)) m0 | omega)] at h
                         exact h _ _ _)
              · refine r_aload_n C d_Md_fits_129 rfl ?_
                refine g_Md_needs C lk_Md_36 d_Md_fits_130 ?_
                refine r_aload_n C d_Md_fits_133 rfl ?_
                refine g_Md_blocked C lk_Md_81 d_Md_fits_134 ?_
                refine x_Md_needs C (t 8 0).toNat (by first | (have := hw8 (hpw c24); omega) | omega) (by omega) d_Md_fits_137 ?_
                refine r_goto (tgt := 142) C d_Md_fits_138 (by decide) ?_
                refine r_iadd C d_Md_fits_142 ?_
                refine r_istore_8 C d_Md_fits_143 ?_
                refine r_iload C d_Md_fits_145 rfl ?_
                refine r_aload_n C d_Md_fits_147 rfl ?_
                refine g_Md_roomNow C lk_Md_165 d_Md_fits_148 ?_
                
                refine r_icmp_gt (tgt := 167) C d_Md_fits_151 (by decide) (by first | assumption | exact bd_ir (by assumption) rfl | exact b2i_ir _ | exact pb_ir _ | exact ir_mk (by omega) (by omega)) (by first | assumption | exact bd_ir (by assumption) rfl | exact b2i_ir _ | exact pb_ir _ | exact ir_mk (by omega) (by omega)) (fun c151 => ?_) (fun c151 => ?_)
                · refine r_iconst C d_Md_fits_167 ?_
                  refine r_istore_4 C d_Md_fits_168 ?_
                  refine r_iinc_5 C d_Md_fits_170 ?_
                  refine r_goto (tgt := 6) C d_Md_fits_173 (by decide) ?_
                  have h := fun X Y Z => ih (i + 1) X Y Z (by omega) (by omega)
                  rw [show s + ((i + 1 : Nat) : Int) = s + (i : Int) + 1 by omega] at h
                  have e9 : pb (mfN t j s wk (i + 1)) = pb (okM t j (s + (i : Int)) wk) := pb_c ⟨fun q => (mfN_s.mp q).2, fun q => mfN_s.mpr ⟨Classical.byContradiction (fun z => c20 (pb_f z)), q⟩⟩
                  rw [e9] at h
                  have hm : (moM t (s + (i : Int)) wk ∧ mrM t 18 (s + (i : Int)) wk = t 18 (t 8 0).toNat ∧ mrM t 19 (s + (i : Int)) wk = t 19 (t 8 0).toNat) ∨ (¬ moM t (s + (i : Int)) wk ∧ mrM t 18 (s + (i : Int)) wk = 0 ∧ mrM t 19 (s + (i : Int)) wk = 0) := by
                    by_cases q : moM t (s + (i : Int)) wk
                    · exact Or.inl ⟨q, by unfold mrM; rw [pif_t q], by unfold mrM; rw [pif_t q]⟩
                    · exact Or.inr ⟨q, by unfold mrM; rw [pif_f q], by unfold mrM; rw [pif_f q]⟩
                  have hno : (w = 0 ∨ t 9 0 = -1 ∨ s + (i : Int) < t 9 0 ∨ t 9 0 + t 37 0 ≤ s + (i : Int)) → ¬ moM t (s + (i : Int)) wk := by
                    rintro (z | z | z | z) ⟨m1, m2, m3, m4⟩
                    · exact hpz z m1
                    · exact m2 z
                    · omega
                    · omega
                  have hyes : ¬ w = 0 → ¬ t 9 0 = -1 → ¬ s + (i : Int) < t 9 0 → ¬ t 9 0 + t 37 0 ≤ s + (i : Int) → moM t (s + (i : Int)) wk := fun z1 z2 z3 z4 => ⟨hpw z1, z2, by omega, by omega⟩
                  first
                    | (rw [show pb (okM t j (s + (i : Int)) wk) = 1 from pb_t (by
                          unfold okM
                          rcases hm with ⟨m0, m1, m2⟩ | ⟨m0, m1, m2⟩ <;> rw [m1, m2]
                          · first | exact ⟨by omega, by omega⟩ | exact absurd m0 (hno (by omega))
                          · first | exact ⟨by omega, by omega⟩ | exact absurd (hyes (by omega) (by omega) (by omega) (by omega)) m0)] at h
                       exact h _ _ _)
                    | (rw [show pb (okM t j (s + (i : Int)) wk) = 0 from pb_f (fun z => by
                          unfold okM at z
                          rcases hm with ⟨m0, m1, m2⟩ | ⟨m0, m1, m2⟩ <;> rw [m1, m2] at z
                          · first | exact absurd m0 (hno (by omega)) | omega
                          · first | exact absurd (hyes (by omega) (by omega) (by omega) (by omega)) m0 | omega)] at h
                       exact h _ _ _)
                · refine r_iload C d_Md_fits_154 rfl ?_
                  refine r_aload_n C d_Md_fits_156 rfl ?_
                  refine g_Md_allLicences C lk_Md_13 d_Md_fits_157 ?_
                  refine r_icmp_gt (tgt := 167) C d_Md_fits_160 (by decide) (by first | assumption | exact bd_ir (by assumption) rfl | exact b2i_ir _ | exact pb_ir _ | exact ir_mk (by omega) (by omega)) (by first | assumption | exact bd_ir (by assumption) rfl | exact b2i_ir _ | exact pb_ir _ | exact ir_mk (by omega) (by omega)) (fun c160 => ?_) (fun c160 => ?_)
                  · refine r_iconst C d_Md_fits_167 ?_
                    refine r_istore_4 C d_Md_fits_168 ?_
                    refine r_iinc_5 C d_Md_fits_170 ?_
                    refine r_goto (tgt := 6) C d_Md_fits_173 (by decide) ?_
                    have h := fun X Y Z => ih (i + 1) X Y Z (by omega) (by omega)
                    rw [show s + ((i + 1 : Nat) : Int) = s + (i : Int) + 1 by omega] at h
                    have e9 : pb (mfN t j s wk (i + 1)) = pb (okM t j (s + (i : Int)) wk) := pb_c ⟨fun q => (mfN_s.mp q).2, fun q => mfN_s.mpr ⟨Classical.byContradiction (fun z => c20 (pb_f z)), q⟩⟩
                    rw [e9] at h
                    have hm : (moM t (s + (i : Int)) wk ∧ mrM t 18 (s + (i : Int)) wk = t 18 (t 8 0).toNat ∧ mrM t 19 (s + (i : Int)) wk = t 19 (t 8 0).toNat) ∨ (¬ moM t (s + (i : Int)) wk ∧ mrM t 18 (s + (i : Int)) wk = 0 ∧ mrM t 19 (s + (i : Int)) wk = 0) := by
                      by_cases q : moM t (s + (i : Int)) wk
                      · exact Or.inl ⟨q, by unfold mrM; rw [pif_t q], by unfold mrM; rw [pif_t q]⟩
                      · exact Or.inr ⟨q, by unfold mrM; rw [pif_f q], by unfold mrM; rw [pif_f q]⟩
                    have hno : (w = 0 ∨ t 9 0 = -1 ∨ s + (i : Int) < t 9 0 ∨ t 9 0 + t 37 0 ≤ s + (i : Int)) → ¬ moM t (s + (i : Int)) wk := by
                      rintro (z | z | z | z) ⟨m1, m2, m3, m4⟩
                      · exact hpz z m1
                      · exact m2 z
                      · omega
                      · omega
                    have hyes : ¬ w = 0 → ¬ t 9 0 = -1 → ¬ s + (i : Int) < t 9 0 → ¬ t 9 0 + t 37 0 ≤ s + (i : Int) → moM t (s + (i : Int)) wk := fun z1 z2 z3 z4 => ⟨hpw z1, z2, by omega, by omega⟩
                    first
                      | (rw [show pb (okM t j (s + (i : Int)) wk) = 1 from pb_t (by
                            unfold okM
                            rcases hm with ⟨m0, m1, m2⟩ | ⟨m0, m1, m2⟩ <;> rw [m1, m2]
                            · first | exact ⟨by omega, by omega⟩ | exact absurd m0 (hno (by omega))
                            · first | exact ⟨by omega, by omega⟩ | exact absurd (hyes (by omega) (by omega) (by omega) (by omega)) m0)] at h
                         exact h _ _ _)
                      | (rw [show pb (okM t j (s + (i : Int)) wk) = 0 from pb_f (fun z => by
                            unfold okM at z
                            rcases hm with ⟨m0, m1, m2⟩ | ⟨m0, m1, m2⟩ <;> rw [m1, m2] at z
                            · first | exact absurd m0 (hno (by omega)) | omega
                            · first | exact absurd (hyes (by omega) (by omega) (by omega) (by omega)) m0 | omega)] at h
                         exact h _ _ _)
                  · refine r_iconst C d_Md_fits_163 ?_
                    refine r_goto (tgt := 168) C d_Md_fits_164 (by decide) ?_
                    refine r_istore_4 C d_Md_fits_168 ?_
                    refine r_iinc_5 C d_Md_fits_170 ?_
                    refine r_goto (tgt := 6) C d_Md_fits_173 (by decide) ?_
                    have h := fun X Y Z => ih (i + 1) X Y Z (by omega) (by omega)
                    rw [show s + ((i + 1 : Nat) : Int) = s + (i : Int) + 1 by omega] at h
                    have e9 : pb (mfN t j s wk (i + 1)) = pb (okM t j (s + (i : Int)) wk) := pb_c ⟨fun q => (mfN_s.mp q).2, fun q => mfN_s.mpr ⟨Classical.byContradiction (fun z => c20 (pb_f z)), q⟩⟩
                    rw [e9] at h
                    have hm : (moM t (s + (i : Int)) wk ∧ mrM t 18 (s + (i : Int)) wk = t 18 (t 8 0).toNat ∧ mrM t 19 (s + (i : Int)) wk = t 19 (t 8 0).toNat) ∨ (¬ moM t (s + (i : Int)) wk ∧ mrM t 18 (s + (i : Int)) wk = 0 ∧ mrM t 19 (s + (i : Int)) wk = 0) := by
                      by_cases q : moM t (s + (i : Int)) wk
                      · exact Or.inl ⟨q, by unfold mrM; rw [pif_t q], by unfold mrM; rw [pif_t q]⟩
                      · exact Or.inr ⟨q, by unfold mrM; rw [pif_f q], by unfold mrM; rw [pif_f q]⟩
                    have hno : (w = 0 ∨ t 9 0 = -1 ∨ s + (i : Int) < t 9 0 ∨ t 9 0 + t 37 0 ≤ s + (i : Int)) → ¬ moM t (s + (i : Int)) wk := by
                      rintro (z | z | z | z) ⟨m1, m2, m3, m4⟩
                      · exact hpz z m1
                      · exact m2 z
                      · omega
                      · omega
                    have hyes : ¬ w = 0 → ¬ t 9 0 = -1 → ¬ s + (i : Int) < t 9 0 → ¬ t 9 0 + t 37 0 ≤ s + (i : Int) → moM t (s + (i : Int)) wk := fun z1 z2 z3 z4 => ⟨hpw z1, z2, by omega, by omega⟩
                    first
                      | (rw [show pb (okM t j (s + (i : Int)) wk) = 1 from pb_t (by
                            unfold okM
                            rcases hm with ⟨m0, m1, m2⟩ | ⟨m0, m1, m2⟩ <;> rw [m1, m2]
                            · first | exact ⟨by omega, by omega⟩ | exact absurd m0 (hno (by omega))
                            · first | exact ⟨by omega, by omega⟩ | exact absurd (hyes (by omega) (by omega) (by omega) (by omega)) m0)] at h
                         exact h _ _ _)
                      | (rw [show pb (okM t j (s + (i : Int)) wk) = 0 from pb_f (fun z => by
                            unfold okM at z
                            rcases hm with ⟨m0, m1, m2⟩ | ⟨m0, m1, m2⟩ <;> rw [m1, m2] at z
                            · first | exact absurd m0 (hno (by omega)) | omega
                            · first | exact absurd (hyes (by omega) (by omega) (by omega) (by omega)) m0 | omega)] at h
                         exact h _ _ _)
          · refine r_aload_n C d_Md_fits_27 rfl ?_
            refine g_Md_kept C lk_Md_84 d_Md_fits_28 ?_
            refine r_iconst C d_Md_fits_31 ?_
            refine r_icmp_eq (tgt := 62) C d_Md_fits_32 (by decide) (by first | assumption | exact bd_ir (by assumption) rfl | exact b2i_ir _ | exact pb_ir _ | exact ir_mk (by omega) (by omega)) (by first | assumption | exact bd_ir (by assumption) rfl | exact b2i_ir _ | exact pb_ir _ | exact ir_mk (by omega) (by omega)) (fun c32 => ?_) (fun c32 => ?_)
            · refine r_iconst C d_Md_fits_62 ?_
              refine r_istore_6 C d_Md_fits_63 ?_
              refine r_aload_n C d_Md_fits_65 rfl ?_
              refine g_Md_nodesAt C lk_Md_87 d_Md_fits_66 ?_
              refine r_iload C d_Md_fits_69 rfl ?_
              refine r_aload_n C d_Md_fits_71 rfl ?_
              refine g_Md_time C lk_Md_148 d_Md_fits_72 ?_
              refine r_isub C d_Md_fits_75 ?_
              refine x_Md_nodesAt C (s + (i : Int) - t 4 0).toNat (by omega) (by omega) d_Md_fits_76 ?_
              refine r_aload_n C d_Md_fits_77 rfl ?_
              refine g_Md_wants C lk_Md_33 d_Md_fits_78 ?_
              refine r_iload_n C d_Md_fits_81 rfl ?_
              refine x_Md_wants C _ rfl (by omega) d_Md_fits_82 ?_
              refine r_iadd C d_Md_fits_83 ?_
              refine r_iload C d_Md_fits_84 rfl ?_
              refine r_if_eq (tgt := 101) C d_Md_fits_86 (by decide) (ir_mk (by omega) (by omega)) (fun c86 => ?_) (fun c86 => ?_)
              · refine r_iconst C d_Md_fits_101 ?_
                refine r_iadd C d_Md_fits_102 ?_
                refine r_istore_7 C d_Md_fits_103 ?_
                refine r_aload_n C d_Md_fits_105 rfl ?_
                refine g_Md_licencesAt C lk_Md_90 d_Md_fits_106 ?_
                refine r_iload C d_Md_fits_109 rfl ?_
                refine r_aload_n C d_Md_fits_111 rfl ?_
                refine g_Md_time C lk_Md_148 d_Md_fits_112 ?_
                refine r_isub C d_Md_fits_115 ?_
                refine x_Md_licencesAt C (s + (i : Int) - t 4 0).toNat (by omega) (by omega) d_Md_fits_116 ?_
                refine r_aload_n C d_Md_fits_117 rfl ?_
                refine g_Md_needs C lk_Md_36 d_Md_fits_118 ?_
                refine r_iload_n C d_Md_fits_121 rfl ?_
                refine x_Md_needs C _ rfl (by omega) d_Md_fits_122 ?_
                refine r_iadd C d_Md_fits_123 ?_
                refine r_iload C d_Md_fits_124 rfl ?_
                refine r_if_eq (tgt := 141) C d_Md_fits_126 (by decide) (ir_mk (by omega) (by omega)) (fun c126 => ?_) (fun c126 => ?_)
                · refine r_iconst C d_Md_fits_141 ?_
                  refine r_iadd C d_Md_fits_142 ?_
                  refine r_istore_8 C d_Md_fits_143 ?_
                  refine r_iload C d_Md_fits_145 rfl ?_
                  refine r_aload_n C d_Md_fits_147 rfl ?_
                  refine g_Md_roomNow C lk_Md_165 d_Md_fits_148 ?_
                  
                  refine r_icmp_gt (tgt := 167) C d_Md_fits_151 (by decide) (by first | assumption | exact bd_ir (by assumption) rfl | exact b2i_ir _ | exact pb_ir _ | exact ir_mk (by omega) (by omega)) (by first | assumption | exact bd_ir (by assumption) rfl | exact b2i_ir _ | exact pb_ir _ | exact ir_mk (by omega) (by omega)) (fun c151 => ?_) (fun c151 => ?_)
                  · refine r_iconst C d_Md_fits_167 ?_
                    refine r_istore_4 C d_Md_fits_168 ?_
                    refine r_iinc_5 C d_Md_fits_170 ?_
                    refine r_goto (tgt := 6) C d_Md_fits_173 (by decide) ?_
                    have h := fun X Y Z => ih (i + 1) X Y Z (by omega) (by omega)
                    rw [show s + ((i + 1 : Nat) : Int) = s + (i : Int) + 1 by omega] at h
                    have e9 : pb (mfN t j s wk (i + 1)) = pb (okM t j (s + (i : Int)) wk) := pb_c ⟨fun q => (mfN_s.mp q).2, fun q => mfN_s.mpr ⟨Classical.byContradiction (fun z => c20 (pb_f z)), q⟩⟩
                    rw [e9] at h
                    have hm : (moM t (s + (i : Int)) wk ∧ mrM t 18 (s + (i : Int)) wk = t 18 (t 8 0).toNat ∧ mrM t 19 (s + (i : Int)) wk = t 19 (t 8 0).toNat) ∨ (¬ moM t (s + (i : Int)) wk ∧ mrM t 18 (s + (i : Int)) wk = 0 ∧ mrM t 19 (s + (i : Int)) wk = 0) := by
                      by_cases q : moM t (s + (i : Int)) wk
                      · exact Or.inl ⟨q, by unfold mrM; rw [pif_t q], by unfold mrM; rw [pif_t q]⟩
                      · exact Or.inr ⟨q, by unfold mrM; rw [pif_f q], by unfold mrM; rw [pif_f q]⟩
                    have hno : (w = 0 ∨ t 9 0 = -1 ∨ s + (i : Int) < t 9 0 ∨ t 9 0 + t 37 0 ≤ s + (i : Int)) → ¬ moM t (s + (i : Int)) wk := by
                      rintro (z | z | z | z) ⟨m1, m2, m3, m4⟩
                      · exact hpz z m1
                      · exact m2 z
                      · omega
                      · omega
                    have hyes : ¬ w = 0 → ¬ t 9 0 = -1 → ¬ s + (i : Int) < t 9 0 → ¬ t 9 0 + t 37 0 ≤ s + (i : Int) → moM t (s + (i : Int)) wk := fun z1 z2 z3 z4 => ⟨hpw z1, z2, by omega, by omega⟩
                    first
                      | (rw [show pb (okM t j (s + (i : Int)) wk) = 1 from pb_t (by
                            unfold okM
                            rcases hm with ⟨m0, m1, m2⟩ | ⟨m0, m1, m2⟩ <;> rw [m1, m2]
                            · first | exact ⟨by omega, by omega⟩ | exact absurd m0 (hno (by omega))
                            · first | exact ⟨by omega, by omega⟩ | exact absurd (hyes (by omega) (by omega) (by omega) (by omega)) m0)] at h
                         exact h _ _ _)
                      | (rw [show pb (okM t j (s + (i : Int)) wk) = 0 from pb_f (fun z => by
                            unfold okM at z
                            rcases hm with ⟨m0, m1, m2⟩ | ⟨m0, m1, m2⟩ <;> rw [m1, m2] at z
                            · first | exact absurd m0 (hno (by omega)) | omega
                            · first | exact absurd (hyes (by omega) (by omega) (by omega) (by omega)) m0 | omega)] at h
                         exact h _ _ _)
                  · refine r_iload C d_Md_fits_154 rfl ?_
                    refine r_aload_n C d_Md_fits_156 rfl ?_
                    refine g_Md_allLicences C lk_Md_13 d_Md_fits_157 ?_
                    refine r_icmp_gt (tgt := 167) C d_Md_fits_160 (by decide) (by first | assumption | exact bd_ir (by assumption) rfl | exact b2i_ir _ | exact pb_ir _ | exact ir_mk (by omega) (by omega)) (by first | assumption | exact bd_ir (by assumption) rfl | exact b2i_ir _ | exact pb_ir _ | exact ir_mk (by omega) (by omega)) (fun c160 => ?_) (fun c160 => ?_)
                    · refine r_iconst C d_Md_fits_167 ?_
                      refine r_istore_4 C d_Md_fits_168 ?_
                      refine r_iinc_5 C d_Md_fits_170 ?_
                      refine r_goto (tgt := 6) C d_Md_fits_173 (by decide) ?_
                      have h := fun X Y Z => ih (i + 1) X Y Z (by omega) (by omega)
                      rw [show s + ((i + 1 : Nat) : Int) = s + (i : Int) + 1 by omega] at h
                      have e9 : pb (mfN t j s wk (i + 1)) = pb (okM t j (s + (i : Int)) wk) := pb_c ⟨fun q => (mfN_s.mp q).2, fun q => mfN_s.mpr ⟨Classical.byContradiction (fun z => c20 (pb_f z)), q⟩⟩
                      rw [e9] at h
                      have hm : (moM t (s + (i : Int)) wk ∧ mrM t 18 (s + (i : Int)) wk = t 18 (t 8 0).toNat ∧ mrM t 19 (s + (i : Int)) wk = t 19 (t 8 0).toNat) ∨ (¬ moM t (s + (i : Int)) wk ∧ mrM t 18 (s + (i : Int)) wk = 0 ∧ mrM t 19 (s + (i : Int)) wk = 0) := by
                        by_cases q : moM t (s + (i : Int)) wk
                        · exact Or.inl ⟨q, by unfold mrM; rw [pif_t q], by unfold mrM; rw [pif_t q]⟩
                        · exact Or.inr ⟨q, by unfold mrM; rw [pif_f q], by unfold mrM; rw [pif_f q]⟩
                      have hno : (w = 0 ∨ t 9 0 = -1 ∨ s + (i : Int) < t 9 0 ∨ t 9 0 + t 37 0 ≤ s + (i : Int)) → ¬ moM t (s + (i : Int)) wk := by
                        rintro (z | z | z | z) ⟨m1, m2, m3, m4⟩
                        · exact hpz z m1
                        · exact m2 z
                        · omega
                        · omega
                      have hyes : ¬ w = 0 → ¬ t 9 0 = -1 → ¬ s + (i : Int) < t 9 0 → ¬ t 9 0 + t 37 0 ≤ s + (i : Int) → moM t (s + (i : Int)) wk := fun z1 z2 z3 z4 => ⟨hpw z1, z2, by omega, by omega⟩
                      first
                        | (rw [show pb (okM t j (s + (i : Int)) wk) = 1 from pb_t (by
                              unfold okM
                              rcases hm with ⟨m0, m1, m2⟩ | ⟨m0, m1, m2⟩ <;> rw [m1, m2]
                              · first | exact ⟨by omega, by omega⟩ | exact absurd m0 (hno (by omega))
                              · first | exact ⟨by omega, by omega⟩ | exact absurd (hyes (by omega) (by omega) (by omega) (by omega)) m0)] at h
                           exact h _ _ _)
                        | (rw [show pb (okM t j (s + (i : Int)) wk) = 0 from pb_f (fun z => by
                              unfold okM at z
                              rcases hm with ⟨m0, m1, m2⟩ | ⟨m0, m1, m2⟩ <;> rw [m1, m2] at z
                              · first | exact absurd m0 (hno (by omega)) | omega
                              · first | exact absurd (hyes (by omega) (by omega) (by omega) (by omega)) m0 | omega)] at h
                           exact h _ _ _)
                    · refine r_iconst C d_Md_fits_163 ?_
                      refine r_goto (tgt := 168) C d_Md_fits_164 (by decide) ?_
                      refine r_istore_4 C d_Md_fits_168 ?_
                      refine r_iinc_5 C d_Md_fits_170 ?_
                      refine r_goto (tgt := 6) C d_Md_fits_173 (by decide) ?_
                      have h := fun X Y Z => ih (i + 1) X Y Z (by omega) (by omega)
                      rw [show s + ((i + 1 : Nat) : Int) = s + (i : Int) + 1 by omega] at h
                      have e9 : pb (mfN t j s wk (i + 1)) = pb (okM t j (s + (i : Int)) wk) := pb_c ⟨fun q => (mfN_s.mp q).2, fun q => mfN_s.mpr ⟨Classical.byContradiction (fun z => c20 (pb_f z)), q⟩⟩
                      rw [e9] at h
                      have hm : (moM t (s + (i : Int)) wk ∧ mrM t 18 (s + (i : Int)) wk = t 18 (t 8 0).toNat ∧ mrM t 19 (s + (i : Int)) wk = t 19 (t 8 0).toNat) ∨ (¬ moM t (s + (i : Int)) wk ∧ mrM t 18 (s + (i : Int)) wk = 0 ∧ mrM t 19 (s + (i : Int)) wk = 0) := by
                        by_cases q : moM t (s + (i : Int)) wk
                        · exact Or.inl ⟨q, by unfold mrM; rw [pif_t q], by unfold mrM; rw [pif_t q]⟩
                        · exact Or.inr ⟨q, by unfold mrM; rw [pif_f q], by unfold mrM; rw [pif_f q]⟩
                      have hno : (w = 0 ∨ t 9 0 = -1 ∨ s + (i : Int) < t 9 0 ∨ t 9 0 + t 37 0 ≤ s + (i : Int)) → ¬ moM t (s + (i : Int)) wk := by
                        rintro (z | z | z | z) ⟨m1, m2, m3, m4⟩
                        · exact hpz z m1
                        · exact m2 z
                        · omega
                        · omega
                      have hyes : ¬ w = 0 → ¬ t 9 0 = -1 → ¬ s + (i : Int) < t 9 0 → ¬ t 9 0 + t 37 0 ≤ s + (i : Int) → moM t (s + (i : Int)) wk := fun z1 z2 z3 z4 => ⟨hpw z1, z2, by omega, by omega⟩
                      first
                        | (rw [show pb (okM t j (s + (i : Int)) wk) = 1 from pb_t (by
                              unfold okM
                              rcases hm with ⟨m0, m1, m2⟩ | ⟨m0, m1, m2⟩ <;> rw [m1, m2]
                              · first | exact ⟨by omega, by omega⟩ | exact absurd m0 (hno (by omega))
                              · first | exact ⟨by omega, by omega⟩ | exact absurd (hyes (by omega) (by omega) (by omega) (by omega)) m0)] at h
                           exact h _ _ _)
                        | (rw [show pb (okM t j (s + (i : Int)) wk) = 0 from pb_f (fun z => by
                              unfold okM at z
                              rcases hm with ⟨m0, m1, m2⟩ | ⟨m0, m1, m2⟩ <;> rw [m1, m2] at z
                              · first | exact absurd m0 (hno (by omega)) | omega
                              · first | exact absurd (hyes (by omega) (by omega) (by omega) (by omega)) m0 | omega)] at h
                           exact h _ _ _)
                · refine r_aload_n C d_Md_fits_129 rfl ?_
                  refine g_Md_needs C lk_Md_36 d_Md_fits_130 ?_
                  refine r_aload_n C d_Md_fits_133 rfl ?_
                  refine g_Md_blocked C lk_Md_81 d_Md_fits_134 ?_
                  refine x_Md_needs C (t 8 0).toNat (by first | (have := hw8 (hpw c24); omega) | omega) (by omega) d_Md_fits_137 ?_
                  refine r_goto (tgt := 142) C d_Md_fits_138 (by decide) ?_
                  refine r_iadd C d_Md_fits_142 ?_
                  refine r_istore_8 C d_Md_fits_143 ?_
                  refine r_iload C d_Md_fits_145 rfl ?_
                  refine r_aload_n C d_Md_fits_147 rfl ?_
                  refine g_Md_roomNow C lk_Md_165 d_Md_fits_148 ?_
                  
                  refine r_icmp_gt (tgt := 167) C d_Md_fits_151 (by decide) (by first | assumption | exact bd_ir (by assumption) rfl | exact b2i_ir _ | exact pb_ir _ | exact ir_mk (by omega) (by omega)) (by first | assumption | exact bd_ir (by assumption) rfl | exact b2i_ir _ | exact pb_ir _ | exact ir_mk (by omega) (by omega)) (fun c151 => ?_) (fun c151 => ?_)
                  · refine r_iconst C d_Md_fits_167 ?_
                    refine r_istore_4 C d_Md_fits_168 ?_
                    refine r_iinc_5 C d_Md_fits_170 ?_
                    refine r_goto (tgt := 6) C d_Md_fits_173 (by decide) ?_
                    have h := fun X Y Z => ih (i + 1) X Y Z (by omega) (by omega)
                    rw [show s + ((i + 1 : Nat) : Int) = s + (i : Int) + 1 by omega] at h
                    have e9 : pb (mfN t j s wk (i + 1)) = pb (okM t j (s + (i : Int)) wk) := pb_c ⟨fun q => (mfN_s.mp q).2, fun q => mfN_s.mpr ⟨Classical.byContradiction (fun z => c20 (pb_f z)), q⟩⟩
                    rw [e9] at h
                    have hm : (moM t (s + (i : Int)) wk ∧ mrM t 18 (s + (i : Int)) wk = t 18 (t 8 0).toNat ∧ mrM t 19 (s + (i : Int)) wk = t 19 (t 8 0).toNat) ∨ (¬ moM t (s + (i : Int)) wk ∧ mrM t 18 (s + (i : Int)) wk = 0 ∧ mrM t 19 (s + (i : Int)) wk = 0) := by
                      by_cases q : moM t (s + (i : Int)) wk
                      · exact Or.inl ⟨q, by unfold mrM; rw [pif_t q], by unfold mrM; rw [pif_t q]⟩
                      · exact Or.inr ⟨q, by unfold mrM; rw [pif_f q], by unfold mrM; rw [pif_f q]⟩
                    have hno : (w = 0 ∨ t 9 0 = -1 ∨ s + (i : Int) < t 9 0 ∨ t 9 0 + t 37 0 ≤ s + (i : Int)) → ¬ moM t (s + (i : Int)) wk := by
                      rintro (z | z | z | z) ⟨m1, m2, m3, m4⟩
                      · exact hpz z m1
                      · exact m2 z
                      · omega
                      · omega
                    have hyes : ¬ w = 0 → ¬ t 9 0 = -1 → ¬ s + (i : Int) < t 9 0 → ¬ t 9 0 + t 37 0 ≤ s + (i : Int) → moM t (s + (i : Int)) wk := fun z1 z2 z3 z4 => ⟨hpw z1, z2, by omega, by omega⟩
                    first
                      | (rw [show pb (okM t j (s + (i : Int)) wk) = 1 from pb_t (by
                            unfold okM
                            rcases hm with ⟨m0, m1, m2⟩ | ⟨m0, m1, m2⟩ <;> rw [m1, m2]
                            · first | exact ⟨by omega, by omega⟩ | exact absurd m0 (hno (by omega))
                            · first | exact ⟨by omega, by omega⟩ | exact absurd (hyes (by omega) (by omega) (by omega) (by omega)) m0)] at h
                         exact h _ _ _)
                      | (rw [show pb (okM t j (s + (i : Int)) wk) = 0 from pb_f (fun z => by
                            unfold okM at z
                            rcases hm with ⟨m0, m1, m2⟩ | ⟨m0, m1, m2⟩ <;> rw [m1, m2] at z
                            · first | exact absurd m0 (hno (by omega)) | omega
                            · first | exact absurd (hyes (by omega) (by omega) (by omega) (by omega)) m0 | omega)] at h
                         exact h _ _ _)
                  · refine r_iload C d_Md_fits_154 rfl ?_
                    refine r_aload_n C d_Md_fits_156 rfl ?_
                    refine g_Md_allLicences C lk_Md_13 d_Md_fits_157 ?_
                    refine r_icmp_gt (tgt := 167) C d_Md_fits_160 (by decide) (by first | assumption | exact bd_ir (by assumption) rfl | exact b2i_ir _ | exact pb_ir _ | exact ir_mk (by omega) (by omega)) (by first | assumption | exact bd_ir (by assumption) rfl | exact b2i_ir _ | exact pb_ir _ | exact ir_mk (by omega) (by omega)) (fun c160 => ?_) (fun c160 => ?_)
                    · refine r_iconst C d_Md_fits_167 ?_
                      refine r_istore_4 C d_Md_fits_168 ?_
                      refine r_iinc_5 C d_Md_fits_170 ?_
                      refine r_goto (tgt := 6) C d_Md_fits_173 (by decide) ?_
                      have h := fun X Y Z => ih (i + 1) X Y Z (by omega) (by omega)
                      rw [show s + ((i + 1 : Nat) : Int) = s + (i : Int) + 1 by omega] at h
                      have e9 : pb (mfN t j s wk (i + 1)) = pb (okM t j (s + (i : Int)) wk) := pb_c ⟨fun q => (mfN_s.mp q).2, fun q => mfN_s.mpr ⟨Classical.byContradiction (fun z => c20 (pb_f z)), q⟩⟩
                      rw [e9] at h
                      have hm : (moM t (s + (i : Int)) wk ∧ mrM t 18 (s + (i : Int)) wk = t 18 (t 8 0).toNat ∧ mrM t 19 (s + (i : Int)) wk = t 19 (t 8 0).toNat) ∨ (¬ moM t (s + (i : Int)) wk ∧ mrM t 18 (s + (i : Int)) wk = 0 ∧ mrM t 19 (s + (i : Int)) wk = 0) := by
                        by_cases q : moM t (s + (i : Int)) wk
                        · exact Or.inl ⟨q, by unfold mrM; rw [pif_t q], by unfold mrM; rw [pif_t q]⟩
                        · exact Or.inr ⟨q, by unfold mrM; rw [pif_f q], by unfold mrM; rw [pif_f q]⟩
                      have hno : (w = 0 ∨ t 9 0 = -1 ∨ s + (i : Int) < t 9 0 ∨ t 9 0 + t 37 0 ≤ s + (i : Int)) → ¬ moM t (s + (i : Int)) wk := by
                        rintro (z | z | z | z) ⟨m1, m2, m3, m4⟩
                        · exact hpz z m1
                        · exact m2 z
                        · omega
                        · omega
                      have hyes : ¬ w = 0 → ¬ t 9 0 = -1 → ¬ s + (i : Int) < t 9 0 → ¬ t 9 0 + t 37 0 ≤ s + (i : Int) → moM t (s + (i : Int)) wk := fun z1 z2 z3 z4 => ⟨hpw z1, z2, by omega, by omega⟩
                      first
                        | (rw [show pb (okM t j (s + (i : Int)) wk) = 1 from pb_t (by
                              unfold okM
                              rcases hm with ⟨m0, m1, m2⟩ | ⟨m0, m1, m2⟩ <;> rw [m1, m2]
                              · first | exact ⟨by omega, by omega⟩ | exact absurd m0 (hno (by omega))
                              · first | exact ⟨by omega, by omega⟩ | exact absurd (hyes (by omega) (by omega) (by omega) (by omega)) m0)] at h
                           exact h _ _ _)
                        | (rw [show pb (okM t j (s + (i : Int)) wk) = 0 from pb_f (fun z => by
                              unfold okM at z
                              rcases hm with ⟨m0, m1, m2⟩ | ⟨m0, m1, m2⟩ <;> rw [m1, m2] at z
                              · first | exact absurd m0 (hno (by omega)) | omega
                              · first | exact absurd (hyes (by omega) (by omega) (by omega) (by omega)) m0 | omega)] at h
                           exact h _ _ _)
                    · refine r_iconst C d_Md_fits_163 ?_
                      refine r_goto (tgt := 168) C d_Md_fits_164 (by decide) ?_
                      refine r_istore_4 C d_Md_fits_168 ?_
                      refine r_iinc_5 C d_Md_fits_170 ?_
                      refine r_goto (tgt := 6) C d_Md_fits_173 (by decide) ?_
                      have h := fun X Y Z => ih (i + 1) X Y Z (by omega) (by omega)
                      rw [show s + ((i + 1 : Nat) : Int) = s + (i : Int) + 1 by omega] at h
                      have e9 : pb (mfN t j s wk (i + 1)) = pb (okM t j (s + (i : Int)) wk) := pb_c ⟨fun q => (mfN_s.mp q).2, fun q => mfN_s.mpr ⟨Classical.byContradiction (fun z => c20 (pb_f z)), q⟩⟩
                      rw [e9] at h
                      have hm : (moM t (s + (i : Int)) wk ∧ mrM t 18 (s + (i : Int)) wk = t 18 (t 8 0).toNat ∧ mrM t 19 (s + (i : Int)) wk = t 19 (t 8 0).toNat) ∨ (¬ moM t (s + (i : Int)) wk ∧ mrM t 18 (s + (i : Int)) wk = 0 ∧ mrM t 19 (s + (i : Int)) wk = 0) := by
                        by_cases q : moM t (s + (i : Int)) wk
                        · exact Or.inl ⟨q, by unfold mrM; rw [pif_t q], by unfold mrM; rw [pif_t q]⟩
                        · exact Or.inr ⟨q, by unfold mrM; rw [pif_f q], by unfold mrM; rw [pif_f q]⟩
                      have hno : (w = 0 ∨ t 9 0 = -1 ∨ s + (i : Int) < t 9 0 ∨ t 9 0 + t 37 0 ≤ s + (i : Int)) → ¬ moM t (s + (i : Int)) wk := by
                        rintro (z | z | z | z) ⟨m1, m2, m3, m4⟩
                        · exact hpz z m1
                        · exact m2 z
                        · omega
                        · omega
                      have hyes : ¬ w = 0 → ¬ t 9 0 = -1 → ¬ s + (i : Int) < t 9 0 → ¬ t 9 0 + t 37 0 ≤ s + (i : Int) → moM t (s + (i : Int)) wk := fun z1 z2 z3 z4 => ⟨hpw z1, z2, by omega, by omega⟩
                      first
                        | (rw [show pb (okM t j (s + (i : Int)) wk) = 1 from pb_t (by
                              unfold okM
                              rcases hm with ⟨m0, m1, m2⟩ | ⟨m0, m1, m2⟩ <;> rw [m1, m2]
                              · first | exact ⟨by omega, by omega⟩ | exact absurd m0 (hno (by omega))
                              · first | exact ⟨by omega, by omega⟩ | exact absurd (hyes (by omega) (by omega) (by omega) (by omega)) m0)] at h
                           exact h _ _ _)
                        | (rw [show pb (okM t j (s + (i : Int)) wk) = 0 from pb_f (fun z => by
                              unfold okM at z
                              rcases hm with ⟨m0, m1, m2⟩ | ⟨m0, m1, m2⟩ <;> rw [m1, m2] at z
                              · first | exact absurd m0 (hno (by omega)) | omega
                              · first | exact absurd (hyes (by omega) (by omega) (by omega) (by omega)) m0 | omega)] at h
                           exact h _ _ _)
              · refine r_aload_n C d_Md_fits_89 rfl ?_
                refine g_Md_wants C lk_Md_33 d_Md_fits_90 ?_
                refine r_aload_n C d_Md_fits_93 rfl ?_
                refine g_Md_blocked C lk_Md_81 d_Md_fits_94 ?_
                refine x_Md_wants C (t 8 0).toNat (by first | (have := hw8 (hpw c24); omega) | omega) (by omega) d_Md_fits_97 ?_
                refine r_goto (tgt := 102) C d_Md_fits_98 (by decide) ?_
                refine r_iadd C d_Md_fits_102 ?_
                refine r_istore_7 C d_Md_fits_103 ?_
                refine r_aload_n C d_Md_fits_105 rfl ?_
                refine g_Md_licencesAt C lk_Md_90 d_Md_fits_106 ?_
                refine r_iload C d_Md_fits_109 rfl ?_
                refine r_aload_n C d_Md_fits_111 rfl ?_
                refine g_Md_time C lk_Md_148 d_Md_fits_112 ?_
                refine r_isub C d_Md_fits_115 ?_
                refine x_Md_licencesAt C (s + (i : Int) - t 4 0).toNat (by omega) (by omega) d_Md_fits_116 ?_
                refine r_aload_n C d_Md_fits_117 rfl ?_
                refine g_Md_needs C lk_Md_36 d_Md_fits_118 ?_
                refine r_iload_n C d_Md_fits_121 rfl ?_
                refine x_Md_needs C _ rfl (by omega) d_Md_fits_122 ?_
                refine r_iadd C d_Md_fits_123 ?_
                refine r_iload C d_Md_fits_124 rfl ?_
                refine r_if_eq (tgt := 141) C d_Md_fits_126 (by decide) (ir_mk (by omega) (by omega)) (fun c126 => ?_) (fun c126 => ?_)
                · refine r_iconst C d_Md_fits_141 ?_
                  refine r_iadd C d_Md_fits_142 ?_
                  refine r_istore_8 C d_Md_fits_143 ?_
                  refine r_iload C d_Md_fits_145 rfl ?_
                  refine r_aload_n C d_Md_fits_147 rfl ?_
                  refine g_Md_roomNow C lk_Md_165 d_Md_fits_148 ?_
                  
                  refine r_icmp_gt (tgt := 167) C d_Md_fits_151 (by decide) (by first | assumption | exact bd_ir (by assumption) rfl | exact b2i_ir _ | exact pb_ir _ | exact ir_mk (by omega) (by omega)) (by first | assumption | exact bd_ir (by assumption) rfl | exact b2i_ir _ | exact pb_ir _ | exact ir_mk (by omega) (by omega)) (fun c151 => ?_) (fun c151 => ?_)
                  · refine r_iconst C d_Md_fits_167 ?_
                    refine r_istore_4 C d_Md_fits_168 ?_
                    refine r_iinc_5 C d_Md_fits_170 ?_
                    refine r_goto (tgt := 6) C d_Md_fits_173 (by decide) ?_
                    have h := fun X Y Z => ih (i + 1) X Y Z (by omega) (by omega)
                    rw [show s + ((i + 1 : Nat) : Int) = s + (i : Int) + 1 by omega] at h
                    have e9 : pb (mfN t j s wk (i + 1)) = pb (okM t j (s + (i : Int)) wk) := pb_c ⟨fun q => (mfN_s.mp q).2, fun q => mfN_s.mpr ⟨Classical.byContradiction (fun z => c20 (pb_f z)), q⟩⟩
                    rw [e9] at h
                    have hm : (moM t (s + (i : Int)) wk ∧ mrM t 18 (s + (i : Int)) wk = t 18 (t 8 0).toNat ∧ mrM t 19 (s + (i : Int)) wk = t 19 (t 8 0).toNat) ∨ (¬ moM t (s + (i : Int)) wk ∧ mrM t 18 (s + (i : Int)) wk = 0 ∧ mrM t 19 (s + (i : Int)) wk = 0) := by
                      by_cases q : moM t (s + (i : Int)) wk
                      · exact Or.inl ⟨q, by unfold mrM; rw [pif_t q], by unfold mrM; rw [pif_t q]⟩
                      · exact Or.inr ⟨q, by unfold mrM; rw [pif_f q], by unfold mrM; rw [pif_f q]⟩
                    have hno : (w = 0 ∨ t 9 0 = -1 ∨ s + (i : Int) < t 9 0 ∨ t 9 0 + t 37 0 ≤ s + (i : Int)) → ¬ moM t (s + (i : Int)) wk := by
                      rintro (z | z | z | z) ⟨m1, m2, m3, m4⟩
                      · exact hpz z m1
                      · exact m2 z
                      · omega
                      · omega
                    have hyes : ¬ w = 0 → ¬ t 9 0 = -1 → ¬ s + (i : Int) < t 9 0 → ¬ t 9 0 + t 37 0 ≤ s + (i : Int) → moM t (s + (i : Int)) wk := fun z1 z2 z3 z4 => ⟨hpw z1, z2, by omega, by omega⟩
                    first
                      | (rw [show pb (okM t j (s + (i : Int)) wk) = 1 from pb_t (by
                            unfold okM
                            rcases hm with ⟨m0, m1, m2⟩ | ⟨m0, m1, m2⟩ <;> rw [m1, m2]
                            · first | exact ⟨by omega, by omega⟩ | exact absurd m0 (hno (by omega))
                            · first | exact ⟨by omega, by omega⟩ | exact absurd (hyes (by omega) (by omega) (by omega) (by omega)) m0)] at h
                         exact h _ _ _)
                      | (rw [show pb (okM t j (s + (i : Int)) wk) = 0 from pb_f (fun z => by
                            unfold okM at z
                            rcases hm with ⟨m0, m1, m2⟩ | ⟨m0, m1, m2⟩ <;> rw [m1, m2] at z
                            · first | exact absurd m0 (hno (by omega)) | omega
                            · first | exact absurd (hyes (by omega) (by omega) (by omega) (by omega)) m0 | omega)] at h
                         exact h _ _ _)
                  · refine r_iload C d_Md_fits_154 rfl ?_
                    refine r_aload_n C d_Md_fits_156 rfl ?_
                    refine g_Md_allLicences C lk_Md_13 d_Md_fits_157 ?_
                    refine r_icmp_gt (tgt := 167) C d_Md_fits_160 (by decide) (by first | assumption | exact bd_ir (by assumption) rfl | exact b2i_ir _ | exact pb_ir _ | exact ir_mk (by omega) (by omega)) (by first | assumption | exact bd_ir (by assumption) rfl | exact b2i_ir _ | exact pb_ir _ | exact ir_mk (by omega) (by omega)) (fun c160 => ?_) (fun c160 => ?_)
                    · refine r_iconst C d_Md_fits_167 ?_
                      refine r_istore_4 C d_Md_fits_168 ?_
                      refine r_iinc_5 C d_Md_fits_170 ?_
                      refine r_goto (tgt := 6) C d_Md_fits_173 (by decide) ?_
                      have h := fun X Y Z => ih (i + 1) X Y Z (by omega) (by omega)
                      rw [show s + ((i + 1 : Nat) : Int) = s + (i : Int) + 1 by omega] at h
                      have e9 : pb (mfN t j s wk (i + 1)) = pb (okM t j (s + (i : Int)) wk) := pb_c ⟨fun q => (mfN_s.mp q).2, fun q => mfN_s.mpr ⟨Classical.byContradiction (fun z => c20 (pb_f z)), q⟩⟩
                      rw [e9] at h
                      have hm : (moM t (s + (i : Int)) wk ∧ mrM t 18 (s + (i : Int)) wk = t 18 (t 8 0).toNat ∧ mrM t 19 (s + (i : Int)) wk = t 19 (t 8 0).toNat) ∨ (¬ moM t (s + (i : Int)) wk ∧ mrM t 18 (s + (i : Int)) wk = 0 ∧ mrM t 19 (s + (i : Int)) wk = 0) := by
                        by_cases q : moM t (s + (i : Int)) wk
                        · exact Or.inl ⟨q, by unfold mrM; rw [pif_t q], by unfold mrM; rw [pif_t q]⟩
                        · exact Or.inr ⟨q, by unfold mrM; rw [pif_f q], by unfold mrM; rw [pif_f q]⟩
                      have hno : (w = 0 ∨ t 9 0 = -1 ∨ s + (i : Int) < t 9 0 ∨ t 9 0 + t 37 0 ≤ s + (i : Int)) → ¬ moM t (s + (i : Int)) wk := by
                        rintro (z | z | z | z) ⟨m1, m2, m3, m4⟩
                        · exact hpz z m1
                        · exact m2 z
                        · omega
                        · omega
                      have hyes : ¬ w = 0 → ¬ t 9 0 = -1 → ¬ s + (i : Int) < t 9 0 → ¬ t 9 0 + t 37 0 ≤ s + (i : Int) → moM t (s + (i : Int)) wk := fun z1 z2 z3 z4 => ⟨hpw z1, z2, by omega, by omega⟩
                      first
                        | (rw [show pb (okM t j (s + (i : Int)) wk) = 1 from pb_t (by
                              unfold okM
                              rcases hm with ⟨m0, m1, m2⟩ | ⟨m0, m1, m2⟩ <;> rw [m1, m2]
                              · first | exact ⟨by omega, by omega⟩ | exact absurd m0 (hno (by omega))
                              · first | exact ⟨by omega, by omega⟩ | exact absurd (hyes (by omega) (by omega) (by omega) (by omega)) m0)] at h
                           exact h _ _ _)
                        | (rw [show pb (okM t j (s + (i : Int)) wk) = 0 from pb_f (fun z => by
                              unfold okM at z
                              rcases hm with ⟨m0, m1, m2⟩ | ⟨m0, m1, m2⟩ <;> rw [m1, m2] at z
                              · first | exact absurd m0 (hno (by omega)) | omega
                              · first | exact absurd (hyes (by omega) (by omega) (by omega) (by omega)) m0 | omega)] at h
                           exact h _ _ _)
                    · refine r_iconst C d_Md_fits_163 ?_
                      refine r_goto (tgt := 168) C d_Md_fits_164 (by decide) ?_
                      refine r_istore_4 C d_Md_fits_168 ?_
                      refine r_iinc_5 C d_Md_fits_170 ?_
                      refine r_goto (tgt := 6) C d_Md_fits_173 (by decide) ?_
                      have h := fun X Y Z => ih (i + 1) X Y Z (by omega) (by omega)
                      rw [show s + ((i + 1 : Nat) : Int) = s + (i : Int) + 1 by omega] at h
                      have e9 : pb (mfN t j s wk (i + 1)) = pb (okM t j (s + (i : Int)) wk) := pb_c ⟨fun q => (mfN_s.mp q).2, fun q => mfN_s.mpr ⟨Classical.byContradiction (fun z => c20 (pb_f z)), q⟩⟩
                      rw [e9] at h
                      have hm : (moM t (s + (i : Int)) wk ∧ mrM t 18 (s + (i : Int)) wk = t 18 (t 8 0).toNat ∧ mrM t 19 (s + (i : Int)) wk = t 19 (t 8 0).toNat) ∨ (¬ moM t (s + (i : Int)) wk ∧ mrM t 18 (s + (i : Int)) wk = 0 ∧ mrM t 19 (s + (i : Int)) wk = 0) := by
                        by_cases q : moM t (s + (i : Int)) wk
                        · exact Or.inl ⟨q, by unfold mrM; rw [pif_t q], by unfold mrM; rw [pif_t q]⟩
                        · exact Or.inr ⟨q, by unfold mrM; rw [pif_f q], by unfold mrM; rw [pif_f q]⟩
                      have hno : (w = 0 ∨ t 9 0 = -1 ∨ s + (i : Int) < t 9 0 ∨ t 9 0 + t 37 0 ≤ s + (i : Int)) → ¬ moM t (s + (i : Int)) wk := by
                        rintro (z | z | z | z) ⟨m1, m2, m3, m4⟩
                        · exact hpz z m1
                        · exact m2 z
                        · omega
                        · omega
                      have hyes : ¬ w = 0 → ¬ t 9 0 = -1 → ¬ s + (i : Int) < t 9 0 → ¬ t 9 0 + t 37 0 ≤ s + (i : Int) → moM t (s + (i : Int)) wk := fun z1 z2 z3 z4 => ⟨hpw z1, z2, by omega, by omega⟩
                      first
                        | (rw [show pb (okM t j (s + (i : Int)) wk) = 1 from pb_t (by
                              unfold okM
                              rcases hm with ⟨m0, m1, m2⟩ | ⟨m0, m1, m2⟩ <;> rw [m1, m2]
                              · first | exact ⟨by omega, by omega⟩ | exact absurd m0 (hno (by omega))
                              · first | exact ⟨by omega, by omega⟩ | exact absurd (hyes (by omega) (by omega) (by omega) (by omega)) m0)] at h
                           exact h _ _ _)
                        | (rw [show pb (okM t j (s + (i : Int)) wk) = 0 from pb_f (fun z => by
                              unfold okM at z
                              rcases hm with ⟨m0, m1, m2⟩ | ⟨m0, m1, m2⟩ <;> rw [m1, m2] at z
                              · first | exact absurd m0 (hno (by omega)) | omega
                              · first | exact absurd (hyes (by omega) (by omega) (by omega) (by omega)) m0 | omega)] at h
                           exact h _ _ _)
                · refine r_aload_n C d_Md_fits_129 rfl ?_
                  refine g_Md_needs C lk_Md_36 d_Md_fits_130 ?_
                  refine r_aload_n C d_Md_fits_133 rfl ?_
                  refine g_Md_blocked C lk_Md_81 d_Md_fits_134 ?_
                  refine x_Md_needs C (t 8 0).toNat (by first | (have := hw8 (hpw c24); omega) | omega) (by omega) d_Md_fits_137 ?_
                  refine r_goto (tgt := 142) C d_Md_fits_138 (by decide) ?_
                  refine r_iadd C d_Md_fits_142 ?_
                  refine r_istore_8 C d_Md_fits_143 ?_
                  refine r_iload C d_Md_fits_145 rfl ?_
                  refine r_aload_n C d_Md_fits_147 rfl ?_
                  refine g_Md_roomNow C lk_Md_165 d_Md_fits_148 ?_
                  
                  refine r_icmp_gt (tgt := 167) C d_Md_fits_151 (by decide) (by first | assumption | exact bd_ir (by assumption) rfl | exact b2i_ir _ | exact pb_ir _ | exact ir_mk (by omega) (by omega)) (by first | assumption | exact bd_ir (by assumption) rfl | exact b2i_ir _ | exact pb_ir _ | exact ir_mk (by omega) (by omega)) (fun c151 => ?_) (fun c151 => ?_)
                  · refine r_iconst C d_Md_fits_167 ?_
                    refine r_istore_4 C d_Md_fits_168 ?_
                    refine r_iinc_5 C d_Md_fits_170 ?_
                    refine r_goto (tgt := 6) C d_Md_fits_173 (by decide) ?_
                    have h := fun X Y Z => ih (i + 1) X Y Z (by omega) (by omega)
                    rw [show s + ((i + 1 : Nat) : Int) = s + (i : Int) + 1 by omega] at h
                    have e9 : pb (mfN t j s wk (i + 1)) = pb (okM t j (s + (i : Int)) wk) := pb_c ⟨fun q => (mfN_s.mp q).2, fun q => mfN_s.mpr ⟨Classical.byContradiction (fun z => c20 (pb_f z)), q⟩⟩
                    rw [e9] at h
                    have hm : (moM t (s + (i : Int)) wk ∧ mrM t 18 (s + (i : Int)) wk = t 18 (t 8 0).toNat ∧ mrM t 19 (s + (i : Int)) wk = t 19 (t 8 0).toNat) ∨ (¬ moM t (s + (i : Int)) wk ∧ mrM t 18 (s + (i : Int)) wk = 0 ∧ mrM t 19 (s + (i : Int)) wk = 0) := by
                      by_cases q : moM t (s + (i : Int)) wk
                      · exact Or.inl ⟨q, by unfold mrM; rw [pif_t q], by unfold mrM; rw [pif_t q]⟩
                      · exact Or.inr ⟨q, by unfold mrM; rw [pif_f q], by unfold mrM; rw [pif_f q]⟩
                    have hno : (w = 0 ∨ t 9 0 = -1 ∨ s + (i : Int) < t 9 0 ∨ t 9 0 + t 37 0 ≤ s + (i : Int)) → ¬ moM t (s + (i : Int)) wk := by
                      rintro (z | z | z | z) ⟨m1, m2, m3, m4⟩
                      · exact hpz z m1
                      · exact m2 z
                      · omega
                      · omega
                    have hyes : ¬ w = 0 → ¬ t 9 0 = -1 → ¬ s + (i : Int) < t 9 0 → ¬ t 9 0 + t 37 0 ≤ s + (i : Int) → moM t (s + (i : Int)) wk := fun z1 z2 z3 z4 => ⟨hpw z1, z2, by omega, by omega⟩
                    first
                      | (rw [show pb (okM t j (s + (i : Int)) wk) = 1 from pb_t (by
                            unfold okM
                            rcases hm with ⟨m0, m1, m2⟩ | ⟨m0, m1, m2⟩ <;> rw [m1, m2]
                            · first | exact ⟨by omega, by omega⟩ | exact absurd m0 (hno (by omega))
                            · first | exact ⟨by omega, by omega⟩ | exact absurd (hyes (by omega) (by omega) (by omega) (by omega)) m0)] at h
                         exact h _ _ _)
                      | (rw [show pb (okM t j (s + (i : Int)) wk) = 0 from pb_f (fun z => by
                            unfold okM at z
                            rcases hm with ⟨m0, m1, m2⟩ | ⟨m0, m1, m2⟩ <;> rw [m1, m2] at z
                            · first | exact absurd m0 (hno (by omega)) | omega
                            · first | exact absurd (hyes (by omega) (by omega) (by omega) (by omega)) m0 | omega)] at h
                         exact h _ _ _)
                  · refine r_iload C d_Md_fits_154 rfl ?_
                    refine r_aload_n C d_Md_fits_156 rfl ?_
                    refine g_Md_allLicences C lk_Md_13 d_Md_fits_157 ?_
                    refine r_icmp_gt (tgt := 167) C d_Md_fits_160 (by decide) (by first | assumption | exact bd_ir (by assumption) rfl | exact b2i_ir _ | exact pb_ir _ | exact ir_mk (by omega) (by omega)) (by first | assumption | exact bd_ir (by assumption) rfl | exact b2i_ir _ | exact pb_ir _ | exact ir_mk (by omega) (by omega)) (fun c160 => ?_) (fun c160 => ?_)
                    · refine r_iconst C d_Md_fits_167 ?_
                      refine r_istore_4 C d_Md_fits_168 ?_
                      refine r_iinc_5 C d_Md_fits_170 ?_
                      refine r_goto (tgt := 6) C d_Md_fits_173 (by decide) ?_
                      have h := fun X Y Z => ih (i + 1) X Y Z (by omega) (by omega)
                      rw [show s + ((i + 1 : Nat) : Int) = s + (i : Int) + 1 by omega] at h
                      have e9 : pb (mfN t j s wk (i + 1)) = pb (okM t j (s + (i : Int)) wk) := pb_c ⟨fun q => (mfN_s.mp q).2, fun q => mfN_s.mpr ⟨Classical.byContradiction (fun z => c20 (pb_f z)), q⟩⟩
                      rw [e9] at h
                      have hm : (moM t (s + (i : Int)) wk ∧ mrM t 18 (s + (i : Int)) wk = t 18 (t 8 0).toNat ∧ mrM t 19 (s + (i : Int)) wk = t 19 (t 8 0).toNat) ∨ (¬ moM t (s + (i : Int)) wk ∧ mrM t 18 (s + (i : Int)) wk = 0 ∧ mrM t 19 (s + (i : Int)) wk = 0) := by
                        by_cases q : moM t (s + (i : Int)) wk
                        · exact Or.inl ⟨q, by unfold mrM; rw [pif_t q], by unfold mrM; rw [pif_t q]⟩
                        · exact Or.inr ⟨q, by unfold mrM; rw [pif_f q], by unfold mrM; rw [pif_f q]⟩
                      have hno : (w = 0 ∨ t 9 0 = -1 ∨ s + (i : Int) < t 9 0 ∨ t 9 0 + t 37 0 ≤ s + (i : Int)) → ¬ moM t (s + (i : Int)) wk := by
                        rintro (z | z | z | z) ⟨m1, m2, m3, m4⟩
                        · exact hpz z m1
                        · exact m2 z
                        · omega
                        · omega
                      have hyes : ¬ w = 0 → ¬ t 9 0 = -1 → ¬ s + (i : Int) < t 9 0 → ¬ t 9 0 + t 37 0 ≤ s + (i : Int) → moM t (s + (i : Int)) wk := fun z1 z2 z3 z4 => ⟨hpw z1, z2, by omega, by omega⟩
                      first
                        | (rw [show pb (okM t j (s + (i : Int)) wk) = 1 from pb_t (by
                              unfold okM
                              rcases hm with ⟨m0, m1, m2⟩ | ⟨m0, m1, m2⟩ <;> rw [m1, m2]
                              · first | exact ⟨by omega, by omega⟩ | exact absurd m0 (hno (by omega))
                              · first | exact ⟨by omega, by omega⟩ | exact absurd (hyes (by omega) (by omega) (by omega) (by omega)) m0)] at h
                           exact h _ _ _)
                        | (rw [show pb (okM t j (s + (i : Int)) wk) = 0 from pb_f (fun z => by
                              unfold okM at z
                              rcases hm with ⟨m0, m1, m2⟩ | ⟨m0, m1, m2⟩ <;> rw [m1, m2] at z
                              · first | exact absurd m0 (hno (by omega)) | omega
                              · first | exact absurd (hyes (by omega) (by omega) (by omega) (by omega)) m0 | omega)] at h
                           exact h _ _ _)
                    · refine r_iconst C d_Md_fits_163 ?_
                      refine r_goto (tgt := 168) C d_Md_fits_164 (by decide) ?_
                      refine r_istore_4 C d_Md_fits_168 ?_
                      refine r_iinc_5 C d_Md_fits_170 ?_
                      refine r_goto (tgt := 6) C d_Md_fits_173 (by decide) ?_
                      have h := fun X Y Z => ih (i + 1) X Y Z (by omega) (by omega)
                      rw [show s + ((i + 1 : Nat) : Int) = s + (i : Int) + 1 by omega] at h
                      have e9 : pb (mfN t j s wk (i + 1)) = pb (okM t j (s + (i : Int)) wk) := pb_c ⟨fun q => (mfN_s.mp q).2, fun q => mfN_s.mpr ⟨Classical.byContradiction (fun z => c20 (pb_f z)), q⟩⟩
                      rw [e9] at h
                      have hm : (moM t (s + (i : Int)) wk ∧ mrM t 18 (s + (i : Int)) wk = t 18 (t 8 0).toNat ∧ mrM t 19 (s + (i : Int)) wk = t 19 (t 8 0).toNat) ∨ (¬ moM t (s + (i : Int)) wk ∧ mrM t 18 (s + (i : Int)) wk = 0 ∧ mrM t 19 (s + (i : Int)) wk = 0) := by
                        by_cases q : moM t (s + (i : Int)) wk
                        · exact Or.inl ⟨q, by unfold mrM; rw [pif_t q], by unfold mrM; rw [pif_t q]⟩
                        · exact Or.inr ⟨q, by unfold mrM; rw [pif_f q], by unfold mrM; rw [pif_f q]⟩
                      have hno : (w = 0 ∨ t 9 0 = -1 ∨ s + (i : Int) < t 9 0 ∨ t 9 0 + t 37 0 ≤ s + (i : Int)) → ¬ moM t (s + (i : Int)) wk := by
                        rintro (z | z | z | z) ⟨m1, m2, m3, m4⟩
                        · exact hpz z m1
                        · exact m2 z
                        · omega
                        · omega
                      have hyes : ¬ w = 0 → ¬ t 9 0 = -1 → ¬ s + (i : Int) < t 9 0 → ¬ t 9 0 + t 37 0 ≤ s + (i : Int) → moM t (s + (i : Int)) wk := fun z1 z2 z3 z4 => ⟨hpw z1, z2, by omega, by omega⟩
                      first
                        | (rw [show pb (okM t j (s + (i : Int)) wk) = 1 from pb_t (by
                              unfold okM
                              rcases hm with ⟨m0, m1, m2⟩ | ⟨m0, m1, m2⟩ <;> rw [m1, m2]
                              · first | exact ⟨by omega, by omega⟩ | exact absurd m0 (hno (by omega))
                              · first | exact ⟨by omega, by omega⟩ | exact absurd (hyes (by omega) (by omega) (by omega) (by omega)) m0)] at h
                           exact h _ _ _)
                        | (rw [show pb (okM t j (s + (i : Int)) wk) = 0 from pb_f (fun z => by
                              unfold okM at z
                              rcases hm with ⟨m0, m1, m2⟩ | ⟨m0, m1, m2⟩ <;> rw [m1, m2] at z
                              · first | exact absurd m0 (hno (by omega)) | omega
                              · first | exact absurd (hyes (by omega) (by omega) (by omega) (by omega)) m0 | omega)] at h
                           exact h _ _ _)
            · refine r_iload C d_Md_fits_35 rfl ?_
              refine r_aload_n C d_Md_fits_37 rfl ?_
              refine g_Md_kept C lk_Md_84 d_Md_fits_38 ?_
              refine r_icmp_lt (tgt := 62) C d_Md_fits_41 (by decide) (by first | assumption | exact bd_ir (by assumption) rfl | exact b2i_ir _ | exact pb_ir _ | exact ir_mk (by omega) (by omega)) (by first | assumption | exact bd_ir (by assumption) rfl | exact b2i_ir _ | exact pb_ir _ | exact ir_mk (by omega) (by omega)) (fun c41 => ?_) (fun c41 => ?_)
              · refine r_iconst C d_Md_fits_62 ?_
                refine r_istore_6 C d_Md_fits_63 ?_
                refine r_aload_n C d_Md_fits_65 rfl ?_
                refine g_Md_nodesAt C lk_Md_87 d_Md_fits_66 ?_
                refine r_iload C d_Md_fits_69 rfl ?_
                refine r_aload_n C d_Md_fits_71 rfl ?_
                refine g_Md_time C lk_Md_148 d_Md_fits_72 ?_
                refine r_isub C d_Md_fits_75 ?_
                refine x_Md_nodesAt C (s + (i : Int) - t 4 0).toNat (by omega) (by omega) d_Md_fits_76 ?_
                refine r_aload_n C d_Md_fits_77 rfl ?_
                refine g_Md_wants C lk_Md_33 d_Md_fits_78 ?_
                refine r_iload_n C d_Md_fits_81 rfl ?_
                refine x_Md_wants C _ rfl (by omega) d_Md_fits_82 ?_
                refine r_iadd C d_Md_fits_83 ?_
                refine r_iload C d_Md_fits_84 rfl ?_
                refine r_if_eq (tgt := 101) C d_Md_fits_86 (by decide) (ir_mk (by omega) (by omega)) (fun c86 => ?_) (fun c86 => ?_)
                · refine r_iconst C d_Md_fits_101 ?_
                  refine r_iadd C d_Md_fits_102 ?_
                  refine r_istore_7 C d_Md_fits_103 ?_
                  refine r_aload_n C d_Md_fits_105 rfl ?_
                  refine g_Md_licencesAt C lk_Md_90 d_Md_fits_106 ?_
                  refine r_iload C d_Md_fits_109 rfl ?_
                  refine r_aload_n C d_Md_fits_111 rfl ?_
                  refine g_Md_time C lk_Md_148 d_Md_fits_112 ?_
                  refine r_isub C d_Md_fits_115 ?_
                  refine x_Md_licencesAt C (s + (i : Int) - t 4 0).toNat (by omega) (by omega) d_Md_fits_116 ?_
                  refine r_aload_n C d_Md_fits_117 rfl ?_
                  refine g_Md_needs C lk_Md_36 d_Md_fits_118 ?_
                  refine r_iload_n C d_Md_fits_121 rfl ?_
                  refine x_Md_needs C _ rfl (by omega) d_Md_fits_122 ?_
                  refine r_iadd C d_Md_fits_123 ?_
                  refine r_iload C d_Md_fits_124 rfl ?_
                  refine r_if_eq (tgt := 141) C d_Md_fits_126 (by decide) (ir_mk (by omega) (by omega)) (fun c126 => ?_) (fun c126 => ?_)
                  · refine r_iconst C d_Md_fits_141 ?_
                    refine r_iadd C d_Md_fits_142 ?_
                    refine r_istore_8 C d_Md_fits_143 ?_
                    refine r_iload C d_Md_fits_145 rfl ?_
                    refine r_aload_n C d_Md_fits_147 rfl ?_
                    refine g_Md_roomNow C lk_Md_165 d_Md_fits_148 ?_
                    
                    refine r_icmp_gt (tgt := 167) C d_Md_fits_151 (by decide) (by first | assumption | exact bd_ir (by assumption) rfl | exact b2i_ir _ | exact pb_ir _ | exact ir_mk (by omega) (by omega)) (by first | assumption | exact bd_ir (by assumption) rfl | exact b2i_ir _ | exact pb_ir _ | exact ir_mk (by omega) (by omega)) (fun c151 => ?_) (fun c151 => ?_)
                    · refine r_iconst C d_Md_fits_167 ?_
                      refine r_istore_4 C d_Md_fits_168 ?_
                      refine r_iinc_5 C d_Md_fits_170 ?_
                      refine r_goto (tgt := 6) C d_Md_fits_173 (by decide) ?_
                      have h := fun X Y Z => ih (i + 1) X Y Z (by omega) (by omega)
                      rw [show s + ((i + 1 : Nat) : Int) = s + (i : Int) + 1 by omega] at h
                      have e9 : pb (mfN t j s wk (i + 1)) = pb (okM t j (s + (i : Int)) wk) := pb_c ⟨fun q => (mfN_s.mp q).2, fun q => mfN_s.mpr ⟨Classical.byContradiction (fun z => c20 (pb_f z)), q⟩⟩
                      rw [e9] at h
                      have hm : (moM t (s + (i : Int)) wk ∧ mrM t 18 (s + (i : Int)) wk = t 18 (t 8 0).toNat ∧ mrM t 19 (s + (i : Int)) wk = t 19 (t 8 0).toNat) ∨ (¬ moM t (s + (i : Int)) wk ∧ mrM t 18 (s + (i : Int)) wk = 0 ∧ mrM t 19 (s + (i : Int)) wk = 0) := by
                        by_cases q : moM t (s + (i : Int)) wk
                        · exact Or.inl ⟨q, by unfold mrM; rw [pif_t q], by unfold mrM; rw [pif_t q]⟩
                        · exact Or.inr ⟨q, by unfold mrM; rw [pif_f q], by unfold mrM; rw [pif_f q]⟩
                      have hno : (w = 0 ∨ t 9 0 = -1 ∨ s + (i : Int) < t 9 0 ∨ t 9 0 + t 37 0 ≤ s + (i : Int)) → ¬ moM t (s + (i : Int)) wk := by
                        rintro (z | z | z | z) ⟨m1, m2, m3, m4⟩
                        · exact hpz z m1
                        · exact m2 z
                        · omega
                        · omega
                      have hyes : ¬ w = 0 → ¬ t 9 0 = -1 → ¬ s + (i : Int) < t 9 0 → ¬ t 9 0 + t 37 0 ≤ s + (i : Int) → moM t (s + (i : Int)) wk := fun z1 z2 z3 z4 => ⟨hpw z1, z2, by omega, by omega⟩
                      first
                        | (rw [show pb (okM t j (s + (i : Int)) wk) = 1 from pb_t (by
                              unfold okM
                              rcases hm with ⟨m0, m1, m2⟩ | ⟨m0, m1, m2⟩ <;> rw [m1, m2]
                              · first | exact ⟨by omega, by omega⟩ | exact absurd m0 (hno (by omega))
                              · first | exact ⟨by omega, by omega⟩ | exact absurd (hyes (by omega) (by omega) (by omega) (by omega)) m0)] at h
                           exact h _ _ _)
                        | (rw [show pb (okM t j (s + (i : Int)) wk) = 0 from pb_f (fun z => by
                              unfold okM at z
                              rcases hm with ⟨m0, m1, m2⟩ | ⟨m0, m1, m2⟩ <;> rw [m1, m2] at z
                              · first | exact absurd m0 (hno (by omega)) | omega
                              · first | exact absurd (hyes (by omega) (by omega) (by omega) (by omega)) m0 | omega)] at h
                           exact h _ _ _)
                    · refine r_iload C d_Md_fits_154 rfl ?_
                      refine r_aload_n C d_Md_fits_156 rfl ?_
                      refine g_Md_allLicences C lk_Md_13 d_Md_fits_157 ?_
                      refine r_icmp_gt (tgt := 167) C d_Md_fits_160 (by decide) (by first | assumption | exact bd_ir (by assumption) rfl | exact b2i_ir _ | exact pb_ir _ | exact ir_mk (by omega) (by omega)) (by first | assumption | exact bd_ir (by assumption) rfl | exact b2i_ir _ | exact pb_ir _ | exact ir_mk (by omega) (by omega)) (fun c160 => ?_) (fun c160 => ?_)
                      · refine r_iconst C d_Md_fits_167 ?_
                        refine r_istore_4 C d_Md_fits_168 ?_
                        refine r_iinc_5 C d_Md_fits_170 ?_
                        refine r_goto (tgt := 6) C d_Md_fits_173 (by decide) ?_
                        have h := fun X Y Z => ih (i + 1) X Y Z (by omega) (by omega)
                        rw [show s + ((i + 1 : Nat) : Int) = s + (i : Int) + 1 by omega] at h
                        have e9 : pb (mfN t j s wk (i + 1)) = pb (okM t j (s + (i : Int)) wk) := pb_c ⟨fun q => (mfN_s.mp q).2, fun q => mfN_s.mpr ⟨Classical.byContradiction (fun z => c20 (pb_f z)), q⟩⟩
                        rw [e9] at h
                        have hm : (moM t (s + (i : Int)) wk ∧ mrM t 18 (s + (i : Int)) wk = t 18 (t 8 0).toNat ∧ mrM t 19 (s + (i : Int)) wk = t 19 (t 8 0).toNat) ∨ (¬ moM t (s + (i : Int)) wk ∧ mrM t 18 (s + (i : Int)) wk = 0 ∧ mrM t 19 (s + (i : Int)) wk = 0) := by
                          by_cases q : moM t (s + (i : Int)) wk
                          · exact Or.inl ⟨q, by unfold mrM; rw [pif_t q], by unfold mrM; rw [pif_t q]⟩
                          · exact Or.inr ⟨q, by unfold mrM; rw [pif_f q], by unfold mrM; rw [pif_f q]⟩
                        have hno : (w = 0 ∨ t 9 0 = -1 ∨ s + (i : Int) < t 9 0 ∨ t 9 0 + t 37 0 ≤ s + (i : Int)) → ¬ moM t (s + (i : Int)) wk := by
                          rintro (z | z | z | z) ⟨m1, m2, m3, m4⟩
                          · exact hpz z m1
                          · exact m2 z
                          · omega
                          · omega
                        have hyes : ¬ w = 0 → ¬ t 9 0 = -1 → ¬ s + (i : Int) < t 9 0 → ¬ t 9 0 + t 37 0 ≤ s + (i : Int) → moM t (s + (i : Int)) wk := fun z1 z2 z3 z4 => ⟨hpw z1, z2, by omega, by omega⟩
                        first
                          | (rw [show pb (okM t j (s + (i : Int)) wk) = 1 from pb_t (by
                                unfold okM
                                rcases hm with ⟨m0, m1, m2⟩ | ⟨m0, m1, m2⟩ <;> rw [m1, m2]
                                · first | exact ⟨by omega, by omega⟩ | exact absurd m0 (hno (by omega))
                                · first | exact ⟨by omega, by omega⟩ | exact absurd (hyes (by omega) (by omega) (by omega) (by omega)) m0)] at h
                             exact h _ _ _)
                          | (rw [show pb (okM t j (s + (i : Int)) wk) = 0 from pb_f (fun z => by
                                unfold okM at z
                                rcases hm with ⟨m0, m1, m2⟩ | ⟨m0, m1, m2⟩ <;> rw [m1, m2] at z
                                · first | exact absurd m0 (hno (by omega)) | omega
                                · first | exact absurd (hyes (by omega) (by omega) (by omega) (by omega)) m0 | omega)] at h
                             exact h _ _ _)
                      · refine r_iconst C d_Md_fits_163 ?_
                        refine r_goto (tgt := 168) C d_Md_fits_164 (by decide) ?_
                        refine r_istore_4 C d_Md_fits_168 ?_
                        refine r_iinc_5 C d_Md_fits_170 ?_
                        refine r_goto (tgt := 6) C d_Md_fits_173 (by decide) ?_
                        have h := fun X Y Z => ih (i + 1) X Y Z (by omega) (by omega)
                        rw [show s + ((i + 1 : Nat) : Int) = s + (i : Int) + 1 by omega] at h
                        have e9 : pb (mfN t j s wk (i + 1)) = pb (okM t j (s + (i : Int)) wk) := pb_c ⟨fun q => (mfN_s.mp q).2, fun q => mfN_s.mpr ⟨Classical.byContradiction (fun z => c20 (pb_f z)), q⟩⟩
                        rw [e9] at h
                        have hm : (moM t (s + (i : Int)) wk ∧ mrM t 18 (s + (i : Int)) wk = t 18 (t 8 0).toNat ∧ mrM t 19 (s + (i : Int)) wk = t 19 (t 8 0).toNat) ∨ (¬ moM t (s + (i : Int)) wk ∧ mrM t 18 (s + (i : Int)) wk = 0 ∧ mrM t 19 (s + (i : Int)) wk = 0) := by
                          by_cases q : moM t (s + (i : Int)) wk
                          · exact Or.inl ⟨q, by unfold mrM; rw [pif_t q], by unfold mrM; rw [pif_t q]⟩
                          · exact Or.inr ⟨q, by unfold mrM; rw [pif_f q], by unfold mrM; rw [pif_f q]⟩
                        have hno : (w = 0 ∨ t 9 0 = -1 ∨ s + (i : Int) < t 9 0 ∨ t 9 0 + t 37 0 ≤ s + (i : Int)) → ¬ moM t (s + (i : Int)) wk := by
                          rintro (z | z | z | z) ⟨m1, m2, m3, m4⟩
                          · exact hpz z m1
                          · exact m2 z
                          · omega
                          · omega
                        have hyes : ¬ w = 0 → ¬ t 9 0 = -1 → ¬ s + (i : Int) < t 9 0 → ¬ t 9 0 + t 37 0 ≤ s + (i : Int) → moM t (s + (i : Int)) wk := fun z1 z2 z3 z4 => ⟨hpw z1, z2, by omega, by omega⟩
                        first
                          | (rw [show pb (okM t j (s + (i : Int)) wk) = 1 from pb_t (by
                                unfold okM
                                rcases hm with ⟨m0, m1, m2⟩ | ⟨m0, m1, m2⟩ <;> rw [m1, m2]
                                · first | exact ⟨by omega, by omega⟩ | exact absurd m0 (hno (by omega))
                                · first | exact ⟨by omega, by omega⟩ | exact absurd (hyes (by omega) (by omega) (by omega) (by omega)) m0)] at h
                             exact h _ _ _)
                          | (rw [show pb (okM t j (s + (i : Int)) wk) = 0 from pb_f (fun z => by
                                unfold okM at z
                                rcases hm with ⟨m0, m1, m2⟩ | ⟨m0, m1, m2⟩ <;> rw [m1, m2] at z
                                · first | exact absurd m0 (hno (by omega)) | omega
                                · first | exact absurd (hyes (by omega) (by omega) (by omega) (by omega)) m0 | omega)] at h
                             exact h _ _ _)
                  · refine r_aload_n C d_Md_fits_129 rfl ?_
                    refine g_Md_needs C lk_Md_36 d_Md_fits_130 ?_
                    refine r_aload_n C d_Md_fits_133 rfl ?_
                    refine g_Md_blocked C lk_Md_81 d_Md_fits_134 ?_
                    refine x_Md_needs C (t 8 0).toNat (by first | (have := hw8 (hpw c24); omega) | omega) (by omega) d_Md_fits_137 ?_
                    refine r_goto (tgt := 142) C d_Md_fits_138 (by decide) ?_
                    refine r_iadd C d_Md_fits_142 ?_
                    refine r_istore_8 C d_Md_fits_143 ?_
                    refine r_iload C d_Md_fits_145 rfl ?_
                    refine r_aload_n C d_Md_fits_147 rfl ?_
                    refine g_Md_roomNow C lk_Md_165 d_Md_fits_148 ?_
                    
                    refine r_icmp_gt (tgt := 167) C d_Md_fits_151 (by decide) (by first | assumption | exact bd_ir (by assumption) rfl | exact b2i_ir _ | exact pb_ir _ | exact ir_mk (by omega) (by omega)) (by first | assumption | exact bd_ir (by assumption) rfl | exact b2i_ir _ | exact pb_ir _ | exact ir_mk (by omega) (by omega)) (fun c151 => ?_) (fun c151 => ?_)
                    · refine r_iconst C d_Md_fits_167 ?_
                      refine r_istore_4 C d_Md_fits_168 ?_
                      refine r_iinc_5 C d_Md_fits_170 ?_
                      refine r_goto (tgt := 6) C d_Md_fits_173 (by decide) ?_
                      have h := fun X Y Z => ih (i + 1) X Y Z (by omega) (by omega)
                      rw [show s + ((i + 1 : Nat) : Int) = s + (i : Int) + 1 by omega] at h
                      have e9 : pb (mfN t j s wk (i + 1)) = pb (okM t j (s + (i : Int)) wk) := pb_c ⟨fun q => (mfN_s.mp q).2, fun q => mfN_s.mpr ⟨Classical.byContradiction (fun z => c20 (pb_f z)), q⟩⟩
                      rw [e9] at h
                      have hm : (moM t (s + (i : Int)) wk ∧ mrM t 18 (s + (i : Int)) wk = t 18 (t 8 0).toNat ∧ mrM t 19 (s + (i : Int)) wk = t 19 (t 8 0).toNat) ∨ (¬ moM t (s + (i : Int)) wk ∧ mrM t 18 (s + (i : Int)) wk = 0 ∧ mrM t 19 (s + (i : Int)) wk = 0) := by
                        by_cases q : moM t (s + (i : Int)) wk
                        · exact Or.inl ⟨q, by unfold mrM; rw [pif_t q], by unfold mrM; rw [pif_t q]⟩
                        · exact Or.inr ⟨q, by unfold mrM; rw [pif_f q], by unfold mrM; rw [pif_f q]⟩
                      have hno : (w = 0 ∨ t 9 0 = -1 ∨ s + (i : Int) < t 9 0 ∨ t 9 0 + t 37 0 ≤ s + (i : Int)) → ¬ moM t (s + (i : Int)) wk := by
                        rintro (z | z | z | z) ⟨m1, m2, m3, m4⟩
                        · exact hpz z m1
                        · exact m2 z
                        · omega
                        · omega
                      have hyes : ¬ w = 0 → ¬ t 9 0 = -1 → ¬ s + (i : Int) < t 9 0 → ¬ t 9 0 + t 37 0 ≤ s + (i : Int) → moM t (s + (i : Int)) wk := fun z1 z2 z3 z4 => ⟨hpw z1, z2, by omega, by omega⟩
                      first
                        | (rw [show pb (okM t j (s + (i : Int)) wk) = 1 from pb_t (by
                              unfold okM
                              rcases hm with ⟨m0, m1, m2⟩ | ⟨m0, m1, m2⟩ <;> rw [m1, m2]
                              · first | exact ⟨by omega, by omega⟩ | exact absurd m0 (hno (by omega))
                              · first | exact ⟨by omega, by omega⟩ | exact absurd (hyes (by omega) (by omega) (by omega) (by omega)) m0)] at h
                           exact h _ _ _)
                        | (rw [show pb (okM t j (s + (i : Int)) wk) = 0 from pb_f (fun z => by
                              unfold okM at z
                              rcases hm with ⟨m0, m1, m2⟩ | ⟨m0, m1, m2⟩ <;> rw [m1, m2] at z
                              · first | exact absurd m0 (hno (by omega)) | omega
                              · first | exact absurd (hyes (by omega) (by omega) (by omega) (by omega)) m0 | omega)] at h
                           exact h _ _ _)
                    · refine r_iload C d_Md_fits_154 rfl ?_
                      refine r_aload_n C d_Md_fits_156 rfl ?_
                      refine g_Md_allLicences C lk_Md_13 d_Md_fits_157 ?_
                      refine r_icmp_gt (tgt := 167) C d_Md_fits_160 (by decide) (by first | assumption | exact bd_ir (by assumption) rfl | exact b2i_ir _ | exact pb_ir _ | exact ir_mk (by omega) (by omega)) (by first | assumption | exact bd_ir (by assumption) rfl | exact b2i_ir _ | exact pb_ir _ | exact ir_mk (by omega) (by omega)) (fun c160 => ?_) (fun c160 => ?_)
                      · refine r_iconst C d_Md_fits_167 ?_
                        refine r_istore_4 C d_Md_fits_168 ?_
                        refine r_iinc_5 C d_Md_fits_170 ?_
                        refine r_goto (tgt := 6) C d_Md_fits_173 (by decide) ?_
                        have h := fun X Y Z => ih (i + 1) X Y Z (by omega) (by omega)
                        rw [show s + ((i + 1 : Nat) : Int) = s + (i : Int) + 1 by omega] at h
                        have e9 : pb (mfN t j s wk (i + 1)) = pb (okM t j (s + (i : Int)) wk) := pb_c ⟨fun q => (mfN_s.mp q).2, fun q => mfN_s.mpr ⟨Classical.byContradiction (fun z => c20 (pb_f z)), q⟩⟩
                        rw [e9] at h
                        have hm : (moM t (s + (i : Int)) wk ∧ mrM t 18 (s + (i : Int)) wk = t 18 (t 8 0).toNat ∧ mrM t 19 (s + (i : Int)) wk = t 19 (t 8 0).toNat) ∨ (¬ moM t (s + (i : Int)) wk ∧ mrM t 18 (s + (i : Int)) wk = 0 ∧ mrM t 19 (s + (i : Int)) wk = 0) := by
                          by_cases q : moM t (s + (i : Int)) wk
                          · exact Or.inl ⟨q, by unfold mrM; rw [pif_t q], by unfold mrM; rw [pif_t q]⟩
                          · exact Or.inr ⟨q, by unfold mrM; rw [pif_f q], by unfold mrM; rw [pif_f q]⟩
                        have hno : (w = 0 ∨ t 9 0 = -1 ∨ s + (i : Int) < t 9 0 ∨ t 9 0 + t 37 0 ≤ s + (i : Int)) → ¬ moM t (s + (i : Int)) wk := by
                          rintro (z | z | z | z) ⟨m1, m2, m3, m4⟩
                          · exact hpz z m1
                          · exact m2 z
                          · omega
                          · omega
                        have hyes : ¬ w = 0 → ¬ t 9 0 = -1 → ¬ s + (i : Int) < t 9 0 → ¬ t 9 0 + t 37 0 ≤ s + (i : Int) → moM t (s + (i : Int)) wk := fun z1 z2 z3 z4 => ⟨hpw z1, z2, by omega, by omega⟩
                        first
                          | (rw [show pb (okM t j (s + (i : Int)) wk) = 1 from pb_t (by
                                unfold okM
                                rcases hm with ⟨m0, m1, m2⟩ | ⟨m0, m1, m2⟩ <;> rw [m1, m2]
                                · first | exact ⟨by omega, by omega⟩ | exact absurd m0 (hno (by omega))
                                · first | exact ⟨by omega, by omega⟩ | exact absurd (hyes (by omega) (by omega) (by omega) (by omega)) m0)] at h
                             exact h _ _ _)
                          | (rw [show pb (okM t j (s + (i : Int)) wk) = 0 from pb_f (fun z => by
                                unfold okM at z
                                rcases hm with ⟨m0, m1, m2⟩ | ⟨m0, m1, m2⟩ <;> rw [m1, m2] at z
                                · first | exact absurd m0 (hno (by omega)) | omega
                                · first | exact absurd (hyes (by omega) (by omega) (by omega) (by omega)) m0 | omega)] at h
                             exact h _ _ _)
                      · refine r_iconst C d_Md_fits_163 ?_
                        refine r_goto (tgt := 168) C d_Md_fits_164 (by decide) ?_
                        refine r_istore_4 C d_Md_fits_168 ?_
                        refine r_iinc_5 C d_Md_fits_170 ?_
                        refine r_goto (tgt := 6) C d_Md_fits_173 (by decide) ?_
                        have h := fun X Y Z => ih (i + 1) X Y Z (by omega) (by omega)
                        rw [show s + ((i + 1 : Nat) : Int) = s + (i : Int) + 1 by omega] at h
                        have e9 : pb (mfN t j s wk (i + 1)) = pb (okM t j (s + (i : Int)) wk) := pb_c ⟨fun q => (mfN_s.mp q).2, fun q => mfN_s.mpr ⟨Classical.byContradiction (fun z => c20 (pb_f z)), q⟩⟩
                        rw [e9] at h
                        have hm : (moM t (s + (i : Int)) wk ∧ mrM t 18 (s + (i : Int)) wk = t 18 (t 8 0).toNat ∧ mrM t 19 (s + (i : Int)) wk = t 19 (t 8 0).toNat) ∨ (¬ moM t (s + (i : Int)) wk ∧ mrM t 18 (s + (i : Int)) wk = 0 ∧ mrM t 19 (s + (i : Int)) wk = 0) := by
                          by_cases q : moM t (s + (i : Int)) wk
                          · exact Or.inl ⟨q, by unfold mrM; rw [pif_t q], by unfold mrM; rw [pif_t q]⟩
                          · exact Or.inr ⟨q, by unfold mrM; rw [pif_f q], by unfold mrM; rw [pif_f q]⟩
                        have hno : (w = 0 ∨ t 9 0 = -1 ∨ s + (i : Int) < t 9 0 ∨ t 9 0 + t 37 0 ≤ s + (i : Int)) → ¬ moM t (s + (i : Int)) wk := by
                          rintro (z | z | z | z) ⟨m1, m2, m3, m4⟩
                          · exact hpz z m1
                          · exact m2 z
                          · omega
                          · omega
                        have hyes : ¬ w = 0 → ¬ t 9 0 = -1 → ¬ s + (i : Int) < t 9 0 → ¬ t 9 0 + t 37 0 ≤ s + (i : Int) → moM t (s + (i : Int)) wk := fun z1 z2 z3 z4 => ⟨hpw z1, z2, by omega, by omega⟩
                        first
                          | (rw [show pb (okM t j (s + (i : Int)) wk) = 1 from pb_t (by
                                unfold okM
                                rcases hm with ⟨m0, m1, m2⟩ | ⟨m0, m1, m2⟩ <;> rw [m1, m2]
                                · first | exact ⟨by omega, by omega⟩ | exact absurd m0 (hno (by omega))
                                · first | exact ⟨by omega, by omega⟩ | exact absurd (hyes (by omega) (by omega) (by omega) (by omega)) m0)] at h
                             exact h _ _ _)
                          | (rw [show pb (okM t j (s + (i : Int)) wk) = 0 from pb_f (fun z => by
                                unfold okM at z
                                rcases hm with ⟨m0, m1, m2⟩ | ⟨m0, m1, m2⟩ <;> rw [m1, m2] at z
                                · first | exact absurd m0 (hno (by omega)) | omega
                                · first | exact absurd (hyes (by omega) (by omega) (by omega) (by omega)) m0 | omega)] at h
                             exact h _ _ _)
                · refine r_aload_n C d_Md_fits_89 rfl ?_
                  refine g_Md_wants C lk_Md_33 d_Md_fits_90 ?_
                  refine r_aload_n C d_Md_fits_93 rfl ?_
                  refine g_Md_blocked C lk_Md_81 d_Md_fits_94 ?_
                  refine x_Md_wants C (t 8 0).toNat (by first | (have := hw8 (hpw c24); omega) | omega) (by omega) d_Md_fits_97 ?_
                  refine r_goto (tgt := 102) C d_Md_fits_98 (by decide) ?_
                  refine r_iadd C d_Md_fits_102 ?_
                  refine r_istore_7 C d_Md_fits_103 ?_
                  refine r_aload_n C d_Md_fits_105 rfl ?_
                  refine g_Md_licencesAt C lk_Md_90 d_Md_fits_106 ?_
                  refine r_iload C d_Md_fits_109 rfl ?_
                  refine r_aload_n C d_Md_fits_111 rfl ?_
                  refine g_Md_time C lk_Md_148 d_Md_fits_112 ?_
                  refine r_isub C d_Md_fits_115 ?_
                  refine x_Md_licencesAt C (s + (i : Int) - t 4 0).toNat (by omega) (by omega) d_Md_fits_116 ?_
                  refine r_aload_n C d_Md_fits_117 rfl ?_
                  refine g_Md_needs C lk_Md_36 d_Md_fits_118 ?_
                  refine r_iload_n C d_Md_fits_121 rfl ?_
                  refine x_Md_needs C _ rfl (by omega) d_Md_fits_122 ?_
                  refine r_iadd C d_Md_fits_123 ?_
                  refine r_iload C d_Md_fits_124 rfl ?_
                  refine r_if_eq (tgt := 141) C d_Md_fits_126 (by decide) (ir_mk (by omega) (by omega)) (fun c126 => ?_) (fun c126 => ?_)
                  · refine r_iconst C d_Md_fits_141 ?_
                    refine r_iadd C d_Md_fits_142 ?_
                    refine r_istore_8 C d_Md_fits_143 ?_
                    refine r_iload C d_Md_fits_145 rfl ?_
                    refine r_aload_n C d_Md_fits_147 rfl ?_
                    refine g_Md_roomNow C lk_Md_165 d_Md_fits_148 ?_
                    
                    refine r_icmp_gt (tgt := 167) C d_Md_fits_151 (by decide) (by first | assumption | exact bd_ir (by assumption) rfl | exact b2i_ir _ | exact pb_ir _ | exact ir_mk (by omega) (by omega)) (by first | assumption | exact bd_ir (by assumption) rfl | exact b2i_ir _ | exact pb_ir _ | exact ir_mk (by omega) (by omega)) (fun c151 => ?_) (fun c151 => ?_)
                    · refine r_iconst C d_Md_fits_167 ?_
                      refine r_istore_4 C d_Md_fits_168 ?_
                      refine r_iinc_5 C d_Md_fits_170 ?_
                      refine r_goto (tgt := 6) C d_Md_fits_173 (by decide) ?_
                      have h := fun X Y Z => ih (i + 1) X Y Z (by omega) (by omega)
                      rw [show s + ((i + 1 : Nat) : Int) = s + (i : Int) + 1 by omega] at h
                      have e9 : pb (mfN t j s wk (i + 1)) = pb (okM t j (s + (i : Int)) wk) := pb_c ⟨fun q => (mfN_s.mp q).2, fun q => mfN_s.mpr ⟨Classical.byContradiction (fun z => c20 (pb_f z)), q⟩⟩
                      rw [e9] at h
                      have hm : (moM t (s + (i : Int)) wk ∧ mrM t 18 (s + (i : Int)) wk = t 18 (t 8 0).toNat ∧ mrM t 19 (s + (i : Int)) wk = t 19 (t 8 0).toNat) ∨ (¬ moM t (s + (i : Int)) wk ∧ mrM t 18 (s + (i : Int)) wk = 0 ∧ mrM t 19 (s + (i : Int)) wk = 0) := by
                        by_cases q : moM t (s + (i : Int)) wk
                        · exact Or.inl ⟨q, by unfold mrM; rw [pif_t q], by unfold mrM; rw [pif_t q]⟩
                        · exact Or.inr ⟨q, by unfold mrM; rw [pif_f q], by unfold mrM; rw [pif_f q]⟩
                      have hno : (w = 0 ∨ t 9 0 = -1 ∨ s + (i : Int) < t 9 0 ∨ t 9 0 + t 37 0 ≤ s + (i : Int)) → ¬ moM t (s + (i : Int)) wk := by
                        rintro (z | z | z | z) ⟨m1, m2, m3, m4⟩
                        · exact hpz z m1
                        · exact m2 z
                        · omega
                        · omega
                      have hyes : ¬ w = 0 → ¬ t 9 0 = -1 → ¬ s + (i : Int) < t 9 0 → ¬ t 9 0 + t 37 0 ≤ s + (i : Int) → moM t (s + (i : Int)) wk := fun z1 z2 z3 z4 => ⟨hpw z1, z2, by omega, by omega⟩
                      first
                        | (rw [show pb (okM t j (s + (i : Int)) wk) = 1 from pb_t (by
                              unfold okM
                              rcases hm with ⟨m0, m1, m2⟩ | ⟨m0, m1, m2⟩ <;> rw [m1, m2]
                              · first | exact ⟨by omega, by omega⟩ | exact absurd m0 (hno (by omega))
                              · first | exact ⟨by omega, by omega⟩ | exact absurd (hyes (by omega) (by omega) (by omega) (by omega)) m0)] at h
                           exact h _ _ _)
                        | (rw [show pb (okM t j (s + (i : Int)) wk) = 0 from pb_f (fun z => by
                              unfold okM at z
                              rcases hm with ⟨m0, m1, m2⟩ | ⟨m0, m1, m2⟩ <;> rw [m1, m2] at z
                              · first | exact absurd m0 (hno (by omega)) | omega
                              · first | exact absurd (hyes (by omega) (by omega) (by omega) (by omega)) m0 | omega)] at h
                           exact h _ _ _)
                    · refine r_iload C d_Md_fits_154 rfl ?_
                      refine r_aload_n C d_Md_fits_156 rfl ?_
                      refine g_Md_allLicences C lk_Md_13 d_Md_fits_157 ?_
                      refine r_icmp_gt (tgt := 167) C d_Md_fits_160 (by decide) (by first | assumption | exact bd_ir (by assumption) rfl | exact b2i_ir _ | exact pb_ir _ | exact ir_mk (by omega) (by omega)) (by first | assumption | exact bd_ir (by assumption) rfl | exact b2i_ir _ | exact pb_ir _ | exact ir_mk (by omega) (by omega)) (fun c160 => ?_) (fun c160 => ?_)
                      · refine r_iconst C d_Md_fits_167 ?_
                        refine r_istore_4 C d_Md_fits_168 ?_
                        refine r_iinc_5 C d_Md_fits_170 ?_
                        refine r_goto (tgt := 6) C d_Md_fits_173 (by decide) ?_
                        have h := fun X Y Z => ih (i + 1) X Y Z (by omega) (by omega)
                        rw [show s + ((i + 1 : Nat) : Int) = s + (i : Int) + 1 by omega] at h
                        have e9 : pb (mfN t j s wk (i + 1)) = pb (okM t j (s + (i : Int)) wk) := pb_c ⟨fun q => (mfN_s.mp q).2, fun q => mfN_s.mpr ⟨Classical.byContradiction (fun z => c20 (pb_f z)), q⟩⟩
                        rw [e9] at h
                        have hm : (moM t (s + (i : Int)) wk ∧ mrM t 18 (s + (i : Int)) wk = t 18 (t 8 0).toNat ∧ mrM t 19 (s + (i : Int)) wk = t 19 (t 8 0).toNat) ∨ (¬ moM t (s + (i : Int)) wk ∧ mrM t 18 (s + (i : Int)) wk = 0 ∧ mrM t 19 (s + (i : Int)) wk = 0) := by
                          by_cases q : moM t (s + (i : Int)) wk
                          · exact Or.inl ⟨q, by unfold mrM; rw [pif_t q], by unfold mrM; rw [pif_t q]⟩
                          · exact Or.inr ⟨q, by unfold mrM; rw [pif_f q], by unfold mrM; rw [pif_f q]⟩
                        have hno : (w = 0 ∨ t 9 0 = -1 ∨ s + (i : Int) < t 9 0 ∨ t 9 0 + t 37 0 ≤ s + (i : Int)) → ¬ moM t (s + (i : Int)) wk := by
                          rintro (z | z | z | z) ⟨m1, m2, m3, m4⟩
                          · exact hpz z m1
                          · exact m2 z
                          · omega
                          · omega
                        have hyes : ¬ w = 0 → ¬ t 9 0 = -1 → ¬ s + (i : Int) < t 9 0 → ¬ t 9 0 + t 37 0 ≤ s + (i : Int) → moM t (s + (i : Int)) wk := fun z1 z2 z3 z4 => ⟨hpw z1, z2, by omega, by omega⟩
                        first
                          | (rw [show pb (okM t j (s + (i : Int)) wk) = 1 from pb_t (by
                                unfold okM
                                rcases hm with ⟨m0, m1, m2⟩ | ⟨m0, m1, m2⟩ <;> rw [m1, m2]
                                · first | exact ⟨by omega, by omega⟩ | exact absurd m0 (hno (by omega))
                                · first | exact ⟨by omega, by omega⟩ | exact absurd (hyes (by omega) (by omega) (by omega) (by omega)) m0)] at h
                             exact h _ _ _)
                          | (rw [show pb (okM t j (s + (i : Int)) wk) = 0 from pb_f (fun z => by
                                unfold okM at z
                                rcases hm with ⟨m0, m1, m2⟩ | ⟨m0, m1, m2⟩ <;> rw [m1, m2] at z
                                · first | exact absurd m0 (hno (by omega)) | omega
                                · first | exact absurd (hyes (by omega) (by omega) (by omega) (by omega)) m0 | omega)] at h
                             exact h _ _ _)
                      · refine r_iconst C d_Md_fits_163 ?_
                        refine r_goto (tgt := 168) C d_Md_fits_164 (by decide) ?_
                        refine r_istore_4 C d_Md_fits_168 ?_
                        refine r_iinc_5 C d_Md_fits_170 ?_
                        refine r_goto (tgt := 6) C d_Md_fits_173 (by decide) ?_
                        have h := fun X Y Z => ih (i + 1) X Y Z (by omega) (by omega)
                        rw [show s + ((i + 1 : Nat) : Int) = s + (i : Int) + 1 by omega] at h
                        have e9 : pb (mfN t j s wk (i + 1)) = pb (okM t j (s + (i : Int)) wk) := pb_c ⟨fun q => (mfN_s.mp q).2, fun q => mfN_s.mpr ⟨Classical.byContradiction (fun z => c20 (pb_f z)), q⟩⟩
                        rw [e9] at h
                        have hm : (moM t (s + (i : Int)) wk ∧ mrM t 18 (s + (i : Int)) wk = t 18 (t 8 0).toNat ∧ mrM t 19 (s + (i : Int)) wk = t 19 (t 8 0).toNat) ∨ (¬ moM t (s + (i : Int)) wk ∧ mrM t 18 (s + (i : Int)) wk = 0 ∧ mrM t 19 (s + (i : Int)) wk = 0) := by
                          by_cases q : moM t (s + (i : Int)) wk
                          · exact Or.inl ⟨q, by unfold mrM; rw [pif_t q], by unfold mrM; rw [pif_t q]⟩
                          · exact Or.inr ⟨q, by unfold mrM; rw [pif_f q], by unfold mrM; rw [pif_f q]⟩
                        have hno : (w = 0 ∨ t 9 0 = -1 ∨ s + (i : Int) < t 9 0 ∨ t 9 0 + t 37 0 ≤ s + (i : Int)) → ¬ moM t (s + (i : Int)) wk := by
                          rintro (z | z | z | z) ⟨m1, m2, m3, m4⟩
                          · exact hpz z m1
                          · exact m2 z
                          · omega
                          · omega
                        have hyes : ¬ w = 0 → ¬ t 9 0 = -1 → ¬ s + (i : Int) < t 9 0 → ¬ t 9 0 + t 37 0 ≤ s + (i : Int) → moM t (s + (i : Int)) wk := fun z1 z2 z3 z4 => ⟨hpw z1, z2, by omega, by omega⟩
                        first
                          | (rw [show pb (okM t j (s + (i : Int)) wk) = 1 from pb_t (by
                                unfold okM
                                rcases hm with ⟨m0, m1, m2⟩ | ⟨m0, m1, m2⟩ <;> rw [m1, m2]
                                · first | exact ⟨by omega, by omega⟩ | exact absurd m0 (hno (by omega))
                                · first | exact ⟨by omega, by omega⟩ | exact absurd (hyes (by omega) (by omega) (by omega) (by omega)) m0)] at h
                             exact h _ _ _)
                          | (rw [show pb (okM t j (s + (i : Int)) wk) = 0 from pb_f (fun z => by
                                unfold okM at z
                                rcases hm with ⟨m0, m1, m2⟩ | ⟨m0, m1, m2⟩ <;> rw [m1, m2] at z
                                · first | exact absurd m0 (hno (by omega)) | omega
                                · first | exact absurd (hyes (by omega) (by omega) (by omega) (by omega)) m0 | omega)] at h
                             exact h _ _ _)
                  · refine r_aload_n C d_Md_fits_129 rfl ?_
                    refine g_Md_needs C lk_Md_36 d_Md_fits_130 ?_
                    refine r_aload_n C d_Md_fits_133 rfl ?_
                    refine g_Md_blocked C lk_Md_81 d_Md_fits_134 ?_
                    refine x_Md_needs C (t 8 0).toNat (by first | (have := hw8 (hpw c24); omega) | omega) (by omega) d_Md_fits_137 ?_
                    refine r_goto (tgt := 142) C d_Md_fits_138 (by decide) ?_
                    refine r_iadd C d_Md_fits_142 ?_
                    refine r_istore_8 C d_Md_fits_143 ?_
                    refine r_iload C d_Md_fits_145 rfl ?_
                    refine r_aload_n C d_Md_fits_147 rfl ?_
                    refine g_Md_roomNow C lk_Md_165 d_Md_fits_148 ?_
                    
                    refine r_icmp_gt (tgt := 167) C d_Md_fits_151 (by decide) (by first | assumption | exact bd_ir (by assumption) rfl | exact b2i_ir _ | exact pb_ir _ | exact ir_mk (by omega) (by omega)) (by first | assumption | exact bd_ir (by assumption) rfl | exact b2i_ir _ | exact pb_ir _ | exact ir_mk (by omega) (by omega)) (fun c151 => ?_) (fun c151 => ?_)
                    · refine r_iconst C d_Md_fits_167 ?_
                      refine r_istore_4 C d_Md_fits_168 ?_
                      refine r_iinc_5 C d_Md_fits_170 ?_
                      refine r_goto (tgt := 6) C d_Md_fits_173 (by decide) ?_
                      have h := fun X Y Z => ih (i + 1) X Y Z (by omega) (by omega)
                      rw [show s + ((i + 1 : Nat) : Int) = s + (i : Int) + 1 by omega] at h
                      have e9 : pb (mfN t j s wk (i + 1)) = pb (okM t j (s + (i : Int)) wk) := pb_c ⟨fun q => (mfN_s.mp q).2, fun q => mfN_s.mpr ⟨Classical.byContradiction (fun z => c20 (pb_f z)), q⟩⟩
                      rw [e9] at h
                      have hm : (moM t (s + (i : Int)) wk ∧ mrM t 18 (s + (i : Int)) wk = t 18 (t 8 0).toNat ∧ mrM t 19 (s + (i : Int)) wk = t 19 (t 8 0).toNat) ∨ (¬ moM t (s + (i : Int)) wk ∧ mrM t 18 (s + (i : Int)) wk = 0 ∧ mrM t 19 (s + (i : Int)) wk = 0) := by
                        by_cases q : moM t (s + (i : Int)) wk
                        · exact Or.inl ⟨q, by unfold mrM; rw [pif_t q], by unfold mrM; rw [pif_t q]⟩
                        · exact Or.inr ⟨q, by unfold mrM; rw [pif_f q], by unfold mrM; rw [pif_f q]⟩
                      have hno : (w = 0 ∨ t 9 0 = -1 ∨ s + (i : Int) < t 9 0 ∨ t 9 0 + t 37 0 ≤ s + (i : Int)) → ¬ moM t (s + (i : Int)) wk := by
                        rintro (z | z | z | z) ⟨m1, m2, m3, m4⟩
                        · exact hpz z m1
                        · exact m2 z
                        · omega
                        · omega
                      have hyes : ¬ w = 0 → ¬ t 9 0 = -1 → ¬ s + (i : Int) < t 9 0 → ¬ t 9 0 + t 37 0 ≤ s + (i : Int) → moM t (s + (i : Int)) wk := fun z1 z2 z3 z4 => ⟨hpw z1, z2, by omega, by omega⟩
                      first
                        | (rw [show pb (okM t j (s + (i : Int)) wk) = 1 from pb_t (by
                              unfold okM
                              rcases hm with ⟨m0, m1, m2⟩ | ⟨m0, m1, m2⟩ <;> rw [m1, m2]
                              · first | exact ⟨by omega, by omega⟩ | exact absurd m0 (hno (by omega))
                              · first | exact ⟨by omega, by omega⟩ | exact absurd (hyes (by omega) (by omega) (by omega) (by omega)) m0)] at h
                           exact h _ _ _)
                        | (rw [show pb (okM t j (s + (i : Int)) wk) = 0 from pb_f (fun z => by
                              unfold okM at z
                              rcases hm with ⟨m0, m1, m2⟩ | ⟨m0, m1, m2⟩ <;> rw [m1, m2] at z
                              · first | exact absurd m0 (hno (by omega)) | omega
                              · first | exact absurd (hyes (by omega) (by omega) (by omega) (by omega)) m0 | omega)] at h
                           exact h _ _ _)
                    · refine r_iload C d_Md_fits_154 rfl ?_
                      refine r_aload_n C d_Md_fits_156 rfl ?_
                      refine g_Md_allLicences C lk_Md_13 d_Md_fits_157 ?_
                      refine r_icmp_gt (tgt := 167) C d_Md_fits_160 (by decide) (by first | assumption | exact bd_ir (by assumption) rfl | exact b2i_ir _ | exact pb_ir _ | exact ir_mk (by omega) (by omega)) (by first | assumption | exact bd_ir (by assumption) rfl | exact b2i_ir _ | exact pb_ir _ | exact ir_mk (by omega) (by omega)) (fun c160 => ?_) (fun c160 => ?_)
                      · refine r_iconst C d_Md_fits_167 ?_
                        refine r_istore_4 C d_Md_fits_168 ?_
                        refine r_iinc_5 C d_Md_fits_170 ?_
                        refine r_goto (tgt := 6) C d_Md_fits_173 (by decide) ?_
                        have h := fun X Y Z => ih (i + 1) X Y Z (by omega) (by omega)
                        rw [show s + ((i + 1 : Nat) : Int) = s + (i : Int) + 1 by omega] at h
                        have e9 : pb (mfN t j s wk (i + 1)) = pb (okM t j (s + (i : Int)) wk) := pb_c ⟨fun q => (mfN_s.mp q).2, fun q => mfN_s.mpr ⟨Classical.byContradiction (fun z => c20 (pb_f z)), q⟩⟩
                        rw [e9] at h
                        have hm : (moM t (s + (i : Int)) wk ∧ mrM t 18 (s + (i : Int)) wk = t 18 (t 8 0).toNat ∧ mrM t 19 (s + (i : Int)) wk = t 19 (t 8 0).toNat) ∨ (¬ moM t (s + (i : Int)) wk ∧ mrM t 18 (s + (i : Int)) wk = 0 ∧ mrM t 19 (s + (i : Int)) wk = 0) := by
                          by_cases q : moM t (s + (i : Int)) wk
                          · exact Or.inl ⟨q, by unfold mrM; rw [pif_t q], by unfold mrM; rw [pif_t q]⟩
                          · exact Or.inr ⟨q, by unfold mrM; rw [pif_f q], by unfold mrM; rw [pif_f q]⟩
                        have hno : (w = 0 ∨ t 9 0 = -1 ∨ s + (i : Int) < t 9 0 ∨ t 9 0 + t 37 0 ≤ s + (i : Int)) → ¬ moM t (s + (i : Int)) wk := by
                          rintro (z | z | z | z) ⟨m1, m2, m3, m4⟩
                          · exact hpz z m1
                          · exact m2 z
                          · omega
                          · omega
                        have hyes : ¬ w = 0 → ¬ t 9 0 = -1 → ¬ s + (i : Int) < t 9 0 → ¬ t 9 0 + t 37 0 ≤ s + (i : Int) → moM t (s + (i : Int)) wk := fun z1 z2 z3 z4 => ⟨hpw z1, z2, by omega, by omega⟩
                        first
                          | (rw [show pb (okM t j (s + (i : Int)) wk) = 1 from pb_t (by
                                unfold okM
                                rcases hm with ⟨m0, m1, m2⟩ | ⟨m0, m1, m2⟩ <;> rw [m1, m2]
                                · first | exact ⟨by omega, by omega⟩ | exact absurd m0 (hno (by omega))
                                · first | exact ⟨by omega, by omega⟩ | exact absurd (hyes (by omega) (by omega) (by omega) (by omega)) m0)] at h
                             exact h _ _ _)
                          | (rw [show pb (okM t j (s + (i : Int)) wk) = 0 from pb_f (fun z => by
                                unfold okM at z
                                rcases hm with ⟨m0, m1, m2⟩ | ⟨m0, m1, m2⟩ <;> rw [m1, m2] at z
                                · first | exact absurd m0 (hno (by omega)) | omega
                                · first | exact absurd (hyes (by omega) (by omega) (by omega) (by omega)) m0 | omega)] at h
                             exact h _ _ _)
                      · refine r_iconst C d_Md_fits_163 ?_
                        refine r_goto (tgt := 168) C d_Md_fits_164 (by decide) ?_
                        refine r_istore_4 C d_Md_fits_168 ?_
                        refine r_iinc_5 C d_Md_fits_170 ?_
                        refine r_goto (tgt := 6) C d_Md_fits_173 (by decide) ?_
                        have h := fun X Y Z => ih (i + 1) X Y Z (by omega) (by omega)
                        rw [show s + ((i + 1 : Nat) : Int) = s + (i : Int) + 1 by omega] at h
                        have e9 : pb (mfN t j s wk (i + 1)) = pb (okM t j (s + (i : Int)) wk) := pb_c ⟨fun q => (mfN_s.mp q).2, fun q => mfN_s.mpr ⟨Classical.byContradiction (fun z => c20 (pb_f z)), q⟩⟩
                        rw [e9] at h
                        have hm : (moM t (s + (i : Int)) wk ∧ mrM t 18 (s + (i : Int)) wk = t 18 (t 8 0).toNat ∧ mrM t 19 (s + (i : Int)) wk = t 19 (t 8 0).toNat) ∨ (¬ moM t (s + (i : Int)) wk ∧ mrM t 18 (s + (i : Int)) wk = 0 ∧ mrM t 19 (s + (i : Int)) wk = 0) := by
                          by_cases q : moM t (s + (i : Int)) wk
                          · exact Or.inl ⟨q, by unfold mrM; rw [pif_t q], by unfold mrM; rw [pif_t q]⟩
                          · exact Or.inr ⟨q, by unfold mrM; rw [pif_f q], by unfold mrM; rw [pif_f q]⟩
                        have hno : (w = 0 ∨ t 9 0 = -1 ∨ s + (i : Int) < t 9 0 ∨ t 9 0 + t 37 0 ≤ s + (i : Int)) → ¬ moM t (s + (i : Int)) wk := by
                          rintro (z | z | z | z) ⟨m1, m2, m3, m4⟩
                          · exact hpz z m1
                          · exact m2 z
                          · omega
                          · omega
                        have hyes : ¬ w = 0 → ¬ t 9 0 = -1 → ¬ s + (i : Int) < t 9 0 → ¬ t 9 0 + t 37 0 ≤ s + (i : Int) → moM t (s + (i : Int)) wk := fun z1 z2 z3 z4 => ⟨hpw z1, z2, by omega, by omega⟩
                        first
                          | (rw [show pb (okM t j (s + (i : Int)) wk) = 1 from pb_t (by
                                unfold okM
                                rcases hm with ⟨m0, m1, m2⟩ | ⟨m0, m1, m2⟩ <;> rw [m1, m2]
                                · first | exact ⟨by omega, by omega⟩ | exact absurd m0 (hno (by omega))
                                · first | exact ⟨by omega, by omega⟩ | exact absurd (hyes (by omega) (by omega) (by omega) (by omega)) m0)] at h
                             exact h _ _ _)
                          | (rw [show pb (okM t j (s + (i : Int)) wk) = 0 from pb_f (fun z => by
                                unfold okM at z
                                rcases hm with ⟨m0, m1, m2⟩ | ⟨m0, m1, m2⟩ <;> rw [m1, m2] at z
                                · first | exact absurd m0 (hno (by omega)) | omega
                                · first | exact absurd (hyes (by omega) (by omega) (by omega) (by omega)) m0 | omega)] at h
                             exact h _ _ _)
              · refine r_iload C d_Md_fits_44 rfl ?_
                refine r_aload_n C d_Md_fits_46 rfl ?_
                refine g_Md_kept C lk_Md_84 d_Md_fits_47 ?_
                refine r_aload_n C d_Md_fits_50 rfl ?_
                refine g_Md_keptLeft C lk_Md_162 d_Md_fits_51 ?_
                refine r_iadd C d_Md_fits_54 ?_
                refine r_icmp_ge (tgt := 62) C d_Md_fits_55 (by decide) (by first | assumption | exact bd_ir (by assumption) rfl | exact b2i_ir _ | exact pb_ir _ | exact ir_mk (by omega) (by omega)) (by first | assumption | exact bd_ir (by assumption) rfl | exact b2i_ir _ | exact pb_ir _ | exact ir_mk (by omega) (by omega)) (fun c55 => ?_) (fun c55 => ?_)
                · refine r_iconst C d_Md_fits_62 ?_
                  refine r_istore_6 C d_Md_fits_63 ?_
                  refine r_aload_n C d_Md_fits_65 rfl ?_
                  refine g_Md_nodesAt C lk_Md_87 d_Md_fits_66 ?_
                  refine r_iload C d_Md_fits_69 rfl ?_
                  refine r_aload_n C d_Md_fits_71 rfl ?_
                  refine g_Md_time C lk_Md_148 d_Md_fits_72 ?_
                  refine r_isub C d_Md_fits_75 ?_
                  refine x_Md_nodesAt C (s + (i : Int) - t 4 0).toNat (by omega) (by omega) d_Md_fits_76 ?_
                  refine r_aload_n C d_Md_fits_77 rfl ?_
                  refine g_Md_wants C lk_Md_33 d_Md_fits_78 ?_
                  refine r_iload_n C d_Md_fits_81 rfl ?_
                  refine x_Md_wants C _ rfl (by omega) d_Md_fits_82 ?_
                  refine r_iadd C d_Md_fits_83 ?_
                  refine r_iload C d_Md_fits_84 rfl ?_
                  refine r_if_eq (tgt := 101) C d_Md_fits_86 (by decide) (ir_mk (by omega) (by omega)) (fun c86 => ?_) (fun c86 => ?_)
                  · refine r_iconst C d_Md_fits_101 ?_
                    refine r_iadd C d_Md_fits_102 ?_
                    refine r_istore_7 C d_Md_fits_103 ?_
                    refine r_aload_n C d_Md_fits_105 rfl ?_
                    refine g_Md_licencesAt C lk_Md_90 d_Md_fits_106 ?_
                    refine r_iload C d_Md_fits_109 rfl ?_
                    refine r_aload_n C d_Md_fits_111 rfl ?_
                    refine g_Md_time C lk_Md_148 d_Md_fits_112 ?_
                    refine r_isub C d_Md_fits_115 ?_
                    refine x_Md_licencesAt C (s + (i : Int) - t 4 0).toNat (by omega) (by omega) d_Md_fits_116 ?_
                    refine r_aload_n C d_Md_fits_117 rfl ?_
                    refine g_Md_needs C lk_Md_36 d_Md_fits_118 ?_
                    refine r_iload_n C d_Md_fits_121 rfl ?_
                    refine x_Md_needs C _ rfl (by omega) d_Md_fits_122 ?_
                    refine r_iadd C d_Md_fits_123 ?_
                    refine r_iload C d_Md_fits_124 rfl ?_
                    refine r_if_eq (tgt := 141) C d_Md_fits_126 (by decide) (ir_mk (by omega) (by omega)) (fun c126 => ?_) (fun c126 => ?_)
                    · refine r_iconst C d_Md_fits_141 ?_
                      refine r_iadd C d_Md_fits_142 ?_
                      refine r_istore_8 C d_Md_fits_143 ?_
                      refine r_iload C d_Md_fits_145 rfl ?_
                      refine r_aload_n C d_Md_fits_147 rfl ?_
                      refine g_Md_roomNow C lk_Md_165 d_Md_fits_148 ?_
                      
                      refine r_icmp_gt (tgt := 167) C d_Md_fits_151 (by decide) (by first | assumption | exact bd_ir (by assumption) rfl | exact b2i_ir _ | exact pb_ir _ | exact ir_mk (by omega) (by omega)) (by first | assumption | exact bd_ir (by assumption) rfl | exact b2i_ir _ | exact pb_ir _ | exact ir_mk (by omega) (by omega)) (fun c151 => ?_) (fun c151 => ?_)
                      · refine r_iconst C d_Md_fits_167 ?_
                        refine r_istore_4 C d_Md_fits_168 ?_
                        refine r_iinc_5 C d_Md_fits_170 ?_
                        refine r_goto (tgt := 6) C d_Md_fits_173 (by decide) ?_
                        have h := fun X Y Z => ih (i + 1) X Y Z (by omega) (by omega)
                        rw [show s + ((i + 1 : Nat) : Int) = s + (i : Int) + 1 by omega] at h
                        have e9 : pb (mfN t j s wk (i + 1)) = pb (okM t j (s + (i : Int)) wk) := pb_c ⟨fun q => (mfN_s.mp q).2, fun q => mfN_s.mpr ⟨Classical.byContradiction (fun z => c20 (pb_f z)), q⟩⟩
                        rw [e9] at h
                        have hm : (moM t (s + (i : Int)) wk ∧ mrM t 18 (s + (i : Int)) wk = t 18 (t 8 0).toNat ∧ mrM t 19 (s + (i : Int)) wk = t 19 (t 8 0).toNat) ∨ (¬ moM t (s + (i : Int)) wk ∧ mrM t 18 (s + (i : Int)) wk = 0 ∧ mrM t 19 (s + (i : Int)) wk = 0) := by
                          by_cases q : moM t (s + (i : Int)) wk
                          · exact Or.inl ⟨q, by unfold mrM; rw [pif_t q], by unfold mrM; rw [pif_t q]⟩
                          · exact Or.inr ⟨q, by unfold mrM; rw [pif_f q], by unfold mrM; rw [pif_f q]⟩
                        have hno : (w = 0 ∨ t 9 0 = -1 ∨ s + (i : Int) < t 9 0 ∨ t 9 0 + t 37 0 ≤ s + (i : Int)) → ¬ moM t (s + (i : Int)) wk := by
                          rintro (z | z | z | z) ⟨m1, m2, m3, m4⟩
                          · exact hpz z m1
                          · exact m2 z
                          · omega
                          · omega
                        have hyes : ¬ w = 0 → ¬ t 9 0 = -1 → ¬ s + (i : Int) < t 9 0 → ¬ t 9 0 + t 37 0 ≤ s + (i : Int) → moM t (s + (i : Int)) wk := fun z1 z2 z3 z4 => ⟨hpw z1, z2, by omega, by omega⟩
                        first
                          | (rw [show pb (okM t j (s + (i : Int)) wk) = 1 from pb_t (by
                                unfold okM
                                rcases hm with ⟨m0, m1, m2⟩ | ⟨m0, m1, m2⟩ <;> rw [m1, m2]
                                · first | exact ⟨by omega, by omega⟩ | exact absurd m0 (hno (by omega))
                                · first | exact ⟨by omega, by omega⟩ | exact absurd (hyes (by omega) (by omega) (by omega) (by omega)) m0)] at h
                             exact h _ _ _)
                          | (rw [show pb (okM t j (s + (i : Int)) wk) = 0 from pb_f (fun z => by
                                unfold okM at z
                                rcases hm with ⟨m0, m1, m2⟩ | ⟨m0, m1, m2⟩ <;> rw [m1, m2] at z
                                · first | exact absurd m0 (hno (by omega)) | omega
                                · first | exact absurd (hyes (by omega) (by omega) (by omega) (by omega)) m0 | omega)] at h
                             exact h _ _ _)
                      · refine r_iload C d_Md_fits_154 rfl ?_
                        refine r_aload_n C d_Md_fits_156 rfl ?_
                        refine g_Md_allLicences C lk_Md_13 d_Md_fits_157 ?_
                        refine r_icmp_gt (tgt := 167) C d_Md_fits_160 (by decide) (by first | assumption | exact bd_ir (by assumption) rfl | exact b2i_ir _ | exact pb_ir _ | exact ir_mk (by omega) (by omega)) (by first | assumption | exact bd_ir (by assumption) rfl | exact b2i_ir _ | exact pb_ir _ | exact ir_mk (by omega) (by omega)) (fun c160 => ?_) (fun c160 => ?_)
                        · refine r_iconst C d_Md_fits_167 ?_
                          refine r_istore_4 C d_Md_fits_168 ?_
                          refine r_iinc_5 C d_Md_fits_170 ?_
                          refine r_goto (tgt := 6) C d_Md_fits_173 (by decide) ?_
                          have h := fun X Y Z => ih (i + 1) X Y Z (by omega) (by omega)
                          rw [show s + ((i + 1 : Nat) : Int) = s + (i : Int) + 1 by omega] at h
                          have e9 : pb (mfN t j s wk (i + 1)) = pb (okM t j (s + (i : Int)) wk) := pb_c ⟨fun q => (mfN_s.mp q).2, fun q => mfN_s.mpr ⟨Classical.byContradiction (fun z => c20 (pb_f z)), q⟩⟩
                          rw [e9] at h
                          have hm : (moM t (s + (i : Int)) wk ∧ mrM t 18 (s + (i : Int)) wk = t 18 (t 8 0).toNat ∧ mrM t 19 (s + (i : Int)) wk = t 19 (t 8 0).toNat) ∨ (¬ moM t (s + (i : Int)) wk ∧ mrM t 18 (s + (i : Int)) wk = 0 ∧ mrM t 19 (s + (i : Int)) wk = 0) := by
                            by_cases q : moM t (s + (i : Int)) wk
                            · exact Or.inl ⟨q, by unfold mrM; rw [pif_t q], by unfold mrM; rw [pif_t q]⟩
                            · exact Or.inr ⟨q, by unfold mrM; rw [pif_f q], by unfold mrM; rw [pif_f q]⟩
                          have hno : (w = 0 ∨ t 9 0 = -1 ∨ s + (i : Int) < t 9 0 ∨ t 9 0 + t 37 0 ≤ s + (i : Int)) → ¬ moM t (s + (i : Int)) wk := by
                            rintro (z | z | z | z) ⟨m1, m2, m3, m4⟩
                            · exact hpz z m1
                            · exact m2 z
                            · omega
                            · omega
                          have hyes : ¬ w = 0 → ¬ t 9 0 = -1 → ¬ s + (i : Int) < t 9 0 → ¬ t 9 0 + t 37 0 ≤ s + (i : Int) → moM t (s + (i : Int)) wk := fun z1 z2 z3 z4 => ⟨hpw z1, z2, by omega, by omega⟩
                          first
                            | (rw [show pb (okM t j (s + (i : Int)) wk) = 1 from pb_t (by
                                  unfold okM
                                  rcases hm with ⟨m0, m1, m2⟩ | ⟨m0, m1, m2⟩ <;> rw [m1, m2]
                                  · first | exact ⟨by omega, by omega⟩ | exact absurd m0 (hno (by omega))
                                  · first | exact ⟨by omega, by omega⟩ | exact absurd (hyes (by omega) (by omega) (by omega) (by omega)) m0)] at h
                               exact h _ _ _)
                            | (rw [show pb (okM t j (s + (i : Int)) wk) = 0 from pb_f (fun z => by
                                  unfold okM at z
                                  rcases hm with ⟨m0, m1, m2⟩ | ⟨m0, m1, m2⟩ <;> rw [m1, m2] at z
                                  · first | exact absurd m0 (hno (by omega)) | omega
                                  · first | exact absurd (hyes (by omega) (by omega) (by omega) (by omega)) m0 | omega)] at h
                               exact h _ _ _)
                        · refine r_iconst C d_Md_fits_163 ?_
                          refine r_goto (tgt := 168) C d_Md_fits_164 (by decide) ?_
                          refine r_istore_4 C d_Md_fits_168 ?_
                          refine r_iinc_5 C d_Md_fits_170 ?_
                          refine r_goto (tgt := 6) C d_Md_fits_173 (by decide) ?_
                          have h := fun X Y Z => ih (i + 1) X Y Z (by omega) (by omega)
                          rw [show s + ((i + 1 : Nat) : Int) = s + (i : Int) + 1 by omega] at h
                          have e9 : pb (mfN t j s wk (i + 1)) = pb (okM t j (s + (i : Int)) wk) := pb_c ⟨fun q => (mfN_s.mp q).2, fun q => mfN_s.mpr ⟨Classical.byContradiction (fun z => c20 (pb_f z)), q⟩⟩
                          rw [e9] at h
                          have hm : (moM t (s + (i : Int)) wk ∧ mrM t 18 (s + (i : Int)) wk = t 18 (t 8 0).toNat ∧ mrM t 19 (s + (i : Int)) wk = t 19 (t 8 0).toNat) ∨ (¬ moM t (s + (i : Int)) wk ∧ mrM t 18 (s + (i : Int)) wk = 0 ∧ mrM t 19 (s + (i : Int)) wk = 0) := by
                            by_cases q : moM t (s + (i : Int)) wk
                            · exact Or.inl ⟨q, by unfold mrM; rw [pif_t q], by unfold mrM; rw [pif_t q]⟩
                            · exact Or.inr ⟨q, by unfold mrM; rw [pif_f q], by unfold mrM; rw [pif_f q]⟩
                          have hno : (w = 0 ∨ t 9 0 = -1 ∨ s + (i : Int) < t 9 0 ∨ t 9 0 + t 37 0 ≤ s + (i : Int)) → ¬ moM t (s + (i : Int)) wk := by
                            rintro (z | z | z | z) ⟨m1, m2, m3, m4⟩
                            · exact hpz z m1
                            · exact m2 z
                            · omega
                            · omega
                          have hyes : ¬ w = 0 → ¬ t 9 0 = -1 → ¬ s + (i : Int) < t 9 0 → ¬ t 9 0 + t 37 0 ≤ s + (i : Int) → moM t (s + (i : Int)) wk := fun z1 z2 z3 z4 => ⟨hpw z1, z2, by omega, by omega⟩
                          first
                            | (rw [show pb (okM t j (s + (i : Int)) wk) = 1 from pb_t (by
                                  unfold okM
                                  rcases hm with ⟨m0, m1, m2⟩ | ⟨m0, m1, m2⟩ <;> rw [m1, m2]
                                  · first | exact ⟨by omega, by omega⟩ | exact absurd m0 (hno (by omega))
                                  · first | exact ⟨by omega, by omega⟩ | exact absurd (hyes (by omega) (by omega) (by omega) (by omega)) m0)] at h
                               exact h _ _ _)
                            | (rw [show pb (okM t j (s + (i : Int)) wk) = 0 from pb_f (fun z => by
                                  unfold okM at z
                                  rcases hm with ⟨m0, m1, m2⟩ | ⟨m0, m1, m2⟩ <;> rw [m1, m2] at z
                                  · first | exact absurd m0 (hno (by omega)) | omega
                                  · first | exact absurd (hyes (by omega) (by omega) (by omega) (by omega)) m0 | omega)] at h
                               exact h _ _ _)
                    · refine r_aload_n C d_Md_fits_129 rfl ?_
                      refine g_Md_needs C lk_Md_36 d_Md_fits_130 ?_
                      refine r_aload_n C d_Md_fits_133 rfl ?_
                      refine g_Md_blocked C lk_Md_81 d_Md_fits_134 ?_
                      refine x_Md_needs C (t 8 0).toNat (by first | (have := hw8 (hpw c24); omega) | omega) (by omega) d_Md_fits_137 ?_
                      refine r_goto (tgt := 142) C d_Md_fits_138 (by decide) ?_
                      refine r_iadd C d_Md_fits_142 ?_
                      refine r_istore_8 C d_Md_fits_143 ?_
                      refine r_iload C d_Md_fits_145 rfl ?_
                      refine r_aload_n C d_Md_fits_147 rfl ?_
                      refine g_Md_roomNow C lk_Md_165 d_Md_fits_148 ?_
                      
                      refine r_icmp_gt (tgt := 167) C d_Md_fits_151 (by decide) (by first | assumption | exact bd_ir (by assumption) rfl | exact b2i_ir _ | exact pb_ir _ | exact ir_mk (by omega) (by omega)) (by first | assumption | exact bd_ir (by assumption) rfl | exact b2i_ir _ | exact pb_ir _ | exact ir_mk (by omega) (by omega)) (fun c151 => ?_) (fun c151 => ?_)
                      · refine r_iconst C d_Md_fits_167 ?_
                        refine r_istore_4 C d_Md_fits_168 ?_
                        refine r_iinc_5 C d_Md_fits_170 ?_
                        refine r_goto (tgt := 6) C d_Md_fits_173 (by decide) ?_
                        have h := fun X Y Z => ih (i + 1) X Y Z (by omega) (by omega)
                        rw [show s + ((i + 1 : Nat) : Int) = s + (i : Int) + 1 by omega] at h
                        have e9 : pb (mfN t j s wk (i + 1)) = pb (okM t j (s + (i : Int)) wk) := pb_c ⟨fun q => (mfN_s.mp q).2, fun q => mfN_s.mpr ⟨Classical.byContradiction (fun z => c20 (pb_f z)), q⟩⟩
                        rw [e9] at h
                        have hm : (moM t (s + (i : Int)) wk ∧ mrM t 18 (s + (i : Int)) wk = t 18 (t 8 0).toNat ∧ mrM t 19 (s + (i : Int)) wk = t 19 (t 8 0).toNat) ∨ (¬ moM t (s + (i : Int)) wk ∧ mrM t 18 (s + (i : Int)) wk = 0 ∧ mrM t 19 (s + (i : Int)) wk = 0) := by
                          by_cases q : moM t (s + (i : Int)) wk
                          · exact Or.inl ⟨q, by unfold mrM; rw [pif_t q], by unfold mrM; rw [pif_t q]⟩
                          · exact Or.inr ⟨q, by unfold mrM; rw [pif_f q], by unfold mrM; rw [pif_f q]⟩
                        have hno : (w = 0 ∨ t 9 0 = -1 ∨ s + (i : Int) < t 9 0 ∨ t 9 0 + t 37 0 ≤ s + (i : Int)) → ¬ moM t (s + (i : Int)) wk := by
                          rintro (z | z | z | z) ⟨m1, m2, m3, m4⟩
                          · exact hpz z m1
                          · exact m2 z
                          · omega
                          · omega
                        have hyes : ¬ w = 0 → ¬ t 9 0 = -1 → ¬ s + (i : Int) < t 9 0 → ¬ t 9 0 + t 37 0 ≤ s + (i : Int) → moM t (s + (i : Int)) wk := fun z1 z2 z3 z4 => ⟨hpw z1, z2, by omega, by omega⟩
                        first
                          | (rw [show pb (okM t j (s + (i : Int)) wk) = 1 from pb_t (by
                                unfold okM
                                rcases hm with ⟨m0, m1, m2⟩ | ⟨m0, m1, m2⟩ <;> rw [m1, m2]
                                · first | exact ⟨by omega, by omega⟩ | exact absurd m0 (hno (by omega))
                                · first | exact ⟨by omega, by omega⟩ | exact absurd (hyes (by omega) (by omega) (by omega) (by omega)) m0)] at h
                             exact h _ _ _)
                          | (rw [show pb (okM t j (s + (i : Int)) wk) = 0 from pb_f (fun z => by
                                unfold okM at z
                                rcases hm with ⟨m0, m1, m2⟩ | ⟨m0, m1, m2⟩ <;> rw [m1, m2] at z
                                · first | exact absurd m0 (hno (by omega)) | omega
                                · first | exact absurd (hyes (by omega) (by omega) (by omega) (by omega)) m0 | omega)] at h
                             exact h _ _ _)
                      · refine r_iload C d_Md_fits_154 rfl ?_
                        refine r_aload_n C d_Md_fits_156 rfl ?_
                        refine g_Md_allLicences C lk_Md_13 d_Md_fits_157 ?_
                        refine r_icmp_gt (tgt := 167) C d_Md_fits_160 (by decide) (by first | assumption | exact bd_ir (by assumption) rfl | exact b2i_ir _ | exact pb_ir _ | exact ir_mk (by omega) (by omega)) (by first | assumption | exact bd_ir (by assumption) rfl | exact b2i_ir _ | exact pb_ir _ | exact ir_mk (by omega) (by omega)) (fun c160 => ?_) (fun c160 => ?_)
                        · refine r_iconst C d_Md_fits_167 ?_
                          refine r_istore_4 C d_Md_fits_168 ?_
                          refine r_iinc_5 C d_Md_fits_170 ?_
                          refine r_goto (tgt := 6) C d_Md_fits_173 (by decide) ?_
                          have h := fun X Y Z => ih (i + 1) X Y Z (by omega) (by omega)
                          rw [show s + ((i + 1 : Nat) : Int) = s + (i : Int) + 1 by omega] at h
                          have e9 : pb (mfN t j s wk (i + 1)) = pb (okM t j (s + (i : Int)) wk) := pb_c ⟨fun q => (mfN_s.mp q).2, fun q => mfN_s.mpr ⟨Classical.byContradiction (fun z => c20 (pb_f z)), q⟩⟩
                          rw [e9] at h
                          have hm : (moM t (s + (i : Int)) wk ∧ mrM t 18 (s + (i : Int)) wk = t 18 (t 8 0).toNat ∧ mrM t 19 (s + (i : Int)) wk = t 19 (t 8 0).toNat) ∨ (¬ moM t (s + (i : Int)) wk ∧ mrM t 18 (s + (i : Int)) wk = 0 ∧ mrM t 19 (s + (i : Int)) wk = 0) := by
                            by_cases q : moM t (s + (i : Int)) wk
                            · exact Or.inl ⟨q, by unfold mrM; rw [pif_t q], by unfold mrM; rw [pif_t q]⟩
                            · exact Or.inr ⟨q, by unfold mrM; rw [pif_f q], by unfold mrM; rw [pif_f q]⟩
                          have hno : (w = 0 ∨ t 9 0 = -1 ∨ s + (i : Int) < t 9 0 ∨ t 9 0 + t 37 0 ≤ s + (i : Int)) → ¬ moM t (s + (i : Int)) wk := by
                            rintro (z | z | z | z) ⟨m1, m2, m3, m4⟩
                            · exact hpz z m1
                            · exact m2 z
                            · omega
                            · omega
                          have hyes : ¬ w = 0 → ¬ t 9 0 = -1 → ¬ s + (i : Int) < t 9 0 → ¬ t 9 0 + t 37 0 ≤ s + (i : Int) → moM t (s + (i : Int)) wk := fun z1 z2 z3 z4 => ⟨hpw z1, z2, by omega, by omega⟩
                          first
                            | (rw [show pb (okM t j (s + (i : Int)) wk) = 1 from pb_t (by
                                  unfold okM
                                  rcases hm with ⟨m0, m1, m2⟩ | ⟨m0, m1, m2⟩ <;> rw [m1, m2]
                                  · first | exact ⟨by omega, by omega⟩ | exact absurd m0 (hno (by omega))
                                  · first | exact ⟨by omega, by omega⟩ | exact absurd (hyes (by omega) (by omega) (by omega) (by omega)) m0)] at h
                               exact h _ _ _)
                            | (rw [show pb (okM t j (s + (i : Int)) wk) = 0 from pb_f (fun z => by
                                  unfold okM at z
                                  rcases hm with ⟨m0, m1, m2⟩ | ⟨m0, m1, m2⟩ <;> rw [m1, m2] at z
                                  · first | exact absurd m0 (hno (by omega)) | omega
                                  · first | exact absurd (hyes (by omega) (by omega) (by omega) (by omega)) m0 | omega)] at h
                               exact h _ _ _)
                        · refine r_iconst C d_Md_fits_163 ?_
                          refine r_goto (tgt := 168) C d_Md_fits_164 (by decide) ?_
                          refine r_istore_4 C d_Md_fits_168 ?_
                          refine r_iinc_5 C d_Md_fits_170 ?_
                          refine r_goto (tgt := 6) C d_Md_fits_173 (by decide) ?_
                          have h := fun X Y Z => ih (i + 1) X Y Z (by omega) (by omega)
                          rw [show s + ((i + 1 : Nat) : Int) = s + (i : Int) + 1 by omega] at h
                          have e9 : pb (mfN t j s wk (i + 1)) = pb (okM t j (s + (i : Int)) wk) := pb_c ⟨fun q => (mfN_s.mp q).2, fun q => mfN_s.mpr ⟨Classical.byContradiction (fun z => c20 (pb_f z)), q⟩⟩
                          rw [e9] at h
                          have hm : (moM t (s + (i : Int)) wk ∧ mrM t 18 (s + (i : Int)) wk = t 18 (t 8 0).toNat ∧ mrM t 19 (s + (i : Int)) wk = t 19 (t 8 0).toNat) ∨ (¬ moM t (s + (i : Int)) wk ∧ mrM t 18 (s + (i : Int)) wk = 0 ∧ mrM t 19 (s + (i : Int)) wk = 0) := by
                            by_cases q : moM t (s + (i : Int)) wk
                            · exact Or.inl ⟨q, by unfold mrM; rw [pif_t q], by unfold mrM; rw [pif_t q]⟩
                            · exact Or.inr ⟨q, by unfold mrM; rw [pif_f q], by unfold mrM; rw [pif_f q]⟩
                          have hno : (w = 0 ∨ t 9 0 = -1 ∨ s + (i : Int) < t 9 0 ∨ t 9 0 + t 37 0 ≤ s + (i : Int)) → ¬ moM t (s + (i : Int)) wk := by
                            rintro (z | z | z | z) ⟨m1, m2, m3, m4⟩
                            · exact hpz z m1
                            · exact m2 z
                            · omega
                            · omega
                          have hyes : ¬ w = 0 → ¬ t 9 0 = -1 → ¬ s + (i : Int) < t 9 0 → ¬ t 9 0 + t 37 0 ≤ s + (i : Int) → moM t (s + (i : Int)) wk := fun z1 z2 z3 z4 => ⟨hpw z1, z2, by omega, by omega⟩
                          first
                            | (rw [show pb (okM t j (s + (i : Int)) wk) = 1 from pb_t (by
                                  unfold okM
                                  rcases hm with ⟨m0, m1, m2⟩ | ⟨m0, m1, m2⟩ <;> rw [m1, m2]
                                  · first | exact ⟨by omega, by omega⟩ | exact absurd m0 (hno (by omega))
                                  · first | exact ⟨by omega, by omega⟩ | exact absurd (hyes (by omega) (by omega) (by omega) (by omega)) m0)] at h
                               exact h _ _ _)
                            | (rw [show pb (okM t j (s + (i : Int)) wk) = 0 from pb_f (fun z => by
                                  unfold okM at z
                                  rcases hm with ⟨m0, m1, m2⟩ | ⟨m0, m1, m2⟩ <;> rw [m1, m2] at z
                                  · first | exact absurd m0 (hno (by omega)) | omega
                                  · first | exact absurd (hyes (by omega) (by omega) (by omega) (by omega)) m0 | omega)] at h
                               exact h _ _ _)
                  · refine r_aload_n C d_Md_fits_89 rfl ?_
                    refine g_Md_wants C lk_Md_33 d_Md_fits_90 ?_
                    refine r_aload_n C d_Md_fits_93 rfl ?_
                    refine g_Md_blocked C lk_Md_81 d_Md_fits_94 ?_
                    refine x_Md_wants C (t 8 0).toNat (by first | (have := hw8 (hpw c24); omega) | omega) (by omega) d_Md_fits_97 ?_
                    refine r_goto (tgt := 102) C d_Md_fits_98 (by decide) ?_
                    refine r_iadd C d_Md_fits_102 ?_
                    refine r_istore_7 C d_Md_fits_103 ?_
                    refine r_aload_n C d_Md_fits_105 rfl ?_
                    refine g_Md_licencesAt C lk_Md_90 d_Md_fits_106 ?_
                    refine r_iload C d_Md_fits_109 rfl ?_
                    refine r_aload_n C d_Md_fits_111 rfl ?_
                    refine g_Md_time C lk_Md_148 d_Md_fits_112 ?_
                    refine r_isub C d_Md_fits_115 ?_
                    refine x_Md_licencesAt C (s + (i : Int) - t 4 0).toNat (by omega) (by omega) d_Md_fits_116 ?_
                    refine r_aload_n C d_Md_fits_117 rfl ?_
                    refine g_Md_needs C lk_Md_36 d_Md_fits_118 ?_
                    refine r_iload_n C d_Md_fits_121 rfl ?_
                    refine x_Md_needs C _ rfl (by omega) d_Md_fits_122 ?_
                    refine r_iadd C d_Md_fits_123 ?_
                    refine r_iload C d_Md_fits_124 rfl ?_
                    refine r_if_eq (tgt := 141) C d_Md_fits_126 (by decide) (ir_mk (by omega) (by omega)) (fun c126 => ?_) (fun c126 => ?_)
                    · refine r_iconst C d_Md_fits_141 ?_
                      refine r_iadd C d_Md_fits_142 ?_
                      refine r_istore_8 C d_Md_fits_143 ?_
                      refine r_iload C d_Md_fits_145 rfl ?_
                      refine r_aload_n C d_Md_fits_147 rfl ?_
                      refine g_Md_roomNow C lk_Md_165 d_Md_fits_148 ?_
                      
                      refine r_icmp_gt (tgt := 167) C d_Md_fits_151 (by decide) (by first | assumption | exact bd_ir (by assumption) rfl | exact b2i_ir _ | exact pb_ir _ | exact ir_mk (by omega) (by omega)) (by first | assumption | exact bd_ir (by assumption) rfl | exact b2i_ir _ | exact pb_ir _ | exact ir_mk (by omega) (by omega)) (fun c151 => ?_) (fun c151 => ?_)
                      · refine r_iconst C d_Md_fits_167 ?_
                        refine r_istore_4 C d_Md_fits_168 ?_
                        refine r_iinc_5 C d_Md_fits_170 ?_
                        refine r_goto (tgt := 6) C d_Md_fits_173 (by decide) ?_
                        have h := fun X Y Z => ih (i + 1) X Y Z (by omega) (by omega)
                        rw [show s + ((i + 1 : Nat) : Int) = s + (i : Int) + 1 by omega] at h
                        have e9 : pb (mfN t j s wk (i + 1)) = pb (okM t j (s + (i : Int)) wk) := pb_c ⟨fun q => (mfN_s.mp q).2, fun q => mfN_s.mpr ⟨Classical.byContradiction (fun z => c20 (pb_f z)), q⟩⟩
                        rw [e9] at h
                        have hm : (moM t (s + (i : Int)) wk ∧ mrM t 18 (s + (i : Int)) wk = t 18 (t 8 0).toNat ∧ mrM t 19 (s + (i : Int)) wk = t 19 (t 8 0).toNat) ∨ (¬ moM t (s + (i : Int)) wk ∧ mrM t 18 (s + (i : Int)) wk = 0 ∧ mrM t 19 (s + (i : Int)) wk = 0) := by
                          by_cases q : moM t (s + (i : Int)) wk
                          · exact Or.inl ⟨q, by unfold mrM; rw [pif_t q], by unfold mrM; rw [pif_t q]⟩
                          · exact Or.inr ⟨q, by unfold mrM; rw [pif_f q], by unfold mrM; rw [pif_f q]⟩
                        have hno : (w = 0 ∨ t 9 0 = -1 ∨ s + (i : Int) < t 9 0 ∨ t 9 0 + t 37 0 ≤ s + (i : Int)) → ¬ moM t (s + (i : Int)) wk := by
                          rintro (z | z | z | z) ⟨m1, m2, m3, m4⟩
                          · exact hpz z m1
                          · exact m2 z
                          · omega
                          · omega
                        have hyes : ¬ w = 0 → ¬ t 9 0 = -1 → ¬ s + (i : Int) < t 9 0 → ¬ t 9 0 + t 37 0 ≤ s + (i : Int) → moM t (s + (i : Int)) wk := fun z1 z2 z3 z4 => ⟨hpw z1, z2, by omega, by omega⟩
                        first
                          | (rw [show pb (okM t j (s + (i : Int)) wk) = 1 from pb_t (by
                                unfold okM
                                rcases hm with ⟨m0, m1, m2⟩ | ⟨m0, m1, m2⟩ <;> rw [m1, m2]
                                · first | exact ⟨by omega, by omega⟩ | exact absurd m0 (hno (by omega))
                                · first | exact ⟨by omega, by omega⟩ | exact absurd (hyes (by omega) (by omega) (by omega) (by omega)) m0)] at h
                             exact h _ _ _)
                          | (rw [show pb (okM t j (s + (i : Int)) wk) = 0 from pb_f (fun z => by
                                unfold okM at z
                                rcases hm with ⟨m0, m1, m2⟩ | ⟨m0, m1, m2⟩ <;> rw [m1, m2] at z
                                · first | exact absurd m0 (hno (by omega)) | omega
                                · first | exact absurd (hyes (by omega) (by omega) (by omega) (by omega)) m0 | omega)] at h
                             exact h _ _ _)
                      · refine r_iload C d_Md_fits_154 rfl ?_
                        refine r_aload_n C d_Md_fits_156 rfl ?_
                        refine g_Md_allLicences C lk_Md_13 d_Md_fits_157 ?_
                        refine r_icmp_gt (tgt := 167) C d_Md_fits_160 (by decide) (by first | assumption | exact bd_ir (by assumption) rfl | exact b2i_ir _ | exact pb_ir _ | exact ir_mk (by omega) (by omega)) (by first | assumption | exact bd_ir (by assumption) rfl | exact b2i_ir _ | exact pb_ir _ | exact ir_mk (by omega) (by omega)) (fun c160 => ?_) (fun c160 => ?_)
                        · refine r_iconst C d_Md_fits_167 ?_
                          refine r_istore_4 C d_Md_fits_168 ?_
                          refine r_iinc_5 C d_Md_fits_170 ?_
                          refine r_goto (tgt := 6) C d_Md_fits_173 (by decide) ?_
                          have h := fun X Y Z => ih (i + 1) X Y Z (by omega) (by omega)
                          rw [show s + ((i + 1 : Nat) : Int) = s + (i : Int) + 1 by omega] at h
                          have e9 : pb (mfN t j s wk (i + 1)) = pb (okM t j (s + (i : Int)) wk) := pb_c ⟨fun q => (mfN_s.mp q).2, fun q => mfN_s.mpr ⟨Classical.byContradiction (fun z => c20 (pb_f z)), q⟩⟩
                          rw [e9] at h
                          have hm : (moM t (s + (i : Int)) wk ∧ mrM t 18 (s + (i : Int)) wk = t 18 (t 8 0).toNat ∧ mrM t 19 (s + (i : Int)) wk = t 19 (t 8 0).toNat) ∨ (¬ moM t (s + (i : Int)) wk ∧ mrM t 18 (s + (i : Int)) wk = 0 ∧ mrM t 19 (s + (i : Int)) wk = 0) := by
                            by_cases q : moM t (s + (i : Int)) wk
                            · exact Or.inl ⟨q, by unfold mrM; rw [pif_t q], by unfold mrM; rw [pif_t q]⟩
                            · exact Or.inr ⟨q, by unfold mrM; rw [pif_f q], by unfold mrM; rw [pif_f q]⟩
                          have hno : (w = 0 ∨ t 9 0 = -1 ∨ s + (i : Int) < t 9 0 ∨ t 9 0 + t 37 0 ≤ s + (i : Int)) → ¬ moM t (s + (i : Int)) wk := by
                            rintro (z | z | z | z) ⟨m1, m2, m3, m4⟩
                            · exact hpz z m1
                            · exact m2 z
                            · omega
                            · omega
                          have hyes : ¬ w = 0 → ¬ t 9 0 = -1 → ¬ s + (i : Int) < t 9 0 → ¬ t 9 0 + t 37 0 ≤ s + (i : Int) → moM t (s + (i : Int)) wk := fun z1 z2 z3 z4 => ⟨hpw z1, z2, by omega, by omega⟩
                          first
                            | (rw [show pb (okM t j (s + (i : Int)) wk) = 1 from pb_t (by
                                  unfold okM
                                  rcases hm with ⟨m0, m1, m2⟩ | ⟨m0, m1, m2⟩ <;> rw [m1, m2]
                                  · first | exact ⟨by omega, by omega⟩ | exact absurd m0 (hno (by omega))
                                  · first | exact ⟨by omega, by omega⟩ | exact absurd (hyes (by omega) (by omega) (by omega) (by omega)) m0)] at h
                               exact h _ _ _)
                            | (rw [show pb (okM t j (s + (i : Int)) wk) = 0 from pb_f (fun z => by
                                  unfold okM at z
                                  rcases hm with ⟨m0, m1, m2⟩ | ⟨m0, m1, m2⟩ <;> rw [m1, m2] at z
                                  · first | exact absurd m0 (hno (by omega)) | omega
                                  · first | exact absurd (hyes (by omega) (by omega) (by omega) (by omega)) m0 | omega)] at h
                               exact h _ _ _)
                        · refine r_iconst C d_Md_fits_163 ?_
                          refine r_goto (tgt := 168) C d_Md_fits_164 (by decide) ?_
                          refine r_istore_4 C d_Md_fits_168 ?_
                          refine r_iinc_5 C d_Md_fits_170 ?_
                          refine r_goto (tgt := 6) C d_Md_fits_173 (by decide) ?_
                          have h := fun X Y Z => ih (i + 1) X Y Z (by omega) (by omega)
                          rw [show s + ((i + 1 : Nat) : Int) = s + (i : Int) + 1 by omega] at h
                          have e9 : pb (mfN t j s wk (i + 1)) = pb (okM t j (s + (i : Int)) wk) := pb_c ⟨fun q => (mfN_s.mp q).2, fun q => mfN_s.mpr ⟨Classical.byContradiction (fun z => c20 (pb_f z)), q⟩⟩
                          rw [e9] at h
                          have hm : (moM t (s + (i : Int)) wk ∧ mrM t 18 (s + (i : Int)) wk = t 18 (t 8 0).toNat ∧ mrM t 19 (s + (i : Int)) wk = t 19 (t 8 0).toNat) ∨ (¬ moM t (s + (i : Int)) wk ∧ mrM t 18 (s + (i : Int)) wk = 0 ∧ mrM t 19 (s + (i : Int)) wk = 0) := by
                            by_cases q : moM t (s + (i : Int)) wk
                            · exact Or.inl ⟨q, by unfold mrM; rw [pif_t q], by unfold mrM; rw [pif_t q]⟩
                            · exact Or.inr ⟨q, by unfold mrM; rw [pif_f q], by unfold mrM; rw [pif_f q]⟩
                          have hno : (w = 0 ∨ t 9 0 = -1 ∨ s + (i : Int) < t 9 0 ∨ t 9 0 + t 37 0 ≤ s + (i : Int)) → ¬ moM t (s + (i : Int)) wk := by
                            rintro (z | z | z | z) ⟨m1, m2, m3, m4⟩
                            · exact hpz z m1
                            · exact m2 z
                            · omega
                            · omega
                          have hyes : ¬ w = 0 → ¬ t 9 0 = -1 → ¬ s + (i : Int) < t 9 0 → ¬ t 9 0 + t 37 0 ≤ s + (i : Int) → moM t (s + (i : Int)) wk := fun z1 z2 z3 z4 => ⟨hpw z1, z2, by omega, by omega⟩
                          first
                            | (rw [show pb (okM t j (s + (i : Int)) wk) = 1 from pb_t (by
                                  unfold okM
                                  rcases hm with ⟨m0, m1, m2⟩ | ⟨m0, m1, m2⟩ <;> rw [m1, m2]
                                  · first | exact ⟨by omega, by omega⟩ | exact absurd m0 (hno (by omega))
                                  · first | exact ⟨by omega, by omega⟩ | exact absurd (hyes (by omega) (by omega) (by omega) (by omega)) m0)] at h
                               exact h _ _ _)
                            | (rw [show pb (okM t j (s + (i : Int)) wk) = 0 from pb_f (fun z => by
                                  unfold okM at z
                                  rcases hm with ⟨m0, m1, m2⟩ | ⟨m0, m1, m2⟩ <;> rw [m1, m2] at z
                                  · first | exact absurd m0 (hno (by omega)) | omega
                                  · first | exact absurd (hyes (by omega) (by omega) (by omega) (by omega)) m0 | omega)] at h
                               exact h _ _ _)
                    · refine r_aload_n C d_Md_fits_129 rfl ?_
                      refine g_Md_needs C lk_Md_36 d_Md_fits_130 ?_
                      refine r_aload_n C d_Md_fits_133 rfl ?_
                      refine g_Md_blocked C lk_Md_81 d_Md_fits_134 ?_
                      refine x_Md_needs C (t 8 0).toNat (by first | (have := hw8 (hpw c24); omega) | omega) (by omega) d_Md_fits_137 ?_
                      refine r_goto (tgt := 142) C d_Md_fits_138 (by decide) ?_
                      refine r_iadd C d_Md_fits_142 ?_
                      refine r_istore_8 C d_Md_fits_143 ?_
                      refine r_iload C d_Md_fits_145 rfl ?_
                      refine r_aload_n C d_Md_fits_147 rfl ?_
                      refine g_Md_roomNow C lk_Md_165 d_Md_fits_148 ?_
                      
                      refine r_icmp_gt (tgt := 167) C d_Md_fits_151 (by decide) (by first | assumption | exact bd_ir (by assumption) rfl | exact b2i_ir _ | exact pb_ir _ | exact ir_mk (by omega) (by omega)) (by first | assumption | exact bd_ir (by assumption) rfl | exact b2i_ir _ | exact pb_ir _ | exact ir_mk (by omega) (by omega)) (fun c151 => ?_) (fun c151 => ?_)
                      · refine r_iconst C d_Md_fits_167 ?_
                        refine r_istore_4 C d_Md_fits_168 ?_
                        refine r_iinc_5 C d_Md_fits_170 ?_
                        refine r_goto (tgt := 6) C d_Md_fits_173 (by decide) ?_
                        have h := fun X Y Z => ih (i + 1) X Y Z (by omega) (by omega)
                        rw [show s + ((i + 1 : Nat) : Int) = s + (i : Int) + 1 by omega] at h
                        have e9 : pb (mfN t j s wk (i + 1)) = pb (okM t j (s + (i : Int)) wk) := pb_c ⟨fun q => (mfN_s.mp q).2, fun q => mfN_s.mpr ⟨Classical.byContradiction (fun z => c20 (pb_f z)), q⟩⟩
                        rw [e9] at h
                        have hm : (moM t (s + (i : Int)) wk ∧ mrM t 18 (s + (i : Int)) wk = t 18 (t 8 0).toNat ∧ mrM t 19 (s + (i : Int)) wk = t 19 (t 8 0).toNat) ∨ (¬ moM t (s + (i : Int)) wk ∧ mrM t 18 (s + (i : Int)) wk = 0 ∧ mrM t 19 (s + (i : Int)) wk = 0) := by
                          by_cases q : moM t (s + (i : Int)) wk
                          · exact Or.inl ⟨q, by unfold mrM; rw [pif_t q], by unfold mrM; rw [pif_t q]⟩
                          · exact Or.inr ⟨q, by unfold mrM; rw [pif_f q], by unfold mrM; rw [pif_f q]⟩
                        have hno : (w = 0 ∨ t 9 0 = -1 ∨ s + (i : Int) < t 9 0 ∨ t 9 0 + t 37 0 ≤ s + (i : Int)) → ¬ moM t (s + (i : Int)) wk := by
                          rintro (z | z | z | z) ⟨m1, m2, m3, m4⟩
                          · exact hpz z m1
                          · exact m2 z
                          · omega
                          · omega
                        have hyes : ¬ w = 0 → ¬ t 9 0 = -1 → ¬ s + (i : Int) < t 9 0 → ¬ t 9 0 + t 37 0 ≤ s + (i : Int) → moM t (s + (i : Int)) wk := fun z1 z2 z3 z4 => ⟨hpw z1, z2, by omega, by omega⟩
                        first
                          | (rw [show pb (okM t j (s + (i : Int)) wk) = 1 from pb_t (by
                                unfold okM
                                rcases hm with ⟨m0, m1, m2⟩ | ⟨m0, m1, m2⟩ <;> rw [m1, m2]
                                · first | exact ⟨by omega, by omega⟩ | exact absurd m0 (hno (by omega))
                                · first | exact ⟨by omega, by omega⟩ | exact absurd (hyes (by omega) (by omega) (by omega) (by omega)) m0)] at h
                             exact h _ _ _)
                          | (rw [show pb (okM t j (s + (i : Int)) wk) = 0 from pb_f (fun z => by
                                unfold okM at z
                                rcases hm with ⟨m0, m1, m2⟩ | ⟨m0, m1, m2⟩ <;> rw [m1, m2] at z
                                · first | exact absurd m0 (hno (by omega)) | omega
                                · first | exact absurd (hyes (by omega) (by omega) (by omega) (by omega)) m0 | omega)] at h
                             exact h _ _ _)
                      · refine r_iload C d_Md_fits_154 rfl ?_
                        refine r_aload_n C d_Md_fits_156 rfl ?_
                        refine g_Md_allLicences C lk_Md_13 d_Md_fits_157 ?_
                        refine r_icmp_gt (tgt := 167) C d_Md_fits_160 (by decide) (by first | assumption | exact bd_ir (by assumption) rfl | exact b2i_ir _ | exact pb_ir _ | exact ir_mk (by omega) (by omega)) (by first | assumption | exact bd_ir (by assumption) rfl | exact b2i_ir _ | exact pb_ir _ | exact ir_mk (by omega) (by omega)) (fun c160 => ?_) (fun c160 => ?_)
                        · refine r_iconst C d_Md_fits_167 ?_
                          refine r_istore_4 C d_Md_fits_168 ?_
                          refine r_iinc_5 C d_Md_fits_170 ?_
                          refine r_goto (tgt := 6) C d_Md_fits_173 (by decide) ?_
                          have h := fun X Y Z => ih (i + 1) X Y Z (by omega) (by omega)
                          rw [show s + ((i + 1 : Nat) : Int) = s + (i : Int) + 1 by omega] at h
                          have e9 : pb (mfN t j s wk (i + 1)) = pb (okM t j (s + (i : Int)) wk) := pb_c ⟨fun q => (mfN_s.mp q).2, fun q => mfN_s.mpr ⟨Classical.byContradiction (fun z => c20 (pb_f z)), q⟩⟩
                          rw [e9] at h
                          have hm : (moM t (s + (i : Int)) wk ∧ mrM t 18 (s + (i : Int)) wk = t 18 (t 8 0).toNat ∧ mrM t 19 (s + (i : Int)) wk = t 19 (t 8 0).toNat) ∨ (¬ moM t (s + (i : Int)) wk ∧ mrM t 18 (s + (i : Int)) wk = 0 ∧ mrM t 19 (s + (i : Int)) wk = 0) := by
                            by_cases q : moM t (s + (i : Int)) wk
                            · exact Or.inl ⟨q, by unfold mrM; rw [pif_t q], by unfold mrM; rw [pif_t q]⟩
                            · exact Or.inr ⟨q, by unfold mrM; rw [pif_f q], by unfold mrM; rw [pif_f q]⟩
                          have hno : (w = 0 ∨ t 9 0 = -1 ∨ s + (i : Int) < t 9 0 ∨ t 9 0 + t 37 0 ≤ s + (i : Int)) → ¬ moM t (s + (i : Int)) wk := by
                            rintro (z | z | z | z) ⟨m1, m2, m3, m4⟩
                            · exact hpz z m1
                            · exact m2 z
                            · omega
                            · omega
                          have hyes : ¬ w = 0 → ¬ t 9 0 = -1 → ¬ s + (i : Int) < t 9 0 → ¬ t 9 0 + t 37 0 ≤ s + (i : Int) → moM t (s + (i : Int)) wk := fun z1 z2 z3 z4 => ⟨hpw z1, z2, by omega, by omega⟩
                          first
                            | (rw [show pb (okM t j (s + (i : Int)) wk) = 1 from pb_t (by
                                  unfold okM
                                  rcases hm with ⟨m0, m1, m2⟩ | ⟨m0, m1, m2⟩ <;> rw [m1, m2]
                                  · first | exact ⟨by omega, by omega⟩ | exact absurd m0 (hno (by omega))
                                  · first | exact ⟨by omega, by omega⟩ | exact absurd (hyes (by omega) (by omega) (by omega) (by omega)) m0)] at h
                               exact h _ _ _)
                            | (rw [show pb (okM t j (s + (i : Int)) wk) = 0 from pb_f (fun z => by
                                  unfold okM at z
                                  rcases hm with ⟨m0, m1, m2⟩ | ⟨m0, m1, m2⟩ <;> rw [m1, m2] at z
                                  · first | exact absurd m0 (hno (by omega)) | omega
                                  · first | exact absurd (hyes (by omega) (by omega) (by omega) (by omega)) m0 | omega)] at h
                               exact h _ _ _)
                        · refine r_iconst C d_Md_fits_163 ?_
                          refine r_goto (tgt := 168) C d_Md_fits_164 (by decide) ?_
                          refine r_istore_4 C d_Md_fits_168 ?_
                          refine r_iinc_5 C d_Md_fits_170 ?_
                          refine r_goto (tgt := 6) C d_Md_fits_173 (by decide) ?_
                          have h := fun X Y Z => ih (i + 1) X Y Z (by omega) (by omega)
                          rw [show s + ((i + 1 : Nat) : Int) = s + (i : Int) + 1 by omega] at h
                          have e9 : pb (mfN t j s wk (i + 1)) = pb (okM t j (s + (i : Int)) wk) := pb_c ⟨fun q => (mfN_s.mp q).2, fun q => mfN_s.mpr ⟨Classical.byContradiction (fun z => c20 (pb_f z)), q⟩⟩
                          rw [e9] at h
                          have hm : (moM t (s + (i : Int)) wk ∧ mrM t 18 (s + (i : Int)) wk = t 18 (t 8 0).toNat ∧ mrM t 19 (s + (i : Int)) wk = t 19 (t 8 0).toNat) ∨ (¬ moM t (s + (i : Int)) wk ∧ mrM t 18 (s + (i : Int)) wk = 0 ∧ mrM t 19 (s + (i : Int)) wk = 0) := by
                            by_cases q : moM t (s + (i : Int)) wk
                            · exact Or.inl ⟨q, by unfold mrM; rw [pif_t q], by unfold mrM; rw [pif_t q]⟩
                            · exact Or.inr ⟨q, by unfold mrM; rw [pif_f q], by unfold mrM; rw [pif_f q]⟩
                          have hno : (w = 0 ∨ t 9 0 = -1 ∨ s + (i : Int) < t 9 0 ∨ t 9 0 + t 37 0 ≤ s + (i : Int)) → ¬ moM t (s + (i : Int)) wk := by
                            rintro (z | z | z | z) ⟨m1, m2, m3, m4⟩
                            · exact hpz z m1
                            · exact m2 z
                            · omega
                            · omega
                          have hyes : ¬ w = 0 → ¬ t 9 0 = -1 → ¬ s + (i : Int) < t 9 0 → ¬ t 9 0 + t 37 0 ≤ s + (i : Int) → moM t (s + (i : Int)) wk := fun z1 z2 z3 z4 => ⟨hpw z1, z2, by omega, by omega⟩
                          first
                            | (rw [show pb (okM t j (s + (i : Int)) wk) = 1 from pb_t (by
                                  unfold okM
                                  rcases hm with ⟨m0, m1, m2⟩ | ⟨m0, m1, m2⟩ <;> rw [m1, m2]
                                  · first | exact ⟨by omega, by omega⟩ | exact absurd m0 (hno (by omega))
                                  · first | exact ⟨by omega, by omega⟩ | exact absurd (hyes (by omega) (by omega) (by omega) (by omega)) m0)] at h
                               exact h _ _ _)
                            | (rw [show pb (okM t j (s + (i : Int)) wk) = 0 from pb_f (fun z => by
                                  unfold okM at z
                                  rcases hm with ⟨m0, m1, m2⟩ | ⟨m0, m1, m2⟩ <;> rw [m1, m2] at z
                                  · first | exact absurd m0 (hno (by omega)) | omega
                                  · first | exact absurd (hyes (by omega) (by omega) (by omega) (by omega)) m0 | omega)] at h
                               exact h _ _ _)
                · refine r_iconst C d_Md_fits_58 ?_
                  refine r_goto (tgt := 63) C d_Md_fits_59 (by decide) ?_
                  refine r_istore_6 C d_Md_fits_63 ?_
                  refine r_aload_n C d_Md_fits_65 rfl ?_
                  refine g_Md_nodesAt C lk_Md_87 d_Md_fits_66 ?_
                  refine r_iload C d_Md_fits_69 rfl ?_
                  refine r_aload_n C d_Md_fits_71 rfl ?_
                  refine g_Md_time C lk_Md_148 d_Md_fits_72 ?_
                  refine r_isub C d_Md_fits_75 ?_
                  refine x_Md_nodesAt C (s + (i : Int) - t 4 0).toNat (by omega) (by omega) d_Md_fits_76 ?_
                  refine r_aload_n C d_Md_fits_77 rfl ?_
                  refine g_Md_wants C lk_Md_33 d_Md_fits_78 ?_
                  refine r_iload_n C d_Md_fits_81 rfl ?_
                  refine x_Md_wants C _ rfl (by omega) d_Md_fits_82 ?_
                  refine r_iadd C d_Md_fits_83 ?_
                  refine r_iload C d_Md_fits_84 rfl ?_
                  refine r_if_eq (tgt := 101) C d_Md_fits_86 (by decide) (ir_mk (by omega) (by omega)) (fun c86 => ?_) (fun c86 => ?_)
                  · refine r_iconst C d_Md_fits_101 ?_
                    refine r_iadd C d_Md_fits_102 ?_
                    refine r_istore_7 C d_Md_fits_103 ?_
                    refine r_aload_n C d_Md_fits_105 rfl ?_
                    refine g_Md_licencesAt C lk_Md_90 d_Md_fits_106 ?_
                    refine r_iload C d_Md_fits_109 rfl ?_
                    refine r_aload_n C d_Md_fits_111 rfl ?_
                    refine g_Md_time C lk_Md_148 d_Md_fits_112 ?_
                    refine r_isub C d_Md_fits_115 ?_
                    refine x_Md_licencesAt C (s + (i : Int) - t 4 0).toNat (by omega) (by omega) d_Md_fits_116 ?_
                    refine r_aload_n C d_Md_fits_117 rfl ?_
                    refine g_Md_needs C lk_Md_36 d_Md_fits_118 ?_
                    refine r_iload_n C d_Md_fits_121 rfl ?_
                    refine x_Md_needs C _ rfl (by omega) d_Md_fits_122 ?_
                    refine r_iadd C d_Md_fits_123 ?_
                    refine r_iload C d_Md_fits_124 rfl ?_
                    refine r_if_eq (tgt := 141) C d_Md_fits_126 (by decide) (ir_mk (by omega) (by omega)) (fun c126 => ?_) (fun c126 => ?_)
                    · refine r_iconst C d_Md_fits_141 ?_
                      refine r_iadd C d_Md_fits_142 ?_
                      refine r_istore_8 C d_Md_fits_143 ?_
                      refine r_iload C d_Md_fits_145 rfl ?_
                      refine r_aload_n C d_Md_fits_147 rfl ?_
                      refine g_Md_roomNow C lk_Md_165 d_Md_fits_148 ?_
                      
                      refine r_icmp_gt (tgt := 167) C d_Md_fits_151 (by decide) (by first | assumption | exact bd_ir (by assumption) rfl | exact b2i_ir _ | exact pb_ir _ | exact ir_mk (by omega) (by omega)) (by first | assumption | exact bd_ir (by assumption) rfl | exact b2i_ir _ | exact pb_ir _ | exact ir_mk (by omega) (by omega)) (fun c151 => ?_) (fun c151 => ?_)
                      · refine r_iconst C d_Md_fits_167 ?_
                        refine r_istore_4 C d_Md_fits_168 ?_
                        refine r_iinc_5 C d_Md_fits_170 ?_
                        refine r_goto (tgt := 6) C d_Md_fits_173 (by decide) ?_
                        have h := fun X Y Z => ih (i + 1) X Y Z (by omega) (by omega)
                        rw [show s + ((i + 1 : Nat) : Int) = s + (i : Int) + 1 by omega] at h
                        have e9 : pb (mfN t j s wk (i + 1)) = pb (okM t j (s + (i : Int)) wk) := pb_c ⟨fun q => (mfN_s.mp q).2, fun q => mfN_s.mpr ⟨Classical.byContradiction (fun z => c20 (pb_f z)), q⟩⟩
                        rw [e9] at h
                        have hm : (moM t (s + (i : Int)) wk ∧ mrM t 18 (s + (i : Int)) wk = t 18 (t 8 0).toNat ∧ mrM t 19 (s + (i : Int)) wk = t 19 (t 8 0).toNat) ∨ (¬ moM t (s + (i : Int)) wk ∧ mrM t 18 (s + (i : Int)) wk = 0 ∧ mrM t 19 (s + (i : Int)) wk = 0) := by
                          by_cases q : moM t (s + (i : Int)) wk
                          · exact Or.inl ⟨q, by unfold mrM; rw [pif_t q], by unfold mrM; rw [pif_t q]⟩
                          · exact Or.inr ⟨q, by unfold mrM; rw [pif_f q], by unfold mrM; rw [pif_f q]⟩
                        have hno : (w = 0 ∨ t 9 0 = -1 ∨ s + (i : Int) < t 9 0 ∨ t 9 0 + t 37 0 ≤ s + (i : Int)) → ¬ moM t (s + (i : Int)) wk := by
                          rintro (z | z | z | z) ⟨m1, m2, m3, m4⟩
                          · exact hpz z m1
                          · exact m2 z
                          · omega
                          · omega
                        have hyes : ¬ w = 0 → ¬ t 9 0 = -1 → ¬ s + (i : Int) < t 9 0 → ¬ t 9 0 + t 37 0 ≤ s + (i : Int) → moM t (s + (i : Int)) wk := fun z1 z2 z3 z4 => ⟨hpw z1, z2, by omega, by omega⟩
                        first
                          | (rw [show pb (okM t j (s + (i : Int)) wk) = 1 from pb_t (by
                                unfold okM
                                rcases hm with ⟨m0, m1, m2⟩ | ⟨m0, m1, m2⟩ <;> rw [m1, m2]
                                · first | exact ⟨by omega, by omega⟩ | exact absurd m0 (hno (by omega))
                                · first | exact ⟨by omega, by omega⟩ | exact absurd (hyes (by omega) (by omega) (by omega) (by omega)) m0)] at h
                             exact h _ _ _)
                          | (rw [show pb (okM t j (s + (i : Int)) wk) = 0 from pb_f (fun z => by
                                unfold okM at z
                                rcases hm with ⟨m0, m1, m2⟩ | ⟨m0, m1, m2⟩ <;> rw [m1, m2] at z
                                · first | exact absurd m0 (hno (by omega)) | omega
                                · first | exact absurd (hyes (by omega) (by omega) (by omega) (by omega)) m0 | omega)] at h
                             exact h _ _ _)
                      · refine r_iload C d_Md_fits_154 rfl ?_
                        refine r_aload_n C d_Md_fits_156 rfl ?_
                        refine g_Md_allLicences C lk_Md_13 d_Md_fits_157 ?_
                        refine r_icmp_gt (tgt := 167) C d_Md_fits_160 (by decide) (by first | assumption | exact bd_ir (by assumption) rfl | exact b2i_ir _ | exact pb_ir _ | exact ir_mk (by omega) (by omega)) (by first | assumption | exact bd_ir (by assumption) rfl | exact b2i_ir _ | exact pb_ir _ | exact ir_mk (by omega) (by omega)) (fun c160 => ?_) (fun c160 => ?_)
                        · refine r_iconst C d_Md_fits_167 ?_
                          refine r_istore_4 C d_Md_fits_168 ?_
                          refine r_iinc_5 C d_Md_fits_170 ?_
                          refine r_goto (tgt := 6) C d_Md_fits_173 (by decide) ?_
                          have h := fun X Y Z => ih (i + 1) X Y Z (by omega) (by omega)
                          rw [show s + ((i + 1 : Nat) : Int) = s + (i : Int) + 1 by omega] at h
                          have e9 : pb (mfN t j s wk (i + 1)) = pb (okM t j (s + (i : Int)) wk) := pb_c ⟨fun q => (mfN_s.mp q).2, fun q => mfN_s.mpr ⟨Classical.byContradiction (fun z => c20 (pb_f z)), q⟩⟩
                          rw [e9] at h
                          have hm : (moM t (s + (i : Int)) wk ∧ mrM t 18 (s + (i : Int)) wk = t 18 (t 8 0).toNat ∧ mrM t 19 (s + (i : Int)) wk = t 19 (t 8 0).toNat) ∨ (¬ moM t (s + (i : Int)) wk ∧ mrM t 18 (s + (i : Int)) wk = 0 ∧ mrM t 19 (s + (i : Int)) wk = 0) := by
                            by_cases q : moM t (s + (i : Int)) wk
                            · exact Or.inl ⟨q, by unfold mrM; rw [pif_t q], by unfold mrM; rw [pif_t q]⟩
                            · exact Or.inr ⟨q, by unfold mrM; rw [pif_f q], by unfold mrM; rw [pif_f q]⟩
                          have hno : (w = 0 ∨ t 9 0 = -1 ∨ s + (i : Int) < t 9 0 ∨ t 9 0 + t 37 0 ≤ s + (i : Int)) → ¬ moM t (s + (i : Int)) wk := by
                            rintro (z | z | z | z) ⟨m1, m2, m3, m4⟩
                            · exact hpz z m1
                            · exact m2 z
                            · omega
                            · omega
                          have hyes : ¬ w = 0 → ¬ t 9 0 = -1 → ¬ s + (i : Int) < t 9 0 → ¬ t 9 0 + t 37 0 ≤ s + (i : Int) → moM t (s + (i : Int)) wk := fun z1 z2 z3 z4 => ⟨hpw z1, z2, by omega, by omega⟩
                          first
                            | (rw [show pb (okM t j (s + (i : Int)) wk) = 1 from pb_t (by
                                  unfold okM
                                  rcases hm with ⟨m0, m1, m2⟩ | ⟨m0, m1, m2⟩ <;> rw [m1, m2]
                                  · first | exact ⟨by omega, by omega⟩ | exact absurd m0 (hno (by omega))
                                  · first | exact ⟨by omega, by omega⟩ | exact absurd (hyes (by omega) (by omega) (by omega) (by omega)) m0)] at h
                               exact h _ _ _)
                            | (rw [show pb (okM t j (s + (i : Int)) wk) = 0 from pb_f (fun z => by
                                  unfold okM at z
                                  rcases hm with ⟨m0, m1, m2⟩ | ⟨m0, m1, m2⟩ <;> rw [m1, m2] at z
                                  · first | exact absurd m0 (hno (by omega)) | omega
                                  · first | exact absurd (hyes (by omega) (by omega) (by omega) (by omega)) m0 | omega)] at h
                               exact h _ _ _)
                        · refine r_iconst C d_Md_fits_163 ?_
                          refine r_goto (tgt := 168) C d_Md_fits_164 (by decide) ?_
                          refine r_istore_4 C d_Md_fits_168 ?_
                          refine r_iinc_5 C d_Md_fits_170 ?_
                          refine r_goto (tgt := 6) C d_Md_fits_173 (by decide) ?_
                          have h := fun X Y Z => ih (i + 1) X Y Z (by omega) (by omega)
                          rw [show s + ((i + 1 : Nat) : Int) = s + (i : Int) + 1 by omega] at h
                          have e9 : pb (mfN t j s wk (i + 1)) = pb (okM t j (s + (i : Int)) wk) := pb_c ⟨fun q => (mfN_s.mp q).2, fun q => mfN_s.mpr ⟨Classical.byContradiction (fun z => c20 (pb_f z)), q⟩⟩
                          rw [e9] at h
                          have hm : (moM t (s + (i : Int)) wk ∧ mrM t 18 (s + (i : Int)) wk = t 18 (t 8 0).toNat ∧ mrM t 19 (s + (i : Int)) wk = t 19 (t 8 0).toNat) ∨ (¬ moM t (s + (i : Int)) wk ∧ mrM t 18 (s + (i : Int)) wk = 0 ∧ mrM t 19 (s + (i : Int)) wk = 0) := by
                            by_cases q : moM t (s + (i : Int)) wk
                            · exact Or.inl ⟨q, by unfold mrM; rw [pif_t q], by unfold mrM; rw [pif_t q]⟩
                            · exact Or.inr ⟨q, by unfold mrM; rw [pif_f q], by unfold mrM; rw [pif_f q]⟩
                          have hno : (w = 0 ∨ t 9 0 = -1 ∨ s + (i : Int) < t 9 0 ∨ t 9 0 + t 37 0 ≤ s + (i : Int)) → ¬ moM t (s + (i : Int)) wk := by
                            rintro (z | z | z | z) ⟨m1, m2, m3, m4⟩
                            · exact hpz z m1
                            · exact m2 z
                            · omega
                            · omega
                          have hyes : ¬ w = 0 → ¬ t 9 0 = -1 → ¬ s + (i : Int) < t 9 0 → ¬ t 9 0 + t 37 0 ≤ s + (i : Int) → moM t (s + (i : Int)) wk := fun z1 z2 z3 z4 => ⟨hpw z1, z2, by omega, by omega⟩
                          first
                            | (rw [show pb (okM t j (s + (i : Int)) wk) = 1 from pb_t (by
                                  unfold okM
                                  rcases hm with ⟨m0, m1, m2⟩ | ⟨m0, m1, m2⟩ <;> rw [m1, m2]
                                  · first | exact ⟨by omega, by omega⟩ | exact absurd m0 (hno (by omega))
                                  · first | exact ⟨by omega, by omega⟩ | exact absurd (hyes (by omega) (by omega) (by omega) (by omega)) m0)] at h
                               exact h _ _ _)
                            | (rw [show pb (okM t j (s + (i : Int)) wk) = 0 from pb_f (fun z => by
                                  unfold okM at z
                                  rcases hm with ⟨m0, m1, m2⟩ | ⟨m0, m1, m2⟩ <;> rw [m1, m2] at z
                                  · first | exact absurd m0 (hno (by omega)) | omega
                                  · first | exact absurd (hyes (by omega) (by omega) (by omega) (by omega)) m0 | omega)] at h
                               exact h _ _ _)
                    · refine r_aload_n C d_Md_fits_129 rfl ?_
                      refine g_Md_needs C lk_Md_36 d_Md_fits_130 ?_
                      refine r_aload_n C d_Md_fits_133 rfl ?_
                      refine g_Md_blocked C lk_Md_81 d_Md_fits_134 ?_
                      refine x_Md_needs C (t 8 0).toNat (by first | (have := hw8 (hpw c24); omega) | omega) (by omega) d_Md_fits_137 ?_
                      refine r_goto (tgt := 142) C d_Md_fits_138 (by decide) ?_
                      refine r_iadd C d_Md_fits_142 ?_
                      refine r_istore_8 C d_Md_fits_143 ?_
                      refine r_iload C d_Md_fits_145 rfl ?_
                      refine r_aload_n C d_Md_fits_147 rfl ?_
                      refine g_Md_roomNow C lk_Md_165 d_Md_fits_148 ?_
                      
                      refine r_icmp_gt (tgt := 167) C d_Md_fits_151 (by decide) (by first | assumption | exact bd_ir (by assumption) rfl | exact b2i_ir _ | exact pb_ir _ | exact ir_mk (by omega) (by omega)) (by first | assumption | exact bd_ir (by assumption) rfl | exact b2i_ir _ | exact pb_ir _ | exact ir_mk (by omega) (by omega)) (fun c151 => ?_) (fun c151 => ?_)
                      · refine r_iconst C d_Md_fits_167 ?_
                        refine r_istore_4 C d_Md_fits_168 ?_
                        refine r_iinc_5 C d_Md_fits_170 ?_
                        refine r_goto (tgt := 6) C d_Md_fits_173 (by decide) ?_
                        have h := fun X Y Z => ih (i + 1) X Y Z (by omega) (by omega)
                        rw [show s + ((i + 1 : Nat) : Int) = s + (i : Int) + 1 by omega] at h
                        have e9 : pb (mfN t j s wk (i + 1)) = pb (okM t j (s + (i : Int)) wk) := pb_c ⟨fun q => (mfN_s.mp q).2, fun q => mfN_s.mpr ⟨Classical.byContradiction (fun z => c20 (pb_f z)), q⟩⟩
                        rw [e9] at h
                        have hm : (moM t (s + (i : Int)) wk ∧ mrM t 18 (s + (i : Int)) wk = t 18 (t 8 0).toNat ∧ mrM t 19 (s + (i : Int)) wk = t 19 (t 8 0).toNat) ∨ (¬ moM t (s + (i : Int)) wk ∧ mrM t 18 (s + (i : Int)) wk = 0 ∧ mrM t 19 (s + (i : Int)) wk = 0) := by
                          by_cases q : moM t (s + (i : Int)) wk
                          · exact Or.inl ⟨q, by unfold mrM; rw [pif_t q], by unfold mrM; rw [pif_t q]⟩
                          · exact Or.inr ⟨q, by unfold mrM; rw [pif_f q], by unfold mrM; rw [pif_f q]⟩
                        have hno : (w = 0 ∨ t 9 0 = -1 ∨ s + (i : Int) < t 9 0 ∨ t 9 0 + t 37 0 ≤ s + (i : Int)) → ¬ moM t (s + (i : Int)) wk := by
                          rintro (z | z | z | z) ⟨m1, m2, m3, m4⟩
                          · exact hpz z m1
                          · exact m2 z
                          · omega
                          · omega
                        have hyes : ¬ w = 0 → ¬ t 9 0 = -1 → ¬ s + (i : Int) < t 9 0 → ¬ t 9 0 + t 37 0 ≤ s + (i : Int) → moM t (s + (i : Int)) wk := fun z1 z2 z3 z4 => ⟨hpw z1, z2, by omega, by omega⟩
                        first
                          | (rw [show pb (okM t j (s + (i : Int)) wk) = 1 from pb_t (by
                                unfold okM
                                rcases hm with ⟨m0, m1, m2⟩ | ⟨m0, m1, m2⟩ <;> rw [m1, m2]
                                · first | exact ⟨by omega, by omega⟩ | exact absurd m0 (hno (by omega))
                                · first | exact ⟨by omega, by omega⟩ | exact absurd (hyes (by omega) (by omega) (by omega) (by omega)) m0)] at h
                             exact h _ _ _)
                          | (rw [show pb (okM t j (s + (i : Int)) wk) = 0 from pb_f (fun z => by
                                unfold okM at z
                                rcases hm with ⟨m0, m1, m2⟩ | ⟨m0, m1, m2⟩ <;> rw [m1, m2] at z
                                · first | exact absurd m0 (hno (by omega)) | omega
                                · first | exact absurd (hyes (by omega) (by omega) (by omega) (by omega)) m0 | omega)] at h
                             exact h _ _ _)
                      · refine r_iload C d_Md_fits_154 rfl ?_
                        refine r_aload_n C d_Md_fits_156 rfl ?_
                        refine g_Md_allLicences C lk_Md_13 d_Md_fits_157 ?_
                        refine r_icmp_gt (tgt := 167) C d_Md_fits_160 (by decide) (by first | assumption | exact bd_ir (by assumption) rfl | exact b2i_ir _ | exact pb_ir _ | exact ir_mk (by omega) (by omega)) (by first | assumption | exact bd_ir (by assumption) rfl | exact b2i_ir _ | exact pb_ir _ | exact ir_mk (by omega) (by omega)) (fun c160 => ?_) (fun c160 => ?_)
                        · refine r_iconst C d_Md_fits_167 ?_
                          refine r_istore_4 C d_Md_fits_168 ?_
                          refine r_iinc_5 C d_Md_fits_170 ?_
                          refine r_goto (tgt := 6) C d_Md_fits_173 (by decide) ?_
                          have h := fun X Y Z => ih (i + 1) X Y Z (by omega) (by omega)
                          rw [show s + ((i + 1 : Nat) : Int) = s + (i : Int) + 1 by omega] at h
                          have e9 : pb (mfN t j s wk (i + 1)) = pb (okM t j (s + (i : Int)) wk) := pb_c ⟨fun q => (mfN_s.mp q).2, fun q => mfN_s.mpr ⟨Classical.byContradiction (fun z => c20 (pb_f z)), q⟩⟩
                          rw [e9] at h
                          have hm : (moM t (s + (i : Int)) wk ∧ mrM t 18 (s + (i : Int)) wk = t 18 (t 8 0).toNat ∧ mrM t 19 (s + (i : Int)) wk = t 19 (t 8 0).toNat) ∨ (¬ moM t (s + (i : Int)) wk ∧ mrM t 18 (s + (i : Int)) wk = 0 ∧ mrM t 19 (s + (i : Int)) wk = 0) := by
                            by_cases q : moM t (s + (i : Int)) wk
                            · exact Or.inl ⟨q, by unfold mrM; rw [pif_t q], by unfold mrM; rw [pif_t q]⟩
                            · exact Or.inr ⟨q, by unfold mrM; rw [pif_f q], by unfold mrM; rw [pif_f q]⟩
                          have hno : (w = 0 ∨ t 9 0 = -1 ∨ s + (i : Int) < t 9 0 ∨ t 9 0 + t 37 0 ≤ s + (i : Int)) → ¬ moM t (s + (i : Int)) wk := by
                            rintro (z | z | z | z) ⟨m1, m2, m3, m4⟩
                            · exact hpz z m1
                            · exact m2 z
                            · omega
                            · omega
                          have hyes : ¬ w = 0 → ¬ t 9 0 = -1 → ¬ s + (i : Int) < t 9 0 → ¬ t 9 0 + t 37 0 ≤ s + (i : Int) → moM t (s + (i : Int)) wk := fun z1 z2 z3 z4 => ⟨hpw z1, z2, by omega, by omega⟩
                          first
                            | (rw [show pb (okM t j (s + (i : Int)) wk) = 1 from pb_t (by
                                  unfold okM
                                  rcases hm with ⟨m0, m1, m2⟩ | ⟨m0, m1, m2⟩ <;> rw [m1, m2]
                                  · first | exact ⟨by omega, by omega⟩ | exact absurd m0 (hno (by omega))
                                  · first | exact ⟨by omega, by omega⟩ | exact absurd (hyes (by omega) (by omega) (by omega) (by omega)) m0)] at h
                               exact h _ _ _)
                            | (rw [show pb (okM t j (s + (i : Int)) wk) = 0 from pb_f (fun z => by
                                  unfold okM at z
                                  rcases hm with ⟨m0, m1, m2⟩ | ⟨m0, m1, m2⟩ <;> rw [m1, m2] at z
                                  · first | exact absurd m0 (hno (by omega)) | omega
                                  · first | exact absurd (hyes (by omega) (by omega) (by omega) (by omega)) m0 | omega)] at h
                               exact h _ _ _)
                        · refine r_iconst C d_Md_fits_163 ?_
                          refine r_goto (tgt := 168) C d_Md_fits_164 (by decide) ?_
                          refine r_istore_4 C d_Md_fits_168 ?_
                          refine r_iinc_5 C d_Md_fits_170 ?_
                          refine r_goto (tgt := 6) C d_Md_fits_173 (by decide) ?_
                          have h := fun X Y Z => ih (i + 1) X Y Z (by omega) (by omega)
                          rw [show s + ((i + 1 : Nat) : Int) = s + (i : Int) + 1 by omega] at h
                          have e9 : pb (mfN t j s wk (i + 1)) = pb (okM t j (s + (i : Int)) wk) := pb_c ⟨fun q => (mfN_s.mp q).2, fun q => mfN_s.mpr ⟨Classical.byContradiction (fun z => c20 (pb_f z)), q⟩⟩
                          rw [e9] at h
                          have hm : (moM t (s + (i : Int)) wk ∧ mrM t 18 (s + (i : Int)) wk = t 18 (t 8 0).toNat ∧ mrM t 19 (s + (i : Int)) wk = t 19 (t 8 0).toNat) ∨ (¬ moM t (s + (i : Int)) wk ∧ mrM t 18 (s + (i : Int)) wk = 0 ∧ mrM t 19 (s + (i : Int)) wk = 0) := by
                            by_cases q : moM t (s + (i : Int)) wk
                            · exact Or.inl ⟨q, by unfold mrM; rw [pif_t q], by unfold mrM; rw [pif_t q]⟩
                            · exact Or.inr ⟨q, by unfold mrM; rw [pif_f q], by unfold mrM; rw [pif_f q]⟩
                          have hno : (w = 0 ∨ t 9 0 = -1 ∨ s + (i : Int) < t 9 0 ∨ t 9 0 + t 37 0 ≤ s + (i : Int)) → ¬ moM t (s + (i : Int)) wk := by
                            rintro (z | z | z | z) ⟨m1, m2, m3, m4⟩
                            · exact hpz z m1
                            · exact m2 z
                            · omega
                            · omega
                          have hyes : ¬ w = 0 → ¬ t 9 0 = -1 → ¬ s + (i : Int) < t 9 0 → ¬ t 9 0 + t 37 0 ≤ s + (i : Int) → moM t (s + (i : Int)) wk := fun z1 z2 z3 z4 => ⟨hpw z1, z2, by omega, by omega⟩
                          first
                            | (rw [show pb (okM t j (s + (i : Int)) wk) = 1 from pb_t (by
                                  unfold okM
                                  rcases hm with ⟨m0, m1, m2⟩ | ⟨m0, m1, m2⟩ <;> rw [m1, m2]
                                  · first | exact ⟨by omega, by omega⟩ | exact absurd m0 (hno (by omega))
                                  · first | exact ⟨by omega, by omega⟩ | exact absurd (hyes (by omega) (by omega) (by omega) (by omega)) m0)] at h
                               exact h _ _ _)
                            | (rw [show pb (okM t j (s + (i : Int)) wk) = 0 from pb_f (fun z => by
                                  unfold okM at z
                                  rcases hm with ⟨m0, m1, m2⟩ | ⟨m0, m1, m2⟩ <;> rw [m1, m2] at z
                                  · first | exact absurd m0 (hno (by omega)) | omega
                                  · first | exact absurd (hyes (by omega) (by omega) (by omega) (by omega)) m0 | omega)] at h
                               exact h _ _ _)
                  · refine r_aload_n C d_Md_fits_89 rfl ?_
                    refine g_Md_wants C lk_Md_33 d_Md_fits_90 ?_
                    refine r_aload_n C d_Md_fits_93 rfl ?_
                    refine g_Md_blocked C lk_Md_81 d_Md_fits_94 ?_
                    refine x_Md_wants C (t 8 0).toNat (by first | (have := hw8 (hpw c24); omega) | omega) (by omega) d_Md_fits_97 ?_
                    refine r_goto (tgt := 102) C d_Md_fits_98 (by decide) ?_
                    refine r_iadd C d_Md_fits_102 ?_
                    refine r_istore_7 C d_Md_fits_103 ?_
                    refine r_aload_n C d_Md_fits_105 rfl ?_
                    refine g_Md_licencesAt C lk_Md_90 d_Md_fits_106 ?_
                    refine r_iload C d_Md_fits_109 rfl ?_
                    refine r_aload_n C d_Md_fits_111 rfl ?_
                    refine g_Md_time C lk_Md_148 d_Md_fits_112 ?_
                    refine r_isub C d_Md_fits_115 ?_
                    refine x_Md_licencesAt C (s + (i : Int) - t 4 0).toNat (by omega) (by omega) d_Md_fits_116 ?_
                    refine r_aload_n C d_Md_fits_117 rfl ?_
                    refine g_Md_needs C lk_Md_36 d_Md_fits_118 ?_
                    refine r_iload_n C d_Md_fits_121 rfl ?_
                    refine x_Md_needs C _ rfl (by omega) d_Md_fits_122 ?_
                    refine r_iadd C d_Md_fits_123 ?_
                    refine r_iload C d_Md_fits_124 rfl ?_
                    refine r_if_eq (tgt := 141) C d_Md_fits_126 (by decide) (ir_mk (by omega) (by omega)) (fun c126 => ?_) (fun c126 => ?_)
                    · refine r_iconst C d_Md_fits_141 ?_
                      refine r_iadd C d_Md_fits_142 ?_
                      refine r_istore_8 C d_Md_fits_143 ?_
                      refine r_iload C d_Md_fits_145 rfl ?_
                      refine r_aload_n C d_Md_fits_147 rfl ?_
                      refine g_Md_roomNow C lk_Md_165 d_Md_fits_148 ?_
                      
                      refine r_icmp_gt (tgt := 167) C d_Md_fits_151 (by decide) (by first | assumption | exact bd_ir (by assumption) rfl | exact b2i_ir _ | exact pb_ir _ | exact ir_mk (by omega) (by omega)) (by first | assumption | exact bd_ir (by assumption) rfl | exact b2i_ir _ | exact pb_ir _ | exact ir_mk (by omega) (by omega)) (fun c151 => ?_) (fun c151 => ?_)
                      · refine r_iconst C d_Md_fits_167 ?_
                        refine r_istore_4 C d_Md_fits_168 ?_
                        refine r_iinc_5 C d_Md_fits_170 ?_
                        refine r_goto (tgt := 6) C d_Md_fits_173 (by decide) ?_
                        have h := fun X Y Z => ih (i + 1) X Y Z (by omega) (by omega)
                        rw [show s + ((i + 1 : Nat) : Int) = s + (i : Int) + 1 by omega] at h
                        have e9 : pb (mfN t j s wk (i + 1)) = pb (okM t j (s + (i : Int)) wk) := pb_c ⟨fun q => (mfN_s.mp q).2, fun q => mfN_s.mpr ⟨Classical.byContradiction (fun z => c20 (pb_f z)), q⟩⟩
                        rw [e9] at h
                        have hm : (moM t (s + (i : Int)) wk ∧ mrM t 18 (s + (i : Int)) wk = t 18 (t 8 0).toNat ∧ mrM t 19 (s + (i : Int)) wk = t 19 (t 8 0).toNat) ∨ (¬ moM t (s + (i : Int)) wk ∧ mrM t 18 (s + (i : Int)) wk = 0 ∧ mrM t 19 (s + (i : Int)) wk = 0) := by
                          by_cases q : moM t (s + (i : Int)) wk
                          · exact Or.inl ⟨q, by unfold mrM; rw [pif_t q], by unfold mrM; rw [pif_t q]⟩
                          · exact Or.inr ⟨q, by unfold mrM; rw [pif_f q], by unfold mrM; rw [pif_f q]⟩
                        have hno : (w = 0 ∨ t 9 0 = -1 ∨ s + (i : Int) < t 9 0 ∨ t 9 0 + t 37 0 ≤ s + (i : Int)) → ¬ moM t (s + (i : Int)) wk := by
                          rintro (z | z | z | z) ⟨m1, m2, m3, m4⟩
                          · exact hpz z m1
                          · exact m2 z
                          · omega
                          · omega
                        have hyes : ¬ w = 0 → ¬ t 9 0 = -1 → ¬ s + (i : Int) < t 9 0 → ¬ t 9 0 + t 37 0 ≤ s + (i : Int) → moM t (s + (i : Int)) wk := fun z1 z2 z3 z4 => ⟨hpw z1, z2, by omega, by omega⟩
                        first
                          | (rw [show pb (okM t j (s + (i : Int)) wk) = 1 from pb_t (by
                                unfold okM
                                rcases hm with ⟨m0, m1, m2⟩ | ⟨m0, m1, m2⟩ <;> rw [m1, m2]
                                · first | exact ⟨by omega, by omega⟩ | exact absurd m0 (hno (by omega))
                                · first | exact ⟨by omega, by omega⟩ | exact absurd (hyes (by omega) (by omega) (by omega) (by omega)) m0)] at h
                             exact h _ _ _)
                          | (rw [show pb (okM t j (s + (i : Int)) wk) = 0 from pb_f (fun z => by
                                unfold okM at z
                                rcases hm with ⟨m0, m1, m2⟩ | ⟨m0, m1, m2⟩ <;> rw [m1, m2] at z
                                · first | exact absurd m0 (hno (by omega)) | omega
                                · first | exact absurd (hyes (by omega) (by omega) (by omega) (by omega)) m0 | omega)] at h
                             exact h _ _ _)
                      · refine r_iload C d_Md_fits_154 rfl ?_
                        refine r_aload_n C d_Md_fits_156 rfl ?_
                        refine g_Md_allLicences C lk_Md_13 d_Md_fits_157 ?_
                        refine r_icmp_gt (tgt := 167) C d_Md_fits_160 (by decide) (by first | assumption | exact bd_ir (by assumption) rfl | exact b2i_ir _ | exact pb_ir _ | exact ir_mk (by omega) (by omega)) (by first | assumption | exact bd_ir (by assumption) rfl | exact b2i_ir _ | exact pb_ir _ | exact ir_mk (by omega) (by omega)) (fun c160 => ?_) (fun c160 => ?_)
                        · refine r_iconst C d_Md_fits_167 ?_
                          refine r_istore_4 C d_Md_fits_168 ?_
                          refine r_iinc_5 C d_Md_fits_170 ?_
                          refine r_goto (tgt := 6) C d_Md_fits_173 (by decide) ?_
                          have h := fun X Y Z => ih (i + 1) X Y Z (by omega) (by omega)
                          rw [show s + ((i + 1 : Nat) : Int) = s + (i : Int) + 1 by omega] at h
                          have e9 : pb (mfN t j s wk (i + 1)) = pb (okM t j (s + (i : Int)) wk) := pb_c ⟨fun q => (mfN_s.mp q).2, fun q => mfN_s.mpr ⟨Classical.byContradiction (fun z => c20 (pb_f z)), q⟩⟩
                          rw [e9] at h
                          have hm : (moM t (s + (i : Int)) wk ∧ mrM t 18 (s + (i : Int)) wk = t 18 (t 8 0).toNat ∧ mrM t 19 (s + (i : Int)) wk = t 19 (t 8 0).toNat) ∨ (¬ moM t (s + (i : Int)) wk ∧ mrM t 18 (s + (i : Int)) wk = 0 ∧ mrM t 19 (s + (i : Int)) wk = 0) := by
                            by_cases q : moM t (s + (i : Int)) wk
                            · exact Or.inl ⟨q, by unfold mrM; rw [pif_t q], by unfold mrM; rw [pif_t q]⟩
                            · exact Or.inr ⟨q, by unfold mrM; rw [pif_f q], by unfold mrM; rw [pif_f q]⟩
                          have hno : (w = 0 ∨ t 9 0 = -1 ∨ s + (i : Int) < t 9 0 ∨ t 9 0 + t 37 0 ≤ s + (i : Int)) → ¬ moM t (s + (i : Int)) wk := by
                            rintro (z | z | z | z) ⟨m1, m2, m3, m4⟩
                            · exact hpz z m1
                            · exact m2 z
                            · omega
                            · omega
                          have hyes : ¬ w = 0 → ¬ t 9 0 = -1 → ¬ s + (i : Int) < t 9 0 → ¬ t 9 0 + t 37 0 ≤ s + (i : Int) → moM t (s + (i : Int)) wk := fun z1 z2 z3 z4 => ⟨hpw z1, z2, by omega, by omega⟩
                          first
                            | (rw [show pb (okM t j (s + (i : Int)) wk) = 1 from pb_t (by
                                  unfold okM
                                  rcases hm with ⟨m0, m1, m2⟩ | ⟨m0, m1, m2⟩ <;> rw [m1, m2]
                                  · first | exact ⟨by omega, by omega⟩ | exact absurd m0 (hno (by omega))
                                  · first | exact ⟨by omega, by omega⟩ | exact absurd (hyes (by omega) (by omega) (by omega) (by omega)) m0)] at h
                               exact h _ _ _)
                            | (rw [show pb (okM t j (s + (i : Int)) wk) = 0 from pb_f (fun z => by
                                  unfold okM at z
                                  rcases hm with ⟨m0, m1, m2⟩ | ⟨m0, m1, m2⟩ <;> rw [m1, m2] at z
                                  · first | exact absurd m0 (hno (by omega)) | omega
                                  · first | exact absurd (hyes (by omega) (by omega) (by omega) (by omega)) m0 | omega)] at h
                               exact h _ _ _)
                        · refine r_iconst C d_Md_fits_163 ?_
                          refine r_goto (tgt := 168) C d_Md_fits_164 (by decide) ?_
                          refine r_istore_4 C d_Md_fits_168 ?_
                          refine r_iinc_5 C d_Md_fits_170 ?_
                          refine r_goto (tgt := 6) C d_Md_fits_173 (by decide) ?_
                          have h := fun X Y Z => ih (i + 1) X Y Z (by omega) (by omega)
                          rw [show s + ((i + 1 : Nat) : Int) = s + (i : Int) + 1 by omega] at h
                          have e9 : pb (mfN t j s wk (i + 1)) = pb (okM t j (s + (i : Int)) wk) := pb_c ⟨fun q => (mfN_s.mp q).2, fun q => mfN_s.mpr ⟨Classical.byContradiction (fun z => c20 (pb_f z)), q⟩⟩
                          rw [e9] at h
                          have hm : (moM t (s + (i : Int)) wk ∧ mrM t 18 (s + (i : Int)) wk = t 18 (t 8 0).toNat ∧ mrM t 19 (s + (i : Int)) wk = t 19 (t 8 0).toNat) ∨ (¬ moM t (s + (i : Int)) wk ∧ mrM t 18 (s + (i : Int)) wk = 0 ∧ mrM t 19 (s + (i : Int)) wk = 0) := by
                            by_cases q : moM t (s + (i : Int)) wk
                            · exact Or.inl ⟨q, by unfold mrM; rw [pif_t q], by unfold mrM; rw [pif_t q]⟩
                            · exact Or.inr ⟨q, by unfold mrM; rw [pif_f q], by unfold mrM; rw [pif_f q]⟩
                          have hno : (w = 0 ∨ t 9 0 = -1 ∨ s + (i : Int) < t 9 0 ∨ t 9 0 + t 37 0 ≤ s + (i : Int)) → ¬ moM t (s + (i : Int)) wk := by
                            rintro (z | z | z | z) ⟨m1, m2, m3, m4⟩
                            · exact hpz z m1
                            · exact m2 z
                            · omega
                            · omega
                          have hyes : ¬ w = 0 → ¬ t 9 0 = -1 → ¬ s + (i : Int) < t 9 0 → ¬ t 9 0 + t 37 0 ≤ s + (i : Int) → moM t (s + (i : Int)) wk := fun z1 z2 z3 z4 => ⟨hpw z1, z2, by omega, by omega⟩
                          first
                            | (rw [show pb (okM t j (s + (i : Int)) wk) = 1 from pb_t (by
                                  unfold okM
                                  rcases hm with ⟨m0, m1, m2⟩ | ⟨m0, m1, m2⟩ <;> rw [m1, m2]
                                  · first | exact ⟨by omega, by omega⟩ | exact absurd m0 (hno (by omega))
                                  · first | exact ⟨by omega, by omega⟩ | exact absurd (hyes (by omega) (by omega) (by omega) (by omega)) m0)] at h
                               exact h _ _ _)
                            | (rw [show pb (okM t j (s + (i : Int)) wk) = 0 from pb_f (fun z => by
                                  unfold okM at z
                                  rcases hm with ⟨m0, m1, m2⟩ | ⟨m0, m1, m2⟩ <;> rw [m1, m2] at z
                                  · first | exact absurd m0 (hno (by omega)) | omega
                                  · first | exact absurd (hyes (by omega) (by omega) (by omega) (by omega)) m0 | omega)] at h
                               exact h _ _ _)
                    · refine r_aload_n C d_Md_fits_129 rfl ?_
                      refine g_Md_needs C lk_Md_36 d_Md_fits_130 ?_
                      refine r_aload_n C d_Md_fits_133 rfl ?_
                      refine g_Md_blocked C lk_Md_81 d_Md_fits_134 ?_
                      refine x_Md_needs C (t 8 0).toNat (by first | (have := hw8 (hpw c24); omega) | omega) (by omega) d_Md_fits_137 ?_
                      refine r_goto (tgt := 142) C d_Md_fits_138 (by decide) ?_
                      refine r_iadd C d_Md_fits_142 ?_
                      refine r_istore_8 C d_Md_fits_143 ?_
                      refine r_iload C d_Md_fits_145 rfl ?_
                      refine r_aload_n C d_Md_fits_147 rfl ?_
                      refine g_Md_roomNow C lk_Md_165 d_Md_fits_148 ?_
                      
                      refine r_icmp_gt (tgt := 167) C d_Md_fits_151 (by decide) (by first | assumption | exact bd_ir (by assumption) rfl | exact b2i_ir _ | exact pb_ir _ | exact ir_mk (by omega) (by omega)) (by first | assumption | exact bd_ir (by assumption) rfl | exact b2i_ir _ | exact pb_ir _ | exact ir_mk (by omega) (by omega)) (fun c151 => ?_) (fun c151 => ?_)
                      · refine r_iconst C d_Md_fits_167 ?_
                        refine r_istore_4 C d_Md_fits_168 ?_
                        refine r_iinc_5 C d_Md_fits_170 ?_
                        refine r_goto (tgt := 6) C d_Md_fits_173 (by decide) ?_
                        have h := fun X Y Z => ih (i + 1) X Y Z (by omega) (by omega)
                        rw [show s + ((i + 1 : Nat) : Int) = s + (i : Int) + 1 by omega] at h
                        have e9 : pb (mfN t j s wk (i + 1)) = pb (okM t j (s + (i : Int)) wk) := pb_c ⟨fun q => (mfN_s.mp q).2, fun q => mfN_s.mpr ⟨Classical.byContradiction (fun z => c20 (pb_f z)), q⟩⟩
                        rw [e9] at h
                        have hm : (moM t (s + (i : Int)) wk ∧ mrM t 18 (s + (i : Int)) wk = t 18 (t 8 0).toNat ∧ mrM t 19 (s + (i : Int)) wk = t 19 (t 8 0).toNat) ∨ (¬ moM t (s + (i : Int)) wk ∧ mrM t 18 (s + (i : Int)) wk = 0 ∧ mrM t 19 (s + (i : Int)) wk = 0) := by
                          by_cases q : moM t (s + (i : Int)) wk
                          · exact Or.inl ⟨q, by unfold mrM; rw [pif_t q], by unfold mrM; rw [pif_t q]⟩
                          · exact Or.inr ⟨q, by unfold mrM; rw [pif_f q], by unfold mrM; rw [pif_f q]⟩
                        have hno : (w = 0 ∨ t 9 0 = -1 ∨ s + (i : Int) < t 9 0 ∨ t 9 0 + t 37 0 ≤ s + (i : Int)) → ¬ moM t (s + (i : Int)) wk := by
                          rintro (z | z | z | z) ⟨m1, m2, m3, m4⟩
                          · exact hpz z m1
                          · exact m2 z
                          · omega
                          · omega
                        have hyes : ¬ w = 0 → ¬ t 9 0 = -1 → ¬ s + (i : Int) < t 9 0 → ¬ t 9 0 + t 37 0 ≤ s + (i : Int) → moM t (s + (i : Int)) wk := fun z1 z2 z3 z4 => ⟨hpw z1, z2, by omega, by omega⟩
                        first
                          | (rw [show pb (okM t j (s + (i : Int)) wk) = 1 from pb_t (by
                                unfold okM
                                rcases hm with ⟨m0, m1, m2⟩ | ⟨m0, m1, m2⟩ <;> rw [m1, m2]
                                · first | exact ⟨by omega, by omega⟩ | exact absurd m0 (hno (by omega))
                                · first | exact ⟨by omega, by omega⟩ | exact absurd (hyes (by omega) (by omega) (by omega) (by omega)) m0)] at h
                             exact h _ _ _)
                          | (rw [show pb (okM t j (s + (i : Int)) wk) = 0 from pb_f (fun z => by
                                unfold okM at z
                                rcases hm with ⟨m0, m1, m2⟩ | ⟨m0, m1, m2⟩ <;> rw [m1, m2] at z
                                · first | exact absurd m0 (hno (by omega)) | omega
                                · first | exact absurd (hyes (by omega) (by omega) (by omega) (by omega)) m0 | omega)] at h
                             exact h _ _ _)
                      · refine r_iload C d_Md_fits_154 rfl ?_
                        refine r_aload_n C d_Md_fits_156 rfl ?_
                        refine g_Md_allLicences C lk_Md_13 d_Md_fits_157 ?_
                        refine r_icmp_gt (tgt := 167) C d_Md_fits_160 (by decide) (by first | assumption | exact bd_ir (by assumption) rfl | exact b2i_ir _ | exact pb_ir _ | exact ir_mk (by omega) (by omega)) (by first | assumption | exact bd_ir (by assumption) rfl | exact b2i_ir _ | exact pb_ir _ | exact ir_mk (by omega) (by omega)) (fun c160 => ?_) (fun c160 => ?_)
                        · refine r_iconst C d_Md_fits_167 ?_
                          refine r_istore_4 C d_Md_fits_168 ?_
                          refine r_iinc_5 C d_Md_fits_170 ?_
                          refine r_goto (tgt := 6) C d_Md_fits_173 (by decide) ?_
                          have h := fun X Y Z => ih (i + 1) X Y Z (by omega) (by omega)
                          rw [show s + ((i + 1 : Nat) : Int) = s + (i : Int) + 1 by omega] at h
                          have e9 : pb (mfN t j s wk (i + 1)) = pb (okM t j (s + (i : Int)) wk) := pb_c ⟨fun q => (mfN_s.mp q).2, fun q => mfN_s.mpr ⟨Classical.byContradiction (fun z => c20 (pb_f z)), q⟩⟩
                          rw [e9] at h
                          have hm : (moM t (s + (i : Int)) wk ∧ mrM t 18 (s + (i : Int)) wk = t 18 (t 8 0).toNat ∧ mrM t 19 (s + (i : Int)) wk = t 19 (t 8 0).toNat) ∨ (¬ moM t (s + (i : Int)) wk ∧ mrM t 18 (s + (i : Int)) wk = 0 ∧ mrM t 19 (s + (i : Int)) wk = 0) := by
                            by_cases q : moM t (s + (i : Int)) wk
                            · exact Or.inl ⟨q, by unfold mrM; rw [pif_t q], by unfold mrM; rw [pif_t q]⟩
                            · exact Or.inr ⟨q, by unfold mrM; rw [pif_f q], by unfold mrM; rw [pif_f q]⟩
                          have hno : (w = 0 ∨ t 9 0 = -1 ∨ s + (i : Int) < t 9 0 ∨ t 9 0 + t 37 0 ≤ s + (i : Int)) → ¬ moM t (s + (i : Int)) wk := by
                            rintro (z | z | z | z) ⟨m1, m2, m3, m4⟩
                            · exact hpz z m1
                            · exact m2 z
                            · omega
                            · omega
                          have hyes : ¬ w = 0 → ¬ t 9 0 = -1 → ¬ s + (i : Int) < t 9 0 → ¬ t 9 0 + t 37 0 ≤ s + (i : Int) → moM t (s + (i : Int)) wk := fun z1 z2 z3 z4 => ⟨hpw z1, z2, by omega, by omega⟩
                          first
                            | (rw [show pb (okM t j (s + (i : Int)) wk) = 1 from pb_t (by
                                  unfold okM
                                  rcases hm with ⟨m0, m1, m2⟩ | ⟨m0, m1, m2⟩ <;> rw [m1, m2]
                                  · first | exact ⟨by omega, by omega⟩ | exact absurd m0 (hno (by omega))
                                  · first | exact ⟨by omega, by omega⟩ | exact absurd (hyes (by omega) (by omega) (by omega) (by omega)) m0)] at h
                               exact h _ _ _)
                            | (rw [show pb (okM t j (s + (i : Int)) wk) = 0 from pb_f (fun z => by
                                  unfold okM at z
                                  rcases hm with ⟨m0, m1, m2⟩ | ⟨m0, m1, m2⟩ <;> rw [m1, m2] at z
                                  · first | exact absurd m0 (hno (by omega)) | omega
                                  · first | exact absurd (hyes (by omega) (by omega) (by omega) (by omega)) m0 | omega)] at h
                               exact h _ _ _)
                        · refine r_iconst C d_Md_fits_163 ?_
                          refine r_goto (tgt := 168) C d_Md_fits_164 (by decide) ?_
                          refine r_istore_4 C d_Md_fits_168 ?_
                          refine r_iinc_5 C d_Md_fits_170 ?_
                          refine r_goto (tgt := 6) C d_Md_fits_173 (by decide) ?_
                          have h := fun X Y Z => ih (i + 1) X Y Z (by omega) (by omega)
                          rw [show s + ((i + 1 : Nat) : Int) = s + (i : Int) + 1 by omega] at h
                          have e9 : pb (mfN t j s wk (i + 1)) = pb (okM t j (s + (i : Int)) wk) := pb_c ⟨fun q => (mfN_s.mp q).2, fun q => mfN_s.mpr ⟨Classical.byContradiction (fun z => c20 (pb_f z)), q⟩⟩
                          rw [e9] at h
                          have hm : (moM t (s + (i : Int)) wk ∧ mrM t 18 (s + (i : Int)) wk = t 18 (t 8 0).toNat ∧ mrM t 19 (s + (i : Int)) wk = t 19 (t 8 0).toNat) ∨ (¬ moM t (s + (i : Int)) wk ∧ mrM t 18 (s + (i : Int)) wk = 0 ∧ mrM t 19 (s + (i : Int)) wk = 0) := by
                            by_cases q : moM t (s + (i : Int)) wk
                            · exact Or.inl ⟨q, by unfold mrM; rw [pif_t q], by unfold mrM; rw [pif_t q]⟩
                            · exact Or.inr ⟨q, by unfold mrM; rw [pif_f q], by unfold mrM; rw [pif_f q]⟩
                          have hno : (w = 0 ∨ t 9 0 = -1 ∨ s + (i : Int) < t 9 0 ∨ t 9 0 + t 37 0 ≤ s + (i : Int)) → ¬ moM t (s + (i : Int)) wk := by
                            rintro (z | z | z | z) ⟨m1, m2, m3, m4⟩
                            · exact hpz z m1
                            · exact m2 z
                            · omega
                            · omega
                          have hyes : ¬ w = 0 → ¬ t 9 0 = -1 → ¬ s + (i : Int) < t 9 0 → ¬ t 9 0 + t 37 0 ≤ s + (i : Int) → moM t (s + (i : Int)) wk := fun z1 z2 z3 z4 => ⟨hpw z1, z2, by omega, by omega⟩
                          first
                            | (rw [show pb (okM t j (s + (i : Int)) wk) = 1 from pb_t (by
                                  unfold okM
                                  rcases hm with ⟨m0, m1, m2⟩ | ⟨m0, m1, m2⟩ <;> rw [m1, m2]
                                  · first | exact ⟨by omega, by omega⟩ | exact absurd m0 (hno (by omega))
                                  · first | exact ⟨by omega, by omega⟩ | exact absurd (hyes (by omega) (by omega) (by omega) (by omega)) m0)] at h
                               exact h _ _ _)
                            | (rw [show pb (okM t j (s + (i : Int)) wk) = 0 from pb_f (fun z => by
                                  unfold okM at z
                                  rcases hm with ⟨m0, m1, m2⟩ | ⟨m0, m1, m2⟩ <;> rw [m1, m2] at z
                                  · first | exact absurd m0 (hno (by omega)) | omega
                                  · first | exact absurd (hyes (by omega) (by omega) (by omega) (by omega)) m0 | omega)] at h
                               exact h _ _ _)
  refine r_iconst C d_Md_fits_0 ?_
  refine r_istore_4 C d_Md_fits_1 ?_
  refine r_iload_n C d_Md_fits_3 rfl ?_
  refine r_istore_5 C d_Md_fits_4 ?_
  have h := hl ((t 20 j - t 27 j).toNat + 1) 0 none none none (by omega) (by omega)
  rw [show pb (mfN t j s wk 0) = 1 from pb_t (fun d hd => by omega), show s + ((0 : Nat) : Int) = s by omega] at h
  exact h
def mnF (s n : Nat) : Int := sumN (fun r => if (s >>> r) % 2 = 1 then 1 else 0) n
theorem mnF_s (s n : Nat) : mnF s (n + 1) = mnF s n + if (s >>> n) % 2 = 1 then 1 else 0 := rfl
def ndF (t : TT) (s n : Nat) : Int := sumN (fun r => if (s >>> r) % 2 = 1 then foF t r else 0) n
theorem ndF_s (t : TT) (s n : Nat) : ndF t s (n + 1) = ndF t s n + if (s >>> n) % 2 = 1 then foF t n else 0 := rfl
def dyP (t : TT) (s n : Nat) : Prop := ∀ r, r < n → (s >>> r) % 2 = 1 → t 14 r = 0
theorem dyP_s {t : TT} {s n : Nat} : dyP t s (n + 1) ↔ dyP t s n ∧ ((s >>> n) % 2 = 1 → t 14 n = 0) := by
  unfold dyP
  constructor
  · intro h; exact ⟨fun r hr => h r (by omega), h n (by omega)⟩
  · rintro ⟨h1, h2⟩ r hr
    by_cases q : r = n
    · subst q; exact h2
    · exact h1 r (by omega)
noncomputable def mb0 (t : TT) (w : Int) : Nat → Nat
  | 0 => 0
  | k + 1 => pif (dyP t (k + 1) (t 0 0).toNat ∧ w ≤ ndF t (k + 1) (t 0 0).toNat ∧ mnF (k + 1) (t 0 0).toNat < (if mb0 t w k = 0 then 5 else mnF (mb0 t w k) (t 0 0).toNat)) (k + 1) (mb0 t w k)
theorem mb0_s (t : TT) (w : Int) (k : Nat) : mb0 t w (k + 1) = pif (dyP t (k + 1) (t 0 0).toNat ∧ w ≤ ndF t (k + 1) (t 0 0).toNat ∧ mnF (k + 1) (t 0 0).toNat < (if mb0 t w k = 0 then 5 else mnF (mb0 t w k) (t 0 0).toNat)) (k + 1) (mb0 t w k) := rfl
noncomputable def mfw (t : TT) (w : Int) (k : Nat) : Int := if mb0 t w k = 0 then 5 else mnF (mb0 t w k) (t 0 0).toNat
theorem mb0_le (t : TT) (w : Int) : ∀ k, mb0 t w k ≤ k := by
  intro k
  induction k with
  | zero => exact Nat.le_refl _
  | succ k ih =>
    rw [mb0_s]
    by_cases q : dyP t (k + 1) (t 0 0).toNat ∧ w ≤ ndF t (k + 1) (t 0 0).toNat ∧ mnF (k + 1) (t 0 0).toNat < (if mb0 t w k = 0 then 5 else mnF (mb0 t w k) (t 0 0).toNat)
    · rw [pif_t q]; exact Nat.le_refl _
    · rw [pif_f q]; omega
noncomputable def mbF (t : TT) (w : Int) : Nat := mb0 t w (2 ^ (t 0 0).toNat - 1)
theorem mnF_bd (s n : Nat) (hn : n ≤ 4) : 0 ≤ mnF s n ∧ mnF s n ≤ 4 := by
  have h := sumN_bd (f := fun r => if (s >>> r) % 2 = 1 then 1 else 0) (lo := 0) (hi := 1) (n := n) (fun i _ => by split <;> omega)
  unfold mnF; omega
def wnM (t : TT) (s : Nat) (w : Int) : Nat → Int
  | 0 => w
  | r + 1 => if (s >>> r) % 2 = 1 then wnM t s w r - min (foF t r) (wnM t s w r) else wnM t s w r
theorem wnM_s (t : TT) (s : Nat) (w : Int) (r : Nat) : wnM t s w (r + 1) = if (s >>> r) % 2 = 1 then wnM t s w r - min (foF t r) (wnM t s w r) else wnM t s w r := rfl
def mb1 (t : TT) (j s : Nat) (w : Int) (n : Nat) : TT := fun f a => if f = 30 ∧ 4 * j ≤ a ∧ a < 4 * j + n ∧ (s >>> (a - 4 * j)) % 2 = 1 then min (foF t (a - 4 * j)) (wnM t s w (a - 4 * j)) else t f a
def mc1 (t : TT) (j n : Nat) : TT := fun f a => if f = 39 ∧ a < n then t 39 a + t 18 j else if f = 40 ∧ a < n then t 40 a + t 19 j else t f a
noncomputable def bq1 (t : TT) (j : Nat) : TT := tu (tu (tu (tu (mb1 t j (mbF t (t 18 j)) (t 18 j) (t 0 0).toNat) 24 j 1) 25 j (t 4 0)) 35 j 0) 36 j (t 20 j - t 27 j)
noncomputable def bgM (t : TT) (j : Nat) : TT := mc1 (bq1 t j) j (t 20 j - t 27 j).toNat
theorem mb1_0 (t : TT) (j s : Nat) (w : Int) : mb1 t j s w 0 = t := by
  funext f a; unfold mb1; rw [if_neg (by omega)]
theorem mb1_ne {t : TT} {j s : Nat} {w : Int} {n f a : Nat} (h : f ≠ 30) : mb1 t j s w n f a = t f a := by unfold mb1; rw [if_neg (by omega)]
theorem mb1_fo {t : TT} {j s : Nat} {w : Int} {n r : Nat} (hj : j < 30) (hn : n ≤ r) (hr : r < 4) : foF (mb1 t j s w n) r = foF t r := by
  unfold foF foS
  rw [mb1_ne (by decide), mb1_ne (by decide)]
  congr 1
  refine sumN_congr (fun i _ => ?_)
  unfold mb1
  rw [if_neg (by omega)]
theorem mb1_y {t : TT} {j s : Nat} {w : Int} {n : Nat} (h : (s >>> n) % 2 = 1) : tu (mb1 t j s w n) 30 (4 * j + n) (min (foF t n) (wnM t s w n)) = mb1 t j s w (n + 1) := by
  funext f a
  simp only [tu, mb1]
  by_cases e1 : f = 30
  · subst e1
    by_cases e2 : a = 4 * j + n
    · subst e2
      rw [if_pos ⟨rfl, rfl⟩, show 4 * j + n - 4 * j = n by omega, if_pos ⟨rfl, by omega, by omega, h⟩]
    · rw [if_neg (by omega)]
      by_cases e3 : 4 * j ≤ a ∧ a < 4 * j + n ∧ (s >>> (a - 4 * j)) % 2 = 1
      · rw [if_pos ⟨rfl, e3⟩, if_pos ⟨rfl, e3.1, by omega, e3.2.2⟩]
      · rw [if_neg (fun z => e3 z.2), if_neg (fun z => e3 ⟨z.2.1, by omega, z.2.2.2⟩)]
  · rw [if_neg (by omega), if_neg (by omega), if_neg (by omega)]
theorem mb1_n {t : TT} {j s : Nat} {w : Int} {n : Nat} (h : ¬ (s >>> n) % 2 = 1) : mb1 t j s w n = mb1 t j s w (n + 1) := by
  funext f a
  simp only [mb1]
  by_cases e2 : a = 4 * j + n
  · subst e2
    rw [if_neg (by omega), if_neg (fun z => h (by rw [show n = 4 * j + n - 4 * j by omega]; exact z.2.2.2))]
  · by_cases e3 : f = 30 ∧ 4 * j ≤ a ∧ a < 4 * j + n ∧ (s >>> (a - 4 * j)) % 2 = 1
    · rw [if_pos e3, if_pos ⟨e3.1, e3.2.1, by omega, e3.2.2.2⟩]
    · rw [if_neg e3, if_neg (fun z => e3 ⟨z.1, z.2.1, by omega, z.2.2.2⟩)]
theorem mc1_0 (t : TT) (j : Nat) : mc1 t j 0 = t := by
  funext f a; unfold mc1; rw [if_neg (by omega), if_neg (by omega)]
theorem mc1_ne {t : TT} {j n f a : Nat} (h : (f ≠ 39 ∧ f ≠ 40) ∨ n ≤ a) : mc1 t j n f a = t f a := by unfold mc1; rw [if_neg (by omega), if_neg (by omega)]
theorem mc1_s (t : TT) (j n : Nat) : tu (tu (mc1 t j n) 39 n (t 39 n + t 18 j)) 40 n (t 40 n + t 19 j) = mc1 t j (n + 1) := by
  funext f a; simp only [tu, mc1]; grind
theorem k_Md_begin {l : Launch} {E : Ew} {S0 : WW} {t : TT} (hB : Bd t) {j : Nat} (hj : j < 30) (hfw : ∀ i, i < 4 → (0 ≤ foF t i ∧ foF t i ≤ 16) ∧ (0 ≤ wnM t (mbF t (t 18 j)) (t 18 j) i ∧ wnM t (mbF t (t 18 j)) (t 18 j) i ≤ 64)) (hmB : ∀ i, Bd (mb1 t j (mbF t (t 18 j)) (t 18 j) i)) : Kf l y_Md_begin b_Md_begin 9 none 1 E (sm S0 2 t) [rf E 1, iv (j : Int)] none (sm S0 2 (bgM t j)) := by
  refine KfV rfl rfl (Nat.le_of_ble_eq_true rfl) (fun g C R => ?_)
  show g (sm S0 2 t) 0 [some (rf E 1), some (iv (j : Int)), none, none, none, none, none, none, none] []
  have b0 := bd0 hB 0
  have b4 := bd4 hB 0
  have b20 := bd20 hB j
  have b27 := bd27 hB j
  have hp := p2_bd (show (t 0 0).toNat ≤ 4 by omega)
  obtain ⟨s, hse⟩ : ∃ s, s = mbF t (t 18 j) := ⟨_, rfl⟩
  obtain ⟨w, hwe⟩ : ∃ w, w = t 18 j := ⟨_, rfl⟩
  have hw : 0 ≤ w ∧ w ≤ 64 := by rw [hwe]; exact bd18 hB j
  have hs : s < 16 := by
    rw [hse]
    have h9 := mb0_le t (t 18 j) (2 ^ (t 0 0).toNat - 1)
    unfold mbF
    omega
  rw [← hse, ← hwe] at hmB
  have hfw : ∀ i, i < 4 → (0 ≤ foF t i ∧ foF t i ≤ 16) ∧ (0 ≤ wnM t s w i ∧ wnM t s w i ≤ 64) := by rw [hse, hwe]; exact hfw
  have hnb : ∀ c, 0 ≤ ndF t c (t 0 0).toNat ∧ ndF t c (t 0 0).toNat ≤ 64 := by
    intro c
    have h := sumN_bd (f := fun r => if (c >>> r) % 2 = 1 then foF t r else 0) (lo := 0) (hi := 16) (n := (t 0 0).toNat) (fun i hi => by
      have := (hfw i (by omega)).1
      split <;> omega)
    unfold ndF
    omega
  have hlC : ∀ (q : TT) (X Y Z ZZ : Option Value) (Wx : Int), (∀ f a, f ≠ 24 → f ≠ 25 → f ≠ 30 → f ≠ 35 → f ≠ 36 → q f a = t f a) → q 36 j = t 20 j - t 27 j → (mc1 q j (t 20 j - t 27 j).toNat = bgM t j) → ∀ (k i : Nat), i ≤ (t 20 j - t 27 j).toNat → (t 20 j - t 27 j).toNat - i < k → g (sm S0 2 (mc1 q j i)) 244 [some (rf E 1), some (iv (j : Int)), some (iv (s : Int)), X, some (iv Wx), some (iv (i : Int)), Y, Z, ZZ] [] := by
    intro q X Y Z ZZ Wx hq hq36 hfin k
    induction k with
    | zero => intro i h1 h2; omega
    | succ k ih =>
      intro i h1 h2
      have h18 := hq 18 j (by decide) (by decide) (by decide) (by decide) (by decide)
      have h19 := hq 19 j (by decide) (by decide) (by decide) (by decide) (by decide)
      refine r_iload C d_Md_begin_244 rfl ?_
      refine r_aload_n C d_Md_begin_246 rfl ?_
      refine g_Md_leftAt C lk_Md_66 d_Md_begin_247 ?_
      refine r_iload_n C d_Md_begin_250 rfl ?_
      refine x_Md_leftAt C _ rfl (by omega) d_Md_begin_251 ?_
      rw [mc1_ne (by omega), hq36]
      refine r_icmp_ge (tgt := 293) C d_Md_begin_252 (by decide) (by first | assumption | exact bd_ir (by assumption) rfl | exact b2i_ir _ | exact pb_ir _ | exact ir_mk (by omega) (by omega)) (by first | assumption | exact bd_ir (by assumption) rfl | exact b2i_ir _ | exact pb_ir _ | exact ir_mk (by omega) (by omega)) (fun c252 => ?_) (fun c252 => ?_)
      · exact R d_Md_begin_293 (by rw [show i = (t 20 j - t 27 j).toNat by omega, hfin])
      · refine r_aload_n C d_Md_begin_255 rfl ?_
        refine g_Md_nodesAt C lk_Md_87 d_Md_begin_256 ?_
        refine r_iload C d_Md_begin_259 rfl ?_
        refine r_dup2 C d_Md_begin_261 rfl rfl ?_
        refine x_Md_nodesAt C _ rfl (by omega) d_Md_begin_262 ?_
        refine r_aload_n C d_Md_begin_263 rfl ?_
        refine g_Md_wants C lk_Md_33 d_Md_begin_264 ?_
        refine r_iload_n C d_Md_begin_267 rfl ?_
        refine x_Md_wants C _ rfl (by omega) d_Md_begin_268 ?_
        try simp (disch := omega) only [mc1_ne, tu_ne, tu_eq]
        refine r_iadd C d_Md_begin_269 ?_
        refine st_Md_nodesAt C _ rfl (by omega) d_Md_begin_270 ?_
        refine r_aload_n C d_Md_begin_271 rfl ?_
        refine g_Md_licencesAt C lk_Md_90 d_Md_begin_272 ?_
        refine r_iload C d_Md_begin_275 rfl ?_
        refine r_dup2 C d_Md_begin_277 rfl rfl ?_
        refine x_Md_licencesAt C _ rfl (by omega) d_Md_begin_278 ?_
        refine r_aload_n C d_Md_begin_279 rfl ?_
        refine g_Md_needs C lk_Md_36 d_Md_begin_280 ?_
        refine r_iload_n C d_Md_begin_283 rfl ?_
        refine x_Md_needs C _ rfl (by omega) d_Md_begin_284 ?_
        try simp (disch := omega) only [mc1_ne, tu_ne, tu_eq]
        refine r_iadd C d_Md_begin_285 ?_
        refine st_Md_licencesAt C _ rfl (by omega) d_Md_begin_286 ?_
        rw [mc1_s]
        refine r_iinc_5 C d_Md_begin_287 ?_
        refine r_goto (tgt := 244) C d_Md_begin_290 (by decide) ?_
        exact ih (i + 1) (by omega) (by omega)
  have hlB : ∀ (X Y Z ZZ : Option Value) (k i : Nat), i ≤ (t 0 0).toNat → (t 0 0).toNat - i < k → g (sm S0 2 (mb1 t j s w i)) 137 [some (rf E 1), some (iv (j : Int)), some (iv (s : Int)), X, some (iv (wnM t s w i)), some (iv (i : Int)), Y, Z, ZZ] [] := by
    intro X Y Z ZZ k
    induction k generalizing Y Z with
    | zero => intro i h1 h2; omega
    | succ k ih =>
      intro i h1 h2
      refine r_iload C d_Md_begin_137 rfl ?_
      refine r_aload_n C d_Md_begin_139 rfl ?_
      refine g_Md_racks C lk_Md_117 d_Md_begin_140 ?_
      rw [mb1_ne (by decide)]
      refine r_icmp_ge (tgt := 206) C d_Md_begin_143 (by decide) (by first | assumption | exact bd_ir (by assumption) rfl | exact b2i_ir _ | exact pb_ir _ | exact ir_mk (by omega) (by omega)) (by first | assumption | exact bd_ir (by assumption) rfl | exact b2i_ir _ | exact pb_ir _ | exact ir_mk (by omega) (by omega)) (fun c143 => ?_) (fun c143 => ?_)
      · refine r_aload_n C d_Md_begin_206 rfl ?_
        refine g_Md_state C lk_Md_51 d_Md_begin_207 ?_
        refine r_iload_n C d_Md_begin_210 rfl ?_
        refine r_iconst C d_Md_begin_211 ?_
        refine st_Md_state C _ rfl (by omega) d_Md_begin_212 ?_
        refine r_aload_n C d_Md_begin_213 rfl ?_
        refine g_Md_began C lk_Md_54 d_Md_begin_214 ?_
        refine r_iload_n C d_Md_begin_217 rfl ?_
        refine r_aload_n C d_Md_begin_218 rfl ?_
        refine g_Md_time C lk_Md_148 d_Md_begin_219 ?_
        rw [tu_ne (by omega), mb1_ne (by decide)]
        refine st_Md_began C _ rfl (by omega) d_Md_begin_222 ?_
        refine r_aload_n C d_Md_begin_223 rfl ?_
        refine g_Md_ran C lk_Md_63 d_Md_begin_224 ?_
        refine r_iload_n C d_Md_begin_227 rfl ?_
        refine r_iconst C d_Md_begin_228 ?_
        refine st_Md_ran C _ rfl (by omega) d_Md_begin_229 ?_
        refine r_aload_n C d_Md_begin_230 rfl ?_
        refine g_Md_leftAt C lk_Md_66 d_Md_begin_231 ?_
        refine r_iload_n C d_Md_begin_234 rfl ?_
        refine r_aload_n C d_Md_begin_235 rfl ?_
        refine r_iload_n C d_Md_begin_236 rfl ?_
        refine r_cV1r C (k_Md_leftOf (j := j) hj) (by decide) (by decide) ml_Md_159 mn_Md_leftOf ms_Md_leftOf mc_Md_leftOf mi_Md_leftOf md_Md_leftOf (by decide) zMd rfl rfl (Nat.le_of_ble_eq_true rfl) d_Md_begin_237 ?_
        refine st_Md_leftAt C _ rfl (by omega) d_Md_begin_240 ?_
        refine r_iconst C d_Md_begin_241 ?_
        refine r_istore_5 C d_Md_begin_242 ?_
        refine g_goal ?_ (hlC (bq1 t j) _ _ _ _ _ (fun f a n1 n2 n3 n4 n5 => ?_) ?_ ?_ ((t 20 j - t 27 j).toNat + 1) 0 (by omega) (by omega))
        · rw [mc1_0]
          congr 1
          try simp (disch := omega) only [tu_ne, tu_eq, mb1_ne]
          unfold bq1
          rw [← hse, ← hwe, show i = (t 0 0).toNat by omega]
        · unfold bq1; rw [tu_ne (by omega), tu_ne (by omega), tu_ne (by omega), tu_ne (by omega), mb1_ne n3]
        · unfold bq1; rw [tu_eq]
        · rfl
      · refine r_iload_n C d_Md_begin_146 rfl ?_
        refine r_iload C d_Md_begin_147 rfl ?_
        refine r_ishr C (by omega) (by omega) d_Md_begin_149 ?_
        refine r_iconst C d_Md_begin_150 ?_
        refine r_iand C (by omega) d_Md_begin_151 ?_
        refine r_iconst C d_Md_begin_152 ?_
        refine r_icmp_ne (tgt := 200) C d_Md_begin_153 (by decide) (by first | assumption | exact bd_ir (by assumption) rfl | exact b2i_ir _ | exact pb_ir _ | exact ir_mk (by omega) (by omega)) (by first | assumption | exact bd_ir (by assumption) rfl | exact b2i_ir _ | exact pb_ir _ | exact ir_mk (by omega) (by omega)) (fun c153 => ?_) (fun c153 => ?_)
        · refine r_iinc_5 C d_Md_begin_200 ?_
          refine r_goto (tgt := 137) C d_Md_begin_203 (by decide) ?_
          have h := fun Y Z => ih Y Z (i + 1) (by omega) (by omega)
          rw [wnM_s] at h
          first
            | (rw [if_neg (by omega), ← mb1_n (by omega)] at h; exact h _ _)
            | (rw [if_pos (by omega), ← mb1_y (by omega), show min (foF t i) (wnM t s w i) = foF t i by omega] at h; exact h _ _)
            | (rw [if_pos (by omega), ← mb1_y (by omega), show min (foF t i) (wnM t s w i) = wnM t s w i by omega] at h; exact h _ _)
        · obtain ⟨hfo, hwn⟩ := hfw i (by omega)
          refine r_aload_n C d_Md_begin_156 rfl ?_
          refine r_iload C d_Md_begin_157 rfl ?_
          refine r_cV1r C (k_Md_freeOn (t := mb1 t j s w i) (hmB i) (r := i) (by omega)) (by decide) (by decide) ml_Md_168 mn_Md_freeOn ms_Md_freeOn mc_Md_freeOn mi_Md_freeOn md_Md_freeOn (by decide) zMd rfl rfl (Nat.le_of_ble_eq_true rfl) d_Md_begin_159 ?_
          rw [mb1_fo hj (Nat.le_refl _) (by omega)]
          refine r_istore_6 C d_Md_begin_162 ?_
          refine r_iload C d_Md_begin_164 rfl ?_
          refine r_iload C d_Md_begin_166 rfl ?_
          refine r_icmp_ge (tgt := 176) C d_Md_begin_168 (by decide) (by first | assumption | exact bd_ir (by assumption) rfl | exact b2i_ir _ | exact pb_ir _ | exact ir_mk (by omega) (by omega)) (by first | assumption | exact bd_ir (by assumption) rfl | exact b2i_ir _ | exact pb_ir _ | exact ir_mk (by omega) (by omega)) (fun c168 => ?_) (fun c168 => ?_)
          · refine r_iload C d_Md_begin_176 rfl ?_
            refine r_istore_7 C d_Md_begin_178 ?_
            refine r_aload_n C d_Md_begin_180 rfl ?_
            refine g_Md_on C lk_Md_69 d_Md_begin_181 ?_
            refine r_iconst C d_Md_begin_184 ?_
            refine r_iload_n C d_Md_begin_185 rfl ?_
            refine r_imul C d_Md_begin_186 ?_
            refine r_iload C d_Md_begin_187 rfl ?_
            refine r_iadd C d_Md_begin_189 ?_
            refine r_iload C d_Md_begin_190 rfl ?_
            refine st_Md_on C (4 * j + i) (by omega) (by omega) d_Md_begin_192 ?_
            refine r_iload C d_Md_begin_193 rfl ?_
            refine r_iload C d_Md_begin_195 rfl ?_
            refine r_isub C d_Md_begin_197 ?_
            refine r_istore_4 C d_Md_begin_198 ?_
            refine r_iinc_5 C d_Md_begin_200 ?_
            refine r_goto (tgt := 137) C d_Md_begin_203 (by decide) ?_
            have h := fun Y Z => ih Y Z (i + 1) (by omega) (by omega)
            rw [wnM_s] at h
            first
              | (rw [if_neg (by omega), ← mb1_n (by omega)] at h; exact h _ _)
              | (rw [if_pos (by omega), ← mb1_y (by omega), show min (foF t i) (wnM t s w i) = foF t i by omega] at h; exact h _ _)
              | (rw [if_pos (by omega), ← mb1_y (by omega), show min (foF t i) (wnM t s w i) = wnM t s w i by omega] at h; exact h _ _)
          · refine r_iload C d_Md_begin_171 rfl ?_
            refine r_goto (tgt := 178) C d_Md_begin_173 (by decide) ?_
            refine r_istore_7 C d_Md_begin_178 ?_
            refine r_aload_n C d_Md_begin_180 rfl ?_
            refine g_Md_on C lk_Md_69 d_Md_begin_181 ?_
            refine r_iconst C d_Md_begin_184 ?_
            refine r_iload_n C d_Md_begin_185 rfl ?_
            refine r_imul C d_Md_begin_186 ?_
            refine r_iload C d_Md_begin_187 rfl ?_
            refine r_iadd C d_Md_begin_189 ?_
            refine r_iload C d_Md_begin_190 rfl ?_
            refine st_Md_on C (4 * j + i) (by omega) (by omega) d_Md_begin_192 ?_
            refine r_iload C d_Md_begin_193 rfl ?_
            refine r_iload C d_Md_begin_195 rfl ?_
            refine r_isub C d_Md_begin_197 ?_
            refine r_istore_4 C d_Md_begin_198 ?_
            refine r_iinc_5 C d_Md_begin_200 ?_
            refine r_goto (tgt := 137) C d_Md_begin_203 (by decide) ?_
            have h := fun Y Z => ih Y Z (i + 1) (by omega) (by omega)
            rw [wnM_s] at h
            first
              | (rw [if_neg (by omega), ← mb1_n (by omega)] at h; exact h _ _)
              | (rw [if_pos (by omega), ← mb1_y (by omega), show min (foF t i) (wnM t s w i) = foF t i by omega] at h; exact h _ _)
              | (rw [if_pos (by omega), ← mb1_y (by omega), show min (foF t i) (wnM t s w i) = wnM t s w i by omega] at h; exact h _ _)
  have hlI : ∀ (c : Nat) (X Y : Option Value), c < 16 → (∀ (Z : Option Value), g (sm S0 2 t) 92 [some (rf E 1), some (iv (j : Int)), X, Y, some (iv (c : Int)), some (iv (ndF t c (t 0 0).toNat)), some (iv (mnF c (t 0 0).toNat)), some (iv (pb (dyP t c (t 0 0).toNat))), Z] []) → ∀ (k i : Nat), i ≤ (t 0 0).toNat → (t 0 0).toNat - i < k → g (sm S0 2 t) 30 [some (rf E 1), some (iv (j : Int)), X, Y, some (iv (c : Int)), some (iv (ndF t c i)), some (iv (mnF c i)), some (iv (pb (dyP t c i))), some (iv (i : Int))] [] := by
    intro c X Y hc hcont k
    induction k with
    | zero => intro i h1 h2; omega
    | succ k ih =>
      intro i h1 h2
      refine r_iload C d_Md_begin_30 rfl ?_
      refine r_aload_n C d_Md_begin_32 rfl ?_
      refine g_Md_racks C lk_Md_117 d_Md_begin_33 ?_
      refine r_icmp_ge (tgt := 92) C d_Md_begin_36 (by decide) (by first | assumption | exact bd_ir (by assumption) rfl | exact b2i_ir _ | exact pb_ir _ | exact ir_mk (by omega) (by omega)) (by first | assumption | exact bd_ir (by assumption) rfl | exact b2i_ir _ | exact pb_ir _ | exact ir_mk (by omega) (by omega)) (fun c36 => ?_) (fun c36 => ?_)
      · rw [show i = (t 0 0).toNat by omega]
        exact hcont _
      · refine r_iload C d_Md_begin_39 rfl ?_
        refine r_iload C d_Md_begin_41 rfl ?_
        refine r_ishr C (by omega) (by omega) d_Md_begin_43 ?_
        refine r_iconst C d_Md_begin_44 ?_
        refine r_iand C (by omega) d_Md_begin_45 ?_
        refine r_iconst C d_Md_begin_46 ?_
        refine r_icmp_ne (tgt := 86) C d_Md_begin_47 (by decide) (by first | assumption | exact bd_ir (by assumption) rfl | exact b2i_ir _ | exact pb_ir _ | exact ir_mk (by omega) (by omega)) (by first | assumption | exact bd_ir (by assumption) rfl | exact b2i_ir _ | exact pb_ir _ | exact ir_mk (by omega) (by omega)) (fun c47 => ?_) (fun c47 => ?_)
        · refine r_iinc_8 C d_Md_begin_86 ?_
          refine r_goto (tgt := 30) C d_Md_begin_89 (by decide) ?_
          have h := ih (i + 1) (by omega) (by omega)
          rw [ndF_s, mnF_s] at h
          first
            | (rw [if_neg (by omega), if_neg (by omega), Int.add_zero, Int.add_zero, show pb (dyP t c (i + 1)) = pb (dyP t c i) from pb_c ⟨fun q => (dyP_s.mp q).1, fun q => dyP_s.mpr ⟨q, fun z => by omega⟩⟩] at h
               exact h)
            | (rw [if_pos (by omega), if_pos (by omega), show pb (dyP t c (i + 1)) = 0 from pb_f (fun q => pb_0.mp c66 (dyP_s.mp q).1)] at h
               exact h)
            | (rw [if_pos (by omega), if_pos (by omega), show pb (dyP t c (i + 1)) = 0 from pb_f (fun q => by have := (dyP_s.mp q).2 (by omega); omega)] at h
               exact h)
            | (rw [if_pos (by omega), if_pos (by omega), show pb (dyP t c (i + 1)) = 1 from pb_t (dyP_s.mpr ⟨Classical.byContradiction (fun z => c66 (pb_f z)), fun _ => by omega⟩)] at h
               exact h)
        · refine r_iload C d_Md_begin_50 rfl ?_
          refine r_aload_n C d_Md_begin_52 rfl ?_
          refine r_iload C d_Md_begin_53 rfl ?_
          refine r_cV1r C (k_Md_freeOn hB (r := i) (by omega)) (by decide) (by decide) ml_Md_168 mn_Md_freeOn ms_Md_freeOn mc_Md_freeOn mi_Md_freeOn md_Md_freeOn (by decide) zMd rfl rfl (Nat.le_of_ble_eq_true rfl) d_Md_begin_55 ?_
          refine r_iadd C d_Md_begin_58 ?_
          refine r_istore_5 C d_Md_begin_59 ?_
          refine r_iinc_6 C d_Md_begin_61 ?_
          refine r_iload C d_Md_begin_64 rfl ?_
          refine r_if_eq (tgt := 83) C d_Md_begin_66 (by decide) (by first | assumption | exact bd_ir (by assumption) rfl | exact b2i_ir _ | exact pb_ir _ | exact ir_mk (by omega) (by omega)) (fun c66 => ?_) (fun c66 => ?_)
          · refine r_iconst C d_Md_begin_83 ?_
            refine r_istore_7 C d_Md_begin_84 ?_
            refine r_iinc_8 C d_Md_begin_86 ?_
            refine r_goto (tgt := 30) C d_Md_begin_89 (by decide) ?_
            have h := ih (i + 1) (by omega) (by omega)
            rw [ndF_s, mnF_s] at h
            first
              | (rw [if_neg (by omega), if_neg (by omega), Int.add_zero, Int.add_zero, show pb (dyP t c (i + 1)) = pb (dyP t c i) from pb_c ⟨fun q => (dyP_s.mp q).1, fun q => dyP_s.mpr ⟨q, fun z => by omega⟩⟩] at h
                 exact h)
              | (rw [if_pos (by omega), if_pos (by omega), show pb (dyP t c (i + 1)) = 0 from pb_f (fun q => pb_0.mp c66 (dyP_s.mp q).1)] at h
                 exact h)
              | (rw [if_pos (by omega), if_pos (by omega), show pb (dyP t c (i + 1)) = 0 from pb_f (fun q => by have := (dyP_s.mp q).2 (by omega); omega)] at h
                 exact h)
              | (rw [if_pos (by omega), if_pos (by omega), show pb (dyP t c (i + 1)) = 1 from pb_t (dyP_s.mpr ⟨Classical.byContradiction (fun z => c66 (pb_f z)), fun _ => by omega⟩)] at h
                 exact h)
          · refine r_aload_n C d_Md_begin_69 rfl ?_
            refine g_Md_isDrained C lk_Md_20 d_Md_begin_70 ?_
            refine r_iload C d_Md_begin_73 rfl ?_
            refine x_Md_isDrained C _ rfl (by omega) d_Md_begin_75 ?_
            refine r_if_ne (tgt := 83) C d_Md_begin_76 (by decide) (by first | assumption | exact bd_ir (by assumption) rfl | exact b2i_ir _ | exact pb_ir _ | exact ir_mk (by omega) (by omega)) (fun c76 => ?_) (fun c76 => ?_)
            · refine r_iconst C d_Md_begin_83 ?_
              refine r_istore_7 C d_Md_begin_84 ?_
              refine r_iinc_8 C d_Md_begin_86 ?_
              refine r_goto (tgt := 30) C d_Md_begin_89 (by decide) ?_
              have h := ih (i + 1) (by omega) (by omega)
              rw [ndF_s, mnF_s] at h
              first
                | (rw [if_neg (by omega), if_neg (by omega), Int.add_zero, Int.add_zero, show pb (dyP t c (i + 1)) = pb (dyP t c i) from pb_c ⟨fun q => (dyP_s.mp q).1, fun q => dyP_s.mpr ⟨q, fun z => by omega⟩⟩] at h
                   exact h)
                | (rw [if_pos (by omega), if_pos (by omega), show pb (dyP t c (i + 1)) = 0 from pb_f (fun q => pb_0.mp c66 (dyP_s.mp q).1)] at h
                   exact h)
                | (rw [if_pos (by omega), if_pos (by omega), show pb (dyP t c (i + 1)) = 0 from pb_f (fun q => by have := (dyP_s.mp q).2 (by omega); omega)] at h
                   exact h)
                | (rw [if_pos (by omega), if_pos (by omega), show pb (dyP t c (i + 1)) = 1 from pb_t (dyP_s.mpr ⟨Classical.byContradiction (fun z => c66 (pb_f z)), fun _ => by omega⟩)] at h
                   exact h)
            · refine r_iconst C d_Md_begin_79 ?_
              refine r_goto (tgt := 84) C d_Md_begin_80 (by decide) ?_
              refine r_istore_7 C d_Md_begin_84 ?_
              refine r_iinc_8 C d_Md_begin_86 ?_
              refine r_goto (tgt := 30) C d_Md_begin_89 (by decide) ?_
              have h := ih (i + 1) (by omega) (by omega)
              rw [ndF_s, mnF_s] at h
              first
                | (rw [if_neg (by omega), if_neg (by omega), Int.add_zero, Int.add_zero, show pb (dyP t c (i + 1)) = pb (dyP t c i) from pb_c ⟨fun q => (dyP_s.mp q).1, fun q => dyP_s.mpr ⟨q, fun z => by omega⟩⟩] at h
                   exact h)
                | (rw [if_pos (by omega), if_pos (by omega), show pb (dyP t c (i + 1)) = 0 from pb_f (fun q => pb_0.mp c66 (dyP_s.mp q).1)] at h
                   exact h)
                | (rw [if_pos (by omega), if_pos (by omega), show pb (dyP t c (i + 1)) = 0 from pb_f (fun q => by have := (dyP_s.mp q).2 (by omega); omega)] at h
                   exact h)
                | (rw [if_pos (by omega), if_pos (by omega), show pb (dyP t c (i + 1)) = 1 from pb_t (dyP_s.mpr ⟨Classical.byContradiction (fun z => c66 (pb_f z)), fun _ => by omega⟩)] at h
                   exact h)
  have hlJ : ∀ (c : Nat) (X Y : Option Value), c < 16 → (∀ (Z : Option Value), g (sm S0 2 t) 92 [some (rf E 1), some (iv (j : Int)), X, Y, some (iv (c : Int)), some (iv (ndF t c (t 0 0).toNat)), some (iv (mnF c (t 0 0).toNat)), some (iv (pb (dyP t c (t 0 0).toNat))), Z] []) → g (sm S0 2 t) 30 [some (rf E 1), some (iv (j : Int)), X, Y, some (iv (c : Int)), some (iv 0), some (iv 0), some (iv 1), some (iv 0)] [] := by
    intro c X Y hc hcont
    have h := hlI c X Y hc hcont ((t 0 0).toNat + 1) 0 (by omega) (by omega)
    rw [show pb (dyP t c 0) = 1 from pb_t (fun r hr => by omega)] at h
    exact h
  have hlA : ∀ (k i : Nat) (X1 X2 X3 X4 : Option Value), i ≤ 2 ^ (t 0 0).toNat - 1 → 2 ^ (t 0 0).toNat - 1 - i < k → g (sm S0 2 t) 7 [some (rf E 1), some (iv (j : Int)), some (iv ((mb0 t w i : Nat) : Int)), some (iv (mfw t w i)), some (iv ((i : Int) + 1)), X1, X2, X3, X4] [] := by
    intro k
    induction k with
    | zero => intro i X1 X2 X3 X4 h1 h2; omega
    | succ k ih =>
      intro i X1 X2 X3 X4 h1 h2
      have hmb := mb0_le t w i
      refine r_iload C d_Md_begin_7 rfl ?_
      refine r_iconst C d_Md_begin_9 ?_
      refine r_aload_n C d_Md_begin_10 rfl ?_
      refine g_Md_racks C lk_Md_117 d_Md_begin_11 ?_
      refine r_ishl C (t 0 0).toNat (by omega) (by omega) d_Md_begin_14 ?_
      refine r_icmp_ge (tgt := 126) C d_Md_begin_15 (by decide) (by first | assumption | exact bd_ir (by assumption) rfl | exact b2i_ir _ | exact pb_ir _ | exact ir_mk (by omega) (by omega)) (by first | assumption | exact bd_ir (by assumption) rfl | exact b2i_ir _ | exact pb_ir _ | exact ir_mk (by omega) (by omega)) (fun c15 => ?_) (fun c15 => ?_)
      · rw [show i = 2 ^ (t 0 0).toNat - 1 by omega, show mb0 t w (2 ^ (t 0 0).toNat - 1) = s by rw [hse, mbF, ← hwe]]
        refine r_aload_n C d_Md_begin_126 rfl ?_
        refine g_Md_wants C lk_Md_33 d_Md_begin_127 ?_
        refine r_iload_n C d_Md_begin_130 rfl ?_
        refine x_Md_wants C _ rfl (by omega) d_Md_begin_131 ?_
        rw [← hwe]
        refine r_istore_4 C d_Md_begin_132 ?_
        refine r_iconst C d_Md_begin_134 ?_
        refine r_istore_5 C d_Md_begin_135 ?_
        have h := hlB (some (iv (mfw t w (2 ^ (t 0 0).toNat - 1)))) X2 X3 X4 ((t 0 0).toNat + 1) 0 (by omega) (by omega)
        rw [mb1_0] at h
        exact h
      · refine r_iconst C d_Md_begin_18 ?_
        refine r_istore_5 C d_Md_begin_19 ?_
        refine r_iconst C d_Md_begin_21 ?_
        refine r_istore_6 C d_Md_begin_22 ?_
        refine r_iconst C d_Md_begin_24 ?_
        refine r_istore_7 C d_Md_begin_25 ?_
        refine r_iconst C d_Md_begin_27 ?_
        refine r_istore_8 C d_Md_begin_28 ?_
        refine hlJ (i + 1) _ _ (by omega) (fun Z => ?_)
        have hnd : 0 ≤ ndF t (i + 1) (t 0 0).toNat ∧ ndF t (i + 1) (t 0 0).toNat ≤ 64 := hnb (i + 1)
        have hmn := mnF_bd (i + 1) (t 0 0).toNat (by omega)
        have hfw2 : 0 ≤ mfw t w i ∧ mfw t w i ≤ 5 := by
          have := mnF_bd (mb0 t w i) (t 0 0).toNat (by omega)
          unfold mfw; split <;> omega
        refine r_iload C d_Md_begin_92 rfl ?_
        refine r_if_eq (tgt := 120) C d_Md_begin_94 (by decide) (by first | assumption | exact bd_ir (by assumption) rfl | exact b2i_ir _ | exact pb_ir _ | exact ir_mk (by omega) (by omega)) (fun c94 => ?_) (fun c94 => ?_)
        · refine r_iinc_4 C d_Md_begin_120 ?_
          refine r_goto (tgt := 7) C d_Md_begin_123 (by decide) ?_
          have h := fun X1 X2 X3 X4 => ih (i + 1) X1 X2 X3 X4 (by omega) (by omega)
          have e8 : mfw t w (i + 1) = if mb0 t w (i + 1) = 0 then 5 else mnF (mb0 t w (i + 1)) (t 0 0).toNat := rfl
          rw [e8, mb0_s] at h
          have e7 : mfw t w i = if mb0 t w i = 0 then 5 else mnF (mb0 t w i) (t 0 0).toNat := rfl
          rw [← e7] at h
          first
            | (rw [pif_f (fun z => pb_0.mp c94 z.1), ← e7] at h; exact h _ _ _ _)
            | (rw [pif_f (fun z => by omega), ← e7] at h; exact h _ _ _ _)
            | (rw [pif_t ⟨Classical.byContradiction (fun z => c94 (pb_f z)), by omega, by omega⟩, if_neg (by omega)] at h; exact h _ _ _ _)
        · refine r_iload C d_Md_begin_97 rfl ?_
          refine r_aload_n C d_Md_begin_99 rfl ?_
          refine g_Md_wants C lk_Md_33 d_Md_begin_100 ?_
          refine r_iload_n C d_Md_begin_103 rfl ?_
          refine x_Md_wants C _ rfl (by omega) d_Md_begin_104 ?_
          rw [← hwe]
          refine r_icmp_lt (tgt := 120) C d_Md_begin_105 (by decide) (by first | assumption | exact bd_ir (by assumption) rfl | exact b2i_ir _ | exact pb_ir _ | exact ir_mk (by omega) (by omega)) (by first | assumption | exact bd_ir (by assumption) rfl | exact b2i_ir _ | exact pb_ir _ | exact ir_mk (by omega) (by omega)) (fun c105 => ?_) (fun c105 => ?_)
          · refine r_iinc_4 C d_Md_begin_120 ?_
            refine r_goto (tgt := 7) C d_Md_begin_123 (by decide) ?_
            have h := fun X1 X2 X3 X4 => ih (i + 1) X1 X2 X3 X4 (by omega) (by omega)
            have e8 : mfw t w (i + 1) = if mb0 t w (i + 1) = 0 then 5 else mnF (mb0 t w (i + 1)) (t 0 0).toNat := rfl
            rw [e8, mb0_s] at h
            have e7 : mfw t w i = if mb0 t w i = 0 then 5 else mnF (mb0 t w i) (t 0 0).toNat := rfl
            rw [← e7] at h
            first
              | (rw [pif_f (fun z => pb_0.mp c94 z.1), ← e7] at h; exact h _ _ _ _)
              | (rw [pif_f (fun z => by omega), ← e7] at h; exact h _ _ _ _)
              | (rw [pif_t ⟨Classical.byContradiction (fun z => c94 (pb_f z)), by omega, by omega⟩, if_neg (by omega)] at h; exact h _ _ _ _)
          · refine r_iload C d_Md_begin_108 rfl ?_
            refine r_iload_n C d_Md_begin_110 rfl ?_
            refine r_icmp_ge (tgt := 120) C d_Md_begin_111 (by decide) (by first | assumption | exact bd_ir (by assumption) rfl | exact b2i_ir _ | exact pb_ir _ | exact ir_mk (by omega) (by omega)) (by first | assumption | exact bd_ir (by assumption) rfl | exact b2i_ir _ | exact pb_ir _ | exact ir_mk (by omega) (by omega)) (fun c111 => ?_) (fun c111 => ?_)
            · refine r_iinc_4 C d_Md_begin_120 ?_
              refine r_goto (tgt := 7) C d_Md_begin_123 (by decide) ?_
              have h := fun X1 X2 X3 X4 => ih (i + 1) X1 X2 X3 X4 (by omega) (by omega)
              have e8 : mfw t w (i + 1) = if mb0 t w (i + 1) = 0 then 5 else mnF (mb0 t w (i + 1)) (t 0 0).toNat := rfl
              rw [e8, mb0_s] at h
              have e7 : mfw t w i = if mb0 t w i = 0 then 5 else mnF (mb0 t w i) (t 0 0).toNat := rfl
              rw [← e7] at h
              first
                | (rw [pif_f (fun z => pb_0.mp c94 z.1), ← e7] at h; exact h _ _ _ _)
                | (rw [pif_f (fun z => by omega), ← e7] at h; exact h _ _ _ _)
                | (rw [pif_t ⟨Classical.byContradiction (fun z => c94 (pb_f z)), by omega, by omega⟩, if_neg (by omega)] at h; exact h _ _ _ _)
            · refine r_iload C d_Md_begin_114 rfl ?_
              refine r_istore_3 C d_Md_begin_116 ?_
              refine r_iload C d_Md_begin_117 rfl ?_
              refine r_istore_2 C d_Md_begin_119 ?_
              refine r_iinc_4 C d_Md_begin_120 ?_
              refine r_goto (tgt := 7) C d_Md_begin_123 (by decide) ?_
              have h := fun X1 X2 X3 X4 => ih (i + 1) X1 X2 X3 X4 (by omega) (by omega)
              have e8 : mfw t w (i + 1) = if mb0 t w (i + 1) = 0 then 5 else mnF (mb0 t w (i + 1)) (t 0 0).toNat := rfl
              rw [e8, mb0_s] at h
              have e7 : mfw t w i = if mb0 t w i = 0 then 5 else mnF (mb0 t w i) (t 0 0).toNat := rfl
              rw [← e7] at h
              first
                | (rw [pif_f (fun z => pb_0.mp c94 z.1), ← e7] at h; exact h _ _ _ _)
                | (rw [pif_f (fun z => by omega), ← e7] at h; exact h _ _ _ _)
                | (rw [pif_t ⟨Classical.byContradiction (fun z => c94 (pb_f z)), by omega, by omega⟩, if_neg (by omega)] at h; exact h _ _ _ _)
  refine r_iconst C d_Md_begin_0 ?_
  refine r_istore_2 C d_Md_begin_1 ?_
  refine r_iconst C d_Md_begin_2 ?_
  refine r_istore_3 C d_Md_begin_3 ?_
  refine r_iconst C d_Md_begin_4 ?_
  refine r_istore_4 C d_Md_begin_5 ?_
  exact hlA (2 ^ (t 0 0).toNat) 0 none none none none (by omega) (by omega)
