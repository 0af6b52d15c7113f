def andI (a b : Int) : Int := (Int32.ofInt a &&& Int32.ofInt b).toInt
def ushI (a b : Int) : Int := ((Int32.ofInt a).toUInt32 >>> ((Int32.ofInt b).toUInt32 &&& Int32.toUInt32 31)).toInt32.toInt
def lw (e : Int) : Value := .long (Int64.ofInt e)
section MORE2
variable {g : WW → Nat → LL → List Value → Prop} {own : String} {cc : ByteArray} {nL h : Nat} {l : Launch} {E : Ew} {S : WW} {pc : Nat} {L : LL} {st : List Value}
theorem r_iandG (C : Cw g own cc nL h l E) {a b : Int} (d : decode cc pc = .ok (.iand, 1)) (kk : g S (pc + 1) L (iv (andI a b) :: st)) : g S pc L (iv b :: iv a :: st) := by
  obtain ⟨p, e0, R, s, mi, args, below, meth, c, cells, slots, Q, A, H0, D, ⟨hx, hb, hml, hown, hts⟩, hE, hA, hK, hR, hg⟩ := C
  refine (hg _ _ _ _).mpr fun H locs ls hP hS hL => ?_
  refine lv_iand hx hb d ?_
  rw [iv_of]
  exact (hg _ _ _ _).mp kk H locs ls hP hS hL
theorem r_iushrG (C : Cw g own cc nL h l E) {a b : Int} (d : decode cc pc = .ok (.iushr, 1)) (kk : g S (pc + 1) L (iv (ushI a b) :: st)) : g S pc L (iv b :: iv a :: st) := by
  obtain ⟨p, e0, R, s, mi, args, below, meth, c, cells, slots, Q, A, H0, D, ⟨hx, hb, hml, hown, hts⟩, hE, hA, hK, hR, hg⟩ := C
  refine (hg _ _ _ _).mpr fun H locs ls hP hS hL => ?_
  refine lv_iushr hx hb d rfl ?_
  rw [iv_of]
  exact (hg _ _ _ _).mp kk H locs ls hP hS hL
theorem r_ldcw (C : Cw g own cc nL h l E) {idx : Nat} {v : Int32} {n : Int} (hk : Cond.constant own idx v ∈ lw_w) (hn : Int32.ofInt n = v) (d : decode cc pc = .ok (.ldc_w idx, 3)) (kk : g S (pc + 3) L (iv n :: st)) : g S pc L st := by
  obtain ⟨p, e0, R, s, mi, args, below, meth, c, cells, slots, Q, A, H0, D, ⟨hx, hb, hml, hown, hts⟩, hE, hA, hK, hR, hg⟩ := C
  refine (hg _ _ _ _).mpr fun H locs ls hP hS hL => ?_
  refine lv_ldcw hx hb hown (hts _ hk) d ?_
  rw [← hn]
  exact (hg _ _ _ _).mp kk H locs ls hP hS hL
theorem lw_wr (e : Int) : (Int32.ofInt e).toInt64 = Int64.ofInt (wr e) := by
  rw [← Int64.toInt_inj, Int32.toInt_toInt64, Int64.toInt_ofInt_of_le]
  · rfl
  · have := (ir_of (Int32.ofInt e)).1; unfold wr; omega
  · have := (ir_of (Int32.ofInt e)).2; unfold wr; omega
theorem r_i2l (C : Cw g own cc nL h l E) {a : Int} (d : decode cc pc = .ok (.i2l, 1)) (kk : g S (pc + 1) L (lw (wr a) :: st)) : g S pc L (iv a :: st) := by
  obtain ⟨p, e0, R, s, mi, args, below, meth, c, cells, slots, Q, A, H0, D, ⟨hx, hb, hml, hown, hts⟩, hE, hA, hK, hR, hg⟩ := C
  refine (hg _ _ _ _).mpr fun H locs ls hP hS hL => ?_
  exact lv_i2l hx hb d (lw_wr a) ((hg _ _ _ _).mp kk H locs ls hP hS hL)
theorem r_lmul (C : Cw g own cc nL h l E) {a b : Int} (d : decode cc pc = .ok (.lmul, 1)) (kk : g S (pc + 1) L (lw (a * b) :: st)) : g S pc L (lw b :: lw a :: st) := by
  obtain ⟨p, e0, R, s, mi, args, below, meth, c, cells, slots, Q, A, H0, D, ⟨hx, hb, hml, hown, hts⟩, hE, hA, hK, hR, hg⟩ := C
  refine (hg _ _ _ _).mpr fun H locs ls hP hS hL => ?_
  refine lv_lmul hx hb d ?_
  rw [← Int64.ofInt_mul]
  exact (hg _ _ _ _).mp kk H locs ls hP hS hL
def cmpI (a b : Int) : Int := if b < a then 1 else if a = b then 0 else -1
def lr (e : Int) : Prop := -4611686018427387904 ≤ e ∧ e ≤ 4611686018427387904
theorem lr_to {e : Int} (h : lr e) : (Int64.ofInt e).toInt = e := Int64.toInt_ofInt_of_le (by have := h.1; omega) (by have := h.2; omega)
theorem lr_mul (a b : Int) : lr (wr a * wr b) := by
  have h1 := ir_of (Int32.ofInt a)
  have h2 := ir_of (Int32.ofInt b)
  have e1 : (Int32.ofInt a).toInt = wr a := rfl
  have e2 : (Int32.ofInt b).toInt = wr b := rfl
  rw [e1] at h1; rw [e2] at h2
  unfold ir at h1 h2
  generalize wr a = x at h1 ⊢
  generalize wr b = y at h2 ⊢
  have h3 : (x * y).natAbs ≤ 2147483648 * 2147483648 := by
    rw [Int.natAbs_mul]
    exact Nat.mul_le_mul (by omega) (by omega)
  unfold lr
  omega
theorem r_lcmp (C : Cw g own cc nL h l E) {a b : Int} (d : decode cc pc = .ok (.lcmp, 1)) (ha : lr a) (hb2 : lr b) (kk : g S (pc + 1) L (iv (cmpI a b) :: st)) : g S pc L (lw b :: lw a :: st) := by
  obtain ⟨p, e0, R, s, mi, args, below, meth, c, cells, slots, Q, A, H0, D, ⟨hx, hb, hml, hown, hts⟩, hE, hA, hK, hR, hg⟩ := C
  refine (hg _ _ _ _).mpr fun H locs ls hP hS hL => ?_
  refine W.lcmp hx hb d ?_
  have e1 : lg_cmp (Int64.ofInt a) (Int64.ofInt b) = Int32.ofInt (cmpI a b) := by
    unfold lg_cmp cmpI
    simp only [gt_iff_lt, Int64.lt_iff_toInt_lt, ← Int64.toInt_inj, lr_to ha, lr_to hb2]
    (repeat' split) <;> rfl
  rw [e1]
  exact (hg _ _ _ _).mp kk H locs ls hP hS hL
end MORE2
def bcN (n : Nat) : Nat := n % 2 + n / 2 % 2 + n / 4 % 2 + n / 8 % 2
def bcA (i : Int) : Int := i - andI (ushI i 1) 1431655765
def bcB (a : Int) : Int := andI a 858993459 + andI (ushI a 2) 858993459
def bcC (b : Int) : Int := andI (b + ushI b 4) 252645135
def bcD (c : Int) : Int := c + ushI c 8
def bcE (d : Int) : Int := d + ushI d 16
theorem bc_ok : ∀ n : Nat, n < 16 → andI (bcE (bcD (bcC (bcB (bcA (n : Int)))))) 63 = ((bcN n : Nat) : Int) := by decide +kernel
theorem bcN_bd {n : Nat} (h : n < 16) : bcN n ≤ 4 := by unfold bcN; omega
theorem k_In_bitCount {l : Launch} {E : Ew} {S : WW} (n : Nat) (hn : n < 16) : Kf l y_In_bitCount b_In_bitCount 1 (some .int) 0 E S [iv (n : Int)] (some (iv ((bcN n : Nat) : Int))) S := by
  refine KfI (by decide +kernel) rfl (Nat.le_of_ble_eq_true rfl) (fun g C R => ?_)
  show g S 0 [some (iv (n : Int))] []
  refine r_iload_n C d_In_bitCount_0 rfl ?_
  refine r_iload_n C d_In_bitCount_1 rfl ?_
  refine r_iconst C d_In_bitCount_2 ?_
  refine r_iushrG C d_In_bitCount_3 ?_
  refine r_ldcw (n := 1431655765) C kc_In_265 (by decide) d_In_bitCount_4 ?_
  refine r_iandG C d_In_bitCount_7 ?_
  refine r_isub C d_In_bitCount_8 ?_
  refine r_istore_0 C d_In_bitCount_9 ?_
  refine r_iload_n C d_In_bitCount_10 rfl ?_
  refine r_ldcw (n := 858993459) C kc_In_266 (by decide) d_In_bitCount_11 ?_
  refine r_iandG C d_In_bitCount_14 ?_
  refine r_iload_n C d_In_bitCount_15 rfl ?_
  refine r_iconst C d_In_bitCount_16 ?_
  refine r_iushrG C d_In_bitCount_17 ?_
  refine r_ldcw (n := 858993459) C kc_In_266 (by decide) d_In_bitCount_18 ?_
  refine r_iandG C d_In_bitCount_21 ?_
  refine r_iadd C d_In_bitCount_22 ?_
  refine r_istore_0 C d_In_bitCount_23 ?_
  refine r_iload_n C d_In_bitCount_24 rfl ?_
  refine r_iload_n C d_In_bitCount_25 rfl ?_
  refine r_iconst C d_In_bitCount_26 ?_
  refine r_iushrG C d_In_bitCount_27 ?_
  refine r_iadd C d_In_bitCount_28 ?_
  refine r_ldcw (n := 252645135) C kc_In_267 (by decide) d_In_bitCount_29 ?_
  refine r_iandG C d_In_bitCount_32 ?_
  refine r_istore_0 C d_In_bitCount_33 ?_
  refine r_iload_n C d_In_bitCount_34 rfl ?_
  refine r_iload_n C d_In_bitCount_35 rfl ?_
  refine r_bipush C d_In_bitCount_36 (by decide) ?_
  refine r_iushrG C d_In_bitCount_38 ?_
  refine r_iadd C d_In_bitCount_39 ?_
  refine r_istore_0 C d_In_bitCount_40 ?_
  refine r_iload_n C d_In_bitCount_41 rfl ?_
  refine r_iload_n C d_In_bitCount_42 rfl ?_
  refine r_bipush C d_In_bitCount_43 (by decide) ?_
  refine r_iushrG C d_In_bitCount_45 ?_
  refine r_iadd C d_In_bitCount_46 ?_
  refine r_istore_0 C d_In_bitCount_47 ?_
  refine r_iload_n C d_In_bitCount_48 rfl ?_
  refine r_bipush C d_In_bitCount_49 (by decide) ?_
  refine r_iandG C d_In_bitCount_51 ?_
  exact R d_In_bitCount_52 (bc_ok n hn) rfl
theorem md_In_bitCount2 : y_In_bitCount.cls ≠ "java/lang/invoke/MethodHandle" ∧ y_In_bitCount.cls ≠ "java/lang/invoke/VarHandle" ∧ (parseMethodDescriptor y_In_bitCount.desc).map (fun d => d.parameters.length) = some 1 := by decide +kernel
def uoD (t : TT) (s n : Nat) : Prop := ∃ r, r < n ∧ (s >>> r) % 2 = 1 ∧ t 14 r ≠ 0
def uoS (t : TT) (s n : Nat) : Int := sumN (fun r => if (s >>> r) % 2 = 1 then t 13 r else 0) n
theorem uoS_s (t : TT) (s n : Nat) : uoS t s (n + 1) = uoS t s n + if (s >>> n) % 2 = 1 then t 13 n else 0 := rfl
noncomputable def uoF (t : TT) (s : Nat) : Int := pif (uoD t s (t 0 0).toNat) 0 (uoS t s (t 0 0).toNat)
theorem uoF_bd {t : TT} (hB : Bd t) (s : Nat) : 0 ≤ uoF t s ∧ uoF t s ≤ 64 := by
  have b0 := bd0 hB 0
  have h := sumN_bd (f := fun r => if (s >>> r) % 2 = 1 then t 13 r else 0) (lo := 0) (hi := 16) (n := (t 0 0).toNat) (fun i _ => by
    have := bd13 hB i
    split <;> omega)
  unfold uoF
  by_cases q : uoD t s (t 0 0).toNat
  · rw [pif_t q]; omega
  · rw [pif_f q]; unfold uoS; omega
theorem k_Mc_unusedOn {l : Launch} {E : Ew} {S0 : WW} {m : Nat} {t : TT} (hm : m < 2) {s : Nat} (hs : s < 16) (hB : Bd t) : Kf l y_Mc_unusedOn b_Mc_unusedOn 4 (some .int) 0 E (sm S0 m t) [rf E (kMc m), iv (s : Int)] (some (iv (uoF t s))) (sm S0 m t) := by
  refine KfI rfl rfl (Nat.le_of_ble_eq_true rfl) (fun g C R => ?_)
  show g (sm S0 m t) 0 [some (rf E (kMc m)), some (iv (s : Int)), none, none] []
  have b0 := bd0 hB 0
  have hl : ∀ (k i : Nat), ¬ uoD t s i → i ≤ (t 0 0).toNat → (t 0 0).toNat - i < k → g (sm S0 m t) 4 [some (rf E (kMc m)), some (iv (s : Int)), some (iv (uoS t s i)), some (iv (i : Int))] [] := by
    intro k
    induction k with
    | zero => intro i h0 h1 h2; omega
    | succ k ih =>
      intro i h0 h1 h2
      refine r_iload_n C d_Mc_unusedOn_4 rfl ?_
      refine r_aload_n C d_Mc_unusedOn_5 rfl ?_
      refine g_Mc_rackCount C hm lk_Mc_56 d_Mc_unusedOn_6 ?_
      refine r_icmp_ge (tgt := 52) C d_Mc_unusedOn_9 (by decide) (by first | assumption | exact bd_ir (by assumption) rfl | exact b2i_ir _ | exact pb_ir _ | exact ir_mk (by omega) (by omega)) (by first | assumption | exact bd_ir (by assumption) rfl | exact b2i_ir _ | exact pb_ir _ | exact ir_mk (by omega) (by omega)) (fun c9 => ?_) (fun c9 => ?_)
      · refine r_iload_n C d_Mc_unusedOn_52 rfl ?_
        exact R d_Mc_unusedOn_53 (by unfold uoF; first | (rw [show i = (t 0 0).toNat by omega] at h0 ⊢; rw [pif_f h0]) | (rw [pif_t ⟨i, by omega, by omega, c29⟩])) rfl
      · refine r_iload_n C d_Mc_unusedOn_12 rfl ?_
        refine r_iload_n C d_Mc_unusedOn_13 rfl ?_
        refine r_ishr C hs (by omega) d_Mc_unusedOn_14 ?_
        refine r_iconst C d_Mc_unusedOn_15 ?_
        refine r_iand C hs d_Mc_unusedOn_16 ?_
        refine r_if_eq (tgt := 46) C d_Mc_unusedOn_17 (by decide) (by first | assumption | exact bd_ir (by assumption) rfl | exact b2i_ir _ | exact pb_ir _ | exact ir_mk (by omega) (by omega)) (fun c17 => ?_) (fun c17 => ?_)
        · refine r_iinc_3 C d_Mc_unusedOn_46 ?_
          refine r_goto (tgt := 4) C d_Mc_unusedOn_49 (by decide) ?_
          have h := fun z => ih (i + 1) z (by omega) (by omega)
          rw [uoS_s] at h
          first
            | (rw [if_pos (by omega)] at h
               refine h ?_
               rintro ⟨r, hr, hr2, hr3⟩
               by_cases q : r = i
               · subst q; exact hr3 c29
               · exact h0 ⟨r, by omega, hr2, hr3⟩)
            | (rw [if_neg (by omega), Int.add_zero] at h
               refine h ?_
               rintro ⟨r, hr, hr2, hr3⟩
               by_cases q : r = i
               · subst q; omega
               · exact h0 ⟨r, by omega, hr2, hr3⟩)
        · refine r_aload_n C d_Mc_unusedOn_20 rfl ?_
          refine g_Mc_racks C hm lk_Mc_11 d_Mc_unusedOn_21 ?_
          refine r_iload_n C d_Mc_unusedOn_24 rfl ?_
          refine x_Rk C hm _ rfl (by omega) d_Mc_unusedOn_25 ?_
          refine g_Rk_drained C hm (by omega) lk_Mc_102 d_Mc_unusedOn_26 ?_
          refine r_if_eq (tgt := 34) C d_Mc_unusedOn_29 (by decide) (by first | assumption | exact bd_ir (by assumption) rfl | exact b2i_ir _ | exact pb_ir _ | exact ir_mk (by omega) (by omega)) (fun c29 => ?_) (fun c29 => ?_)
          · refine r_iload_n C d_Mc_unusedOn_34 rfl ?_
            refine r_aload_n C d_Mc_unusedOn_35 rfl ?_
            refine g_Mc_racks C hm lk_Mc_11 d_Mc_unusedOn_36 ?_
            refine r_iload_n C d_Mc_unusedOn_39 rfl ?_
            refine x_Rk C hm _ rfl (by omega) d_Mc_unusedOn_40 ?_
            refine g_Rk_unused C hm (by omega) lk_Mc_90 d_Mc_unusedOn_41 ?_
            refine r_iadd C d_Mc_unusedOn_44 ?_
            refine r_istore_2 C d_Mc_unusedOn_45 ?_
            refine r_iinc_3 C d_Mc_unusedOn_46 ?_
            refine r_goto (tgt := 4) C d_Mc_unusedOn_49 (by decide) ?_
            have h := fun z => ih (i + 1) z (by omega) (by omega)
            rw [uoS_s] at h
            first
              | (rw [if_pos (by omega)] at h
                 refine h ?_
                 rintro ⟨r, hr, hr2, hr3⟩
                 by_cases q : r = i
                 · subst q; exact hr3 c29
                 · exact h0 ⟨r, by omega, hr2, hr3⟩)
              | (rw [if_neg (by omega), Int.add_zero] at h
                 refine h ?_
                 rintro ⟨r, hr, hr2, hr3⟩
                 by_cases q : r = i
                 · subst q; omega
                 · exact h0 ⟨r, by omega, hr2, hr3⟩)
          · refine r_iconst C d_Mc_unusedOn_32 ?_
            exact R d_Mc_unusedOn_33 (by unfold uoF; first | (rw [show i = (t 0 0).toNat by omega] at h0 ⊢; rw [pif_f h0]) | (rw [pif_t ⟨i, by omega, by omega, c29⟩])) rfl
  refine r_iconst C d_Mc_unusedOn_0 ?_
  refine r_istore_2 C d_Mc_unusedOn_1 ?_
  refine r_iconst C d_Mc_unusedOn_2 ?_
  refine r_istore_3 C d_Mc_unusedOn_3 ?_
  exact hl ((t 0 0).toNat + 1) 0 (fun q => by obtain ⟨r, hr, _⟩ := q; omega) (by omega) (by omega)
noncomputable def frN (t : TT) (w : Int) : Nat → Nat
  | 0 => 0
  | k + 1 => pif ((frN t w k = 0 ∨ bcN (k + 1) < bcN (frN t w k)) ∧ w ≤ uoF t (k + 1)) (k + 1) (frN t w k)
theorem frN_s (t : TT) (w : Int) (k : Nat) : frN t w (k + 1) = pif ((frN t w k = 0 ∨ bcN (k + 1) < bcN (frN t w k)) ∧ w ≤ uoF t (k + 1)) (k + 1) (frN t w k) := rfl
theorem frN_le (t : TT) (w : Int) : ∀ k, frN t w k ≤ k := by
  intro k
  induction k with
  | zero => exact Nat.le_refl _
  | succ k ih =>
    rw [frN_s]
    by_cases q : (frN t w k = 0 ∨ bcN (k + 1) < bcN (frN t w k)) ∧ w ≤ uoF t (k + 1)
    · rw [pif_t q]; exact Nat.le_refl _
    · rw [pif_f q]; omega
noncomputable def frF (t : TT) (w : Int) : Nat := frN t w (2 ^ (t 0 0).toNat - 1)
theorem p2_bd {n : Nat} (h : n ≤ 4) : 1 ≤ 2 ^ n ∧ 2 ^ n ≤ 16 := by
  rcases (show n = 0 ∨ n = 1 ∨ n = 2 ∨ n = 3 ∨ n = 4 by omega) with rfl | rfl | rfl | rfl | rfl <;> decide
theorem frF_lt {t : TT} (hB : Bd t) (w : Int) : frF t w < 16 := by
  have b0 := bd0 hB 0
  have h := p2_bd (show (t 0 0).toNat ≤ 4 by omega)
  have h2 := frN_le t w (2 ^ (t 0 0).toNat - 1)
  unfold frF
  omega
theorem k_Mc_fewestRacks {l : Launch} {E : Ew} {S0 : WW} {m : Nat} {t : TT} (hm : m < 2) {w : Int} (hw : ir w) (hB : Bd t) : Kf l y_Mc_fewestRacks b_Mc_fewestRacks 5 (some .int) 1 E (sm S0 m t) [rf E (kMc m), iv w] (some (iv (((frF t w : Nat) : Int)))) (sm S0 m t) := by
  refine KfI rfl rfl (Nat.le_of_ble_eq_true rfl) (fun g C R => ?_)
  show g (sm S0 m t) 0 [some (rf E (kMc m)), some (iv w), none, none, none] []
  have b0 := bd0 hB 0
  have hp := p2_bd (show (t 0 0).toNat ≤ 4 by omega)
  have hl : ∀ (k i : Nat) (X : Option Value), i ≤ 2 ^ (t 0 0).toNat - 1 → 2 ^ (t 0 0).toNat - 1 - i < k → g (sm S0 m t) 4 [some (rf E (kMc m)), some (iv w), some (iv ((frN t w i : Nat) : Int)), some (iv ((i : Int) + 1)), X] [] := by
    intro k
    induction k with
    | zero => intro i X h1 h2; omega
    | succ k ih =>
      intro i X h1 h2
      have hfi := frN_le t w i
      have hu := uoF_bd hB (i + 1)
      refine r_iload_n C d_Mc_fewestRacks_4 rfl ?_
      refine r_iconst C d_Mc_fewestRacks_5 ?_
      refine r_aload_n C d_Mc_fewestRacks_6 rfl ?_
      refine g_Mc_rackCount C hm lk_Mc_56 d_Mc_fewestRacks_7 ?_
      refine r_ishl C (t 0 0).toNat (by omega) (by omega) d_Mc_fewestRacks_10 ?_
      refine r_icmp_ge (tgt := 58) C d_Mc_fewestRacks_11 (by decide) (by first | assumption | exact bd_ir (by assumption) rfl | exact b2i_ir _ | exact pb_ir _ | exact ir_mk (by omega) (by omega)) (by first | assumption | exact bd_ir (by assumption) rfl | exact b2i_ir _ | exact pb_ir _ | exact ir_mk (by omega) (by omega)) (fun c11 => ?_) (fun c11 => ?_)
      · refine r_iload_n C d_Mc_fewestRacks_58 rfl ?_
        exact R d_Mc_fewestRacks_59 (by rw [show i = 2 ^ (t 0 0).toNat - 1 by omega]; rfl) rfl
      · have hb1 := bcN_bd (n := i + 1) (by omega)
        have hb2 := bcN_bd (n := frN t w i) (by omega)
        refine r_iload_n C d_Mc_fewestRacks_14 rfl ?_
        refine r_if_eq (tgt := 29) C d_Mc_fewestRacks_15 (by decide) (by first | assumption | exact bd_ir (by assumption) rfl | exact b2i_ir _ | exact pb_ir _ | exact ir_mk (by omega) (by omega)) (fun c15 => ?_) (fun c15 => ?_)
        · refine r_iconst C d_Mc_fewestRacks_29 ?_
          refine r_goto (tgt := 34) C d_Mc_fewestRacks_30 (by decide) ?_
          refine r_istore_4 C d_Mc_fewestRacks_34 ?_
          refine r_iload C d_Mc_fewestRacks_36 rfl ?_
          refine r_if_eq (tgt := 52) C d_Mc_fewestRacks_38 (by decide) (by first | assumption | exact bd_ir (by assumption) rfl | exact b2i_ir _ | exact pb_ir _ | exact ir_mk (by omega) (by omega)) (fun c38 => ?_) (fun c38 => ?_)
          · refine r_iinc_3 C d_Mc_fewestRacks_52 ?_
            refine r_goto (tgt := 4) C d_Mc_fewestRacks_55 (by decide) ?_
            have h := fun X => ih (i + 1) X (by omega) (by omega)
            rw [frN_s] at h
            first
              | (rw [pif_t ⟨by omega, by omega⟩] at h; exact h _)
              | (rw [pif_f (fun q => by omega)] at h; exact h _)
          · refine r_aload_n C d_Mc_fewestRacks_41 rfl ?_
            refine r_iload_n C d_Mc_fewestRacks_42 rfl ?_
            refine r_cV1r C (k_Mc_unusedOn hm (s := i + 1) (by omega) hB) (by decide) (by decide) ml_Mc_235 mn_Mc_unusedOn ms_Mc_unusedOn mc_Mc_unusedOn mi_Mc_unusedOn md_Mc_unusedOn (kMc_lt hm) (zMc hm) rfl rfl (Nat.le_of_ble_eq_true rfl) d_Mc_fewestRacks_43 ?_
            refine r_iload_n C d_Mc_fewestRacks_46 rfl ?_
            refine r_icmp_lt (tgt := 52) C d_Mc_fewestRacks_47 (by decide) (by first | assumption | exact bd_ir (by assumption) rfl | exact b2i_ir _ | exact pb_ir _ | exact ir_mk (by omega) (by omega)) (by first | assumption | exact bd_ir (by assumption) rfl | exact b2i_ir _ | exact pb_ir _ | exact ir_mk (by omega) (by omega)) (fun c47 => ?_) (fun c47 => ?_)
            · refine r_iinc_3 C d_Mc_fewestRacks_52 ?_
              refine r_goto (tgt := 4) C d_Mc_fewestRacks_55 (by decide) ?_
              have h := fun X => ih (i + 1) X (by omega) (by omega)
              rw [frN_s] at h
              first
                | (rw [pif_t ⟨by omega, by omega⟩] at h; exact h _)
                | (rw [pif_f (fun q => by omega)] at h; exact h _)
            · refine r_iload_n C d_Mc_fewestRacks_50 rfl ?_
              refine r_istore_2 C d_Mc_fewestRacks_51 ?_
              refine r_iinc_3 C d_Mc_fewestRacks_52 ?_
              refine r_goto (tgt := 4) C d_Mc_fewestRacks_55 (by decide) ?_
              have h := fun X => ih (i + 1) X (by omega) (by omega)
              rw [frN_s] at h
              first
                | (rw [pif_t ⟨by omega, by omega⟩] at h; exact h _)
                | (rw [pif_f (fun q => by omega)] at h; exact h _)
        · refine r_iload_n C d_Mc_fewestRacks_18 rfl ?_
          refine r_cS1r C (k_In_bitCount (i + 1) (by omega)) (by decide) (by decide) ml_Mc_230 mt_In_bitCount mc_In_bitCount mi_In_bitCount md_In_bitCount2 (Nat.le_of_ble_eq_true rfl) d_Mc_fewestRacks_19 ?_
          refine r_iload_n C d_Mc_fewestRacks_22 rfl ?_
          refine r_cS1r C (k_In_bitCount (frN t w i) (by omega)) (by decide) (by decide) ml_Mc_230 mt_In_bitCount mc_In_bitCount mi_In_bitCount md_In_bitCount2 (Nat.le_of_ble_eq_true rfl) d_Mc_fewestRacks_23 ?_
          refine r_icmp_ge (tgt := 33) C d_Mc_fewestRacks_26 (by decide) (by first | assumption | exact bd_ir (by assumption) rfl | exact b2i_ir _ | exact pb_ir _ | exact ir_mk (by omega) (by omega)) (by first | assumption | exact bd_ir (by assumption) rfl | exact b2i_ir _ | exact pb_ir _ | exact ir_mk (by omega) (by omega)) (fun c26 => ?_) (fun c26 => ?_)
          · refine r_iconst C d_Mc_fewestRacks_33 ?_
            refine r_istore_4 C d_Mc_fewestRacks_34 ?_
            refine r_iload C d_Mc_fewestRacks_36 rfl ?_
            refine r_if_eq (tgt := 52) C d_Mc_fewestRacks_38 (by decide) (by first | assumption | exact bd_ir (by assumption) rfl | exact b2i_ir _ | exact pb_ir _ | exact ir_mk (by omega) (by omega)) (fun c38 => ?_) (fun c38 => ?_)
            · refine r_iinc_3 C d_Mc_fewestRacks_52 ?_
              refine r_goto (tgt := 4) C d_Mc_fewestRacks_55 (by decide) ?_
              have h := fun X => ih (i + 1) X (by omega) (by omega)
              rw [frN_s] at h
              first
                | (rw [pif_t ⟨by omega, by omega⟩] at h; exact h _)
                | (rw [pif_f (fun q => by omega)] at h; exact h _)
            · refine r_aload_n C d_Mc_fewestRacks_41 rfl ?_
              refine r_iload_n C d_Mc_fewestRacks_42 rfl ?_
              refine r_cV1r C (k_Mc_unusedOn hm (s := i + 1) (by omega) hB) (by decide) (by decide) ml_Mc_235 mn_Mc_unusedOn ms_Mc_unusedOn mc_Mc_unusedOn mi_Mc_unusedOn md_Mc_unusedOn (kMc_lt hm) (zMc hm) rfl rfl (Nat.le_of_ble_eq_true rfl) d_Mc_fewestRacks_43 ?_
              refine r_iload_n C d_Mc_fewestRacks_46 rfl ?_
              refine r_icmp_lt (tgt := 52) C d_Mc_fewestRacks_47 (by decide) (by first | assumption | exact bd_ir (by assumption) rfl | exact b2i_ir _ | exact pb_ir _ | exact ir_mk (by omega) (by omega)) (by first | assumption | exact bd_ir (by assumption) rfl | exact b2i_ir _ | exact pb_ir _ | exact ir_mk (by omega) (by omega)) (fun c47 => ?_) (fun c47 => ?_)
              · refine r_iinc_3 C d_Mc_fewestRacks_52 ?_
                refine r_goto (tgt := 4) C d_Mc_fewestRacks_55 (by decide) ?_
                have h := fun X => ih (i + 1) X (by omega) (by omega)
                rw [frN_s] at h
                first
                  | (rw [pif_t ⟨by omega, by omega⟩] at h; exact h _)
                  | (rw [pif_f (fun q => by omega)] at h; exact h _)
              · refine r_iload_n C d_Mc_fewestRacks_50 rfl ?_
                refine r_istore_2 C d_Mc_fewestRacks_51 ?_
                refine r_iinc_3 C d_Mc_fewestRacks_52 ?_
                refine r_goto (tgt := 4) C d_Mc_fewestRacks_55 (by decide) ?_
                have h := fun X => ih (i + 1) X (by omega) (by omega)
                rw [frN_s] at h
                first
                  | (rw [pif_t ⟨by omega, by omega⟩] at h; exact h _)
                  | (rw [pif_f (fun q => by omega)] at h; exact h _)
          · refine r_iconst C d_Mc_fewestRacks_29 ?_
            refine r_goto (tgt := 34) C d_Mc_fewestRacks_30 (by decide) ?_
            refine r_istore_4 C d_Mc_fewestRacks_34 ?_
            refine r_iload C d_Mc_fewestRacks_36 rfl ?_
            refine r_if_eq (tgt := 52) C d_Mc_fewestRacks_38 (by decide) (by first | assumption | exact bd_ir (by assumption) rfl | exact b2i_ir _ | exact pb_ir _ | exact ir_mk (by omega) (by omega)) (fun c38 => ?_) (fun c38 => ?_)
            · refine r_iinc_3 C d_Mc_fewestRacks_52 ?_
              refine r_goto (tgt := 4) C d_Mc_fewestRacks_55 (by decide) ?_
              have h := fun X => ih (i + 1) X (by omega) (by omega)
              rw [frN_s] at h
              first
                | (rw [pif_t ⟨by omega, by omega⟩] at h; exact h _)
                | (rw [pif_f (fun q => by omega)] at h; exact h _)
            · refine r_aload_n C d_Mc_fewestRacks_41 rfl ?_
              refine r_iload_n C d_Mc_fewestRacks_42 rfl ?_
              refine r_cV1r C (k_Mc_unusedOn hm (s := i + 1) (by omega) hB) (by decide) (by decide) ml_Mc_235 mn_Mc_unusedOn ms_Mc_unusedOn mc_Mc_unusedOn mi_Mc_unusedOn md_Mc_unusedOn (kMc_lt hm) (zMc hm) rfl rfl (Nat.le_of_ble_eq_true rfl) d_Mc_fewestRacks_43 ?_
              refine r_iload_n C d_Mc_fewestRacks_46 rfl ?_
              refine r_icmp_lt (tgt := 52) C d_Mc_fewestRacks_47 (by decide) (by first | assumption | exact bd_ir (by assumption) rfl | exact b2i_ir _ | exact pb_ir _ | exact ir_mk (by omega) (by omega)) (by first | assumption | exact bd_ir (by assumption) rfl | exact b2i_ir _ | exact pb_ir _ | exact ir_mk (by omega) (by omega)) (fun c47 => ?_) (fun c47 => ?_)
              · refine r_iinc_3 C d_Mc_fewestRacks_52 ?_
                refine r_goto (tgt := 4) C d_Mc_fewestRacks_55 (by decide) ?_
                have h := fun X => ih (i + 1) X (by omega) (by omega)
                rw [frN_s] at h
                first
                  | (rw [pif_t ⟨by omega, by omega⟩] at h; exact h _)
                  | (rw [pif_f (fun q => by omega)] at h; exact h _)
              · refine r_iload_n C d_Mc_fewestRacks_50 rfl ?_
                refine r_istore_2 C d_Mc_fewestRacks_51 ?_
                refine r_iinc_3 C d_Mc_fewestRacks_52 ?_
                refine r_goto (tgt := 4) C d_Mc_fewestRacks_55 (by decide) ?_
                have h := fun X => ih (i + 1) X (by omega) (by omega)
                rw [frN_s] at h
                first
                  | (rw [pif_t ⟨by omega, by omega⟩] at h; exact h _)
                  | (rw [pif_f (fun q => by omega)] at h; exact h _)
  refine r_iconst C d_Mc_fewestRacks_0 ?_
  refine r_istore_2 C d_Mc_fewestRacks_1 ?_
  refine r_iconst C d_Mc_fewestRacks_2 ?_
  refine r_istore_3 C d_Mc_fewestRacks_3 ?_
  exact hl (2 ^ (t 0 0).toNat) 0 _ (by omega) (by omega)
def wnF (t : TT) (s : Nat) (w : Int) : Nat → Int
  | 0 => w
  | r + 1 => if (s >>> r) % 2 = 1 then wnF t s w r - min (wnF t s w r) (t 13 r) else wnF t s w r
theorem wnF_s (t : TT) (s : Nat) (w : Int) (r : Nat) : wnF t s w (r + 1) = if (s >>> r) % 2 = 1 then wnF t s w r - min (wnF t s w r) (t 13 r) else wnF t s w r := rfl
theorem wnF_bd {t : TT} (hB : Bd t) (s : Nat) {w : Int} (hw : 0 ≤ w) : ∀ r, 0 ≤ wnF t s w r ∧ wnF t s w r ≤ w := by
  intro r
  induction r with
  | zero => unfold wnF; omega
  | succ r ih => have := bd13 hB r; rw [wnF_s]; split <;> omega
def bg1 (t : TT) (j s : Nat) (w : Int) (n : Nat) : TT := fun f a => if f = 13 ∧ a < n ∧ (s >>> a) % 2 = 1 then t 13 a - min (wnF t s w a) (t 13 a) else if f = 100 + j ∧ a < n ∧ (s >>> a) % 2 = 1 then min (wnF t s w a) (t 13 a) else t f a
noncomputable def bgF (t : TT) (j : Nat) : TT := tu (tu (tu (tu (bg1 t j (frF t (t 18 j)) (t 18 j) (t 0 0).toNat) 24 j 1) 25 j (t 4 0)) 28 j (t 18 j)) 29 j (t 4 0 + (t 20 j - t 27 j))
theorem bg1_0 (t : TT) (j s : Nat) (w : Int) : bg1 t j s w 0 = t := by
  funext f a
  simp [bg1]
theorem bg1_ne {t : TT} {j s : Nat} {w : Int} {n f a : Nat} (h : (f ≠ 13 ∧ f ≠ 100 + j) ∨ n ≤ a) : bg1 t j s w n f a = t f a := by unfold bg1; rw [if_neg (by omega), if_neg (by omega)]
theorem bg1_y {t : TT} {j s : Nat} {w : Int} {n : Nat} (h : (s >>> n) % 2 = 1) : tu (tu (bg1 t j s w n) 13 n (t 13 n - min (wnF t s w n) (t 13 n))) (100 + j) n (min (wnF t s w n) (t 13 n)) = bg1 t j s w (n + 1) := by
  funext f a
  simp only [tu, bg1]
  by_cases e1 : f = 13
  · subst e1
    by_cases e2 : a = n
    · subst e2; simp [h]; omega
    · have q : a < n + 1 ↔ a < n := by omega
      simp [e2, q] <;> omega
  · by_cases e3 : f = 100 + j
    · subst e3
      by_cases e2 : a = n
      · subst e2; simp [h]; omega
      · have q : a < n + 1 ↔ a < n := by omega
        simp [e2, q]
    · simp [e1, e3]
theorem bg1_n {t : TT} {j s : Nat} {w : Int} {n : Nat} (h : ¬ (s >>> n) % 2 = 1) : bg1 t j s w n = bg1 t j s w (n + 1) := by
  funext f a
  simp only [bg1]
  by_cases e2 : a = n
  · subst e2; simp [h]
  · have q : a < n + 1 ↔ a < n := by omega
    simp [q]
theorem bg1_bd {t : TT} (hB : Bd t) (j s : Nat) {w : Int} (hw : 0 ≤ w) (n : Nat) : Bd (bg1 t j s w n) := by
  intro f a hf
  have h1 := bd13 hB a
  have h2 := wnF_bd hB s hw a
  unfold bg1
  split
  · rename_i q; rw [q.1]
    show (0 : Int) ≤ _ ∧ _ ≤ (16 : Int)
    omega
  split
  · rename_i q
    have e1 : lo f = 0 := by unfold lo; rw [if_neg (by omega)]
    have e2 : hi f = 16 := by unfold hi; rw [List.getD_eq_getElem?_getD, List.getElem?_eq_none (by simp; omega)]; rfl
    rw [e1, e2]
    omega
  · exact hB f a hf
theorem k_Mc_begin {l : Launch} {E : Ew} {S0 : WW} {m : Nat} {t : TT} (hm : m < 2) {j : Nat} (hj : j < 30) (hB : Bd t) : Kf l y_Mc_begin b_Mc_begin 6 none 2 E (sm S0 m t) [rf E (kMc m), rf E (kJb m j)] none (sm S0 m (bgF t j)) := by
  refine KfV rfl rfl (Nat.le_of_ble_eq_true rfl) (fun g C R => ?_)
  show g (sm S0 m t) 0 [some (rf E (kMc m)), some (rf E (kJb m j)), none, none, none, none] []
  have b0 := bd0 hB 0
  have b4 := bd4 hB 0
  obtain ⟨s, hse⟩ : ∃ s, s = frF t (t 18 j) := ⟨_, rfl⟩
  obtain ⟨w, hwe⟩ : ∃ w, w = t 18 j := ⟨_, rfl⟩
  have hs : s < 16 := by rw [hse]; exact frF_lt hB _
  have hw : 0 ≤ w ∧ w ≤ 64 := by rw [hwe]; exact bd18 hB j
  have hw0 := hw.1
  have hl : ∀ (k i : Nat) (X : Option Value), i ≤ (t 0 0).toNat → (t 0 0).toNat - i < k → g (sm S0 m (bg1 t j s w i)) 17 [some (rf E (kMc m)), some (rf E (kJb m j)), some (iv (s : Int)), some (iv (wnF t s w i)), some (iv (i : Int)), X] [] := by
    intro k
    induction k with
    | zero => intro i X h1 h2; omega
    | succ k ih =>
      intro i X h1 h2
      have hwn := wnF_bd hB s hw0 i
      have hb1 := bg1_bd hB j s hw0 i
      refine r_iload C d_Mc_begin_17 rfl ?_
      refine r_aload_n C d_Mc_begin_19 rfl ?_
      refine g_Mc_rackCount C hm lk_Mc_56 d_Mc_begin_20 ?_
      rw [bg1_ne (by omega)]
      refine r_icmp_ge (tgt := 88) C d_Mc_begin_23 (by decide) (by first | assumption | exact bd_ir (by assumption) rfl | exact b2i_ir _ | exact pb_ir _ | exact ir_mk (by omega) (by omega)) (by first | assumption | exact bd_ir (by assumption) rfl | exact b2i_ir _ | exact pb_ir _ | exact ir_mk (by omega) (by omega)) (fun c23 => ?_) (fun c23 => ?_)
      · refine r_aload_n C d_Mc_begin_88 rfl ?_
        refine r_iconst C d_Mc_begin_89 ?_
        refine p_Jb_state C hm (by omega) lk_Mc_99 d_Mc_begin_90 ?_
        refine r_aload_n C d_Mc_begin_93 rfl ?_
        refine r_aload_n C d_Mc_begin_94 rfl ?_
        refine g_Mc_now C hm lk_Mc_68 d_Mc_begin_95 ?_
        try simp (disch := omega) only [tu_ne, tu_eq, bg1_ne]
        refine p_Jb_begun C hm (by omega) lk_Mc_227 d_Mc_begin_98 ?_
        refine r_aload_n C d_Mc_begin_101 rfl ?_
        refine r_aload_n C d_Mc_begin_102 rfl ?_
        refine g_Jb_nodes C hm (by omega) lk_Mc_152 d_Mc_begin_103 ?_
        try simp (disch := omega) only [tu_ne, tu_eq, bg1_ne]
        refine p_Jb_counted C hm (by omega) lk_Mc_110 d_Mc_begin_106 ?_
        refine r_aload_n C d_Mc_begin_109 rfl ?_
        refine r_aload_n C d_Mc_begin_110 rfl ?_
        refine g_Mc_now C hm lk_Mc_68 d_Mc_begin_111 ?_
        try simp (disch := omega) only [tu_ne, tu_eq, bg1_ne]
        refine r_aload_n C d_Mc_begin_114 rfl ?_
        refine r_cV0r C (k_Jb_left hm hj (bd_tu (bd_tu (bd_tu hb1 (fun _ => by show (0 : Int) ≤ 1 ∧ (1 : Int) ≤ 3; omega)) (fun _ => by show (-1 : Int) ≤ t 4 0 ∧ t 4 0 ≤ 3000; omega)) (fun _ => bd18 hB j))) (by decide) (by decide) ml_Mc_148 mn_Jb_left ms_Jb_left mc_Jb_left mi_Jb_left md_Jb_left (kJb_lt hm (by omega)) (zJb hm (by omega)) rfl rfl (Nat.le_of_ble_eq_true rfl) d_Mc_begin_115 ?_
        try simp (disch := omega) only [tu_ne, tu_eq, bg1_ne]
        refine r_iadd C d_Mc_begin_118 ?_
        refine p_Jb_takesUntil C hm (by omega) lk_Mc_123 d_Mc_begin_119 ?_
        exact R d_Mc_begin_122 (by rw [show i = (t 0 0).toNat by omega, hse, hwe]; rfl)
      · refine r_iload_n C d_Mc_begin_26 rfl ?_
        refine r_iload C d_Mc_begin_27 rfl ?_
        refine r_ishr C hs (by omega) d_Mc_begin_29 ?_
        refine r_iconst C d_Mc_begin_30 ?_
        refine r_iand C hs d_Mc_begin_31 ?_
        refine r_if_eq (tgt := 82) C d_Mc_begin_32 (by decide) (by first | assumption | exact bd_ir (by assumption) rfl | exact b2i_ir _ | exact pb_ir _ | exact ir_mk (by omega) (by omega)) (fun c32 => ?_) (fun c32 => ?_)
        · refine r_iinc_4 C d_Mc_begin_82 ?_
          refine r_goto (tgt := 17) C d_Mc_begin_85 (by decide) ?_
          have h := fun X => ih (i + 1) X (by omega) (by omega)
          rw [wnF_s] at h
          first
            | (rw [if_pos (by omega), ← bg1_y (by omega)] at h; exact h _)
            | (rw [if_neg (by omega), ← bg1_n (by omega)] at h; exact h _)
        · refine r_iload_n C d_Mc_begin_35 rfl ?_
          refine r_aload_n C d_Mc_begin_36 rfl ?_
          refine g_Mc_racks C hm lk_Mc_11 d_Mc_begin_37 ?_
          refine r_iload C d_Mc_begin_40 rfl ?_
          refine x_Rk C hm _ rfl (by omega) d_Mc_begin_42 ?_
          refine g_Rk_unused C hm (by omega) lk_Mc_90 d_Mc_begin_43 ?_
          rw [bg1_ne (by omega)]
          refine r_min C (by first | assumption | exact bd_ir (by assumption) rfl | exact b2i_ir _ | exact pb_ir _ | exact ir_mk (by omega) (by omega)) (by first | assumption | exact bd_ir (by assumption) rfl | exact b2i_ir _ | exact pb_ir _ | exact ir_mk (by omega) (by omega)) (by decide) ml_Mc_218 lw_Math_s lw_Math_i lw_Math_c (Nat.le_of_ble_eq_true rfl) d_Mc_begin_46 ?_
          refine r_istore_5 C d_Mc_begin_49 ?_
          refine r_aload_n C d_Mc_begin_51 rfl ?_
          refine g_Mc_racks C hm lk_Mc_11 d_Mc_begin_52 ?_
          refine r_iload C d_Mc_begin_55 rfl ?_
          refine x_Rk C hm _ rfl (by omega) d_Mc_begin_57 ?_
          refine r_dup C d_Mc_begin_58 rfl ?_
          refine g_Rk_unused C hm (by omega) lk_Mc_90 d_Mc_begin_59 ?_
          rw [bg1_ne (by omega)]
          refine r_iload C d_Mc_begin_62 rfl ?_
          refine r_isub C d_Mc_begin_64 ?_
          refine p_Rk_unused C hm (by omega) lk_Mc_90 d_Mc_begin_65 ?_
          refine r_aload_n C d_Mc_begin_68 rfl ?_
          refine g_Jb_nodesOn C hm (by omega) lk_Mc_113 d_Mc_begin_69 ?_
          refine r_iload C d_Mc_begin_72 rfl ?_
          refine r_iload C d_Mc_begin_74 rfl ?_
          refine st_On C hm (by omega) _ rfl (by omega) d_Mc_begin_76 ?_
          refine r_iload_n C d_Mc_begin_77 rfl ?_
          refine r_iload C d_Mc_begin_78 rfl ?_
          refine r_isub C d_Mc_begin_80 ?_
          refine r_istore_3 C d_Mc_begin_81 ?_
          refine r_iinc_4 C d_Mc_begin_82 ?_
          refine r_goto (tgt := 17) C d_Mc_begin_85 (by decide) ?_
          have h := fun X => ih (i + 1) X (by omega) (by omega)
          rw [wnF_s] at h
          first
            | (rw [if_pos (by omega), ← bg1_y (by omega)] at h; exact h _)
            | (rw [if_neg (by omega), ← bg1_n (by omega)] at h; exact h _)
  refine r_aload_n C d_Mc_begin_0 rfl ?_
  refine r_aload_n C d_Mc_begin_1 rfl ?_
  refine g_Jb_nodes C hm (by omega) lk_Mc_152 d_Mc_begin_2 ?_
  refine r_cV1r C (k_Mc_fewestRacks hm (bd_ir hB rfl) hB) (by decide) (by decide) ml_Mc_224 mn_Mc_fewestRacks ms_Mc_fewestRacks mc_Mc_fewestRacks mi_Mc_fewestRacks md_Mc_fewestRacks (kMc_lt hm) (zMc hm) rfl rfl (Nat.le_of_ble_eq_true rfl) d_Mc_begin_5 ?_
  refine r_istore_2 C d_Mc_begin_8 ?_
  rw [← hse]
  refine r_aload_n C d_Mc_begin_9 rfl ?_
  refine g_Jb_nodes C hm (by omega) lk_Mc_152 d_Mc_begin_10 ?_
  rw [← hwe]
  refine r_istore_3 C d_Mc_begin_13 ?_
  refine r_iconst C d_Mc_begin_14 ?_
  refine r_istore_4 C d_Mc_begin_15 ?_
  have h := hl ((t 0 0).toNat + 1) 0 none (by omega) (by omega)
  rw [bg1_0] at h
  exact h
