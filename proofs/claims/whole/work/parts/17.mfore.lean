noncomputable def itM (t : TT) : Nat → TT
  | 0 => t
  | i + 1 => tkM (itM t i)
theorem itM_s (t : TT) (i : Nat) : itM t (i + 1) = tkM (itM t i) := rfl
abbrev toC (t : TT) (n : Int) : Prop := (n < 1 ∨ 100 < n) ∨ 2000 < t 4 0 + n
theorem k_Md_ticks {l : Launch} {E : Ew} {S0 : WW} {t : TT} (hB : Bd t) {n : Int} (hn : ir n) (hI : ∀ i : Nat, ¬ toC t n → (i : Int) < n → tkI (itM t i)) : Kf l y_Md_ticks b_Md_ticks 3 (some .int) 3 E (sm S0 2 t) [rf E 1, iv n] (some (iv (if toC t n then -3 else itM t n.toNat 4 0))) (sm S0 2 (if toC t n then t else itM t n.toNat)) := by
  refine KfI rfl rfl (Nat.le_of_ble_eq_true rfl) (fun g C R => ?_)
  show g (sm S0 2 t) 0 [some (rf E 1), some (iv n), none] []
  have b4 := bd4 hB 0
  have hl : ∀ (k i : Nat), 1 ≤ n ∧ n ≤ 100 → ¬ toC t n → (i : Int) ≤ n → n - i < k → g (sm S0 2 (itM t i)) 27 [some (rf E 1), some (iv n), some (iv (i : Int))] [] := by
    intro k
    induction k with
    | zero => intro i h0 hto h1 h2; omega
    | succ k ih =>
      intro i h0 hto h1 h2
      refine r_iload_n C d_Md_ticks_27 rfl ?_
      refine r_iload_n C d_Md_ticks_28 rfl ?_
      refine r_icmp_ge (tgt := 42) C d_Md_ticks_29 (by decide) (by first | assumption | exact bd_ir (by assumption) rfl | exact b2i_ir _ | exact pb_ir _ | exact ir_mk (by omega) (by omega)) (by first | assumption | exact bd_ir (by assumption) rfl | exact b2i_ir _ | exact pb_ir _ | exact ir_mk (by omega) (by omega)) (fun c29 => ?_) (fun c29 => ?_)
      · refine r_aload_n C d_Md_ticks_42 rfl ?_
        refine g_Md_time C lk_Md_148 d_Md_ticks_43 ?_
        exact R d_Md_ticks_46 (by rw [if_neg hto, show n.toNat = i by omega]) (by rw [if_neg hto, show n.toNat = i by omega])
      · refine r_aload_n C d_Md_ticks_32 rfl ?_
        refine r_cV0v C (k_Md_tick (hI i hto (by omega))) (by decide) (by decide) ml_Md_194 mn_Md_tick ms_Md_tick mc_Md_tick mi_Md_tick md_Md_tick (by decide) zMd rfl rfl (Nat.le_of_ble_eq_true rfl) d_Md_ticks_33 ?_
        refine r_iinc_2 C d_Md_ticks_36 ?_
        refine r_goto (tgt := 27) C d_Md_ticks_39 (by decide) ?_
        exact ih (i + 1) h0 hto (by omega) (by omega)
  refine r_iload_n C d_Md_ticks_0 rfl ?_
  refine r_iconst C d_Md_ticks_1 ?_
  refine r_bipush C d_Md_ticks_2 (by decide) ?_
  refine r_cS3r C (k_Md_in (by first | assumption | exact ir_mk (by omega) (by omega)) (by first | assumption | exact ir_mk (by omega) (by omega)) (by first | assumption | exact ir_mk (by omega) (by omega))) (by decide) (by decide) ml_Md_120 mt_Md_in mc_Md_in mi_Md_in md_Md_in (Nat.le_of_ble_eq_true rfl) d_Md_ticks_4 ?_
  refine r_if_eq (tgt := 22) C d_Md_ticks_7 (by decide) (by first | assumption | exact bd_ir (by assumption) rfl | exact b2i_ir _ | exact pb_ir _ | exact ir_mk (by omega) (by omega)) (fun c7 => ?_) (fun c7 => ?_)
  · try have k7 := b2i_eq c7
    refine r_bipush C d_Md_ticks_22 (by decide) ?_
    exact R d_Md_ticks_24 (by (repeat' split) <;> omega) (by (repeat' split) <;> first | rfl | (exfalso; omega))
  · try have k7 := b2i_ne c7
    refine r_aload_n C d_Md_ticks_10 rfl ?_
    refine g_Md_time C lk_Md_148 d_Md_ticks_11 ?_
    refine r_iload_n C d_Md_ticks_14 rfl ?_
    refine r_iadd C d_Md_ticks_15 ?_
    refine r_sipush C d_Md_ticks_16 (by decide) ?_
    refine r_icmp_le (tgt := 25) C d_Md_ticks_19 (by decide) (by first | assumption | exact bd_ir (by assumption) rfl | exact b2i_ir _ | exact pb_ir _ | exact ir_mk (by omega) (by omega)) (by first | assumption | exact bd_ir (by assumption) rfl | exact b2i_ir _ | exact pb_ir _ | exact ir_mk (by omega) (by omega)) (fun c19 => ?_) (fun c19 => ?_)
    · refine r_iconst C d_Md_ticks_25 ?_
      refine r_istore_2 C d_Md_ticks_26 ?_
      exact hl (n.toNat + 1) 0 (by omega) (by omega) (by omega) (by omega)
    · refine r_bipush C d_Md_ticks_22 (by decide) ?_
      exact R d_Md_ticks_24 (by (repeat' split) <;> omega) (by (repeat' split) <;> first | rfl | (exfalso; omega))
def kp1 (t : TT) (n m k : Nat) : TT := fun f a => if f = 41 ∧ a < n then t 24 a else if f = 42 ∧ a < n then t 25 a else if f = 43 ∧ a < n then t 26 a else if f = 44 ∧ a < n then t 35 a else if f = 45 ∧ a < n then t 36 a else if f = 46 ∧ a < m then t 30 a else if f = 47 ∧ a < k then t 16 a else t f a
def pk1 (t : TT) (n m k : Nat) : TT := fun f a => if f = 24 ∧ a < n then t 41 a else if f = 25 ∧ a < n then t 42 a else if f = 26 ∧ a < n then t 43 a else if f = 35 ∧ a < n then t 44 a else if f = 36 ∧ a < n then t 45 a else if f = 30 ∧ a < m then t 46 a else if f = 16 ∧ a < k then t 47 a else t f a
theorem kp1_0 (t : TT) : kp1 t 0 0 0 = t := by
  funext f a; simp [kp1]
theorem kp1_24 {t : TT} {n m k a : Nat} : kp1 t n m k 24 a = t 24 a := by
  simp [kp1]
theorem kp1_25 {t : TT} {n m k a : Nat} : kp1 t n m k 25 a = t 25 a := by
  simp [kp1]
theorem kp1_26 {t : TT} {n m k a : Nat} : kp1 t n m k 26 a = t 26 a := by
  simp [kp1]
theorem kp1_35 {t : TT} {n m k a : Nat} : kp1 t n m k 35 a = t 35 a := by
  simp [kp1]
theorem kp1_36 {t : TT} {n m k a : Nat} : kp1 t n m k 36 a = t 36 a := by
  simp [kp1]
theorem kp1_30 {t : TT} {n m k a : Nat} : kp1 t n m k 30 a = t 30 a := by
  simp [kp1]
theorem kp1_16 {t : TT} {n m k a : Nat} : kp1 t n m k 16 a = t 16 a := by
  simp [kp1]
theorem kp1_s1 (t : TT) (n : Nat) : tu (tu (tu (tu (tu (kp1 t n 0 0) 41 n (t 24 n)) 42 n (t 25 n)) 43 n (t 26 n)) 44 n (t 35 n)) 45 n (t 36 n) = kp1 t (n + 1) 0 0 := by
  funext f a
  simp only [tu, kp1]
  by_cases e : a = n
  · subst e
    simp
    grind (splits := 30)
  · have q : a < n + 1 ↔ a < n := by omega
    simp [e, q]
theorem kp1_s2 (t : TT) (n m : Nat) : tu (kp1 t n m 0) 46 m (t 30 m) = kp1 t n (m + 1) 0 := by
  funext f a; simp only [tu, kp1]; grind
theorem kp1_s3 (t : TT) (n m k : Nat) : tu (kp1 t n m k) 47 k (t 16 k) = kp1 t n m (k + 1) := by
  funext f a; simp only [tu, kp1]; grind
theorem k_Md_keep {l : Launch} {E : Ew} {S0 : WW} {t : TT}  : Kf l y_Md_keep b_Md_keep 2 none 0 E (sm S0 2 t) [rf E 1] none (sm S0 2 (kp1 t 30 120 6)) := by
  refine KfV rfl rfl (Nat.le_of_ble_eq_true rfl) (fun g C R => ?_)
  show g (sm S0 2 t) 0 [some (rf E 1), none] []
  have hl3 : ∀ (k i : Nat), i ≤ 6 → 6 - i < k → g (sm S0 2 (kp1 t 30 120 i)) 102 [some (rf E 1), some (iv (i : Int))] [] := by
    intro k
    induction k with
    | zero => intro i h1 h2; omega
    | succ k ih =>
      intro i h1 h2
      refine r_iload_n C d_Md_keep_102 rfl ?_
      refine r_bipush C d_Md_keep_103 (by decide) ?_
      refine r_icmp_ge (tgt := 126) C d_Md_keep_105 (by decide) (by first | assumption | exact bd_ir (by assumption) rfl | exact b2i_ir _ | exact pb_ir _ | exact ir_mk (by omega) (by omega)) (by first | assumption | exact bd_ir (by assumption) rfl | exact b2i_ir _ | exact pb_ir _ | exact ir_mk (by omega) (by omega)) (fun c105 => ?_) (fun c105 => ?_)
      · exact R d_Md_keep_126 (by rw [show i = 6 by omega])
      · refine r_aload_n C d_Md_keep_108 rfl ?_
        refine g_Md_wasUsed C lk_Md_114 d_Md_keep_109 ?_
        refine r_iload_n C d_Md_keep_112 rfl ?_
        refine r_aload_n C d_Md_keep_113 rfl ?_
        refine g_Md_used C lk_Md_27 d_Md_keep_114 ?_
        refine r_iload_n C d_Md_keep_117 rfl ?_
        refine x_Md_used C _ rfl (by omega) d_Md_keep_118 ?_
        try simp (disch := omega) only [tu_ne, tu_eq, kp1_24, kp1_25, kp1_26, kp1_35, kp1_36, kp1_30, kp1_16]
        refine st_Md_wasUsed C _ rfl (by omega) d_Md_keep_119 ?_
        rw [kp1_s3]
        refine r_iinc_1 C d_Md_keep_120 ?_
        refine r_goto (tgt := 102) C d_Md_keep_123 (by decide) ?_
        exact ih (i + 1) (by omega) (by omega)
  have hl2 : ∀ (k i : Nat), i ≤ 120 → 120 - i < k → g (sm S0 2 (kp1 t 30 i 0)) 76 [some (rf E 1), some (iv (i : Int))] [] := by
    intro k
    induction k with
    | zero => intro i h1 h2; omega
    | succ k ih =>
      intro i h1 h2
      refine r_iload_n C d_Md_keep_76 rfl ?_
      refine r_bipush C d_Md_keep_77 (by decide) ?_
      refine r_icmp_ge (tgt := 100) C d_Md_keep_79 (by decide) (by first | assumption | exact bd_ir (by assumption) rfl | exact b2i_ir _ | exact pb_ir _ | exact ir_mk (by omega) (by omega)) (by first | assumption | exact bd_ir (by assumption) rfl | exact b2i_ir _ | exact pb_ir _ | exact ir_mk (by omega) (by omega)) (fun c79 => ?_) (fun c79 => ?_)
      · refine r_iconst C d_Md_keep_100 ?_
        refine r_istore_1 C d_Md_keep_101 ?_
        rw [show i = 120 by omega]
        exact hl3 7 0 (by omega) (by omega)
      · refine r_aload_n C d_Md_keep_82 rfl ?_
        refine g_Md_wasOn C lk_Md_111 d_Md_keep_83 ?_
        refine r_iload_n C d_Md_keep_86 rfl ?_
        refine r_aload_n C d_Md_keep_87 rfl ?_
        refine g_Md_on C lk_Md_69 d_Md_keep_88 ?_
        refine r_iload_n C d_Md_keep_91 rfl ?_
        refine x_Md_on C _ rfl (by omega) d_Md_keep_92 ?_
        try simp (disch := omega) only [tu_ne, tu_eq, kp1_24, kp1_25, kp1_26, kp1_35, kp1_36, kp1_30, kp1_16]
        refine st_Md_wasOn C _ rfl (by omega) d_Md_keep_93 ?_
        rw [kp1_s2]
        refine r_iinc_1 C d_Md_keep_94 ?_
        refine r_goto (tgt := 76) C d_Md_keep_97 (by decide) ?_
        exact ih (i + 1) (by omega) (by omega)
  have hl1 : ∀ (k i : Nat), i ≤ 30 → 30 - i < k → g (sm S0 2 (kp1 t i 0 0)) 2 [some (rf E 1), some (iv (i : Int))] [] := by
    intro k
    induction k with
    | zero => intro i h1 h2; omega
    | succ k ih =>
      intro i h1 h2
      refine r_iload_n C d_Md_keep_2 rfl ?_
      refine r_bipush C d_Md_keep_3 (by decide) ?_
      refine r_icmp_ge (tgt := 74) C d_Md_keep_5 (by decide) (by first | assumption | exact bd_ir (by assumption) rfl | exact b2i_ir _ | exact pb_ir _ | exact ir_mk (by omega) (by omega)) (by first | assumption | exact bd_ir (by assumption) rfl | exact b2i_ir _ | exact pb_ir _ | exact ir_mk (by omega) (by omega)) (fun c5 => ?_) (fun c5 => ?_)
      · refine r_iconst C d_Md_keep_74 ?_
        refine r_istore_1 C d_Md_keep_75 ?_
        rw [show i = 30 by omega]
        exact hl2 121 0 (by omega) (by omega)
      · refine r_aload_n C d_Md_keep_8 rfl ?_
        refine g_Md_wasState C lk_Md_96 d_Md_keep_9 ?_
        refine r_iload_n C d_Md_keep_12 rfl ?_
        refine r_aload_n C d_Md_keep_13 rfl ?_
        refine g_Md_state C lk_Md_51 d_Md_keep_14 ?_
        refine r_iload_n C d_Md_keep_17 rfl ?_
        refine x_Md_state C _ rfl (by omega) d_Md_keep_18 ?_
        try simp (disch := omega) only [tu_ne, tu_eq, kp1_24, kp1_25, kp1_26, kp1_35, kp1_36, kp1_30, kp1_16]
        refine st_Md_wasState C _ rfl (by omega) d_Md_keep_19 ?_
        refine r_aload_n C d_Md_keep_20 rfl ?_
        refine g_Md_wasBegan C lk_Md_99 d_Md_keep_21 ?_
        refine r_iload_n C d_Md_keep_24 rfl ?_
        refine r_aload_n C d_Md_keep_25 rfl ?_
        refine g_Md_began C lk_Md_54 d_Md_keep_26 ?_
        refine r_iload_n C d_Md_keep_29 rfl ?_
        refine x_Md_began C _ rfl (by omega) d_Md_keep_30 ?_
        try simp (disch := omega) only [tu_ne, tu_eq, kp1_24, kp1_25, kp1_26, kp1_35, kp1_36, kp1_30, kp1_16]
        refine st_Md_wasBegan C _ rfl (by omega) d_Md_keep_31 ?_
        refine r_aload_n C d_Md_keep_32 rfl ?_
        refine g_Md_wasEnded C lk_Md_102 d_Md_keep_33 ?_
        refine r_iload_n C d_Md_keep_36 rfl ?_
        refine r_aload_n C d_Md_keep_37 rfl ?_
        refine g_Md_ended C lk_Md_57 d_Md_keep_38 ?_
        refine r_iload_n C d_Md_keep_41 rfl ?_
        refine x_Md_ended C _ rfl (by omega) d_Md_keep_42 ?_
        try simp (disch := omega) only [tu_ne, tu_eq, kp1_24, kp1_25, kp1_26, kp1_35, kp1_36, kp1_30, kp1_16]
        refine st_Md_wasEnded C _ rfl (by omega) d_Md_keep_43 ?_
        refine r_aload_n C d_Md_keep_44 rfl ?_
        refine g_Md_wasRan C lk_Md_105 d_Md_keep_45 ?_
        refine r_iload_n C d_Md_keep_48 rfl ?_
        refine r_aload_n C d_Md_keep_49 rfl ?_
        refine g_Md_ran C lk_Md_63 d_Md_keep_50 ?_
        refine r_iload_n C d_Md_keep_53 rfl ?_
        refine x_Md_ran C _ rfl (by omega) d_Md_keep_54 ?_
        try simp (disch := omega) only [tu_ne, tu_eq, kp1_24, kp1_25, kp1_26, kp1_35, kp1_36, kp1_30, kp1_16]
        refine st_Md_wasRan C _ rfl (by omega) d_Md_keep_55 ?_
        refine r_aload_n C d_Md_keep_56 rfl ?_
        refine g_Md_wasLeft C lk_Md_108 d_Md_keep_57 ?_
        refine r_iload_n C d_Md_keep_60 rfl ?_
        refine r_aload_n C d_Md_keep_61 rfl ?_
        refine g_Md_leftAt C lk_Md_66 d_Md_keep_62 ?_
        refine r_iload_n C d_Md_keep_65 rfl ?_
        refine x_Md_leftAt C _ rfl (by omega) d_Md_keep_66 ?_
        try simp (disch := omega) only [tu_ne, tu_eq, kp1_24, kp1_25, kp1_26, kp1_35, kp1_36, kp1_30, kp1_16]
        refine st_Md_wasLeft C _ rfl (by omega) d_Md_keep_67 ?_
        rw [kp1_s1]
        refine r_iinc_1 C d_Md_keep_68 ?_
        refine r_goto (tgt := 2) C d_Md_keep_71 (by decide) ?_
        exact ih (i + 1) (by omega) (by omega)
  refine r_iconst C d_Md_keep_0 ?_
  refine r_istore_1 C d_Md_keep_1 ?_
  have h := hl1 31 0 (by omega) (by omega)
  rw [kp1_0] at h
  exact h
theorem pk1_0 (t : TT) : pk1 t 0 0 0 = t := by
  funext f a; simp [pk1]
theorem pk1_41 {t : TT} {n m k a : Nat} : pk1 t n m k 41 a = t 41 a := by
  simp [pk1]
theorem pk1_42 {t : TT} {n m k a : Nat} : pk1 t n m k 42 a = t 42 a := by
  simp [pk1]
theorem pk1_43 {t : TT} {n m k a : Nat} : pk1 t n m k 43 a = t 43 a := by
  simp [pk1]
theorem pk1_44 {t : TT} {n m k a : Nat} : pk1 t n m k 44 a = t 44 a := by
  simp [pk1]
theorem pk1_45 {t : TT} {n m k a : Nat} : pk1 t n m k 45 a = t 45 a := by
  simp [pk1]
theorem pk1_46 {t : TT} {n m k a : Nat} : pk1 t n m k 46 a = t 46 a := by
  simp [pk1]
theorem pk1_47 {t : TT} {n m k a : Nat} : pk1 t n m k 47 a = t 47 a := by
  simp [pk1]
theorem pk1_s1 (t : TT) (n : Nat) : tu (tu (tu (tu (tu (pk1 t n 0 0) 24 n (t 41 n)) 25 n (t 42 n)) 26 n (t 43 n)) 35 n (t 44 n)) 36 n (t 45 n) = pk1 t (n + 1) 0 0 := by
  funext f a
  simp only [tu, pk1]
  by_cases e : a = n
  · subst e
    simp
    grind (splits := 30)
  · have q : a < n + 1 ↔ a < n := by omega
    simp [e, q]
theorem pk1_s2 (t : TT) (n m : Nat) : tu (pk1 t n m 0) 30 m (t 46 m) = pk1 t n (m + 1) 0 := by
  funext f a; simp only [tu, pk1]; grind
theorem pk1_s3 (t : TT) (n m k : Nat) : tu (pk1 t n m k) 16 k (t 47 k) = pk1 t n m (k + 1) := by
  funext f a; simp only [tu, pk1]; grind
theorem k_Md_putBack {l : Launch} {E : Ew} {S0 : WW} {t : TT}  : Kf l y_Md_putBack b_Md_putBack 2 none 0 E (sm S0 2 t) [rf E 1] none (sm S0 2 (pk1 t 30 120 6)) := by
  refine KfV rfl rfl (Nat.le_of_ble_eq_true rfl) (fun g C R => ?_)
  show g (sm S0 2 t) 0 [some (rf E 1), none] []
  have hl3 : ∀ (k i : Nat), i ≤ 6 → 6 - i < k → g (sm S0 2 (pk1 t 30 120 i)) 102 [some (rf E 1), some (iv (i : Int))] [] := by
    intro k
    induction k with
    | zero => intro i h1 h2; omega
    | succ k ih =>
      intro i h1 h2
      refine r_iload_n C d_Md_putBack_102 rfl ?_
      refine r_bipush C d_Md_putBack_103 (by decide) ?_
      refine r_icmp_ge (tgt := 126) C d_Md_putBack_105 (by decide) (by first | assumption | exact bd_ir (by assumption) rfl | exact b2i_ir _ | exact pb_ir _ | exact ir_mk (by omega) (by omega)) (by first | assumption | exact bd_ir (by assumption) rfl | exact b2i_ir _ | exact pb_ir _ | exact ir_mk (by omega) (by omega)) (fun c105 => ?_) (fun c105 => ?_)
      · exact R d_Md_putBack_126 (by rw [show i = 6 by omega])
      · refine r_aload_n C d_Md_putBack_108 rfl ?_
        refine g_Md_used C lk_Md_27 d_Md_putBack_109 ?_
        refine r_iload_n C d_Md_putBack_112 rfl ?_
        refine r_aload_n C d_Md_putBack_113 rfl ?_
        refine g_Md_wasUsed C lk_Md_114 d_Md_putBack_114 ?_
        refine r_iload_n C d_Md_putBack_117 rfl ?_
        refine x_Md_wasUsed C _ rfl (by omega) d_Md_putBack_118 ?_
        try simp (disch := omega) only [tu_ne, tu_eq, pk1_41, pk1_42, pk1_43, pk1_44, pk1_45, pk1_46, pk1_47]
        refine st_Md_used C _ rfl (by omega) d_Md_putBack_119 ?_
        rw [pk1_s3]
        refine r_iinc_1 C d_Md_putBack_120 ?_
        refine r_goto (tgt := 102) C d_Md_putBack_123 (by decide) ?_
        exact ih (i + 1) (by omega) (by omega)
  have hl2 : ∀ (k i : Nat), i ≤ 120 → 120 - i < k → g (sm S0 2 (pk1 t 30 i 0)) 76 [some (rf E 1), some (iv (i : Int))] [] := by
    intro k
    induction k with
    | zero => intro i h1 h2; omega
    | succ k ih =>
      intro i h1 h2
      refine r_iload_n C d_Md_putBack_76 rfl ?_
      refine r_bipush C d_Md_putBack_77 (by decide) ?_
      refine r_icmp_ge (tgt := 100) C d_Md_putBack_79 (by decide) (by first | assumption | exact bd_ir (by assumption) rfl | exact b2i_ir _ | exact pb_ir _ | exact ir_mk (by omega) (by omega)) (by first | assumption | exact bd_ir (by assumption) rfl | exact b2i_ir _ | exact pb_ir _ | exact ir_mk (by omega) (by omega)) (fun c79 => ?_) (fun c79 => ?_)
      · refine r_iconst C d_Md_putBack_100 ?_
        refine r_istore_1 C d_Md_putBack_101 ?_
        rw [show i = 120 by omega]
        exact hl3 7 0 (by omega) (by omega)
      · refine r_aload_n C d_Md_putBack_82 rfl ?_
        refine g_Md_on C lk_Md_69 d_Md_putBack_83 ?_
        refine r_iload_n C d_Md_putBack_86 rfl ?_
        refine r_aload_n C d_Md_putBack_87 rfl ?_
        refine g_Md_wasOn C lk_Md_111 d_Md_putBack_88 ?_
        refine r_iload_n C d_Md_putBack_91 rfl ?_
        refine x_Md_wasOn C _ rfl (by omega) d_Md_putBack_92 ?_
        try simp (disch := omega) only [tu_ne, tu_eq, pk1_41, pk1_42, pk1_43, pk1_44, pk1_45, pk1_46, pk1_47]
        refine st_Md_on C _ rfl (by omega) d_Md_putBack_93 ?_
        rw [pk1_s2]
        refine r_iinc_1 C d_Md_putBack_94 ?_
        refine r_goto (tgt := 76) C d_Md_putBack_97 (by decide) ?_
        exact ih (i + 1) (by omega) (by omega)
  have hl1 : ∀ (k i : Nat), i ≤ 30 → 30 - i < k → g (sm S0 2 (pk1 t i 0 0)) 2 [some (rf E 1), some (iv (i : Int))] [] := by
    intro k
    induction k with
    | zero => intro i h1 h2; omega
    | succ k ih =>
      intro i h1 h2
      refine r_iload_n C d_Md_putBack_2 rfl ?_
      refine r_bipush C d_Md_putBack_3 (by decide) ?_
      refine r_icmp_ge (tgt := 74) C d_Md_putBack_5 (by decide) (by first | assumption | exact bd_ir (by assumption) rfl | exact b2i_ir _ | exact pb_ir _ | exact ir_mk (by omega) (by omega)) (by first | assumption | exact bd_ir (by assumption) rfl | exact b2i_ir _ | exact pb_ir _ | exact ir_mk (by omega) (by omega)) (fun c5 => ?_) (fun c5 => ?_)
      · refine r_iconst C d_Md_putBack_74 ?_
        refine r_istore_1 C d_Md_putBack_75 ?_
        rw [show i = 30 by omega]
        exact hl2 121 0 (by omega) (by omega)
      · refine r_aload_n C d_Md_putBack_8 rfl ?_
        refine g_Md_state C lk_Md_51 d_Md_putBack_9 ?_
        refine r_iload_n C d_Md_putBack_12 rfl ?_
        refine r_aload_n C d_Md_putBack_13 rfl ?_
        refine g_Md_wasState C lk_Md_96 d_Md_putBack_14 ?_
        refine r_iload_n C d_Md_putBack_17 rfl ?_
        refine x_Md_wasState C _ rfl (by omega) d_Md_putBack_18 ?_
        try simp (disch := omega) only [tu_ne, tu_eq, pk1_41, pk1_42, pk1_43, pk1_44, pk1_45, pk1_46, pk1_47]
        refine st_Md_state C _ rfl (by omega) d_Md_putBack_19 ?_
        refine r_aload_n C d_Md_putBack_20 rfl ?_
        refine g_Md_began C lk_Md_54 d_Md_putBack_21 ?_
        refine r_iload_n C d_Md_putBack_24 rfl ?_
        refine r_aload_n C d_Md_putBack_25 rfl ?_
        refine g_Md_wasBegan C lk_Md_99 d_Md_putBack_26 ?_
        refine r_iload_n C d_Md_putBack_29 rfl ?_
        refine x_Md_wasBegan C _ rfl (by omega) d_Md_putBack_30 ?_
        try simp (disch := omega) only [tu_ne, tu_eq, pk1_41, pk1_42, pk1_43, pk1_44, pk1_45, pk1_46, pk1_47]
        refine st_Md_began C _ rfl (by omega) d_Md_putBack_31 ?_
        refine r_aload_n C d_Md_putBack_32 rfl ?_
        refine g_Md_ended C lk_Md_57 d_Md_putBack_33 ?_
        refine r_iload_n C d_Md_putBack_36 rfl ?_
        refine r_aload_n C d_Md_putBack_37 rfl ?_
        refine g_Md_wasEnded C lk_Md_102 d_Md_putBack_38 ?_
        refine r_iload_n C d_Md_putBack_41 rfl ?_
        refine x_Md_wasEnded C _ rfl (by omega) d_Md_putBack_42 ?_
        try simp (disch := omega) only [tu_ne, tu_eq, pk1_41, pk1_42, pk1_43, pk1_44, pk1_45, pk1_46, pk1_47]
        refine st_Md_ended C _ rfl (by omega) d_Md_putBack_43 ?_
        refine r_aload_n C d_Md_putBack_44 rfl ?_
        refine g_Md_ran C lk_Md_63 d_Md_putBack_45 ?_
        refine r_iload_n C d_Md_putBack_48 rfl ?_
        refine r_aload_n C d_Md_putBack_49 rfl ?_
        refine g_Md_wasRan C lk_Md_105 d_Md_putBack_50 ?_
        refine r_iload_n C d_Md_putBack_53 rfl ?_
        refine x_Md_wasRan C _ rfl (by omega) d_Md_putBack_54 ?_
        try simp (disch := omega) only [tu_ne, tu_eq, pk1_41, pk1_42, pk1_43, pk1_44, pk1_45, pk1_46, pk1_47]
        refine st_Md_ran C _ rfl (by omega) d_Md_putBack_55 ?_
        refine r_aload_n C d_Md_putBack_56 rfl ?_
        refine g_Md_leftAt C lk_Md_66 d_Md_putBack_57 ?_
        refine r_iload_n C d_Md_putBack_60 rfl ?_
        refine r_aload_n C d_Md_putBack_61 rfl ?_
        refine g_Md_wasLeft C lk_Md_108 d_Md_putBack_62 ?_
        refine r_iload_n C d_Md_putBack_65 rfl ?_
        refine x_Md_wasLeft C _ rfl (by omega) d_Md_putBack_66 ?_
        try simp (disch := omega) only [tu_ne, tu_eq, pk1_41, pk1_42, pk1_43, pk1_44, pk1_45, pk1_46, pk1_47]
        refine st_Md_leftAt C _ rfl (by omega) d_Md_putBack_67 ?_
        rw [pk1_s1]
        refine r_iinc_1 C d_Md_putBack_68 ?_
        refine r_goto (tgt := 2) C d_Md_putBack_71 (by decide) ?_
        exact ih (i + 1) (by omega) (by omega)
  refine r_iconst C d_Md_putBack_0 ?_
  refine r_istore_1 C d_Md_putBack_1 ?_
  have h := hl1 31 0 (by omega) (by omega)
  rw [pk1_0] at h
  exact h
noncomputable def frI (t : TT) (j : Nat) : Nat → TT
  | 0 => t
  | k + 1 => if frI t j k 24 j = 0 then tkM (frI t j k) else frI t j k
theorem frI_s (t : TT) (j k : Nat) : frI t j (k + 1) = if frI t j k 24 j = 0 then tkM (frI t j k) else frI t j k := rfl
theorem frI_stop {t : TT} {j k : Nat} (h : frI t j k 24 j ≠ 0) : ∀ m, frI t j (k + m) = frI t j k := by
  intro m
  induction m with
  | zero => rfl
  | succ m ih => rw [show k + (m + 1) = k + m + 1 by omega, frI_s, ih, if_neg h]
def fs0 (t : TT) : TT := tu (kp1 t 30 120 6) 38 0 1
noncomputable def fsN (t : TT) (j : Nat) : TT := frI (fs0 t) j 300
noncomputable def fsV (t : TT) (j : Int) : Int := if ¬ (0 ≤ j ∧ j < t 2 0) then -2 else if t 24 j.toNat ≠ 0 then (if t 24 j.toNat = 1 then t 25 j.toNat else -1) else if fsN t j.toNat 24 j.toNat = 0 then -1 else fsN t j.toNat 25 j.toNat
noncomputable def fsS (t : TT) (j : Int) : TT := if (0 ≤ j ∧ j < t 2 0) ∧ t 24 j.toNat = 0 then tu (tu (tu (tu (pk1 (tu (fsN t j.toNat) 38 0 0) 30 120 6) 4 0 (t 4 0)) 8 0 (t 8 0)) 9 0 (t 9 0)) 37 0 (t 37 0) else t
theorem k_Md_foreseen {l : Launch} {E : Ew} {S0 : WW} {t : TT} (hB : Bd t) {j : Int} (hj : ir j) (hI : ∀ (q i : Nat), j = (q : Int) → j < t 2 0 → t 24 q = 0 → i ≤ 300 → Bd (frI (fs0 t) q i) ∧ (i < 300 → frI (fs0 t) q i 24 q = 0 → tkI (frI (fs0 t) q i))) : Kf l y_Md_foreseen b_Md_foreseen 8 (some .int) 3 E (sm S0 2 t) [rf E 1, iv j] (some (iv (fsV t j))) (sm S0 2 (fsS t j)) := by
  refine KfI rfl rfl (Nat.le_of_ble_eq_true rfl) (fun g C R => ?_)
  show g (sm S0 2 t) 0 [some (rf E 1), some (iv j), none, none, none, none, none, none] []
  have b2 := bd2 hB 0
  have b24 := bd24 hB j.toNat
  have hl : ∀ (q : Nat) (d : Nat), j = (q : Int) → q < 30 → (0 ≤ j ∧ j < t 2 0) → t 24 q = 0 → ∀ (k i : Nat) (X : Option Value), i ≤ 300 → 300 - i < k → g (sm S0 2 (frI (fs0 t) q i)) 75 [some (rf E 1), some (iv j), some (iv (t 4 0)), some (iv (t 8 0)), some (iv (t 9 0)), some (iv (t 37 0)), some (iv (i : Int)), X] [] := by
    intro q d hq hq3 hj2 hw k
    induction k with
    | zero => intro i X h1 h2; omega
    | succ k ih =>
      intro i X h1 h2
      obtain ⟨hBi, htk⟩ := hI q i hq hj2.2 hw h1
      refine r_iload C d_Md_foreseen_75 rfl ?_
      refine r_sipush C d_Md_foreseen_77 (by decide) ?_
      refine r_icmp_ge (tgt := 102) C d_Md_foreseen_80 (by decide) (by first | assumption | exact bd_ir (by assumption) rfl | exact b2i_ir _ | exact pb_ir _ | exact ir_mk (by omega) (by omega)) (by first | assumption | exact bd_ir (by assumption) rfl | exact b2i_ir _ | exact pb_ir _ | exact ir_mk (by omega) (by omega)) (fun c80 => ?_) (fun c80 => ?_)
      · have hfin : fsN t j.toNat = frI (fs0 t) q i := by
          rw [show j.toNat = q by omega, fsN]
          by_cases z : frI (fs0 t) q i 24 q = 0
          · rw [show i = 300 by omega]
          · rw [show 300 = i + (300 - i) by omega, frI_stop z]
        refine r_aload_n C d_Md_foreseen_102 rfl ?_
        refine g_Md_state C lk_Md_51 d_Md_foreseen_103 ?_
        refine r_iload_n C d_Md_foreseen_106 rfl ?_
        refine x_Md_state C q (by omega) (by omega) d_Md_foreseen_107 ?_
        refine r_if_ne (tgt := 115) C d_Md_foreseen_108 (by decide) (bd_ir hBi rfl) (fun c108 => ?_) (fun c108 => ?_)
        · refine r_aload_n C d_Md_foreseen_115 rfl ?_
          refine g_Md_began C lk_Md_54 d_Md_foreseen_116 ?_
          refine r_iload_n C d_Md_foreseen_119 rfl ?_
          refine x_Md_began C q (by omega) (by omega) d_Md_foreseen_120 ?_
          refine r_istore_7 C d_Md_foreseen_121 ?_
          refine r_aload_n C d_Md_foreseen_123 rfl ?_
          refine r_iconst C d_Md_foreseen_124 ?_
          refine p_Md_isForeseen C (by omega) lk_Md_190 d_Md_foreseen_125 ?_
          refine r_aload_n C d_Md_foreseen_128 rfl ?_
          refine r_cV0v C (k_Md_putBack) (by decide) (by decide) ml_Md_203 mn_Md_putBack ms_Md_putBack mc_Md_putBack mi_Md_putBack md_Md_putBack (by decide) zMd rfl rfl (Nat.le_of_ble_eq_true rfl) d_Md_foreseen_129 ?_
          refine r_aload_n C d_Md_foreseen_132 rfl ?_
          refine r_iload_n C d_Md_foreseen_133 rfl ?_
          refine p_Md_time C lk_Md_148 d_Md_foreseen_134 ?_
          refine r_aload_n C d_Md_foreseen_137 rfl ?_
          refine r_iload_n C d_Md_foreseen_138 rfl ?_
          refine p_Md_blocked C lk_Md_81 d_Md_foreseen_139 ?_
          refine r_aload_n C d_Md_foreseen_142 rfl ?_
          refine r_iload C d_Md_foreseen_143 rfl ?_
          refine p_Md_kept C lk_Md_84 d_Md_foreseen_145 ?_
          refine r_aload_n C d_Md_foreseen_148 rfl ?_
          refine r_iload C d_Md_foreseen_149 rfl ?_
          refine p_Md_keptLeft C lk_Md_162 d_Md_foreseen_151 ?_
          refine r_iload C d_Md_foreseen_154 rfl ?_
          exact R d_Md_foreseen_156 (by unfold fsV; rw [if_neg (by omega), show j.toNat = q by omega, if_neg (by omega)]; rw [show j.toNat = q by omega] at hfin; rw [hfin]; first | (rw [if_pos (by omega)]) | (rw [if_neg (by omega)])) (by unfold fsS; rw [if_pos ⟨hj2, by rw [show j.toNat = q by omega]; exact hw⟩, hfin])
        · refine r_iconst C d_Md_foreseen_111 ?_
          refine r_goto (tgt := 121) C d_Md_foreseen_112 (by decide) ?_
          refine r_istore_7 C d_Md_foreseen_121 ?_
          refine r_aload_n C d_Md_foreseen_123 rfl ?_
          refine r_iconst C d_Md_foreseen_124 ?_
          refine p_Md_isForeseen C (by omega) lk_Md_190 d_Md_foreseen_125 ?_
          refine r_aload_n C d_Md_foreseen_128 rfl ?_
          refine r_cV0v C (k_Md_putBack) (by decide) (by decide) ml_Md_203 mn_Md_putBack ms_Md_putBack mc_Md_putBack mi_Md_putBack md_Md_putBack (by decide) zMd rfl rfl (Nat.le_of_ble_eq_true rfl) d_Md_foreseen_129 ?_
          refine r_aload_n C d_Md_foreseen_132 rfl ?_
          refine r_iload_n C d_Md_foreseen_133 rfl ?_
          refine p_Md_time C lk_Md_148 d_Md_foreseen_134 ?_
          refine r_aload_n C d_Md_foreseen_137 rfl ?_
          refine r_iload_n C d_Md_foreseen_138 rfl ?_
          refine p_Md_blocked C lk_Md_81 d_Md_foreseen_139 ?_
          refine r_aload_n C d_Md_foreseen_142 rfl ?_
          refine r_iload C d_Md_foreseen_143 rfl ?_
          refine p_Md_kept C lk_Md_84 d_Md_foreseen_145 ?_
          refine r_aload_n C d_Md_foreseen_148 rfl ?_
          refine r_iload C d_Md_foreseen_149 rfl ?_
          refine p_Md_keptLeft C lk_Md_162 d_Md_foreseen_151 ?_
          refine r_iload C d_Md_foreseen_154 rfl ?_
          exact R d_Md_foreseen_156 (by unfold fsV; rw [if_neg (by omega), show j.toNat = q by omega, if_neg (by omega)]; rw [show j.toNat = q by omega] at hfin; rw [hfin]; first | (rw [if_pos (by omega)]) | (rw [if_neg (by omega)])) (by unfold fsS; rw [if_pos ⟨hj2, by rw [show j.toNat = q by omega]; exact hw⟩, hfin])
      · refine r_aload_n C d_Md_foreseen_83 rfl ?_
        refine g_Md_state C lk_Md_51 d_Md_foreseen_84 ?_
        refine r_iload_n C d_Md_foreseen_87 rfl ?_
        refine x_Md_state C q (by omega) (by omega) d_Md_foreseen_88 ?_
        refine r_if_ne (tgt := 102) C d_Md_foreseen_89 (by decide) (bd_ir hBi rfl) (fun c89 => ?_) (fun c89 => ?_)
        · have hfin : fsN t j.toNat = frI (fs0 t) q i := by
            rw [show j.toNat = q by omega, fsN]
            by_cases z : frI (fs0 t) q i 24 q = 0
            · rw [show i = 300 by omega]
            · rw [show 300 = i + (300 - i) by omega, frI_stop z]
          refine r_aload_n C d_Md_foreseen_102 rfl ?_
          refine g_Md_state C lk_Md_51 d_Md_foreseen_103 ?_
          refine r_iload_n C d_Md_foreseen_106 rfl ?_
          refine x_Md_state C q (by omega) (by omega) d_Md_foreseen_107 ?_
          refine r_if_ne (tgt := 115) C d_Md_foreseen_108 (by decide) (bd_ir hBi rfl) (fun c108 => ?_) (fun c108 => ?_)
          · refine r_aload_n C d_Md_foreseen_115 rfl ?_
            refine g_Md_began C lk_Md_54 d_Md_foreseen_116 ?_
            refine r_iload_n C d_Md_foreseen_119 rfl ?_
            refine x_Md_began C q (by omega) (by omega) d_Md_foreseen_120 ?_
            refine r_istore_7 C d_Md_foreseen_121 ?_
            refine r_aload_n C d_Md_foreseen_123 rfl ?_
            refine r_iconst C d_Md_foreseen_124 ?_
            refine p_Md_isForeseen C (by omega) lk_Md_190 d_Md_foreseen_125 ?_
            refine r_aload_n C d_Md_foreseen_128 rfl ?_
            refine r_cV0v C (k_Md_putBack) (by decide) (by decide) ml_Md_203 mn_Md_putBack ms_Md_putBack mc_Md_putBack mi_Md_putBack md_Md_putBack (by decide) zMd rfl rfl (Nat.le_of_ble_eq_true rfl) d_Md_foreseen_129 ?_
            refine r_aload_n C d_Md_foreseen_132 rfl ?_
            refine r_iload_n C d_Md_foreseen_133 rfl ?_
            refine p_Md_time C lk_Md_148 d_Md_foreseen_134 ?_
            refine r_aload_n C d_Md_foreseen_137 rfl ?_
            refine r_iload_n C d_Md_foreseen_138 rfl ?_
            refine p_Md_blocked C lk_Md_81 d_Md_foreseen_139 ?_
            refine r_aload_n C d_Md_foreseen_142 rfl ?_
            refine r_iload C d_Md_foreseen_143 rfl ?_
            refine p_Md_kept C lk_Md_84 d_Md_foreseen_145 ?_
            refine r_aload_n C d_Md_foreseen_148 rfl ?_
            refine r_iload C d_Md_foreseen_149 rfl ?_
            refine p_Md_keptLeft C lk_Md_162 d_Md_foreseen_151 ?_
            refine r_iload C d_Md_foreseen_154 rfl ?_
            exact R d_Md_foreseen_156 (by unfold fsV; rw [if_neg (by omega), show j.toNat = q by omega, if_neg (by omega)]; rw [show j.toNat = q by omega] at hfin; rw [hfin]; first | (rw [if_pos (by omega)]) | (rw [if_neg (by omega)])) (by unfold fsS; rw [if_pos ⟨hj2, by rw [show j.toNat = q by omega]; exact hw⟩, hfin])
          · refine r_iconst C d_Md_foreseen_111 ?_
            refine r_goto (tgt := 121) C d_Md_foreseen_112 (by decide) ?_
            refine r_istore_7 C d_Md_foreseen_121 ?_
            refine r_aload_n C d_Md_foreseen_123 rfl ?_
            refine r_iconst C d_Md_foreseen_124 ?_
            refine p_Md_isForeseen C (by omega) lk_Md_190 d_Md_foreseen_125 ?_
            refine r_aload_n C d_Md_foreseen_128 rfl ?_
            refine r_cV0v C (k_Md_putBack) (by decide) (by decide) ml_Md_203 mn_Md_putBack ms_Md_putBack mc_Md_putBack mi_Md_putBack md_Md_putBack (by decide) zMd rfl rfl (Nat.le_of_ble_eq_true rfl) d_Md_foreseen_129 ?_
            refine r_aload_n C d_Md_foreseen_132 rfl ?_
            refine r_iload_n C d_Md_foreseen_133 rfl ?_
            refine p_Md_time C lk_Md_148 d_Md_foreseen_134 ?_
            refine r_aload_n C d_Md_foreseen_137 rfl ?_
            refine r_iload_n C d_Md_foreseen_138 rfl ?_
            refine p_Md_blocked C lk_Md_81 d_Md_foreseen_139 ?_
            refine r_aload_n C d_Md_foreseen_142 rfl ?_
            refine r_iload C d_Md_foreseen_143 rfl ?_
            refine p_Md_kept C lk_Md_84 d_Md_foreseen_145 ?_
            refine r_aload_n C d_Md_foreseen_148 rfl ?_
            refine r_iload C d_Md_foreseen_149 rfl ?_
            refine p_Md_keptLeft C lk_Md_162 d_Md_foreseen_151 ?_
            refine r_iload C d_Md_foreseen_154 rfl ?_
            exact R d_Md_foreseen_156 (by unfold fsV; rw [if_neg (by omega), show j.toNat = q by omega, if_neg (by omega)]; rw [show j.toNat = q by omega] at hfin; rw [hfin]; first | (rw [if_pos (by omega)]) | (rw [if_neg (by omega)])) (by unfold fsS; rw [if_pos ⟨hj2, by rw [show j.toNat = q by omega]; exact hw⟩, hfin])
        · refine r_aload_n C d_Md_foreseen_92 rfl ?_
          refine r_cV0v C (k_Md_tick (htk (by omega) (by omega))) (by decide) (by decide) ml_Md_194 mn_Md_tick ms_Md_tick mc_Md_tick mi_Md_tick md_Md_tick (by decide) zMd rfl rfl (Nat.le_of_ble_eq_true rfl) d_Md_foreseen_93 ?_
          refine r_iinc_6 C d_Md_foreseen_96 ?_
          refine r_goto (tgt := 75) C d_Md_foreseen_99 (by decide) ?_
          have h := fun X => ih (i + 1) X (by omega) (by omega)
          rw [frI_s, if_pos (by omega)] at h
          exact h _
  refine r_aload_n C d_Md_foreseen_0 rfl ?_
  refine r_iload_n C d_Md_foreseen_1 rfl ?_
  refine r_cV1r C (k_Md_isJob hB (by first | assumption | exact ir_mk (by omega) (by omega))) (by decide) (by decide) ml_Md_138 mn_Md_isJob ms_Md_isJob mc_Md_isJob mi_Md_isJob md_Md_isJob (by decide) zMd rfl rfl (Nat.le_of_ble_eq_true rfl) d_Md_foreseen_2 ?_
  refine r_if_ne (tgt := 11) C d_Md_foreseen_5 (by decide) (by first | assumption | exact bd_ir (by assumption) rfl | exact b2i_ir _ | exact pb_ir _ | exact ir_mk (by omega) (by omega)) (fun c5 => ?_) (fun c5 => ?_)
  · try have k5 := b2i_ne c5
    refine r_aload_n C d_Md_foreseen_11 rfl ?_
    refine g_Md_state C lk_Md_51 d_Md_foreseen_12 ?_
    refine r_iload_n C d_Md_foreseen_15 rfl ?_
    refine x_Md_state C j.toNat (by omega) (by omega) d_Md_foreseen_16 ?_
    refine r_if_eq (tgt := 41) C d_Md_foreseen_17 (by decide) (by first | assumption | exact bd_ir (by assumption) rfl | exact b2i_ir _ | exact pb_ir _ | exact ir_mk (by omega) (by omega)) (fun c17 => ?_) (fun c17 => ?_)
    · try have k17 := b2i_eq c17
      refine r_aload_n C d_Md_foreseen_41 rfl ?_
      refine g_Md_time C lk_Md_148 d_Md_foreseen_42 ?_
      refine r_istore_2 C d_Md_foreseen_45 ?_
      refine r_aload_n C d_Md_foreseen_46 rfl ?_
      refine g_Md_blocked C lk_Md_81 d_Md_foreseen_47 ?_
      refine r_istore_3 C d_Md_foreseen_50 ?_
      refine r_aload_n C d_Md_foreseen_51 rfl ?_
      refine g_Md_kept C lk_Md_84 d_Md_foreseen_52 ?_
      refine r_istore_4 C d_Md_foreseen_55 ?_
      refine r_aload_n C d_Md_foreseen_57 rfl ?_
      refine g_Md_keptLeft C lk_Md_162 d_Md_foreseen_58 ?_
      refine r_istore_5 C d_Md_foreseen_61 ?_
      refine r_aload_n C d_Md_foreseen_63 rfl ?_
      refine r_cV0v C (k_Md_keep) (by decide) (by decide) ml_Md_200 mn_Md_keep ms_Md_keep mc_Md_keep mi_Md_keep md_Md_keep (by decide) zMd rfl rfl (Nat.le_of_ble_eq_true rfl) d_Md_foreseen_64 ?_
      refine r_aload_n C d_Md_foreseen_67 rfl ?_
      refine r_iconst C d_Md_foreseen_68 ?_
      refine p_Md_isForeseen C (by omega) lk_Md_190 d_Md_foreseen_69 ?_
      refine r_iconst C d_Md_foreseen_72 ?_
      refine r_istore_6 C d_Md_foreseen_73 ?_
      exact hl j.toNat 0 (by omega) (by omega) (by omega) (by omega) 301 0 none (by omega) (by omega)
    · try have k17 := b2i_ne c17
      refine r_aload_n C d_Md_foreseen_20 rfl ?_
      refine g_Md_state C lk_Md_51 d_Md_foreseen_21 ?_
      refine r_iload_n C d_Md_foreseen_24 rfl ?_
      refine x_Md_state C j.toNat (by omega) (by omega) d_Md_foreseen_25 ?_
      refine r_iconst C d_Md_foreseen_26 ?_
      refine r_icmp_ne (tgt := 39) C d_Md_foreseen_27 (by decide) (by first | assumption | exact bd_ir (by assumption) rfl | exact b2i_ir _ | exact pb_ir _ | exact ir_mk (by omega) (by omega)) (by first | assumption | exact bd_ir (by assumption) rfl | exact b2i_ir _ | exact pb_ir _ | exact ir_mk (by omega) (by omega)) (fun c27 => ?_) (fun c27 => ?_)
      · refine r_iconst C d_Md_foreseen_39 ?_
        exact R d_Md_foreseen_40 (by unfold fsV; (repeat' split) <;> omega) (by unfold fsS; rw [if_neg (by omega)])
      · refine r_aload_n C d_Md_foreseen_30 rfl ?_
        refine g_Md_began C lk_Md_54 d_Md_foreseen_31 ?_
        refine r_iload_n C d_Md_foreseen_34 rfl ?_
        refine x_Md_began C j.toNat (by omega) (by omega) d_Md_foreseen_35 ?_
        refine r_goto (tgt := 40) C d_Md_foreseen_36 (by decide) ?_
        exact R d_Md_foreseen_40 (by unfold fsV; (repeat' split) <;> omega) (by unfold fsS; rw [if_neg (by omega)])
  · try have k5 := b2i_nn c5
    refine r_bipush C d_Md_foreseen_8 (by decide) ?_
    exact R d_Md_foreseen_10 (by unfold fsV; (repeat' split) <;> omega) (by unfold fsS; rw [if_neg (by omega)])
