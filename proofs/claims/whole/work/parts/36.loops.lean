/-! CONSTRUCTORS: Machine's, GreatMachine's -/
def m0 : List Value := [.null, .null, .null, .null, iv 0, iv 0, iv 0, iv 0, iv 0, iv 0, iv 0, iv 0, iv 0, iv 0, .null, iv 0]
def mfs (aR aA aJ aH aQ : Nat) : List Value := [.ref aR, .ref aA, .ref aJ, .ref aH, iv 0, iv 0, iv 0, iv 0, iv 0, iv 100, iv 10, iv 0, iv (-1), iv (-1), .ref aQ, iv 0]
def b6 (E2 : Nat → ClassId) (a aR aA aJ aH aQ : Nat) (fR fA fJ fH : Nat → Option Nat) (tl : va_W) : va_W := (a, .inr (3, mfs aR aA aJ aH aQ)) :: (aR, .inl (E2 2, 4, rq fR)) :: (aA, .inl (E2 3, 6, rq fA)) :: (aJ, .inl (E2 4, 30, rq fJ)) :: (aH, .inl (E2 5, 9, rq fH)) :: (aQ, .inl (E2 0, 30, .inl fun _ => 0)) :: tl
def bRk (q : Nat) : Nat × va_E := (q, .inr (4, [iv 0, iv 0, iv 0]))
def bAc (q : Nat) : Nat × va_E := (q, .inr (0, [iv 0, iv 0]))
def bHd (q : Nat) : Nat × va_E := (q, .inr (1, [iv 0, iv 0, iv 0, iv 0]))
def bJb (E2 : Nat → ClassId) (p : Nat × Nat) : va_W := [(p.1, .inr (2, j0 (.ref p.2))), (p.2, .inl (E2 0, 4, .inl fun _ => 0))]
def fl (l : List Nat) : Nat → Option Nat := fun j => l[j]?
theorem fl_nil : (fun _ : Nat => (none : Option Nat)) = fl [] := by funext j; simp [fl]
theorem fl_up (l : List Nat) (q : Nat) : va_up (fl l) l.length (some q) = fl (l ++ [q]) := by
  funext j
  unfold va_up fl
  by_cases h : j = l.length
  · subst h; simp
  · rw [if_neg h]
    by_cases h2 : j < l.length
    · rw [List.getElem?_append_left h2]
    · rw [List.getElem?_eq_none (by omega), List.getElem?_eq_none (by simp; omega)]
theorem d_Rk0 : ∀ j, j < 3 → defaultValue (ty_Rk j) = vp_V [iv 0, iv 0, iv 0] j := fun j h => by rcases (show j = 0 ∨ j = 1 ∨ j = 2 by omega) with rfl | rfl | rfl <;> rfl
theorem d_Ac0 : ∀ j, j < 2 → defaultValue (ty_Ac j) = vp_V [iv 0, iv 0] j := fun j h => by rcases (show j = 0 ∨ j = 1 by omega) with rfl | rfl <;> rfl
theorem d_Hd0 : ∀ j, j < 4 → defaultValue (ty_Hd j) = vp_V [iv 0, iv 0, iv 0, iv 0] j := fun j h => by rcases (show j = 0 ∨ j = 1 ∨ j = 2 ∨ j = 3 by omega) with rfl | rfl | rfl | rfl <;> rfl
theorem d_Jb0 : ∀ j, j < 14 → defaultValue (ty_Jb j) = vp_V (j0 .null) j := fun j h => by rcases (show j = 0 ∨ j = 1 ∨ j = 2 ∨ j = 3 ∨ j = 4 ∨ j = 5 ∨ j = 6 ∨ j = 7 ∨ j = 8 ∨ j = 9 ∨ j = 10 ∨ j = 11 ∨ j = 12 ∨ j = 13 by omega) with rfl | rfl | rfl | rfl | rfl | rfl | rfl | rfl | rfl | rfl | rfl | rfl | rfl | rfl <;> rfl
theorem d_Mc0 : ∀ j, j < 16 → defaultValue (ty_Mc j) = vp_V m0 j := fun j h => by rcases (show j = 0 ∨ j = 1 ∨ j = 2 ∨ j = 3 ∨ j = 4 ∨ j = 5 ∨ j = 6 ∨ j = 7 ∨ j = 8 ∨ j = 9 ∨ j = 10 ∨ j = 11 ∨ j = 12 ∨ j = 13 ∨ j = 14 ∨ j = 15 by omega) with rfl | rfl | rfl | rfl | rfl | rfl | rfl | rfl | rfl | rfl | rfl | rfl | rfl | rfl | rfl | rfl <;> rfl
theorem q_new (E2 : Nat → ClassId) {a aR aA aJ aH aQ : Nat} {fR fA fJ fH : Nat → Option Nat} {tl r : va_W} {x : Nat × va_E} : (b6 E2 a aR aA aJ aH aQ fR fA fJ fH tl ++ x :: r)[6 + tl.length]? = some x := by
  rw [show 6 + tl.length = (b6 E2 a aR aA aJ aH aQ fR fA fJ fH tl).length by simp [b6]; omega]
  simp
section MC
variable {g : va_W → Nat → Nat → Nat → LL → List Value → Prop} {l : Launch} {E2 : Nat → ClassId}
theorem lp_Rk {h mc ms : Nat} (C : Cn g True "GreatMachine$Machine" b_Mc_init 2 h mc ms l E2) (hh : 1 < h) {k0 n0 a aR aA aJ aH aQ : Nat} {fA fJ fH : Nat → Option Nat} {tl : va_W} (hk : k0 + 4 ≤ mc) (hn : n0 + 12 ≤ ms)
    (kk : ∀ l : List (Nat), l.length = 4 → g (b6 E2 a aR aA aJ aH aQ (fl l) fA fJ fH (tl ++ l.map bRk)) (k0 + 4) (n0 + 12) 95 [some (.ref a), some (iv 4)] []) :
    ∀ (n : Nat) (l : List (Nat)), l.length + n = 4 → g (b6 E2 a aR aA aJ aH aQ (fl l) fA fJ fH (tl ++ l.map bRk)) (k0 + 1 * l.length) (n0 + 3 * l.length) 71 [some (.ref a), some (iv (l.length : Int))] [] := by
  intro n
  induction n with
  | zero =>
    intro l hl
    refine n_iload C d_Mc_init_71 rfl ?_
    refine n_iconst C d_Mc_init_72 ?_
    refine n_icmp_ge C (tgt := 95) d_Mc_init_73 (by decide) (ir_mk (by omega) (by omega)) (ir_mk (by decide) (by decide)) (fun _ => ?_) (fun q => absurd (show (4 : Int) ≤ (l.length : Int) by omega) q)
    have k := kk l (by omega)
    rw [show k0 + 1 * l.length = k0 + 4 by omega, show n0 + 3 * l.length = n0 + 12 by omega, show (l.length : Int) = 4 by omega]
    exact k
  | succ n ih =>
    intro l hl
    refine n_iload C d_Mc_init_71 rfl ?_
    refine n_iconst C d_Mc_init_72 ?_
    refine n_icmp_ge C (tgt := 95) d_Mc_init_73 (by decide) (ir_mk (by omega) (by omega)) (ir_mk (by decide) (by decide)) (fun q => absurd q (by omega)) (fun _ => ?_)
    refine n_aload C d_Mc_init_76 rfl ?_
    refine n_get C inw_Mc rfl rfl 0 (by omega) lk_Mc_11 rfl rfl d_Mc_init_77 ?_
    refine n_iload C d_Mc_init_80 rfl ?_
    refine n_new C (k' := k0 + 1 * (l.length + 1)) (n' := n0 + 3 * (l.length + 1)) (fs := [iv 0, iv 0, iv 0]) (w1 := (fun q _ => [bRk q])) inw_Rk ty_Rk tok_Rk cl_Mc_9 ins_Rk mi_Rk_init rfl d_Rk0 (fun a => i_Rk a) (by omega) (by omega) rfl rfl (Or.inr fun s hs => hs.2.1) mn_Rk_init mc_Rk_init (by decide +kernel) (by omega) (by omega) (by omega) (by omega) (Nat.le_of_ble_eq_true rfl) d_Mc_init_81 d_Mc_init_84 d_Mc_init_85 (fun q u _ => ?_)
    refine n_aast C 1 2 (6 + (tl ++ l.map bRk).length) 4 (r := (R_Rk, T_Rk, 3)) rfl rfl (q_new E2) rfl rfl (by omega) (by omega) d_Mc_init_88 ?_
    refine n_iinc_1 C d_Mc_init_89 ?_
    refine n_goto C (tgt := 71) d_Mc_init_92 (by decide) ?_
    have k := ih (l ++ [q]) (by simp; omega)
    rw [show (l ++ [q]).length = l.length + 1 by simp, ← fl_up, List.map_append, ← List.append_assoc] at k
    skip
    exact k
theorem lp_Ac {h mc ms : Nat} (C : Cn g True "GreatMachine$Machine" b_Mc_init 2 h mc ms l E2) (hh : 1 < h) {k0 n0 a aR aA aJ aH aQ : Nat} {fR fJ fH : Nat → Option Nat} {tl : va_W} (hk : k0 + 6 ≤ mc) (hn : n0 + 12 ≤ ms)
    (kk : ∀ l : List (Nat), l.length = 6 → g (b6 E2 a aR aA aJ aH aQ fR (fl l) fJ fH (tl ++ l.map bAc)) (k0 + 6) (n0 + 12) 122 [some (.ref a), some (iv 6)] []) :
    ∀ (n : Nat) (l : List (Nat)), l.length + n = 6 → g (b6 E2 a aR aA aJ aH aQ fR (fl l) fJ fH (tl ++ l.map bAc)) (k0 + 1 * l.length) (n0 + 2 * l.length) 97 [some (.ref a), some (iv (l.length : Int))] [] := by
  intro n
  induction n with
  | zero =>
    intro l hl
    refine n_iload C d_Mc_init_97 rfl ?_
    refine n_bipush C d_Mc_init_98 (by decide) ?_
    refine n_icmp_ge C (tgt := 122) d_Mc_init_100 (by decide) (ir_mk (by omega) (by omega)) (ir_mk (by decide) (by decide)) (fun _ => ?_) (fun q => absurd (show (6 : Int) ≤ (l.length : Int) by omega) q)
    have k := kk l (by omega)
    rw [show k0 + 1 * l.length = k0 + 6 by omega, show n0 + 2 * l.length = n0 + 12 by omega, show (l.length : Int) = 6 by omega]
    exact k
  | succ n ih =>
    intro l hl
    refine n_iload C d_Mc_init_97 rfl ?_
    refine n_bipush C d_Mc_init_98 (by decide) ?_
    refine n_icmp_ge C (tgt := 122) d_Mc_init_100 (by decide) (ir_mk (by omega) (by omega)) (ir_mk (by decide) (by decide)) (fun q => absurd q (by omega)) (fun _ => ?_)
    refine n_aload C d_Mc_init_103 rfl ?_
    refine n_get C inw_Mc rfl rfl 1 (by omega) lk_Mc_19 rfl rfl d_Mc_init_104 ?_
    refine n_iload C d_Mc_init_107 rfl ?_
    refine n_new C (k' := k0 + 1 * (l.length + 1)) (n' := n0 + 2 * (l.length + 1)) (fs := [iv 0, iv 0]) (w1 := (fun q _ => [bAc q])) inw_Ac ty_Ac tok_Ac cl_Mc_17 ins_Ac mi_Ac_init rfl d_Ac0 (fun a => i_Ac a) (by omega) (by omega) rfl rfl (Or.inr fun s hs => hs.2.2.1) mn_Ac_init mc_Ac_init (by decide +kernel) (by omega) (by omega) (by omega) (by omega) (Nat.le_of_ble_eq_true rfl) d_Mc_init_108 d_Mc_init_111 d_Mc_init_112 (fun q u _ => ?_)
    refine n_aast C 2 3 (6 + (tl ++ l.map bAc).length) 0 (r := (R_Ac, T_Ac, 2)) rfl rfl (q_new E2) rfl rfl (by omega) (by omega) d_Mc_init_115 ?_
    refine n_iinc_1 C d_Mc_init_116 ?_
    refine n_goto C (tgt := 97) d_Mc_init_119 (by decide) ?_
    have k := ih (l ++ [q]) (by simp; omega)
    rw [show (l ++ [q]).length = l.length + 1 by simp, ← fl_up, List.map_append, ← List.append_assoc] at k
    skip
    exact k
theorem lp_Jb {h mc ms : Nat} (C : Cn g True "GreatMachine$Machine" b_Mc_init 2 h mc ms l E2) (hh : 1 < h) {k0 n0 a aR aA aJ aH aQ : Nat} {fR fA fH : Nat → Option Nat} {tl : va_W} (hk : k0 + 60 ≤ mc) (hn : n0 + 540 ≤ ms)
    (kk : ∀ l : List (Nat × Nat), l.length = 30 → g (b6 E2 a aR aA aJ aH aQ fR fA (fl (l.map Prod.fst)) fH (tl ++ l.flatMap (bJb E2))) (k0 + 60) (n0 + 540) 149 [some (.ref a), some (iv 30)] []) :
    ∀ (n : Nat) (l : List (Nat × Nat)), l.length + n = 30 → g (b6 E2 a aR aA aJ aH aQ fR fA (fl (l.map Prod.fst)) fH (tl ++ l.flatMap (bJb E2))) (k0 + 2 * l.length) (n0 + 18 * l.length) 124 [some (.ref a), some (iv (l.length : Int))] [] := by
  intro n
  induction n with
  | zero =>
    intro l hl
    refine n_iload C d_Mc_init_124 rfl ?_
    refine n_bipush C d_Mc_init_125 (by decide) ?_
    refine n_icmp_ge C (tgt := 149) d_Mc_init_127 (by decide) (ir_mk (by omega) (by omega)) (ir_mk (by decide) (by decide)) (fun _ => ?_) (fun q => absurd (show (30 : Int) ≤ (l.length : Int) by omega) q)
    have k := kk l (by omega)
    rw [show k0 + 2 * l.length = k0 + 60 by omega, show n0 + 18 * l.length = n0 + 540 by omega, show (l.length : Int) = 30 by omega]
    exact k
  | succ n ih =>
    intro l hl
    refine n_iload C d_Mc_init_124 rfl ?_
    refine n_bipush C d_Mc_init_125 (by decide) ?_
    refine n_icmp_ge C (tgt := 149) d_Mc_init_127 (by decide) (ir_mk (by omega) (by omega)) (ir_mk (by decide) (by decide)) (fun q => absurd q (by omega)) (fun _ => ?_)
    refine n_aload C d_Mc_init_130 rfl ?_
    refine n_get C inw_Mc rfl rfl 2 (by omega) lk_Mc_25 rfl rfl d_Mc_init_131 ?_
    refine n_iload C d_Mc_init_134 rfl ?_
    refine n_new C (k' := k0 + 2 * (l.length + 1)) (n' := n0 + 18 * (l.length + 1)) (fs := j0 .null) (w1 := (fun q u => bJb E2 (q, u))) inw_Jb ty_Jb tok_Jb cl_Mc_23 ins_Jb mi_Jb_init rfl d_Jb0 (fun a => i_Jb a) (by omega) (by omega) rfl rfl (Or.inr fun s hs => hs.2.2.2.1) mn_Jb_init mc_Jb_init (by decide +kernel) (by omega) (by omega) (by omega) (by omega) (Nat.le_of_ble_eq_true rfl) d_Mc_init_135 d_Mc_init_138 d_Mc_init_139 (fun q u _ => ?_)
    refine n_aast C 3 4 (6 + (tl ++ l.flatMap (bJb E2)).length) 2 (i := (l.map Prod.fst).length) (r := (R_Jb, T_Jb, 14)) rfl rfl (q_new E2) rfl (by rw [List.length_map]) (by rw [List.length_map]; omega) (by omega) d_Mc_init_142 ?_
    refine n_iinc_1 C d_Mc_init_143 ?_
    refine n_goto C (tgt := 124) d_Mc_init_146 (by decide) ?_
    have k := ih (l ++ [(q, u)]) (by simp; omega)
    rw [show (l ++ [(q, u)]).length = l.length + 1 by simp, List.map_append, show List.map Prod.fst [(q, u)] = [q] from rfl, ← fl_up, List.flatMap_append, ← List.append_assoc] at k
    rw [show List.flatMap (bJb E2) [(q, u)] = bJb E2 (q, u) by simp] at k
    exact k
theorem lp_Hd {h mc ms : Nat} (C : Cn g True "GreatMachine$Machine" b_Mc_init 2 h mc ms l E2) (hh : 1 < h) {k0 n0 a aR aA aJ aH aQ : Nat} {fR fA fJ : Nat → Option Nat} {tl : va_W} (hk : k0 + 9 ≤ mc) (hn : n0 + 36 ≤ ms)
    (kk : ∀ l : List (Nat), l.length = 9 → g (b6 E2 a aR aA aJ aH aQ fR fA fJ (fl l) (tl ++ l.map bHd)) (k0 + 9) (n0 + 36) 176 [some (.ref a), some (iv 9)] []) :
    ∀ (n : Nat) (l : List (Nat)), l.length + n = 9 → g (b6 E2 a aR aA aJ aH aQ fR fA fJ (fl l) (tl ++ l.map bHd)) (k0 + 1 * l.length) (n0 + 4 * l.length) 151 [some (.ref a), some (iv (l.length : Int))] [] := by
  intro n
  induction n with
  | zero =>
    intro l hl
    refine n_iload C d_Mc_init_151 rfl ?_
    refine n_bipush C d_Mc_init_152 (by decide) ?_
    refine n_icmp_gt C (tgt := 176) d_Mc_init_154 (by decide) (ir_mk (by omega) (by omega)) (ir_mk (by decide) (by decide)) (fun _ => ?_) (fun q => absurd (show (8 : Int) < (l.length : Int) by omega) q)
    have k := kk l (by omega)
    rw [show k0 + 1 * l.length = k0 + 9 by omega, show n0 + 4 * l.length = n0 + 36 by omega, show (l.length : Int) = 9 by omega]
    exact k
  | succ n ih =>
    intro l hl
    refine n_iload C d_Mc_init_151 rfl ?_
    refine n_bipush C d_Mc_init_152 (by decide) ?_
    refine n_icmp_gt C (tgt := 176) d_Mc_init_154 (by decide) (ir_mk (by omega) (by omega)) (ir_mk (by decide) (by decide)) (fun q => absurd q (by omega)) (fun _ => ?_)
    refine n_aload C d_Mc_init_157 rfl ?_
    refine n_get C inw_Mc rfl rfl 3 (by omega) lk_Mc_31 rfl rfl d_Mc_init_158 ?_
    refine n_iload C d_Mc_init_161 rfl ?_
    refine n_new C (k' := k0 + 1 * (l.length + 1)) (n' := n0 + 4 * (l.length + 1)) (fs := [iv 0, iv 0, iv 0, iv 0]) (w1 := (fun q _ => [bHd q])) inw_Hd ty_Hd tok_Hd cl_Mc_29 ins_Hd mi_Hd_init rfl d_Hd0 (fun a => i_Hd a) (by omega) (by omega) rfl rfl (Or.inr fun s hs => hs.2.2.2.2) mn_Hd_init mc_Hd_init (by decide +kernel) (by omega) (by omega) (by omega) (by omega) (Nat.le_of_ble_eq_true rfl) d_Mc_init_162 d_Mc_init_165 d_Mc_init_166 (fun q u _ => ?_)
    refine n_aast C 4 5 (6 + (tl ++ l.map bHd).length) 1 (r := (R_Hd, T_Hd, 4)) rfl rfl (q_new E2) rfl rfl (by omega) (by omega) d_Mc_init_169 ?_
    refine n_iinc_1 C d_Mc_init_170 ?_
    refine n_goto C (tgt := 151) d_Mc_init_173 (by decide) ?_
    have k := ih (l ++ [q]) (by simp; omega)
    rw [show (l ++ [q]).length = l.length + 1 by simp, ← fl_up, List.map_append, ← List.append_assoc] at k
    skip
    exact k
end MC
