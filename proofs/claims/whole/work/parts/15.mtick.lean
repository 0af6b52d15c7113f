noncomputable def mkL (t : TT) (j : Nat) : Nat → Int → Int
  | 0, s => s
  | k + 1, s => pif (s ≤ t 4 0 + 200 ∧ ¬ mfP t j s False) (mkL t j k (s + 1)) s
theorem mkL_s (t : TT) (j k : Nat) (s : Int) : mkL t j (k + 1) s = pif (s ≤ t 4 0 + 200 ∧ ¬ mfP t j s False) (mkL t j k (s + 1)) s := rfl
noncomputable def mkF (t : TT) (j : Nat) : Int := if mkL t j 202 (t 4 0) ≤ t 4 0 + 200 then mkL t j 202 (t 4 0) else -1
noncomputable def mtB (t : TT) (x : Int) : TT := tu (tu (tu t 8 0 x) 37 0 (t 20 x.toNat - t 27 x.toNat)) 9 0 (mkF (tu (tu t 8 0 x) 37 0 (t 20 x.toNat - t 27 x.toNat)) x.toNat)
noncomputable def mtS (t : TT) (x : Int) : TT := pif (mfP t x.toNat (t 4 0) (t 8 0 ≠ -1)) (bgM t x.toNat) (pif (t 8 0 = -1) (mtB t x) t)
noncomputable def mtF (t : TT) : Nat → TT
  | 0 => tu (tu t 8 0 (-1)) 9 0 (-1)
  | i + 1 => mtS (mtF t i) (mtF t i 11 i)
theorem mtF_s (t : TT) (i : Nat) : mtF t (i + 1) = mtS (mtF t i) (mtF t i 11 i) := rfl
theorem bgM_ne {t : TT} {j f a : Nat} (h : f ≠ 30 ∧ f ≠ 24 ∧ f ≠ 25 ∧ f ≠ 35 ∧ f ≠ 36 ∧ f ≠ 39 ∧ f ≠ 40) : bgM t j f a = t f a := by
  unfold bgM bq1; rw [mc1_ne (by omega), tu_ne (by omega), tu_ne (by omega), tu_ne (by omega), tu_ne (by omega), mb1_ne h.1]
theorem mtS_ne {t : TT} {x : Int} {f a : Nat} (h : f ≠ 30 ∧ f ≠ 24 ∧ f ≠ 25 ∧ f ≠ 35 ∧ f ≠ 36 ∧ f ≠ 39 ∧ f ≠ 40 ∧ f ≠ 8 ∧ f ≠ 9 ∧ f ≠ 37) : mtS t x f a = t f a := by
  unfold mtS mtB
  by_cases c1 : mfP t x.toNat (t 4 0) (t 8 0 ≠ -1)
  · rw [pif_t c1, bgM_ne (by omega)]
  · rw [pif_f c1]
    by_cases c2 : t 8 0 = -1
    · rw [pif_t c2, tu_ne (by omega), tu_ne (by omega), tu_ne (by omega)]
    · rw [pif_f c2]
theorem mtF_ne {t : TT} {f a : Nat} (h : f ≠ 30 ∧ f ≠ 24 ∧ f ≠ 25 ∧ f ≠ 35 ∧ f ≠ 36 ∧ f ≠ 39 ∧ f ≠ 40 ∧ f ≠ 8 ∧ f ≠ 9 ∧ f ≠ 37) : ∀ i, mtF t i f a = t f a := by
  intro i
  induction i with
  | zero => unfold mtF; rw [tu_ne (by omega), tu_ne (by omega)]
  | succ i ih => rw [mtF_s, mtS_ne h, ih]
def bgC (t : TT) (j : Nat) : Prop := (∀ i, i < 4 → (0 ≤ foF t i ∧ foF t i ≤ 16) ∧ (0 ≤ wnM t (mbF t (t 18 j)) (t 18 j) i ∧ wnM t (mbF t (t 18 j)) (t 18 j) i ≤ 64)) ∧ (∀ i, Bd (mb1 t j (mbF t (t 18 j)) (t 18 j) i))
def mr1 (t : TT) (j : Nat) : TT := tu (tu t 35 j (t 35 j + 1)) 16 (t 17 j).toNat (t 16 (t 17 j).toNat + t 18 j)
def mrS (t : TT) (j : Nat) : TT := if t 24 j = 1 then (if t 35 j + 1 = (if t 38 0 = 0 then t 21 j - t 27 j else t 36 j) then leM (tu (tu (mr1 t j) 24 j 2) 26 j (t 4 0 + 1)) j else mr1 t j) else t
def mrF (t : TT) : Nat → TT
  | 0 => t
  | i + 1 => mrS (mrF t i) i
theorem mrF_s (t : TT) (i : Nat) : mrF t (i + 1) = mrS (mrF t i) i := rfl
theorem mr1_ne {t : TT} {j f a : Nat} (h : f ≠ 35 ∧ f ≠ 16) : mr1 t j f a = t f a := by unfold mr1; rw [tu_ne (by omega), tu_ne (by omega)]
theorem mrS_ne {t : TT} {j f a : Nat} (h : f ≠ 35 ∧ f ≠ 16 ∧ f ≠ 24 ∧ f ≠ 26 ∧ f ≠ 30) : mrS t j f a = t f a := by
  unfold mrS
  by_cases c1 : t 24 j = 1
  · rw [if_pos c1]
    by_cases c2 : t 35 j + 1 = (if t 38 0 = 0 then t 21 j - t 27 j else t 36 j)
    · rw [if_pos c2, leM_ne (by omega), tu_ne (by omega), tu_ne (by omega), mr1_ne (by omega)]
    · rw [if_neg c2, mr1_ne (by omega)]
  · rw [if_neg c1]
theorem mrF_ne {t : TT} {f a : Nat} (h : f ≠ 35 ∧ f ≠ 16 ∧ f ≠ 24 ∧ f ≠ 26 ∧ f ≠ 30) : ∀ i, mrF t i f a = t f a := by
  intro i
  induction i with
  | zero => rfl
  | succ i ih => rw [mrF_s, mrS_ne h, ih]
def mcF (t : TT) : TT := if t 4 0 % t 5 0 = 0 then hv1 t (t 1 0).toNat else t
noncomputable def tk1 (t : TT) : TT := fqF t (t 2 0).toNat
noncomputable def tk2 (t : TT) : TT := fdF (tk1 t)
noncomputable def tk3 (t : TT) : TT := mtF (tk2 t) (tk2 t 10 0).toNat
noncomputable def tk4 (t : TT) : TT := mrF (tk3 t) (tk3 t 2 0).toNat
noncomputable def tk5 (t : TT) : TT := tu (tk4 t) 4 0 (tk4 t 4 0 + 1)
noncomputable def tkM (t : TT) : TT := mcF (tk5 t)
def tkI (t : TT) : Prop := Bd t ∧ t 3 0 ≤ 8 ∧ (Bd (tk1 t) ∧ tk1 t 3 0 ≤ 8) ∧ Bd (tk2 t) ∧ (∀ i, i ≤ (tk2 t 10 0).toNat → Bd (mtF (tk2 t) i) ∧ (0 ≤ mtF (tk2 t) i 11 i ∧ mtF (tk2 t) i 11 i ≤ 29) ∧ (i < (tk2 t 10 0).toNat → mtF (tk2 t) i 27 (mtF (tk2 t) i 11 i).toNat ≤ mtF (tk2 t) i 20 (mtF (tk2 t) i 11 i).toNat ∧ (mfP (mtF (tk2 t) i) (mtF (tk2 t) i 11 i).toNat (mtF (tk2 t) i 4 0) (mtF (tk2 t) i 8 0 ≠ -1) → bgC (mtF (tk2 t) i) (mtF (tk2 t) i 11 i).toNat))) ∧ (∀ i, i ≤ (tk3 t 2 0).toNat → Bd (mrF (tk3 t) i)) ∧ Bd (tk5 t) ∧ 1 ≤ tk5 t 5 0
theorem mkL_bd (t : TT) (j : Nat) : ∀ (k : Nat) (s : Int), s + k ≤ t 4 0 + 202 → s ≤ t 4 0 + 201 → s ≤ mkL t j k s ∧ mkL t j k s ≤ t 4 0 + 201 := by
  intro k
  induction k with
  | zero => intro s h1 h2; unfold mkL; omega
  | succ k ih =>
    intro s h1 h2
    rw [mkL_s]
    by_cases c : s ≤ t 4 0 + 200 ∧ ¬ mfP t j s False
    · rw [pif_t c]
      have := ih (s + 1) (by omega) (by omega)
      omega
    · rw [pif_f c]; omega
theorem k_Md_tick {l : Launch} {E : Ew} {S0 : WW} {t : TT} (hI0 : tkI t) : Kf l y_Md_tick b_Md_tick 4 none 2 E (sm S0 2 t) [rf E 1] none (sm S0 2 (tkM t)) := by
  refine KfV rfl rfl (Nat.le_of_ble_eq_true rfl) (fun g C R => ?_)
  show g (sm S0 2 t) 0 [some (rf E 1), none, none, none] []
  obtain ⟨h1, h8, h2, h3, hI, h5, h6, h7⟩ := hI0
  obtain ⟨z, hz⟩ : ∃ z, z = tk2 t := ⟨_, rfl⟩
  have hz3 : tk3 t = mtF z (z 10 0).toNat := by rw [hz]; rfl
  rw [← hz] at h3 hI
  have bz10 := bd10 h3 0
  have hlC : ∀ (q : TT) (k i : Nat) (X Y : Option Value), Bd q → 1 ≤ q 5 0 → (∀ {T : TT}, T = mcF q → T = tkM t) → i ≤ (q 1 0).toNat → (i = 0 ∨ q 4 0 % q 5 0 = 0) → (q 1 0).toNat - i < k → g (sm S0 2 (hv1 q i)) 280 [some (rf E 1), some (iv (i : Int)), X, Y] [] := by
    intro q k
    induction k with
    | zero => intro i X Y hBq h5 hfin h1 h0 h2; omega
    | succ k ih =>
      intro i X Y hBq h5 hfin h1 h0 h2
      have b1 := bd1 hBq 0
      have b4 := bd4 hBq 0
      have b5 := bd5 hBq 0
      refine r_iload_n C d_Md_tick_280 rfl ?_
      refine r_aload_n C d_Md_tick_281 rfl ?_
      refine g_Md_accounts C lk_Md_135 d_Md_tick_282 ?_
      rw [hv1_ne (by omega)]
      refine r_icmp_ge (tgt := 320) C d_Md_tick_285 (by decide) (by first | assumption | exact bd_ir (by assumption) rfl | exact b2i_ir _ | exact pb_ir _ | exact ir_mk (by omega) (by omega)) (by first | assumption | exact bd_ir (by assumption) rfl | exact b2i_ir _ | exact pb_ir _ | exact ir_mk (by omega) (by omega)) (fun c285 => ?_) (fun c285 => ?_)
      · exact R d_Md_tick_320 (congrArg (sm S0 2) (hfin (by
                unfold mcF
                first
                  | (rw [if_neg (by omega), show i = 0 by omega, hv1_0])
                  | (by_cases z : q 4 0 % q 5 0 = 0
                     · rw [if_pos z, show i = (q 1 0).toNat by omega]
                     · rw [if_neg z, show i = 0 by omega, hv1_0]))))
      · refine r_aload_n C d_Md_tick_288 rfl ?_
        refine g_Md_time C lk_Md_148 d_Md_tick_289 ?_
        refine r_aload_n C d_Md_tick_292 rfl ?_
        refine g_Md_half C lk_Md_7 d_Md_tick_293 ?_
        rw [hv1_ne (by omega), hv1_ne (by omega)]
        refine r_irem C d_Md_tick_296 (by omega) (by omega) ?_
        refine r_if_ne (tgt := 320) C d_Md_tick_297 (by decide) (ir_mk (by have := Int.emod_nonneg (q 4 0) (show q 5 0 ≠ 0 by omega); omega) (by have := Int.emod_lt_of_pos (q 4 0) (show 0 < q 5 0 by omega); omega)) (fun c297 => ?_) (fun c297 => ?_)
        · exact R d_Md_tick_320 (congrArg (sm S0 2) (hfin (by
                  unfold mcF
                  first
                    | (rw [if_neg (by omega), show i = 0 by omega, hv1_0])
                    | (by_cases z : q 4 0 % q 5 0 = 0
                       · rw [if_pos z, show i = (q 1 0).toNat by omega]
                       · rw [if_neg z, show i = 0 by omega, hv1_0]))))
        · refine r_aload_n C d_Md_tick_300 rfl ?_
          refine g_Md_used C lk_Md_27 d_Md_tick_301 ?_
          refine r_iload_n C d_Md_tick_304 rfl ?_
          refine r_aload_n C d_Md_tick_305 rfl ?_
          refine g_Md_used C lk_Md_27 d_Md_tick_306 ?_
          refine r_iload_n C d_Md_tick_309 rfl ?_
          
          refine x_Md_used C _ rfl (by omega) d_Md_tick_310 ?_
          refine r_iconst C d_Md_tick_311 ?_
          rw [hv1_ne (by omega)]
          refine r_idiv2 C d_Md_tick_312  ?_
          refine st_Md_used C _ rfl (by omega) d_Md_tick_313 ?_
          rw [hv1_s]
          refine r_iinc_1 C d_Md_tick_314 ?_
          refine r_goto (tgt := 280) C d_Md_tick_317 (by decide) ?_
          exact ih (i + 1) _ _ hBq h5 hfin (by omega) (Or.inr (by omega)) (by omega)
  have hlB : ∀ (q : TT) (k i : Nat) (X Y : Option Value), (∀ i, i ≤ (q 2 0).toNat → Bd (mrF q i)) → (∀ X Y : Option Value, g (sm S0 2 (mrF q (q 2 0).toNat)) 268 [some (rf E 1), some (iv ((q 2 0).toNat : Int)), X, Y] []) → i ≤ (q 2 0).toNat → (q 2 0).toNat - i < k → 0 ≤ q 2 0 ∧ q 2 0 ≤ 30 → g (sm S0 2 (mrF q i)) 152 [some (rf E 1), some (iv (i : Int)), X, Y] [] := by
    intro q k
    induction k with
    | zero => intro i X Y hBq hcont h1 h2; omega
    | succ k ih =>
      intro i X Y hBq hcont h1 h2 h3
      have hT := mrF_s q i
      have hN : mrF q i 2 0 = q 2 0 := mrF_ne (by omega) i
      have hBi := hBq i h1
      obtain ⟨s, hs9⟩ : ∃ s, s = mrF q i := ⟨_, rfl⟩
      rw [← hs9] at hBi hT hN ⊢
      have b17 := bd17 hBi i
      have b35 := bd35 hBi i
      have b36 := bd36 hBi i
      have b21 := bd21 hBi i
      have b27 := bd27 hBi i
      refine r_iload_n C d_Md_tick_152 rfl ?_
      refine r_aload_n C d_Md_tick_153 rfl ?_
      refine g_Md_jobs C lk_Md_124 d_Md_tick_154 ?_
      rw [hN]
      refine r_icmp_ge (tgt := 268) C d_Md_tick_157 (by decide) (by first | assumption | exact bd_ir (by assumption) rfl | exact b2i_ir _ | exact pb_ir _ | exact ir_mk (by omega) (by omega)) (by first | assumption | exact bd_ir (by assumption) rfl | exact b2i_ir _ | exact pb_ir _ | exact ir_mk (by omega) (by omega)) (fun c157 => ?_) (fun c157 => ?_)
      · rw [hs9, show i = (q 2 0).toNat by omega]
        exact hcont _ _
      · refine r_aload_n C d_Md_tick_160 rfl ?_
        refine g_Md_state C lk_Md_51 d_Md_tick_161 ?_
        refine r_iload_n C d_Md_tick_164 rfl ?_
        refine x_Md_state C _ rfl (by omega) d_Md_tick_165 ?_
        refine r_iconst C d_Md_tick_166 ?_
        refine r_icmp_ne (tgt := 262) C d_Md_tick_167 (by decide) (by first | assumption | exact bd_ir (by assumption) rfl | exact b2i_ir _ | exact pb_ir _ | exact ir_mk (by omega) (by omega)) (by first | assumption | exact bd_ir (by assumption) rfl | exact b2i_ir _ | exact pb_ir _ | exact ir_mk (by omega) (by omega)) (fun c167 => ?_) (fun c167 => ?_)
        · refine r_iinc_1 C d_Md_tick_262 ?_
          refine r_goto (tgt := 152) C d_Md_tick_265 (by decide) ?_
          have h := fun X Y => ih (i + 1) X Y hBq hcont (by omega) (by omega) h3
          rw [hT, mrS] at h
          first
            | (rw [if_neg (by omega)] at h; exact h _ _)
            | (rw [if_pos (by omega), if_pos (by omega), if_pos (by omega)] at h; exact h _ _)
            | (rw [if_pos (by omega), if_neg (show ¬ s 38 0 = 0 by omega), if_pos (by omega)] at h; exact h _ _)
            | (rw [if_pos (by omega), if_pos (show s 38 0 = 0 by omega), if_pos (by omega)] at h; exact h _ _)
            | (rw [if_pos (by omega), if_neg (show ¬ s 38 0 = 0 by omega), if_neg (by omega)] at h; exact h _ _)
            | (rw [if_pos (by omega), if_pos (show s 38 0 = 0 by omega), if_neg (by omega)] at h; exact h _ _)
        · refine r_aload_n C d_Md_tick_170 rfl ?_
          refine g_Md_ran C lk_Md_63 d_Md_tick_171 ?_
          refine r_iload_n C d_Md_tick_174 rfl ?_
          refine r_dup2 C d_Md_tick_175 rfl rfl ?_
          refine x_Md_ran C _ rfl (by omega) d_Md_tick_176 ?_
          refine r_iconst C d_Md_tick_177 ?_
          refine r_iadd C d_Md_tick_178 ?_
          refine st_Md_ran C _ rfl (by omega) d_Md_tick_179 ?_
          refine r_aload_n C d_Md_tick_180 rfl ?_
          refine g_Md_used C lk_Md_27 d_Md_tick_181 ?_
          refine r_aload_n C d_Md_tick_184 rfl ?_
          refine g_Md_account C lk_Md_30 d_Md_tick_185 ?_
          refine r_iload_n C d_Md_tick_188 rfl ?_
          refine x_Md_account C _ rfl (by omega) d_Md_tick_189 ?_
          try simp (disch := omega) only [tu_ne, tu_eq]
          refine r_dup2 C d_Md_tick_190 rfl rfl ?_
          refine x_Md_used C (s 17 i).toNat (by omega) (by omega) d_Md_tick_191 ?_
          refine r_aload_n C d_Md_tick_192 rfl ?_
          refine g_Md_wants C lk_Md_33 d_Md_tick_193 ?_
          refine r_iload_n C d_Md_tick_196 rfl ?_
          refine x_Md_wants C _ rfl (by omega) d_Md_tick_197 ?_
          refine r_iadd C d_Md_tick_198 ?_
          try simp (disch := omega) only [tu_ne, tu_eq]
          refine st_Md_used C (s 17 i).toNat (by omega) (by omega) d_Md_tick_199 ?_
          rw [← mr1]
          refine r_aload_n C d_Md_tick_200 rfl ?_
          refine g_Md_ran C lk_Md_63 d_Md_tick_201 ?_
          refine r_iload_n C d_Md_tick_204 rfl ?_
          refine x_Md_ran C _ rfl (by omega) d_Md_tick_205 ?_
          rw [show mr1 s i 35 i = s 35 i + 1 by unfold mr1; rw [tu_ne (by omega), tu_eq]]
          refine r_aload_n C d_Md_tick_206 rfl ?_
          refine g_Md_isForeseen C lk_Md_190 d_Md_tick_207 ?_
          rw [mr1_ne (by omega)]
          refine r_if_eq (tgt := 222) C d_Md_tick_210 (by decide) (bd_ir hBi rfl) (fun c210 => ?_) (fun c210 => ?_)
          · refine r_aload_n C d_Md_tick_222 rfl ?_
            refine g_Md_truly C lk_Md_42 d_Md_tick_223 ?_
            refine r_iload_n C d_Md_tick_226 rfl ?_
            refine x_Md_truly C _ rfl (by omega) d_Md_tick_227 ?_
            refine r_aload_n C d_Md_tick_228 rfl ?_
            refine g_Md_saved C lk_Md_60 d_Md_tick_229 ?_
            refine r_iload_n C d_Md_tick_232 rfl ?_
            refine x_Md_saved C _ rfl (by omega) d_Md_tick_233 ?_
            refine r_isub C d_Md_tick_234 ?_
            try simp (disch := omega) only [mr1_ne]
            refine r_icmp_ne (tgt := 262) C d_Md_tick_235 (by decide) (by first | assumption | exact bd_ir (by assumption) rfl | exact b2i_ir _ | exact pb_ir _ | exact ir_mk (by omega) (by omega)) (by first | assumption | exact bd_ir (by assumption) rfl | exact b2i_ir _ | exact pb_ir _ | exact ir_mk (by omega) (by omega)) (fun c235 => ?_) (fun c235 => ?_)
            · refine r_iinc_1 C d_Md_tick_262 ?_
              refine r_goto (tgt := 152) C d_Md_tick_265 (by decide) ?_
              have h := fun X Y => ih (i + 1) X Y hBq hcont (by omega) (by omega) h3
              rw [hT, mrS] at h
              first
                | (rw [if_neg (by omega)] at h; exact h _ _)
                | (rw [if_pos (by omega), if_pos (by omega), if_pos (by omega)] at h; exact h _ _)
                | (rw [if_pos (by omega), if_neg (show ¬ s 38 0 = 0 by omega), if_pos (by omega)] at h; exact h _ _)
                | (rw [if_pos (by omega), if_pos (show s 38 0 = 0 by omega), if_pos (by omega)] at h; exact h _ _)
                | (rw [if_pos (by omega), if_neg (show ¬ s 38 0 = 0 by omega), if_neg (by omega)] at h; exact h _ _)
                | (rw [if_pos (by omega), if_pos (show s 38 0 = 0 by omega), if_neg (by omega)] at h; exact h _ _)
            · refine r_aload_n C d_Md_tick_238 rfl ?_
              refine g_Md_state C lk_Md_51 d_Md_tick_239 ?_
              refine r_iload_n C d_Md_tick_242 rfl ?_
              refine r_iconst C d_Md_tick_243 ?_
              refine st_Md_state C _ rfl (by omega) d_Md_tick_244 ?_
              refine r_aload_n C d_Md_tick_245 rfl ?_
              refine g_Md_ended C lk_Md_57 d_Md_tick_246 ?_
              refine r_iload_n C d_Md_tick_249 rfl ?_
              refine r_aload_n C d_Md_tick_250 rfl ?_
              refine g_Md_time C lk_Md_148 d_Md_tick_251 ?_
              refine r_iconst C d_Md_tick_254 ?_
              refine r_iadd C d_Md_tick_255 ?_
              try simp (disch := omega) only [tu_ne, tu_eq, mr1_ne]
              refine st_Md_ended C _ rfl (by omega) d_Md_tick_256 ?_
              refine r_aload_n C d_Md_tick_257 rfl ?_
              refine r_iload_n C d_Md_tick_258 rfl ?_
              refine r_cV1v C (k_Md_leave (j := i) (by omega)) (by decide) (by decide) ml_Md_131 mn_Md_leave ms_Md_leave mc_Md_leave mi_Md_leave md_Md_leave (by decide) zMd rfl rfl (Nat.le_of_ble_eq_true rfl) d_Md_tick_259 ?_
              refine r_iinc_1 C d_Md_tick_262 ?_
              refine r_goto (tgt := 152) C d_Md_tick_265 (by decide) ?_
              have h := fun X Y => ih (i + 1) X Y hBq hcont (by omega) (by omega) h3
              rw [hT, mrS] at h
              first
                | (rw [if_neg (by omega)] at h; exact h _ _)
                | (rw [if_pos (by omega), if_pos (by omega), if_pos (by omega)] at h; exact h _ _)
                | (rw [if_pos (by omega), if_neg (show ¬ s 38 0 = 0 by omega), if_pos (by omega)] at h; exact h _ _)
                | (rw [if_pos (by omega), if_pos (show s 38 0 = 0 by omega), if_pos (by omega)] at h; exact h _ _)
                | (rw [if_pos (by omega), if_neg (show ¬ s 38 0 = 0 by omega), if_neg (by omega)] at h; exact h _ _)
                | (rw [if_pos (by omega), if_pos (show s 38 0 = 0 by omega), if_neg (by omega)] at h; exact h _ _)
          · refine r_aload_n C d_Md_tick_213 rfl ?_
            refine g_Md_leftAt C lk_Md_66 d_Md_tick_214 ?_
            refine r_iload_n C d_Md_tick_217 rfl ?_
            refine x_Md_leftAt C _ rfl (by omega) d_Md_tick_218 ?_
            try rw [mr1_ne (by omega)]
            refine r_goto (tgt := 235) C d_Md_tick_219 (by decide) ?_
            try simp (disch := omega) only [mr1_ne]
            refine r_icmp_ne (tgt := 262) C d_Md_tick_235 (by decide) (by first | assumption | exact bd_ir (by assumption) rfl | exact b2i_ir _ | exact pb_ir _ | exact ir_mk (by omega) (by omega)) (by first | assumption | exact bd_ir (by assumption) rfl | exact b2i_ir _ | exact pb_ir _ | exact ir_mk (by omega) (by omega)) (fun c235 => ?_) (fun c235 => ?_)
            · refine r_iinc_1 C d_Md_tick_262 ?_
              refine r_goto (tgt := 152) C d_Md_tick_265 (by decide) ?_
              have h := fun X Y => ih (i + 1) X Y hBq hcont (by omega) (by omega) h3
              rw [hT, mrS] at h
              first
                | (rw [if_neg (by omega)] at h; exact h _ _)
                | (rw [if_pos (by omega), if_pos (by omega), if_pos (by omega)] at h; exact h _ _)
                | (rw [if_pos (by omega), if_neg (show ¬ s 38 0 = 0 by omega), if_pos (by omega)] at h; exact h _ _)
                | (rw [if_pos (by omega), if_pos (show s 38 0 = 0 by omega), if_pos (by omega)] at h; exact h _ _)
                | (rw [if_pos (by omega), if_neg (show ¬ s 38 0 = 0 by omega), if_neg (by omega)] at h; exact h _ _)
                | (rw [if_pos (by omega), if_pos (show s 38 0 = 0 by omega), if_neg (by omega)] at h; exact h _ _)
            · refine r_aload_n C d_Md_tick_238 rfl ?_
              refine g_Md_state C lk_Md_51 d_Md_tick_239 ?_
              refine r_iload_n C d_Md_tick_242 rfl ?_
              refine r_iconst C d_Md_tick_243 ?_
              refine st_Md_state C _ rfl (by omega) d_Md_tick_244 ?_
              refine r_aload_n C d_Md_tick_245 rfl ?_
              refine g_Md_ended C lk_Md_57 d_Md_tick_246 ?_
              refine r_iload_n C d_Md_tick_249 rfl ?_
              refine r_aload_n C d_Md_tick_250 rfl ?_
              refine g_Md_time C lk_Md_148 d_Md_tick_251 ?_
              refine r_iconst C d_Md_tick_254 ?_
              refine r_iadd C d_Md_tick_255 ?_
              try simp (disch := omega) only [tu_ne, tu_eq, mr1_ne]
              refine st_Md_ended C _ rfl (by omega) d_Md_tick_256 ?_
              refine r_aload_n C d_Md_tick_257 rfl ?_
              refine r_iload_n C d_Md_tick_258 rfl ?_
              refine r_cV1v C (k_Md_leave (j := i) (by omega)) (by decide) (by decide) ml_Md_131 mn_Md_leave ms_Md_leave mc_Md_leave mi_Md_leave md_Md_leave (by decide) zMd rfl rfl (Nat.le_of_ble_eq_true rfl) d_Md_tick_259 ?_
              refine r_iinc_1 C d_Md_tick_262 ?_
              refine r_goto (tgt := 152) C d_Md_tick_265 (by decide) ?_
              have h := fun X Y => ih (i + 1) X Y hBq hcont (by omega) (by omega) h3
              rw [hT, mrS] at h
              first
                | (rw [if_neg (by omega)] at h; exact h _ _)
                | (rw [if_pos (by omega), if_pos (by omega), if_pos (by omega)] at h; exact h _ _)
                | (rw [if_pos (by omega), if_neg (show ¬ s 38 0 = 0 by omega), if_pos (by omega)] at h; exact h _ _)
                | (rw [if_pos (by omega), if_pos (show s 38 0 = 0 by omega), if_pos (by omega)] at h; exact h _ _)
                | (rw [if_pos (by omega), if_neg (show ¬ s 38 0 = 0 by omega), if_neg (by omega)] at h; exact h _ _)
                | (rw [if_pos (by omega), if_pos (show s 38 0 = 0 by omega), if_neg (by omega)] at h; exact h _ _)
  have hs : ∀ (s : TT) (j : Nat) (i : Int), Bd s → j < 30 → (∀ v : Int, v = mkL s j 202 (s 4 0) → ∀ X : Option Value, g (sm S0 2 s) 123 [some (rf E 1), some (iv i), some (iv (j : Int)), some (iv v)] []) → ∀ (k : Nat) (x : Int), x + k = s 4 0 + 202 → s 4 0 ≤ x → x ≤ s 4 0 + 201 → mkL s j k x = mkL s j 202 (s 4 0) → g (sm S0 2 s) 95 [some (rf E 1), some (iv i), some (iv (j : Int)), some (iv x)] [] := by
    intro s j i hBs hj hcont k
    have b4 := bd4 hBs 0
    induction k with
    | zero => intro x h1 h2 h3; omega
    | succ k ih =>
      intro x h1 h2 h3 h4
      rw [mkL_s] at h4
      refine r_iload_n C d_Md_tick_95 rfl ?_
      refine r_aload_n C d_Md_tick_96 rfl ?_
      refine g_Md_time C lk_Md_148 d_Md_tick_97 ?_
      refine r_sipush C d_Md_tick_100 (by decide) ?_
      refine r_iadd C d_Md_tick_103 ?_
      refine r_icmp_gt (tgt := 123) C d_Md_tick_104 (by decide) (by first | assumption | exact bd_ir (by assumption) rfl | exact b2i_ir _ | exact pb_ir _ | exact ir_mk (by omega) (by omega)) (by first | assumption | exact bd_ir (by assumption) rfl | exact b2i_ir _ | exact pb_ir _ | exact ir_mk (by omega) (by omega)) (fun c104 => ?_) (fun c104 => ?_)
      · refine hcont x ?_ none
        first
          | (rw [pif_f (fun z => by have := z.1; omega)] at h4; exact h4)
          | (rw [pif_f (fun z => c114 (pb_f z.2))] at h4; exact h4)
      · refine r_aload_n C d_Md_tick_107 rfl ?_
        refine r_iload_n C d_Md_tick_108 rfl ?_
        refine r_iload_n C d_Md_tick_109 rfl ?_
        refine r_iconst C d_Md_tick_110 ?_
        refine r_cV3r C (k_Md_fits hBs hj (s := x) (w := 0) (wk := False) (pb_f (fun z => z)).symm (by omega) (fun z => z.elim)) (by decide) (by decide) ml_Md_183 mn_Md_fits ms_Md_fits mc_Md_fits mi_Md_fits md_Md_fits (by decide) zMd rfl rfl (Nat.le_of_ble_eq_true rfl) d_Md_tick_111 ?_
        refine r_if_ne (tgt := 123) C d_Md_tick_114 (by decide) (by first | assumption | exact bd_ir (by assumption) rfl | exact b2i_ir _ | exact pb_ir _ | exact ir_mk (by omega) (by omega)) (fun c114 => ?_) (fun c114 => ?_)
        · refine hcont x ?_ none
          first
            | (rw [pif_f (fun z => by have := z.1; omega)] at h4; exact h4)
            | (rw [pif_f (fun z => c114 (pb_f z.2))] at h4; exact h4)
        · refine r_iinc_3 C d_Md_tick_117 ?_
          refine r_goto (tgt := 95) C d_Md_tick_120 (by decide) ?_
          rw [pif_t ⟨by omega, pb_0.mp (Classical.byContradiction (fun z => c114 z))⟩] at h4
          exact ih (x + 1) (by omega) (by omega) (by omega) h4
  have hlA : ∀ (k i : Nat) (X Y : Option Value), i ≤ (z 10 0).toNat → (z 10 0).toNat - i < k → g (sm S0 2 (mtF z i)) 20 [some (rf E 1), some (iv (i : Int)), X, Y] [] := by
    intro k
    induction k with
    | zero => intro i X Y h1 h2; omega
    | succ k ih =>
      intro i X Y h1 h2
      obtain ⟨hBi, hq, hbg⟩ := hI i h1
      obtain ⟨x, hx⟩ : ∃ x : Nat, mtF z i 11 i = (x : Int) := ⟨(mtF z i 11 i).toNat, by omega⟩
      have hT : mtF z (i + 1) = mtS (mtF z i) (x : Int) := by rw [mtF_s, hx]
      have hN : mtF z i 10 0 = z 10 0 := mtF_ne (by omega) i
      rw [hx] at hq hbg
      rw [show ((x : Nat) : Int).toNat = x from rfl] at hbg
      obtain ⟨s, hs9⟩ : ∃ s, s = mtF z i := ⟨_, rfl⟩
      rw [← hs9] at hBi hbg hT hx hN ⊢
      have b4 := bd4 hBi 0
      have b8 := bd8 hBi 0
      have b20 := bd20 hBi x
      have b27 := bd27 hBi x
      refine r_iload_n C d_Md_tick_20 rfl ?_
      refine r_aload_n C d_Md_tick_21 rfl ?_
      refine g_Md_queued C lk_Md_171 d_Md_tick_22 ?_
      rw [hN]
      refine r_icmp_ge (tgt := 150) C d_Md_tick_25 (by decide) (by first | assumption | exact bd_ir (by assumption) rfl | exact b2i_ir _ | exact pb_ir _ | exact ir_mk (by omega) (by omega)) (by first | assumption | exact bd_ir (by assumption) rfl | exact b2i_ir _ | exact pb_ir _ | exact ir_mk (by omega) (by omega)) (fun c25 => ?_) (fun c25 => ?_)
      · rw [hs9, show i = (z 10 0).toNat by omega, ← hz3]
        refine r_iconst C d_Md_tick_150 ?_
        refine r_istore_1 C d_Md_tick_151 ?_
        refine hlB (tk3 t) ((tk3 t 2 0).toNat + 1) 0 _ _ h5 (fun X2 Y2 => ?_) (by omega) (by omega) (bd2 (h5 0 (by omega)) 0)
        refine r_aload_n C d_Md_tick_268 rfl ?_
        refine r_dup C d_Md_tick_269 rfl ?_
        refine g_Md_time C lk_Md_148 d_Md_tick_270 ?_
        refine r_iconst C d_Md_tick_273 ?_
        refine r_iadd C d_Md_tick_274 ?_
        refine p_Md_time C lk_Md_148 d_Md_tick_275 ?_
        rw [show tu (mrF (tk3 t) (tk3 t 2 0).toNat) 4 0 (mrF (tk3 t) (tk3 t 2 0).toNat 4 0 + 1) = tk5 t from rfl]
        refine r_iconst C d_Md_tick_278 ?_
        refine r_istore_1 C d_Md_tick_279 ?_
        have h := hlC (tk5 t) ((tk5 t 1 0).toNat + 1) 0 X2 Y2 h6 h7 (fun hT => hT) (by omega) (Or.inl rfl) (by omega)
        rw [hv1_0] at h
        exact h
      · refine r_aload_n C d_Md_tick_28 rfl ?_
        refine g_Md_queue C lk_Md_93 d_Md_tick_29 ?_
        refine r_iload_n C d_Md_tick_32 rfl ?_
        refine x_Md_queue C _ rfl (by omega) d_Md_tick_33 ?_
        rw [hx]
        refine r_istore_2 C d_Md_tick_34 ?_
        refine r_aload_n C d_Md_tick_35 rfl ?_
        refine r_iload_n C d_Md_tick_36 rfl ?_
        refine r_aload_n C d_Md_tick_37 rfl ?_
        refine g_Md_time C lk_Md_148 d_Md_tick_38 ?_
        refine r_aload_n C d_Md_tick_41 rfl ?_
        refine g_Md_blocked C lk_Md_81 d_Md_tick_42 ?_
        refine r_iconst C d_Md_tick_45 ?_
        refine r_icmp_eq (tgt := 53) C d_Md_tick_46 (by decide) (by first | assumption | exact bd_ir (by assumption) rfl | exact b2i_ir _ | exact pb_ir _ | exact ir_mk (by omega) (by omega)) (by first | assumption | exact bd_ir (by assumption) rfl | exact b2i_ir _ | exact pb_ir _ | exact ir_mk (by omega) (by omega)) (fun c46 => ?_) (fun c46 => ?_)
        · refine r_iconst C d_Md_tick_53 ?_
          refine r_cV3r C (k_Md_fits hBi (j := x) (by omega) (s := s 4 0) (wk := s 8 0 ≠ -1) (by first | exact (pb_t c46).symm | exact (pb_f (fun z => z c46)).symm) (by omega) (fun z => by omega)) (by decide) (by decide) ml_Md_183 mn_Md_fits ms_Md_fits mc_Md_fits mi_Md_fits md_Md_fits (by decide) zMd rfl rfl (Nat.le_of_ble_eq_true rfl) d_Md_tick_54 ?_
          refine r_if_eq (tgt := 68) C d_Md_tick_57 (by decide) (by first | assumption | exact bd_ir (by assumption) rfl | exact b2i_ir _ | exact pb_ir _ | exact ir_mk (by omega) (by omega)) (fun c57 => ?_) (fun c57 => ?_)
          · refine r_aload_n C d_Md_tick_68 rfl ?_
            refine g_Md_blocked C lk_Md_81 d_Md_tick_69 ?_
            refine r_iconst C d_Md_tick_72 ?_
            refine r_icmp_ne (tgt := 144) C d_Md_tick_73 (by decide) (by first | assumption | exact bd_ir (by assumption) rfl | exact b2i_ir _ | exact pb_ir _ | exact ir_mk (by omega) (by omega)) (by first | assumption | exact bd_ir (by assumption) rfl | exact b2i_ir _ | exact pb_ir _ | exact ir_mk (by omega) (by omega)) (fun c73 => ?_) (fun c73 => ?_)
            · refine r_iinc_1 C d_Md_tick_144 ?_
              refine r_goto (tgt := 20) C d_Md_tick_147 (by decide) ?_
              have h := fun X Y => ih (i + 1) X Y (by omega) (by omega)
              rw [hT, mtS, show ((x : Nat) : Int).toNat = x from rfl] at h
              first
                | (rw [pif_t (Classical.byContradiction (fun z => c57 (pb_f z)))] at h; exact h _ _)
                | (rw [pif_f (pb_0.mp c57), pif_f (by omega)] at h; exact h _ _)
            · refine r_aload_n C d_Md_tick_76 rfl ?_
              refine r_iload_n C d_Md_tick_77 rfl ?_
              refine p_Md_blocked C lk_Md_81 d_Md_tick_78 ?_
              refine r_aload_n C d_Md_tick_81 rfl ?_
              refine r_aload_n C d_Md_tick_82 rfl ?_
              refine r_iload_n C d_Md_tick_83 rfl ?_
              refine r_cV1r C (k_Md_leftOf (j := x) (by omega)) (by decide) (by decide) ml_Md_159 mn_Md_leftOf ms_Md_leftOf mc_Md_leftOf mi_Md_leftOf md_Md_leftOf (by decide) zMd rfl rfl (Nat.le_of_ble_eq_true rfl) d_Md_tick_84 ?_
              try simp (disch := omega) only [tu_ne, tu_eq]
              refine p_Md_keptLeft C lk_Md_162 d_Md_tick_87 ?_
              refine r_aload_n C d_Md_tick_90 rfl ?_
              refine g_Md_time C lk_Md_148 d_Md_tick_91 ?_
              refine r_istore_3 C d_Md_tick_94 ?_
              have hlf := (hbg (by omega)).1
              have hB1 : Bd (tu (tu s 8 0 (x : Int)) 37 0 (s 20 x - s 27 x)) := bd_tu (bd_tu hBi (fun _ => by show (-1 : Int) ≤ x ∧ (x : Int) ≤ 29; omega)) (fun _ => by show (0 : Int) ≤ s 20 x - s 27 x ∧ s 20 x - s 27 x ≤ 50; omega)
              try simp (disch := omega) only [tu_ne, tu_eq]
              refine hs (tu (tu s 8 0 (x : Int)) 37 0 (s 20 x - s 27 x)) x _ hB1 (by omega) (fun v hv Z => ?_) 202 (s 4 0) (by rw [tu_ne (by omega), tu_ne (by omega)]; rfl) (by rw [tu_ne (by omega), tu_ne (by omega)]; omega) (by rw [tu_ne (by omega), tu_ne (by omega)]; omega) (by rw [tu_ne (by omega), tu_ne (by omega)])
              rw [tu_ne (by omega), tu_ne (by omega)] at hv
              have hvb := mkL_bd (tu (tu s 8 0 (x : Int)) 37 0 (s 20 x - s 27 x)) x 202 (s 4 0) (by rw [tu_ne (by omega), tu_ne (by omega)]; omega) (by rw [tu_ne (by omega), tu_ne (by omega)]; omega)
              rw [← hv, tu_ne (by omega), tu_ne (by omega)] at hvb
              refine r_aload_n C d_Md_tick_123 rfl ?_
              refine r_iload_n C d_Md_tick_124 rfl ?_
              refine r_aload_n C d_Md_tick_125 rfl ?_
              refine g_Md_time C lk_Md_148 d_Md_tick_126 ?_
              refine r_sipush C d_Md_tick_129 (by decide) ?_
              refine r_iadd C d_Md_tick_132 ?_
              try simp (disch := omega) only [tu_ne, tu_eq]
              refine r_icmp_gt (tgt := 140) C d_Md_tick_133 (by decide) (by first | assumption | exact bd_ir (by assumption) rfl | exact b2i_ir _ | exact pb_ir _ | exact ir_mk (by omega) (by omega)) (by first | assumption | exact bd_ir (by assumption) rfl | exact b2i_ir _ | exact pb_ir _ | exact ir_mk (by omega) (by omega)) (fun c133 => ?_) (fun c133 => ?_)
              · refine r_iconst C d_Md_tick_140 ?_
                refine p_Md_kept C lk_Md_84 d_Md_tick_141 ?_
                have h := fun X Y => ih (i + 1) X Y (by omega) (by omega)
                rw [hT, mtS, show ((x : Nat) : Int).toNat = x from rfl, pif_f (pb_0.mp c57), pif_t (by omega), mtB, show ((x : Nat) : Int).toNat = x from rfl, mkF] at h
                rw [show tu (tu s 8 0 (x : Int)) 37 0 (s 20 x - s 27 x) 4 0 = s 4 0 by rw [tu_ne (by omega), tu_ne (by omega)], ← hv] at h
                refine r_iinc_1 C d_Md_tick_144 ?_
                refine r_goto (tgt := 20) C d_Md_tick_147 (by decide) ?_
                first
                  | (rw [if_pos (by omega)] at h; exact h _ _)
                  | (rw [if_neg (by omega)] at h; exact h _ _)
              · refine r_iload_n C d_Md_tick_136 rfl ?_
                refine r_goto (tgt := 141) C d_Md_tick_137 (by decide) ?_
                refine p_Md_kept C lk_Md_84 d_Md_tick_141 ?_
                have h := fun X Y => ih (i + 1) X Y (by omega) (by omega)
                rw [hT, mtS, show ((x : Nat) : Int).toNat = x from rfl, pif_f (pb_0.mp c57), pif_t (by omega), mtB, show ((x : Nat) : Int).toNat = x from rfl, mkF] at h
                rw [show tu (tu s 8 0 (x : Int)) 37 0 (s 20 x - s 27 x) 4 0 = s 4 0 by rw [tu_ne (by omega), tu_ne (by omega)], ← hv] at h
                refine r_iinc_1 C d_Md_tick_144 ?_
                refine r_goto (tgt := 20) C d_Md_tick_147 (by decide) ?_
                first
                  | (rw [if_pos (by omega)] at h; exact h _ _)
                  | (rw [if_neg (by omega)] at h; exact h _ _)
          · refine r_aload_n C d_Md_tick_60 rfl ?_
            refine r_iload_n C d_Md_tick_61 rfl ?_
            refine r_cV1v C (k_Md_begin hBi (j := x) (by omega) ((hbg (by omega)).2 (Classical.byContradiction (fun z => c57 (pb_f z)))).1 ((hbg (by omega)).2 (Classical.byContradiction (fun z => c57 (pb_f z)))).2) (by decide) (by decide) ml_Md_187 mn_Md_begin ms_Md_begin mc_Md_begin mi_Md_begin md_Md_begin (by decide) zMd rfl rfl (Nat.le_of_ble_eq_true rfl) d_Md_tick_62 ?_
            refine r_goto (tgt := 144) C d_Md_tick_65 (by decide) ?_
            refine r_iinc_1 C d_Md_tick_144 ?_
            refine r_goto (tgt := 20) C d_Md_tick_147 (by decide) ?_
            have h := fun X Y => ih (i + 1) X Y (by omega) (by omega)
            rw [hT, mtS, show ((x : Nat) : Int).toNat = x from rfl] at h
            first
              | (rw [pif_t (Classical.byContradiction (fun z => c57 (pb_f z)))] at h; exact h _ _)
              | (rw [pif_f (pb_0.mp c57), pif_f (by omega)] at h; exact h _ _)
        · refine r_iconst C d_Md_tick_49 ?_
          refine r_goto (tgt := 54) C d_Md_tick_50 (by decide) ?_
          refine r_cV3r C (k_Md_fits hBi (j := x) (by omega) (s := s 4 0) (wk := s 8 0 ≠ -1) (by first | exact (pb_t c46).symm | exact (pb_f (fun z => z c46)).symm) (by omega) (fun z => by omega)) (by decide) (by decide) ml_Md_183 mn_Md_fits ms_Md_fits mc_Md_fits mi_Md_fits md_Md_fits (by decide) zMd rfl rfl (Nat.le_of_ble_eq_true rfl) d_Md_tick_54 ?_
          refine r_if_eq (tgt := 68) C d_Md_tick_57 (by decide) (by first | assumption | exact bd_ir (by assumption) rfl | exact b2i_ir _ | exact pb_ir _ | exact ir_mk (by omega) (by omega)) (fun c57 => ?_) (fun c57 => ?_)
          · refine r_aload_n C d_Md_tick_68 rfl ?_
            refine g_Md_blocked C lk_Md_81 d_Md_tick_69 ?_
            refine r_iconst C d_Md_tick_72 ?_
            refine r_icmp_ne (tgt := 144) C d_Md_tick_73 (by decide) (by first | assumption | exact bd_ir (by assumption) rfl | exact b2i_ir _ | exact pb_ir _ | exact ir_mk (by omega) (by omega)) (by first | assumption | exact bd_ir (by assumption) rfl | exact b2i_ir _ | exact pb_ir _ | exact ir_mk (by omega) (by omega)) (fun c73 => ?_) (fun c73 => ?_)
            · refine r_iinc_1 C d_Md_tick_144 ?_
              refine r_goto (tgt := 20) C d_Md_tick_147 (by decide) ?_
              have h := fun X Y => ih (i + 1) X Y (by omega) (by omega)
              rw [hT, mtS, show ((x : Nat) : Int).toNat = x from rfl] at h
              first
                | (rw [pif_t (Classical.byContradiction (fun z => c57 (pb_f z)))] at h; exact h _ _)
                | (rw [pif_f (pb_0.mp c57), pif_f (by omega)] at h; exact h _ _)
            · refine r_aload_n C d_Md_tick_76 rfl ?_
              refine r_iload_n C d_Md_tick_77 rfl ?_
              refine p_Md_blocked C lk_Md_81 d_Md_tick_78 ?_
              refine r_aload_n C d_Md_tick_81 rfl ?_
              refine r_aload_n C d_Md_tick_82 rfl ?_
              refine r_iload_n C d_Md_tick_83 rfl ?_
              refine r_cV1r C (k_Md_leftOf (j := x) (by omega)) (by decide) (by decide) ml_Md_159 mn_Md_leftOf ms_Md_leftOf mc_Md_leftOf mi_Md_leftOf md_Md_leftOf (by decide) zMd rfl rfl (Nat.le_of_ble_eq_true rfl) d_Md_tick_84 ?_
              try simp (disch := omega) only [tu_ne, tu_eq]
              refine p_Md_keptLeft C lk_Md_162 d_Md_tick_87 ?_
              refine r_aload_n C d_Md_tick_90 rfl ?_
              refine g_Md_time C lk_Md_148 d_Md_tick_91 ?_
              refine r_istore_3 C d_Md_tick_94 ?_
              have hlf := (hbg (by omega)).1
              have hB1 : Bd (tu (tu s 8 0 (x : Int)) 37 0 (s 20 x - s 27 x)) := bd_tu (bd_tu hBi (fun _ => by show (-1 : Int) ≤ x ∧ (x : Int) ≤ 29; omega)) (fun _ => by show (0 : Int) ≤ s 20 x - s 27 x ∧ s 20 x - s 27 x ≤ 50; omega)
              try simp (disch := omega) only [tu_ne, tu_eq]
              refine hs (tu (tu s 8 0 (x : Int)) 37 0 (s 20 x - s 27 x)) x _ hB1 (by omega) (fun v hv Z => ?_) 202 (s 4 0) (by rw [tu_ne (by omega), tu_ne (by omega)]; rfl) (by rw [tu_ne (by omega), tu_ne (by omega)]; omega) (by rw [tu_ne (by omega), tu_ne (by omega)]; omega) (by rw [tu_ne (by omega), tu_ne (by omega)])
              rw [tu_ne (by omega), tu_ne (by omega)] at hv
              have hvb := mkL_bd (tu (tu s 8 0 (x : Int)) 37 0 (s 20 x - s 27 x)) x 202 (s 4 0) (by rw [tu_ne (by omega), tu_ne (by omega)]; omega) (by rw [tu_ne (by omega), tu_ne (by omega)]; omega)
              rw [← hv, tu_ne (by omega), tu_ne (by omega)] at hvb
              refine r_aload_n C d_Md_tick_123 rfl ?_
              refine r_iload_n C d_Md_tick_124 rfl ?_
              refine r_aload_n C d_Md_tick_125 rfl ?_
              refine g_Md_time C lk_Md_148 d_Md_tick_126 ?_
              refine r_sipush C d_Md_tick_129 (by decide) ?_
              refine r_iadd C d_Md_tick_132 ?_
              try simp (disch := omega) only [tu_ne, tu_eq]
              refine r_icmp_gt (tgt := 140) C d_Md_tick_133 (by decide) (by first | assumption | exact bd_ir (by assumption) rfl | exact b2i_ir _ | exact pb_ir _ | exact ir_mk (by omega) (by omega)) (by first | assumption | exact bd_ir (by assumption) rfl | exact b2i_ir _ | exact pb_ir _ | exact ir_mk (by omega) (by omega)) (fun c133 => ?_) (fun c133 => ?_)
              · refine r_iconst C d_Md_tick_140 ?_
                refine p_Md_kept C lk_Md_84 d_Md_tick_141 ?_
                have h := fun X Y => ih (i + 1) X Y (by omega) (by omega)
                rw [hT, mtS, show ((x : Nat) : Int).toNat = x from rfl, pif_f (pb_0.mp c57), pif_t (by omega), mtB, show ((x : Nat) : Int).toNat = x from rfl, mkF] at h
                rw [show tu (tu s 8 0 (x : Int)) 37 0 (s 20 x - s 27 x) 4 0 = s 4 0 by rw [tu_ne (by omega), tu_ne (by omega)], ← hv] at h
                refine r_iinc_1 C d_Md_tick_144 ?_
                refine r_goto (tgt := 20) C d_Md_tick_147 (by decide) ?_
                first
                  | (rw [if_pos (by omega)] at h; exact h _ _)
                  | (rw [if_neg (by omega)] at h; exact h _ _)
              · refine r_iload_n C d_Md_tick_136 rfl ?_
                refine r_goto (tgt := 141) C d_Md_tick_137 (by decide) ?_
                refine p_Md_kept C lk_Md_84 d_Md_tick_141 ?_
                have h := fun X Y => ih (i + 1) X Y (by omega) (by omega)
                rw [hT, mtS, show ((x : Nat) : Int).toNat = x from rfl, pif_f (pb_0.mp c57), pif_t (by omega), mtB, show ((x : Nat) : Int).toNat = x from rfl, mkF] at h
                rw [show tu (tu s 8 0 (x : Int)) 37 0 (s 20 x - s 27 x) 4 0 = s 4 0 by rw [tu_ne (by omega), tu_ne (by omega)], ← hv] at h
                refine r_iinc_1 C d_Md_tick_144 ?_
                refine r_goto (tgt := 20) C d_Md_tick_147 (by decide) ?_
                first
                  | (rw [if_pos (by omega)] at h; exact h _ _)
                  | (rw [if_neg (by omega)] at h; exact h _ _)
          · refine r_aload_n C d_Md_tick_60 rfl ?_
            refine r_iload_n C d_Md_tick_61 rfl ?_
            refine r_cV1v C (k_Md_begin hBi (j := x) (by omega) ((hbg (by omega)).2 (Classical.byContradiction (fun z => c57 (pb_f z)))).1 ((hbg (by omega)).2 (Classical.byContradiction (fun z => c57 (pb_f z)))).2) (by decide) (by decide) ml_Md_187 mn_Md_begin ms_Md_begin mc_Md_begin mi_Md_begin md_Md_begin (by decide) zMd rfl rfl (Nat.le_of_ble_eq_true rfl) d_Md_tick_62 ?_
            refine r_goto (tgt := 144) C d_Md_tick_65 (by decide) ?_
            refine r_iinc_1 C d_Md_tick_144 ?_
            refine r_goto (tgt := 20) C d_Md_tick_147 (by decide) ?_
            have h := fun X Y => ih (i + 1) X Y (by omega) (by omega)
            rw [hT, mtS, show ((x : Nat) : Int).toNat = x from rfl] at h
            first
              | (rw [pif_t (Classical.byContradiction (fun z => c57 (pb_f z)))] at h; exact h _ _)
              | (rw [pif_f (pb_0.mp c57), pif_f (by omega)] at h; exact h _ _)
  refine r_aload_n C d_Md_tick_0 rfl ?_
  refine r_cV0v C (k_Md_findQueue h1) (by decide) (by decide) ml_Md_177 mn_Md_findQueue ms_Md_findQueue mc_Md_findQueue mi_Md_findQueue md_Md_findQueue (by decide) zMd rfl rfl (Nat.le_of_ble_eq_true rfl) d_Md_tick_1 ?_
  refine r_aload_n C d_Md_tick_4 rfl ?_
  refine r_cV0v C (k_Md_findTaken (t := tk1 t) h2.1 h2.2) (by decide) (by decide) ml_Md_180 mn_Md_findTaken ms_Md_findTaken mc_Md_findTaken mi_Md_findTaken md_Md_findTaken (by decide) zMd rfl rfl (Nat.le_of_ble_eq_true rfl) d_Md_tick_5 ?_
  refine r_aload_n C d_Md_tick_8 rfl ?_
  refine r_iconst C d_Md_tick_9 ?_
  refine p_Md_blocked C lk_Md_81 d_Md_tick_10 ?_
  refine r_aload_n C d_Md_tick_13 rfl ?_
  refine r_iconst C d_Md_tick_14 ?_
  refine p_Md_kept C lk_Md_84 d_Md_tick_15 ?_
  refine r_iconst C d_Md_tick_18 ?_
  refine r_istore_1 C d_Md_tick_19 ?_
  rw [show fdF (tk1 t) = z from hz.symm]
  exact hlA ((z 10 0).toNat + 1) 0 none none (by omega) (by omega)
