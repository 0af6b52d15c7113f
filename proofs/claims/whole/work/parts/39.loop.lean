/-! THE LAW'S LOOP -/
/-- what the law does with its script, and its end -/
def Sc (g : WW → Nat → LL → List Value → Prop) (b N : Nat) (xs : Nat → Int32) : Prop :=
  (∀ (S : WW) (pc : Nat) (L : LL) (st : List Value), decode code pc = .ok (.aload_n 0, 1) → L[0]? = some (some (.ref b)) → g S (pc + 1) L (.ref b :: st) → g S pc L st) ∧
  (∀ (S : WW) (pc : Nat) (L : LL) (st : List Value), decode code pc = .ok (.arraylength, 1) → g S (pc + 1) L (iv (N : Int) :: st) → g S pc L (.ref b :: st)) ∧
  (∀ (S : WW) (pc : Nat) (L : LL) (st : List Value) (i : Nat) (x : Int), x = (i : Int) → i < N → decode code pc = .ok (.iaload, 1) → g S (pc + 1) L (iv (xs i).toInt :: st) → g S pc L (iv x :: .ref b :: st)) ∧
  (∀ (S : WW) (pc : Nat) (L : LL), decode code pc = .ok (.ireturn, 1) → g S pc L [iv 1])
theorem r_same {g : WW → Nat → LL → List Value → Prop} {own : String} {cc : ByteArray} {nL h : Nat} {l : Launch} {E : Ew} {S : WW} {pc : Nat} {L : LL} {st : List Value} (C : Cw g own cc nL h l E) {v off : Int} {tgt : Nat} (d : decode cc pc = .ok (.if_icmp .eq off, 3)) (ht : (pc : Int) + off = (tgt : Int)) (kk : g S tgt L st) : g S pc L (iv v :: iv v :: st) := by
  obtain ⟨p, e0, R, s, mi, args, below, meth, c, cells, slots, Q, A, H0, D, ⟨hx, hb, hml, hown, hts⟩, hE, hA, hK, hR, hg⟩ := C
  refine (hg _ _ _ _).mpr fun H locs ls hP hS hL => ?_
  exact lv_icmp_eq hx hb d ht (fun q => (hg _ _ _ _).mp kk H locs ls hP hS hL) (fun q => absurd rfl q)
section LAW
variable {g : WW → Nat → LL → List Value → Prop} {l : Launch} {E : Ew} {b N : Nat} {xs : Nat → Int32}
theorem law_rack (C : Cw g "GreatMachineLaw" code 4 8 l E) (X : Sc g b N xs) {S : WW} (hS : Iv S) {i : Nat} (hi : i + 7 ≤ N) (tail : ∀ S2 : WW, Iv S2 → g S2 726 [some (.ref b), some (rf E 0), some (rf E 1), some (iv (i : Int))] []) : g S 128 [some (.ref b), some (rf E 0), some (rf E 1), some (iv (i : Int))] [] := by
  obtain ⟨sA, sL, sX, sR⟩ := X
  refine r_aload_n C d_La_law_128 rfl ?_
  refine sA _ _ _ _ d_La_law_129 rfl ?_
  refine r_iload_n C d_La_law_130 rfl ?_
  refine r_iconst C d_La_law_131 ?_
  refine r_iadd C d_La_law_132 ?_
  refine sX _ _ _ _ (i + 1) _ (by omega) (by omega) d_La_law_133 ?_
  obtain ⟨v, S1, S2, k1, k2, hS2⟩ := cl_rack (l := l) (E := E) hS (ir_of (xs (i + 1)))
  refine r_cV1r C k1 (by decide) (by decide) ml_La_13 mn_Gm_rack ms_Gm_rack mc_Gm_rack mi_Gm_rack md_Gm_rack (by decide) zGm rfl rfl (Nat.le_of_ble_eq_true rfl) d_La_law_134 ?_
  refine r_aload_n C d_La_law_137 rfl ?_
  refine sA _ _ _ _ d_La_law_138 rfl ?_
  refine r_iload_n C d_La_law_139 rfl ?_
  refine r_iconst C d_La_law_140 ?_
  refine r_iadd C d_La_law_141 ?_
  refine sX _ _ _ _ (i + 1) _ (by omega) (by omega) d_La_law_142 ?_
  refine r_cV1r C k2 (by decide) (by decide) ml_La_17 mn_Md_rack ms_Md_rack mc_Md_rack mi_Md_rack md_Md_rack (by decide) zMd rfl rfl (Nat.le_of_ble_eq_true rfl) d_La_law_143 ?_
  exact r_same C (tgt := 726) d_La_law_146 (by decide) (tail S2 hS2)
theorem law_drain (C : Cw g "GreatMachineLaw" code 4 8 l E) (X : Sc g b N xs) {S : WW} (hS : Iv S) {i : Nat} (hi : i + 7 ≤ N) (tail : ∀ S2 : WW, Iv S2 → g S2 726 [some (.ref b), some (rf E 0), some (rf E 1), some (iv (i : Int))] []) : g S 151 [some (.ref b), some (rf E 0), some (rf E 1), some (iv (i : Int))] [] := by
  obtain ⟨sA, sL, sX, sR⟩ := X
  refine r_aload_n C d_La_law_151 rfl ?_
  refine sA _ _ _ _ d_La_law_152 rfl ?_
  refine r_iload_n C d_La_law_153 rfl ?_
  refine r_iconst C d_La_law_154 ?_
  refine r_iadd C d_La_law_155 ?_
  refine sX _ _ _ _ (i + 1) _ (by omega) (by omega) d_La_law_156 ?_
  refine sA _ _ _ _ d_La_law_157 rfl ?_
  refine r_iload_n C d_La_law_158 rfl ?_
  refine r_iconst C d_La_law_159 ?_
  refine r_iadd C d_La_law_160 ?_
  refine sX _ _ _ _ (i + 2) _ (by omega) (by omega) d_La_law_161 ?_
  refine r_if_eq C (tgt := 169) d_La_law_162 (by decide) (ir_of _) (fun c => ?_) (fun c => ?_)
  · refine r_iconst C d_La_law_169 ?_
    obtain ⟨v, S1, S2, k1, k2, hS2⟩ := cl_drain (l := l) (E := E) hS (ir_of (xs (i + 1))) (b := 0) (by omega)
    refine r_cV2r C k1 (by decide) (by decide) ml_La_18 mn_Gm_drain ms_Gm_drain mc_Gm_drain mi_Gm_drain md_Gm_drain (by decide) zGm rfl rfl (Nat.le_of_ble_eq_true rfl) d_La_law_170 ?_
    refine r_aload_n C d_La_law_173 rfl ?_
    refine sA _ _ _ _ d_La_law_174 rfl ?_
    refine r_iload_n C d_La_law_175 rfl ?_
    refine r_iconst C d_La_law_176 ?_
    refine r_iadd C d_La_law_177 ?_
    refine sX _ _ _ _ (i + 1) _ (by omega) (by omega) d_La_law_178 ?_
    refine sA _ _ _ _ d_La_law_179 rfl ?_
    refine r_iload_n C d_La_law_180 rfl ?_
    refine r_iconst C d_La_law_181 ?_
    refine r_iadd C d_La_law_182 ?_
    refine sX _ _ _ _ (i + 2) _ (by omega) (by omega) d_La_law_183 ?_
    refine r_if_eq C (tgt := 191) d_La_law_184 (by decide) (ir_of _) (fun _ => ?_) (fun z => absurd c z)
    refine r_iconst C d_La_law_191 ?_
    refine r_cV2r C k2 (by decide) (by decide) ml_La_22 mn_Md_drain ms_Md_drain mc_Md_drain mi_Md_drain md_Md_drain (by decide) zMd rfl rfl (Nat.le_of_ble_eq_true rfl) d_La_law_192 ?_
    exact r_same C (tgt := 726) d_La_law_195 (by decide) (tail S2 hS2)
  · refine r_iconst C d_La_law_165 ?_
    refine r_goto (tgt := 170) C d_La_law_166 (by decide) ?_
    obtain ⟨v, S1, S2, k1, k2, hS2⟩ := cl_drain (l := l) (E := E) hS (ir_of (xs (i + 1))) (b := 1) (by omega)
    refine r_cV2r C k1 (by decide) (by decide) ml_La_18 mn_Gm_drain ms_Gm_drain mc_Gm_drain mi_Gm_drain md_Gm_drain (by decide) zGm rfl rfl (Nat.le_of_ble_eq_true rfl) d_La_law_170 ?_
    refine r_aload_n C d_La_law_173 rfl ?_
    refine sA _ _ _ _ d_La_law_174 rfl ?_
    refine r_iload_n C d_La_law_175 rfl ?_
    refine r_iconst C d_La_law_176 ?_
    refine r_iadd C d_La_law_177 ?_
    refine sX _ _ _ _ (i + 1) _ (by omega) (by omega) d_La_law_178 ?_
    refine sA _ _ _ _ d_La_law_179 rfl ?_
    refine r_iload_n C d_La_law_180 rfl ?_
    refine r_iconst C d_La_law_181 ?_
    refine r_iadd C d_La_law_182 ?_
    refine sX _ _ _ _ (i + 2) _ (by omega) (by omega) d_La_law_183 ?_
    refine r_if_eq C (tgt := 191) d_La_law_184 (by decide) (ir_of _) (fun z => absurd z c) (fun _ => ?_)
    refine r_iconst C d_La_law_187 ?_
    refine r_goto (tgt := 192) C d_La_law_188 (by decide) ?_
    refine r_cV2r C k2 (by decide) (by decide) ml_La_22 mn_Md_drain ms_Md_drain mc_Md_drain mi_Md_drain md_Md_drain (by decide) zMd rfl rfl (Nat.le_of_ble_eq_true rfl) d_La_law_192 ?_
    exact r_same C (tgt := 726) d_La_law_195 (by decide) (tail S2 hS2)
theorem law_fail (C : Cw g "GreatMachineLaw" code 4 8 l E) (X : Sc g b N xs) {S : WW} (hS : Iv S) {i : Nat} (hi : i + 7 ≤ N) (tail : ∀ S2 : WW, Iv S2 → g S2 726 [some (.ref b), some (rf E 0), some (rf E 1), some (iv (i : Int))] []) : g S 200 [some (.ref b), some (rf E 0), some (rf E 1), some (iv (i : Int))] [] := by
  obtain ⟨sA, sL, sX, sR⟩ := X
  refine r_aload_n C d_La_law_200 rfl ?_
  refine sA _ _ _ _ d_La_law_201 rfl ?_
  refine r_iload_n C d_La_law_202 rfl ?_
  refine r_iconst C d_La_law_203 ?_
  refine r_iadd C d_La_law_204 ?_
  refine sX _ _ _ _ (i + 1) _ (by omega) (by omega) d_La_law_205 ?_
  obtain ⟨v, S1, S2, k1, k2, hS2⟩ := cl_fail (l := l) (E := E) hS (ir_of (xs (i + 1)))
  refine r_cV1r C k1 (by decide) (by decide) ml_La_23 mn_Gm_fail ms_Gm_fail mc_Gm_fail mi_Gm_fail md_Gm_fail (by decide) zGm rfl rfl (Nat.le_of_ble_eq_true rfl) d_La_law_206 ?_
  refine r_aload_n C d_La_law_209 rfl ?_
  refine sA _ _ _ _ d_La_law_210 rfl ?_
  refine r_iload_n C d_La_law_211 rfl ?_
  refine r_iconst C d_La_law_212 ?_
  refine r_iadd C d_La_law_213 ?_
  refine sX _ _ _ _ (i + 1) _ (by omega) (by omega) d_La_law_214 ?_
  refine r_cV1r C k2 (by decide) (by decide) ml_La_26 mn_Md_fail ms_Md_fail mc_Md_fail mi_Md_fail md_Md_fail (by decide) zMd rfl rfl (Nat.le_of_ble_eq_true rfl) d_La_law_215 ?_
  exact r_same C (tgt := 726) d_La_law_218 (by decide) (tail S2 hS2)
theorem law_licences (C : Cw g "GreatMachineLaw" code 4 8 l E) (X : Sc g b N xs) {S : WW} (hS : Iv S) {i : Nat} (hi : i + 7 ≤ N) (tail : ∀ S2 : WW, Iv S2 → g S2 726 [some (.ref b), some (rf E 0), some (rf E 1), some (iv (i : Int))] []) : g S 223 [some (.ref b), some (rf E 0), some (rf E 1), some (iv (i : Int))] [] := by
  obtain ⟨sA, sL, sX, sR⟩ := X
  refine r_aload_n C d_La_law_223 rfl ?_
  refine sA _ _ _ _ d_La_law_224 rfl ?_
  refine r_iload_n C d_La_law_225 rfl ?_
  refine r_iconst C d_La_law_226 ?_
  refine r_iadd C d_La_law_227 ?_
  refine sX _ _ _ _ (i + 1) _ (by omega) (by omega) d_La_law_228 ?_
  obtain ⟨v, S1, S2, k1, k2, hS2⟩ := cl_licences (l := l) (E := E) hS (ir_of (xs (i + 1)))
  refine r_cV1r C k1 (by decide) (by decide) ml_La_27 mn_Gm_licences ms_Gm_licences mc_Gm_licences mi_Gm_licences md_Gm_licences (by decide) zGm rfl rfl (Nat.le_of_ble_eq_true rfl) d_La_law_229 ?_
  refine r_aload_n C d_La_law_232 rfl ?_
  refine sA _ _ _ _ d_La_law_233 rfl ?_
  refine r_iload_n C d_La_law_234 rfl ?_
  refine r_iconst C d_La_law_235 ?_
  refine r_iadd C d_La_law_236 ?_
  refine sX _ _ _ _ (i + 1) _ (by omega) (by omega) d_La_law_237 ?_
  refine r_cV1r C k2 (by decide) (by decide) ml_La_30 mn_Md_licences ms_Md_licences mc_Md_licences mi_Md_licences md_Md_licences (by decide) zMd rfl rfl (Nat.le_of_ble_eq_true rfl) d_La_law_238 ?_
  exact r_same C (tgt := 726) d_La_law_241 (by decide) (tail S2 hS2)
theorem law_half (C : Cw g "GreatMachineLaw" code 4 8 l E) (X : Sc g b N xs) {S : WW} (hS : Iv S) {i : Nat} (hi : i + 7 ≤ N) (tail : ∀ S2 : WW, Iv S2 → g S2 726 [some (.ref b), some (rf E 0), some (rf E 1), some (iv (i : Int))] []) : g S 246 [some (.ref b), some (rf E 0), some (rf E 1), some (iv (i : Int))] [] := by
  obtain ⟨sA, sL, sX, sR⟩ := X
  refine r_aload_n C d_La_law_246 rfl ?_
  refine sA _ _ _ _ d_La_law_247 rfl ?_
  refine r_iload_n C d_La_law_248 rfl ?_
  refine r_iconst C d_La_law_249 ?_
  refine r_iadd C d_La_law_250 ?_
  refine sX _ _ _ _ (i + 1) _ (by omega) (by omega) d_La_law_251 ?_
  obtain ⟨v, S1, S2, k1, k2, hS2⟩ := cl_half (l := l) (E := E) hS (ir_of (xs (i + 1)))
  refine r_cV1r C k1 (by decide) (by decide) ml_La_31 mn_Gm_half ms_Gm_half mc_Gm_half mi_Gm_half md_Gm_half (by decide) zGm rfl rfl (Nat.le_of_ble_eq_true rfl) d_La_law_252 ?_
  refine r_aload_n C d_La_law_255 rfl ?_
  refine sA _ _ _ _ d_La_law_256 rfl ?_
  refine r_iload_n C d_La_law_257 rfl ?_
  refine r_iconst C d_La_law_258 ?_
  refine r_iadd C d_La_law_259 ?_
  refine sX _ _ _ _ (i + 1) _ (by omega) (by omega) d_La_law_260 ?_
  refine r_cV1r C k2 (by decide) (by decide) ml_La_34 mn_Md_half ms_Md_half mc_Md_half mi_Md_half md_Md_half (by decide) zMd rfl rfl (Nat.le_of_ble_eq_true rfl) d_La_law_261 ?_
  exact r_same C (tgt := 726) d_La_law_264 (by decide) (tail S2 hS2)
theorem law_account (C : Cw g "GreatMachineLaw" code 4 8 l E) (X : Sc g b N xs) {S : WW} (hS : Iv S) {i : Nat} (hi : i + 7 ≤ N) (tail : ∀ S2 : WW, Iv S2 → g S2 726 [some (.ref b), some (rf E 0), some (rf E 1), some (iv (i : Int))] []) : g S 269 [some (.ref b), some (rf E 0), some (rf E 1), some (iv (i : Int))] [] := by
  obtain ⟨sA, sL, sX, sR⟩ := X
  refine r_aload_n C d_La_law_269 rfl ?_
  refine sA _ _ _ _ d_La_law_270 rfl ?_
  refine r_iload_n C d_La_law_271 rfl ?_
  refine r_iconst C d_La_law_272 ?_
  refine r_iadd C d_La_law_273 ?_
  refine sX _ _ _ _ (i + 1) _ (by omega) (by omega) d_La_law_274 ?_
  obtain ⟨v, S1, S2, k1, k2, hS2⟩ := cl_account (l := l) (E := E) hS (ir_of (xs (i + 1)))
  refine r_cV1r C k1 (by decide) (by decide) ml_La_35 mn_Gm_account ms_Gm_account mc_Gm_account mi_Gm_account md_Gm_account (by decide) zGm rfl rfl (Nat.le_of_ble_eq_true rfl) d_La_law_275 ?_
  refine r_aload_n C d_La_law_278 rfl ?_
  refine sA _ _ _ _ d_La_law_279 rfl ?_
  refine r_iload_n C d_La_law_280 rfl ?_
  refine r_iconst C d_La_law_281 ?_
  refine r_iadd C d_La_law_282 ?_
  refine sX _ _ _ _ (i + 1) _ (by omega) (by omega) d_La_law_283 ?_
  refine r_cV1r C k2 (by decide) (by decide) ml_La_38 mn_Md_account ms_Md_account mc_Md_account mi_Md_account md_Md_account (by decide) zMd rfl rfl (Nat.le_of_ble_eq_true rfl) d_La_law_284 ?_
  exact r_same C (tgt := 726) d_La_law_287 (by decide) (tail S2 hS2)
theorem law_job (C : Cw g "GreatMachineLaw" code 4 8 l E) (X : Sc g b N xs) {S : WW} (hS : Iv S) {i : Nat} (hi : i + 7 ≤ N) (tail : ∀ S2 : WW, Iv S2 → g S2 726 [some (.ref b), some (rf E 0), some (rf E 1), some (iv (i : Int))] []) : g S 292 [some (.ref b), some (rf E 0), some (rf E 1), some (iv (i : Int))] [] := by
  obtain ⟨sA, sL, sX, sR⟩ := X
  refine r_aload_n C d_La_law_292 rfl ?_
  refine sA _ _ _ _ d_La_law_293 rfl ?_
  refine r_iload_n C d_La_law_294 rfl ?_
  refine r_iconst C d_La_law_295 ?_
  refine r_iadd C d_La_law_296 ?_
  refine sX _ _ _ _ (i + 1) _ (by omega) (by omega) d_La_law_297 ?_
  refine sA _ _ _ _ d_La_law_298 rfl ?_
  refine r_iload_n C d_La_law_299 rfl ?_
  refine r_iconst C d_La_law_300 ?_
  refine r_iadd C d_La_law_301 ?_
  refine sX _ _ _ _ (i + 2) _ (by omega) (by omega) d_La_law_302 ?_
  refine sA _ _ _ _ d_La_law_303 rfl ?_
  refine r_iload_n C d_La_law_304 rfl ?_
  refine r_iconst C d_La_law_305 ?_
  refine r_iadd C d_La_law_306 ?_
  refine sX _ _ _ _ (i + 3) _ (by omega) (by omega) d_La_law_307 ?_
  refine sA _ _ _ _ d_La_law_308 rfl ?_
  refine r_iload_n C d_La_law_309 rfl ?_
  refine r_iconst C d_La_law_310 ?_
  refine r_iadd C d_La_law_311 ?_
  refine sX _ _ _ _ (i + 4) _ (by omega) (by omega) d_La_law_312 ?_
  refine sA _ _ _ _ d_La_law_313 rfl ?_
  refine r_iload_n C d_La_law_314 rfl ?_
  refine r_iconst C d_La_law_315 ?_
  refine r_iadd C d_La_law_316 ?_
  refine sX _ _ _ _ (i + 5) _ (by omega) (by omega) d_La_law_317 ?_
  refine sA _ _ _ _ d_La_law_318 rfl ?_
  refine r_iload_n C d_La_law_319 rfl ?_
  refine r_bipush C d_La_law_320 (by decide) ?_
  refine r_iadd C d_La_law_322 ?_
  refine sX _ _ _ _ (i + 6) _ (by omega) (by omega) d_La_law_323 ?_
  obtain ⟨v, S1, S2, k1, k2, hS2⟩ := cl_job (l := l) (E := E) hS (ir_of (xs (i + 1))) (ir_of (xs (i + 2))) (ir_of (xs (i + 3))) (ir_of (xs (i + 4))) (ir_of (xs (i + 5))) (ir_of (xs (i + 6)))
  refine r_cV6r C k1 (by decide) (by decide) ml_La_39 mn_Gm_job ms_Gm_job mc_Gm_job mi_Gm_job md_Gm_job (by decide) zGm rfl rfl (Nat.le_of_ble_eq_true rfl) d_La_law_324 ?_
  refine r_aload_n C d_La_law_327 rfl ?_
  refine sA _ _ _ _ d_La_law_328 rfl ?_
  refine r_iload_n C d_La_law_329 rfl ?_
  refine r_iconst C d_La_law_330 ?_
  refine r_iadd C d_La_law_331 ?_
  refine sX _ _ _ _ (i + 1) _ (by omega) (by omega) d_La_law_332 ?_
  refine sA _ _ _ _ d_La_law_333 rfl ?_
  refine r_iload_n C d_La_law_334 rfl ?_
  refine r_iconst C d_La_law_335 ?_
  refine r_iadd C d_La_law_336 ?_
  refine sX _ _ _ _ (i + 2) _ (by omega) (by omega) d_La_law_337 ?_
  refine sA _ _ _ _ d_La_law_338 rfl ?_
  refine r_iload_n C d_La_law_339 rfl ?_
  refine r_iconst C d_La_law_340 ?_
  refine r_iadd C d_La_law_341 ?_
  refine sX _ _ _ _ (i + 3) _ (by omega) (by omega) d_La_law_342 ?_
  refine sA _ _ _ _ d_La_law_343 rfl ?_
  refine r_iload_n C d_La_law_344 rfl ?_
  refine r_iconst C d_La_law_345 ?_
  refine r_iadd C d_La_law_346 ?_
  refine sX _ _ _ _ (i + 4) _ (by omega) (by omega) d_La_law_347 ?_
  refine sA _ _ _ _ d_La_law_348 rfl ?_
  refine r_iload_n C d_La_law_349 rfl ?_
  refine r_iconst C d_La_law_350 ?_
  refine r_iadd C d_La_law_351 ?_
  refine sX _ _ _ _ (i + 5) _ (by omega) (by omega) d_La_law_352 ?_
  refine sA _ _ _ _ d_La_law_353 rfl ?_
  refine r_iload_n C d_La_law_354 rfl ?_
  refine r_bipush C d_La_law_355 (by decide) ?_
  refine r_iadd C d_La_law_357 ?_
  refine sX _ _ _ _ (i + 6) _ (by omega) (by omega) d_La_law_358 ?_
  refine r_cV6r C k2 (by decide) (by decide) ml_La_43 mn_Md_job ms_Md_job mc_Md_job mi_Md_job md_Md_job (by decide) zMd rfl rfl (Nat.le_of_ble_eq_true rfl) d_La_law_359 ?_
  exact r_same C (tgt := 726) d_La_law_362 (by decide) (tail S2 hS2)
theorem law_behind (C : Cw g "GreatMachineLaw" code 4 8 l E) (X : Sc g b N xs) {S : WW} (hS : Iv S) {i : Nat} (hi : i + 7 ≤ N) (tail : ∀ S2 : WW, Iv S2 → g S2 726 [some (.ref b), some (rf E 0), some (rf E 1), some (iv (i : Int))] []) : g S 367 [some (.ref b), some (rf E 0), some (rf E 1), some (iv (i : Int))] [] := by
  obtain ⟨sA, sL, sX, sR⟩ := X
  refine r_aload_n C d_La_law_367 rfl ?_
  refine sA _ _ _ _ d_La_law_368 rfl ?_
  refine r_iload_n C d_La_law_369 rfl ?_
  refine r_iconst C d_La_law_370 ?_
  refine r_iadd C d_La_law_371 ?_
  refine sX _ _ _ _ (i + 1) _ (by omega) (by omega) d_La_law_372 ?_
  refine sA _ _ _ _ d_La_law_373 rfl ?_
  refine r_iload_n C d_La_law_374 rfl ?_
  refine r_iconst C d_La_law_375 ?_
  refine r_iadd C d_La_law_376 ?_
  refine sX _ _ _ _ (i + 2) _ (by omega) (by omega) d_La_law_377 ?_
  obtain ⟨v, S1, S2, k1, k2, hS2⟩ := cl_behind (l := l) (E := E) hS (ir_of (xs (i + 1))) (ir_of (xs (i + 2)))
  refine r_cV2r C k1 (by decide) (by decide) ml_La_44 mn_Gm_behind ms_Gm_behind mc_Gm_behind mi_Gm_behind md_Gm_behind (by decide) zGm rfl rfl (Nat.le_of_ble_eq_true rfl) d_La_law_378 ?_
  refine r_aload_n C d_La_law_381 rfl ?_
  refine sA _ _ _ _ d_La_law_382 rfl ?_
  refine r_iload_n C d_La_law_383 rfl ?_
  refine r_iconst C d_La_law_384 ?_
  refine r_iadd C d_La_law_385 ?_
  refine sX _ _ _ _ (i + 1) _ (by omega) (by omega) d_La_law_386 ?_
  refine sA _ _ _ _ d_La_law_387 rfl ?_
  refine r_iload_n C d_La_law_388 rfl ?_
  refine r_iconst C d_La_law_389 ?_
  refine r_iadd C d_La_law_390 ?_
  refine sX _ _ _ _ (i + 2) _ (by omega) (by omega) d_La_law_391 ?_
  refine r_cV2r C k2 (by decide) (by decide) ml_La_48 mn_Md_behind ms_Md_behind mc_Md_behind mi_Md_behind md_Md_behind (by decide) zMd rfl rfl (Nat.le_of_ble_eq_true rfl) d_La_law_392 ?_
  exact r_same C (tgt := 726) d_La_law_395 (by decide) (tail S2 hS2)
theorem law_cancel (C : Cw g "GreatMachineLaw" code 4 8 l E) (X : Sc g b N xs) {S : WW} (hS : Iv S) {i : Nat} (hi : i + 7 ≤ N) (tail : ∀ S2 : WW, Iv S2 → g S2 726 [some (.ref b), some (rf E 0), some (rf E 1), some (iv (i : Int))] []) : g S 400 [some (.ref b), some (rf E 0), some (rf E 1), some (iv (i : Int))] [] := by
  obtain ⟨sA, sL, sX, sR⟩ := X
  refine r_aload_n C d_La_law_400 rfl ?_
  refine sA _ _ _ _ d_La_law_401 rfl ?_
  refine r_iload_n C d_La_law_402 rfl ?_
  refine r_iconst C d_La_law_403 ?_
  refine r_iadd C d_La_law_404 ?_
  refine sX _ _ _ _ (i + 1) _ (by omega) (by omega) d_La_law_405 ?_
  obtain ⟨v, S1, S2, k1, k2, hS2⟩ := cl_cancel (l := l) (E := E) hS (ir_of (xs (i + 1)))
  refine r_cV1r C k1 (by decide) (by decide) ml_La_49 mn_Gm_cancel ms_Gm_cancel mc_Gm_cancel mi_Gm_cancel md_Gm_cancel (by decide) zGm rfl rfl (Nat.le_of_ble_eq_true rfl) d_La_law_406 ?_
  refine r_aload_n C d_La_law_409 rfl ?_
  refine sA _ _ _ _ d_La_law_410 rfl ?_
  refine r_iload_n C d_La_law_411 rfl ?_
  refine r_iconst C d_La_law_412 ?_
  refine r_iadd C d_La_law_413 ?_
  refine sX _ _ _ _ (i + 1) _ (by omega) (by omega) d_La_law_414 ?_
  refine r_cV1r C k2 (by decide) (by decide) ml_La_52 mn_Md_cancel ms_Md_cancel mc_Md_cancel mi_Md_cancel md_Md_cancel (by decide) zMd rfl rfl (Nat.le_of_ble_eq_true rfl) d_La_law_415 ?_
  exact r_same C (tgt := 726) d_La_law_418 (by decide) (tail S2 hS2)
theorem law_book (C : Cw g "GreatMachineLaw" code 4 8 l E) (X : Sc g b N xs) {S : WW} (hS : Iv S) {i : Nat} (hi : i + 7 ≤ N) (tail : ∀ S2 : WW, Iv S2 → g S2 726 [some (.ref b), some (rf E 0), some (rf E 1), some (iv (i : Int))] []) : g S 423 [some (.ref b), some (rf E 0), some (rf E 1), some (iv (i : Int))] [] := by
  obtain ⟨sA, sL, sX, sR⟩ := X
  refine r_aload_n C d_La_law_423 rfl ?_
  refine sA _ _ _ _ d_La_law_424 rfl ?_
  refine r_iload_n C d_La_law_425 rfl ?_
  refine r_iconst C d_La_law_426 ?_
  refine r_iadd C d_La_law_427 ?_
  refine sX _ _ _ _ (i + 1) _ (by omega) (by omega) d_La_law_428 ?_
  refine sA _ _ _ _ d_La_law_429 rfl ?_
  refine r_iload_n C d_La_law_430 rfl ?_
  refine r_iconst C d_La_law_431 ?_
  refine r_iadd C d_La_law_432 ?_
  refine sX _ _ _ _ (i + 2) _ (by omega) (by omega) d_La_law_433 ?_
  refine sA _ _ _ _ d_La_law_434 rfl ?_
  refine r_iload_n C d_La_law_435 rfl ?_
  refine r_iconst C d_La_law_436 ?_
  refine r_iadd C d_La_law_437 ?_
  refine sX _ _ _ _ (i + 3) _ (by omega) (by omega) d_La_law_438 ?_
  obtain ⟨v, S1, S2, k1, k2, hS2⟩ := cl_book (l := l) (E := E) hS (ir_of (xs (i + 1))) (ir_of (xs (i + 2))) (ir_of (xs (i + 3)))
  refine r_cV3r C k1 (by decide) (by decide) ml_La_53 mn_Gm_book ms_Gm_book mc_Gm_book mi_Gm_book md_Gm_book (by decide) zGm rfl rfl (Nat.le_of_ble_eq_true rfl) d_La_law_439 ?_
  refine r_aload_n C d_La_law_442 rfl ?_
  refine sA _ _ _ _ d_La_law_443 rfl ?_
  refine r_iload_n C d_La_law_444 rfl ?_
  refine r_iconst C d_La_law_445 ?_
  refine r_iadd C d_La_law_446 ?_
  refine sX _ _ _ _ (i + 1) _ (by omega) (by omega) d_La_law_447 ?_
  refine sA _ _ _ _ d_La_law_448 rfl ?_
  refine r_iload_n C d_La_law_449 rfl ?_
  refine r_iconst C d_La_law_450 ?_
  refine r_iadd C d_La_law_451 ?_
  refine sX _ _ _ _ (i + 2) _ (by omega) (by omega) d_La_law_452 ?_
  refine sA _ _ _ _ d_La_law_453 rfl ?_
  refine r_iload_n C d_La_law_454 rfl ?_
  refine r_iconst C d_La_law_455 ?_
  refine r_iadd C d_La_law_456 ?_
  refine sX _ _ _ _ (i + 3) _ (by omega) (by omega) d_La_law_457 ?_
  refine r_cV3r C k2 (by decide) (by decide) ml_La_57 mn_Md_book ms_Md_book mc_Md_book mi_Md_book md_Md_book (by decide) zMd rfl rfl (Nat.le_of_ble_eq_true rfl) d_La_law_458 ?_
  exact r_same C (tgt := 726) d_La_law_461 (by decide) (tail S2 hS2)
theorem law_unbook (C : Cw g "GreatMachineLaw" code 4 8 l E) (X : Sc g b N xs) {S : WW} (hS : Iv S) {i : Nat} (hi : i + 7 ≤ N) (tail : ∀ S2 : WW, Iv S2 → g S2 726 [some (.ref b), some (rf E 0), some (rf E 1), some (iv (i : Int))] []) : g S 466 [some (.ref b), some (rf E 0), some (rf E 1), some (iv (i : Int))] [] := by
  obtain ⟨sA, sL, sX, sR⟩ := X
  refine r_aload_n C d_La_law_466 rfl ?_
  refine sA _ _ _ _ d_La_law_467 rfl ?_
  refine r_iload_n C d_La_law_468 rfl ?_
  refine r_iconst C d_La_law_469 ?_
  refine r_iadd C d_La_law_470 ?_
  refine sX _ _ _ _ (i + 1) _ (by omega) (by omega) d_La_law_471 ?_
  obtain ⟨v, S1, S2, k1, k2, hS2⟩ := cl_unbook (l := l) (E := E) hS (ir_of (xs (i + 1)))
  refine r_cV1r C k1 (by decide) (by decide) ml_La_58 mn_Gm_unbook ms_Gm_unbook mc_Gm_unbook mi_Gm_unbook md_Gm_unbook (by decide) zGm rfl rfl (Nat.le_of_ble_eq_true rfl) d_La_law_472 ?_
  refine r_aload_n C d_La_law_475 rfl ?_
  refine sA _ _ _ _ d_La_law_476 rfl ?_
  refine r_iload_n C d_La_law_477 rfl ?_
  refine r_iconst C d_La_law_478 ?_
  refine r_iadd C d_La_law_479 ?_
  refine sX _ _ _ _ (i + 1) _ (by omega) (by omega) d_La_law_480 ?_
  refine r_cV1r C k2 (by decide) (by decide) ml_La_61 mn_Md_unbook ms_Md_unbook mc_Md_unbook mi_Md_unbook md_Md_unbook (by decide) zMd rfl rfl (Nat.le_of_ble_eq_true rfl) d_La_law_481 ?_
  exact r_same C (tgt := 726) d_La_law_484 (by decide) (tail S2 hS2)
theorem law_ticks (C : Cw g "GreatMachineLaw" code 4 8 l E) (X : Sc g b N xs) {S : WW} (hS : Iv S) {i : Nat} (hi : i + 7 ≤ N) (tail : ∀ S2 : WW, Iv S2 → g S2 726 [some (.ref b), some (rf E 0), some (rf E 1), some (iv (i : Int))] []) : g S 489 [some (.ref b), some (rf E 0), some (rf E 1), some (iv (i : Int))] [] := by
  obtain ⟨sA, sL, sX, sR⟩ := X
  refine r_aload_n C d_La_law_489 rfl ?_
  refine sA _ _ _ _ d_La_law_490 rfl ?_
  refine r_iload_n C d_La_law_491 rfl ?_
  refine r_iconst C d_La_law_492 ?_
  refine r_iadd C d_La_law_493 ?_
  refine sX _ _ _ _ (i + 1) _ (by omega) (by omega) d_La_law_494 ?_
  obtain ⟨v, S1, S2, k1, k2, hS2⟩ := cl_ticks (l := l) (E := E) hS (ir_of (xs (i + 1)))
  refine r_cV1r C k1 (by decide) (by decide) ml_La_62 mn_Gm_ticks ms_Gm_ticks mc_Gm_ticks mi_Gm_ticks md_Gm_ticks (by decide) zGm rfl rfl (Nat.le_of_ble_eq_true rfl) d_La_law_495 ?_
  refine r_aload_n C d_La_law_498 rfl ?_
  refine sA _ _ _ _ d_La_law_499 rfl ?_
  refine r_iload_n C d_La_law_500 rfl ?_
  refine r_iconst C d_La_law_501 ?_
  refine r_iadd C d_La_law_502 ?_
  refine sX _ _ _ _ (i + 1) _ (by omega) (by omega) d_La_law_503 ?_
  refine r_cV1r C k2 (by decide) (by decide) ml_La_65 mn_Md_ticks ms_Md_ticks mc_Md_ticks mi_Md_ticks md_Md_ticks (by decide) zMd rfl rfl (Nat.le_of_ble_eq_true rfl) d_La_law_504 ?_
  exact r_same C (tgt := 726) d_La_law_507 (by decide) (tail S2 hS2)
theorem law_told (C : Cw g "GreatMachineLaw" code 4 8 l E) (X : Sc g b N xs) {S : WW} (hS : Iv S) {i : Nat} (hi : i + 7 ≤ N) (tail : ∀ S2 : WW, Iv S2 → g S2 726 [some (.ref b), some (rf E 0), some (rf E 1), some (iv (i : Int))] []) : g S 512 [some (.ref b), some (rf E 0), some (rf E 1), some (iv (i : Int))] [] := by
  obtain ⟨sA, sL, sX, sR⟩ := X
  refine r_aload_n C d_La_law_512 rfl ?_
  refine sA _ _ _ _ d_La_law_513 rfl ?_
  refine r_iload_n C d_La_law_514 rfl ?_
  refine r_iconst C d_La_law_515 ?_
  refine r_iadd C d_La_law_516 ?_
  refine sX _ _ _ _ (i + 1) _ (by omega) (by omega) d_La_law_517 ?_
  refine sA _ _ _ _ d_La_law_518 rfl ?_
  refine r_iload_n C d_La_law_519 rfl ?_
  refine r_iconst C d_La_law_520 ?_
  refine r_iadd C d_La_law_521 ?_
  refine sX _ _ _ _ (i + 2) _ (by omega) (by omega) d_La_law_522 ?_
  obtain ⟨v, S1, S2, k1, k2, hS2⟩ := cl_told (l := l) (E := E) hS (ir_of (xs (i + 1))) (ir_of (xs (i + 2)))
  refine r_cV2r C k1 (by decide) (by decide) ml_La_66 mn_Gm_told ms_Gm_told mc_Gm_told mi_Gm_told md_Gm_told (by decide) zGm rfl rfl (Nat.le_of_ble_eq_true rfl) d_La_law_523 ?_
  refine r_aload_n C d_La_law_526 rfl ?_
  refine sA _ _ _ _ d_La_law_527 rfl ?_
  refine r_iload_n C d_La_law_528 rfl ?_
  refine r_iconst C d_La_law_529 ?_
  refine r_iadd C d_La_law_530 ?_
  refine sX _ _ _ _ (i + 1) _ (by omega) (by omega) d_La_law_531 ?_
  refine sA _ _ _ _ d_La_law_532 rfl ?_
  refine r_iload_n C d_La_law_533 rfl ?_
  refine r_iconst C d_La_law_534 ?_
  refine r_iadd C d_La_law_535 ?_
  refine sX _ _ _ _ (i + 2) _ (by omega) (by omega) d_La_law_536 ?_
  refine r_cV2r C k2 (by decide) (by decide) ml_La_69 mn_Md_told ms_Md_told mc_Md_told mi_Md_told md_Md_told (by decide) zMd rfl rfl (Nat.le_of_ble_eq_true rfl) d_La_law_537 ?_
  exact r_same C (tgt := 726) d_La_law_540 (by decide) (tail S2 hS2)
theorem law_on (C : Cw g "GreatMachineLaw" code 4 8 l E) (X : Sc g b N xs) {S : WW} (hS : Iv S) {i : Nat} (hi : i + 7 ≤ N) (tail : ∀ S2 : WW, Iv S2 → g S2 726 [some (.ref b), some (rf E 0), some (rf E 1), some (iv (i : Int))] []) : g S 545 [some (.ref b), some (rf E 0), some (rf E 1), some (iv (i : Int))] [] := by
  obtain ⟨sA, sL, sX, sR⟩ := X
  refine r_aload_n C d_La_law_545 rfl ?_
  refine sA _ _ _ _ d_La_law_546 rfl ?_
  refine r_iload_n C d_La_law_547 rfl ?_
  refine r_iconst C d_La_law_548 ?_
  refine r_iadd C d_La_law_549 ?_
  refine sX _ _ _ _ (i + 1) _ (by omega) (by omega) d_La_law_550 ?_
  refine sA _ _ _ _ d_La_law_551 rfl ?_
  refine r_iload_n C d_La_law_552 rfl ?_
  refine r_iconst C d_La_law_553 ?_
  refine r_iadd C d_La_law_554 ?_
  refine sX _ _ _ _ (i + 2) _ (by omega) (by omega) d_La_law_555 ?_
  obtain ⟨v, S1, S2, k1, k2, hS2⟩ := cl_on (l := l) (E := E) hS (ir_of (xs (i + 1))) (ir_of (xs (i + 2)))
  refine r_cV2r C k1 (by decide) (by decide) ml_La_70 mn_Gm_on ms_Gm_on mc_Gm_on mi_Gm_on md_Gm_on (by decide) zGm rfl rfl (Nat.le_of_ble_eq_true rfl) d_La_law_556 ?_
  refine r_aload_n C d_La_law_559 rfl ?_
  refine sA _ _ _ _ d_La_law_560 rfl ?_
  refine r_iload_n C d_La_law_561 rfl ?_
  refine r_iconst C d_La_law_562 ?_
  refine r_iadd C d_La_law_563 ?_
  refine sX _ _ _ _ (i + 1) _ (by omega) (by omega) d_La_law_564 ?_
  refine sA _ _ _ _ d_La_law_565 rfl ?_
  refine r_iload_n C d_La_law_566 rfl ?_
  refine r_iconst C d_La_law_567 ?_
  refine r_iadd C d_La_law_568 ?_
  refine sX _ _ _ _ (i + 2) _ (by omega) (by omega) d_La_law_569 ?_
  refine r_cV2r C k2 (by decide) (by decide) ml_La_73 mn_Md_on ms_Md_on mc_Md_on mi_Md_on md_Md_on (by decide) zMd rfl rfl (Nat.le_of_ble_eq_true rfl) d_La_law_570 ?_
  exact r_same C (tgt := 726) d_La_law_573 (by decide) (tail S2 hS2)
theorem law_free (C : Cw g "GreatMachineLaw" code 4 8 l E) (X : Sc g b N xs) {S : WW} (hS : Iv S) {i : Nat} (hi : i + 7 ≤ N) (tail : ∀ S2 : WW, Iv S2 → g S2 726 [some (.ref b), some (rf E 0), some (rf E 1), some (iv (i : Int))] []) : g S 578 [some (.ref b), some (rf E 0), some (rf E 1), some (iv (i : Int))] [] := by
  obtain ⟨sA, sL, sX, sR⟩ := X
  refine r_aload_n C d_La_law_578 rfl ?_
  refine sA _ _ _ _ d_La_law_579 rfl ?_
  refine r_iload_n C d_La_law_580 rfl ?_
  refine r_iconst C d_La_law_581 ?_
  refine r_iadd C d_La_law_582 ?_
  refine sX _ _ _ _ (i + 1) _ (by omega) (by omega) d_La_law_583 ?_
  obtain ⟨v, S1, S2, k1, k2, hS2⟩ := cl_free (l := l) (E := E) hS (ir_of (xs (i + 1)))
  refine r_cV1r C k1 (by decide) (by decide) ml_La_74 mn_Gm_free ms_Gm_free mc_Gm_free mi_Gm_free md_Gm_free (by decide) zGm rfl rfl (Nat.le_of_ble_eq_true rfl) d_La_law_584 ?_
  refine r_aload_n C d_La_law_587 rfl ?_
  refine sA _ _ _ _ d_La_law_588 rfl ?_
  refine r_iload_n C d_La_law_589 rfl ?_
  refine r_iconst C d_La_law_590 ?_
  refine r_iadd C d_La_law_591 ?_
  refine sX _ _ _ _ (i + 1) _ (by omega) (by omega) d_La_law_592 ?_
  refine r_cV1r C k2 (by decide) (by decide) ml_La_77 mn_Md_free ms_Md_free mc_Md_free mi_Md_free md_Md_free (by decide) zMd rfl rfl (Nat.le_of_ble_eq_true rfl) d_La_law_593 ?_
  exact r_same C (tgt := 726) d_La_law_596 (by decide) (tail S2 hS2)
theorem law_used (C : Cw g "GreatMachineLaw" code 4 8 l E) (X : Sc g b N xs) {S : WW} (hS : Iv S) {i : Nat} (hi : i + 7 ≤ N) (tail : ∀ S2 : WW, Iv S2 → g S2 726 [some (.ref b), some (rf E 0), some (rf E 1), some (iv (i : Int))] []) : g S 601 [some (.ref b), some (rf E 0), some (rf E 1), some (iv (i : Int))] [] := by
  obtain ⟨sA, sL, sX, sR⟩ := X
  refine r_aload_n C d_La_law_601 rfl ?_
  refine sA _ _ _ _ d_La_law_602 rfl ?_
  refine r_iload_n C d_La_law_603 rfl ?_
  refine r_iconst C d_La_law_604 ?_
  refine r_iadd C d_La_law_605 ?_
  refine sX _ _ _ _ (i + 1) _ (by omega) (by omega) d_La_law_606 ?_
  obtain ⟨v, S1, S2, k1, k2, hS2⟩ := cl_used (l := l) (E := E) hS (ir_of (xs (i + 1)))
  refine r_cV1r C k1 (by decide) (by decide) ml_La_78 mn_Gm_used ms_Gm_used mc_Gm_used mi_Gm_used md_Gm_used (by decide) zGm rfl rfl (Nat.le_of_ble_eq_true rfl) d_La_law_607 ?_
  refine r_aload_n C d_La_law_610 rfl ?_
  refine sA _ _ _ _ d_La_law_611 rfl ?_
  refine r_iload_n C d_La_law_612 rfl ?_
  refine r_iconst C d_La_law_613 ?_
  refine r_iadd C d_La_law_614 ?_
  refine sX _ _ _ _ (i + 1) _ (by omega) (by omega) d_La_law_615 ?_
  refine r_cV1r C k2 (by decide) (by decide) ml_La_81 mn_Md_used ms_Md_used mc_Md_used mi_Md_used md_Md_used (by decide) zMd rfl rfl (Nat.le_of_ble_eq_true rfl) d_La_law_616 ?_
  exact r_same C (tgt := 726) d_La_law_619 (by decide) (tail S2 hS2)
theorem law_blocked (C : Cw g "GreatMachineLaw" code 4 8 l E) (X : Sc g b N xs) {S : WW} (hS : Iv S) {i : Nat} (hi : i + 7 ≤ N) (tail : ∀ S2 : WW, Iv S2 → g S2 726 [some (.ref b), some (rf E 0), some (rf E 1), some (iv (i : Int))] []) : g S 624 [some (.ref b), some (rf E 0), some (rf E 1), some (iv (i : Int))] [] := by
  obtain ⟨sA, sL, sX, sR⟩ := X
  refine r_aload_n C d_La_law_624 rfl ?_
  refine sA _ _ _ _ d_La_law_625 rfl ?_
  refine r_iload_n C d_La_law_626 rfl ?_
  refine r_iconst C d_La_law_627 ?_
  refine r_iadd C d_La_law_628 ?_
  refine sX _ _ _ _ (i + 1) _ (by omega) (by omega) d_La_law_629 ?_
  obtain ⟨v, S1, S2, k1, k2, hS2⟩ := cl_blocked (l := l) (E := E) hS (ir_of (xs (i + 1)))
  refine r_cV1r C k1 (by decide) (by decide) ml_La_82 mn_Gm_blocked ms_Gm_blocked mc_Gm_blocked mi_Gm_blocked md_Gm_blocked (by decide) zGm rfl rfl (Nat.le_of_ble_eq_true rfl) d_La_law_630 ?_
  refine r_aload_n C d_La_law_633 rfl ?_
  refine sA _ _ _ _ d_La_law_634 rfl ?_
  refine r_iload_n C d_La_law_635 rfl ?_
  refine r_iconst C d_La_law_636 ?_
  refine r_iadd C d_La_law_637 ?_
  refine sX _ _ _ _ (i + 1) _ (by omega) (by omega) d_La_law_638 ?_
  refine r_cV1r C k2 (by decide) (by decide) ml_La_85 mn_Md_blocked ms_Md_blocked mc_Md_blocked mi_Md_blocked md_Md_blocked (by decide) zMd rfl rfl (Nat.le_of_ble_eq_true rfl) d_La_law_639 ?_
  exact r_same C (tgt := 726) d_La_law_642 (by decide) (tail S2 hS2)
theorem law_taken (C : Cw g "GreatMachineLaw" code 4 8 l E) (X : Sc g b N xs) {S : WW} (hS : Iv S) {i : Nat} (hi : i + 7 ≤ N) (tail : ∀ S2 : WW, Iv S2 → g S2 726 [some (.ref b), some (rf E 0), some (rf E 1), some (iv (i : Int))] []) : g S 647 [some (.ref b), some (rf E 0), some (rf E 1), some (iv (i : Int))] [] := by
  obtain ⟨sA, sL, sX, sR⟩ := X
  refine r_aload_n C d_La_law_647 rfl ?_
  refine sA _ _ _ _ d_La_law_648 rfl ?_
  refine r_iload_n C d_La_law_649 rfl ?_
  refine r_iconst C d_La_law_650 ?_
  refine r_iadd C d_La_law_651 ?_
  refine sX _ _ _ _ (i + 1) _ (by omega) (by omega) d_La_law_652 ?_
  refine sA _ _ _ _ d_La_law_653 rfl ?_
  refine r_iload_n C d_La_law_654 rfl ?_
  refine r_iconst C d_La_law_655 ?_
  refine r_iadd C d_La_law_656 ?_
  refine sX _ _ _ _ (i + 2) _ (by omega) (by omega) d_La_law_657 ?_
  obtain ⟨v, S1, S2, k1, k2, hS2⟩ := cl_taken (l := l) (E := E) hS (ir_of (xs (i + 1))) (ir_of (xs (i + 2)))
  refine r_cV2r C k1 (by decide) (by decide) ml_La_86 mn_Gm_taken ms_Gm_taken mc_Gm_taken mi_Gm_taken md_Gm_taken (by decide) zGm rfl rfl (Nat.le_of_ble_eq_true rfl) d_La_law_658 ?_
  refine r_aload_n C d_La_law_661 rfl ?_
  refine sA _ _ _ _ d_La_law_662 rfl ?_
  refine r_iload_n C d_La_law_663 rfl ?_
  refine r_iconst C d_La_law_664 ?_
  refine r_iadd C d_La_law_665 ?_
  refine sX _ _ _ _ (i + 1) _ (by omega) (by omega) d_La_law_666 ?_
  refine sA _ _ _ _ d_La_law_667 rfl ?_
  refine r_iload_n C d_La_law_668 rfl ?_
  refine r_iconst C d_La_law_669 ?_
  refine r_iadd C d_La_law_670 ?_
  refine sX _ _ _ _ (i + 2) _ (by omega) (by omega) d_La_law_671 ?_
  refine r_cV2r C k2 (by decide) (by decide) ml_La_89 mn_Md_taken ms_Md_taken mc_Md_taken mi_Md_taken md_Md_taken (by decide) zMd rfl rfl (Nat.le_of_ble_eq_true rfl) d_La_law_672 ?_
  exact r_same C (tgt := 726) d_La_law_675 (by decide) (tail S2 hS2)
theorem law_foreseen (C : Cw g "GreatMachineLaw" code 4 8 l E) (X : Sc g b N xs) {S : WW} (hS : Iv S) {i : Nat} (hi : i + 7 ≤ N) (tail : ∀ S2 : WW, Iv S2 → g S2 726 [some (.ref b), some (rf E 0), some (rf E 1), some (iv (i : Int))] []) : g S 680 [some (.ref b), some (rf E 0), some (rf E 1), some (iv (i : Int))] [] := by
  obtain ⟨sA, sL, sX, sR⟩ := X
  refine r_aload_n C d_La_law_680 rfl ?_
  refine sA _ _ _ _ d_La_law_681 rfl ?_
  refine r_iload_n C d_La_law_682 rfl ?_
  refine r_iconst C d_La_law_683 ?_
  refine r_iadd C d_La_law_684 ?_
  refine sX _ _ _ _ (i + 1) _ (by omega) (by omega) d_La_law_685 ?_
  obtain ⟨v, S1, S2, k1, k2, hS2⟩ := cl_foreseen (l := l) (E := E) hS (ir_of (xs (i + 1)))
  refine r_cV1r C k1 (by decide) (by decide) ml_La_90 mn_Gm_foreseen ms_Gm_foreseen mc_Gm_foreseen mi_Gm_foreseen md_Gm_foreseen (by decide) zGm rfl rfl (Nat.le_of_ble_eq_true rfl) d_La_law_686 ?_
  refine r_aload_n C d_La_law_689 rfl ?_
  refine sA _ _ _ _ d_La_law_690 rfl ?_
  refine r_iload_n C d_La_law_691 rfl ?_
  refine r_iconst C d_La_law_692 ?_
  refine r_iadd C d_La_law_693 ?_
  refine sX _ _ _ _ (i + 1) _ (by omega) (by omega) d_La_law_694 ?_
  refine r_cV1r C k2 (by decide) (by decide) ml_La_93 mn_Md_foreseen ms_Md_foreseen mc_Md_foreseen mi_Md_foreseen md_Md_foreseen (by decide) zMd rfl rfl (Nat.le_of_ble_eq_true rfl) d_La_law_695 ?_
  exact r_same C (tgt := 726) d_La_law_698 (by decide) (tail S2 hS2)
theorem law_count (C : Cw g "GreatMachineLaw" code 4 8 l E) (X : Sc g b N xs) {S : WW} (hS : Iv S) {i : Nat} (hi : i + 7 ≤ N) (tail : ∀ S2 : WW, Iv S2 → g S2 726 [some (.ref b), some (rf E 0), some (rf E 1), some (iv (i : Int))] []) : g S 703 [some (.ref b), some (rf E 0), some (rf E 1), some (iv (i : Int))] [] := by
  obtain ⟨sA, sL, sX, sR⟩ := X
  refine r_aload_n C d_La_law_703 rfl ?_
  refine sA _ _ _ _ d_La_law_704 rfl ?_
  refine r_iload_n C d_La_law_705 rfl ?_
  refine r_iconst C d_La_law_706 ?_
  refine r_iadd C d_La_law_707 ?_
  refine sX _ _ _ _ (i + 1) _ (by omega) (by omega) d_La_law_708 ?_
  obtain ⟨v, S1, S2, k1, k2, hS2⟩ := cl_count (l := l) (E := E) hS (ir_of (xs (i + 1)))
  refine r_cV1r C k1 (by decide) (by decide) ml_La_94 mn_Gm_count ms_Gm_count mc_Gm_count mi_Gm_count md_Gm_count (by decide) zGm rfl rfl (Nat.le_of_ble_eq_true rfl) d_La_law_709 ?_
  refine r_aload_n C d_La_law_712 rfl ?_
  refine sA _ _ _ _ d_La_law_713 rfl ?_
  refine r_iload_n C d_La_law_714 rfl ?_
  refine r_iconst C d_La_law_715 ?_
  refine r_iadd C d_La_law_716 ?_
  refine sX _ _ _ _ (i + 1) _ (by omega) (by omega) d_La_law_717 ?_
  refine r_cV1r C k2 (by decide) (by decide) ml_La_97 mn_Md_count ms_Md_count mc_Md_count mi_Md_count md_Md_count (by decide) zMd rfl rfl (Nat.le_of_ble_eq_true rfl) d_La_law_718 ?_
  exact r_same C (tgt := 726) d_La_law_721 (by decide) (tail S2 hS2)
theorem law_loop (C : Cw g "GreatMachineLaw" code 4 8 l E) (X : Sc g b N xs) (hN : N ≤ 3584) : ∀ (n i : Nat) (S : WW), i ≤ N + 7 → N + 8 ≤ i + n → Iv S → g S 18 [some (.ref b), some (rf E 0), some (rf E 1), some (iv (i : Int))] [] := by
  obtain ⟨sA, sL, sX, sR⟩ := id X
  intro n
  induction n with
  | zero => intro i S h1 h2; omega
  | succ n ih =>
    intro i S h1 h2 hS
    refine r_iload_n C d_La_law_18 rfl ?_
    refine sA _ _ _ _ d_La_law_19 rfl ?_
    refine sL _ _ _ _ d_La_law_20 ?_
    refine r_bipush C d_La_law_21 (by decide) ?_
    refine r_isub C d_La_law_23 ?_
    refine r_icmp_gt C (tgt := 732) d_La_law_24 (by decide) (ir_mk (by omega) (by omega)) (ir_mk (by omega) (by omega)) (fun c => ?_) (fun c => ?_)
    · refine r_iconst C d_La_law_732 ?_
      exact sR _ _ _ d_La_law_733
    have hi : i + 7 ≤ N := by omega
    have tail : ∀ S2 : WW, Iv S2 → g S2 726 [some (.ref b), some (rf E 0), some (rf E 1), some (iv (i : Int))] [] := by
      intro S2 hS2
      refine r_iinc_3 C d_La_law_726 ?_
      refine r_goto (tgt := 18) C d_La_law_729 (by decide) ?_
      have k := ih (i + 7) S2 (by omega) (by omega) hS2
      rw [show ((i + 7 : Nat) : Int) = (i : Int) + 7 by omega] at k
      exact k
    refine sA _ _ _ _ d_La_law_27 rfl ?_
    refine r_iload_n C d_La_law_28 rfl ?_
    refine sX _ _ _ _ i _ rfl (by omega) d_La_law_29 ?_
    refine r_bipush C d_La_law_30 (by decide) ?_
    refine r_iandG C d_La_law_32 ?_
    have hv : ir (andI (xs i).toInt 31) := ir_of _
    generalize andI (xs i).toInt 31 = v at hv ⊢
    by_cases c1 : v < 0 ∨ 19 < v
    · exact r_tabOut C d_La_law_33 hv c1 (tgt := 726) (by decide) (tail S hS)
    rcases (show v = 0 ∨ v = 1 ∨ v = 2 ∨ v = 3 ∨ v = 4 ∨ v = 5 ∨ v = 6 ∨ v = 7 ∨ v = 8 ∨ v = 9 ∨ v = 10 ∨ v = 11 ∨ v = 12 ∨ v = 13 ∨ v = 14 ∨ v = 15 ∨ v = 16 ∨ v = 17 ∨ v = 18 ∨ v = 19 by omega) with rfl | rfl | rfl | rfl | rfl | rfl | rfl | rfl | rfl | rfl | rfl | rfl | rfl | rfl | rfl | rfl | rfl | rfl | rfl | rfl
    · exact r_tabIn C d_La_law_33 hv (by decide) (by decide) (off := 95) rfl (tgt := 128) (by decide) (law_rack C X hS hi tail)
    · exact r_tabIn C d_La_law_33 hv (by decide) (by decide) (off := 118) rfl (tgt := 151) (by decide) (law_drain C X hS hi tail)
    · exact r_tabIn C d_La_law_33 hv (by decide) (by decide) (off := 167) rfl (tgt := 200) (by decide) (law_fail C X hS hi tail)
    · exact r_tabIn C d_La_law_33 hv (by decide) (by decide) (off := 190) rfl (tgt := 223) (by decide) (law_licences C X hS hi tail)
    · exact r_tabIn C d_La_law_33 hv (by decide) (by decide) (off := 213) rfl (tgt := 246) (by decide) (law_half C X hS hi tail)
    · exact r_tabIn C d_La_law_33 hv (by decide) (by decide) (off := 236) rfl (tgt := 269) (by decide) (law_account C X hS hi tail)
    · exact r_tabIn C d_La_law_33 hv (by decide) (by decide) (off := 259) rfl (tgt := 292) (by decide) (law_job C X hS hi tail)
    · exact r_tabIn C d_La_law_33 hv (by decide) (by decide) (off := 334) rfl (tgt := 367) (by decide) (law_behind C X hS hi tail)
    · exact r_tabIn C d_La_law_33 hv (by decide) (by decide) (off := 367) rfl (tgt := 400) (by decide) (law_cancel C X hS hi tail)
    · exact r_tabIn C d_La_law_33 hv (by decide) (by decide) (off := 390) rfl (tgt := 423) (by decide) (law_book C X hS hi tail)
    · exact r_tabIn C d_La_law_33 hv (by decide) (by decide) (off := 433) rfl (tgt := 466) (by decide) (law_unbook C X hS hi tail)
    · exact r_tabIn C d_La_law_33 hv (by decide) (by decide) (off := 456) rfl (tgt := 489) (by decide) (law_ticks C X hS hi tail)
    · exact r_tabIn C d_La_law_33 hv (by decide) (by decide) (off := 479) rfl (tgt := 512) (by decide) (law_told C X hS hi tail)
    · exact r_tabIn C d_La_law_33 hv (by decide) (by decide) (off := 512) rfl (tgt := 545) (by decide) (law_on C X hS hi tail)
    · exact r_tabIn C d_La_law_33 hv (by decide) (by decide) (off := 545) rfl (tgt := 578) (by decide) (law_free C X hS hi tail)
    · exact r_tabIn C d_La_law_33 hv (by decide) (by decide) (off := 568) rfl (tgt := 601) (by decide) (law_used C X hS hi tail)
    · exact r_tabIn C d_La_law_33 hv (by decide) (by decide) (off := 591) rfl (tgt := 624) (by decide) (law_blocked C X hS hi tail)
    · exact r_tabIn C d_La_law_33 hv (by decide) (by decide) (off := 614) rfl (tgt := 647) (by decide) (law_taken C X hS hi tail)
    · exact r_tabIn C d_La_law_33 hv (by decide) (by decide) (off := 647) rfl (tgt := 680) (by decide) (law_foreseen C X hS hi tail)
    · exact r_tabIn C d_La_law_33 hv (by decide) (by decide) (off := 670) rfl (tgt := 703) (by decide) (law_count C X hS hi tail)
end LAW
