theorem h02 : (0 : Nat) < 2 := by decide
theorem h12 : (1 : Nat) < 2 := by decide
theorem lw_Sys_s : Cond.static arraycopyName ∈ lw_w := mw_ (List.mem_of_getElem? (i := 510) (by decide +kernel)) rfl
theorem lw_Sys_n : Cond.native arraycopyName ∈ lw_w := mw_ (List.mem_of_getElem? (i := 511) (by decide +kernel)) rfl
theorem lw_Sys_i : Cond.initialized "java/lang/System" ∈ lw_w := mw_ (List.mem_of_getElem? (i := 27) (by decide +kernel)) rfl
theorem lw_Sys_l : Cond.methodLink "GreatMachine$Job" 55 arraycopyName ∈ lw_w := mw_ (List.mem_of_getElem? (i := 509) (by decide +kernel)) rfl
section OTHER
variable {g : WW → Nat → LL → List Value → Prop} {own : String} {cc : ByteArray} {nL h : Nat} {l : Launch} {E : Ew} {S S0 : WW} {pc : Nat} {L : LL} {st : List Value} {m q : Nat} {t : TT}
theorem gx_Rk_nodes (C : Cw g own cc nL h l E) (hq : q < 2 ∧ q ≠ m) {i : Nat} (hi : i < 4) {idx : Nat} (hl : Cond.fieldLink own idx "GreatMachine$Rack" "nodes" "I" ∈ lw_w) (d : decode cc pc = .ok (.getfield idx, 3)) (kk : g (sm S0 m t) (pc + 3) L (iv (S0 q 12 i) :: st)) : g (sm S0 m t) pc L (rf E (kRk q i) :: st) := gw_Rk_nodes C hq.1 hi hl d (by rw [sm_ne hq.2]; exact kk)
theorem gx_Rk_unused (C : Cw g own cc nL h l E) (hq : q < 2 ∧ q ≠ m) {i : Nat} (hi : i < 4) {idx : Nat} (hl : Cond.fieldLink own idx "GreatMachine$Rack" "unused" "I" ∈ lw_w) (d : decode cc pc = .ok (.getfield idx, 3)) (kk : g (sm S0 m t) (pc + 3) L (iv (S0 q 13 i) :: st)) : g (sm S0 m t) pc L (rf E (kRk q i) :: st) := gw_Rk_unused C hq.1 hi hl d (by rw [sm_ne hq.2]; exact kk)
theorem gx_Rk_drained (C : Cw g own cc nL h l E) (hq : q < 2 ∧ q ≠ m) {i : Nat} (hi : i < 4) {idx : Nat} (hl : Cond.fieldLink own idx "GreatMachine$Rack" "drained" "Z" ∈ lw_w) (d : decode cc pc = .ok (.getfield idx, 3)) (kk : g (sm S0 m t) (pc + 3) L (iv (S0 q 14 i) :: st)) : g (sm S0 m t) pc L (rf E (kRk q i) :: st) := gw_Rk_drained C hq.1 hi hl d (by rw [sm_ne hq.2]; exact kk)
theorem gx_Ac_shares (C : Cw g own cc nL h l E) (hq : q < 2 ∧ q ≠ m) {i : Nat} (hi : i < 6) {idx : Nat} (hl : Cond.fieldLink own idx "GreatMachine$Account" "shares" "I" ∈ lw_w) (d : decode cc pc = .ok (.getfield idx, 3)) (kk : g (sm S0 m t) (pc + 3) L (iv (S0 q 15 i) :: st)) : g (sm S0 m t) pc L (rf E (kAc q i) :: st) := gw_Ac_shares C hq.1 hi hl d (by rw [sm_ne hq.2]; exact kk)
theorem gx_Ac_use (C : Cw g own cc nL h l E) (hq : q < 2 ∧ q ≠ m) {i : Nat} (hi : i < 6) {idx : Nat} (hl : Cond.fieldLink own idx "GreatMachine$Account" "use" "I" ∈ lw_w) (d : decode cc pc = .ok (.getfield idx, 3)) (kk : g (sm S0 m t) (pc + 3) L (iv (S0 q 16 i) :: st)) : g (sm S0 m t) pc L (rf E (kAc q i) :: st) := gw_Ac_use C hq.1 hi hl d (by rw [sm_ne hq.2]; exact kk)
theorem gx_Jb_account (C : Cw g own cc nL h l E) (hq : q < 2 ∧ q ≠ m) {i : Nat} (hi : i < 30) {idx : Nat} (hl : Cond.fieldLink own idx "GreatMachine$Job" "account" "I" ∈ lw_w) (d : decode cc pc = .ok (.getfield idx, 3)) (kk : g (sm S0 m t) (pc + 3) L (iv (S0 q 17 i) :: st)) : g (sm S0 m t) pc L (rf E (kJb q i) :: st) := gw_Jb_account C hq.1 hi hl d (by rw [sm_ne hq.2]; exact kk)
theorem gx_Jb_nodes (C : Cw g own cc nL h l E) (hq : q < 2 ∧ q ≠ m) {i : Nat} (hi : i < 30) {idx : Nat} (hl : Cond.fieldLink own idx "GreatMachine$Job" "nodes" "I" ∈ lw_w) (d : decode cc pc = .ok (.getfield idx, 3)) (kk : g (sm S0 m t) (pc + 3) L (iv (S0 q 18 i) :: st)) : g (sm S0 m t) pc L (rf E (kJb q i) :: st) := gw_Jb_nodes C hq.1 hi hl d (by rw [sm_ne hq.2]; exact kk)
theorem gx_Jb_licences (C : Cw g own cc nL h l E) (hq : q < 2 ∧ q ≠ m) {i : Nat} (hi : i < 30) {idx : Nat} (hl : Cond.fieldLink own idx "GreatMachine$Job" "licences" "I" ∈ lw_w) (d : decode cc pc = .ok (.getfield idx, 3)) (kk : g (sm S0 m t) (pc + 3) L (iv (S0 q 19 i) :: st)) : g (sm S0 m t) pc L (rf E (kJb q i) :: st) := gw_Jb_licences C hq.1 hi hl d (by rw [sm_ne hq.2]; exact kk)
theorem gx_Jb_limit (C : Cw g own cc nL h l E) (hq : q < 2 ∧ q ≠ m) {i : Nat} (hi : i < 30) {idx : Nat} (hl : Cond.fieldLink own idx "GreatMachine$Job" "limit" "I" ∈ lw_w) (d : decode cc pc = .ok (.getfield idx, 3)) (kk : g (sm S0 m t) (pc + 3) L (iv (S0 q 20 i) :: st)) : g (sm S0 m t) pc L (rf E (kJb q i) :: st) := gw_Jb_limit C hq.1 hi hl d (by rw [sm_ne hq.2]; exact kk)
theorem gx_Jb_truly (C : Cw g own cc nL h l E) (hq : q < 2 ∧ q ≠ m) {i : Nat} (hi : i < 30) {idx : Nat} (hl : Cond.fieldLink own idx "GreatMachine$Job" "truly" "I" ∈ lw_w) (d : decode cc pc = .ok (.getfield idx, 3)) (kk : g (sm S0 m t) (pc + 3) L (iv (S0 q 21 i) :: st)) : g (sm S0 m t) pc L (rf E (kJb q i) :: st) := gw_Jb_truly C hq.1 hi hl d (by rw [sm_ne hq.2]; exact kk)
theorem gx_Jb_save (C : Cw g own cc nL h l E) (hq : q < 2 ∧ q ≠ m) {i : Nat} (hi : i < 30) {idx : Nat} (hl : Cond.fieldLink own idx "GreatMachine$Job" "save" "I" ∈ lw_w) (d : decode cc pc = .ok (.getfield idx, 3)) (kk : g (sm S0 m t) (pc + 3) L (iv (S0 q 22 i) :: st)) : g (sm S0 m t) pc L (rf E (kJb q i) :: st) := gw_Jb_save C hq.1 hi hl d (by rw [sm_ne hq.2]; exact kk)
theorem gx_Jb_ahead (C : Cw g own cc nL h l E) (hq : q < 2 ∧ q ≠ m) {i : Nat} (hi : i < 30) {idx : Nat} (hl : Cond.fieldLink own idx "GreatMachine$Job" "ahead" "I" ∈ lw_w) (d : decode cc pc = .ok (.getfield idx, 3)) (kk : g (sm S0 m t) (pc + 3) L (iv (S0 q 23 i) :: st)) : g (sm S0 m t) pc L (rf E (kJb q i) :: st) := gw_Jb_ahead C hq.1 hi hl d (by rw [sm_ne hq.2]; exact kk)
theorem gx_Jb_state (C : Cw g own cc nL h l E) (hq : q < 2 ∧ q ≠ m) {i : Nat} (hi : i < 30) {idx : Nat} (hl : Cond.fieldLink own idx "GreatMachine$Job" "state" "I" ∈ lw_w) (d : decode cc pc = .ok (.getfield idx, 3)) (kk : g (sm S0 m t) (pc + 3) L (iv (S0 q 24 i) :: st)) : g (sm S0 m t) pc L (rf E (kJb q i) :: st) := gw_Jb_state C hq.1 hi hl d (by rw [sm_ne hq.2]; exact kk)
theorem gx_Jb_begun (C : Cw g own cc nL h l E) (hq : q < 2 ∧ q ≠ m) {i : Nat} (hi : i < 30) {idx : Nat} (hl : Cond.fieldLink own idx "GreatMachine$Job" "begun" "I" ∈ lw_w) (d : decode cc pc = .ok (.getfield idx, 3)) (kk : g (sm S0 m t) (pc + 3) L (iv (S0 q 25 i) :: st)) : g (sm S0 m t) pc L (rf E (kJb q i) :: st) := gw_Jb_begun C hq.1 hi hl d (by rw [sm_ne hq.2]; exact kk)
theorem gx_Jb_ended (C : Cw g own cc nL h l E) (hq : q < 2 ∧ q ≠ m) {i : Nat} (hi : i < 30) {idx : Nat} (hl : Cond.fieldLink own idx "GreatMachine$Job" "ended" "I" ∈ lw_w) (d : decode cc pc = .ok (.getfield idx, 3)) (kk : g (sm S0 m t) (pc + 3) L (iv (S0 q 26 i) :: st)) : g (sm S0 m t) pc L (rf E (kJb q i) :: st) := gw_Jb_ended C hq.1 hi hl d (by rw [sm_ne hq.2]; exact kk)
theorem gx_Jb_saved (C : Cw g own cc nL h l E) (hq : q < 2 ∧ q ≠ m) {i : Nat} (hi : i < 30) {idx : Nat} (hl : Cond.fieldLink own idx "GreatMachine$Job" "saved" "I" ∈ lw_w) (d : decode cc pc = .ok (.getfield idx, 3)) (kk : g (sm S0 m t) (pc + 3) L (iv (S0 q 27 i) :: st)) : g (sm S0 m t) pc L (rf E (kJb q i) :: st) := gw_Jb_saved C hq.1 hi hl d (by rw [sm_ne hq.2]; exact kk)
theorem gx_Jb_counted (C : Cw g own cc nL h l E) (hq : q < 2 ∧ q ≠ m) {i : Nat} (hi : i < 30) {idx : Nat} (hl : Cond.fieldLink own idx "GreatMachine$Job" "counted" "I" ∈ lw_w) (d : decode cc pc = .ok (.getfield idx, 3)) (kk : g (sm S0 m t) (pc + 3) L (iv (S0 q 28 i) :: st)) : g (sm S0 m t) pc L (rf E (kJb q i) :: st) := gw_Jb_counted C hq.1 hi hl d (by rw [sm_ne hq.2]; exact kk)
theorem gx_Jb_takesUntil (C : Cw g own cc nL h l E) (hq : q < 2 ∧ q ≠ m) {i : Nat} (hi : i < 30) {idx : Nat} (hl : Cond.fieldLink own idx "GreatMachine$Job" "takesUntil" "I" ∈ lw_w) (d : decode cc pc = .ok (.getfield idx, 3)) (kk : g (sm S0 m t) (pc + 3) L (iv (S0 q 29 i) :: st)) : g (sm S0 m t) pc L (rf E (kJb q i) :: st) := gw_Jb_takesUntil C hq.1 hi hl d (by rw [sm_ne hq.2]; exact kk)
theorem gx_Hd_nodes (C : Cw g own cc nL h l E) (hq : q < 2 ∧ q ≠ m) {i : Nat} (hi : i < 9) {idx : Nat} (hl : Cond.fieldLink own idx "GreatMachine$Hold" "nodes" "I" ∈ lw_w) (d : decode cc pc = .ok (.getfield idx, 3)) (kk : g (sm S0 m t) (pc + 3) L (iv (S0 q 31 i) :: st)) : g (sm S0 m t) pc L (rf E (kHd q i) :: st) := gw_Hd_nodes C hq.1 hi hl d (by rw [sm_ne hq.2]; exact kk)
theorem gx_Hd_licences (C : Cw g own cc nL h l E) (hq : q < 2 ∧ q ≠ m) {i : Nat} (hi : i < 9) {idx : Nat} (hl : Cond.fieldLink own idx "GreatMachine$Hold" "licences" "I" ∈ lw_w) (d : decode cc pc = .ok (.getfield idx, 3)) (kk : g (sm S0 m t) (pc + 3) L (iv (S0 q 32 i) :: st)) : g (sm S0 m t) pc L (rf E (kHd q i) :: st) := gw_Hd_licences C hq.1 hi hl d (by rw [sm_ne hq.2]; exact kk)
theorem gx_Hd_from (C : Cw g own cc nL h l E) (hq : q < 2 ∧ q ≠ m) {i : Nat} (hi : i < 9) {idx : Nat} (hl : Cond.fieldLink own idx "GreatMachine$Hold" "from" "I" ∈ lw_w) (d : decode cc pc = .ok (.getfield idx, 3)) (kk : g (sm S0 m t) (pc + 3) L (iv (S0 q 33 i) :: st)) : g (sm S0 m t) pc L (rf E (kHd q i) :: st) := gw_Hd_from C hq.1 hi hl d (by rw [sm_ne hq.2]; exact kk)
theorem gx_Hd_to (C : Cw g own cc nL h l E) (hq : q < 2 ∧ q ≠ m) {i : Nat} (hi : i < 9) {idx : Nat} (hl : Cond.fieldLink own idx "GreatMachine$Hold" "to" "I" ∈ lw_w) (d : decode cc pc = .ok (.getfield idx, 3)) (kk : g (sm S0 m t) (pc + 3) L (iv (S0 q 34 i) :: st)) : g (sm S0 m t) pc L (rf E (kHd q i) :: st) := gw_Hd_to C hq.1 hi hl d (by rw [sm_ne hq.2]; exact kk)
theorem gx_Mc_rackCount (C : Cw g own cc nL h l E) (hq : q < 2 ∧ q ≠ m) {idx : Nat} (hl : Cond.fieldLink own idx "GreatMachine$Machine" "rackCount" "I" ∈ lw_w) (d : decode cc pc = .ok (.getfield idx, 3)) (kk : g (sm S0 m t) (pc + 3) L (iv (S0 q 0 0) :: st)) : g (sm S0 m t) pc L (rf E (kMc q) :: st) := gw_Mc_rackCount C hq.1 hl d (by rw [sm_ne hq.2]; exact kk)
theorem gx_Mc_accountCount (C : Cw g own cc nL h l E) (hq : q < 2 ∧ q ≠ m) {idx : Nat} (hl : Cond.fieldLink own idx "GreatMachine$Machine" "accountCount" "I" ∈ lw_w) (d : decode cc pc = .ok (.getfield idx, 3)) (kk : g (sm S0 m t) (pc + 3) L (iv (S0 q 1 0) :: st)) : g (sm S0 m t) pc L (rf E (kMc q) :: st) := gw_Mc_accountCount C hq.1 hl d (by rw [sm_ne hq.2]; exact kk)
theorem gx_Mc_jobCount (C : Cw g own cc nL h l E) (hq : q < 2 ∧ q ≠ m) {idx : Nat} (hl : Cond.fieldLink own idx "GreatMachine$Machine" "jobCount" "I" ∈ lw_w) (d : decode cc pc = .ok (.getfield idx, 3)) (kk : g (sm S0 m t) (pc + 3) L (iv (S0 q 2 0) :: st)) : g (sm S0 m t) pc L (rf E (kMc q) :: st) := gw_Mc_jobCount C hq.1 hl d (by rw [sm_ne hq.2]; exact kk)
theorem gx_Mc_holdCount (C : Cw g own cc nL h l E) (hq : q < 2 ∧ q ≠ m) {idx : Nat} (hl : Cond.fieldLink own idx "GreatMachine$Machine" "holdCount" "I" ∈ lw_w) (d : decode cc pc = .ok (.getfield idx, 3)) (kk : g (sm S0 m t) (pc + 3) L (iv (S0 q 3 0) :: st)) : g (sm S0 m t) pc L (rf E (kMc q) :: st) := gw_Mc_holdCount C hq.1 hl d (by rw [sm_ne hq.2]; exact kk)
theorem gx_Mc_now (C : Cw g own cc nL h l E) (hq : q < 2 ∧ q ≠ m) {idx : Nat} (hl : Cond.fieldLink own idx "GreatMachine$Machine" "now" "I" ∈ lw_w) (d : decode cc pc = .ok (.getfield idx, 3)) (kk : g (sm S0 m t) (pc + 3) L (iv (S0 q 4 0) :: st)) : g (sm S0 m t) pc L (rf E (kMc q) :: st) := gw_Mc_now C hq.1 hl d (by rw [sm_ne hq.2]; exact kk)
theorem gx_Mc_halving (C : Cw g own cc nL h l E) (hq : q < 2 ∧ q ≠ m) {idx : Nat} (hl : Cond.fieldLink own idx "GreatMachine$Machine" "halving" "I" ∈ lw_w) (d : decode cc pc = .ok (.getfield idx, 3)) (kk : g (sm S0 m t) (pc + 3) L (iv (S0 q 5 0) :: st)) : g (sm S0 m t) pc L (rf E (kMc q) :: st) := gw_Mc_halving C hq.1 hl d (by rw [sm_ne hq.2]; exact kk)
theorem gx_Mc_licencesInAll (C : Cw g own cc nL h l E) (hq : q < 2 ∧ q ≠ m) {idx : Nat} (hl : Cond.fieldLink own idx "GreatMachine$Machine" "licencesInAll" "I" ∈ lw_w) (d : decode cc pc = .ok (.getfield idx, 3)) (kk : g (sm S0 m t) (pc + 3) L (iv (S0 q 6 0) :: st)) : g (sm S0 m t) pc L (rf E (kMc q) :: st) := gw_Mc_licencesInAll C hq.1 hl d (by rw [sm_ne hq.2]; exact kk)
theorem gx_Mc_room (C : Cw g own cc nL h l E) (hq : q < 2 ∧ q ≠ m) {idx : Nat} (hl : Cond.fieldLink own idx "GreatMachine$Machine" "room" "I" ∈ lw_w) (d : decode cc pc = .ok (.getfield idx, 3)) (kk : g (sm S0 m t) (pc + 3) L (iv (S0 q 7 0) :: st)) : g (sm S0 m t) pc L (rf E (kMc q) :: st) := gw_Mc_room C hq.1 hl d (by rw [sm_ne hq.2]; exact kk)
theorem gx_Mc_blockedJob (C : Cw g own cc nL h l E) (hq : q < 2 ∧ q ≠ m) {idx : Nat} (hl : Cond.fieldLink own idx "GreatMachine$Machine" "blockedJob" "I" ∈ lw_w) (d : decode cc pc = .ok (.getfield idx, 3)) (kk : g (sm S0 m t) (pc + 3) L (iv (S0 q 8 0) :: st)) : g (sm S0 m t) pc L (rf E (kMc q) :: st) := gw_Mc_blockedJob C hq.1 hl d (by rw [sm_ne hq.2]; exact kk)
theorem gx_Mc_keptFrom (C : Cw g own cc nL h l E) (hq : q < 2 ∧ q ≠ m) {idx : Nat} (hl : Cond.fieldLink own idx "GreatMachine$Machine" "keptFrom" "I" ∈ lw_w) (d : decode cc pc = .ok (.getfield idx, 3)) (kk : g (sm S0 m t) (pc + 3) L (iv (S0 q 9 0) :: st)) : g (sm S0 m t) pc L (rf E (kMc q) :: st) := gw_Mc_keptFrom C hq.1 hl d (by rw [sm_ne hq.2]; exact kk)
theorem gx_Mc_queueLength (C : Cw g own cc nL h l E) (hq : q < 2 ∧ q ≠ m) {idx : Nat} (hl : Cond.fieldLink own idx "GreatMachine$Machine" "queueLength" "I" ∈ lw_w) (d : decode cc pc = .ok (.getfield idx, 3)) (kk : g (sm S0 m t) (pc + 3) L (iv (S0 q 10 0) :: st)) : g (sm S0 m t) pc L (rf E (kMc q) :: st) := gw_Mc_queueLength C hq.1 hl d (by rw [sm_ne hq.2]; exact kk)
def cpF (x t : TT) (i : Nat) : TT := tu (tu (tu (tu t (100 + i) 0 (x (100 + i) 0)) (100 + i) 1 (x (100 + i) 1)) (100 + i) 2 (x (100 + i) 2)) (100 + i) 3 (x (100 + i) 3)
theorem r_copy (C : Cw g own cc nL h l E) (hh : 0 < h) (hm : m < 2) (hq : q < 2 ∧ q ≠ m) {i : Nat} (hi : i < 30) {idx : Nat} (hl : Cond.methodLink own idx arraycopyName ∈ lw_w) (hW : (st.map fun v => v.category).sum ≤ 8) (d : decode cc pc = .ok (.invokestatic idx, 3)) (kk : g (sm S0 m (cpF (S0 q) t i)) (pc + 3) L st) : g (sm S0 m t) pc L (iv 4 :: iv 0 :: rf E (kOn m i) :: iv 0 :: rf E (kOn q i) :: st) := by
  obtain ⟨p, e0, R, s, mi, args, below, meth, c, cells, slots, Q, A, H0, D, ⟨hx, hb, hml, hown, hts⟩, hE, hA, hK, hR, hg⟩ := C
  refine (hg _ _ _ _).mpr fun H locs ls hP hS hL => ?_
  have hw0 := wld_at (E := E) (S := sm S0 m t) (kOn_lt hq.1 hi)
  rw [zOn hq.1 hi, sm_ne hq.2] at hw0
  have hw1 := wld_at (E := E) (S := sm S0 m t) (kOn_lt hm hi)
  rw [zOn hm hi, sm_eq] at hw1
  have z0 : (Int32.ofInt 0).toNatClampNeg = 0 := by decide
  have z4 : (Int32.ofInt 4).toNatClampNeg = 4 := by decide
  refine va_copyi hx hb (by rw [hml]; exact hL.2.1.1.symm) hown (hts _ hl) (hts _ lw_Sys_n) (hts _ lw_Sys_s) (hts _ lw_Sys_i) hK hP (wld_D hE hA) hS (kOn q i) (kOn m i) 0 0 hw0 hw1 rfl rfl rfl (by decide) (by decide) (by decide) (by rw [z0, z4]; decide) (by rw [z0, z4]; decide) (fun _ _ => rfl) (by omega) (by
    have : nativeFrameWords "java/lang/System" "arraycopy" 5 = 7 := by decide
    omega) d (fun H1 locs1 hP1 hD1 hS1 => ?_)
  rw [z0, z4] at hP1
  have e1 : va_cpy (ar (S0 q) (100 + i)) (ar t (100 + i)) 0 0 4 = ar (cpF (S0 q) t i) (100 + i) := by
    funext a
    unfold va_cpy cpF ar tu
    by_cases h4 : a < 4
    · rw [if_pos ⟨Nat.zero_le _, by omega⟩]
      rcases (show a = 0 ∨ a = 1 ∨ a = 2 ∨ a = 3 by omega) with rfl | rfl | rfl | rfl <;> simp
    · rw [if_neg (by omega)]
      simp (disch := omega) only [if_neg]
  rw [e1, wld_set (S' := sm S0 m (cpF (S0 q) t i)) (kOn_lt hm hi) (by rw [zOn hm hi, sm_eq]) (by
    intro j hj hne
    have hx1 : ∀ (u : TT) (r : Nat) (v : Int), zcel E (sm S0 m (tu u (100 + i) r v)) j = zcel E (sm S0 m u) j := fun u r v => zM_ne hm (mx_On rfl hi) j hj hne
    unfold cpF
    rw [hx1, hx1, hx1, hx1])] at hP1
  exact (hg _ _ _ _).mp kk H1 locs1 ls hP1 hS1 hL
end OTHER
def rkB (x t : TT) (i : Nat) : TT := tu (tu (tu t 12 i (x 12 i)) 13 i (x 13 i)) 14 i (x 14 i)
theorem k_Rk_become {l : Launch} {E : Ew} {S0 : WW} {m q : Nat} {t : TT} (hm : m < 2) (hq : q < 2 ∧ q ≠ m) {i : Nat} (hi : i < 4) (hx14 : S0 q 14 i = 0 ∨ S0 q 14 i = 1) : Kf l y_Rk_become b_Rk_become 2 none 0 E (sm S0 m t) [rf E (kRk m i), rf E (kRk q i)] none (sm S0 m (rkB (S0 q) t i)) := by
  refine KfV rfl rfl (Nat.le_of_ble_eq_true rfl) (fun g C R => ?_)
  show g (sm S0 m t) 0 [some (rf E (kRk m i)), some (rf E (kRk q i))] []
  refine r_aload_n C d_Rk_become_0 rfl ?_
  refine r_aload_n C d_Rk_become_1 rfl ?_
  refine gx_Rk_nodes C hq (by omega) lk_Rk_7 d_Rk_become_2 ?_
  refine p_Rk_nodes C hm (by omega) lk_Rk_7 d_Rk_become_5 ?_
  refine r_aload_n C d_Rk_become_8 rfl ?_
  refine r_aload_n C d_Rk_become_9 rfl ?_
  refine gx_Rk_unused C hq (by omega) lk_Rk_13 d_Rk_become_10 ?_
  refine p_Rk_unused C hm (by omega) lk_Rk_13 d_Rk_become_13 ?_
  refine r_aload_n C d_Rk_become_16 rfl ?_
  refine r_aload_n C d_Rk_become_17 rfl ?_
  refine gx_Rk_drained C hq (by omega) lk_Rk_16 d_Rk_become_18 ?_
  refine p_Rk_drained C hm (by omega) hx14 lk_Rk_16 d_Rk_become_21 ?_
  exact R d_Rk_become_24 rfl
def acB (x t : TT) (i : Nat) : TT := tu (tu t 15 i (x 15 i)) 16 i (x 16 i)
theorem k_Ac_become {l : Launch} {E : Ew} {S0 : WW} {m q : Nat} {t : TT} (hm : m < 2) (hq : q < 2 ∧ q ≠ m) {i : Nat} (hi : i < 6) : Kf l y_Ac_become b_Ac_become 2 none 0 E (sm S0 m t) [rf E (kAc m i), rf E (kAc q i)] none (sm S0 m (acB (S0 q) t i)) := by
  refine KfV rfl rfl (Nat.le_of_ble_eq_true rfl) (fun g C R => ?_)
  show g (sm S0 m t) 0 [some (rf E (kAc m i)), some (rf E (kAc q i))] []
  refine r_aload_n C d_Ac_become_0 rfl ?_
  refine r_aload_n C d_Ac_become_1 rfl ?_
  refine gx_Ac_shares C hq (by omega) lk_Ac_7 d_Ac_become_2 ?_
  refine p_Ac_shares C hm (by omega) lk_Ac_7 d_Ac_become_5 ?_
  refine r_aload_n C d_Ac_become_8 rfl ?_
  refine r_aload_n C d_Ac_become_9 rfl ?_
  refine gx_Ac_use C hq (by omega) lk_Ac_13 d_Ac_become_10 ?_
  refine p_Ac_use C hm (by omega) lk_Ac_13 d_Ac_become_13 ?_
  exact R d_Ac_become_16 rfl
theorem k_Hd_become_x {l : Launch} {E : Ew} {S0 : WW} {m q : Nat} {t : TT} (hm : m < 2) (hq : q < 2 ∧ q ≠ m) {i : Nat} (hi : i < 9) : Kf l y_Hd_become b_Hd_become 2 none 1 E (sm S0 m t) [rf E (kHd m i), rf E (kHd q i)] none (sm S0 m (hdF t i (S0 q 31 i) (S0 q 32 i) (S0 q 33 i) (S0 q 34 i))) := by
  refine KfV rfl rfl (Nat.le_of_ble_eq_true rfl) (fun g C R => ?_)
  show g (sm S0 m t) 0 [some (rf E (kHd m i)), some (rf E (kHd q i))] []
  refine r_aload_n C d_Hd_become_0 rfl ?_
  refine r_aload_n C d_Hd_become_1 rfl ?_
  refine gx_Hd_nodes C hq (by omega) lk_Hd_7 d_Hd_become_2 ?_
  refine r_aload_n C d_Hd_become_5 rfl ?_
  refine gx_Hd_licences C hq (by omega) lk_Hd_13 d_Hd_become_6 ?_
  refine r_aload_n C d_Hd_become_9 rfl ?_
  refine gx_Hd_from C hq (by omega) lk_Hd_16 d_Hd_become_10 ?_
  refine r_aload_n C d_Hd_become_13 rfl ?_
  refine gx_Hd_to C hq (by omega) lk_Hd_19 d_Hd_become_14 ?_
  refine r_cV4v C (k_Hd_set hm hi) (by decide) (by decide) ml_Hd_22 mn_Hd_set ms_Hd_set mc_Hd_set mi_Hd_set md_Hd_set (kHd_lt hm (by omega)) (zHd hm (by omega)) rfl rfl (Nat.le_of_ble_eq_true rfl) d_Hd_become_17 ?_
  exact R d_Hd_become_20 rfl
def jbB (x t : TT) (i : Nat) : TT := cpF x (tu (tu (tu (tu (tu (tu (tu (tu (tu (tu (tu (tu (tu (t) 17 i (x 17 i)) 18 i (x 18 i)) 19 i (x 19 i)) 20 i (x 20 i)) 21 i (x 21 i)) 22 i (x 22 i)) 23 i (x 23 i)) 24 i (x 24 i)) 25 i (x 25 i)) 26 i (x 26 i)) 27 i (x 27 i)) 28 i (x 28 i)) 29 i (x 29 i)) i
theorem k_Jb_become {l : Launch} {E : Ew} {S0 : WW} {m q : Nat} {t : TT} (hm : m < 2) (hq : q < 2 ∧ q ≠ m) {i : Nat} (hi : i < 30) : Kf l y_Jb_become b_Jb_become 2 none 1 E (sm S0 m t) [rf E (kJb m i), rf E (kJb q i)] none (sm S0 m (jbB (S0 q) t i)) := by
  refine KfV rfl rfl (Nat.le_of_ble_eq_true rfl) (fun g C R => ?_)
  show g (sm S0 m t) 0 [some (rf E (kJb m i)), some (rf E (kJb q i))] []
  refine r_aload_n C d_Jb_become_0 rfl ?_
  refine r_aload_n C d_Jb_become_1 rfl ?_
  refine gx_Jb_account C hq (by omega) lk_Jb_15 d_Jb_become_2 ?_
  refine p_Jb_account C hm (by omega) lk_Jb_15 d_Jb_become_5 ?_
  refine r_aload_n C d_Jb_become_8 rfl ?_
  refine r_aload_n C d_Jb_become_9 rfl ?_
  refine gx_Jb_nodes C hq (by omega) lk_Jb_19 d_Jb_become_10 ?_
  refine p_Jb_nodes C hm (by omega) lk_Jb_19 d_Jb_become_13 ?_
  refine r_aload_n C d_Jb_become_16 rfl ?_
  refine r_aload_n C d_Jb_become_17 rfl ?_
  refine gx_Jb_licences C hq (by omega) lk_Jb_22 d_Jb_become_18 ?_
  refine p_Jb_licences C hm (by omega) lk_Jb_22 d_Jb_become_21 ?_
  refine r_aload_n C d_Jb_become_24 rfl ?_
  refine r_aload_n C d_Jb_become_25 rfl ?_
  refine gx_Jb_limit C hq (by omega) lk_Jb_25 d_Jb_become_26 ?_
  refine p_Jb_limit C hm (by omega) lk_Jb_25 d_Jb_become_29 ?_
  refine r_aload_n C d_Jb_become_32 rfl ?_
  refine r_aload_n C d_Jb_become_33 rfl ?_
  refine gx_Jb_truly C hq (by omega) lk_Jb_28 d_Jb_become_34 ?_
  refine p_Jb_truly C hm (by omega) lk_Jb_28 d_Jb_become_37 ?_
  refine r_aload_n C d_Jb_become_40 rfl ?_
  refine r_aload_n C d_Jb_become_41 rfl ?_
  refine gx_Jb_save C hq (by omega) lk_Jb_31 d_Jb_become_42 ?_
  refine p_Jb_save C hm (by omega) lk_Jb_31 d_Jb_become_45 ?_
  refine r_aload_n C d_Jb_become_48 rfl ?_
  refine r_aload_n C d_Jb_become_49 rfl ?_
  refine gx_Jb_ahead C hq (by omega) lk_Jb_34 d_Jb_become_50 ?_
  refine p_Jb_ahead C hm (by omega) lk_Jb_34 d_Jb_become_53 ?_
  refine r_aload_n C d_Jb_become_56 rfl ?_
  refine r_aload_n C d_Jb_become_57 rfl ?_
  refine gx_Jb_state C hq (by omega) lk_Jb_37 d_Jb_become_58 ?_
  refine p_Jb_state C hm (by omega) lk_Jb_37 d_Jb_become_61 ?_
  refine r_aload_n C d_Jb_become_64 rfl ?_
  refine r_aload_n C d_Jb_become_65 rfl ?_
  refine gx_Jb_begun C hq (by omega) lk_Jb_40 d_Jb_become_66 ?_
  refine p_Jb_begun C hm (by omega) lk_Jb_40 d_Jb_become_69 ?_
  refine r_aload_n C d_Jb_become_72 rfl ?_
  refine r_aload_n C d_Jb_become_73 rfl ?_
  refine gx_Jb_ended C hq (by omega) lk_Jb_43 d_Jb_become_74 ?_
  refine p_Jb_ended C hm (by omega) lk_Jb_43 d_Jb_become_77 ?_
  refine r_aload_n C d_Jb_become_80 rfl ?_
  refine r_aload_n C d_Jb_become_81 rfl ?_
  refine gx_Jb_saved C hq (by omega) lk_Jb_46 d_Jb_become_82 ?_
  refine p_Jb_saved C hm (by omega) lk_Jb_46 d_Jb_become_85 ?_
  refine r_aload_n C d_Jb_become_88 rfl ?_
  refine r_aload_n C d_Jb_become_89 rfl ?_
  refine gx_Jb_counted C hq (by omega) lk_Jb_49 d_Jb_become_90 ?_
  refine p_Jb_counted C hm (by omega) lk_Jb_49 d_Jb_become_93 ?_
  refine r_aload_n C d_Jb_become_96 rfl ?_
  refine r_aload_n C d_Jb_become_97 rfl ?_
  refine gx_Jb_takesUntil C hq (by omega) lk_Jb_52 d_Jb_become_98 ?_
  refine p_Jb_takesUntil C hm (by omega) lk_Jb_52 d_Jb_become_101 ?_
  refine r_aload_n C d_Jb_become_104 rfl ?_
  refine g_Jb_nodesOn C hq.1 (by omega) lk_Jb_9 d_Jb_become_105 ?_
  refine r_iconst C d_Jb_become_108 ?_
  refine r_aload_n C d_Jb_become_109 rfl ?_
  refine g_Jb_nodesOn C hm (by omega) lk_Jb_9 d_Jb_become_110 ?_
  refine r_iconst C d_Jb_become_113 ?_
  refine r_iconst C d_Jb_become_114 ?_
  refine r_copy C (by decide) hm hq (by omega) lw_Sys_l (Nat.le_of_ble_eq_true rfl) d_Jb_become_115 ?_
  exact R d_Jb_become_118 rfl
def be0 (x t : TT) : TT := tu (tu (tu (tu (tu (tu (tu (tu t 0 0 (x 0 0)) 1 0 (x 1 0)) 2 0 (x 2 0)) 3 0 (x 3 0)) 4 0 (x 4 0)) 5 0 (x 5 0)) 6 0 (x 6 0)) 7 0 (x 7 0)
def beR (x t : TT) (n : Nat) : TT := fun f a => if (f = 12 ∨ f = 13 ∨ f = 14) ∧ a < n then x f a else t f a
def beA (x t : TT) (n : Nat) : TT := fun f a => if (f = 15 ∨ f = 16) ∧ a < n then x f a else t f a
def beJ (x t : TT) (n : Nat) : TT := fun f a => if (17 ≤ f ∧ f ≤ 29) ∧ a < n then x f a else if (100 ≤ f ∧ f < 100 + n) ∧ a < 4 then x f a else t f a
def beH (x t : TT) (n : Nat) : TT := fun f a => if (31 ≤ f ∧ f ≤ 34) ∧ a < n then x f a else t f a
def beF (x t : TT) : TT := beH x (beJ x (beA x (beR x (be0 x t) (x 0 0).toNat) (x 1 0).toNat) (x 2 0).toNat) (x 3 0).toNat
theorem beR_0 (x t : TT) : beR x t 0 = t := by funext f a; simp [beR]
theorem beA_0 (x t : TT) : beA x t 0 = t := by funext f a; simp [beA]
theorem beJ_0 (x t : TT) : beJ x t 0 = t := by
  funext f a; unfold beJ; rw [if_neg (by omega), if_neg (by omega)]
theorem beH_0 (x t : TT) : beH x t 0 = t := by funext f a; simp [beH]
theorem beR_s (x t : TT) (n : Nat) : rkB x (beR x t n) n = beR x t (n + 1) := by
  funext f a; simp only [rkB, tu, beR]; grind
theorem beA_s (x t : TT) (n : Nat) : acB x (beA x t n) n = beA x t (n + 1) := by
  funext f a; simp only [acB, tu, beA]; grind
theorem beH_s (x t : TT) (n : Nat) : hdF (beH x t n) n (x 31 n) (x 32 n) (x 33 n) (x 34 n) = beH x t (n + 1) := by
  funext f a; simp only [hdF, tu, beH]; grind
theorem beJ_s (x t : TT) (n : Nat) : jbB x (beJ x t n) n = beJ x t (n + 1) := by
  funext f a
  by_cases h1 : 17 ≤ f ∧ f ≤ 29
  · have e1 : jbB x (beJ x t n) n f a = if a = n then x f a else beJ x t n f a := by
      unfold jbB cpF
      rw [tu_ne (by omega), tu_ne (by omega), tu_ne (by omega), tu_ne (by omega)]
      rcases (show f = 17 ∨ f = 18 ∨ f = 19 ∨ f = 20 ∨ f = 21 ∨ f = 22 ∨ f = 23 ∨ f = 24 ∨ f = 25 ∨ f = 26 ∨ f = 27 ∨ f = 28 ∨ f = 29 by omega) with rfl | rfl | rfl | rfl | rfl | rfl | rfl | rfl | rfl | rfl | rfl | rfl | rfl <;>
        (by_cases h2 : a = n
         · subst h2; simp [tu]
         · simp [tu, h2])
    rw [e1]
    unfold beJ
    by_cases h2 : a = n
    · rw [if_pos h2, if_pos ⟨h1, by omega⟩]
    · rw [if_neg h2]
      by_cases h3 : a < n
      · rw [if_pos ⟨h1, h3⟩, if_pos ⟨h1, by omega⟩]
      · rw [if_neg (by omega), if_neg (by omega), if_neg (by omega), if_neg (by omega)]
  · have e1 : jbB x (beJ x t n) n f a = if f = 100 + n ∧ a < 4 then x f a else beJ x t n f a := by
      unfold jbB cpF
      by_cases h2 : f = 100 + n
      · subst h2
        by_cases h3 : a < 4
        · rw [if_pos ⟨rfl, h3⟩]
          rcases (show a = 0 ∨ a = 1 ∨ a = 2 ∨ a = 3 by omega) with rfl | rfl | rfl | rfl <;> simp [tu]
        · rw [if_neg (by omega)]
          simp (disch := omega) only [tu_ne]
      · rw [if_neg (by omega)]
        simp (disch := omega) only [tu_ne]
    rw [e1]
    unfold beJ
    have k1 : ∀ (k : Nat) (u v : Int), (if (17 ≤ f ∧ f ≤ 29) ∧ a < k then u else v) = v := fun k u v => if_neg (fun z => h1 z.1)
    rw [k1, k1]
    by_cases h2 : f = 100 + n ∧ a < 4
    · rw [if_pos h2, if_pos ⟨by omega, h2.2⟩]
    · rw [if_neg h2]
      by_cases h3 : (100 ≤ f ∧ f < 100 + n) ∧ a < 4
      · rw [if_pos h3, if_pos ⟨by omega, h3.2⟩]
      · rw [if_neg h3, if_neg (fun z => h3 ⟨⟨z.1.1, by have := z.1.2; have := z.2; omega⟩, z.2⟩)]
theorem beR_ne {x t : TT} {n f a : Nat} (h : f < 12 ∨ 14 < f) : beR x t n f a = t f a := by unfold beR; rw [if_neg (by omega)]
theorem beA_ne {x t : TT} {n f a : Nat} (h : f < 15 ∨ 16 < f) : beA x t n f a = t f a := by unfold beA; rw [if_neg (by omega)]
theorem beJ_ne {x t : TT} {n f a : Nat} (h : f < 17 ∨ (29 < f ∧ f < 100)) : beJ x t n f a = t f a := by unfold beJ; rw [if_neg (by omega), if_neg (by omega)]
theorem beH_ne {x t : TT} {n f a : Nat} (h : f < 31 ∨ 34 < f) : beH x t n f a = t f a := by unfold beH; rw [if_neg (by omega)]
theorem be0_0 (x t : TT) : be0 x t 0 0 = x 0 0 := by unfold be0; simp [tu]
theorem be0_1 (x t : TT) : be0 x t 1 0 = x 1 0 := by unfold be0; simp [tu]
theorem be0_2 (x t : TT) : be0 x t 2 0 = x 2 0 := by unfold be0; simp [tu]
theorem be0_3 (x t : TT) : be0 x t 3 0 = x 3 0 := by unfold be0; simp [tu]
theorem k_Mc_become {l : Launch} {E : Ew} {S0 : WW} {m q : Nat} {t : TT} (hm : m < 2) (hq : q < 2 ∧ q ≠ m) (hB : Bd (S0 q)) : Kf l y_Mc_become b_Mc_become 3 none 2 E (sm S0 m t) [rf E (kMc m), rf E (kMc q)] none (sm S0 m (beF (S0 q) t)) := by
  refine KfV rfl rfl (Nat.le_of_ble_eq_true rfl) (fun g C R => ?_)
  show g (sm S0 m t) 0 [some (rf E (kMc m)), some (rf E (kMc q)), none] []
  have b0 := bd0 hB 0
  have b1 := bd1 hB 0
  have b2 := bd2 hB 0
  have b3 := bd3 hB 0
  have hl4 : ∀ (k i : Nat), i ≤ (S0 q 3 0).toNat → (S0 q 3 0).toNat - i < k → g (sm S0 m (beH (S0 q) (beJ (S0 q) (beA (S0 q) (beR (S0 q) (be0 (S0 q) t) (S0 q 0 0).toNat) (S0 q 1 0).toNat) (S0 q 2 0).toNat) i)) 159 [some (rf E (kMc m)), some (rf E (kMc q)), some (iv (i : Int))] [] := by
    intro k
    induction k with
    | zero => intro i h1 h2; omega
    | succ k ih =>
      intro i h1 h2
      refine r_iload_n C d_Mc_become_159 rfl ?_
      refine r_aload_n C d_Mc_become_160 rfl ?_
      refine g_Mc_holdCount C hm lk_Mc_65 d_Mc_become_161 ?_
      try simp (disch := omega) only [beR_ne, beA_ne, beJ_ne, beH_ne]
      rw [be0_3]
      refine r_icmp_ge (tgt := 188) C d_Mc_become_164 (by decide) (by first | assumption | exact bd_ir (by assumption) rfl | exact b2i_ir _ | exact pb_ir _ | exact ir_mk (by omega) (by omega)) (by first | assumption | exact bd_ir (by assumption) rfl | exact b2i_ir _ | exact pb_ir _ | exact ir_mk (by omega) (by omega)) (fun c164 => ?_) (fun c164 => ?_)
      · exact R d_Mc_become_188 (by rw [show i = (S0 q 3 0).toNat by omega]; rfl)
      · refine r_aload_n C d_Mc_become_167 rfl ?_
        refine g_Mc_holds C hm lk_Mc_31 d_Mc_become_168 ?_
        refine r_iload_n C d_Mc_become_171 rfl ?_
        refine x_Hd C hm _ rfl (by omega) d_Mc_become_172 ?_
        refine r_aload_n C d_Mc_become_173 rfl ?_
        refine g_Mc_holds C hq.1 lk_Mc_31 d_Mc_become_174 ?_
        refine r_iload_n C d_Mc_become_177 rfl ?_
        refine x_Hd C hq.1 _ rfl (by omega) d_Mc_become_178 ?_
        refine r_cV1v C (k_Hd_become_x hm hq (i := i) (by omega)) (by decide) (by decide) ml_Mc_84 mn_Hd_become ms_Hd_become mc_Hd_become mi_Hd_become md_Hd_become (kHd_lt hm (by omega)) (zHd hm (by omega)) rfl rfl (Nat.le_of_ble_eq_true rfl) d_Mc_become_179 ?_
        rw [beH_s]
        refine r_iinc_2 C d_Mc_become_182 ?_
        refine r_goto (tgt := 159) C d_Mc_become_185 (by decide) ?_
        exact ih (i + 1) (by omega) (by omega)
  have hl3 : ∀ (k i : Nat), i ≤ (S0 q 2 0).toNat → (S0 q 2 0).toNat - i < k → g (sm S0 m (beJ (S0 q) (beA (S0 q) (beR (S0 q) (be0 (S0 q) t) (S0 q 0 0).toNat) (S0 q 1 0).toNat) i)) 128 [some (rf E (kMc m)), some (rf E (kMc q)), some (iv (i : Int))] [] := by
    intro k
    induction k with
    | zero => intro i h1 h2; omega
    | succ k ih =>
      intro i h1 h2
      refine r_iload_n C d_Mc_become_128 rfl ?_
      refine r_aload_n C d_Mc_become_129 rfl ?_
      refine g_Mc_jobCount C hm lk_Mc_62 d_Mc_become_130 ?_
      try simp (disch := omega) only [beR_ne, beA_ne, beJ_ne, beH_ne]
      rw [be0_2]
      refine r_icmp_ge (tgt := 157) C d_Mc_become_133 (by decide) (by first | assumption | exact bd_ir (by assumption) rfl | exact b2i_ir _ | exact pb_ir _ | exact ir_mk (by omega) (by omega)) (by first | assumption | exact bd_ir (by assumption) rfl | exact b2i_ir _ | exact pb_ir _ | exact ir_mk (by omega) (by omega)) (fun c133 => ?_) (fun c133 => ?_)
      · refine r_iconst C d_Mc_become_157 ?_
        refine r_istore_2 C d_Mc_become_158 ?_
        rw [show i = (S0 q 2 0).toNat by omega]
        have h := hl4 ((S0 q 3 0).toNat + 1) 0 (by omega) (by omega)
        rw [beH_0] at h
        exact h
      · refine r_aload_n C d_Mc_become_136 rfl ?_
        refine g_Mc_jobs C hm lk_Mc_25 d_Mc_become_137 ?_
        refine r_iload_n C d_Mc_become_140 rfl ?_
        refine x_Jb C hm _ rfl (by omega) d_Mc_become_141 ?_
        refine r_aload_n C d_Mc_become_142 rfl ?_
        refine g_Mc_jobs C hq.1 lk_Mc_25 d_Mc_become_143 ?_
        refine r_iload_n C d_Mc_become_146 rfl ?_
        refine x_Jb C hq.1 _ rfl (by omega) d_Mc_become_147 ?_
        refine r_cV1v C (k_Jb_become hm hq (i := i) (by omega)) (by decide) (by decide) ml_Mc_81 mn_Jb_become ms_Jb_become mc_Jb_become mi_Jb_become md_Jb_become (kJb_lt hm (by omega)) (zJb hm (by omega)) rfl rfl (Nat.le_of_ble_eq_true rfl) d_Mc_become_148 ?_
        rw [beJ_s]
        refine r_iinc_2 C d_Mc_become_151 ?_
        refine r_goto (tgt := 128) C d_Mc_become_154 (by decide) ?_
        exact ih (i + 1) (by omega) (by omega)
  have hl2 : ∀ (k i : Nat), i ≤ (S0 q 1 0).toNat → (S0 q 1 0).toNat - i < k → g (sm S0 m (beA (S0 q) (beR (S0 q) (be0 (S0 q) t) (S0 q 0 0).toNat) i)) 97 [some (rf E (kMc m)), some (rf E (kMc q)), some (iv (i : Int))] [] := by
    intro k
    induction k with
    | zero => intro i h1 h2; omega
    | succ k ih =>
      intro i h1 h2
      refine r_iload_n C d_Mc_become_97 rfl ?_
      refine r_aload_n C d_Mc_become_98 rfl ?_
      refine g_Mc_accountCount C hm lk_Mc_59 d_Mc_become_99 ?_
      try simp (disch := omega) only [beR_ne, beA_ne, beJ_ne, beH_ne]
      rw [be0_1]
      refine r_icmp_ge (tgt := 126) C d_Mc_become_102 (by decide) (by first | assumption | exact bd_ir (by assumption) rfl | exact b2i_ir _ | exact pb_ir _ | exact ir_mk (by omega) (by omega)) (by first | assumption | exact bd_ir (by assumption) rfl | exact b2i_ir _ | exact pb_ir _ | exact ir_mk (by omega) (by omega)) (fun c102 => ?_) (fun c102 => ?_)
      · refine r_iconst C d_Mc_become_126 ?_
        refine r_istore_2 C d_Mc_become_127 ?_
        rw [show i = (S0 q 1 0).toNat by omega]
        have h := hl3 ((S0 q 2 0).toNat + 1) 0 (by omega) (by omega)
        rw [beJ_0] at h
        exact h
      · refine r_aload_n C d_Mc_become_105 rfl ?_
        refine g_Mc_accounts C hm lk_Mc_19 d_Mc_become_106 ?_
        refine r_iload_n C d_Mc_become_109 rfl ?_
        refine x_Ac C hm _ rfl (by omega) d_Mc_become_110 ?_
        refine r_aload_n C d_Mc_become_111 rfl ?_
        refine g_Mc_accounts C hq.1 lk_Mc_19 d_Mc_become_112 ?_
        refine r_iload_n C d_Mc_become_115 rfl ?_
        refine x_Ac C hq.1 _ rfl (by omega) d_Mc_become_116 ?_
        refine r_cV1v C (k_Ac_become hm hq (i := i) (by omega)) (by decide) (by decide) ml_Mc_78 mn_Ac_become ms_Ac_become mc_Ac_become mi_Ac_become md_Ac_become (kAc_lt hm (by omega)) (zAc hm (by omega)) rfl rfl (Nat.le_of_ble_eq_true rfl) d_Mc_become_117 ?_
        rw [beA_s]
        refine r_iinc_2 C d_Mc_become_120 ?_
        refine r_goto (tgt := 97) C d_Mc_become_123 (by decide) ?_
        exact ih (i + 1) (by omega) (by omega)
  have hl1 : ∀ (k i : Nat), i ≤ (S0 q 0 0).toNat → (S0 q 0 0).toNat - i < k → g (sm S0 m (beR (S0 q) (be0 (S0 q) t) i)) 66 [some (rf E (kMc m)), some (rf E (kMc q)), some (iv (i : Int))] [] := by
    intro k
    induction k with
    | zero => intro i h1 h2; omega
    | succ k ih =>
      intro i h1 h2
      refine r_iload_n C d_Mc_become_66 rfl ?_
      refine r_aload_n C d_Mc_become_67 rfl ?_
      refine g_Mc_rackCount C hm lk_Mc_56 d_Mc_become_68 ?_
      try simp (disch := omega) only [beR_ne, beA_ne, beJ_ne, beH_ne]
      rw [be0_0]
      refine r_icmp_ge (tgt := 95) C d_Mc_become_71 (by decide) (by first | assumption | exact bd_ir (by assumption) rfl | exact b2i_ir _ | exact pb_ir _ | exact ir_mk (by omega) (by omega)) (by first | assumption | exact bd_ir (by assumption) rfl | exact b2i_ir _ | exact pb_ir _ | exact ir_mk (by omega) (by omega)) (fun c71 => ?_) (fun c71 => ?_)
      · refine r_iconst C d_Mc_become_95 ?_
        refine r_istore_2 C d_Mc_become_96 ?_
        rw [show i = (S0 q 0 0).toNat by omega]
        have h := hl2 ((S0 q 1 0).toNat + 1) 0 (by omega) (by omega)
        rw [beA_0] at h
        exact h
      · refine r_aload_n C d_Mc_become_74 rfl ?_
        refine g_Mc_racks C hm lk_Mc_11 d_Mc_become_75 ?_
        refine r_iload_n C d_Mc_become_78 rfl ?_
        refine x_Rk C hm _ rfl (by omega) d_Mc_become_79 ?_
        refine r_aload_n C d_Mc_become_80 rfl ?_
        refine g_Mc_racks C hq.1 lk_Mc_11 d_Mc_become_81 ?_
        refine r_iload_n C d_Mc_become_84 rfl ?_
        refine x_Rk C hq.1 _ rfl (by omega) d_Mc_become_85 ?_
        refine r_cV1v C (k_Rk_become hm hq (i := i) (by omega) (by have := bd14 hB i; omega)) (by decide) (by decide) ml_Mc_74 mn_Rk_become ms_Rk_become mc_Rk_become mi_Rk_become md_Rk_become (kRk_lt hm (by omega)) (zRk hm (by omega)) rfl rfl (Nat.le_of_ble_eq_true rfl) d_Mc_become_86 ?_
        rw [beR_s]
        refine r_iinc_2 C d_Mc_become_89 ?_
        refine r_goto (tgt := 66) C d_Mc_become_92 (by decide) ?_
        exact ih (i + 1) (by omega) (by omega)
  refine r_aload_n C d_Mc_become_0 rfl ?_
  refine r_aload_n C d_Mc_become_1 rfl ?_
  refine gx_Mc_rackCount C hq lk_Mc_56 d_Mc_become_2 ?_
  refine p_Mc_rackCount C hm lk_Mc_56 d_Mc_become_5 ?_
  refine r_aload_n C d_Mc_become_8 rfl ?_
  refine r_aload_n C d_Mc_become_9 rfl ?_
  refine gx_Mc_accountCount C hq lk_Mc_59 d_Mc_become_10 ?_
  refine p_Mc_accountCount C hm lk_Mc_59 d_Mc_become_13 ?_
  refine r_aload_n C d_Mc_become_16 rfl ?_
  refine r_aload_n C d_Mc_become_17 rfl ?_
  refine gx_Mc_jobCount C hq lk_Mc_62 d_Mc_become_18 ?_
  refine p_Mc_jobCount C hm lk_Mc_62 d_Mc_become_21 ?_
  refine r_aload_n C d_Mc_become_24 rfl ?_
  refine r_aload_n C d_Mc_become_25 rfl ?_
  refine gx_Mc_holdCount C hq lk_Mc_65 d_Mc_become_26 ?_
  refine p_Mc_holdCount C hm lk_Mc_65 d_Mc_become_29 ?_
  refine r_aload_n C d_Mc_become_32 rfl ?_
  refine r_aload_n C d_Mc_become_33 rfl ?_
  refine gx_Mc_now C hq lk_Mc_68 d_Mc_become_34 ?_
  refine p_Mc_now C hm lk_Mc_68 d_Mc_become_37 ?_
  refine r_aload_n C d_Mc_become_40 rfl ?_
  refine r_aload_n C d_Mc_become_41 rfl ?_
  refine gx_Mc_halving C hq lk_Mc_35 d_Mc_become_42 ?_
  refine p_Mc_halving C hm lk_Mc_35 d_Mc_become_45 ?_
  refine r_aload_n C d_Mc_become_48 rfl ?_
  refine r_aload_n C d_Mc_become_49 rfl ?_
  refine gx_Mc_licencesInAll C hq lk_Mc_39 d_Mc_become_50 ?_
  refine p_Mc_licencesInAll C hm lk_Mc_39 d_Mc_become_53 ?_
  refine r_aload_n C d_Mc_become_56 rfl ?_
  refine r_aload_n C d_Mc_become_57 rfl ?_
  refine gx_Mc_room C hq lk_Mc_71 d_Mc_become_58 ?_
  refine p_Mc_room C hm lk_Mc_71 d_Mc_become_61 ?_
  refine r_iconst C d_Mc_become_64 ?_
  refine r_istore_2 C d_Mc_become_65 ?_
  have h := hl1 ((S0 q 0 0).toNat + 1) 0 (by omega) (by omega)
  rw [beR_0] at h
  exact h
