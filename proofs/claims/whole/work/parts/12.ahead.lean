def iaP (t : TT) (i j : Nat) : Prop := ulP t (t 17 i).toNat (t 17 j).toNat ∨ (wr (t 16 (t 17 i).toNat) * wr (t 15 (t 17 j).toNat) = wr (t 16 (t 17 j).toNat) * wr (t 15 (t 17 i).toNat) ∧ i < j)
theorem k_Md_isAhead {l : Launch} {E : Ew} {S0 : WW} {t : TT} (hB : Bd t) {i j : Nat} (hi : i < 30) (hj : j < 30) : Kf l y_Md_isAhead b_Md_isAhead 7 (some .boolean) 0 E (sm S0 2 t) [rf E 1, iv (i : Int), iv (j : Int)] (some (iv (pb (iaP t i j)))) (sm S0 2 t) := by
  refine KfZ rfl rfl (Nat.le_of_ble_eq_true rfl) (fun g C R => ?_)
  show g (sm S0 2 t) 0 [some (rf E 1), some (iv (i : Int)), some (iv (j : Int)), none, none, none, none] []
  have bi := bd17 hB i
  have bj := bd17 hB j
  refine r_aload_n C d_Md_isAhead_0 rfl ?_
  refine g_Md_used C lk_Md_27 d_Md_isAhead_1 ?_
  refine r_aload_n C d_Md_isAhead_4 rfl ?_
  refine g_Md_account C lk_Md_30 d_Md_isAhead_5 ?_
  refine r_iload_n C d_Md_isAhead_8 rfl ?_
  refine x_Md_account C _ rfl (by omega) d_Md_isAhead_9 ?_
  refine x_Md_used C (t 17 i).toNat (by omega) (by omega) d_Md_isAhead_10 ?_
  refine r_i2l C d_Md_isAhead_11 ?_
  refine r_aload_n C d_Md_isAhead_12 rfl ?_
  refine g_Md_shares C lk_Md_24 d_Md_isAhead_13 ?_
  refine r_aload_n C d_Md_isAhead_16 rfl ?_
  refine g_Md_account C lk_Md_30 d_Md_isAhead_17 ?_
  refine r_iload_n C d_Md_isAhead_20 rfl ?_
  refine x_Md_account C _ rfl (by omega) d_Md_isAhead_21 ?_
  refine x_Md_shares C (t 17 j).toNat (by omega) (by omega) d_Md_isAhead_22 ?_
  refine r_i2l C d_Md_isAhead_23 ?_
  refine r_lmul C d_Md_isAhead_24 ?_
  have C2 := C
  obtain ⟨p, e0, R0, s, mi, args, below, meth, c, cells, slots, Q, A, H0, D, ⟨hx, hb, hml, hown, hts⟩, hE, hA, hK, hR, hg⟩ := C2
  refine (hg _ _ _ _).mpr fun H locs ls hP hS hL => ?_
  have hw1 : (wld E (sm S0 2 t))[1]? = some (E.1 1, .inr (6, oMd E t)) := by rw [wld_at (by decide), zMd, sm_eq]
  have hald : ∀ {a n f : Nat} {e : Int} {i pc : Nat} {ls : Array Slot} {rest : List Value}, (a < 31 ∧ mdt a = 0) → mdl a = n → mdf a = f → e = (i : Int) → i < n → n < 2147483648 → decode b_Md_isAhead pc = .ok (.iaload, 1) → W p l e0 R0 s mi args below meth c H locs cells slots Q (F0 mi (pc + 1) ls (.int (Int32.ofInt (t f i)) :: rest)) → W p l e0 R0 s mi args below meth c H locs cells slots Q (F0 mi pc ls (.int (Int32.ofInt e) :: .ref (E.1 (kMd a)) :: rest)) := by
    intro a n f e i pc ls rest ha hn hf he hi hn2 d kk
    have hwk := wld_at (E := E) (S := sm S0 2 t) (kMd_lt ha.1)
    rw [zMa ha.1, sm_eq, hn, hf, ha.2] at hwk
    obtain ⟨q1, q2⟩ := ir_in he hi hn2
    refine va_iald hx hb hK hP (kMd a) 0 hwk rfl q1 d ?_
    rw [q2]
    exact kk
  refine lv_lstore_n hx hb d_Md_isAhead_25 rfl hL.2.1 (by omega) rfl (fun ls1 h1 => ?_)
  have h1 : lv_has ls1 7 [(3, .long (Int64.ofInt (wr (t 16 (t 17 i).toNat) * wr (t 15 (t 17 j).toNat)))), (0, .ref (E.1 1)), (1, .int (Int32.ofInt (i : Int))), (2, .int (Int32.ofInt (j : Int)))] := h1
  refine lv_aload_n hx hb d_Md_isAhead_26 rfl (lv_at h1 1 rfl) ?_
  refine va_get (ci := 6) (T := T_Md) (N := 44) hx hb hts inw_Md hown hK hP 1 hw1 rfl 8 (by decide) (hts _ lk_Md_27) (fun x hx => hx) (v := .ref (E.1 (kMd 3))) rfl d_Md_isAhead_27 ?_
  refine lv_aload_n hx hb d_Md_isAhead_30 rfl (lv_at h1 1 rfl) ?_
  refine va_get (ci := 6) (T := T_Md) (N := 44) hx hb hts inw_Md hown hK hP 1 hw1 rfl 10 (by decide) (hts _ lk_Md_30) (fun x hx => hx) (v := .ref (E.1 (kMd 4))) rfl d_Md_isAhead_31 ?_
  refine lv_iload_n hx hb d_Md_isAhead_34 rfl (lv_at h1 3 rfl) ?_
  refine hald (a := 4) (n := 30) (f := 17) (i := j) ⟨by decide, rfl⟩ rfl rfl rfl (by omega) (by decide) d_Md_isAhead_35 ?_
  refine hald (a := 3) (n := 6) (f := 16) (i := (t 17 j).toNat) ⟨by decide, rfl⟩ rfl rfl (by omega) (by omega) (by decide) d_Md_isAhead_36 ?_
  refine lv_i2l hx hb d_Md_isAhead_37 (lw_wr _) ?_
  refine lv_aload_n hx hb d_Md_isAhead_38 rfl (lv_at h1 1 rfl) ?_
  refine va_get (ci := 6) (T := T_Md) (N := 44) hx hb hts inw_Md hown hK hP 1 hw1 rfl 7 (by decide) (hts _ lk_Md_24) (fun x hx => hx) (v := .ref (E.1 (kMd 2))) rfl d_Md_isAhead_39 ?_
  refine lv_aload_n hx hb d_Md_isAhead_42 rfl (lv_at h1 1 rfl) ?_
  refine va_get (ci := 6) (T := T_Md) (N := 44) hx hb hts inw_Md hown hK hP 1 hw1 rfl 10 (by decide) (hts _ lk_Md_30) (fun x hx => hx) (v := .ref (E.1 (kMd 4))) rfl d_Md_isAhead_43 ?_
  refine lv_iload_n hx hb d_Md_isAhead_46 rfl (lv_at h1 2 rfl) ?_
  refine hald (a := 4) (n := 30) (f := 17) (i := i) ⟨by decide, rfl⟩ rfl rfl rfl (by omega) (by decide) d_Md_isAhead_47 ?_
  refine hald (a := 2) (n := 6) (f := 15) (i := (t 17 i).toNat) ⟨by decide, rfl⟩ rfl rfl (by omega) (by omega) (by decide) d_Md_isAhead_48 ?_
  refine lv_i2l hx hb d_Md_isAhead_49 (lw_wr _) ?_
  refine lv_lmul hx hb d_Md_isAhead_50 ?_
  rw [← Int64.ofInt_mul]
  refine lv_lstore hx hb d_Md_isAhead_51 h1 (by decide) rfl (fun ls2 h2 => ?_)
  have h2 : lv_has ls2 7 [(5, .long (Int64.ofInt (wr (t 16 (t 17 j).toNat) * wr (t 15 (t 17 i).toNat)))), (3, .long (Int64.ofInt (wr (t 16 (t 17 i).toNat) * wr (t 15 (t 17 j).toNat)))), (0, .ref (E.1 1)), (1, .int (Int32.ofInt (i : Int))), (2, .int (Int32.ofInt (j : Int)))] := h2
  have hLx : LH ls2 7 [none, none, none, none, none, none, none] := ⟨rfl, ⟨h2.1, h2.2.1, fun q hq => by cases hq⟩, fun a v hv => by
    have := List.mem_of_getElem? hv
    simp at this⟩
  have hend : ∀ (x : Int) (pc : Nat), decode b_Md_isAhead pc = .ok (.ireturn, 1) → (x = 0 ∨ x = 1) → x = pb (iaP t i j) → W p l e0 R0 s mi args below meth c H locs cells slots Q (F0 mi pc ls2 [iv x]) := fun x pc d h01 hx9 => (hg _ _ _ _).mp (R d h01 hx9 rfl) H locs ls2 hP hS hLx
  refine lv_lload_n hx hb d_Md_isAhead_53 rfl (lv_at h2 1 rfl) ?_
  refine lv_lload hx hb d_Md_isAhead_54 (lv_at h2 0 rfl) ?_
  have hl1 := lr_mul (t 16 (t 17 i).toNat) (t 15 (t 17 j).toNat)
  have hl2 := lr_mul (t 16 (t 17 j).toNat) (t 15 (t 17 i).toNat)
  have hcmp : lg_cmp (Int64.ofInt (wr (t 16 (t 17 i).toNat) * wr (t 15 (t 17 j).toNat))) (Int64.ofInt (wr (t 16 (t 17 j).toNat) * wr (t 15 (t 17 i).toNat))) = Int32.ofInt (cmpI (wr (t 16 (t 17 i).toNat) * wr (t 15 (t 17 j).toNat)) (wr (t 16 (t 17 j).toNat) * wr (t 15 (t 17 i).toNat))) := by
    unfold lg_cmp cmpI
    simp only [gt_iff_lt, Int64.lt_iff_toInt_lt, ← Int64.toInt_inj, lr_to hl1, lr_to hl2]
    (repeat' split) <;> rfl
  unfold iaP ulP at hend
  generalize wr (t 16 (t 17 i).toNat) * wr (t 15 (t 17 j).toNat) = x1 at hcmp hend h2 ⊢
  generalize wr (t 16 (t 17 j).toNat) * wr (t 15 (t 17 i).toNat) = x2 at hcmp hend h2 ⊢
  have hc := cmpI_ir x1 x2
  have hcv : cmpI x1 x2 = if x2 < x1 then 1 else if x1 = x2 then 0 else -1 := rfl
  refine W.lcmp hx hb d_Md_isAhead_56 ?_
  rw [hcmp]
  refine lv_if_lt (tgt := 72) hx hb d_Md_isAhead_57 (by decide) (fun q => ?_) (fun q => ?_)
  · have q2 := (ir_lt hc ir_0).mp q
    refine lv_iconst hx hb d_Md_isAhead_72 rfl ?_
    refine lv_goto (tgt := 77) hx hb d_Md_isAhead_73 (by decide) ?_
    exact hend 1 77 d_Md_isAhead_77 (by omega) (pb_t (Or.inl (by rw [hcv] at q2; (repeat' split at q2) <;> omega))).symm
  · have q2 : ¬ cmpI x1 x2 < 0 := fun z => q ((ir_lt hc ir_0).mpr z)
    refine lv_lload_n hx hb d_Md_isAhead_60 rfl (lv_at h2 1 rfl) ?_
    refine lv_lload hx hb d_Md_isAhead_61 (lv_at h2 0 rfl) ?_
    refine W.lcmp hx hb d_Md_isAhead_63 ?_
    rw [hcmp]
    refine lv_if_ne (tgt := 76) hx hb d_Md_isAhead_64 (by decide) (fun q3 => ?_) (fun q3 => ?_)
    · have q4 : ¬ cmpI x1 x2 = 0 := fun z => q3 ((ir_eq hc ir_0).mpr z)
      refine lv_iconst hx hb d_Md_isAhead_76 rfl ?_
      exact hend 0 77 d_Md_isAhead_77 (by omega) (pb_f (fun z => by rw [hcv] at q2 q4; (repeat' split at q2) <;> (repeat' split at q4) <;> omega)).symm
    · have q4 : cmpI x1 x2 = 0 := (ir_eq hc ir_0).mp q3
      refine lv_iload_n hx hb d_Md_isAhead_67 rfl (lv_at h2 3 rfl) ?_
      refine lv_iload_n hx hb d_Md_isAhead_68 rfl (lv_at h2 4 rfl) ?_
      refine lv_icmp_ge (tgt := 76) hx hb d_Md_isAhead_69 (by decide) (fun q5 => ?_) (fun q5 => ?_)
      · have q6 := (ir_le (ir_mk (by omega) (by omega)) (ir_mk (by omega) (by omega))).mp q5
        refine lv_iconst hx hb d_Md_isAhead_76 rfl ?_
        exact hend 0 77 d_Md_isAhead_77 (by omega) (pb_f (fun z => by rw [hcv] at q4; (repeat' split at q4) <;> omega)).symm
      · have q6 : ¬ (j : Int) ≤ (i : Int) := fun z => q5 ((ir_le (ir_mk (by omega) (by omega)) (ir_mk (by omega) (by omega))).mpr z)
        refine lv_iconst hx hb d_Md_isAhead_72 rfl ?_
        refine lv_goto (tgt := 77) hx hb d_Md_isAhead_73 (by decide) ?_
        exact hend 1 77 d_Md_isAhead_77 (by omega) (pb_t (Or.inr ⟨by rw [hcv] at q4; (repeat' split at q4) <;> omega, by omega⟩)).symm
