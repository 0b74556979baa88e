set_option maxHeartbeats 1000000 in
set_option maxRecDepth 100000 in
theorem c0_isMoney (l : Launch) (x : Int32) : Met l yX0_isMoney (ws_ yX0_isMoney cX0_isMoney 1 (some .boolean)) (rmk 1 0 0) (pcS [.int (x)]) (rqi (fun r => (r = 1 ∧ 0 ≤ x.toInt ∧ x.toInt < 5) ∨ (r = 0 ∧ (x.toInt < 0 ∨ 5 ≤ x.toInt)))) 0 0 (fun _ => False) := by
  refine Met.ofW (cc := cX0_isMoney) (maxL := 1) (ret := (some .boolean)) (by decide) rfl ?_
  intro p e s m args below meth c s₁ B hml hv
  obtain ⟨rfl, -⟩ := hv
  have CF : CallFix p m c cX0_isMoney 1 s _ AW RX0 := ⟨B.exec, B.bytes, hml, findClass_of_methodNamed B.named, fun w h => atoms_spec (ws := ws_ yX0_isMoney cX0_isMoney 1 (some .boolean)) B.pre w (List.mem_cons_of_mem _ h)⟩
  have hr := B.returns
  have hlocks := B.notSynchronized
  have hl := lv_entry ([.int (x)]) (n := 1) (Nat.le_of_ble_eq_true rfl)
  rw [lg_entry_eq]
  generalize (lg_sl ([.int (x)]) ++ List.replicate (1 - (lg_sl ([.int (x)])).length) Slot.unset).toArray = ls at hl ⊢
  have hl : lv_has ls 1 [(0, .int (x))] := hl
  refine lv_iload_n CF.1 CF.2.1 dX0_isMoney_0 rfl (lv_at hl 0 rfl) ?_
  refine z_if_lt CF (tgt := 13) rfl dX0_isMoney_1 (by decide) (fun h_1 => ?_) (fun h_2 => ?_)
  · refine lv_iconst (v := nI 0) CF.1 CF.2.1 dX0_isMoney_13 (by decide) ?_
    exact W.zret CF.1 CF.2.1 hr rfl (fun t9 ht9 hW9 => ⟨_, rfl, Or.inr ⟨rfl, by omega⟩, ht9⟩) (fun q hq => absurd hq List.not_mem_nil) dX0_isMoney_14
  · refine lv_iload_n CF.1 CF.2.1 dX0_isMoney_4 rfl (lv_at hl 0 rfl) ?_
    refine lv_iconst (v := nI 5) CF.1 CF.2.1 dX0_isMoney_5 (by decide) ?_
    refine z_icmp_ge CF (tgt := 13) rfl (nIz (by omega)) dX0_isMoney_6 (by decide) (fun h_3 => ?_) (fun h_4 => ?_)
    · refine lv_iconst (v := nI 0) CF.1 CF.2.1 dX0_isMoney_13 (by decide) ?_
      exact W.zret CF.1 CF.2.1 hr rfl (fun t9 ht9 hW9 => ⟨_, rfl, Or.inr ⟨rfl, by omega⟩, ht9⟩) (fun q hq => absurd hq List.not_mem_nil) dX0_isMoney_14
    · refine lv_iconst (v := nI 1) CF.1 CF.2.1 dX0_isMoney_9 (by decide) ?_
      refine lv_goto (tgt := 14) CF.1 CF.2.1 dX0_isMoney_10 (by decide) ?_
      exact W.zret CF.1 CF.2.1 hr rfl (fun t9 ht9 hW9 => ⟨_, rfl, Or.inl ⟨rfl, by omega, by omega⟩, ht9⟩) (fun q hq => absurd hq List.not_mem_nil) dX0_isMoney_14
set_option maxHeartbeats 1000000 in
set_option maxRecDepth 100000 in
theorem c0_isNamedAmount (l : Launch) (x : Int32) : Met l yX0_isNamedAmount (ws_ yX0_isNamedAmount cX0_isNamedAmount 1 (some .boolean)) (rmk 1 0 0) (pcS [.int (x)]) (rqi (fun r => (r = 1 ∧ 1 ≤ x.toInt ∧ x.toInt < 100000) ∨ (r = 0 ∧ (x.toInt < 1 ∨ 100000 ≤ x.toInt)))) 0 0 (fun _ => False) := by
  refine Met.ofW (cc := cX0_isNamedAmount) (maxL := 1) (ret := (some .boolean)) (by decide) rfl ?_
  intro p e s m args below meth c s₁ B hml hv
  obtain ⟨rfl, -⟩ := hv
  have CF : CallFix p m c cX0_isNamedAmount 1 s _ AW RX0 := ⟨B.exec, B.bytes, hml, findClass_of_methodNamed B.named, fun w h => atoms_spec (ws := ws_ yX0_isNamedAmount cX0_isNamedAmount 1 (some .boolean)) B.pre w (List.mem_cons_of_mem _ h)⟩
  have hr := B.returns
  have hlocks := B.notSynchronized
  have hl := lv_entry ([.int (x)]) (n := 1) (Nat.le_of_ble_eq_true rfl)
  rw [lg_entry_eq]
  generalize (lg_sl ([.int (x)]) ++ List.replicate (1 - (lg_sl ([.int (x)])).length) Slot.unset).toArray = ls at hl ⊢
  have hl : lv_has ls 1 [(0, .int (x))] := hl
  refine lv_iload_n CF.1 CF.2.1 dX0_isNamedAmount_0 rfl (lv_at hl 0 rfl) ?_
  refine lv_iconst (v := nI 1) CF.1 CF.2.1 dX0_isNamedAmount_1 (by decide) ?_
  refine z_icmp_lt CF (tgt := 15) rfl (nIz (by omega)) dX0_isNamedAmount_2 (by decide) (fun h_1 => ?_) (fun h_2 => ?_)
  · refine lv_iconst (v := nI 0) CF.1 CF.2.1 dX0_isNamedAmount_15 (by decide) ?_
    exact W.zret CF.1 CF.2.1 hr rfl (fun t9 ht9 hW9 => ⟨_, rfl, Or.inr ⟨rfl, by omega⟩, ht9⟩) (fun q hq => absurd hq List.not_mem_nil) dX0_isNamedAmount_16
  · refine lv_iload_n CF.1 CF.2.1 dX0_isNamedAmount_5 rfl (lv_at hl 0 rfl) ?_
    refine lv_ldc (v := nI 99999) CF.1 CF.2.1 CF.2.2.2.1 (CF.2.2.2.2 _ (inr_9 _ (List.mem_of_getElem? (i := 16) rfl))) dX0_isNamedAmount_6 ?_
    refine z_icmp_gt CF (tgt := 15) rfl (nIz (by omega)) dX0_isNamedAmount_8 (by decide) (fun h_3 => ?_) (fun h_4 => ?_)
    · refine lv_iconst (v := nI 0) CF.1 CF.2.1 dX0_isNamedAmount_15 (by decide) ?_
      exact W.zret CF.1 CF.2.1 hr rfl (fun t9 ht9 hW9 => ⟨_, rfl, Or.inr ⟨rfl, by omega⟩, ht9⟩) (fun q hq => absurd hq List.not_mem_nil) dX0_isNamedAmount_16
    · refine lv_iconst (v := nI 1) CF.1 CF.2.1 dX0_isNamedAmount_11 (by decide) ?_
      refine lv_goto (tgt := 16) CF.1 CF.2.1 dX0_isNamedAmount_12 (by decide) ?_
      exact W.zret CF.1 CF.2.1 hr rfl (fun t9 ht9 hW9 => ⟨_, rfl, Or.inl ⟨rfl, by omega, by omega⟩, ht9⟩) (fun q hq => absurd hq List.not_mem_nil) dX0_isNamedAmount_16
set_option maxHeartbeats 1000000 in
set_option maxRecDepth 100000 in
theorem c0_isOrderCell (l : Launch) {p0 k : Nat} (h0 : p0 < 10) (h1 : k < 5) : Met l yX0_isOrderCell (ws_ yX0_isOrderCell cX0_isOrderCell 2 (some .boolean)) (rmk 1 0 0) (pcS [.int (nI (p0)), .int (nI (k))]) (rqi (fun r => r = 1)) 0 0 (fun _ => False) := by
  refine Met.ofW (cc := cX0_isOrderCell) (maxL := 2) (ret := (some .boolean)) (by decide) rfl ?_
  intro p e s m args below meth c s₁ B hml hv
  obtain ⟨rfl, -⟩ := hv
  have CF : CallFix p m c cX0_isOrderCell 2 s _ AW RX0 := ⟨B.exec, B.bytes, hml, findClass_of_methodNamed B.named, fun w h => atoms_spec (ws := ws_ yX0_isOrderCell cX0_isOrderCell 2 (some .boolean)) B.pre w (List.mem_cons_of_mem _ h)⟩
  have hr := B.returns
  have hlocks := B.notSynchronized
  have hl := lv_entry ([.int (nI (p0)), .int (nI (k))]) (n := 2) (Nat.le_of_ble_eq_true rfl)
  rw [lg_entry_eq]
  generalize (lg_sl ([.int (nI (p0)), .int (nI (k))]) ++ List.replicate (2 - (lg_sl ([.int (nI (p0)), .int (nI (k))])).length) Slot.unset).toArray = ls at hl ⊢
  have hl : lv_has ls 2 [(0, .int (nI (p0))), (1, .int (nI (k)))] := hl
  refine lv_iload_n CF.1 CF.2.1 dX0_isOrderCell_0 rfl (lv_at hl 0 rfl) ?_
  refine z_if_lt CF (tgt := 23) (nIz (by omega)) dX0_isOrderCell_1 (by decide) (fun h_1 => absurd h_1 (by omega)) (fun h_2 => ?_)
  refine lv_iload_n CF.1 CF.2.1 dX0_isOrderCell_4 rfl (lv_at hl 0 rfl) ?_
  refine lv_bipush (v := nI 10) CF.1 CF.2.1 dX0_isOrderCell_5 (by decide) ?_
  refine z_icmp_ge CF (tgt := 23) (nIz (by omega)) (nIz (by omega)) dX0_isOrderCell_7 (by decide) (fun h_3 => absurd h_3 (by omega)) (fun h_4 => ?_)
  refine lv_iload_n CF.1 CF.2.1 dX0_isOrderCell_10 rfl (lv_at hl 1 rfl) ?_
  refine z_if_lt CF (tgt := 23) (nIz (by omega)) dX0_isOrderCell_11 (by decide) (fun h_5 => absurd h_5 (by omega)) (fun h_6 => ?_)
  refine lv_iload_n CF.1 CF.2.1 dX0_isOrderCell_14 rfl (lv_at hl 1 rfl) ?_
  refine lv_iconst (v := nI 5) CF.1 CF.2.1 dX0_isOrderCell_15 (by decide) ?_
  refine z_icmp_ge CF (tgt := 23) (nIz (by omega)) (nIz (by omega)) dX0_isOrderCell_16 (by decide) (fun h_7 => absurd h_7 (by omega)) (fun h_8 => ?_)
  refine lv_iconst (v := nI 1) CF.1 CF.2.1 dX0_isOrderCell_19 (by decide) ?_
  refine lv_goto (tgt := 24) CF.1 CF.2.1 dX0_isOrderCell_20 (by decide) ?_
  exact W.zret CF.1 CF.2.1 hr rfl (fun t9 ht9 hW9 => ⟨_, rfl, rfl, ht9⟩) (fun q hq => absurd hq List.not_mem_nil) dX0_isOrderCell_24
set_option maxHeartbeats 1000000 in
set_option maxRecDepth 100000 in
theorem c0_isCustomer (l : Launch) {G : va_G} {cA : ClassId} {ad : Nat → Nat} {σ : RS} {b : BS} (hI : InvC b) (hR : Rc σ b) (x : Int32) : Met l yX0_isCustomer (ws_ yX0_isCustomer cX0_isCustomer 2 (some .boolean)) (rmk 1 0 0) (pc0 G cA ad σ [.ref (ad 0), .int (x)]) (rqi (fun r => (r = 1 ∧ 0 ≤ x.toInt ∧ x.toInt < (b 0 2 : Nat)) ∨ (r = 0 ∧ (x.toInt < 0 ∨ ((b 0 2 : Nat) : Int) ≤ x.toInt)))) 0 0 (fun _ => False) := by
  refine Met.ofW (cc := cX0_isCustomer) (maxL := 2) (ret := (some .boolean)) (by decide) rfl ?_
  intro p e s m args below meth c s₁ B hml hv
  obtain ⟨rfl, hP, hK⟩ := hv
  have CF : CallFix p m c cX0_isCustomer 2 s _ AW RX0 := ⟨B.exec, B.bytes, hml, findClass_of_methodNamed B.named, fun w h => atoms_spec (ws := ws_ yX0_isCustomer cX0_isCustomer 2 (some .boolean)) B.pre w (List.mem_cons_of_mem _ h)⟩
  have hr := B.returns
  have hlocks := B.notSynchronized
  have hl := lv_entry ([.ref (ad 0), .int (x)]) (n := 2) (Nat.le_of_ble_eq_true rfl)
  rw [lg_entry_eq]
  generalize (lg_sl ([.ref (ad 0), .int (x)]) ++ List.replicate (2 - (lg_sl ([.ref (ad 0), .int (x)])).length) Slot.unset).toArray = ls at hl ⊢
  have hl : lv_has ls 2 [(0, .ref (ad 0)), (1, .int (x))] := hl
  obtain ⟨i_sp, i_cu, i_ra, i_di, i_mo, i_pu⟩ := id hI
  refine lv_iload_n CF.1 CF.2.1 dX0_isCustomer_0 rfl (lv_at hl 1 rfl) ?_
  refine z_if_lt CF (tgt := 22) rfl dX0_isCustomer_1 (by decide) (fun h_1 => ?_) (fun h_2 => ?_)
  · refine lv_iconst (v := nI 0) CF.1 CF.2.1 dX0_isCustomer_22 (by decide) ?_
    exact W.zret CF.1 CF.2.1 hr rfl (fun t9 ht9 hW9 => ⟨_, rfl, Or.inr ⟨rfl, by omega⟩, ht9⟩) (fun q hq => absurd hq List.not_mem_nil) dX0_isCustomer_23
  · refine lv_iload_n CF.1 CF.2.1 dX0_isCustomer_4 rfl (lv_at hl 1 rfl) ?_
    refine lv_aload_n CF.1 CF.2.1 dX0_isCustomer_5 rfl (lv_at hl 0 rfl) ?_
    refine x0_g_customers CF hK hP (v := (nI (b 0 2))) hR.2.2.1 dX0_isCustomer_6 ?_
    refine z_icmp_ge CF (tgt := 22) rfl (nIz (by omega)) dX0_isCustomer_9 (by decide) (fun h_3 => ?_) (fun h_4 => ?_)
    · refine lv_iconst (v := nI 0) CF.1 CF.2.1 dX0_isCustomer_22 (by decide) ?_
      exact W.zret CF.1 CF.2.1 hr rfl (fun t9 ht9 hW9 => ⟨_, rfl, Or.inr ⟨rfl, by omega⟩, ht9⟩) (fun q hq => absurd hq List.not_mem_nil) dX0_isCustomer_23
    · refine lv_iload_n CF.1 CF.2.1 dX0_isCustomer_12 rfl (lv_at hl 1 rfl) ?_
      refine lv_bipush (v := nI 6) CF.1 CF.2.1 dX0_isCustomer_13 (by decide) ?_
      refine z_icmp_ge CF (tgt := 22) rfl (nIz (by omega)) dX0_isCustomer_15 (by decide) (fun h_5 => ?_) (fun h_6 => ?_)
      · refine lv_iconst (v := nI 0) CF.1 CF.2.1 dX0_isCustomer_22 (by decide) ?_
        exact W.zret CF.1 CF.2.1 hr rfl (fun t9 ht9 hW9 => ⟨_, rfl, Or.inr ⟨rfl, by omega⟩, ht9⟩) (fun q hq => absurd hq List.not_mem_nil) dX0_isCustomer_23
      · refine lv_iconst (v := nI 1) CF.1 CF.2.1 dX0_isCustomer_18 (by decide) ?_
        refine lv_goto (tgt := 23) CF.1 CF.2.1 dX0_isCustomer_19 (by decide) ?_
        exact W.zret CF.1 CF.2.1 hr rfl (fun t9 ht9 hW9 => ⟨_, rfl, Or.inl ⟨rfl, by omega, by omega⟩, ht9⟩) (fun q hq => absurd hq List.not_mem_nil) dX0_isCustomer_23
set_option maxHeartbeats 1000000 in
set_option maxRecDepth 100000 in
theorem c0_isAmountOrNone (l : Launch) (x : Int32) : Met l yX0_isAmountOrNone (ws_ yX0_isAmountOrNone cX0_isAmountOrNone 1 (some .boolean)) (rmk 2 0 0) (pcS [.int (x)]) (rqi (fun r => (r = 1 ∧ 0 ≤ x.toInt ∧ x.toInt < 100000) ∨ (r = 0 ∧ (x.toInt < 0 ∨ 100000 ≤ x.toInt)))) 0 0 (fun _ => False) := by
  refine Met.ofW (cc := cX0_isAmountOrNone) (maxL := 1) (ret := (some .boolean)) (by decide) rfl ?_
  intro p e s m args below meth c s₁ B hml hv
  obtain ⟨rfl, -⟩ := hv
  have CF : CallFix p m c cX0_isAmountOrNone 1 s _ AW RX0 := ⟨B.exec, B.bytes, hml, findClass_of_methodNamed B.named, fun w h => atoms_spec (ws := ws_ yX0_isAmountOrNone cX0_isAmountOrNone 1 (some .boolean)) B.pre w (List.mem_cons_of_mem _ h)⟩
  have hr := B.returns
  have hlocks := B.notSynchronized
  have hl := lv_entry ([.int (x)]) (n := 1) (Nat.le_of_ble_eq_true rfl)
  rw [lg_entry_eq]
  generalize (lg_sl ([.int (x)]) ++ List.replicate (1 - (lg_sl ([.int (x)])).length) Slot.unset).toArray = ls at hl ⊢
  have hl : lv_has ls 1 [(0, .int (x))] := hl
  refine lv_iload_n CF.1 CF.2.1 dX0_isAmountOrNone_0 rfl (lv_at hl 0 rfl) ?_
  refine z_if_eq CF (tgt := 11) rfl dX0_isAmountOrNone_1 (by decide) (fun h_1 => ?_) (fun h_2 => ?_)
  · refine lv_iconst (v := nI 1) CF.1 CF.2.1 dX0_isAmountOrNone_11 (by decide) ?_
    refine lv_goto (tgt := 16) CF.1 CF.2.1 dX0_isAmountOrNone_12 (by decide) ?_
    exact W.zret CF.1 CF.2.1 hr rfl (fun t9 ht9 hW9 => ⟨_, rfl, Or.inl ⟨rfl, by omega, by omega⟩, ht9⟩) (fun q hq => absurd hq List.not_mem_nil) dX0_isAmountOrNone_16
  · refine lv_iload_n CF.1 CF.2.1 dX0_isAmountOrNone_4 rfl (lv_at hl 0 rfl) ?_
    refine cS_i CF (As := [.int (x)]) (rest := []) (c0_isNamedAmount l ((x))) lk_RX0_X0_isNamedAmount rfl hl.1 ⟨Nat.le_of_ble_eq_true rfl, Nat.le_of_ble_eq_true rfl⟩ ⟨Nat.zero_le _, Nat.zero_le _⟩ (Nat.le_of_ble_eq_true rfl) rfl dX0_isAmountOrNone_5 (fun r_3 hr_4 => ?_)
    rcases hr_4 with ⟨rfl, hr_4a, hr_4b⟩ | ⟨rfl, hr_4c⟩
    · rw [show (1 : Int32) = nI 1 by rfl]
      refine z_if_eq CF (tgt := 15) (nIz (by omega)) dX0_isAmountOrNone_8 (by decide) (fun h => absurd h (by decide)) (fun _ => ?_)
      refine lv_iconst (v := nI 1) CF.1 CF.2.1 dX0_isAmountOrNone_11 (by decide) ?_
      refine lv_goto (tgt := 16) CF.1 CF.2.1 dX0_isAmountOrNone_12 (by decide) ?_
      exact W.zret CF.1 CF.2.1 hr rfl (fun t9 ht9 hW9 => ⟨_, rfl, Or.inl ⟨rfl, by omega, by omega⟩, ht9⟩) (fun q hq => absurd hq List.not_mem_nil) dX0_isAmountOrNone_16
    · rw [show (0 : Int32) = nI 0 by rfl]
      refine z_if_eq CF (tgt := 15) (nIz (by omega)) dX0_isAmountOrNone_8 (by decide) (fun _ => ?_) (fun h => absurd h (by decide))
      refine lv_iconst (v := nI 0) CF.1 CF.2.1 dX0_isAmountOrNone_15 (by decide) ?_
      exact W.zret CF.1 CF.2.1 hr rfl (fun t9 ht9 hW9 => ⟨_, rfl, Or.inr ⟨rfl, by omega⟩, ht9⟩) (fun q hq => absurd hq List.not_mem_nil) dX0_isAmountOrNone_16
set_option maxHeartbeats 1000000 in
set_option maxRecDepth 100000 in
theorem c0_rateOf (l : Launch) {G : va_G} {cA : ClassId} {ad : Nat → Nat} {σ : RS} {b : BS} (hI : InvC b) (hR : Rc σ b) {f t : Nat} (hf : f < 5) (ht : t < 5) : Met l yX0_rateOf (ws_ yX0_rateOf cX0_rateOf 3 (some .int)) (rmk 2 0 0) (pc0 G cA ad σ [.ref (ad 0), .int (nI (f)), .int (nI (t))]) (rqi (fun r => r = nI (b 1 (f * 5 + t)))) 0 0 (fun _ => False) := by
  refine Met.ofW (cc := cX0_rateOf) (maxL := 3) (ret := (some .int)) (by decide) rfl ?_
  intro p e s m args below meth c s₁ B hml hv
  obtain ⟨rfl, hP, hK⟩ := hv
  have CF : CallFix p m c cX0_rateOf 3 s _ AW RX0 := ⟨B.exec, B.bytes, hml, findClass_of_methodNamed B.named, fun w h => atoms_spec (ws := ws_ yX0_rateOf cX0_rateOf 3 (some .int)) B.pre w (List.mem_cons_of_mem _ h)⟩
  have hr := B.returns
  have hlocks := B.notSynchronized
  have hl := lv_entry ([.ref (ad 0), .int (nI (f)), .int (nI (t))]) (n := 3) (Nat.le_of_ble_eq_true rfl)
  rw [lg_entry_eq]
  generalize (lg_sl ([.ref (ad 0), .int (nI (f)), .int (nI (t))]) ++ List.replicate (3 - (lg_sl ([.ref (ad 0), .int (nI (f)), .int (nI (t))])).length) Slot.unset).toArray = ls at hl ⊢
  have hl : lv_has ls 3 [(0, .ref (ad 0)), (1, .int (nI (f))), (2, .int (nI (t)))] := hl
  obtain ⟨i_sp, i_cu, i_ra, i_di, i_mo, i_pu⟩ := id hI
  refine lv_iload_n CF.1 CF.2.1 dX0_rateOf_0 rfl (lv_at hl 1 rfl) ?_
  refine cS_i CF (As := [.int (nI (f))]) (rest := []) (c0_isMoney l (nI (f))) lk_RX0_X0_isMoney rfl hl.1 ⟨Nat.le_of_ble_eq_true rfl, Nat.le_of_ble_eq_true rfl⟩ ⟨Nat.zero_le _, Nat.zero_le _⟩ (Nat.le_of_ble_eq_true rfl) rfl dX0_rateOf_1 (fun r_1 hr_2 => ?_)
  have hxh_3 := nIz (n := f) (by omega)
  rcases hr_2 with ⟨rfl, -, -⟩ | ⟨rfl, h9⟩
  rotate_left
  · exact absurd h9 (by rw [hxh_3]; omega)
  rw [show (1 : Int32) = nI 1 by rfl]
  refine z_if_eq CF (tgt := 27) (nIz (by omega)) dX0_rateOf_4 (by decide) (fun h => absurd h (by decide)) (fun _ => ?_)
  refine lv_iload_n CF.1 CF.2.1 dX0_rateOf_7 rfl (lv_at hl 2 rfl) ?_
  refine cS_i CF (As := [.int (nI (t))]) (rest := []) (c0_isMoney l (nI (t))) lk_RX0_X0_isMoney rfl hl.1 ⟨Nat.le_of_ble_eq_true rfl, Nat.le_of_ble_eq_true rfl⟩ ⟨Nat.zero_le _, Nat.zero_le _⟩ (Nat.le_of_ble_eq_true rfl) rfl dX0_rateOf_8 (fun r_6 hr_7 => ?_)
  have hxh_8 := nIz (n := t) (by omega)
  rcases hr_7 with ⟨rfl, -, -⟩ | ⟨rfl, h9⟩
  rotate_left
  · exact absurd h9 (by rw [hxh_8]; omega)
  rw [show (1 : Int32) = nI 1 by rfl]
  refine z_if_eq CF (tgt := 27) (nIz (by omega)) dX0_rateOf_11 (by decide) (fun h => absurd h (by decide)) (fun _ => ?_)
  refine lv_aload_n CF.1 CF.2.1 dX0_rateOf_14 rfl (lv_at hl 0 rfl) ?_
  refine x0_g_rates CF hK hP dX0_rateOf_15 ?_
  refine lv_iload_n CF.1 CF.2.1 dX0_rateOf_18 rfl (lv_at hl 1 rfl) ?_
  refine lv_iconst (v := nI 5) CF.1 CF.2.1 dX0_rateOf_19 (by decide) ?_
  refine o_imul CF dX0_rateOf_20 ?_
  refine lv_iload_n CF.1 CF.2.1 dX0_rateOf_21 rfl (lv_at hl 2 rfl) ?_
  refine o_iadd CF dX0_rateOf_22 ?_
  refine x0_ald1 CF hK hP (i := f * 5 + t) (by omega) (v := (nI (b 1 (f * 5 + t)))) (hR.a1 (by omega)) dX0_rateOf_23 ?_
  refine lv_goto (tgt := 28) CF.1 CF.2.1 dX0_rateOf_24 (by decide) ?_
  exact W.iret CF.1 CF.2.1 hr (fun t9 ht9 hW9 => ⟨_, rfl, rfl, ht9⟩) (fun q hq => absurd hq List.not_mem_nil) dX0_rateOf_28
set_option maxHeartbeats 1000000 in
set_option maxRecDepth 100000 in
theorem c0_inPurse (l : Launch) {G : va_G} {cA : ClassId} {ad : Nat → Nat} {σ : RS} {b : BS} (hI : InvC b) (hR : Rc σ b) {u t : Nat} (hf : u < b 0 2) (ht : t < 5) : Met l yX0_inPurse (ws_ yX0_inPurse cX0_inPurse 3 (some .int)) (rmk 2 0 0) (pc0 G cA ad σ [.ref (ad 0), .int (nI (u)), .int (nI (t))]) (rqi (fun r => r = nI (b 6 (u * 5 + t)))) 0 0 (fun _ => False) := by
  refine Met.ofW (cc := cX0_inPurse) (maxL := 3) (ret := (some .int)) (by decide) rfl ?_
  intro p e s m args below meth c s₁ B hml hv
  obtain ⟨rfl, hP, hK⟩ := hv
  have CF : CallFix p m c cX0_inPurse 3 s _ AW RX0 := ⟨B.exec, B.bytes, hml, findClass_of_methodNamed B.named, fun w h => atoms_spec (ws := ws_ yX0_inPurse cX0_inPurse 3 (some .int)) B.pre w (List.mem_cons_of_mem _ h)⟩
  have hr := B.returns
  have hlocks := B.notSynchronized
  have hl := lv_entry ([.ref (ad 0), .int (nI (u)), .int (nI (t))]) (n := 3) (Nat.le_of_ble_eq_true rfl)
  rw [lg_entry_eq]
  generalize (lg_sl ([.ref (ad 0), .int (nI (u)), .int (nI (t))]) ++ List.replicate (3 - (lg_sl ([.ref (ad 0), .int (nI (u)), .int (nI (t))])).length) Slot.unset).toArray = ls at hl ⊢
  have hl : lv_has ls 3 [(0, .ref (ad 0)), (1, .int (nI (u))), (2, .int (nI (t)))] := hl
  obtain ⟨i_sp, i_cu, i_ra, i_di, i_mo, i_pu⟩ := id hI
  refine lv_aload_n CF.1 CF.2.1 dX0_inPurse_0 rfl (lv_at hl 0 rfl) ?_
  refine lv_iload_n CF.1 CF.2.1 dX0_inPurse_1 rfl (lv_at hl 1 rfl) ?_
  refine c0_i CF hK hP (As := [.int (nI (u))]) (rest := []) (c0_isCustomer l hI hR (nI (u))) rfl lk_RX0_X0_isCustomer rfl hl.1 ⟨Nat.le_of_ble_eq_true rfl, Nat.le_of_ble_eq_true rfl⟩ ⟨Nat.zero_le _, Nat.zero_le _⟩ (Nat.le_of_ble_eq_true rfl) rfl dX0_inPurse_2 (fun r_1 hr_2 => ?_)
  have hxh_3 := nIz (n := u) (by omega)
  rcases hr_2 with ⟨rfl, -, -⟩ | ⟨rfl, h9⟩
  rotate_left
  · exact absurd h9 (by rw [hxh_3]; omega)
  rw [show (1 : Int32) = nI 1 by rfl]
  refine z_if_eq CF (tgt := 28) (nIz (by omega)) dX0_inPurse_5 (by decide) (fun h => absurd h (by decide)) (fun _ => ?_)
  refine lv_iload_n CF.1 CF.2.1 dX0_inPurse_8 rfl (lv_at hl 2 rfl) ?_
  refine cS_i CF (As := [.int (nI (t))]) (rest := []) (c0_isMoney l (nI (t))) lk_RX0_X0_isMoney rfl hl.1 ⟨Nat.le_of_ble_eq_true rfl, Nat.le_of_ble_eq_true rfl⟩ ⟨Nat.zero_le _, Nat.zero_le _⟩ (Nat.le_of_ble_eq_true rfl) rfl dX0_inPurse_9 (fun r_6 hr_7 => ?_)
  have hxh_8 := nIz (n := t) (by omega)
  rcases hr_7 with ⟨rfl, -, -⟩ | ⟨rfl, h9⟩
  rotate_left
  · exact absurd h9 (by rw [hxh_8]; omega)
  rw [show (1 : Int32) = nI 1 by rfl]
  refine z_if_eq CF (tgt := 28) (nIz (by omega)) dX0_inPurse_12 (by decide) (fun h => absurd h (by decide)) (fun _ => ?_)
  refine lv_aload_n CF.1 CF.2.1 dX0_inPurse_15 rfl (lv_at hl 0 rfl) ?_
  refine x0_g_purses CF hK hP dX0_inPurse_16 ?_
  refine lv_iload_n CF.1 CF.2.1 dX0_inPurse_19 rfl (lv_at hl 1 rfl) ?_
  refine lv_iconst (v := nI 5) CF.1 CF.2.1 dX0_inPurse_20 (by decide) ?_
  refine o_imul CF dX0_inPurse_21 ?_
  refine lv_iload_n CF.1 CF.2.1 dX0_inPurse_22 rfl (lv_at hl 2 rfl) ?_
  refine o_iadd CF dX0_inPurse_23 ?_
  refine x0_ald6 CF hK hP (i := u * 5 + t) (by omega) (v := (nI (b 6 (u * 5 + t)))) (hR.a6 (by omega)) dX0_inPurse_24 ?_
  refine lv_goto (tgt := 29) CF.1 CF.2.1 dX0_inPurse_25 (by decide) ?_
  exact W.iret CF.1 CF.2.1 hr (fun t9 ht9 hW9 => ⟨_, rfl, rfl, ht9⟩) (fun q hq => absurd hq List.not_mem_nil) dX0_inPurse_29
set_option maxHeartbeats 1000000 in
set_option maxRecDepth 100000 in
theorem c0_orderPart (l : Launch) {G : va_G} {cA : ClassId} {ad : Nat → Nat} {σ : RS} {u t : Nat} (hf : u < 10) (ht : t < 5) : Met l yX0_orderPart (ws_ yX0_orderPart cX0_orderPart 3 (some .int)) (rmk 2 0 0) (pc0 G cA ad σ [.ref (ad 0), .int (nI (u)), .int (nI (t))]) (rqi (fun r => r = σ 7 (u * 5 + t))) 0 0 (fun _ => False) := by
  refine Met.ofW (cc := cX0_orderPart) (maxL := 3) (ret := (some .int)) (by decide) rfl ?_
  intro p e s m args below meth c s₁ B hml hv
  obtain ⟨rfl, hP, hK⟩ := hv
  have CF : CallFix p m c cX0_orderPart 3 s _ AW RX0 := ⟨B.exec, B.bytes, hml, findClass_of_methodNamed B.named, fun w h => atoms_spec (ws := ws_ yX0_orderPart cX0_orderPart 3 (some .int)) B.pre w (List.mem_cons_of_mem _ h)⟩
  have hr := B.returns
  have hlocks := B.notSynchronized
  have hl := lv_entry ([.ref (ad 0), .int (nI (u)), .int (nI (t))]) (n := 3) (Nat.le_of_ble_eq_true rfl)
  rw [lg_entry_eq]
  generalize (lg_sl ([.ref (ad 0), .int (nI (u)), .int (nI (t))]) ++ List.replicate (3 - (lg_sl ([.ref (ad 0), .int (nI (u)), .int (nI (t))])).length) Slot.unset).toArray = ls at hl ⊢
  have hl : lv_has ls 3 [(0, .ref (ad 0)), (1, .int (nI (u))), (2, .int (nI (t)))] := hl
  refine lv_iload_n CF.1 CF.2.1 dX0_orderPart_0 rfl (lv_at hl 1 rfl) ?_
  refine lv_iload_n CF.1 CF.2.1 dX0_orderPart_1 rfl (lv_at hl 2 rfl) ?_
  refine cS_i CF (As := [.int (nI (u)), .int (nI (t))]) (rest := []) (c0_isOrderCell l (p0 := u) (k := t) (by omega) (by omega)) lk_RX0_X0_isOrderCell rfl hl.1 ⟨Nat.le_of_ble_eq_true rfl, Nat.le_of_ble_eq_true rfl⟩ ⟨Nat.zero_le _, Nat.zero_le _⟩ (Nat.le_of_ble_eq_true rfl) rfl dX0_orderPart_2 (fun r_1 hr_2 => ?_)
  subst hr_2
  rw [show (1 : Int32) = nI 1 by rfl]
  refine z_if_eq CF (tgt := 21) (nIz (by omega)) dX0_orderPart_5 (by decide) (fun h => absurd h (by decide)) (fun _ => ?_)
  refine lv_aload_n CF.1 CF.2.1 dX0_orderPart_8 rfl (lv_at hl 0 rfl) ?_
  refine x0_g_orders CF hK hP dX0_orderPart_9 ?_
  refine lv_iload_n CF.1 CF.2.1 dX0_orderPart_12 rfl (lv_at hl 1 rfl) ?_
  refine lv_iconst (v := nI 5) CF.1 CF.2.1 dX0_orderPart_13 (by decide) ?_
  refine o_imul CF dX0_orderPart_14 ?_
  refine lv_iload_n CF.1 CF.2.1 dX0_orderPart_15 rfl (lv_at hl 2 rfl) ?_
  refine o_iadd CF dX0_orderPart_16 ?_
  refine x0_ald7 CF hK hP (i := u * 5 + t) (by omega) (v := (σ 7 (u * 5 + t))) rfl dX0_orderPart_17 ?_
  refine lv_goto (tgt := 22) CF.1 CF.2.1 dX0_orderPart_18 (by decide) ?_
  exact W.iret CF.1 CF.2.1 hr (fun t9 ht9 hW9 => ⟨_, rfl, rfl, ht9⟩) (fun q hq => absurd hq List.not_mem_nil) dX0_orderPart_22
set_option maxHeartbeats 1000000 in
set_option maxRecDepth 100000 in
theorem c0_tenthousandths (l : Launch) {G : va_G} {cA : ClassId} {ad : Nat → Nat} {σ : RS} {b : BS} (hI : InvC b) (hR : Rc σ b) {f t : Nat} (hf : f < 5) (ht : t < 5) (x : Int64) : Met l yX0_tenthousandths (ws_ yX0_tenthousandths cX0_tenthousandths 5 (some .long)) (rmk 3 0 0) (pc0 G cA ad σ [.ref (ad 0), .int (nI (f)), .int (nI (t)), .long (x)]) (rql (fun r => r = x * lN (b 1 (f * 5 + t)) * lN (100 - b 0 1))) 0 0 (fun _ => False) := by
  refine Met.ofW (cc := cX0_tenthousandths) (maxL := 5) (ret := (some .long)) (by decide) rfl ?_
  intro p e s m args below meth c s₁ B hml hv
  obtain ⟨rfl, hP, hK⟩ := hv
  have CF : CallFix p m c cX0_tenthousandths 5 s _ AW RX0 := ⟨B.exec, B.bytes, hml, findClass_of_methodNamed B.named, fun w h => atoms_spec (ws := ws_ yX0_tenthousandths cX0_tenthousandths 5 (some .long)) B.pre w (List.mem_cons_of_mem _ h)⟩
  have hr := B.returns
  have hlocks := B.notSynchronized
  have hl := lv_entry ([.ref (ad 0), .int (nI (f)), .int (nI (t)), .long (x)]) (n := 5) (Nat.le_of_ble_eq_true rfl)
  rw [lg_entry_eq]
  generalize (lg_sl ([.ref (ad 0), .int (nI (f)), .int (nI (t)), .long (x)]) ++ List.replicate (5 - (lg_sl ([.ref (ad 0), .int (nI (f)), .int (nI (t)), .long (x)])).length) Slot.unset).toArray = ls at hl ⊢
  have hl : lv_has ls 5 [(0, .ref (ad 0)), (1, .int (nI (f))), (2, .int (nI (t))), (3, .long (x))] := hl
  obtain ⟨i_sp, i_cu, i_ra, i_di, i_mo, i_pu⟩ := id hI
  have h_r := i_ra (f * 5 + t) (by omega)
  refine lv_lload_n CF.1 CF.2.1 dX0_tenthousandths_0 rfl (lv_at hl 3 rfl) ?_
  refine lv_aload_n CF.1 CF.2.1 dX0_tenthousandths_1 rfl (lv_at hl 0 rfl) ?_
  refine lv_iload_n CF.1 CF.2.1 dX0_tenthousandths_2 rfl (lv_at hl 1 rfl) ?_
  refine lv_iload_n CF.1 CF.2.1 dX0_tenthousandths_3 rfl (lv_at hl 2 rfl) ?_
  refine c0_i CF hK hP (As := [.int (nI (f)), .int (nI (t))]) (rest := [.long (x)]) (c0_rateOf l hI hR (f := f) (t := t) (by omega) (by omega)) rfl lk_RX0_X0_rateOf rfl hl.1 ⟨Nat.le_of_ble_eq_true rfl, Nat.le_of_ble_eq_true rfl⟩ ⟨Nat.zero_le _, Nat.zero_le _⟩ (Nat.le_of_ble_eq_true rfl) rfl dX0_tenthousandths_4 (fun r_1 hr_2 => ?_)
  subst hr_2
  refine o_i2l CF (by omega) dX0_tenthousandths_7 ?_
  refine lv_lmul CF.1 CF.2.1 dX0_tenthousandths_8 ?_
  refine lv_bipush (v := nI 100) CF.1 CF.2.1 dX0_tenthousandths_9 (by decide) ?_
  refine lv_aload_n CF.1 CF.2.1 dX0_tenthousandths_11 rfl (lv_at hl 0 rfl) ?_
  refine x0_g_spread CF hK hP (v := (nI (b 0 1))) hR.2.1 dX0_tenthousandths_12 ?_
  refine o_isub CF (by omega) dX0_tenthousandths_15 ?_
  refine o_i2l CF (by omega) dX0_tenthousandths_16 ?_
  refine lv_lmul CF.1 CF.2.1 dX0_tenthousandths_17 ?_
  exact W.lret CF.1 CF.2.1 hr (fun t9 ht9 hW9 => ⟨_, rfl, rfl, ht9⟩) (fun q hq => absurd hq List.not_mem_nil) dX0_tenthousandths_18
set_option maxHeartbeats 1000000 in
set_option maxRecDepth 100000 in
theorem c0_bit (l : Launch) {j : Nat} (hj : j < 5) : Met l yX0_bit (ws_ yX0_bit cX0_bit 1 (some .int)) (rmk 2 0 0) (pcS [.int (nI (j))]) (rqi (fun r => r = nI (2 ^ j))) 0 0 (fun _ => False) := by
  refine Met.ofW (cc := cX0_bit) (maxL := 1) (ret := (some .int)) (by decide) rfl ?_
  intro p e s m args below meth c s₁ B hml hv
  obtain ⟨rfl, -⟩ := hv
  have CF : CallFix p m c cX0_bit 1 s _ AW RX0 := ⟨B.exec, B.bytes, hml, findClass_of_methodNamed B.named, fun w h => atoms_spec (ws := ws_ yX0_bit cX0_bit 1 (some .int)) B.pre w (List.mem_cons_of_mem _ h)⟩
  have hr := B.returns
  have hlocks := B.notSynchronized
  have hl := lv_entry ([.int (nI (j))]) (n := 1) (Nat.le_of_ble_eq_true rfl)
  rw [lg_entry_eq]
  generalize (lg_sl ([.int (nI (j))]) ++ List.replicate (1 - (lg_sl ([.int (nI (j))])).length) Slot.unset).toArray = ls at hl ⊢
  have hl : lv_has ls 1 [(0, .int (nI (j)))] := hl
  refine lv_iload_n CF.1 CF.2.1 dX0_bit_0 rfl (lv_at hl 0 rfl) ?_
  refine cS_i CF (As := [.int (nI (j))]) (rest := []) (c0_isMoney l (nI (j))) lk_RX0_X0_isMoney rfl hl.1 ⟨Nat.le_of_ble_eq_true rfl, Nat.le_of_ble_eq_true rfl⟩ ⟨Nat.zero_le _, Nat.zero_le _⟩ (Nat.le_of_ble_eq_true rfl) rfl dX0_bit_1 (fun r_1 hr_2 => ?_)
  have hxh_3 := nIz (n := j) (by omega)
  rcases hr_2 with ⟨rfl, -, -⟩ | ⟨rfl, h9⟩
  rotate_left
  · exact absurd h9 (by rw [hxh_3]; omega)
  rw [show (1 : Int32) = nI 1 by rfl]
  refine z_if_eq CF (tgt := 13) (nIz (by omega)) dX0_bit_4 (by decide) (fun h => absurd h (by decide)) (fun _ => ?_)
  refine lv_iconst (v := nI 1) CF.1 CF.2.1 dX0_bit_7 (by decide) ?_
  refine lv_iload_n CF.1 CF.2.1 dX0_bit_8 rfl (lv_at hl 0 rfl) ?_
  refine lv_ishl CF.1 CF.2.1 dX0_bit_9 ?_
  refine lv_goto (tgt := 14) CF.1 CF.2.1 dX0_bit_10 (by decide) ?_
  exact W.iret CF.1 CF.2.1 hr (fun t9 ht9 hW9 => ⟨_, rfl, by rcases (show j = 0 ∨ j = 1 ∨ j = 2 ∨ j = 3 ∨ j = 4 by omega) with rfl | rfl | rfl | rfl | rfl <;> decide, ht9⟩) (fun q hq => absurd hq List.not_mem_nil) dX0_bit_14
set_option maxHeartbeats 1000000 in
set_option maxRecDepth 100000 in
theorem c0_wholeOnes (l : Launch) (x : Int64) : Met l yX0_wholeOnes (ws_ yX0_wholeOnes cX0_wholeOnes 2 (some .long)) (rmk 1 0 0) (pcS [.long (x)]) (rql (fun r => r = x / lN 10000)) 0 0 (fun _ => False) := by
  refine Met.ofW (cc := cX0_wholeOnes) (maxL := 2) (ret := (some .long)) (by decide) rfl ?_
  intro p e s m args below meth c s₁ B hml hv
  obtain ⟨rfl, -⟩ := hv
  have CF : CallFix p m c cX0_wholeOnes 2 s _ AW RX0 := ⟨B.exec, B.bytes, hml, findClass_of_methodNamed B.named, fun w h => atoms_spec (ws := ws_ yX0_wholeOnes cX0_wholeOnes 2 (some .long)) B.pre w (List.mem_cons_of_mem _ h)⟩
  have hr := B.returns
  have hlocks := B.notSynchronized
  have hl := lv_entry ([.long (x)]) (n := 2) (Nat.le_of_ble_eq_true rfl)
  rw [lg_entry_eq]
  generalize (lg_sl ([.long (x)]) ++ List.replicate (2 - (lg_sl ([.long (x)])).length) Slot.unset).toArray = ls at hl ⊢
  have hl : lv_has ls 2 [(0, .long (x))] := hl
  refine lv_lload_n CF.1 CF.2.1 dX0_wholeOnes_0 rfl (lv_at hl 0 rfl) ?_
  refine lv_ldc2 (v := lN 10000) CF.1 CF.2.1 CF.2.2.2.1 (CF.2.2.2.2 _ (inr_4 _ (List.mem_of_getElem? (i := 0) rfl))) dX0_wholeOnes_1 ?_
  refine lv_ldiv CF.1 CF.2.1 dX0_wholeOnes_4 (lne (by omega) (by omega)) ?_
  exact W.lret CF.1 CF.2.1 hr (fun t9 ht9 hW9 => ⟨_, rfl, rfl, ht9⟩) (fun q hq => absurd hq List.not_mem_nil) dX0_wholeOnes_5
set_option maxHeartbeats 1000000 in
set_option maxRecDepth 100000 in
theorem c0_heldAtMost (l : Launch) {v : Nat} (hv : v < 9223372036854775808) : Met l yX0_heldAtMost (ws_ yX0_heldAtMost cX0_heldAtMost 2 (some .int)) (rmk 1 0 0) (pcS [.long (lN (v))]) (rqi (fun r => r = nI (min v 999999))) 0 0 (fun _ => False) := by
  refine Met.ofW (cc := cX0_heldAtMost) (maxL := 2) (ret := (some .int)) (by decide) rfl ?_
  intro p e s m args below meth c s₁ B hml hv
  obtain ⟨rfl, -⟩ := hv
  have CF : CallFix p m c cX0_heldAtMost 2 s _ AW RX0 := ⟨B.exec, B.bytes, hml, findClass_of_methodNamed B.named, fun w h => atoms_spec (ws := ws_ yX0_heldAtMost cX0_heldAtMost 2 (some .int)) B.pre w (List.mem_cons_of_mem _ h)⟩
  have hr := B.returns
  have hlocks := B.notSynchronized
  have hl := lv_entry ([.long (lN (v))]) (n := 2) (Nat.le_of_ble_eq_true rfl)
  rw [lg_entry_eq]
  generalize (lg_sl ([.long (lN (v))]) ++ List.replicate (2 - (lg_sl ([.long (lN (v))])).length) Slot.unset).toArray = ls at hl ⊢
  have hl : lv_has ls 2 [(0, .long (lN (v)))] := hl
  refine lv_lload_n CF.1 CF.2.1 dX0_heldAtMost_0 rfl (lv_at hl 0 rfl) ?_
  refine lv_ldc2 (v := lN 999999) CF.1 CF.2.1 CF.2.2.2.1 (CF.2.2.2.2 _ (inr_5 _ (List.mem_of_getElem? (i := 5) rfl))) dX0_heldAtMost_1 ?_
  refine va_mmin_long CF.1 CF.2.1 (CF.2.2.1.trans hl.1.symm) CF.2.2.2.1 (CF.2.2.2.2 _ (inr_5 _ (List.mem_of_getElem? (i := 6) rfl))) (CF.2.2.2.2 _ (inr_5 _ (List.mem_of_getElem? (i := 7) rfl))) (CF.2.2.2.2 _ (inr_5 _ (List.mem_of_getElem? (i := 8) rfl))) (CF.2.2.2.2 _ (inr_5 _ (List.mem_of_getElem? (i := 9) rfl))) (Nat.le_of_ble_eq_true rfl) (Nat.le_of_ble_eq_true rfl) (Nat.zero_le _) (Nat.zero_le _) dX0_heldAtMost_4 ?_
  refine tpl (mnL (by omega) (by omega)) ?_
  refine o_l2i CF dX0_heldAtMost_7 ?_
  exact W.iret CF.1 CF.2.1 hr (fun t9 ht9 hW9 => ⟨_, rfl, rfl, ht9⟩) (fun q hq => absurd hq List.not_mem_nil) dX0_heldAtMost_8
