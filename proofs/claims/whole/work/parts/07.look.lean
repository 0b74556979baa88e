set_option maxHeartbeats 1000000 in
set_option maxRecDepth 100000 in
theorem c0_doneIfPossible (l : Launch) {G : va_G} {cA : ClassId} {ad : Nat → Nat} {σ : RS} (hj : inj8 ad) {b : BS} (hI : InvC b) (hR : Rc σ b) {q u f t a k : Nat} (hq : q < 10) (hq0 : σ 7 (q * 5 + 0) = nI u) (hq1 : σ 7 (q * 5 + 1) = nI f) (hq2 : σ 7 (q * 5 + 2) = nI t) (hq3 : σ 7 (q * 5 + 3) = nI a) (hq4 : σ 7 (q * 5 + 4) = nI k) (hu : u < b 0 2) (hf : f < 5) (ht : t < 5) (ha : a < 2147483648) (hk0 : 1 ≤ k) (hk : k < 2147483648) : Met l yX0_doneIfPossible (ws_ yX0_doneIfPossible cX0_doneIfPossible 3 (some .boolean)) (rmk 5 0 0) (pc0 G cA ad σ [.ref (ad 0), .int (nI (q))]) (va_Qi (fun (r : Int32) (σ' : RS) => (okN b u f t a k ∧ r = nI 1 ∧ Rc σ' (dc b u f t a) ∧ Sm σ σ') ∨ (¬ okN b u f t a k ∧ r = nI 0 ∧ σ' = σ)) (fun σ' t => va_P G vwCl (w0 ad cA σ') t.heap) (own8 ad)) 0 0 (own8 ad) := by
  refine Met.ofW (cc := cX0_doneIfPossible) (maxL := 3) (ret := (some .boolean)) (by decide) rfl ?_
  intro p e s m args below meth c s₁ B hml hv
  obtain ⟨rfl, hP, hK⟩ := hv
  have CF : CallFix p m c cX0_doneIfPossible 3 s _ AW RX0 := ⟨B.exec, B.bytes, hml, findClass_of_methodNamed B.named, fun w h => atoms_spec (ws := ws_ yX0_doneIfPossible cX0_doneIfPossible 3 (some .boolean)) B.pre w (List.mem_cons_of_mem _ h)⟩
  have hr := B.returns
  have hlocks := B.notSynchronized
  have hl := lv_entry ([.ref (ad 0), .int (nI (q))]) (n := 3) (Nat.le_of_ble_eq_true rfl)
  rw [lg_entry_eq]
  generalize (lg_sl ([.ref (ad 0), .int (nI (q))]) ++ List.replicate (3 - (lg_sl ([.ref (ad 0), .int (nI (q))])).length) Slot.unset).toArray = ls at hl ⊢
  have hl : lv_has ls 3 [(0, .ref (ad 0)), (1, .int (nI (q)))] := hl
  have hD : va_D (own8 ad) (w0 ad cA σ) := w0_D hj (fun _ h => h)
  have hS : va_S (own8 ad) s.heap s.heap [] := va_S.rf
  obtain ⟨i_sp, i_cu, i_ra, i_di, i_mo, i_pu⟩ := id hI
  have h_gl := pr_le hI (f := f) (t := t) (a := a) (A := 2147483647) (by omega) (by omega) (by omega)
  have h_gv : gv b f t a = pr b f t a / 10000 := rfl
  have h_mt := i_mo t (by omega)
  refine lv_aload_n CF.1 CF.2.1 dX0_doneIfPossible_0 rfl (lv_at hl 0 rfl) ?_
  refine lv_aload_n CF.1 CF.2.1 dX0_doneIfPossible_1 rfl (lv_at hl 0 rfl) ?_
  refine lv_iload_n CF.1 CF.2.1 dX0_doneIfPossible_2 rfl (lv_at hl 1 rfl) ?_
  refine lv_iconst (v := nI 0) CF.1 CF.2.1 dX0_doneIfPossible_3 (by decide) ?_
  refine c0_i CF hK hP (As := [.int (nI (q)), .int (nI (0))]) (rest := [.ref (ad 0)]) (c0_orderPart l (σ := σ) (u := q) (t := 0) (by omega) (by omega)) rfl lk_RX0_X0_orderPart rfl hl.1 ⟨Nat.le_of_ble_eq_true rfl, Nat.le_of_ble_eq_true rfl⟩ ⟨Nat.zero_le _, Nat.zero_le _⟩ (Nat.le_of_ble_eq_true rfl) rfl dX0_doneIfPossible_4 (fun r_1 hr_2 => ?_)
  subst hr_2
  refine tpi hq0 ?_
  refine lv_aload_n CF.1 CF.2.1 dX0_doneIfPossible_7 rfl (lv_at hl 0 rfl) ?_
  refine lv_iload_n CF.1 CF.2.1 dX0_doneIfPossible_8 rfl (lv_at hl 1 rfl) ?_
  refine lv_iconst (v := nI 1) CF.1 CF.2.1 dX0_doneIfPossible_9 (by decide) ?_
  refine c0_i CF hK hP (As := [.int (nI (q)), .int (nI (1))]) (rest := [.int (nI (u)), .ref (ad 0)]) (c0_orderPart l (σ := σ) (u := q) (t := 1) (by omega) (by omega)) rfl lk_RX0_X0_orderPart rfl hl.1 ⟨Nat.le_of_ble_eq_true rfl, Nat.le_of_ble_eq_true rfl⟩ ⟨Nat.zero_le _, Nat.zero_le _⟩ (Nat.le_of_ble_eq_true rfl) rfl dX0_doneIfPossible_10 (fun r_3 hr_4 => ?_)
  subst hr_4
  refine tpi hq1 ?_
  refine lv_aload_n CF.1 CF.2.1 dX0_doneIfPossible_13 rfl (lv_at hl 0 rfl) ?_
  refine lv_iload_n CF.1 CF.2.1 dX0_doneIfPossible_14 rfl (lv_at hl 1 rfl) ?_
  refine lv_iconst (v := nI 2) CF.1 CF.2.1 dX0_doneIfPossible_15 (by decide) ?_
  refine c0_i CF hK hP (As := [.int (nI (q)), .int (nI (2))]) (rest := [.int (nI (f)), .int (nI (u)), .ref (ad 0)]) (c0_orderPart l (σ := σ) (u := q) (t := 2) (by omega) (by omega)) rfl lk_RX0_X0_orderPart rfl hl.1 ⟨Nat.le_of_ble_eq_true rfl, Nat.le_of_ble_eq_true rfl⟩ ⟨Nat.zero_le _, Nat.zero_le _⟩ (Nat.le_of_ble_eq_true rfl) rfl dX0_doneIfPossible_16 (fun r_5 hr_6 => ?_)
  subst hr_6
  refine tpi hq2 ?_
  refine lv_aload_n CF.1 CF.2.1 dX0_doneIfPossible_19 rfl (lv_at hl 0 rfl) ?_
  refine lv_iload_n CF.1 CF.2.1 dX0_doneIfPossible_20 rfl (lv_at hl 1 rfl) ?_
  refine lv_iconst (v := nI 3) CF.1 CF.2.1 dX0_doneIfPossible_21 (by decide) ?_
  refine c0_i CF hK hP (As := [.int (nI (q)), .int (nI (3))]) (rest := [.int (nI (t)), .int (nI (f)), .int (nI (u)), .ref (ad 0)]) (c0_orderPart l (σ := σ) (u := q) (t := 3) (by omega) (by omega)) rfl lk_RX0_X0_orderPart rfl hl.1 ⟨Nat.le_of_ble_eq_true rfl, Nat.le_of_ble_eq_true rfl⟩ ⟨Nat.zero_le _, Nat.zero_le _⟩ (Nat.le_of_ble_eq_true rfl) rfl dX0_doneIfPossible_22 (fun r_7 hr_8 => ?_)
  subst hr_8
  refine tpi hq3 ?_
  refine lv_aload_n CF.1 CF.2.1 dX0_doneIfPossible_25 rfl (lv_at hl 0 rfl) ?_
  refine lv_iload_n CF.1 CF.2.1 dX0_doneIfPossible_26 rfl (lv_at hl 1 rfl) ?_
  refine lv_iconst (v := nI 4) CF.1 CF.2.1 dX0_doneIfPossible_27 (by decide) ?_
  refine c0_i CF hK hP (As := [.int (nI (q)), .int (nI (4))]) (rest := [.int (nI (a)), .int (nI (t)), .int (nI (f)), .int (nI (u)), .ref (ad 0)]) (c0_orderPart l (σ := σ) (u := q) (t := 4) (by omega) (by omega)) rfl lk_RX0_X0_orderPart rfl hl.1 ⟨Nat.le_of_ble_eq_true rfl, Nat.le_of_ble_eq_true rfl⟩ ⟨Nat.zero_le _, Nat.zero_le _⟩ (Nat.le_of_ble_eq_true rfl) rfl dX0_doneIfPossible_28 (fun r_9 hr_10 => ?_)
  subst hr_10
  refine tpi hq4 ?_
  refine d0_i CF hK hP hj (fun _ h => h) hS (As := [.int (nI (u)), .int (nI (f)), .int (nI (t)), .int (nI (a)), .int (nI (k))]) (rest := []) (c0_changeIfPossible l hj (b := b) hI hR (u := u) (f := f) (t := t) (a := a) (k := k) (by omega) (by omega) (by omega) (by omega) (by omega) (by omega)) rfl lk_RX0_X0_changeIfPossible rfl hl.1 ⟨Nat.le_of_ble_eq_true rfl, Nat.le_of_ble_eq_true rfl⟩ ⟨Nat.zero_le _, Nat.zero_le _⟩ (Nat.le_of_ble_eq_true rfl) rfl dX0_doneIfPossible_31 (fun r_11 σ13 H13 locs hr_12 hP13 hD13 hS13 hz13 hk13 => ?_)
  rcases hr_12 with ⟨hr_12a, rfl, hr_12b, hr_12c⟩ | ⟨hr_12a, rfl, rfl⟩
  · obtain ⟨hr_121, hr_122, hr_123, hr_124, hr_125, hr_126, hr_127⟩ := id hr_12a
    refine lv_istore_n (lv' := [(2, .int (nI (gv b (f) (t) (a)))), (0, .ref (ad 0)), (1, .int (nI (q)))]) CF.1 CF.2.1 dX0_doneIfPossible_34 rfl hl (by decide) rfl (fun ls hl => ?_)
    refine lv_iload_n CF.1 CF.2.1 dX0_doneIfPossible_35 rfl (lv_at hl 0 rfl) ?_
    refine z_if_eq CF (tgt := 43) (nIz (by omega)) dX0_doneIfPossible_36 (by decide) (fun h_14 => absurd h_14 (by omega)) (fun h_15 => ?_)
    refine lv_iconst (v := nI 1) CF.1 CF.2.1 dX0_doneIfPossible_39 (by decide) ?_
    refine lv_goto (tgt := 44) CF.1 CF.2.1 dX0_doneIfPossible_40 (by decide) ?_
    exact W.zret CF.1 CF.2.1 hr rfl (fun t9 ht9 hW9 => ⟨⟨_, σ13, rfl, Or.inl ⟨hr_12a, rfl, hr_12b, hr_12c⟩, by show va_P G vwCl (w0 ad cA σ13) t9.heap; rw [ht9]; exact hP13⟩, hS13.F ht9⟩) hS13.2.2 dX0_doneIfPossible_44
  · refine lv_istore_n (lv' := [(2, .int (nI (0))), (0, .ref (ad 0)), (1, .int (nI (q)))]) CF.1 CF.2.1 dX0_doneIfPossible_34 rfl hl (by decide) rfl (fun ls hl => ?_)
    refine lv_iload_n CF.1 CF.2.1 dX0_doneIfPossible_35 rfl (lv_at hl 0 rfl) ?_
    refine z_if_eq CF (tgt := 43) (nIz (by omega)) dX0_doneIfPossible_36 (by decide) (fun _ => ?_) (fun h => absurd h (by decide))
    refine lv_iconst (v := nI 0) CF.1 CF.2.1 dX0_doneIfPossible_43 (by decide) ?_
    exact W.zret CF.1 CF.2.1 hr rfl (fun t9 ht9 hW9 => ⟨⟨_, σ13, rfl, Or.inr ⟨hr_12a, rfl, rfl⟩, by show va_P G vwCl (w0 ad cA σ13) t9.heap; rw [ht9]; exact hP13⟩, hS13.F ht9⟩) hS13.2.2 dX0_doneIfPossible_44
/-- the class in the midst of a look: i places seen -/
def LkI (b : BS) (i : Nat) (σ : RS) : Prop := Rc σ (lkN b i).1 ∧ σ 0 3 = nI (b 0 3) ∧ σ 0 5 = nI (b 0 5) ∧ (∀ j, j < (lkN b i).2 * 5 → σ 7 j = nI ((lkN b i).1 7 j)) ∧ ∀ j, (lkN b i).2 * 5 ≤ j → j < (lkN b i).1 0 3 * 5 → σ 7 (j + (i - (lkN b i).2) * 5) = nI ((lkN b i).1 7 j)
theorem LkI_0 {b : BS} {σ : RS} (hR : Rc σ b) (hO : Ro σ b) : LkI b 0 σ := ⟨hR, hO.1, hO.2.1, fun j hj => absurd hj (by show ¬ j < 0 * 5; omega), fun j h1 h2 => by
  have h3 := hO.2.2 j (by have : j < b 0 3 * 5 := h2; omega)
  show σ 7 (j + (0 - 0) * 5) = _
  rw [show j + (0 - 0) * 5 = j by omega]
  exact h3⟩
theorem lkN_s {b : BS} {i : Nat} : lkN b (i + 1) = lkS ((lkN b i).1, (lkN b i).2) := rfl
theorem LkI_rd {b : BS} {σ : RS} {i x : Nat} (h : LkI b i σ) (hk : (lkN b i).2 ≤ i) (hw : (lkN b i).2 < (lkN b i).1 0 3) (hx : x < 5) : σ 7 (i * 5 + x) = nI ((lkN b i).1 7 ((lkN b i).2 * 5 + x)) := by
  have h5 := h.2.2.2.2 ((lkN b i).2 * 5 + x) (by omega) (by omega)
  rw [show (lkN b i).2 * 5 + x + (i - (lkN b i).2) * 5 = i * 5 + x by omega] at h5
  exact h5
theorem LkI_y {b : BS} {σ σ' : RS} {i : Nat} (h : LkI b i σ) (hk : (lkN b i).2 ≤ i) (hd : dueN (lkN b i).1 (lkN b i).2) (hR : Rc σ' (dorder (lkN b i).1 (lkN b i).2)) (hM : Sm σ σ') : LkI b (i + 1) σ' := by
  obtain ⟨e1, e2, e3, e4, e5⟩ := h
  obtain ⟨m1, m2, m3, -⟩ := hM
  unfold LkI
  rw [lkN_s, lkS_y hd]
  dsimp only
  generalize (lkN b i).1 = c at *
  generalize (lkN b i).2 = k at *
  refine ⟨Rc_to hR ?_ ?_ ?_ ?_ ?_, m2.trans e2, m3.trans e3, fun j hj => ?_, fun j h1 h2 => ?_⟩
  · rw [lkA_k (by omega) (by omega)]
  · rw [lkA_k (by omega) (by omega)]
  · rw [lkA_k (by omega) (by omega)]
  · rw [lkA_k (by omega) (by omega)]
  · intro k2 i2 h1 h2 h3
    rw [lkA_k (by omega) (by omega)]
  · rw [m1, lkA_7, if_pos hj]
    exact e4 j hj
  · rw [lkA_03] at h2
    rw [m1, lkA_7, if_neg (by omega), show j + (i + 1 - k) * 5 = j + 5 + (i - k) * 5 by omega]
    exact e5 (j + 5) (by omega) (by omega)
theorem LkI_n {b : BS} {σ : RS} {i : Nat} (h : LkI b i σ) (hk : (lkN b i).2 ≤ i) (hw : (lkN b i).2 < (lkN b i).1 0 3) (hd : ¬ dueN (lkN b i).1 (lkN b i).2) : LkI b (i + 1) (mvI σ i (lkN b i).2 5) := by
  have hrd := fun x hx => LkI_rd (x := x) h hk hw hx
  obtain ⟨e1, e2, e3, e4, e5⟩ := h
  unfold LkI
  rw [lkN_s, lkS_n hd]
  dsimp only
  generalize (lkN b i).1 = c at *
  generalize (lkN b i).2 = k at *
  have hne : ∀ a j, a ≠ 7 → mvI σ i k 5 a j = σ a j := fun a j ha => by unfold mvI; rw [if_neg (fun h => ha h.1)]
  obtain ⟨q1, q2, q3, q4, q5⟩ := e1
  refine ⟨⟨by rw [hne _ _ (by omega)]; exact q1, by rw [hne _ _ (by omega)]; exact q2, by rw [hne _ _ (by omega)]; exact q3, by rw [hne _ _ (by omega)]; exact q4, fun a j h1 h2 h3 => by rw [hne _ _ (by omega)]; exact q5 a j h1 h2 h3⟩, by rw [hne _ _ (by omega)]; exact e2, by rw [hne _ _ (by omega)]; exact e3, fun j hj => ?_, fun j h1 h2 => ?_⟩
  · unfold mvI
    by_cases hj2 : k * 5 ≤ j
    · rw [if_pos ⟨rfl, hj2, by omega⟩, hrd (j - k * 5) (by omega), show k * 5 + (j - k * 5) = j by omega]
    · rw [if_neg (by omega)]
      exact e4 j (by omega)
  · unfold mvI
    rw [if_neg (by omega), show j + (i + 1 - (k + 1)) * 5 = j + (i - k) * 5 by omega]
    exact e5 j (by omega) h2
theorem look_end {b : BS} {σ σ1 σ2 : RS} {i : Nat} (h : LkI b i σ) (hi : i = b 0 3) (j3 : (lkN b i).2 ≤ i) (j4 : (lkN b i).1 0 3 + i = b 0 3 + (lkN b i).2) (j5 : (lkN b i).1 0 5 + (lkN b i).2 = b 0 5 + i) (h1 : σ1 = up σ 0 3 (nI (lkN b i).2)) (h2 : σ2 = up σ1 0 5 (nI (b 0 5 + (b 0 3 - (lkN b i).2)))) : nI (b 0 3 - (lkN b i).2) = nI (b 0 3 - lka b 0 3) ∧ Rc σ2 (lka b) ∧ Ro σ2 (lka b) := by
  subst hi
  obtain ⟨e1, e2, e3, e4, e5⟩ := h
  have hk : lka b 0 3 = (lkN b (b 0 3)).2 := by unfold lka; omega
  have hd : lka b 0 5 = b 0 5 + (b 0 3 - (lkN b (b 0 3)).2) := by unfold lka; omega
  have hne : ∀ a j, (a ≠ 0 ∨ (j ≠ 3 ∧ j ≠ 5)) → σ2 a j = σ a j := fun a j ha => by
    rw [h2, h1]
    by_cases h0 : a = 0
    · subst h0
      rw [up_i (by omega), up_i (by omega)]
    · rw [up_k h0, up_k h0]
  obtain ⟨q1, q2, q3, q4, q5⟩ := e1
  refine ⟨by rw [hk], ⟨by rw [hne _ _ (by omega)]; exact q1, by rw [hne _ _ (by omega)]; exact q2, by rw [hne _ _ (by omega)]; exact q3, by rw [hne _ _ (by omega)]; exact q4, fun a j z1 z2 z3 => by rw [hne _ _ (by omega)]; exact q5 a j z1 z2 z3⟩, ?_, ?_, fun j hj => ?_⟩
  · rw [h2, up_i (by omega), h1, up_s, hk]
  · rw [h2, up_s, hd]
  · rw [hk] at hj
    rw [hne _ _ (by omega)]
    exact e4 j (by omega)

set_option maxHeartbeats 1000000 in
set_option maxRecDepth 100000 in
theorem c0_lookAtOrders (l : Launch) {G : va_G} {cA : ClassId} {ad : Nat → Nat} {σ : RS} (hj : inj8 ad) {b : BS} (hI : InvC b) (hR : Rc σ b) (hO : Ro σ b) (hOi : InvO b) : Met l yX0_lookAtOrders (ws_ yX0_lookAtOrders cX0_lookAtOrders 3 (some .int)) (rmk 6 0 0) (pc0 G cA ad σ [.ref (ad 0)]) (va_Qi (fun (r : Int32) (σ' : RS) => r = nI (b 0 3 - lka b 0 3) ∧ Rc σ' (lka b) ∧ Ro σ' (lka b)) (fun σ' t => va_P G vwCl (w0 ad cA σ') t.heap) (own8 ad)) 0 0 (own8 ad) := by
  refine Met.ofW (cc := cX0_lookAtOrders) (maxL := 3) (ret := (some .int)) (by decide) rfl ?_
  intro p e s m args below meth c s₁ B hml hv
  obtain ⟨rfl, hP, hK⟩ := hv
  have CF : CallFix p m c cX0_lookAtOrders 3 s _ AW RX0 := ⟨B.exec, B.bytes, hml, findClass_of_methodNamed B.named, fun w h => atoms_spec (ws := ws_ yX0_lookAtOrders cX0_lookAtOrders 3 (some .int)) B.pre w (List.mem_cons_of_mem _ h)⟩
  have hr := B.returns
  have hlocks := B.notSynchronized
  have hl := lv_entry ([.ref (ad 0)]) (n := 3) (Nat.le_of_ble_eq_true rfl)
  rw [lg_entry_eq]
  generalize (lg_sl ([.ref (ad 0)]) ++ List.replicate (3 - (lg_sl ([.ref (ad 0)])).length) Slot.unset).toArray = ls at hl ⊢
  have hl : lv_has ls 3 [(0, .ref (ad 0))] := hl
  have hD : va_D (own8 ad) (w0 ad cA σ) := w0_D hj (fun _ h => h)
  have hS : va_S (own8 ad) s.heap s.heap [] := va_S.rf
  have hw10 := hOi.1
  refine lv_iconst (v := nI 0) CF.1 CF.2.1 dX0_lookAtOrders_0 (by decide) ?_
  refine lv_istore_n (lv' := [(1, .int (nI (0))), (0, .ref (ad 0))]) CF.1 CF.2.1 dX0_lookAtOrders_1 rfl hl (by decide) rfl (fun ls hl => ?_)
  refine lv_iconst (v := nI 0) CF.1 CF.2.1 dX0_lookAtOrders_2 (by decide) ?_
  refine lv_istore_n (lv' := [(2, .int (nI (0))), (1, .int (nI (0))), (0, .ref (ad 0))]) CF.1 CF.2.1 dX0_lookAtOrders_3 rfl hl (by decide) rfl (fun ls hl => ?_)
  refine loop_rw0 (α := Unit) (fun i x => [(0, .ref (ad 0)), (1, .int (nI ((lkN b i).2))), (2, .int (nI (i)))]) (fun i _ σ' => LkI b i σ') (b 0 3) (0) (()) (LkI_0 hR hO) hP hS (lv_sub hl [2, 1, 0] rfl) (by omega) (fun i_1 x_1 σ1 H1 locs hj_1 hi_1 hx_1 hP1 hS1 ih_1 ls hl => ?_)
  have hD1 : va_D (own8 ad) (w0 ad cA σ1) := w0_D hj (fun _ h => h)
  obtain ⟨j1, j2, j3, j4, j5, j6⟩ := lk_inv hI hOi i_1 (by omega)
  obtain ⟨e1, e2, e3, e4, e5⟩ := id hx_1
  have hw10 := hOi.1
  refine lv_iload_n CF.1 CF.2.1 dX0_lookAtOrders_4 rfl (lv_at hl 2 rfl) ?_
  refine lv_aload_n CF.1 CF.2.1 dX0_lookAtOrders_5 rfl (lv_at hl 0 rfl) ?_
  refine x0_g_waiting CF hK hP1 (v := (nI (b 0 3))) e2 dX0_lookAtOrders_6 ?_
  refine z_icmp_ge CF (tgt := 35) (nIz (by omega)) (nIz (by omega)) dX0_lookAtOrders_9 (by decide) (fun h_2 => ?_) (fun h_3 => ?_)
  · refine lv_aload_n CF.1 CF.2.1 dX0_lookAtOrders_35 rfl (lv_at hl 0 rfl) ?_
    refine x0_g_waiting CF hK hP1 (v := (nI (b 0 3))) e2 dX0_lookAtOrders_36 ?_
    refine lv_iload_n CF.1 CF.2.1 dX0_lookAtOrders_39 rfl (lv_at hl 1 rfl) ?_
    refine o_isub CF (by omega) dX0_lookAtOrders_40 ?_
    refine lv_istore_n (lv' := [(2, .int (nI (b 0 3 - ((lkN b i_1).2)))), (0, .ref (ad 0)), (1, .int (nI ((lkN b i_1).2)))]) CF.1 CF.2.1 dX0_lookAtOrders_41 rfl hl (by decide) rfl (fun ls hl => ?_)
    refine lv_aload_n CF.1 CF.2.1 dX0_lookAtOrders_42 rfl (lv_at hl 1 rfl) ?_
    refine lv_iload_n CF.1 CF.2.1 dX0_lookAtOrders_43 rfl (lv_at hl 2 rfl) ?_
    refine x0_p_waiting CF hK hP1 hD1 hS1 dX0_lookAtOrders_44 (fun σ4 H4 locs hσ4 hP4 hD4 hS4 => ?_)
    refine lv_aload_n CF.1 CF.2.1 dX0_lookAtOrders_47 rfl (lv_at hl 1 rfl) ?_
    refine lv_dup CF.1 CF.2.1 dX0_lookAtOrders_48 rfl ?_
    refine x0_g_ordersDone CF hK hP4 (v := (nI (b 0 5))) (by rw [hσ4, up_i (by decide)]; exact e3) dX0_lookAtOrders_49 ?_
    refine lv_iload_n CF.1 CF.2.1 dX0_lookAtOrders_52 rfl (lv_at hl 0 rfl) ?_
    refine o_iadd CF dX0_lookAtOrders_53 ?_
    refine x0_p_ordersDone CF hK hP4 hD4 hS4 dX0_lookAtOrders_54 (fun σ5 H5 locs hσ5 hP5 hD5 hS5 => ?_)
    refine lv_iload_n CF.1 CF.2.1 dX0_lookAtOrders_57 rfl (lv_at hl 0 rfl) ?_
    exact W.iret CF.1 CF.2.1 hr (fun t9 ht9 hW9 => ⟨⟨_, σ5, rfl, look_end hx_1 (by omega) j3 j4 j5 hσ4 hσ5, by show va_P G vwCl (w0 ad cA σ5) t9.heap; rw [ht9]; exact hP5⟩, hS5.F ht9⟩) hS5.2.2 dX0_lookAtOrders_58
  · refine lv_aload_n CF.1 CF.2.1 dX0_lookAtOrders_12 rfl (lv_at hl 0 rfl) ?_
    refine lv_iload_n CF.1 CF.2.1 dX0_lookAtOrders_13 rfl (lv_at hl 2 rfl) ?_
    obtain ⟨o1, o2, o3, o4, o5, o6, o7, o8⟩ := j2.2 (lkN b i_1).2 (by omega)
    have hrd := fun x hx => LkI_rd (x := x) hx_1 j3 (by omega) hx
    refine d0_i CF hK hP1 hj (fun _ h => h) hS1 (As := [.int (nI (i_1))]) (rest := []) (c0_doneIfPossible l hj (b := (lkN b i_1).1) j1 e1 (q := i_1) (u := (lkN b i_1).1 7 ((lkN b i_1).2 * 5)) (f := (lkN b i_1).1 7 ((lkN b i_1).2 * 5 + 1)) (t := (lkN b i_1).1 7 ((lkN b i_1).2 * 5 + 2)) (a := (lkN b i_1).1 7 ((lkN b i_1).2 * 5 + 3)) (k := (lkN b i_1).1 7 ((lkN b i_1).2 * 5 + 4)) (by omega) (hrd 0 (by omega)) (hrd 1 (by omega)) (hrd 2 (by omega)) (hrd 3 (by omega)) (hrd 4 (by omega)) o1 o2 o3 (by omega) o7 (by omega)) rfl lk_RX0_X0_doneIfPossible rfl hl.1 ⟨Nat.le_of_ble_eq_true rfl, Nat.le_of_ble_eq_true rfl⟩ ⟨Nat.zero_le _, Nat.zero_le _⟩ (Nat.le_of_ble_eq_true rfl) rfl dX0_lookAtOrders_14 (fun r_6 σ8 H8 locs hr_7 hP8 hD8 hS8 hz8 hk8 => ?_)
    rcases hr_7 with ⟨hr_7a, rfl, hr_7b, hr_7c⟩ | ⟨hr_7a, rfl, rfl⟩
    · refine z_if_ne CF (tgt := 29) (nIz (by omega)) dX0_lookAtOrders_17 (by decide) (fun _ => ?_) (fun h => absurd h (by decide))
      refine lv_iinc (v := nI (i_1 + 1)) (lv' := [(2, .int (nI (i_1 + 1))), (0, .ref (ad 0)), (1, .int (nI ((lkN b i_1).2)))]) CF.1 CF.2.1 dX0_lookAtOrders_29 hl (k := 2) rfl (by first | exact nI_add _ _ | rfl) (by decide) rfl (fun ls hl => ?_)
      refine lv_goto (tgt := 4) CF.1 CF.2.1 dX0_lookAtOrders_32 (by decide) ?_
      have hk2 : (lkN b (i_1 + 1)).2 = (lkN b i_1).2 := by rw [lkN_s, lkS_y hr_7a]
      exact ih_1 () σ8 _ _ ls (by omega) (LkI_y hx_1 j3 hr_7a hr_7b hr_7c) hP8 hS8 (lv_sub hl [1, 2, 0] (by rw [hk2]; rfl))
    · refine z_if_ne CF (tgt := 29) (nIz (by omega)) dX0_lookAtOrders_17 (by decide) (fun h => absurd h (by decide)) (fun _ => ?_)
      refine lv_aload_n CF.1 CF.2.1 dX0_lookAtOrders_20 rfl (lv_at hl 0 rfl) ?_
      refine lv_iload_n CF.1 CF.2.1 dX0_lookAtOrders_21 rfl (lv_at hl 2 rfl) ?_
      refine lv_iload_n CF.1 CF.2.1 dX0_lookAtOrders_22 rfl (lv_at hl 1 rfl) ?_
      refine d0_v CF hK hP8 hj (fun _ h => h) hS8 (As := [.int (nI (i_1)), .int (nI ((lkN b i_1).2))]) (rest := []) (c0_moveOrder l hj (σ := σ8) (q := i_1) (k := (lkN b i_1).2) (by omega) (by omega)) rfl lk_RX0_X0_moveOrder rfl hl.1 ⟨Nat.le_of_ble_eq_true rfl, Nat.le_of_ble_eq_true rfl⟩ ⟨Nat.zero_le _, Nat.zero_le _⟩ (Nat.le_of_ble_eq_true rfl) rfl dX0_lookAtOrders_23 (fun σ15 H15 locs hr_14 hP15 hD15 hS15 hz15 hk15 => ?_)
      refine lv_iinc (v := nI ((lkN b i_1).2 + 1)) (lv' := [(1, .int (nI ((lkN b i_1).2 + 1))), (0, .ref (ad 0)), (2, .int (nI (i_1)))]) CF.1 CF.2.1 dX0_lookAtOrders_26 hl (k := 1) rfl (by first | exact nI_add _ _ | rfl) (by decide) rfl (fun ls hl => ?_)
      refine lv_iinc (v := nI (i_1 + 1)) (lv' := [(2, .int (nI (i_1 + 1))), (1, .int (nI ((lkN b i_1).2 + 1))), (0, .ref (ad 0))]) CF.1 CF.2.1 dX0_lookAtOrders_29 hl (k := 2) rfl (by first | exact nI_add _ _ | rfl) (by decide) rfl (fun ls hl => ?_)
      refine lv_goto (tgt := 4) CF.1 CF.2.1 dX0_lookAtOrders_32 (by decide) ?_
      have hk2 : (lkN b (i_1 + 1)).2 = (lkN b i_1).2 + 1 := by rw [lkN_s, lkS_n hr_7a]
      exact ih_1 () σ15 _ _ ls (by omega) (by show LkI b (i_1 + 1) σ15; rw [hr_14]; exact LkI_n hx_1 j3 (by omega) hr_7a) hP15 hS15 (lv_sub hl [2, 1, 0] (by rw [hk2]; rfl))
