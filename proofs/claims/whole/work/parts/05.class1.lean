set_option maxHeartbeats 1000000 in
set_option maxRecDepth 100000 in
theorem c0_isAllowed (l : Launch) {G : va_G} {cA : ClassId} {ad : Nat → Nat} {σ : RS} {b : BS} (hI : InvC b) (hR : Rc σ b) {P t a w : Nat} (hP0 : P < 2147483648) (ht : t < 5) (ha : a < 2147483648) (hw : w < 4611686018427387904) : Met l yX0_isAllowed (ws_ yX0_isAllowed cX0_isAllowed 6 (some .boolean)) (rmk 2 0 0) (pc0 G cA ad σ [.ref (ad 0), .int (nI (P)), .int (nI (t)), .int (nI (a)), .long (lN (w))]) (rqi (fun r => (r = nI 1 ∧ (1 ≤ a ∧ a ≤ P ∧ 1 ≤ w ∧ w ≤ b 2 t ∧ b 5 t + w ≤ b 4 t)) ∨ (r = nI 0 ∧ ¬ (1 ≤ a ∧ a ≤ P ∧ 1 ≤ w ∧ w ≤ b 2 t ∧ b 5 t + w ≤ b 4 t)))) 0 0 (fun _ => False) := by
  refine Met.ofW (cc := cX0_isAllowed) (maxL := 6) (ret := (some .boolean)) (by decide) rfl ?_
  intro p e s m args below meth c s₁ B hml hv
  obtain ⟨rfl, hP, hK⟩ := hv
  have CF : CallFix p m c cX0_isAllowed 6 s _ AW RX0 := ⟨B.exec, B.bytes, hml, findClass_of_methodNamed B.named, fun w h => atoms_spec (ws := ws_ yX0_isAllowed cX0_isAllowed 6 (some .boolean)) B.pre w (List.mem_cons_of_mem _ h)⟩
  have hr := B.returns
  have hlocks := B.notSynchronized
  have hl := lv_entry ([.ref (ad 0), .int (nI (P)), .int (nI (t)), .int (nI (a)), .long (lN (w))]) (n := 6) (Nat.le_of_ble_eq_true rfl)
  rw [lg_entry_eq]
  generalize (lg_sl ([.ref (ad 0), .int (nI (P)), .int (nI (t)), .int (nI (a)), .long (lN (w))]) ++ List.replicate (6 - (lg_sl ([.ref (ad 0), .int (nI (P)), .int (nI (t)), .int (nI (a)), .long (lN (w))])).length) Slot.unset).toArray = ls at hl ⊢
  have hl : lv_has ls 6 [(0, .ref (ad 0)), (1, .int (nI (P))), (2, .int (nI (t))), (3, .int (nI (a))), (4, .long (lN (w)))] := hl
  obtain ⟨i_sp, i_cu, i_ra, i_di, i_mo, i_pu⟩ := id hI
  have h_m := i_mo t (by omega)
  refine lv_iload_n CF.1 CF.2.1 dX0_isAllowed_0 rfl (lv_at hl 2 rfl) ?_
  refine cS_i CF (As := [.int (nI (t))]) (rest := []) (c0_isMoney l (nI (t))) lk_RX0_X0_isMoney rfl hl.1 ⟨Nat.le_of_ble_eq_true rfl, Nat.le_of_ble_eq_true rfl⟩ ⟨Nat.zero_le _, Nat.zero_le _⟩ (Nat.le_of_ble_eq_true rfl) rfl dX0_isAllowed_1 (fun r_1 hr_2 => ?_)
  have hxh_3 := nIz (n := t) (by omega)
  rcases hr_2 with ⟨rfl, -, -⟩ | ⟨rfl, h9⟩
  rotate_left
  · exact absurd h9 (by rw [hxh_3]; omega)
  rw [show (1 : Int32) = nI 1 by rfl]
  refine z_if_eq CF (tgt := 62) (nIz (by omega)) dX0_isAllowed_4 (by decide) (fun h => absurd h (by decide)) (fun _ => ?_)
  refine lv_iload_n CF.1 CF.2.1 dX0_isAllowed_7 rfl (lv_at hl 3 rfl) ?_
  refine lv_iconst (v := nI 1) CF.1 CF.2.1 dX0_isAllowed_8 (by decide) ?_
  refine z_icmp_lt CF (tgt := 62) (nIz (by omega)) (nIz (by omega)) dX0_isAllowed_9 (by decide) (fun h_6 => ?_) (fun h_7 => ?_)
  · refine lv_iconst (v := nI 0) CF.1 CF.2.1 dX0_isAllowed_62 (by decide) ?_
    exact W.zret CF.1 CF.2.1 hr rfl (fun t9 ht9 hW9 => ⟨_, rfl, Or.inr ⟨rfl, by omega⟩, ht9⟩) (fun q hq => absurd hq List.not_mem_nil) dX0_isAllowed_63
  · refine lv_iload_n CF.1 CF.2.1 dX0_isAllowed_12 rfl (lv_at hl 3 rfl) ?_
    refine lv_iload_n CF.1 CF.2.1 dX0_isAllowed_13 rfl (lv_at hl 1 rfl) ?_
    refine z_icmp_gt CF (tgt := 62) (nIz (by omega)) (nIz (by omega)) dX0_isAllowed_14 (by decide) (fun h_8 => ?_) (fun h_9 => ?_)
    · refine lv_iconst (v := nI 0) CF.1 CF.2.1 dX0_isAllowed_62 (by decide) ?_
      exact W.zret CF.1 CF.2.1 hr rfl (fun t9 ht9 hW9 => ⟨_, rfl, Or.inr ⟨rfl, by omega⟩, ht9⟩) (fun q hq => absurd hq List.not_mem_nil) dX0_isAllowed_63
    · refine lv_lload CF.1 CF.2.1 dX0_isAllowed_17 (lv_at hl 4 rfl) ?_
      refine lv_lconst (v := lN 1) CF.1 CF.2.1 dX0_isAllowed_19 (by decide) ?_
      refine z_lcmp_lt CF (tgt := 62) (lNz (by omega)) (lNz (by omega)) dX0_isAllowed_20 dX0_isAllowed_21 (by decide) (fun h_10 => ?_) (fun h_11 => ?_)
      · refine lv_iconst (v := nI 0) CF.1 CF.2.1 dX0_isAllowed_62 (by decide) ?_
        exact W.zret CF.1 CF.2.1 hr rfl (fun t9 ht9 hW9 => ⟨_, rfl, Or.inr ⟨rfl, by omega⟩, ht9⟩) (fun q hq => absurd hq List.not_mem_nil) dX0_isAllowed_63
      · refine lv_lload CF.1 CF.2.1 dX0_isAllowed_24 (lv_at hl 4 rfl) ?_
        refine lv_aload_n CF.1 CF.2.1 dX0_isAllowed_26 rfl (lv_at hl 0 rfl) ?_
        refine x0_g_stocks CF hK hP dX0_isAllowed_27 ?_
        refine lv_iload_n CF.1 CF.2.1 dX0_isAllowed_30 rfl (lv_at hl 2 rfl) ?_
        refine x0_ald2 CF hK hP (i := t) (by omega) (v := (nI (b 2 (t)))) (hR.a2 (by omega)) dX0_isAllowed_31 ?_
        refine o_i2l CF (by omega) dX0_isAllowed_32 ?_
        refine z_lcmp_gt CF (tgt := 62) (lNz (by omega)) (lNz (by omega)) dX0_isAllowed_33 dX0_isAllowed_34 (by decide) (fun h_12 => ?_) (fun h_13 => ?_)
        · refine lv_iconst (v := nI 0) CF.1 CF.2.1 dX0_isAllowed_62 (by decide) ?_
          exact W.zret CF.1 CF.2.1 hr rfl (fun t9 ht9 hW9 => ⟨_, rfl, Or.inr ⟨rfl, by omega⟩, ht9⟩) (fun q hq => absurd hq List.not_mem_nil) dX0_isAllowed_63
        · refine lv_aload_n CF.1 CF.2.1 dX0_isAllowed_37 rfl (lv_at hl 0 rfl) ?_
          refine x0_g_givenToday CF hK hP dX0_isAllowed_38 ?_
          refine lv_iload_n CF.1 CF.2.1 dX0_isAllowed_41 rfl (lv_at hl 2 rfl) ?_
          refine x0_ald5 CF hK hP (i := t) (by omega) (v := (nI (b 5 (t)))) (hR.a5 (by omega)) dX0_isAllowed_42 ?_
          refine o_i2l CF (by omega) dX0_isAllowed_43 ?_
          refine lv_lload CF.1 CF.2.1 dX0_isAllowed_44 (lv_at hl 4 rfl) ?_
          refine o_ladd CF dX0_isAllowed_46 ?_
          refine lv_aload_n CF.1 CF.2.1 dX0_isAllowed_47 rfl (lv_at hl 0 rfl) ?_
          refine x0_g_limits CF hK hP dX0_isAllowed_48 ?_
          refine lv_iload_n CF.1 CF.2.1 dX0_isAllowed_51 rfl (lv_at hl 2 rfl) ?_
          refine x0_ald4 CF hK hP (i := t) (by omega) (v := (nI (b 4 (t)))) (hR.a4 (by omega)) dX0_isAllowed_52 ?_
          refine o_i2l CF (by omega) dX0_isAllowed_53 ?_
          refine z_lcmp_gt CF (tgt := 62) (lNz (by omega)) (lNz (by omega)) dX0_isAllowed_54 dX0_isAllowed_55 (by decide) (fun h_14 => ?_) (fun h_15 => ?_)
          · refine lv_iconst (v := nI 0) CF.1 CF.2.1 dX0_isAllowed_62 (by decide) ?_
            exact W.zret CF.1 CF.2.1 hr rfl (fun t9 ht9 hW9 => ⟨_, rfl, Or.inr ⟨rfl, by omega⟩, ht9⟩) (fun q hq => absurd hq List.not_mem_nil) dX0_isAllowed_63
          · refine lv_iconst (v := nI 1) CF.1 CF.2.1 dX0_isAllowed_58 (by decide) ?_
            refine lv_goto (tgt := 63) CF.1 CF.2.1 dX0_isAllowed_59 (by decide) ?_
            exact W.zret CF.1 CF.2.1 hr rfl (fun t9 ht9 hW9 => ⟨_, rfl, Or.inl ⟨rfl, by omega⟩, ht9⟩) (fun q hq => absurd hq List.not_mem_nil) dX0_isAllowed_63
set_option maxHeartbeats 1000000 in
set_option maxRecDepth 100000 in
theorem c0_keepDust (l : Launch) {G : va_G} {cA : ClassId} {ad : Nat → Nat} {σ : RS} (hj : inj8 ad) {b : BS} (hR : Rc σ b) {t x : Nat} (ht : t < 5) (hx : x < 10000) (hs2 : b 2 t ≤ 999999) (hs3 : b 3 t ≤ 9999) : Met l yX0_keepDust (ws_ yX0_keepDust cX0_keepDust 4 none) (rmk 2 0 0) (pc0 G cA ad σ [.ref (ad 0), .int (nI (t)), .int (nI (x))]) (va_Qv (fun σ' : RS => Rc σ' (kd b t x) ∧ Sm σ σ') (fun σ' t => va_P G vwCl (w0 ad cA σ') t.heap) (own8 ad)) 0 0 (own8 ad) := by
  refine Met.ofW (cc := cX0_keepDust) (maxL := 4) (ret := none) (by decide) rfl ?_
  intro p e s m args below meth c s₁ B hml hv
  obtain ⟨rfl, hP, hK⟩ := hv
  have CF : CallFix p m c cX0_keepDust 4 s _ AW RX0 := ⟨B.exec, B.bytes, hml, findClass_of_methodNamed B.named, fun w h => atoms_spec (ws := ws_ yX0_keepDust cX0_keepDust 4 none) B.pre w (List.mem_cons_of_mem _ h)⟩
  have hr := B.returns
  have hlocks := B.notSynchronized
  have hl := lv_entry ([.ref (ad 0), .int (nI (t)), .int (nI (x))]) (n := 4) (Nat.le_of_ble_eq_true rfl)
  rw [lg_entry_eq]
  generalize (lg_sl ([.ref (ad 0), .int (nI (t)), .int (nI (x))]) ++ List.replicate (4 - (lg_sl ([.ref (ad 0), .int (nI (t)), .int (nI (x))])).length) Slot.unset).toArray = ls at hl ⊢
  have hl : lv_has ls 4 [(0, .ref (ad 0)), (1, .int (nI (t))), (2, .int (nI (x)))] := hl
  have hD : va_D (own8 ad) (w0 ad cA σ) := w0_D hj (fun _ h => h)
  have hS : va_S (own8 ad) s.heap s.heap [] := va_S.rf
  refine lv_iload_n CF.1 CF.2.1 dX0_keepDust_0 rfl (lv_at hl 1 rfl) ?_
  refine cS_i CF (As := [.int (nI (t))]) (rest := []) (c0_isMoney l (nI (t))) lk_RX0_X0_isMoney rfl hl.1 ⟨Nat.le_of_ble_eq_true rfl, Nat.le_of_ble_eq_true rfl⟩ ⟨Nat.zero_le _, Nat.zero_le _⟩ (Nat.le_of_ble_eq_true rfl) rfl dX0_keepDust_1 (fun r_1 hr_2 => ?_)
  have hxh_3 := nIz (n := t) (by omega)
  rcases hr_2 with ⟨rfl, -, -⟩ | ⟨rfl, h9⟩
  rotate_left
  · exact absurd h9 (by rw [hxh_3]; omega)
  rw [show (1 : Int32) = nI 1 by rfl]
  refine z_if_ne CF (tgt := 8) (nIz (by omega)) dX0_keepDust_4 (by decide) (fun _ => ?_) (fun h => absurd h (by decide))
  refine lv_aload_n CF.1 CF.2.1 dX0_keepDust_8 rfl (lv_at hl 0 rfl) ?_
  refine x0_g_dusts CF hK hP dX0_keepDust_9 ?_
  refine lv_iload_n CF.1 CF.2.1 dX0_keepDust_12 rfl (lv_at hl 1 rfl) ?_
  refine x0_ald3 CF hK hP (i := t) (by omega) (v := (nI (b 3 (t)))) (hR.a3 (by omega)) dX0_keepDust_13 ?_
  refine lv_iload_n CF.1 CF.2.1 dX0_keepDust_14 rfl (lv_at hl 2 rfl) ?_
  refine o_iadd CF dX0_keepDust_15 ?_
  refine lv_istore_n (lv' := [(3, .int (nI (b 3 (t) + x))), (0, .ref (ad 0)), (1, .int (nI (t))), (2, .int (nI (x)))]) CF.1 CF.2.1 dX0_keepDust_16 rfl hl (by decide) rfl (fun ls hl => ?_)
  refine lv_aload_n CF.1 CF.2.1 dX0_keepDust_17 rfl (lv_at hl 1 rfl) ?_
  refine x0_g_stocks CF hK hP dX0_keepDust_18 ?_
  refine lv_iload_n CF.1 CF.2.1 dX0_keepDust_21 rfl (lv_at hl 2 rfl) ?_
  refine lv_aload_n CF.1 CF.2.1 dX0_keepDust_22 rfl (lv_at hl 1 rfl) ?_
  refine x0_g_stocks CF hK hP dX0_keepDust_23 ?_
  refine lv_iload_n CF.1 CF.2.1 dX0_keepDust_26 rfl (lv_at hl 2 rfl) ?_
  refine x0_ald2 CF hK hP (i := t) (by omega) (v := (nI (b 2 (t)))) (hR.a2 (by omega)) dX0_keepDust_27 ?_
  refine lv_iload_n CF.1 CF.2.1 dX0_keepDust_28 rfl (lv_at hl 0 rfl) ?_
  refine lv_sipush (v := nI 10000) CF.1 CF.2.1 dX0_keepDust_29 (by decide) ?_
  refine lv_idiv CF.1 CF.2.1 dX0_keepDust_32 (ine (by omega) (by omega)) ?_
  refine tpi (pk_div (by omega) (by omega) (by omega)) ?_
  refine o_iadd CF dX0_keepDust_33 ?_
  refine o_i2l CF (by omega) dX0_keepDust_34 ?_
  refine cS_i CF (As := [.long (lN (b 2 (t) + ((b 3 (t) + x) / (10000))))]) (rest := [.int (nI (t)), .ref (ad 2)]) (c0_heldAtMost l (v := b 2 (t) + ((b 3 (t) + x) / (10000))) (by omega)) lk_RX0_X0_heldAtMost rfl hl.1 ⟨Nat.le_of_ble_eq_true rfl, Nat.le_of_ble_eq_true rfl⟩ ⟨Nat.zero_le _, Nat.zero_le _⟩ (Nat.le_of_ble_eq_true rfl) rfl dX0_keepDust_35 (fun r_6 hr_7 => ?_)
  subst hr_7
  refine x0_ast2 CF hK hP hD hS (i := t) (by omega) dX0_keepDust_38 (fun σ8 H8 locs hσ8 hP8 hD8 hS8 => ?_)
  have hR8 : Rc σ8 (upN (b) 2 (t) (min (b 2 (t) + ((b 3 (t) + x) / (10000))) 999999)) := by rw [hσ8]; exact Rc_up hR 2 (t) (min (b 2 (t) + ((b 3 (t) + x) / (10000))) 999999)
  have hM8 : Sm σ σ8 := by rw [hσ8]; exact Sm_up Sm_rf ⟨by decide, Or.inl (by decide)⟩
  refine lv_aload_n CF.1 CF.2.1 dX0_keepDust_39 rfl (lv_at hl 1 rfl) ?_
  refine x0_g_dusts CF hK hP8 dX0_keepDust_40 ?_
  refine lv_iload_n CF.1 CF.2.1 dX0_keepDust_43 rfl (lv_at hl 2 rfl) ?_
  refine lv_iload_n CF.1 CF.2.1 dX0_keepDust_44 rfl (lv_at hl 0 rfl) ?_
  refine lv_sipush (v := nI 10000) CF.1 CF.2.1 dX0_keepDust_45 (by decide) ?_
  refine lv_irem CF.1 CF.2.1 dX0_keepDust_48 (ine (by omega) (by omega)) ?_
  refine tpi (pk_rem (by omega) (by omega) (by omega)) ?_
  refine x0_ast3 CF hK hP8 hD8 hS8 (i := t) (by omega) dX0_keepDust_49 (fun σ9 H9 locs hσ9 hP9 hD9 hS9 => ?_)
  have hR9 : Rc σ9 (upN (upN (b) 2 (t) (min (b 2 (t) + ((b 3 (t) + x) / (10000))) 999999)) 3 (t) ((b 3 (t) + x) % (10000))) := by rw [hσ9]; exact Rc_up hR8 3 (t) ((b 3 (t) + x) % (10000))
  have hM9 : Sm σ σ9 := by rw [hσ9]; exact Sm_up hM8 ⟨by decide, Or.inl (by decide)⟩
  exact W.vret CF.1 CF.2.1 hr (fun t9 ht9 hW9 => ⟨⟨σ9, rfl, ⟨kd_rc hR9 rfl rfl, hM9⟩, by show va_P G vwCl (w0 ad cA σ9) t9.heap; rw [ht9]; exact hP9⟩, hS9.F ht9⟩) hS9.2.2 dX0_keepDust_50
set_option maxHeartbeats 1000000 in
set_option maxRecDepth 100000 in
theorem c0_changeIfPossible (l : Launch) {G : va_G} {cA : ClassId} {ad : Nat → Nat} {σ : RS} (hj : inj8 ad) {b : BS} (hI : InvC b) (hR : Rc σ b) {u f t a k : Nat} (hu : u < b 0 2) (hf : f < 5) (ht : t < 5) (ha : a < 2147483648) (hk0 : 1 ≤ k) (hk : k < 2147483648) : Met l yX0_changeIfPossible (ws_ yX0_changeIfPossible cX0_changeIfPossible 12 (some .int)) (rmk 4 0 0) (pc0 G cA ad σ [.ref (ad 0), .int (nI (u)), .int (nI (f)), .int (nI (t)), .int (nI (a)), .int (nI (k))]) (va_Qi (fun (r : Int32) (σ' : RS) => (okN b u f t a k ∧ r = nI (gv b f t a) ∧ Rc σ' (dc b u f t a) ∧ Sm σ σ') ∨ (¬ okN b u f t a k ∧ r = nI 0 ∧ σ' = σ)) (fun σ' t => va_P G vwCl (w0 ad cA σ') t.heap) (own8 ad)) 0 0 (own8 ad) := by
  refine Met.ofW (cc := cX0_changeIfPossible) (maxL := 12) (ret := (some .int)) (by decide) rfl ?_
  intro p e s m args below meth c s₁ B hml hv
  obtain ⟨rfl, hP, hK⟩ := hv
  have CF : CallFix p m c cX0_changeIfPossible 12 s _ AW RX0 := ⟨B.exec, B.bytes, hml, findClass_of_methodNamed B.named, fun w h => atoms_spec (ws := ws_ yX0_changeIfPossible cX0_changeIfPossible 12 (some .int)) B.pre w (List.mem_cons_of_mem _ h)⟩
  have hr := B.returns
  have hlocks := B.notSynchronized
  have hl := lv_entry ([.ref (ad 0), .int (nI (u)), .int (nI (f)), .int (nI (t)), .int (nI (a)), .int (nI (k))]) (n := 12) (Nat.le_of_ble_eq_true rfl)
  rw [lg_entry_eq]
  generalize (lg_sl ([.ref (ad 0), .int (nI (u)), .int (nI (f)), .int (nI (t)), .int (nI (a)), .int (nI (k))]) ++ List.replicate (12 - (lg_sl ([.ref (ad 0), .int (nI (u)), .int (nI (f)), .int (nI (t)), .int (nI (a)), .int (nI (k))])).length) Slot.unset).toArray = ls at hl ⊢
  have hl : lv_has ls 12 [(0, .ref (ad 0)), (1, .int (nI (u))), (2, .int (nI (f))), (3, .int (nI (t))), (4, .int (nI (a))), (5, .int (nI (k)))] := hl
  have hD : va_D (own8 ad) (w0 ad cA σ) := w0_D hj (fun _ h => h)
  have hS : va_S (own8 ad) s.heap s.heap [] := va_S.rf
  obtain ⟨i_sp, i_cu, i_ra, i_di, i_mo, i_pu⟩ := id hI
  have h_mf := i_mo f (by omega)
  have h_mt := i_mo t (by omega)
  have h_pf := i_pu (u * 5 + f) (by omega)
  have h_pt := i_pu (u * 5 + t) (by omega)
  refine lv_aload_n CF.1 CF.2.1 dX0_changeIfPossible_0 rfl (lv_at hl 0 rfl) ?_
  refine lv_iload_n CF.1 CF.2.1 dX0_changeIfPossible_1 rfl (lv_at hl 1 rfl) ?_
  refine c0_i CF hK hP (As := [.int (nI (u))]) (rest := []) (c0_isCustomer l hI hR (nI (u))) rfl lk_RX0_X0_isCustomer rfl hl.1 ⟨Nat.le_of_ble_eq_true rfl, Nat.le_of_ble_eq_true rfl⟩ ⟨Nat.zero_le _, Nat.zero_le _⟩ (Nat.le_of_ble_eq_true rfl) rfl dX0_changeIfPossible_2 (fun r_1 hr_2 => ?_)
  have hxh_3 := nIz (n := u) (by omega)
  rcases hr_2 with ⟨rfl, -, -⟩ | ⟨rfl, h9⟩
  rotate_left
  · exact absurd h9 (by rw [hxh_3]; omega)
  rw [show (1 : Int32) = nI 1 by rfl]
  refine z_if_eq CF (tgt := 27) (nIz (by omega)) dX0_changeIfPossible_5 (by decide) (fun h => absurd h (by decide)) (fun _ => ?_)
  refine lv_iload_n CF.1 CF.2.1 dX0_changeIfPossible_8 rfl (lv_at hl 2 rfl) ?_
  refine cS_i CF (As := [.int (nI (f))]) (rest := []) (c0_isMoney l (nI (f))) lk_RX0_X0_isMoney rfl hl.1 ⟨Nat.le_of_ble_eq_true rfl, Nat.le_of_ble_eq_true rfl⟩ ⟨Nat.zero_le _, Nat.zero_le _⟩ (Nat.le_of_ble_eq_true rfl) rfl dX0_changeIfPossible_9 (fun r_6 hr_7 => ?_)
  have hxh_8 := nIz (n := f) (by omega)
  rcases hr_7 with ⟨rfl, -, -⟩ | ⟨rfl, h9⟩
  rotate_left
  · exact absurd h9 (by rw [hxh_8]; omega)
  rw [show (1 : Int32) = nI 1 by rfl]
  refine z_if_eq CF (tgt := 27) (nIz (by omega)) dX0_changeIfPossible_12 (by decide) (fun h => absurd h (by decide)) (fun _ => ?_)
  refine lv_iload_n CF.1 CF.2.1 dX0_changeIfPossible_15 rfl (lv_at hl 3 rfl) ?_
  refine cS_i CF (As := [.int (nI (t))]) (rest := []) (c0_isMoney l (nI (t))) lk_RX0_X0_isMoney rfl hl.1 ⟨Nat.le_of_ble_eq_true rfl, Nat.le_of_ble_eq_true rfl⟩ ⟨Nat.zero_le _, Nat.zero_le _⟩ (Nat.le_of_ble_eq_true rfl) rfl dX0_changeIfPossible_16 (fun r_11 hr_12 => ?_)
  have hxh_13 := nIz (n := t) (by omega)
  rcases hr_12 with ⟨rfl, -, -⟩ | ⟨rfl, h9⟩
  rotate_left
  · exact absurd h9 (by rw [hxh_13]; omega)
  rw [show (1 : Int32) = nI 1 by rfl]
  refine z_if_eq CF (tgt := 27) (nIz (by omega)) dX0_changeIfPossible_19 (by decide) (fun h => absurd h (by decide)) (fun _ => ?_)
  refine lv_iload_n CF.1 CF.2.1 dX0_changeIfPossible_22 rfl (lv_at hl 2 rfl) ?_
  refine lv_iload_n CF.1 CF.2.1 dX0_changeIfPossible_23 rfl (lv_at hl 3 rfl) ?_
  refine z_icmp_ne CF (tgt := 29) (nIz (by omega)) (nIz (by omega)) dX0_changeIfPossible_24 (by decide) (fun h_16 => ?_) (fun h_17 => ?_)
  · refine lv_aload_n CF.1 CF.2.1 dX0_changeIfPossible_29 rfl (lv_at hl 0 rfl) ?_
    refine lv_iload_n CF.1 CF.2.1 dX0_changeIfPossible_30 rfl (lv_at hl 2 rfl) ?_
    refine lv_iload_n CF.1 CF.2.1 dX0_changeIfPossible_31 rfl (lv_at hl 3 rfl) ?_
    refine lv_iload CF.1 CF.2.1 dX0_changeIfPossible_32 (lv_at hl 4 rfl) ?_
    refine o_i2l CF (by omega) dX0_changeIfPossible_34 ?_
    refine c0_l CF hK hP (As := [.int (nI (f)), .int (nI (t)), .long (lN (a))]) (rest := []) (c0_tenthousandths l hI hR (f := f) (t := t) (by omega) (by omega) (lN (a))) rfl lk_RX0_X0_tenthousandths rfl hl.1 ⟨Nat.le_of_ble_eq_true rfl, Nat.le_of_ble_eq_true rfl⟩ ⟨Nat.zero_le _, Nat.zero_le _⟩ (Nat.le_of_ble_eq_true rfl) rfl dX0_changeIfPossible_35 (fun r_18 hr_19 => ?_)
    subst hr_19
    refine tpl (show lN (a) * lN (b 1 (f * 5 + t)) * lN (100 - b 0 1) = lN (pr b (f) (t) (a)) from by rw [lN_mul, lN_mul]; rfl) ?_
    have hp_20 := pr_le hI (f := f) (t := t) (a := a) (A := 2147483647) (by omega) (by omega) (by omega)
    refine lv_lstore (lv' := [(6, .long (lN (pr b (f) (t) (a)))), (0, .ref (ad 0)), (1, .int (nI (u))), (2, .int (nI (f))), (3, .int (nI (t))), (4, .int (nI (a))), (5, .int (nI (k)))]) CF.1 CF.2.1 dX0_changeIfPossible_38 hl (by decide) rfl (fun ls hl => ?_)
    refine lv_lload CF.1 CF.2.1 dX0_changeIfPossible_40 (lv_at hl 0 rfl) ?_
    refine cS_l CF (As := [.long (lN (pr b (f) (t) (a)))]) (rest := []) (c0_wholeOnes l (lN (pr b (f) (t) (a)))) lk_RX0_X0_wholeOnes rfl hl.1 ⟨Nat.le_of_ble_eq_true rfl, Nat.le_of_ble_eq_true rfl⟩ ⟨Nat.zero_le _, Nat.zero_le _⟩ (Nat.le_of_ble_eq_true rfl) rfl dX0_changeIfPossible_42 (fun r_21 hr_22 => ?_)
    subst hr_22
    refine tpl (y := lN (gv b (f) (t) (a))) (pk_lDiv (a := pr b (f) (t) (a)) (b := 10000) (by omega) (by omega) (by omega)) ?_
    have hg_23 : gv b (f) (t) (a) = pr b (f) (t) (a) / 10000 := rfl
    refine lv_lstore (lv' := [(8, .long (lN (gv b (f) (t) (a)))), (6, .long (lN (pr b (f) (t) (a)))), (0, .ref (ad 0)), (1, .int (nI (u))), (2, .int (nI (f))), (3, .int (nI (t))), (4, .int (nI (a))), (5, .int (nI (k)))]) CF.1 CF.2.1 dX0_changeIfPossible_45 hl (by decide) rfl (fun ls hl => ?_)
    refine lv_lload CF.1 CF.2.1 dX0_changeIfPossible_47 (lv_at hl 0 rfl) ?_
    refine lv_iload CF.1 CF.2.1 dX0_changeIfPossible_49 (lv_at hl 7 rfl) ?_
    refine o_i2l CF (by omega) dX0_changeIfPossible_51 ?_
    refine z_lcmp_lt CF (tgt := 74) (lNz (by omega)) (lNz (by omega)) dX0_changeIfPossible_52 dX0_changeIfPossible_53 (by decide) (fun h_24 => ?_) (fun h_25 => ?_)
    · refine lv_iconst (v := nI 0) CF.1 CF.2.1 dX0_changeIfPossible_74 (by decide) ?_
      exact W.iret CF.1 CF.2.1 hr (fun t9 ht9 hW9 => ⟨⟨_, σ, rfl, Or.inr ⟨by unfold okN; omega, rfl, rfl⟩, by show va_P G vwCl (w0 ad cA σ) t9.heap; rw [ht9]; exact hP⟩, hS.F ht9⟩) hS.2.2 dX0_changeIfPossible_75
    · refine lv_aload_n CF.1 CF.2.1 dX0_changeIfPossible_56 rfl (lv_at hl 2 rfl) ?_
      refine lv_aload_n CF.1 CF.2.1 dX0_changeIfPossible_57 rfl (lv_at hl 2 rfl) ?_
      refine lv_iload_n CF.1 CF.2.1 dX0_changeIfPossible_58 rfl (lv_at hl 3 rfl) ?_
      refine lv_iload_n CF.1 CF.2.1 dX0_changeIfPossible_59 rfl (lv_at hl 4 rfl) ?_
      refine c0_i CF hK hP (As := [.int (nI (u)), .int (nI (f))]) (rest := [.ref (ad 0)]) (c0_inPurse l hI hR (u := u) (t := f) (by omega) (by omega)) rfl lk_RX0_X0_inPurse rfl hl.1 ⟨Nat.le_of_ble_eq_true rfl, Nat.le_of_ble_eq_true rfl⟩ ⟨Nat.zero_le _, Nat.zero_le _⟩ (Nat.le_of_ble_eq_true rfl) rfl dX0_changeIfPossible_60 (fun r_26 hr_27 => ?_)
      subst hr_27
      refine lv_iload_n CF.1 CF.2.1 dX0_changeIfPossible_63 rfl (lv_at hl 5 rfl) ?_
      refine lv_iload CF.1 CF.2.1 dX0_changeIfPossible_64 (lv_at hl 6 rfl) ?_
      refine lv_lload CF.1 CF.2.1 dX0_changeIfPossible_66 (lv_at hl 0 rfl) ?_
      refine c0_i CF hK hP (As := [.int (nI (b 6 (u * 5 + f))), .int (nI (t)), .int (nI (a)), .long (lN (gv b (f) (t) (a)))]) (rest := []) (c0_isAllowed l hI hR (P := b 6 (u * 5 + f)) (t := t) (a := a) (w := gv b (f) (t) (a)) (by omega) (by omega) (by omega) (by omega)) rfl lk_RX0_X0_isAllowed rfl hl.1 ⟨Nat.le_of_ble_eq_true rfl, Nat.le_of_ble_eq_true rfl⟩ ⟨Nat.zero_le _, Nat.zero_le _⟩ (Nat.le_of_ble_eq_true rfl) rfl dX0_changeIfPossible_68 (fun r_28 hr_29 => ?_)
      rcases hr_29 with ⟨rfl, hr_29a⟩ | ⟨rfl, hr_29n⟩
      · refine z_if_ne CF (tgt := 76) (nIz (by omega)) dX0_changeIfPossible_71 (by decide) (fun _ => ?_) (fun h => absurd h (by decide))
        refine lv_iload_n CF.1 CF.2.1 dX0_changeIfPossible_76 rfl (lv_at hl 3 rfl) ?_
        refine lv_iconst (v := nI 5) CF.1 CF.2.1 dX0_changeIfPossible_77 (by decide) ?_
        refine o_imul CF dX0_changeIfPossible_78 ?_
        refine lv_iload_n CF.1 CF.2.1 dX0_changeIfPossible_79 rfl (lv_at hl 4 rfl) ?_
        refine o_iadd CF dX0_changeIfPossible_80 ?_
        refine lv_istore (lv' := [(10, .int (nI (u * 5 + f))), (8, .long (lN (gv b (f) (t) (a)))), (6, .long (lN (pr b (f) (t) (a)))), (0, .ref (ad 0)), (1, .int (nI (u))), (2, .int (nI (f))), (3, .int (nI (t))), (4, .int (nI (a))), (5, .int (nI (k)))]) CF.1 CF.2.1 dX0_changeIfPossible_81 hl (by decide) rfl (fun ls hl => ?_)
        refine lv_iload_n CF.1 CF.2.1 dX0_changeIfPossible_83 rfl (lv_at hl 4 rfl) ?_
        refine lv_iconst (v := nI 5) CF.1 CF.2.1 dX0_changeIfPossible_84 (by decide) ?_
        refine o_imul CF dX0_changeIfPossible_85 ?_
        refine lv_iload_n CF.1 CF.2.1 dX0_changeIfPossible_86 rfl (lv_at hl 6 rfl) ?_
        refine o_iadd CF dX0_changeIfPossible_87 ?_
        refine lv_istore (lv' := [(11, .int (nI (u * 5 + t))), (10, .int (nI (u * 5 + f))), (8, .long (lN (gv b (f) (t) (a)))), (6, .long (lN (pr b (f) (t) (a)))), (0, .ref (ad 0)), (1, .int (nI (u))), (2, .int (nI (f))), (3, .int (nI (t))), (4, .int (nI (a))), (5, .int (nI (k)))]) CF.1 CF.2.1 dX0_changeIfPossible_88 hl (by decide) rfl (fun ls hl => ?_)
        refine lv_aload_n CF.1 CF.2.1 dX0_changeIfPossible_90 rfl (lv_at hl 4 rfl) ?_
        refine x0_g_purses CF hK hP dX0_changeIfPossible_91 ?_
        refine lv_iload CF.1 CF.2.1 dX0_changeIfPossible_94 (lv_at hl 1 rfl) ?_
        refine lv_dup2_11 CF.1 CF.2.1 dX0_changeIfPossible_96 rfl rfl ?_
        refine x0_ald6 CF hK hP (i := u * 5 + f) (by omega) (v := (nI (b 6 (u * 5 + f)))) (hR.a6 (by omega)) dX0_changeIfPossible_97 ?_
        refine lv_iload CF.1 CF.2.1 dX0_changeIfPossible_98 (lv_at hl 8 rfl) ?_
        refine o_isub CF (by omega) dX0_changeIfPossible_100 ?_
        refine x0_ast6 CF hK hP hD hS (i := u * 5 + f) (by omega) dX0_changeIfPossible_101 (fun σ32 H32 locs hσ32 hP32 hD32 hS32 => ?_)
        have hR32 : Rc σ32 (upN (b) 6 (u * 5 + f) ((b 6 (u * 5 + f)) - a)) := by rw [hσ32]; exact Rc_up hR 6 (u * 5 + f) ((b 6 (u * 5 + f)) - a)
        have hM32 : Sm σ σ32 := by rw [hσ32]; exact Sm_up Sm_rf ⟨by decide, Or.inl (by decide)⟩
        refine lv_aload_n CF.1 CF.2.1 dX0_changeIfPossible_102 rfl (lv_at hl 4 rfl) ?_
        refine x0_g_purses CF hK hP32 dX0_changeIfPossible_103 ?_
        refine lv_iload CF.1 CF.2.1 dX0_changeIfPossible_106 (lv_at hl 0 rfl) ?_
        refine lv_aload_n CF.1 CF.2.1 dX0_changeIfPossible_108 rfl (lv_at hl 4 rfl) ?_
        refine x0_g_purses CF hK hP32 dX0_changeIfPossible_109 ?_
        refine lv_iload CF.1 CF.2.1 dX0_changeIfPossible_112 (lv_at hl 0 rfl) ?_
        refine x0_ald6 CF hK hP32 (i := u * 5 + t) (by omega) (v := (nI (b 6 (u * 5 + t)))) (by rw [hσ32, up_i (by omega)]; exact hR.a6 (by omega)) dX0_changeIfPossible_114 ?_
        refine o_i2l CF (by omega) dX0_changeIfPossible_115 ?_
        refine lv_lload CF.1 CF.2.1 dX0_changeIfPossible_116 (lv_at hl 2 rfl) ?_
        refine o_ladd CF dX0_changeIfPossible_118 ?_
        refine cS_i CF (As := [.long (lN ((b 6 (u * 5 + t)) + (gv b (f) (t) (a))))]) (rest := [.int (nI (u * 5 + t)), .ref (ad 6)]) (c0_heldAtMost l (v := (b 6 (u * 5 + t)) + (gv b (f) (t) (a))) (by omega)) lk_RX0_X0_heldAtMost rfl hl.1 ⟨Nat.le_of_ble_eq_true rfl, Nat.le_of_ble_eq_true rfl⟩ ⟨Nat.zero_le _, Nat.zero_le _⟩ (Nat.le_of_ble_eq_true rfl) rfl dX0_changeIfPossible_119 (fun r_33 hr_34 => ?_)
        subst hr_34
        refine x0_ast6 CF hK hP32 hD32 hS32 (i := u * 5 + t) (by omega) dX0_changeIfPossible_122 (fun σ35 H35 locs hσ35 hP35 hD35 hS35 => ?_)
        have hR35 : Rc σ35 (upN (upN (b) 6 (u * 5 + f) ((b 6 (u * 5 + f)) - a)) 6 (u * 5 + t) (min ((b 6 (u * 5 + t)) + (gv b (f) (t) (a))) 999999)) := by rw [hσ35]; exact Rc_up hR32 6 (u * 5 + t) (min ((b 6 (u * 5 + t)) + (gv b (f) (t) (a))) 999999)
        have hM35 : Sm σ σ35 := by rw [hσ35]; exact Sm_up hM32 ⟨by decide, Or.inl (by decide)⟩
        refine lv_aload_n CF.1 CF.2.1 dX0_changeIfPossible_123 rfl (lv_at hl 4 rfl) ?_
        refine x0_g_stocks CF hK hP35 dX0_changeIfPossible_124 ?_
        refine lv_iload_n CF.1 CF.2.1 dX0_changeIfPossible_127 rfl (lv_at hl 6 rfl) ?_
        refine lv_aload_n CF.1 CF.2.1 dX0_changeIfPossible_128 rfl (lv_at hl 4 rfl) ?_
        refine x0_g_stocks CF hK hP35 dX0_changeIfPossible_129 ?_
        refine lv_iload_n CF.1 CF.2.1 dX0_changeIfPossible_132 rfl (lv_at hl 6 rfl) ?_
        refine x0_ald2 CF hK hP35 (i := f) (by omega) (v := (nI (b 2 (f)))) (by rw [hσ35, up_k (by decide), hσ32, up_k (by decide)]; exact hR.a2 (by omega)) dX0_changeIfPossible_133 ?_
        refine o_i2l CF (by omega) dX0_changeIfPossible_134 ?_
        refine lv_iload CF.1 CF.2.1 dX0_changeIfPossible_135 (lv_at hl 8 rfl) ?_
        refine o_i2l CF (by omega) dX0_changeIfPossible_137 ?_
        refine o_ladd CF dX0_changeIfPossible_138 ?_
        refine cS_i CF (As := [.long (lN ((b 2 (f)) + (a)))]) (rest := [.int (nI (f)), .ref (ad 2)]) (c0_heldAtMost l (v := (b 2 (f)) + (a)) (by omega)) lk_RX0_X0_heldAtMost rfl hl.1 ⟨Nat.le_of_ble_eq_true rfl, Nat.le_of_ble_eq_true rfl⟩ ⟨Nat.zero_le _, Nat.zero_le _⟩ (Nat.le_of_ble_eq_true rfl) rfl dX0_changeIfPossible_139 (fun r_36 hr_37 => ?_)
        subst hr_37
        refine x0_ast2 CF hK hP35 hD35 hS35 (i := f) (by omega) dX0_changeIfPossible_142 (fun σ38 H38 locs hσ38 hP38 hD38 hS38 => ?_)
        have hR38 : Rc σ38 (upN (upN (upN (b) 6 (u * 5 + f) ((b 6 (u * 5 + f)) - a)) 6 (u * 5 + t) (min ((b 6 (u * 5 + t)) + (gv b (f) (t) (a))) 999999)) 2 (f) (min ((b 2 (f)) + (a)) 999999)) := by rw [hσ38]; exact Rc_up hR35 2 (f) (min ((b 2 (f)) + (a)) 999999)
        have hM38 : Sm σ σ38 := by rw [hσ38]; exact Sm_up hM35 ⟨by decide, Or.inl (by decide)⟩
        refine lv_aload_n CF.1 CF.2.1 dX0_changeIfPossible_143 rfl (lv_at hl 4 rfl) ?_
        refine x0_g_stocks CF hK hP38 dX0_changeIfPossible_144 ?_
        refine lv_iload_n CF.1 CF.2.1 dX0_changeIfPossible_147 rfl (lv_at hl 7 rfl) ?_
        refine lv_dup2_11 CF.1 CF.2.1 dX0_changeIfPossible_148 rfl rfl ?_
        refine x0_ald2 CF hK hP38 (i := t) (by omega) (v := (nI (b 2 (t)))) (by rw [hσ38, up_i (by omega), hσ35, up_k (by decide), hσ32, up_k (by decide)]; exact hR.a2 (by omega)) dX0_changeIfPossible_149 ?_
        refine lv_lload CF.1 CF.2.1 dX0_changeIfPossible_150 (lv_at hl 2 rfl) ?_
        refine o_l2i CF dX0_changeIfPossible_152 ?_
        refine o_isub CF (by omega) dX0_changeIfPossible_153 ?_
        refine x0_ast2 CF hK hP38 hD38 hS38 (i := t) (by omega) dX0_changeIfPossible_154 (fun σ39 H39 locs hσ39 hP39 hD39 hS39 => ?_)
        have hR39 : Rc σ39 (upN (upN (upN (upN (b) 6 (u * 5 + f) ((b 6 (u * 5 + f)) - a)) 6 (u * 5 + t) (min ((b 6 (u * 5 + t)) + (gv b (f) (t) (a))) 999999)) 2 (f) (min ((b 2 (f)) + (a)) 999999)) 2 (t) ((b 2 (t)) - (gv b (f) (t) (a)))) := by rw [hσ39]; exact Rc_up hR38 2 (t) ((b 2 (t)) - (gv b (f) (t) (a)))
        have hM39 : Sm σ σ39 := by rw [hσ39]; exact Sm_up hM38 ⟨by decide, Or.inl (by decide)⟩
        refine lv_aload_n CF.1 CF.2.1 dX0_changeIfPossible_155 rfl (lv_at hl 4 rfl) ?_
        refine x0_g_givenToday CF hK hP39 dX0_changeIfPossible_156 ?_
        refine lv_iload_n CF.1 CF.2.1 dX0_changeIfPossible_159 rfl (lv_at hl 7 rfl) ?_
        refine lv_dup2_11 CF.1 CF.2.1 dX0_changeIfPossible_160 rfl rfl ?_
        refine x0_ald5 CF hK hP39 (i := t) (by omega) (v := (nI (b 5 (t)))) (by rw [hσ39, up_k (by decide), hσ38, up_k (by decide), hσ35, up_k (by decide), hσ32, up_k (by decide)]; exact hR.a5 (by omega)) dX0_changeIfPossible_161 ?_
        refine lv_lload CF.1 CF.2.1 dX0_changeIfPossible_162 (lv_at hl 2 rfl) ?_
        refine o_l2i CF dX0_changeIfPossible_164 ?_
        refine o_iadd CF dX0_changeIfPossible_165 ?_
        refine x0_ast5 CF hK hP39 hD39 hS39 (i := t) (by omega) dX0_changeIfPossible_166 (fun σ40 H40 locs hσ40 hP40 hD40 hS40 => ?_)
        have hR40 : Rc σ40 (upN (upN (upN (upN (upN (b) 6 (u * 5 + f) ((b 6 (u * 5 + f)) - a)) 6 (u * 5 + t) (min ((b 6 (u * 5 + t)) + (gv b (f) (t) (a))) 999999)) 2 (f) (min ((b 2 (f)) + (a)) 999999)) 2 (t) ((b 2 (t)) - (gv b (f) (t) (a)))) 5 (t) (b 5 (t) + (gv b (f) (t) (a)))) := by rw [hσ40]; exact Rc_up hR39 5 (t) (b 5 (t) + (gv b (f) (t) (a)))
        have hM40 : Sm σ σ40 := by rw [hσ40]; exact Sm_up hM39 ⟨by decide, Or.inl (by decide)⟩
        refine lv_aload_n CF.1 CF.2.1 dX0_changeIfPossible_167 rfl (lv_at hl 4 rfl) ?_
        refine lv_dup CF.1 CF.2.1 dX0_changeIfPossible_168 rfl ?_
        refine x0_g_changesMade CF hK hP40 (v := (nI (b 0 4))) (by rw [hσ40, up_k (by decide), hσ39, up_k (by decide), hσ38, up_k (by decide), hσ35, up_k (by decide), hσ32, up_k (by decide)]; exact hR.2.2.2.1) dX0_changeIfPossible_169 ?_
        refine lv_iconst (v := nI 1) CF.1 CF.2.1 dX0_changeIfPossible_172 (by decide) ?_
        refine o_iadd CF dX0_changeIfPossible_173 ?_
        refine x0_p_changesMade CF hK hP40 hD40 hS40 dX0_changeIfPossible_174 (fun σ41 H41 locs hσ41 hP41 hD41 hS41 => ?_)
        have hR41 : Rc σ41 (upN (upN (upN (upN (upN (upN (b) 6 (u * 5 + f) ((b 6 (u * 5 + f)) - a)) 6 (u * 5 + t) (min ((b 6 (u * 5 + t)) + (gv b (f) (t) (a))) 999999)) 2 (f) (min ((b 2 (f)) + (a)) 999999)) 2 (t) ((b 2 (t)) - (gv b (f) (t) (a)))) 5 (t) (b 5 (t) + (gv b (f) (t) (a)))) 0 (4) (b 0 4 + 1)) := by rw [hσ41]; exact Rc_up hR40 0 (4) (b 0 4 + 1)
        have hM41 : Sm σ σ41 := by rw [hσ41]; exact Sm_up hM40 ⟨by decide, Or.inr ⟨by decide, by decide, by decide⟩⟩
        refine lv_aload_n CF.1 CF.2.1 dX0_changeIfPossible_177 rfl (lv_at hl 4 rfl) ?_
        refine lv_iload_n CF.1 CF.2.1 dX0_changeIfPossible_178 rfl (lv_at hl 7 rfl) ?_
        refine lv_lload CF.1 CF.2.1 dX0_changeIfPossible_179 (lv_at hl 3 rfl) ?_
        refine lv_ldc2 (v := lN 10000) CF.1 CF.2.1 CF.2.2.2.1 (CF.2.2.2.2 _ (inr_4 _ (List.mem_of_getElem? (i := 0) rfl))) dX0_changeIfPossible_181 ?_
        refine lv_lrem CF.1 CF.2.1 dX0_changeIfPossible_184 (lne (by omega) (by omega)) ?_
        refine tpl (pk_lRem (by omega) (by omega) (by omega)) ?_
        refine o_l2i CF dX0_changeIfPossible_185 ?_
        refine d0_v CF hK hP41 hj (fun _ h => h) hS41 (As := [.int (nI (t)), .int (nI ((pr b (f) (t) (a)) % (10000)))]) (rest := []) (c0_keepDust l hj (b := upN (upN (upN (upN (upN (upN (b) 6 (u * 5 + f) ((b 6 (u * 5 + f)) - a)) 6 (u * 5 + t) (min ((b 6 (u * 5 + t)) + (gv b (f) (t) (a))) 999999)) 2 (f) (min ((b 2 (f)) + (a)) 999999)) 2 (t) ((b 2 (t)) - (gv b (f) (t) (a)))) 5 (t) (b 5 (t) + (gv b (f) (t) (a)))) 0 (4) (b 0 4 + 1)) hR41 (t := t) (x := (pr b (f) (t) (a)) % (10000)) (by omega) (by omega) (by simp [upN]; omega) (by simp [upN]; omega)) rfl lk_RX0_X0_keepDust rfl hl.1 ⟨Nat.le_of_ble_eq_true rfl, Nat.le_of_ble_eq_true rfl⟩ ⟨Nat.zero_le _, Nat.zero_le _⟩ (Nat.le_of_ble_eq_true rfl) rfl dX0_changeIfPossible_186 (fun σ45 H45 locs hr_44 hP45 hD45 hS45 hz45 hk45 => ?_)
        refine lv_lload CF.1 CF.2.1 dX0_changeIfPossible_189 (lv_at hl 2 rfl) ?_
        refine o_l2i CF dX0_changeIfPossible_191 ?_
        exact W.iret CF.1 CF.2.1 hr (fun t9 ht9 hW9 => ⟨⟨_, σ45, rfl, Or.inl ⟨by unfold okN; omega, rfl, hr_44.1, Sm_tr hM41 hr_44.2⟩, by show va_P G vwCl (w0 ad cA σ45) t9.heap; rw [ht9]; exact hP45⟩, hS45.F ht9⟩) hS45.2.2 dX0_changeIfPossible_192
      · refine z_if_ne CF (tgt := 76) (nIz (by omega)) dX0_changeIfPossible_71 (by decide) (fun h => absurd h (by decide)) (fun _ => ?_)
        refine lv_iconst (v := nI 0) CF.1 CF.2.1 dX0_changeIfPossible_74 (by decide) ?_
        exact W.iret CF.1 CF.2.1 hr (fun t9 ht9 hW9 => ⟨⟨_, σ, rfl, Or.inr ⟨by unfold okN; omega, rfl, rfl⟩, by show va_P G vwCl (w0 ad cA σ) t9.heap; rw [ht9]; exact hP⟩, hS.F ht9⟩) hS.2.2 dX0_changeIfPossible_75
  · refine lv_iconst (v := nI 0) CF.1 CF.2.1 dX0_changeIfPossible_27 (by decide) ?_
    exact W.iret CF.1 CF.2.1 hr (fun t9 ht9 hW9 => ⟨⟨_, σ, rfl, Or.inr ⟨by unfold okN; omega, rfl, rfl⟩, by show va_P G vwCl (w0 ad cA σ) t9.heap; rw [ht9]; exact hP⟩, hS.F ht9⟩) hS.2.2 dX0_changeIfPossible_28
