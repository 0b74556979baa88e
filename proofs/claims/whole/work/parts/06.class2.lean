set_option maxHeartbeats 1000000 in
set_option maxRecDepth 100000 in
theorem c0_inAllPurses (l : Launch) {G : va_G} {cA : ClassId} {ad : Nat → Nat} {σ : RS} {b : BS} (hI : InvC b) (hR : Rc σ b) {t : Nat} (ht : t < 5) : Met l yX0_inAllPurses (ws_ yX0_inAllPurses cX0_inAllPurses 4 (some .int)) (rmk 3 0 0) (pc0 G cA ad σ [.ref (ad 0), .int (nI (t))]) (rqi (fun r => r = nI (alls b t (b 0 2)))) 0 0 (fun _ => False) := by
  refine Met.ofW (cc := cX0_inAllPurses) (maxL := 4) (ret := (some .int)) (by decide) rfl ?_
  intro p e s m args below meth c s₁ B hml hv
  obtain ⟨rfl, hP, hK⟩ := hv
  have CF : CallFix p m c cX0_inAllPurses 4 s _ AW RX0 := ⟨B.exec, B.bytes, hml, findClass_of_methodNamed B.named, fun w h => atoms_spec (ws := ws_ yX0_inAllPurses cX0_inAllPurses 4 (some .int)) B.pre w (List.mem_cons_of_mem _ h)⟩
  have hr := B.returns
  have hlocks := B.notSynchronized
  have hl := lv_entry ([.ref (ad 0), .int (nI (t))]) (n := 4) (Nat.le_of_ble_eq_true rfl)
  rw [lg_entry_eq]
  generalize (lg_sl ([.ref (ad 0), .int (nI (t))]) ++ List.replicate (4 - (lg_sl ([.ref (ad 0), .int (nI (t))])).length) Slot.unset).toArray = ls at hl ⊢
  have hl : lv_has ls 4 [(0, .ref (ad 0)), (1, .int (nI (t)))] := hl
  obtain ⟨i_sp, i_cu, i_ra, i_di, i_mo, i_pu⟩ := id hI
  refine lv_iconst (v := nI 0) CF.1 CF.2.1 dX0_inAllPurses_0 (by decide) ?_
  refine lv_istore_n (lv' := [(2, .int (nI (0))), (0, .ref (ad 0)), (1, .int (nI (t)))]) CF.1 CF.2.1 dX0_inAllPurses_1 rfl hl (by decide) rfl (fun ls hl => ?_)
  refine lv_iconst (v := nI 0) CF.1 CF.2.1 dX0_inAllPurses_2 (by decide) ?_
  refine lv_istore_n (lv' := [(3, .int (nI (0))), (2, .int (nI (0))), (0, .ref (ad 0)), (1, .int (nI (t)))]) CF.1 CF.2.1 dX0_inAllPurses_3 rfl hl (by decide) rfl (fun ls hl => ?_)
  refine loop_ro (fun i => [(0, .ref (ad 0)), (1, .int (nI (t))), (2, .int (nI (alls b t (i)))), (3, .int (nI (i)))]) (b 0 2) (0) (lv_sub hl [2, 3, 1, 0] rfl) (by omega) (fun i_1 h_4 h_3 ih_2 ls hl => ?_)
  have h_al := alls_le hI ht i_1 (by omega)
  refine lv_iload_n CF.1 CF.2.1 dX0_inAllPurses_4 rfl (lv_at hl 3 rfl) ?_
  refine lv_aload_n CF.1 CF.2.1 dX0_inAllPurses_5 rfl (lv_at hl 0 rfl) ?_
  refine x0_g_customers CF hK hP (v := (nI (b 0 2))) hR.2.2.1 dX0_inAllPurses_6 ?_
  refine z_icmp_ge CF (tgt := 27) (nIz (by omega)) (nIz (by omega)) dX0_inAllPurses_9 (by decide) (fun h_5 => ?_) (fun h_6 => ?_)
  · refine lv_iload_n CF.1 CF.2.1 dX0_inAllPurses_27 rfl (lv_at hl 2 rfl) ?_
    exact W.iret CF.1 CF.2.1 hr (fun t9 ht9 hW9 => ⟨_, rfl, by rw [show i_1 = b 0 2 by omega], ht9⟩) (fun q hq => absurd hq List.not_mem_nil) dX0_inAllPurses_28
  · refine lv_iload_n CF.1 CF.2.1 dX0_inAllPurses_12 rfl (lv_at hl 2 rfl) ?_
    refine lv_aload_n CF.1 CF.2.1 dX0_inAllPurses_13 rfl (lv_at hl 0 rfl) ?_
    refine lv_iload_n CF.1 CF.2.1 dX0_inAllPurses_14 rfl (lv_at hl 3 rfl) ?_
    refine lv_iload_n CF.1 CF.2.1 dX0_inAllPurses_15 rfl (lv_at hl 1 rfl) ?_
    refine c0_i CF hK hP (As := [.int (nI (i_1)), .int (nI (t))]) (rest := [.int (nI (alls b t (i_1)))]) (c0_inPurse l hI hR (u := i_1) (t := t) (by omega) (by omega)) rfl lk_RX0_X0_inPurse rfl hl.1 ⟨Nat.le_of_ble_eq_true rfl, Nat.le_of_ble_eq_true rfl⟩ ⟨Nat.zero_le _, Nat.zero_le _⟩ (Nat.le_of_ble_eq_true rfl) rfl dX0_inAllPurses_16 (fun r_7 hr_8 => ?_)
    subst hr_8
    refine o_iadd CF dX0_inAllPurses_19 ?_
    refine lv_istore_n (lv' := [(2, .int (nI (alls b t (i_1) + (b 6 (i_1 * 5 + t))))), (0, .ref (ad 0)), (1, .int (nI (t))), (3, .int (nI (i_1)))]) CF.1 CF.2.1 dX0_inAllPurses_20 rfl hl (by decide) rfl (fun ls hl => ?_)
    refine lv_iinc (v := nI (i_1 + 1)) (lv' := [(3, .int (nI (i_1 + 1))), (2, .int (nI (alls b t (i_1) + (b 6 (i_1 * 5 + t))))), (0, .ref (ad 0)), (1, .int (nI (t)))]) CF.1 CF.2.1 dX0_inAllPurses_21 hl (k := 3) rfl (by first | exact nI_add _ _ | rfl) (by decide) rfl (fun ls hl => ?_)
    refine lv_goto (tgt := 4) CF.1 CF.2.1 dX0_inAllPurses_24 (by decide) ?_
    exact ih_2 ls (by omega) (lv_sub hl [2, 3, 1, 0] rfl)
set_option maxHeartbeats 1000000 in
set_option maxRecDepth 100000 in
theorem c0_ratesThatAreNotZero (l : Launch) {G : va_G} {cA : ClassId} {ad : Nat → Nat} {σ : RS} {b : BS} (hI : InvC b) (hR : Rc σ b)  : Met l yX0_ratesThatAreNotZero (ws_ yX0_ratesThatAreNotZero cX0_ratesThatAreNotZero 3 (some .int)) (rmk 2 0 0) (pc0 G cA ad σ [.ref (ad 0)]) (rqi (fun r => r = nI (nzr b 25))) 0 0 (fun _ => False) := by
  refine Met.ofW (cc := cX0_ratesThatAreNotZero) (maxL := 3) (ret := (some .int)) (by decide) rfl ?_
  intro p e s m args below meth c s₁ B hml hv
  obtain ⟨rfl, hP, hK⟩ := hv
  have CF : CallFix p m c cX0_ratesThatAreNotZero 3 s _ AW RX0 := ⟨B.exec, B.bytes, hml, findClass_of_methodNamed B.named, fun w h => atoms_spec (ws := ws_ yX0_ratesThatAreNotZero cX0_ratesThatAreNotZero 3 (some .int)) B.pre w (List.mem_cons_of_mem _ h)⟩
  have hr := B.returns
  have hlocks := B.notSynchronized
  have hl := lv_entry ([.ref (ad 0)]) (n := 3) (Nat.le_of_ble_eq_true rfl)
  rw [lg_entry_eq]
  generalize (lg_sl ([.ref (ad 0)]) ++ List.replicate (3 - (lg_sl ([.ref (ad 0)])).length) Slot.unset).toArray = ls at hl ⊢
  have hl : lv_has ls 3 [(0, .ref (ad 0))] := hl
  refine lv_iconst (v := nI 0) CF.1 CF.2.1 dX0_ratesThatAreNotZero_0 (by decide) ?_
  refine lv_istore_n (lv' := [(1, .int (nI (0))), (0, .ref (ad 0))]) CF.1 CF.2.1 dX0_ratesThatAreNotZero_1 rfl hl (by decide) rfl (fun ls hl => ?_)
  refine lv_iconst (v := nI 0) CF.1 CF.2.1 dX0_ratesThatAreNotZero_2 (by decide) ?_
  refine lv_istore_n (lv' := [(2, .int (nI (0))), (1, .int (nI (0))), (0, .ref (ad 0))]) CF.1 CF.2.1 dX0_ratesThatAreNotZero_3 rfl hl (by decide) rfl (fun ls hl => ?_)
  refine loop_ro (fun i => [(0, .ref (ad 0)), (1, .int (nI (nzr b (i)))), (2, .int (nI (i)))]) (25) (0) (lv_sub hl [2, 1, 0] rfl) (by omega) (fun i_1 h_4 h_3 ih_2 ls hl => ?_)
  have h_nz := nzr_le (b := b) i_1
  have h_ra := hI.2.2.1 i_1
  refine lv_iload_n CF.1 CF.2.1 dX0_ratesThatAreNotZero_4 rfl (lv_at hl 2 rfl) ?_
  refine lv_aload_n CF.1 CF.2.1 dX0_ratesThatAreNotZero_5 rfl (lv_at hl 0 rfl) ?_
  refine x0_g_rates CF hK hP dX0_ratesThatAreNotZero_6 ?_
  refine x0_alen1 CF hK hP dX0_ratesThatAreNotZero_9 ?_
  refine z_icmp_ge CF (tgt := 31) (nIz (by omega)) (nIz (by omega)) dX0_ratesThatAreNotZero_10 (by decide) (fun h_5 => ?_) (fun h_6 => ?_)
  · refine lv_iload_n CF.1 CF.2.1 dX0_ratesThatAreNotZero_31 rfl (lv_at hl 1 rfl) ?_
    exact W.iret CF.1 CF.2.1 hr (fun t9 ht9 hW9 => ⟨_, rfl, by rw [show i_1 = 25 by omega], ht9⟩) (fun q hq => absurd hq List.not_mem_nil) dX0_ratesThatAreNotZero_32
  · refine lv_aload_n CF.1 CF.2.1 dX0_ratesThatAreNotZero_13 rfl (lv_at hl 0 rfl) ?_
    refine x0_g_rates CF hK hP dX0_ratesThatAreNotZero_14 ?_
    refine lv_iload_n CF.1 CF.2.1 dX0_ratesThatAreNotZero_17 rfl (lv_at hl 2 rfl) ?_
    refine x0_ald1 CF hK hP (i := i_1) (by omega) (v := (nI (b 1 (i_1)))) (hR.a1 (by omega)) dX0_ratesThatAreNotZero_18 ?_
    refine z_if_eq CF (tgt := 25) (nIz (by omega)) dX0_ratesThatAreNotZero_19 (by decide) (fun h_7 => ?_) (fun h_8 => ?_)
    · refine lv_iinc (v := nI (i_1 + 1)) (lv' := [(2, .int (nI (i_1 + 1))), (0, .ref (ad 0)), (1, .int (nI (nzr b (i_1))))]) CF.1 CF.2.1 dX0_ratesThatAreNotZero_25 hl (k := 2) rfl (by first | exact nI_add _ _ | rfl) (by decide) rfl (fun ls hl => ?_)
      refine lv_goto (tgt := 4) CF.1 CF.2.1 dX0_ratesThatAreNotZero_28 (by decide) ?_
      exact ih_2 ls (by omega) (lv_sub hl [1, 2, 0] (by first | (rw [nzr_s0 (by omega)]; rfl) | (rw [nzr_s1 (by omega)]; rfl)))
    · refine lv_iinc (v := nI (nzr b (i_1) + 1)) (lv' := [(1, .int (nI (nzr b (i_1) + 1))), (0, .ref (ad 0)), (2, .int (nI (i_1)))]) CF.1 CF.2.1 dX0_ratesThatAreNotZero_22 hl (k := 1) rfl (by first | exact nI_add _ _ | rfl) (by decide) rfl (fun ls hl => ?_)
      refine lv_iinc (v := nI (i_1 + 1)) (lv' := [(2, .int (nI (i_1 + 1))), (1, .int (nI (nzr b (i_1) + 1))), (0, .ref (ad 0))]) CF.1 CF.2.1 dX0_ratesThatAreNotZero_25 hl (k := 2) rfl (by first | exact nI_add _ _ | rfl) (by decide) rfl (fun ls hl => ?_)
      refine lv_goto (tgt := 4) CF.1 CF.2.1 dX0_ratesThatAreNotZero_28 (by decide) ?_
      exact ih_2 ls (by omega) (lv_sub hl [2, 1, 0] (by first | (rw [nzr_s0 (by omega)]; rfl) | (rw [nzr_s1 (by omega)]; rfl)))
set_option maxHeartbeats 1000000 in
set_option maxRecDepth 100000 in
theorem c0_factOfMoney (l : Launch) {G : va_G} {cA : ClassId} {ad : Nat → Nat} {σ : RS} {b : BS} (hI : InvC b) (hR : Rc σ b) {t w : Nat} (ht : t < 5) (hw : w < 5) : Met l yX0_factOfMoney (ws_ yX0_factOfMoney cX0_factOfMoney 3 (some .int)) (rmk 4 0 0) (pc0 G cA ad σ [.ref (ad 0), .int (nI (t)), .int (nI (w))]) (rqi (fun r => r = nI (fmo b t w))) 0 0 (fun _ => False) := by
  refine Met.ofW (cc := cX0_factOfMoney) (maxL := 3) (ret := (some .int)) (by decide) rfl ?_
  intro p e s m args below meth c s₁ B hml hv
  obtain ⟨rfl, hP, hK⟩ := hv
  have CF : CallFix p m c cX0_factOfMoney 3 s _ AW RX0 := ⟨B.exec, B.bytes, hml, findClass_of_methodNamed B.named, fun w h => atoms_spec (ws := ws_ yX0_factOfMoney cX0_factOfMoney 3 (some .int)) B.pre w (List.mem_cons_of_mem _ h)⟩
  have hr := B.returns
  have hlocks := B.notSynchronized
  have hl := lv_entry ([.ref (ad 0), .int (nI (t)), .int (nI (w))]) (n := 3) (Nat.le_of_ble_eq_true rfl)
  rw [lg_entry_eq]
  generalize (lg_sl ([.ref (ad 0), .int (nI (t)), .int (nI (w))]) ++ List.replicate (3 - (lg_sl ([.ref (ad 0), .int (nI (t)), .int (nI (w))])).length) Slot.unset).toArray = ls at hl ⊢
  have hl : lv_has ls 3 [(0, .ref (ad 0)), (1, .int (nI (t))), (2, .int (nI (w)))] := hl
  obtain ⟨i_sp, i_cu, i_ra, i_di, i_mo, i_pu⟩ := id hI
  refine lv_iload_n CF.1 CF.2.1 dX0_factOfMoney_0 rfl (lv_at hl 1 rfl) ?_
  refine cS_i CF (As := [.int (nI (t))]) (rest := []) (c0_isMoney l (nI (t))) lk_RX0_X0_isMoney rfl hl.1 ⟨Nat.le_of_ble_eq_true rfl, Nat.le_of_ble_eq_true rfl⟩ ⟨Nat.zero_le _, Nat.zero_le _⟩ (Nat.le_of_ble_eq_true rfl) rfl dX0_factOfMoney_1 (fun r_1 hr_2 => ?_)
  have hxh_3 := nIz (n := t) (by omega)
  rcases hr_2 with ⟨rfl, -, -⟩ | ⟨rfl, h9⟩
  rotate_left
  · exact absurd h9 (by rw [hxh_3]; omega)
  rw [show (1 : Int32) = nI 1 by rfl]
  refine z_if_ne CF (tgt := 9) (nIz (by omega)) dX0_factOfMoney_4 (by decide) (fun _ => ?_) (fun h => absurd h (by decide))
  refine lv_iload_n CF.1 CF.2.1 dX0_factOfMoney_9 rfl (lv_at hl 2 rfl) ?_
  rcases (show w = 0 ∨ w = 1 ∨ w = 2 ∨ w = 3 ∨ 4 ≤ w by omega) with rfl | rfl | rfl | rfl | h_6
  · refine lv_tableIn (off := 30) (tgt := 40) CF.1 CF.2.1 dX0_factOfMoney_10 (by decide) (by decide) rfl (by decide) ?_
    refine lv_aload_n CF.1 CF.2.1 dX0_factOfMoney_40 rfl (lv_at hl 0 rfl) ?_
    refine x0_g_stocks CF hK hP dX0_factOfMoney_41 ?_
    refine lv_iload_n CF.1 CF.2.1 dX0_factOfMoney_44 rfl (lv_at hl 1 rfl) ?_
    refine x0_ald2 CF hK hP (i := t) (by omega) (v := (nI (b 2 (t)))) (hR.a2 (by omega)) dX0_factOfMoney_45 ?_
    exact W.iret CF.1 CF.2.1 hr (fun t9 ht9 hW9 => ⟨_, rfl, by first | rfl | (rw [show w = 4 by omega]; rfl), ht9⟩) (fun q hq => absurd hq List.not_mem_nil) dX0_factOfMoney_46
  · refine lv_tableIn (off := 37) (tgt := 47) CF.1 CF.2.1 dX0_factOfMoney_10 (by decide) (by decide) rfl (by decide) ?_
    refine lv_aload_n CF.1 CF.2.1 dX0_factOfMoney_47 rfl (lv_at hl 0 rfl) ?_
    refine x0_g_dusts CF hK hP dX0_factOfMoney_48 ?_
    refine lv_iload_n CF.1 CF.2.1 dX0_factOfMoney_51 rfl (lv_at hl 1 rfl) ?_
    refine x0_ald3 CF hK hP (i := t) (by omega) (v := (nI (b 3 (t)))) (hR.a3 (by omega)) dX0_factOfMoney_52 ?_
    exact W.iret CF.1 CF.2.1 hr (fun t9 ht9 hW9 => ⟨_, rfl, by first | rfl | (rw [show w = 4 by omega]; rfl), ht9⟩) (fun q hq => absurd hq List.not_mem_nil) dX0_factOfMoney_53
  · refine lv_tableIn (off := 44) (tgt := 54) CF.1 CF.2.1 dX0_factOfMoney_10 (by decide) (by decide) rfl (by decide) ?_
    refine lv_aload_n CF.1 CF.2.1 dX0_factOfMoney_54 rfl (lv_at hl 0 rfl) ?_
    refine x0_g_limits CF hK hP dX0_factOfMoney_55 ?_
    refine lv_iload_n CF.1 CF.2.1 dX0_factOfMoney_58 rfl (lv_at hl 1 rfl) ?_
    refine x0_ald4 CF hK hP (i := t) (by omega) (v := (nI (b 4 (t)))) (hR.a4 (by omega)) dX0_factOfMoney_59 ?_
    exact W.iret CF.1 CF.2.1 hr (fun t9 ht9 hW9 => ⟨_, rfl, by first | rfl | (rw [show w = 4 by omega]; rfl), ht9⟩) (fun q hq => absurd hq List.not_mem_nil) dX0_factOfMoney_60
  · refine lv_tableIn (off := 51) (tgt := 61) CF.1 CF.2.1 dX0_factOfMoney_10 (by decide) (by decide) rfl (by decide) ?_
    refine lv_aload_n CF.1 CF.2.1 dX0_factOfMoney_61 rfl (lv_at hl 0 rfl) ?_
    refine x0_g_givenToday CF hK hP dX0_factOfMoney_62 ?_
    refine lv_iload_n CF.1 CF.2.1 dX0_factOfMoney_65 rfl (lv_at hl 1 rfl) ?_
    refine x0_ald5 CF hK hP (i := t) (by omega) (v := (nI (b 5 (t)))) (hR.a5 (by omega)) dX0_factOfMoney_66 ?_
    exact W.iret CF.1 CF.2.1 hr (fun t9 ht9 hW9 => ⟨_, rfl, by first | rfl | (rw [show w = 4 by omega]; rfl), ht9⟩) (fun q hq => absurd hq List.not_mem_nil) dX0_factOfMoney_67
  · refine lv_tableOut (tgt := 68) CF.1 CF.2.1 dX0_factOfMoney_10 (by right; rw [nIz (by omega)]; omega) (by decide) ?_
    refine lv_aload_n CF.1 CF.2.1 dX0_factOfMoney_68 rfl (lv_at hl 0 rfl) ?_
    refine lv_iload_n CF.1 CF.2.1 dX0_factOfMoney_69 rfl (lv_at hl 1 rfl) ?_
    refine c0_i CF hK hP (As := [.int (nI (t))]) (rest := []) (c0_inAllPurses l hI hR (t := t) (by omega)) rfl lk_RX0_X0_inAllPurses rfl hl.1 ⟨Nat.le_of_ble_eq_true rfl, Nat.le_of_ble_eq_true rfl⟩ ⟨Nat.zero_le _, Nat.zero_le _⟩ (Nat.le_of_ble_eq_true rfl) rfl dX0_factOfMoney_70 (fun r_7 hr_8 => ?_)
    subst hr_8
    exact W.iret CF.1 CF.2.1 hr (fun t9 ht9 hW9 => ⟨_, rfl, by first | rfl | (rw [show w = 4 by omega]; rfl), ht9⟩) (fun q hq => absurd hq List.not_mem_nil) dX0_factOfMoney_73
set_option maxHeartbeats 1000000 in
set_option maxRecDepth 100000 in
theorem c0_factOfBooth (l : Launch) {G : va_G} {cA : ClassId} {ad : Nat → Nat} {σ : RS} {b : BS} (hI : InvC b) (hR : Rc σ b) (hO : Ro σ b) {w : Nat} (hw : w < 7) : Met l yX0_factOfBooth (ws_ yX0_factOfBooth cX0_factOfBooth 2 (some .int)) (rmk 4 0 0) (pc0 G cA ad σ [.ref (ad 0), .int (nI (w))]) (rqi (fun r => r = nI (fbo b w))) 0 0 (fun _ => False) := by
  refine Met.ofW (cc := cX0_factOfBooth) (maxL := 2) (ret := (some .int)) (by decide) rfl ?_
  intro p e s m args below meth c s₁ B hml hv
  obtain ⟨rfl, hP, hK⟩ := hv
  have CF : CallFix p m c cX0_factOfBooth 2 s _ AW RX0 := ⟨B.exec, B.bytes, hml, findClass_of_methodNamed B.named, fun w h => atoms_spec (ws := ws_ yX0_factOfBooth cX0_factOfBooth 2 (some .int)) B.pre w (List.mem_cons_of_mem _ h)⟩
  have hr := B.returns
  have hlocks := B.notSynchronized
  have hl := lv_entry ([.ref (ad 0), .int (nI (w))]) (n := 2) (Nat.le_of_ble_eq_true rfl)
  rw [lg_entry_eq]
  generalize (lg_sl ([.ref (ad 0), .int (nI (w))]) ++ List.replicate (2 - (lg_sl ([.ref (ad 0), .int (nI (w))])).length) Slot.unset).toArray = ls at hl ⊢
  have hl : lv_has ls 2 [(0, .ref (ad 0)), (1, .int (nI (w)))] := hl
  refine lv_iload_n CF.1 CF.2.1 dX0_factOfBooth_0 rfl (lv_at hl 1 rfl) ?_
  rcases (show w = 0 ∨ w = 1 ∨ w = 2 ∨ w = 3 ∨ w = 4 ∨ w = 5 ∨ 6 ≤ w by omega) with rfl | rfl | rfl | rfl | rfl | rfl | h_1
  · refine lv_tableIn (off := 39) (tgt := 40) CF.1 CF.2.1 dX0_factOfBooth_1 (by decide) (by decide) rfl (by decide) ?_
    refine lv_aload_n CF.1 CF.2.1 dX0_factOfBooth_40 rfl (lv_at hl 0 rfl) ?_
    refine x0_g_day CF hK hP (v := (nI (b 0 0))) hR.1 dX0_factOfBooth_41 ?_
    exact W.iret CF.1 CF.2.1 hr (fun t9 ht9 hW9 => ⟨_, rfl, by first | rfl | (rw [show w = 6 by omega]; rfl), ht9⟩) (fun q hq => absurd hq List.not_mem_nil) dX0_factOfBooth_44
  · refine lv_tableIn (off := 44) (tgt := 45) CF.1 CF.2.1 dX0_factOfBooth_1 (by decide) (by decide) rfl (by decide) ?_
    refine lv_aload_n CF.1 CF.2.1 dX0_factOfBooth_45 rfl (lv_at hl 0 rfl) ?_
    refine x0_g_spread CF hK hP (v := (nI (b 0 1))) hR.2.1 dX0_factOfBooth_46 ?_
    exact W.iret CF.1 CF.2.1 hr (fun t9 ht9 hW9 => ⟨_, rfl, by first | rfl | (rw [show w = 6 by omega]; rfl), ht9⟩) (fun q hq => absurd hq List.not_mem_nil) dX0_factOfBooth_49
  · refine lv_tableIn (off := 49) (tgt := 50) CF.1 CF.2.1 dX0_factOfBooth_1 (by decide) (by decide) rfl (by decide) ?_
    refine lv_aload_n CF.1 CF.2.1 dX0_factOfBooth_50 rfl (lv_at hl 0 rfl) ?_
    refine x0_g_customers CF hK hP (v := (nI (b 0 2))) hR.2.2.1 dX0_factOfBooth_51 ?_
    exact W.iret CF.1 CF.2.1 hr (fun t9 ht9 hW9 => ⟨_, rfl, by first | rfl | (rw [show w = 6 by omega]; rfl), ht9⟩) (fun q hq => absurd hq List.not_mem_nil) dX0_factOfBooth_54
  · refine lv_tableIn (off := 54) (tgt := 55) CF.1 CF.2.1 dX0_factOfBooth_1 (by decide) (by decide) rfl (by decide) ?_
    refine lv_aload_n CF.1 CF.2.1 dX0_factOfBooth_55 rfl (lv_at hl 0 rfl) ?_
    refine x0_g_waiting CF hK hP (v := (nI (b 0 3))) hO.1 dX0_factOfBooth_56 ?_
    exact W.iret CF.1 CF.2.1 hr (fun t9 ht9 hW9 => ⟨_, rfl, by first | rfl | (rw [show w = 6 by omega]; rfl), ht9⟩) (fun q hq => absurd hq List.not_mem_nil) dX0_factOfBooth_59
  · refine lv_tableIn (off := 59) (tgt := 60) CF.1 CF.2.1 dX0_factOfBooth_1 (by decide) (by decide) rfl (by decide) ?_
    refine lv_aload_n CF.1 CF.2.1 dX0_factOfBooth_60 rfl (lv_at hl 0 rfl) ?_
    refine c0_i CF hK hP (As := []) (rest := []) (c0_ratesThatAreNotZero l hI hR) rfl lk_RX0_X0_ratesThatAreNotZero rfl hl.1 ⟨Nat.le_of_ble_eq_true rfl, Nat.le_of_ble_eq_true rfl⟩ ⟨Nat.zero_le _, Nat.zero_le _⟩ (Nat.le_of_ble_eq_true rfl) rfl dX0_factOfBooth_61 (fun r_2 hr_3 => ?_)
    subst hr_3
    exact W.iret CF.1 CF.2.1 hr (fun t9 ht9 hW9 => ⟨_, rfl, by first | rfl | (rw [show w = 6 by omega]; rfl), ht9⟩) (fun q hq => absurd hq List.not_mem_nil) dX0_factOfBooth_64
  · refine lv_tableIn (off := 64) (tgt := 65) CF.1 CF.2.1 dX0_factOfBooth_1 (by decide) (by decide) rfl (by decide) ?_
    refine lv_aload_n CF.1 CF.2.1 dX0_factOfBooth_65 rfl (lv_at hl 0 rfl) ?_
    refine x0_g_changesMade CF hK hP (v := (nI (b 0 4))) hR.2.2.2.1 dX0_factOfBooth_66 ?_
    exact W.iret CF.1 CF.2.1 hr (fun t9 ht9 hW9 => ⟨_, rfl, by first | rfl | (rw [show w = 6 by omega]; rfl), ht9⟩) (fun q hq => absurd hq List.not_mem_nil) dX0_factOfBooth_69
  · refine lv_tableOut (tgt := 70) CF.1 CF.2.1 dX0_factOfBooth_1 (by right; rw [nIz (by omega)]; omega) (by decide) ?_
    refine lv_aload_n CF.1 CF.2.1 dX0_factOfBooth_70 rfl (lv_at hl 0 rfl) ?_
    refine x0_g_ordersDone CF hK hP (v := (nI (b 0 5))) hO.2.1 dX0_factOfBooth_71 ?_
    exact W.iret CF.1 CF.2.1 hr (fun t9 ht9 hW9 => ⟨_, rfl, by first | rfl | (rw [show w = 6 by omega]; rfl), ht9⟩) (fun q hq => absurd hq List.not_mem_nil) dX0_factOfBooth_74
set_option maxHeartbeats 1000000 in
set_option maxRecDepth 100000 in
theorem c0_setOrderPart (l : Launch) {G : va_G} {cA : ClassId} {ad : Nat → Nat} {σ : RS} (hj : inj8 ad) {q k : Nat} (hq : q < 10) (hk : k < 5) (v : Int32) : Met l yX0_setOrderPart (ws_ yX0_setOrderPart cX0_setOrderPart 4 none) (rmk 2 0 0) (pc0 G cA ad σ [.ref (ad 0), .int (nI (q)), .int (nI (k)), .int (v)]) (va_Qv (fun σ' : RS => σ' = up σ 7 (q * 5 + k) v) (fun σ' t => va_P G vwCl (w0 ad cA σ') t.heap) (own8 ad)) 0 0 (own8 ad) := by
  refine Met.ofW (cc := cX0_setOrderPart) (maxL := 4) (ret := none) (by decide) rfl ?_
  intro p e s m args below meth c s₁ B hml hv
  obtain ⟨rfl, hP, hK⟩ := hv
  have CF : CallFix p m c cX0_setOrderPart 4 s _ AW RX0 := ⟨B.exec, B.bytes, hml, findClass_of_methodNamed B.named, fun w h => atoms_spec (ws := ws_ yX0_setOrderPart cX0_setOrderPart 4 none) B.pre w (List.mem_cons_of_mem _ h)⟩
  have hr := B.returns
  have hlocks := B.notSynchronized
  have hl := lv_entry ([.ref (ad 0), .int (nI (q)), .int (nI (k)), .int (v)]) (n := 4) (Nat.le_of_ble_eq_true rfl)
  rw [lg_entry_eq]
  generalize (lg_sl ([.ref (ad 0), .int (nI (q)), .int (nI (k)), .int (v)]) ++ List.replicate (4 - (lg_sl ([.ref (ad 0), .int (nI (q)), .int (nI (k)), .int (v)])).length) Slot.unset).toArray = ls at hl ⊢
  have hl : lv_has ls 4 [(0, .ref (ad 0)), (1, .int (nI (q))), (2, .int (nI (k))), (3, .int (v))] := hl
  have hD : va_D (own8 ad) (w0 ad cA σ) := w0_D hj (fun _ h => h)
  have hS : va_S (own8 ad) s.heap s.heap [] := va_S.rf
  refine lv_iload_n CF.1 CF.2.1 dX0_setOrderPart_0 rfl (lv_at hl 1 rfl) ?_
  refine lv_iload_n CF.1 CF.2.1 dX0_setOrderPart_1 rfl (lv_at hl 2 rfl) ?_
  refine cS_i CF (As := [.int (nI (q)), .int (nI (k))]) (rest := []) (c0_isOrderCell l (p0 := q) (k := k) (by omega) (by omega)) lk_RX0_X0_isOrderCell rfl hl.1 ⟨Nat.le_of_ble_eq_true rfl, Nat.le_of_ble_eq_true rfl⟩ ⟨Nat.zero_le _, Nat.zero_le _⟩ (Nat.le_of_ble_eq_true rfl) rfl dX0_setOrderPart_2 (fun r_1 hr_2 => ?_)
  subst hr_2
  rw [show (1 : Int32) = nI 1 by rfl]
  refine z_if_eq CF (tgt := 19) (nIz (by omega)) dX0_setOrderPart_5 (by decide) (fun h => absurd h (by decide)) (fun _ => ?_)
  refine lv_aload_n CF.1 CF.2.1 dX0_setOrderPart_8 rfl (lv_at hl 0 rfl) ?_
  refine x0_g_orders CF hK hP dX0_setOrderPart_9 ?_
  refine lv_iload_n CF.1 CF.2.1 dX0_setOrderPart_12 rfl (lv_at hl 1 rfl) ?_
  refine lv_iconst (v := nI 5) CF.1 CF.2.1 dX0_setOrderPart_13 (by decide) ?_
  refine o_imul CF dX0_setOrderPart_14 ?_
  refine lv_iload_n CF.1 CF.2.1 dX0_setOrderPart_15 rfl (lv_at hl 2 rfl) ?_
  refine o_iadd CF dX0_setOrderPart_16 ?_
  refine lv_iload_n CF.1 CF.2.1 dX0_setOrderPart_17 rfl (lv_at hl 3 rfl) ?_
  refine x0_ast7 CF hK hP hD hS (i := q * 5 + k) (by omega) dX0_setOrderPart_18 (fun σ5 H5 locs hσ5 hP5 hD5 hS5 => ?_)
  exact W.vret CF.1 CF.2.1 hr (fun t9 ht9 hW9 => ⟨⟨σ5, rfl, hσ5, by show va_P G vwCl (w0 ad cA σ5) t9.heap; rw [ht9]; exact hP5⟩, hS5.F ht9⟩) hS5.2.2 dX0_setOrderPart_19
set_option maxHeartbeats 1000000 in
set_option maxRecDepth 100000 in
theorem c0_moveOrder (l : Launch) {G : va_G} {cA : ClassId} {ad : Nat → Nat} {σ : RS} (hj : inj8 ad) {q k : Nat} (hq : q < 10) (hk : k < 10) : Met l yX0_moveOrder (ws_ yX0_moveOrder cX0_moveOrder 4 none) (rmk 3 0 0) (pc0 G cA ad σ [.ref (ad 0), .int (nI (q)), .int (nI (k))]) (va_Qv (fun σ' : RS => σ' = mvI σ q k 5) (fun σ' t => va_P G vwCl (w0 ad cA σ') t.heap) (own8 ad)) 0 0 (own8 ad) := by
  refine Met.ofW (cc := cX0_moveOrder) (maxL := 4) (ret := none) (by decide) rfl ?_
  intro p e s m args below meth c s₁ B hml hv
  obtain ⟨rfl, hP, hK⟩ := hv
  have CF : CallFix p m c cX0_moveOrder 4 s _ AW RX0 := ⟨B.exec, B.bytes, hml, findClass_of_methodNamed B.named, fun w h => atoms_spec (ws := ws_ yX0_moveOrder cX0_moveOrder 4 none) B.pre w (List.mem_cons_of_mem _ h)⟩
  have hr := B.returns
  have hlocks := B.notSynchronized
  have hl := lv_entry ([.ref (ad 0), .int (nI (q)), .int (nI (k))]) (n := 4) (Nat.le_of_ble_eq_true rfl)
  rw [lg_entry_eq]
  generalize (lg_sl ([.ref (ad 0), .int (nI (q)), .int (nI (k))]) ++ List.replicate (4 - (lg_sl ([.ref (ad 0), .int (nI (q)), .int (nI (k))])).length) Slot.unset).toArray = ls at hl ⊢
  have hl : lv_has ls 4 [(0, .ref (ad 0)), (1, .int (nI (q))), (2, .int (nI (k)))] := hl
  have hD : va_D (own8 ad) (w0 ad cA σ) := w0_D hj (fun _ h => h)
  have hS : va_S (own8 ad) s.heap s.heap [] := va_S.rf
  refine lv_iconst (v := nI 0) CF.1 CF.2.1 dX0_moveOrder_0 (by decide) ?_
  refine lv_istore_n (lv' := [(3, .int (nI (0))), (0, .ref (ad 0)), (1, .int (nI (q))), (2, .int (nI (k)))]) CF.1 CF.2.1 dX0_moveOrder_1 rfl hl (by decide) rfl (fun ls hl => ?_)
  refine loop_rw0 (α := Unit) (fun i x => [(0, .ref (ad 0)), (1, .int (nI (q))), (2, .int (nI (k))), (3, .int (nI (i)))]) (fun i _ σ' => σ' = mvI σ q k i) (5) (0) (()) mvI_0.symm hP hS (lv_sub hl [1, 2, 3, 0] rfl) (by omega) (fun i_1 x_1 σ1 H1 locs hj_1 hi_1 hx_1 hP1 hS1 ih_1 ls hl => ?_)
  have hD1 : va_D (own8 ad) (w0 ad cA σ1) := w0_D hj (fun _ h => h)
  have hx_1 : σ1 = mvI σ q k i_1 := hx_1
  refine lv_iload_n CF.1 CF.2.1 dX0_moveOrder_2 rfl (lv_at hl 3 rfl) ?_
  refine lv_iconst (v := nI 5) CF.1 CF.2.1 dX0_moveOrder_3 (by decide) ?_
  refine z_icmp_ge CF (tgt := 25) (nIz (by omega)) (nIz (by omega)) dX0_moveOrder_4 (by decide) (fun h_2 => ?_) (fun h_3 => ?_)
  · exact W.vret CF.1 CF.2.1 hr (fun t9 ht9 hW9 => ⟨⟨σ1, rfl, by rw [hx_1, show i_1 = 5 by omega], by show va_P G vwCl (w0 ad cA σ1) t9.heap; rw [ht9]; exact hP1⟩, hS1.F ht9⟩) hS1.2.2 dX0_moveOrder_25
  · refine lv_aload_n CF.1 CF.2.1 dX0_moveOrder_7 rfl (lv_at hl 0 rfl) ?_
    refine lv_iload_n CF.1 CF.2.1 dX0_moveOrder_8 rfl (lv_at hl 2 rfl) ?_
    refine lv_iload_n CF.1 CF.2.1 dX0_moveOrder_9 rfl (lv_at hl 3 rfl) ?_
    refine lv_aload_n CF.1 CF.2.1 dX0_moveOrder_10 rfl (lv_at hl 0 rfl) ?_
    refine lv_iload_n CF.1 CF.2.1 dX0_moveOrder_11 rfl (lv_at hl 1 rfl) ?_
    refine lv_iload_n CF.1 CF.2.1 dX0_moveOrder_12 rfl (lv_at hl 3 rfl) ?_
    refine c0_i CF hK hP1 (As := [.int (nI (q)), .int (nI (i_1))]) (rest := [.int (nI (i_1)), .int (nI (k)), .ref (ad 0)]) (c0_orderPart l (σ := σ1) (u := q) (t := i_1) (by omega) (by omega)) rfl lk_RX0_X0_orderPart rfl hl.1 ⟨Nat.le_of_ble_eq_true rfl, Nat.le_of_ble_eq_true rfl⟩ ⟨Nat.zero_le _, Nat.zero_le _⟩ (Nat.le_of_ble_eq_true rfl) rfl dX0_moveOrder_13 (fun r_4 hr_5 => ?_)
    subst hr_5
    refine d0_v CF hK hP1 hj (fun _ h => h) hS1 (As := [.int (nI (k)), .int (nI (i_1)), .int (σ1 7 (q * 5 + i_1))]) (rest := []) (c0_setOrderPart l hj (σ := σ1) (q := k) (k := i_1) (by omega) (by omega) ((σ1 7 (q * 5 + i_1)))) rfl lk_RX0_X0_setOrderPart rfl hl.1 ⟨Nat.le_of_ble_eq_true rfl, Nat.le_of_ble_eq_true rfl⟩ ⟨Nat.zero_le _, Nat.zero_le _⟩ (Nat.le_of_ble_eq_true rfl) rfl dX0_moveOrder_16 (fun σ8 H8 locs hr_7 hP8 hD8 hS8 hz8 hk8 => ?_)
    refine lv_iinc (v := nI (i_1 + 1)) (lv' := [(3, .int (nI (i_1 + 1))), (0, .ref (ad 0)), (1, .int (nI (q))), (2, .int (nI (k)))]) CF.1 CF.2.1 dX0_moveOrder_19 hl (k := 3) rfl (by first | exact nI_add _ _ | rfl) (by decide) rfl (fun ls hl => ?_)
    refine lv_goto (tgt := 2) CF.1 CF.2.1 dX0_moveOrder_22 (by decide) ?_
    exact ih_1 () σ8 _ _ ls (by omega) (by show σ8 = mvI σ q k (i_1 + 1); rw [hr_7, hx_1, mvI_rd (by omega)]; exact mvI_up) hP8 hS8 (lv_sub hl [1, 2, 3, 0] rfl)
