theorem fq_mulL {x y : Int64} (h1 : -9223372036854775808 ≤ x.toInt * y.toInt) (h2 : x.toInt * y.toInt < 9223372036854775808) : (x * y).toInt = x.toInt * y.toInt := by
  rw [Int64.toInt_mul, Int.bmod_eq_of_le (by omega) (by omega)]
/-- of a negative amount nothing is given -/
theorem neg_le {x : Int32} {r q : Nat} (hx : x.toInt < 0) (hr : r ≤ 9999) (hq : q ≤ 100) : (x.toInt64 * lN r * lN q / lN 10000).toInt ≤ 0 := by
  have h0 : -2147483648 ≤ x.toInt := x.le_toInt
  have e1 : (lN r).toInt = (r : Int) := lNz (by omega)
  have e2 : (lN q).toInt = (q : Int) := lNz (by omega)
  have e3 : x.toInt64.toInt = x.toInt := Int32.toInt_toInt64 x
  have b1 : x.toInt * (r : Int) ≤ 0 := Int.mul_nonpos_of_nonpos_of_nonneg (by omega) (by omega)
  have b2 : -2147483648 * 9999 ≤ x.toInt * (r : Int) := by
    have c1 : -2147483648 * (r : Int) ≤ x.toInt * (r : Int) := Int.mul_le_mul_of_nonneg_right h0 (by omega)
    omega
  have m1 : (x.toInt64 * lN r).toInt = x.toInt * (r : Int) := by
    rw [fq_mulL (by rw [e3, e1]; omega) (by rw [e3, e1]; omega), e3, e1]
  generalize x.toInt * (r : Int) = z at *
  have b3 : z * (q : Int) ≤ 0 := Int.mul_nonpos_of_nonpos_of_nonneg b1 (by omega)
  have b4 : -2147483648 * 9999 * 100 ≤ z * (q : Int) := by
    have c1 : -2147483648 * 9999 * (q : Int) ≤ z * (q : Int) := Int.mul_le_mul_of_nonneg_right b2 (by omega)
    omega
  have m2 : (x.toInt64 * lN r * lN q).toInt = z * (q : Int) := by
    rw [fq_mulL (by rw [m1, e2]; omega) (by rw [m1, e2]; omega), m1, e2]
  have e4 : (lN 10000).toInt = 10000 := by decide
  rw [Int64.toInt_div_of_ne_right _ _ (by decide), m2, e4]
  have h5 : 0 ≤ (-(z * (q : Int))).tdiv 10000 := Int.tdiv_nonneg (by omega) (by omega)
  rw [Int.neg_tdiv] at h5
  omega

set_option maxHeartbeats 1000000 in
set_option maxRecDepth 100000 in
theorem c0_cipNeg (l : Launch) {G : va_G} {cA : ClassId} {ad : Nat → Nat} {σ : RS} (hj : inj8 ad) {b : BS} (hI : InvC b) (hR : Rc σ b) {u f t k : Nat} (hu : u < b 0 2) (hf : f < 5) (ht : t < 5) {x : Int32} (hx0 : x.toInt < 0) (hk0 : 1 ≤ k) (hk : k < 2147483648) : Met l yX0_changeIfPossible (ws_ yX0_changeIfPossible cX0_changeIfPossible 12 (some .int)) (rmk 4 0 0) (pc0 G cA ad σ [.ref (ad 0), .int (nI (u)), .int (nI (f)), .int (nI (t)), .int (x), .int (nI (k))]) (va_Qi (fun (r : Int32) (σ' : RS) => r = nI 0 ∧ σ' = σ) (fun σ' t => va_P G vwCl (w0 ad cA σ') t.heap) (own8 ad)) 0 0 (own8 ad) := by
  refine Met.ofW (cc := cX0_changeIfPossible) (maxL := 12) (ret := (some .int)) (by decide) rfl ?_
  intro p e s m args below meth c s₁ B hml hv
  obtain ⟨rfl, hP, hK⟩ := hv
  have CF : CallFix p m c cX0_changeIfPossible 12 s _ AW RX0 := ⟨B.exec, B.bytes, hml, findClass_of_methodNamed B.named, fun w h => atoms_spec (ws := ws_ yX0_changeIfPossible cX0_changeIfPossible 12 (some .int)) B.pre w (List.mem_cons_of_mem _ h)⟩
  have hr := B.returns
  have hlocks := B.notSynchronized
  have hl := lv_entry ([.ref (ad 0), .int (nI (u)), .int (nI (f)), .int (nI (t)), .int (x), .int (nI (k))]) (n := 12) (Nat.le_of_ble_eq_true rfl)
  rw [lg_entry_eq]
  generalize (lg_sl ([.ref (ad 0), .int (nI (u)), .int (nI (f)), .int (nI (t)), .int (x), .int (nI (k))]) ++ List.replicate (12 - (lg_sl ([.ref (ad 0), .int (nI (u)), .int (nI (f)), .int (nI (t)), .int (x), .int (nI (k))])).length) Slot.unset).toArray = ls at hl ⊢
  have hl : lv_has ls 12 [(0, .ref (ad 0)), (1, .int (nI (u))), (2, .int (nI (f))), (3, .int (nI (t))), (4, .int (x)), (5, .int (nI (k)))] := hl
  have hD : va_D (own8 ad) (w0 ad cA σ) := w0_D hj (fun _ h => h)
  have hS : va_S (own8 ad) s.heap s.heap [] := va_S.rf
  obtain ⟨i_sp, i_cu, i_ra, i_di, i_mo, i_pu⟩ := id hI
  have h_r := i_ra (f * 5 + t) (by omega)
  have h_ng := neg_le (x := x) (r := b 1 (f * 5 + t)) (q := 100 - b 0 1) hx0 h_r (by omega)
  refine lv_aload_n CF.1 CF.2.1 dX0_changeIfPossible_0 rfl (lv_at hl 0 rfl) ?_
  refine lv_iload_n CF.1 CF.2.1 dX0_changeIfPossible_1 rfl (lv_at hl 1 rfl) ?_
  refine c0_i CF hK hP (As := [.int (nI (u))]) (rest := []) (c0_isCustomer l hI hR (nI (u))) rfl lk_RX0_X0_isCustomer rfl hl.1 ⟨Nat.le_of_ble_eq_true rfl, Nat.le_of_ble_eq_true rfl⟩ ⟨Nat.zero_le _, Nat.zero_le _⟩ (Nat.le_of_ble_eq_true rfl) rfl dX0_changeIfPossible_2 (fun r_1 hr_2 => ?_)
  have hxh_3 := nIz (n := u) (by omega)
  rcases hr_2 with ⟨rfl, -, -⟩ | ⟨rfl, h9⟩
  rotate_left
  · exact absurd h9 (by rw [hxh_3]; omega)
  rw [show (1 : Int32) = nI 1 by rfl]
  refine z_if_eq CF (tgt := 27) (nIz (by omega)) dX0_changeIfPossible_5 (by decide) (fun h => absurd h (by decide)) (fun _ => ?_)
  refine lv_iload_n CF.1 CF.2.1 dX0_changeIfPossible_8 rfl (lv_at hl 2 rfl) ?_
  refine cS_i CF (As := [.int (nI (f))]) (rest := []) (c0_isMoney l (nI (f))) lk_RX0_X0_isMoney rfl hl.1 ⟨Nat.le_of_ble_eq_true rfl, Nat.le_of_ble_eq_true rfl⟩ ⟨Nat.zero_le _, Nat.zero_le _⟩ (Nat.le_of_ble_eq_true rfl) rfl dX0_changeIfPossible_9 (fun r_6 hr_7 => ?_)
  have hxh_8 := nIz (n := f) (by omega)
  rcases hr_7 with ⟨rfl, -, -⟩ | ⟨rfl, h9⟩
  rotate_left
  · exact absurd h9 (by rw [hxh_8]; omega)
  rw [show (1 : Int32) = nI 1 by rfl]
  refine z_if_eq CF (tgt := 27) (nIz (by omega)) dX0_changeIfPossible_12 (by decide) (fun h => absurd h (by decide)) (fun _ => ?_)
  refine lv_iload_n CF.1 CF.2.1 dX0_changeIfPossible_15 rfl (lv_at hl 3 rfl) ?_
  refine cS_i CF (As := [.int (nI (t))]) (rest := []) (c0_isMoney l (nI (t))) lk_RX0_X0_isMoney rfl hl.1 ⟨Nat.le_of_ble_eq_true rfl, Nat.le_of_ble_eq_true rfl⟩ ⟨Nat.zero_le _, Nat.zero_le _⟩ (Nat.le_of_ble_eq_true rfl) rfl dX0_changeIfPossible_16 (fun r_11 hr_12 => ?_)
  have hxh_13 := nIz (n := t) (by omega)
  rcases hr_12 with ⟨rfl, -, -⟩ | ⟨rfl, h9⟩
  rotate_left
  · exact absurd h9 (by rw [hxh_13]; omega)
  rw [show (1 : Int32) = nI 1 by rfl]
  refine z_if_eq CF (tgt := 27) (nIz (by omega)) dX0_changeIfPossible_19 (by decide) (fun h => absurd h (by decide)) (fun _ => ?_)
  refine lv_iload_n CF.1 CF.2.1 dX0_changeIfPossible_22 rfl (lv_at hl 2 rfl) ?_
  refine lv_iload_n CF.1 CF.2.1 dX0_changeIfPossible_23 rfl (lv_at hl 3 rfl) ?_
  refine z_icmp_ne CF (tgt := 29) (nIz (by omega)) (nIz (by omega)) dX0_changeIfPossible_24 (by decide) (fun h_16 => ?_) (fun h_17 => ?_)
  · refine lv_aload_n CF.1 CF.2.1 dX0_changeIfPossible_29 rfl (lv_at hl 0 rfl) ?_
    refine lv_iload_n CF.1 CF.2.1 dX0_changeIfPossible_30 rfl (lv_at hl 2 rfl) ?_
    refine lv_iload_n CF.1 CF.2.1 dX0_changeIfPossible_31 rfl (lv_at hl 3 rfl) ?_
    refine lv_iload CF.1 CF.2.1 dX0_changeIfPossible_32 (lv_at hl 4 rfl) ?_
    refine lv_i2l CF.1 CF.2.1 dX0_changeIfPossible_34 rfl ?_
    refine c0_l CF hK hP (As := [.int (nI (f)), .int (nI (t)), .long (((x)).toInt64)]) (rest := []) (c0_tenthousandths l hI hR (f := f) (t := t) (by omega) (by omega) ((((x)).toInt64))) rfl lk_RX0_X0_tenthousandths rfl hl.1 ⟨Nat.le_of_ble_eq_true rfl, Nat.le_of_ble_eq_true rfl⟩ ⟨Nat.zero_le _, Nat.zero_le _⟩ (Nat.le_of_ble_eq_true rfl) rfl dX0_changeIfPossible_35 (fun r_18 hr_19 => ?_)
    subst hr_19
    refine lv_lstore (lv' := [(6, .long ((((x)).toInt64) * lN (b 1 (f * 5 + t)) * lN (100 - b 0 1))), (0, .ref (ad 0)), (1, .int (nI (u))), (2, .int (nI (f))), (3, .int (nI (t))), (4, .int (x)), (5, .int (nI (k)))]) CF.1 CF.2.1 dX0_changeIfPossible_38 hl (by decide) rfl (fun ls hl => ?_)
    refine lv_lload CF.1 CF.2.1 dX0_changeIfPossible_40 (lv_at hl 0 rfl) ?_
    refine cS_l CF (As := [.long ((((x)).toInt64) * lN (b 1 (f * 5 + t)) * lN (100 - b 0 1))]) (rest := []) (c0_wholeOnes l (((((x)).toInt64) * lN (b 1 (f * 5 + t)) * lN (100 - b 0 1)))) lk_RX0_X0_wholeOnes rfl hl.1 ⟨Nat.le_of_ble_eq_true rfl, Nat.le_of_ble_eq_true rfl⟩ ⟨Nat.zero_le _, Nat.zero_le _⟩ (Nat.le_of_ble_eq_true rfl) rfl dX0_changeIfPossible_42 (fun r_20 hr_21 => ?_)
    subst hr_21
    refine lv_lstore (lv' := [(8, .long ((((x)).toInt64) * lN (b 1 (f * 5 + t)) * lN (100 - b 0 1) / lN 10000)), (6, .long ((((x)).toInt64) * lN (b 1 (f * 5 + t)) * lN (100 - b 0 1))), (0, .ref (ad 0)), (1, .int (nI (u))), (2, .int (nI (f))), (3, .int (nI (t))), (4, .int (x)), (5, .int (nI (k)))]) CF.1 CF.2.1 dX0_changeIfPossible_45 hl (by decide) rfl (fun ls hl => ?_)
    refine lv_lload CF.1 CF.2.1 dX0_changeIfPossible_47 (lv_at hl 0 rfl) ?_
    refine lv_iload CF.1 CF.2.1 dX0_changeIfPossible_49 (lv_at hl 7 rfl) ?_
    refine o_i2l CF (by omega) dX0_changeIfPossible_51 ?_
    refine z_lcmp_lt CF (tgt := 74) rfl (lNz (by omega)) dX0_changeIfPossible_52 dX0_changeIfPossible_53 (by decide) (fun h_22 => ?_) (fun h_23 => absurd h_23 (by omega))
    refine lv_iconst (v := nI 0) CF.1 CF.2.1 dX0_changeIfPossible_74 (by decide) ?_
    exact W.iret CF.1 CF.2.1 hr (fun t9 ht9 hW9 => ⟨⟨_, σ, rfl, ⟨rfl, rfl⟩, by show va_P G vwCl (w0 ad cA σ) t9.heap; rw [ht9]; exact hP⟩, hS.F ht9⟩) hS.2.2 dX0_changeIfPossible_75
  · refine lv_iconst (v := nI 0) CF.1 CF.2.1 dX0_changeIfPossible_27 (by decide) ?_
    exact W.iret CF.1 CF.2.1 hr (fun t9 ht9 hW9 => ⟨⟨_, σ, rfl, ⟨rfl, rfl⟩, by show va_P G vwCl (w0 ad cA σ) t9.heap; rw [ht9]; exact hP⟩, hS.F ht9⟩) hS.2.2 dX0_changeIfPossible_28
set_option maxHeartbeats 1000000 in
set_option maxRecDepth 100000 in
theorem c0_change (l : Launch) {G : va_G} {cA : ClassId} {ad : Nat → Nat} {σ : RS} (hj : inj8 ad) {b : BS} (hI : InvC b) (hR : Rc σ b) (hO : Ro σ b) (hOi : InvO b) {u f t a : Nat} (hu : u < b 0 2) (hf : f < 5) (ht : t < 5) (ha : a < 2147483648) (hok : okN b u f t a 1) : Met l yX0_change (ws_ yX0_change cX0_change 6 (some .int)) (rmk 8 0 0) (pc0 G cA ad σ [.ref (ad 0), .int (nI (u)), .int (nI (f)), .int (nI (t)), .int (nI (a))]) (va_Qi (fun (r : Int32) (σ' : RS) => r = nI (gv b f t a) ∧ Rc σ' (dc b u f t a) ∧ Ro σ' (dc b u f t a)) (fun σ' t => va_P G vwCl (w0 ad cA σ') t.heap) (own8 ad)) 0 0 (own8 ad) := by
  refine Met.ofW (cc := cX0_change) (maxL := 6) (ret := (some .int)) (by decide) rfl ?_
  intro p e s m args below meth c s₁ B hml hv
  obtain ⟨rfl, hP, hK⟩ := hv
  have CF : CallFix p m c cX0_change 6 s _ AW RX0 := ⟨B.exec, B.bytes, hml, findClass_of_methodNamed B.named, fun w h => atoms_spec (ws := ws_ yX0_change cX0_change 6 (some .int)) B.pre w (List.mem_cons_of_mem _ h)⟩
  have hr := B.returns
  have hlocks := B.notSynchronized
  have hl := lv_entry ([.ref (ad 0), .int (nI (u)), .int (nI (f)), .int (nI (t)), .int (nI (a))]) (n := 6) (Nat.le_of_ble_eq_true rfl)
  rw [lg_entry_eq]
  generalize (lg_sl ([.ref (ad 0), .int (nI (u)), .int (nI (f)), .int (nI (t)), .int (nI (a))]) ++ List.replicate (6 - (lg_sl ([.ref (ad 0), .int (nI (u)), .int (nI (f)), .int (nI (t)), .int (nI (a))])).length) Slot.unset).toArray = ls at hl ⊢
  have hl : lv_has ls 6 [(0, .ref (ad 0)), (1, .int (nI (u))), (2, .int (nI (f))), (3, .int (nI (t))), (4, .int (nI (a)))] := hl
  have hD : va_D (own8 ad) (w0 ad cA σ) := w0_D hj (fun _ h => h)
  have hS : va_S (own8 ad) s.heap s.heap [] := va_S.rf
  obtain ⟨i_sp, i_cu, i_ra, i_di, i_mo, i_pu⟩ := id hI
  have hw10 := hOi.1
  have h_mt := i_mo t ht
  obtain ⟨k1, k2, k3, k4, k5, k6, k7⟩ := id hok
  have h_gl := pr_le hI (f := f) (t := t) (a := a) (A := 2147483647) (by omega) (by omega) (by omega)
  have h_gv : gv b f t a = pr b f t a / 10000 := rfl
  refine lv_aload_n CF.1 CF.2.1 dX0_change_0 rfl (lv_at hl 0 rfl) ?_
  refine lv_iload_n CF.1 CF.2.1 dX0_change_1 rfl (lv_at hl 1 rfl) ?_
  refine c0_i CF hK hP (As := [.int (nI (u))]) (rest := []) (c0_isCustomer l hI hR (nI (u))) rfl lk_RX0_X0_isCustomer rfl hl.1 ⟨Nat.le_of_ble_eq_true rfl, Nat.le_of_ble_eq_true rfl⟩ ⟨Nat.zero_le _, Nat.zero_le _⟩ (Nat.le_of_ble_eq_true rfl) rfl dX0_change_2 (fun r_1 hr_2 => ?_)
  have hxh_3 := nIz (n := u) (by omega)
  rcases hr_2 with ⟨rfl, -, -⟩ | ⟨rfl, h9⟩
  rotate_left
  · exact absurd h9 (by rw [hxh_3]; omega)
  rw [show (1 : Int32) = nI 1 by rfl]
  refine z_if_eq CF (tgt := 22) (nIz (by omega)) dX0_change_5 (by decide) (fun h => absurd h (by decide)) (fun _ => ?_)
  refine lv_iload_n CF.1 CF.2.1 dX0_change_8 rfl (lv_at hl 2 rfl) ?_
  refine cS_i CF (As := [.int (nI (f))]) (rest := []) (c0_isMoney l (nI (f))) lk_RX0_X0_isMoney rfl hl.1 ⟨Nat.le_of_ble_eq_true rfl, Nat.le_of_ble_eq_true rfl⟩ ⟨Nat.zero_le _, Nat.zero_le _⟩ (Nat.le_of_ble_eq_true rfl) rfl dX0_change_9 (fun r_6 hr_7 => ?_)
  have hxh_8 := nIz (n := f) (by omega)
  rcases hr_7 with ⟨rfl, -, -⟩ | ⟨rfl, h9⟩
  rotate_left
  · exact absurd h9 (by rw [hxh_8]; omega)
  rw [show (1 : Int32) = nI 1 by rfl]
  refine z_if_eq CF (tgt := 22) (nIz (by omega)) dX0_change_12 (by decide) (fun h => absurd h (by decide)) (fun _ => ?_)
  refine lv_iload_n CF.1 CF.2.1 dX0_change_15 rfl (lv_at hl 3 rfl) ?_
  refine cS_i CF (As := [.int (nI (t))]) (rest := []) (c0_isMoney l (nI (t))) lk_RX0_X0_isMoney rfl hl.1 ⟨Nat.le_of_ble_eq_true rfl, Nat.le_of_ble_eq_true rfl⟩ ⟨Nat.zero_le _, Nat.zero_le _⟩ (Nat.le_of_ble_eq_true rfl) rfl dX0_change_16 (fun r_11 hr_12 => ?_)
  have hxh_13 := nIz (n := t) (by omega)
  rcases hr_12 with ⟨rfl, -, -⟩ | ⟨rfl, h9⟩
  rotate_left
  · exact absurd h9 (by rw [hxh_13]; omega)
  rw [show (1 : Int32) = nI 1 by rfl]
  refine z_if_ne CF (tgt := 32) (nIz (by omega)) dX0_change_19 (by decide) (fun _ => ?_) (fun h => absurd h (by decide))
  refine lv_aload_n CF.1 CF.2.1 dX0_change_32 rfl (lv_at hl 0 rfl) ?_
  refine lv_iload_n CF.1 CF.2.1 dX0_change_33 rfl (lv_at hl 1 rfl) ?_
  refine lv_iload_n CF.1 CF.2.1 dX0_change_34 rfl (lv_at hl 2 rfl) ?_
  refine lv_iload_n CF.1 CF.2.1 dX0_change_35 rfl (lv_at hl 3 rfl) ?_
  refine lv_iload CF.1 CF.2.1 dX0_change_36 (lv_at hl 4 rfl) ?_
  refine lv_iconst (v := nI 1) CF.1 CF.2.1 dX0_change_38 (by decide) ?_
  refine d0_i CF hK hP hj (fun _ h => h) hS (As := [.int (nI (u)), .int (nI (f)), .int (nI (t)), .int (nI (a)), .int (nI (1))]) (rest := []) (c0_changeIfPossible l hj (b := b) hI hR (u := u) (f := f) (t := t) (a := a) (k := 1) hu hf ht ha (by omega) (by omega)) rfl lk_RX0_X0_changeIfPossible rfl hl.1 ⟨Nat.le_of_ble_eq_true rfl, Nat.le_of_ble_eq_true rfl⟩ ⟨Nat.zero_le _, Nat.zero_le _⟩ (Nat.le_of_ble_eq_true rfl) rfl dX0_change_39 (fun r_16 σ18 H18 locs hr_17 hP18 hD18 hS18 hz18 hk18 => ?_)
  rcases hr_17 with ⟨-, rfl, hr_17b, hr_17c⟩ | ⟨hr_17n, -, -⟩
  rotate_left
  · exact absurd hok hr_17n
  refine lv_istore (lv' := [(5, .int (nI (gv b f t a))), (0, .ref (ad 0)), (1, .int (nI (u))), (2, .int (nI (f))), (3, .int (nI (t))), (4, .int (nI (a)))]) CF.1 CF.2.1 dX0_change_42 hl (by decide) rfl (fun ls hl => ?_)
  refine lv_iload CF.1 CF.2.1 dX0_change_44 (lv_at hl 0 rfl) ?_
  refine z_if_ne CF (tgt := 59) (nIz (by omega)) dX0_change_46 (by decide) (fun h_19 => ?_) (fun h_20 => absurd h_20 (by omega))
  refine lv_iload CF.1 CF.2.1 dX0_change_59 (lv_at hl 0 rfl) ?_
  exact W.iret CF.1 CF.2.1 hr (fun t9 ht9 hW9 => ⟨⟨_, σ18, rfl, ⟨rfl, hr_17b, Ro_sm hO hr_17c dc_03 dc_05 (fun j => by rw [dc_7])⟩, by show va_P G vwCl (w0 ad cA σ18) t9.heap; rw [ht9]; exact hP18⟩, hS18.F ht9⟩) hS18.2.2 dX0_change_61
set_option maxHeartbeats 1000000 in
set_option maxRecDepth 100000 in
theorem b0_change (l : Launch) (hfl : l.stackTraces = false) {G : va_G} {cA : ClassId} {ad : Nat → Nat} {σ : RS} (hj : inj8 ad) {b : BS} (hI : InvC b) (hR : Rc σ b) (hO : Ro σ b) (hOi : InvO b) (x y z w : Int32) (hbad : ¬ (0 ≤ x.toInt ∧ x.toInt < (b 0 2 : Nat) ∧ 0 ≤ y.toInt ∧ y.toInt < 5 ∧ 0 ≤ z.toInt ∧ z.toInt < 5 ∧ ∃ a, a < 2147483648 ∧ w = nI a ∧ okN b x.toNatClampNeg y.toNatClampNeg z.toNatClampNeg a 1)) : vx_Met l yX0_change (ws_ yX0_change cX0_change 6 (some .int)) (rmk 8 1 6) (pcx G cA ad σ [.ref (ad 0), .int (x), .int (y), .int (z), .int (w)]) (va_Qi (fun (_ : Int32) (_ : RS) => False) (fun σ' t => va_P G vwCl (w0 ad cA σ') t.heap) (own8 ad)) (xcS G cA ad σ (fun E => (E = "java/lang/IndexOutOfBoundsException" ∧ (¬ (0 ≤ x.toInt ∧ x.toInt < (b 0 2 : Nat) ∧ 0 ≤ y.toInt ∧ y.toInt < 5 ∧ 0 ≤ z.toInt ∧ z.toInt < 5))) ∨ (E = "java/lang/IllegalStateException" ∧ (0 ≤ x.toInt ∧ x.toInt < (b 0 2 : Nat) ∧ 0 ≤ y.toInt ∧ y.toInt < 5 ∧ 0 ≤ z.toInt ∧ z.toInt < 5)))) 1 6 (own8 ad) := by
  refine vx_ofW (cc := cX0_change) (maxL := 6) (ret := (some .int)) (by decide) rfl ?_
  intro p e s m args below meth c s₁ B hml htab hv
  obtain ⟨rfl, hP, hK, hE⟩ := hv
  have CF : CallFix p m c cX0_change 6 s _ AW RX0 := ⟨B.exec, B.bytes, hml, findClass_of_methodNamed B.named, fun w h => atoms_spec (ws := ws_ yX0_change cX0_change 6 (some .int)) B.pre w (List.mem_cons_of_mem _ h)⟩
  have hr := B.returns
  have hlocks := B.notSynchronized
  have hl := lv_entry ([.ref (ad 0), .int (x), .int (y), .int (z), .int (w)]) (n := 6) (Nat.le_of_ble_eq_true rfl)
  rw [lg_entry_eq]
  generalize (lg_sl ([.ref (ad 0), .int (x), .int (y), .int (z), .int (w)]) ++ List.replicate (6 - (lg_sl ([.ref (ad 0), .int (x), .int (y), .int (z), .int (w)])).length) Slot.unset).toArray = ls at hl ⊢
  have hl : lv_has ls 6 [(0, .ref (ad 0)), (1, .int (x)), (2, .int (y)), (3, .int (z)), (4, .int (w))] := hl
  have hD : va_D (own8 ad) (w0 ad cA σ) := w0_D hj (fun _ h => h)
  have hS : va_S (own8 ad) s.heap s.heap [] := va_S.rf
  obtain ⟨i_sp, i_cu, i_ra, i_di, i_mo, i_pu⟩ := id hI
  have hw10 := hOi.1
  refine lv_aload_n CF.1 CF.2.1 dX0_change_0 rfl (lv_at hl 0 rfl) ?_
  refine lv_iload_n CF.1 CF.2.1 dX0_change_1 rfl (lv_at hl 1 rfl) ?_
  refine c0_i CF hK hP (As := [.int (x)]) (rest := []) (c0_isCustomer l hI hR ((x))) rfl lk_RX0_X0_isCustomer rfl hl.1 ⟨Nat.le_of_ble_eq_true rfl, Nat.le_of_ble_eq_true rfl⟩ ⟨Nat.zero_le _, Nat.zero_le _⟩ (Nat.le_of_ble_eq_true rfl) rfl dX0_change_2 (fun r_1 hr_2 => ?_)
  rcases hr_2 with ⟨rfl, h_5, h_6⟩ | ⟨rfl, h_7⟩
  · rw [show (1 : Int32) = nI 1 by rfl]
    obtain ⟨j_3, h_4, rfl⟩ := nI_ex (x := x) (n := b 0 2) (by omega) (by omega)
    have hzj_3 := nIz (n := j_3) (by omega)
    refine z_if_eq CF (tgt := 22) (nIz (by omega)) dX0_change_5 (by decide) (fun h => absurd h (by decide)) (fun _ => ?_)
    refine lv_iload_n CF.1 CF.2.1 dX0_change_8 rfl (lv_at hl 2 rfl) ?_
    refine cS_i CF (As := [.int (y)]) (rest := []) (c0_isMoney l ((y))) lk_RX0_X0_isMoney rfl hl.1 ⟨Nat.le_of_ble_eq_true rfl, Nat.le_of_ble_eq_true rfl⟩ ⟨Nat.zero_le _, Nat.zero_le _⟩ (Nat.le_of_ble_eq_true rfl) rfl dX0_change_9 (fun r_10 hr_11 => ?_)
    rcases hr_11 with ⟨rfl, h_14, h_15⟩ | ⟨rfl, h_16⟩
    · rw [show (1 : Int32) = nI 1 by rfl]
      obtain ⟨j_12, h_13, rfl⟩ := nI_ex (x := y) (n := 5) (by omega) (by omega)
      have hzj_12 := nIz (n := j_12) (by omega)
      refine z_if_eq CF (tgt := 22) (nIz (by omega)) dX0_change_12 (by decide) (fun h => absurd h (by decide)) (fun _ => ?_)
      refine lv_iload_n CF.1 CF.2.1 dX0_change_15 rfl (lv_at hl 3 rfl) ?_
      refine cS_i CF (As := [.int (z)]) (rest := []) (c0_isMoney l ((z))) lk_RX0_X0_isMoney rfl hl.1 ⟨Nat.le_of_ble_eq_true rfl, Nat.le_of_ble_eq_true rfl⟩ ⟨Nat.zero_le _, Nat.zero_le _⟩ (Nat.le_of_ble_eq_true rfl) rfl dX0_change_16 (fun r_19 hr_20 => ?_)
      rcases hr_20 with ⟨rfl, h_23, h_24⟩ | ⟨rfl, h_25⟩
      · rw [show (1 : Int32) = nI 1 by rfl]
        obtain ⟨j_21, h_22, rfl⟩ := nI_ex (x := z) (n := 5) (by omega) (by omega)
        have hzj_21 := nIz (n := j_21) (by omega)
        refine z_if_ne CF (tgt := 32) (nIz (by omega)) dX0_change_19 (by decide) (fun _ => ?_) (fun h => absurd h (by decide))
        refine lv_aload_n CF.1 CF.2.1 dX0_change_32 rfl (lv_at hl 0 rfl) ?_
        refine lv_iload_n CF.1 CF.2.1 dX0_change_33 rfl (lv_at hl 1 rfl) ?_
        refine lv_iload_n CF.1 CF.2.1 dX0_change_34 rfl (lv_at hl 2 rfl) ?_
        refine lv_iload_n CF.1 CF.2.1 dX0_change_35 rfl (lv_at hl 3 rfl) ?_
        refine lv_iload CF.1 CF.2.1 dX0_change_36 (lv_at hl 4 rfl) ?_
        refine lv_iconst (v := nI 1) CF.1 CF.2.1 dX0_change_38 (by decide) ?_
        by_cases hneg : w.toInt < 0
        · refine d0_i CF hK hP hj (fun _ h => h) hS (As := [.int (nI (j_3)), .int (nI (j_12)), .int (nI (j_21)), .int (w), .int (nI (1))]) (rest := []) (c0_cipNeg l hj (b := b) hI hR (u := j_3) (f := j_12) (t := j_21) (k := 1) (by omega) (by omega) (by omega) hneg (by omega) (by omega)) rfl lk_RX0_X0_changeIfPossible rfl hl.1 ⟨Nat.le_of_ble_eq_true rfl, Nat.le_of_ble_eq_true rfl⟩ ⟨Nat.zero_le _, Nat.zero_le _⟩ (Nat.le_of_ble_eq_true rfl) rfl dX0_change_39 (fun r_28 σ28 H28 locs hr_28 hP28 hD28 hS28 hz28 hk28 => ?_)
          obtain ⟨rfl, rfl⟩ := hr_28
          refine lv_istore (lv' := [(5, .int (nI (0))), (0, .ref (ad 0)), (1, .int (nI (j_3))), (2, .int (nI (j_12))), (3, .int (nI (j_21))), (4, .int (w))]) CF.1 CF.2.1 dX0_change_42 hl (by decide) rfl (fun ls hl => ?_)
          refine lv_iload CF.1 CF.2.1 dX0_change_44 (lv_at hl 0 rfl) ?_
          refine z_if_ne CF (tgt := 59) (nIz (by omega)) dX0_change_46 (by decide) (fun h => absurd h (by decide)) (fun _ => ?_)
          exact thr CF hfl hE hP28 hj hS28 htab hlocks hl.1 (cls := "java/lang/IllegalStateException") (text := "this can not be changed") (by decide +kernel) (List.mem_of_getElem? (i := 2) rfl) (List.mem_of_getElem? (i := 8) rfl) (inr_11 _ (List.mem_of_getElem? (i := 6) rfl)) (inr_11 _ (List.mem_of_getElem? (i := 7) rfl)) ha_IS hb_IS hg_IS dX0_change_49 dX0_change_52 dX0_change_53 dX0_change_55 dX0_change_58 (Nat.le_of_ble_eq_true rfl) (Nat.le_of_ble_eq_true rfl) (Nat.le_of_ble_eq_true rfl) (Nat.le_of_ble_eq_true rfl) (Or.inr (⟨rfl, by omega⟩))
        · obtain ⟨a, ha, rfl⟩ := nI_ex (x := w) (n := 2147483648) (by omega) (by have := w.toInt_lt; omega)
          refine d0_i CF hK hP hj (fun _ h => h) hS (As := [.int (nI (j_3)), .int (nI (j_12)), .int (nI (j_21)), .int (nI (a)), .int (nI (1))]) (rest := []) (c0_changeIfPossible l hj (b := b) hI hR (u := j_3) (f := j_12) (t := j_21) (a := a) (k := 1) (by omega) (by omega) (by omega) ha (by omega) (by omega)) rfl lk_RX0_X0_changeIfPossible rfl hl.1 ⟨Nat.le_of_ble_eq_true rfl, Nat.le_of_ble_eq_true rfl⟩ ⟨Nat.zero_le _, Nat.zero_le _⟩ (Nat.le_of_ble_eq_true rfl) rfl dX0_change_39 (fun r_31 σ31 H31 locs hr_31 hP31 hD31 hS31 hz31 hk31 => ?_)
          rcases hr_31 with ⟨hok, -, -, -⟩ | ⟨-, rfl, rfl⟩
          · exact absurd ⟨by omega, by omega, by omega, by omega, by omega, by omega, a, ha, rfl, by rw [nI_clamp (by omega), nI_clamp (by omega), nI_clamp (by omega)]; exact hok⟩ hbad
          refine lv_istore (lv' := [(5, .int (nI (0))), (0, .ref (ad 0)), (1, .int (nI (j_3))), (2, .int (nI (j_12))), (3, .int (nI (j_21))), (4, .int (nI (a)))]) CF.1 CF.2.1 dX0_change_42 hl (by decide) rfl (fun ls hl => ?_)
          refine lv_iload CF.1 CF.2.1 dX0_change_44 (lv_at hl 0 rfl) ?_
          refine z_if_ne CF (tgt := 59) (nIz (by omega)) dX0_change_46 (by decide) (fun h => absurd h (by decide)) (fun _ => ?_)
          exact thr CF hfl hE hP31 hj hS31 htab hlocks hl.1 (cls := "java/lang/IllegalStateException") (text := "this can not be changed") (by decide +kernel) (List.mem_of_getElem? (i := 2) rfl) (List.mem_of_getElem? (i := 8) rfl) (inr_11 _ (List.mem_of_getElem? (i := 6) rfl)) (inr_11 _ (List.mem_of_getElem? (i := 7) rfl)) ha_IS hb_IS hg_IS dX0_change_49 dX0_change_52 dX0_change_53 dX0_change_55 dX0_change_58 (Nat.le_of_ble_eq_true rfl) (Nat.le_of_ble_eq_true rfl) (Nat.le_of_ble_eq_true rfl) (Nat.le_of_ble_eq_true rfl) (Or.inr (⟨rfl, by omega⟩))
      · rw [show (0 : Int32) = nI 0 by rfl]
        refine z_if_ne CF (tgt := 32) (nIz (by omega)) dX0_change_19 (by decide) (fun h => absurd h (by decide)) (fun _ => ?_)
        exact thr CF hfl hE hP hj hS htab hlocks hl.1 (cls := "java/lang/IndexOutOfBoundsException") (text := "no such customer or money") (by decide +kernel) (List.mem_of_getElem? (i := 0) rfl) (List.mem_of_getElem? (i := 6) rfl) (inr_2 _ (List.mem_of_getElem? (i := 19) rfl)) (inr_2 _ (List.mem_of_getElem? (i := 20) rfl)) ha_IO hb_IO hg_IO dX0_change_22 dX0_change_25 dX0_change_26 dX0_change_28 dX0_change_31 (Nat.le_of_ble_eq_true rfl) (Nat.le_of_ble_eq_true rfl) (Nat.le_of_ble_eq_true rfl) (Nat.le_of_ble_eq_true rfl) (Or.inl ⟨rfl, by omega⟩)
    · rw [show (0 : Int32) = nI 0 by rfl]
      refine z_if_eq CF (tgt := 22) (nIz (by omega)) dX0_change_12 (by decide) (fun _ => ?_) (fun h => absurd h (by decide))
      exact thr CF hfl hE hP hj hS htab hlocks hl.1 (cls := "java/lang/IndexOutOfBoundsException") (text := "no such customer or money") (by decide +kernel) (List.mem_of_getElem? (i := 0) rfl) (List.mem_of_getElem? (i := 6) rfl) (inr_2 _ (List.mem_of_getElem? (i := 19) rfl)) (inr_2 _ (List.mem_of_getElem? (i := 20) rfl)) ha_IO hb_IO hg_IO dX0_change_22 dX0_change_25 dX0_change_26 dX0_change_28 dX0_change_31 (Nat.le_of_ble_eq_true rfl) (Nat.le_of_ble_eq_true rfl) (Nat.le_of_ble_eq_true rfl) (Nat.le_of_ble_eq_true rfl) (Or.inl ⟨rfl, by omega⟩)
  · rw [show (0 : Int32) = nI 0 by rfl]
    refine z_if_eq CF (tgt := 22) (nIz (by omega)) dX0_change_5 (by decide) (fun _ => ?_) (fun h => absurd h (by decide))
    exact thr CF hfl hE hP hj hS htab hlocks hl.1 (cls := "java/lang/IndexOutOfBoundsException") (text := "no such customer or money") (by decide +kernel) (List.mem_of_getElem? (i := 0) rfl) (List.mem_of_getElem? (i := 6) rfl) (inr_2 _ (List.mem_of_getElem? (i := 19) rfl)) (inr_2 _ (List.mem_of_getElem? (i := 20) rfl)) ha_IO hb_IO hg_IO dX0_change_22 dX0_change_25 dX0_change_26 dX0_change_28 dX0_change_31 (Nat.le_of_ble_eq_true rfl) (Nat.le_of_ble_eq_true rfl) (Nat.le_of_ble_eq_true rfl) (Nat.le_of_ble_eq_true rfl) (Or.inl ⟨rfl, by omega⟩)
set_option maxHeartbeats 1000000 in
set_option maxRecDepth 100000 in
theorem c0_order (l : Launch) {G : va_G} {cA : ClassId} {ad : Nat → Nat} {σ : RS} (hj : inj8 ad) {b : BS} (hI : InvC b) (hR : Rc σ b) (hO : Ro σ b) (hOi : InvO b) {u f t a k : Nat} (hu : u < b 0 2) (hf : f < 5) (ht : t < 5) (hne : f ≠ t) (ha0 : 1 ≤ a) (ha : a ≤ 99999) (hk0 : 1 ≤ k) (hk : k ≤ 99999) (hw : b 0 3 < 10) : Met l yX0_order (ws_ yX0_order cX0_order 6 (some .int)) (rmk 8 0 0) (pc0 G cA ad σ [.ref (ad 0), .int (nI (u)), .int (nI (f)), .int (nI (t)), .int (nI (a)), .int (nI (k))]) (va_Qi (fun (r : Int32) (σ' : RS) => r = nI (b 0 3 + 1) ∧ Rc σ' (s_order b u f t a k) ∧ Ro σ' (s_order b u f t a k)) (fun σ' t => va_P G vwCl (w0 ad cA σ') t.heap) (own8 ad)) 0 0 (own8 ad) := by
  refine Met.ofW (cc := cX0_order) (maxL := 6) (ret := (some .int)) (by decide) rfl ?_
  intro p e s m args below meth c s₁ B hml hv
  obtain ⟨rfl, hP, hK⟩ := hv
  have CF : CallFix p m c cX0_order 6 s _ AW RX0 := ⟨B.exec, B.bytes, hml, findClass_of_methodNamed B.named, fun w h => atoms_spec (ws := ws_ yX0_order cX0_order 6 (some .int)) B.pre w (List.mem_cons_of_mem _ h)⟩
  have hr := B.returns
  have hlocks := B.notSynchronized
  have hl := lv_entry ([.ref (ad 0), .int (nI (u)), .int (nI (f)), .int (nI (t)), .int (nI (a)), .int (nI (k))]) (n := 6) (Nat.le_of_ble_eq_true rfl)
  rw [lg_entry_eq]
  generalize (lg_sl ([.ref (ad 0), .int (nI (u)), .int (nI (f)), .int (nI (t)), .int (nI (a)), .int (nI (k))]) ++ List.replicate (6 - (lg_sl ([.ref (ad 0), .int (nI (u)), .int (nI (f)), .int (nI (t)), .int (nI (a)), .int (nI (k))])).length) Slot.unset).toArray = ls at hl ⊢
  have hl : lv_has ls 6 [(0, .ref (ad 0)), (1, .int (nI (u))), (2, .int (nI (f))), (3, .int (nI (t))), (4, .int (nI (a))), (5, .int (nI (k)))] := hl
  have hD : va_D (own8 ad) (w0 ad cA σ) := w0_D hj (fun _ h => h)
  have hS : va_S (own8 ad) s.heap s.heap [] := va_S.rf
  obtain ⟨i_sp, i_cu, i_ra, i_di, i_mo, i_pu⟩ := id hI
  have hw10 := hOi.1
  refine lv_aload_n CF.1 CF.2.1 dX0_order_0 rfl (lv_at hl 0 rfl) ?_
  refine lv_iload_n CF.1 CF.2.1 dX0_order_1 rfl (lv_at hl 1 rfl) ?_
  refine c0_i CF hK hP (As := [.int (nI (u))]) (rest := []) (c0_isCustomer l hI hR (nI (u))) rfl lk_RX0_X0_isCustomer rfl hl.1 ⟨Nat.le_of_ble_eq_true rfl, Nat.le_of_ble_eq_true rfl⟩ ⟨Nat.zero_le _, Nat.zero_le _⟩ (Nat.le_of_ble_eq_true rfl) rfl dX0_order_2 (fun r_1 hr_2 => ?_)
  have hxh_3 := nIz (n := u) (by omega)
  rcases hr_2 with ⟨rfl, -, -⟩ | ⟨rfl, h9⟩
  rotate_left
  · exact absurd h9 (by rw [hxh_3]; omega)
  rw [show (1 : Int32) = nI 1 by rfl]
  refine z_if_eq CF (tgt := 22) (nIz (by omega)) dX0_order_5 (by decide) (fun h => absurd h (by decide)) (fun _ => ?_)
  refine lv_iload_n CF.1 CF.2.1 dX0_order_8 rfl (lv_at hl 2 rfl) ?_
  refine cS_i CF (As := [.int (nI (f))]) (rest := []) (c0_isMoney l (nI (f))) lk_RX0_X0_isMoney rfl hl.1 ⟨Nat.le_of_ble_eq_true rfl, Nat.le_of_ble_eq_true rfl⟩ ⟨Nat.zero_le _, Nat.zero_le _⟩ (Nat.le_of_ble_eq_true rfl) rfl dX0_order_9 (fun r_6 hr_7 => ?_)
  have hxh_8 := nIz (n := f) (by omega)
  rcases hr_7 with ⟨rfl, -, -⟩ | ⟨rfl, h9⟩
  rotate_left
  · exact absurd h9 (by rw [hxh_8]; omega)
  rw [show (1 : Int32) = nI 1 by rfl]
  refine z_if_eq CF (tgt := 22) (nIz (by omega)) dX0_order_12 (by decide) (fun h => absurd h (by decide)) (fun _ => ?_)
  refine lv_iload_n CF.1 CF.2.1 dX0_order_15 rfl (lv_at hl 3 rfl) ?_
  refine cS_i CF (As := [.int (nI (t))]) (rest := []) (c0_isMoney l (nI (t))) lk_RX0_X0_isMoney rfl hl.1 ⟨Nat.le_of_ble_eq_true rfl, Nat.le_of_ble_eq_true rfl⟩ ⟨Nat.zero_le _, Nat.zero_le _⟩ (Nat.le_of_ble_eq_true rfl) rfl dX0_order_16 (fun r_11 hr_12 => ?_)
  have hxh_13 := nIz (n := t) (by omega)
  rcases hr_12 with ⟨rfl, -, -⟩ | ⟨rfl, h9⟩
  rotate_left
  · exact absurd h9 (by rw [hxh_13]; omega)
  rw [show (1 : Int32) = nI 1 by rfl]
  refine z_if_ne CF (tgt := 32) (nIz (by omega)) dX0_order_19 (by decide) (fun _ => ?_) (fun h => absurd h (by decide))
  refine lv_iload_n CF.1 CF.2.1 dX0_order_32 rfl (lv_at hl 2 rfl) ?_
  refine lv_iload_n CF.1 CF.2.1 dX0_order_33 rfl (lv_at hl 3 rfl) ?_
  refine z_icmp_eq CF (tgt := 53) (nIz (by omega)) (nIz (by omega)) dX0_order_34 (by decide) (fun h_16 => absurd h_16 (by omega)) (fun h_17 => ?_)
  refine lv_iload CF.1 CF.2.1 dX0_order_37 (lv_at hl 4 rfl) ?_
  refine cS_i CF (As := [.int (nI (a))]) (rest := []) (c0_isNamedAmount l (nI (a))) lk_RX0_X0_isNamedAmount rfl hl.1 ⟨Nat.le_of_ble_eq_true rfl, Nat.le_of_ble_eq_true rfl⟩ ⟨Nat.zero_le _, Nat.zero_le _⟩ (Nat.le_of_ble_eq_true rfl) rfl dX0_order_39 (fun r_18 hr_19 => ?_)
  have hxh_20 := nIz (n := a) (by omega)
  rcases hr_19 with ⟨rfl, -, -⟩ | ⟨rfl, h9⟩
  rotate_left
  · exact absurd h9 (by rw [hxh_20]; omega)
  rw [show (1 : Int32) = nI 1 by rfl]
  refine z_if_eq CF (tgt := 53) (nIz (by omega)) dX0_order_42 (by decide) (fun h => absurd h (by decide)) (fun _ => ?_)
  refine lv_iload CF.1 CF.2.1 dX0_order_45 (lv_at hl 5 rfl) ?_
  refine cS_i CF (As := [.int (nI (k))]) (rest := []) (c0_isNamedAmount l (nI (k))) lk_RX0_X0_isNamedAmount rfl hl.1 ⟨Nat.le_of_ble_eq_true rfl, Nat.le_of_ble_eq_true rfl⟩ ⟨Nat.zero_le _, Nat.zero_le _⟩ (Nat.le_of_ble_eq_true rfl) rfl dX0_order_47 (fun r_23 hr_24 => ?_)
  have hxh_25 := nIz (n := k) (by omega)
  rcases hr_24 with ⟨rfl, -, -⟩ | ⟨rfl, h9⟩
  rotate_left
  · exact absurd h9 (by rw [hxh_25]; omega)
  rw [show (1 : Int32) = nI 1 by rfl]
  refine z_if_ne CF (tgt := 63) (nIz (by omega)) dX0_order_50 (by decide) (fun _ => ?_) (fun h => absurd h (by decide))
  refine lv_aload_n CF.1 CF.2.1 dX0_order_63 rfl (lv_at hl 0 rfl) ?_
  refine x0_g_waiting CF hK hP (v := (nI (b 0 3))) hO.1 dX0_order_64 ?_
  refine lv_bipush (v := nI 10) CF.1 CF.2.1 dX0_order_67 (by decide) ?_
  refine z_icmp_lt CF (tgt := 82) (nIz (by omega)) (nIz (by omega)) dX0_order_69 (by decide) (fun h_28 => ?_) (fun h_29 => absurd h_29 (by omega))
  refine lv_aload_n CF.1 CF.2.1 dX0_order_82 rfl (lv_at hl 0 rfl) ?_
  refine lv_aload_n CF.1 CF.2.1 dX0_order_83 rfl (lv_at hl 0 rfl) ?_
  refine x0_g_waiting CF hK hP (v := (nI (b 0 3))) hO.1 dX0_order_84 ?_
  refine lv_iconst (v := nI 0) CF.1 CF.2.1 dX0_order_87 (by decide) ?_
  refine lv_iload_n CF.1 CF.2.1 dX0_order_88 rfl (lv_at hl 1 rfl) ?_
  refine d0_v CF hK hP hj (fun _ h => h) hS (As := [.int (nI (b 0 3)), .int (nI (0)), .int (nI (u))]) (rest := []) (c0_setOrderPart l hj (σ := σ) (q := b 0 3) (k := 0) (by omega) (by omega) (nI (u))) rfl lk_RX0_X0_setOrderPart rfl hl.1 ⟨Nat.le_of_ble_eq_true rfl, Nat.le_of_ble_eq_true rfl⟩ ⟨Nat.zero_le _, Nat.zero_le _⟩ (Nat.le_of_ble_eq_true rfl) rfl dX0_order_89 (fun σ32 H32 locs hr_31 hP32 hD32 hS32 hz32 hk32 => ?_)
  refine lv_aload_n CF.1 CF.2.1 dX0_order_92 rfl (lv_at hl 0 rfl) ?_
  refine lv_aload_n CF.1 CF.2.1 dX0_order_93 rfl (lv_at hl 0 rfl) ?_
  refine x0_g_waiting CF hK hP32 (v := (nI (b 0 3))) (by rw [hr_31, up_k (by decide)]; exact hO.1) dX0_order_94 ?_
  refine lv_iconst (v := nI 1) CF.1 CF.2.1 dX0_order_97 (by decide) ?_
  refine lv_iload_n CF.1 CF.2.1 dX0_order_98 rfl (lv_at hl 2 rfl) ?_
  refine d0_v CF hK hP32 hj (fun _ h => h) hS32 (As := [.int (nI (b 0 3)), .int (nI (1)), .int (nI (f))]) (rest := []) (c0_setOrderPart l hj (σ := σ32) (q := b 0 3) (k := 1) (by omega) (by omega) (nI (f))) rfl lk_RX0_X0_setOrderPart rfl hl.1 ⟨Nat.le_of_ble_eq_true rfl, Nat.le_of_ble_eq_true rfl⟩ ⟨Nat.zero_le _, Nat.zero_le _⟩ (Nat.le_of_ble_eq_true rfl) rfl dX0_order_99 (fun σ35 H35 locs hr_34 hP35 hD35 hS35 hz35 hk35 => ?_)
  refine lv_aload_n CF.1 CF.2.1 dX0_order_102 rfl (lv_at hl 0 rfl) ?_
  refine lv_aload_n CF.1 CF.2.1 dX0_order_103 rfl (lv_at hl 0 rfl) ?_
  refine x0_g_waiting CF hK hP35 (v := (nI (b 0 3))) (by rw [hr_34, up_k (by decide), hr_31, up_k (by decide)]; exact hO.1) dX0_order_104 ?_
  refine lv_iconst (v := nI 2) CF.1 CF.2.1 dX0_order_107 (by decide) ?_
  refine lv_iload_n CF.1 CF.2.1 dX0_order_108 rfl (lv_at hl 3 rfl) ?_
  refine d0_v CF hK hP35 hj (fun _ h => h) hS35 (As := [.int (nI (b 0 3)), .int (nI (2)), .int (nI (t))]) (rest := []) (c0_setOrderPart l hj (σ := σ35) (q := b 0 3) (k := 2) (by omega) (by omega) (nI (t))) rfl lk_RX0_X0_setOrderPart rfl hl.1 ⟨Nat.le_of_ble_eq_true rfl, Nat.le_of_ble_eq_true rfl⟩ ⟨Nat.zero_le _, Nat.zero_le _⟩ (Nat.le_of_ble_eq_true rfl) rfl dX0_order_109 (fun σ38 H38 locs hr_37 hP38 hD38 hS38 hz38 hk38 => ?_)
  refine lv_aload_n CF.1 CF.2.1 dX0_order_112 rfl (lv_at hl 0 rfl) ?_
  refine lv_aload_n CF.1 CF.2.1 dX0_order_113 rfl (lv_at hl 0 rfl) ?_
  refine x0_g_waiting CF hK hP38 (v := (nI (b 0 3))) (by rw [hr_37, up_k (by decide), hr_34, up_k (by decide), hr_31, up_k (by decide)]; exact hO.1) dX0_order_114 ?_
  refine lv_iconst (v := nI 3) CF.1 CF.2.1 dX0_order_117 (by decide) ?_
  refine lv_iload CF.1 CF.2.1 dX0_order_118 (lv_at hl 4 rfl) ?_
  refine d0_v CF hK hP38 hj (fun _ h => h) hS38 (As := [.int (nI (b 0 3)), .int (nI (3)), .int (nI (a))]) (rest := []) (c0_setOrderPart l hj (σ := σ38) (q := b 0 3) (k := 3) (by omega) (by omega) (nI (a))) rfl lk_RX0_X0_setOrderPart rfl hl.1 ⟨Nat.le_of_ble_eq_true rfl, Nat.le_of_ble_eq_true rfl⟩ ⟨Nat.zero_le _, Nat.zero_le _⟩ (Nat.le_of_ble_eq_true rfl) rfl dX0_order_120 (fun σ41 H41 locs hr_40 hP41 hD41 hS41 hz41 hk41 => ?_)
  refine lv_aload_n CF.1 CF.2.1 dX0_order_123 rfl (lv_at hl 0 rfl) ?_
  refine lv_aload_n CF.1 CF.2.1 dX0_order_124 rfl (lv_at hl 0 rfl) ?_
  refine x0_g_waiting CF hK hP41 (v := (nI (b 0 3))) (by rw [hr_40, up_k (by decide), hr_37, up_k (by decide), hr_34, up_k (by decide), hr_31, up_k (by decide)]; exact hO.1) dX0_order_125 ?_
  refine lv_iconst (v := nI 4) CF.1 CF.2.1 dX0_order_128 (by decide) ?_
  refine lv_iload CF.1 CF.2.1 dX0_order_129 (lv_at hl 5 rfl) ?_
  refine d0_v CF hK hP41 hj (fun _ h => h) hS41 (As := [.int (nI (b 0 3)), .int (nI (4)), .int (nI (k))]) (rest := []) (c0_setOrderPart l hj (σ := σ41) (q := b 0 3) (k := 4) (by omega) (by omega) (nI (k))) rfl lk_RX0_X0_setOrderPart rfl hl.1 ⟨Nat.le_of_ble_eq_true rfl, Nat.le_of_ble_eq_true rfl⟩ ⟨Nat.zero_le _, Nat.zero_le _⟩ (Nat.le_of_ble_eq_true rfl) rfl dX0_order_131 (fun σ44 H44 locs hr_43 hP44 hD44 hS44 hz44 hk44 => ?_)
  refine lv_aload_n CF.1 CF.2.1 dX0_order_134 rfl (lv_at hl 0 rfl) ?_
  refine lv_dup CF.1 CF.2.1 dX0_order_135 rfl ?_
  refine x0_g_waiting CF hK hP44 (v := (nI (b 0 3))) (by rw [hr_43, up_k (by decide), hr_40, up_k (by decide), hr_37, up_k (by decide), hr_34, up_k (by decide), hr_31, up_k (by decide)]; exact hO.1) dX0_order_136 ?_
  refine lv_iconst (v := nI 1) CF.1 CF.2.1 dX0_order_139 (by decide) ?_
  refine o_iadd CF dX0_order_140 ?_
  refine x0_p_waiting CF hK hP44 hD44 hS44 dX0_order_141 (fun σ45 H45 locs hσ45 hP45 hD45 hS45 => ?_)
  refine lv_aload_n CF.1 CF.2.1 dX0_order_144 rfl (lv_at hl 0 rfl) ?_
  refine x0_g_waiting CF hK hP45 (v := (nI (b 0 3 + 1))) (by rw [hσ45, up_s]) dX0_order_145 ?_
  exact W.iret CF.1 CF.2.1 hr (fun t9 ht9 hW9 => ⟨⟨_, σ45, rfl, ⟨rfl, (ord_R hR hO hr_31 hr_34 hr_37 hr_40 hr_43 hσ45).1, (ord_R hR hO hr_31 hr_34 hr_37 hr_40 hr_43 hσ45).2⟩, by show va_P G vwCl (w0 ad cA σ45) t9.heap; rw [ht9]; exact hP45⟩, hS45.F ht9⟩) hS45.2.2 dX0_order_148
set_option maxHeartbeats 1000000 in
set_option maxRecDepth 100000 in
theorem b0_order (l : Launch) (hfl : l.stackTraces = false) {G : va_G} {cA : ClassId} {ad : Nat → Nat} {σ : RS} (hj : inj8 ad) {b : BS} (hI : InvC b) (hR : Rc σ b) (hO : Ro σ b) (hOi : InvO b) (x y z w v : Int32) (hbad : ¬ (0 ≤ x.toInt ∧ x.toInt < (b 0 2 : Nat) ∧ 0 ≤ y.toInt ∧ y.toInt < 5 ∧ 0 ≤ z.toInt ∧ z.toInt < 5 ∧ y.toInt ≠ z.toInt ∧ 1 ≤ w.toInt ∧ w.toInt ≤ 99999 ∧ 1 ≤ v.toInt ∧ v.toInt ≤ 99999 ∧ b 0 3 < 10)) : vx_Met l yX0_order (ws_ yX0_order cX0_order 6 (some .int)) (rmk 8 1 6) (pcx G cA ad σ [.ref (ad 0), .int (x), .int (y), .int (z), .int (w), .int (v)]) (va_Qi (fun (_ : Int32) (_ : RS) => False) (fun σ' t => va_P G vwCl (w0 ad cA σ') t.heap) (own8 ad)) (xcS G cA ad σ (fun E => (E = "java/lang/IndexOutOfBoundsException" ∧ (¬ (0 ≤ x.toInt ∧ x.toInt < (b 0 2 : Nat) ∧ 0 ≤ y.toInt ∧ y.toInt < 5 ∧ 0 ≤ z.toInt ∧ z.toInt < 5))) ∨ (E = "java/lang/IllegalArgumentException" ∧ ((0 ≤ x.toInt ∧ x.toInt < (b 0 2 : Nat) ∧ 0 ≤ y.toInt ∧ y.toInt < 5 ∧ 0 ≤ z.toInt ∧ z.toInt < 5) ∧ ¬ (y.toInt ≠ z.toInt ∧ 1 ≤ w.toInt ∧ w.toInt ≤ 99999 ∧ 1 ≤ v.toInt ∧ v.toInt ≤ 99999))) ∨ (E = "java/lang/IllegalStateException" ∧ ((0 ≤ x.toInt ∧ x.toInt < (b 0 2 : Nat) ∧ 0 ≤ y.toInt ∧ y.toInt < 5 ∧ 0 ≤ z.toInt ∧ z.toInt < 5) ∧ (y.toInt ≠ z.toInt ∧ 1 ≤ w.toInt ∧ w.toInt ≤ 99999 ∧ 1 ≤ v.toInt ∧ v.toInt ≤ 99999))))) 1 6 (own8 ad) := by
  refine vx_ofW (cc := cX0_order) (maxL := 6) (ret := (some .int)) (by decide) rfl ?_
  intro p e s m args below meth c s₁ B hml htab hv
  obtain ⟨rfl, hP, hK, hE⟩ := hv
  have CF : CallFix p m c cX0_order 6 s _ AW RX0 := ⟨B.exec, B.bytes, hml, findClass_of_methodNamed B.named, fun w h => atoms_spec (ws := ws_ yX0_order cX0_order 6 (some .int)) B.pre w (List.mem_cons_of_mem _ h)⟩
  have hr := B.returns
  have hlocks := B.notSynchronized
  have hl := lv_entry ([.ref (ad 0), .int (x), .int (y), .int (z), .int (w), .int (v)]) (n := 6) (Nat.le_of_ble_eq_true rfl)
  rw [lg_entry_eq]
  generalize (lg_sl ([.ref (ad 0), .int (x), .int (y), .int (z), .int (w), .int (v)]) ++ List.replicate (6 - (lg_sl ([.ref (ad 0), .int (x), .int (y), .int (z), .int (w), .int (v)])).length) Slot.unset).toArray = ls at hl ⊢
  have hl : lv_has ls 6 [(0, .ref (ad 0)), (1, .int (x)), (2, .int (y)), (3, .int (z)), (4, .int (w)), (5, .int (v))] := hl
  obtain ⟨i_sp, i_cu, i_ra, i_di, i_mo, i_pu⟩ := id hI
  have hw10 := hOi.1
  refine lv_aload_n CF.1 CF.2.1 dX0_order_0 rfl (lv_at hl 0 rfl) ?_
  refine lv_iload_n CF.1 CF.2.1 dX0_order_1 rfl (lv_at hl 1 rfl) ?_
  refine c0_i CF hK hP (As := [.int (x)]) (rest := []) (c0_isCustomer l hI hR ((x))) rfl lk_RX0_X0_isCustomer rfl hl.1 ⟨Nat.le_of_ble_eq_true rfl, Nat.le_of_ble_eq_true rfl⟩ ⟨Nat.zero_le _, Nat.zero_le _⟩ (Nat.le_of_ble_eq_true rfl) rfl dX0_order_2 (fun r_1 hr_2 => ?_)
  rcases hr_2 with ⟨rfl, h_5, h_6⟩ | ⟨rfl, h_7⟩
  · rw [show (1 : Int32) = nI 1 by rfl]
    obtain ⟨j_3, h_4, rfl⟩ := nI_ex (x := x) (n := b 0 2) (by omega) (by omega)
    have hzj_3 := nIz (n := j_3) (by omega)
    refine z_if_eq CF (tgt := 22) (nIz (by omega)) dX0_order_5 (by decide) (fun h => absurd h (by decide)) (fun _ => ?_)
    refine lv_iload_n CF.1 CF.2.1 dX0_order_8 rfl (lv_at hl 2 rfl) ?_
    refine cS_i CF (As := [.int (y)]) (rest := []) (c0_isMoney l ((y))) lk_RX0_X0_isMoney rfl hl.1 ⟨Nat.le_of_ble_eq_true rfl, Nat.le_of_ble_eq_true rfl⟩ ⟨Nat.zero_le _, Nat.zero_le _⟩ (Nat.le_of_ble_eq_true rfl) rfl dX0_order_9 (fun r_10 hr_11 => ?_)
    rcases hr_11 with ⟨rfl, h_14, h_15⟩ | ⟨rfl, h_16⟩
    · rw [show (1 : Int32) = nI 1 by rfl]
      obtain ⟨j_12, h_13, rfl⟩ := nI_ex (x := y) (n := 5) (by omega) (by omega)
      have hzj_12 := nIz (n := j_12) (by omega)
      refine z_if_eq CF (tgt := 22) (nIz (by omega)) dX0_order_12 (by decide) (fun h => absurd h (by decide)) (fun _ => ?_)
      refine lv_iload_n CF.1 CF.2.1 dX0_order_15 rfl (lv_at hl 3 rfl) ?_
      refine cS_i CF (As := [.int (z)]) (rest := []) (c0_isMoney l ((z))) lk_RX0_X0_isMoney rfl hl.1 ⟨Nat.le_of_ble_eq_true rfl, Nat.le_of_ble_eq_true rfl⟩ ⟨Nat.zero_le _, Nat.zero_le _⟩ (Nat.le_of_ble_eq_true rfl) rfl dX0_order_16 (fun r_19 hr_20 => ?_)
      rcases hr_20 with ⟨rfl, h_23, h_24⟩ | ⟨rfl, h_25⟩
      · rw [show (1 : Int32) = nI 1 by rfl]
        obtain ⟨j_21, h_22, rfl⟩ := nI_ex (x := z) (n := 5) (by omega) (by omega)
        have hzj_21 := nIz (n := j_21) (by omega)
        refine z_if_ne CF (tgt := 32) (nIz (by omega)) dX0_order_19 (by decide) (fun _ => ?_) (fun h => absurd h (by decide))
        refine lv_iload_n CF.1 CF.2.1 dX0_order_32 rfl (lv_at hl 2 rfl) ?_
        refine lv_iload_n CF.1 CF.2.1 dX0_order_33 rfl (lv_at hl 3 rfl) ?_
        refine z_icmp_eq CF (tgt := 53) (nIz (by omega)) (nIz (by omega)) dX0_order_34 (by decide) (fun h_28 => ?_) (fun h_29 => ?_)
        · exact thr CF hfl hE hP hj (va_S.rf) htab hlocks hl.1 (cls := "java/lang/IllegalArgumentException") (text := "the moneys are the same or an amount is not 1 to 99999") (by decide +kernel) (List.mem_of_getElem? (i := 1) rfl) (List.mem_of_getElem? (i := 9) rfl) (inr_2 _ (List.mem_of_getElem? (i := 21) rfl)) (inr_2 _ (List.mem_of_getElem? (i := 22) rfl)) ha_IA hb_IA hg_IA dX0_order_53 dX0_order_56 dX0_order_57 dX0_order_59 dX0_order_62 (Nat.le_of_ble_eq_true rfl) (Nat.le_of_ble_eq_true rfl) (Nat.le_of_ble_eq_true rfl) (Nat.le_of_ble_eq_true rfl) (Or.inr (Or.inl ⟨rfl, by omega⟩))
        · refine lv_iload CF.1 CF.2.1 dX0_order_37 (lv_at hl 4 rfl) ?_
          refine cS_i CF (As := [.int (w)]) (rest := []) (c0_isNamedAmount l ((w))) lk_RX0_X0_isNamedAmount rfl hl.1 ⟨Nat.le_of_ble_eq_true rfl, Nat.le_of_ble_eq_true rfl⟩ ⟨Nat.zero_le _, Nat.zero_le _⟩ (Nat.le_of_ble_eq_true rfl) rfl dX0_order_39 (fun r_30 hr_31 => ?_)
          rcases hr_31 with ⟨rfl, h_34, h_35⟩ | ⟨rfl, h_36⟩
          · rw [show (1 : Int32) = nI 1 by rfl]
            obtain ⟨j_32, h_33, rfl⟩ := nI_ex (x := w) (n := 100000) (by omega) (by omega)
            rw [nIz (by omega)] at h_34
            have hzj_32 := nIz (n := j_32) (by omega)
            refine z_if_eq CF (tgt := 53) (nIz (by omega)) dX0_order_42 (by decide) (fun h => absurd h (by decide)) (fun _ => ?_)
            refine lv_iload CF.1 CF.2.1 dX0_order_45 (lv_at hl 5 rfl) ?_
            refine cS_i CF (As := [.int (v)]) (rest := []) (c0_isNamedAmount l ((v))) lk_RX0_X0_isNamedAmount rfl hl.1 ⟨Nat.le_of_ble_eq_true rfl, Nat.le_of_ble_eq_true rfl⟩ ⟨Nat.zero_le _, Nat.zero_le _⟩ (Nat.le_of_ble_eq_true rfl) rfl dX0_order_47 (fun r_39 hr_40 => ?_)
            rcases hr_40 with ⟨rfl, h_43, h_44⟩ | ⟨rfl, h_45⟩
            · rw [show (1 : Int32) = nI 1 by rfl]
              obtain ⟨j_41, h_42, rfl⟩ := nI_ex (x := v) (n := 100000) (by omega) (by omega)
              rw [nIz (by omega)] at h_43
              have hzj_41 := nIz (n := j_41) (by omega)
              refine z_if_ne CF (tgt := 63) (nIz (by omega)) dX0_order_50 (by decide) (fun _ => ?_) (fun h => absurd h (by decide))
              refine lv_aload_n CF.1 CF.2.1 dX0_order_63 rfl (lv_at hl 0 rfl) ?_
              refine x0_g_waiting CF hK hP (v := (nI (b 0 3))) hO.1 dX0_order_64 ?_
              refine lv_bipush (v := nI 10) CF.1 CF.2.1 dX0_order_67 (by decide) ?_
              refine z_icmp_lt CF (tgt := 82) (nIz (by omega)) (nIz (by omega)) dX0_order_69 (by decide) (fun h_48 => ?_) (fun h_49 => ?_)
              · exact (show False by omega).elim
              · exact thr CF hfl hE hP hj (va_S.rf) htab hlocks hl.1 (cls := "java/lang/IllegalStateException") (text := "10 orders wait") (by decide +kernel) (List.mem_of_getElem? (i := 2) rfl) (List.mem_of_getElem? (i := 10) rfl) (inr_11 _ (List.mem_of_getElem? (i := 6) rfl)) (inr_11 _ (List.mem_of_getElem? (i := 7) rfl)) ha_IS hb_IS hg_IS dX0_order_72 dX0_order_75 dX0_order_76 dX0_order_78 dX0_order_81 (Nat.le_of_ble_eq_true rfl) (Nat.le_of_ble_eq_true rfl) (Nat.le_of_ble_eq_true rfl) (Nat.le_of_ble_eq_true rfl) (Or.inr (Or.inr (⟨rfl, by omega⟩)))
            · rw [show (0 : Int32) = nI 0 by rfl]
              refine z_if_ne CF (tgt := 63) (nIz (by omega)) dX0_order_50 (by decide) (fun h => absurd h (by decide)) (fun _ => ?_)
              exact thr CF hfl hE hP hj (va_S.rf) htab hlocks hl.1 (cls := "java/lang/IllegalArgumentException") (text := "the moneys are the same or an amount is not 1 to 99999") (by decide +kernel) (List.mem_of_getElem? (i := 1) rfl) (List.mem_of_getElem? (i := 9) rfl) (inr_2 _ (List.mem_of_getElem? (i := 21) rfl)) (inr_2 _ (List.mem_of_getElem? (i := 22) rfl)) ha_IA hb_IA hg_IA dX0_order_53 dX0_order_56 dX0_order_57 dX0_order_59 dX0_order_62 (Nat.le_of_ble_eq_true rfl) (Nat.le_of_ble_eq_true rfl) (Nat.le_of_ble_eq_true rfl) (Nat.le_of_ble_eq_true rfl) (Or.inr (Or.inl ⟨rfl, by omega⟩))
          · rw [show (0 : Int32) = nI 0 by rfl]
            refine z_if_eq CF (tgt := 53) (nIz (by omega)) dX0_order_42 (by decide) (fun _ => ?_) (fun h => absurd h (by decide))
            exact thr CF hfl hE hP hj (va_S.rf) htab hlocks hl.1 (cls := "java/lang/IllegalArgumentException") (text := "the moneys are the same or an amount is not 1 to 99999") (by decide +kernel) (List.mem_of_getElem? (i := 1) rfl) (List.mem_of_getElem? (i := 9) rfl) (inr_2 _ (List.mem_of_getElem? (i := 21) rfl)) (inr_2 _ (List.mem_of_getElem? (i := 22) rfl)) ha_IA hb_IA hg_IA dX0_order_53 dX0_order_56 dX0_order_57 dX0_order_59 dX0_order_62 (Nat.le_of_ble_eq_true rfl) (Nat.le_of_ble_eq_true rfl) (Nat.le_of_ble_eq_true rfl) (Nat.le_of_ble_eq_true rfl) (Or.inr (Or.inl ⟨rfl, by omega⟩))
      · rw [show (0 : Int32) = nI 0 by rfl]
        refine z_if_ne CF (tgt := 32) (nIz (by omega)) dX0_order_19 (by decide) (fun h => absurd h (by decide)) (fun _ => ?_)
        exact thr CF hfl hE hP hj (va_S.rf) htab hlocks hl.1 (cls := "java/lang/IndexOutOfBoundsException") (text := "no such customer or money") (by decide +kernel) (List.mem_of_getElem? (i := 0) rfl) (List.mem_of_getElem? (i := 6) rfl) (inr_2 _ (List.mem_of_getElem? (i := 19) rfl)) (inr_2 _ (List.mem_of_getElem? (i := 20) rfl)) ha_IO hb_IO hg_IO dX0_order_22 dX0_order_25 dX0_order_26 dX0_order_28 dX0_order_31 (Nat.le_of_ble_eq_true rfl) (Nat.le_of_ble_eq_true rfl) (Nat.le_of_ble_eq_true rfl) (Nat.le_of_ble_eq_true rfl) (Or.inl ⟨rfl, by omega⟩)
    · rw [show (0 : Int32) = nI 0 by rfl]
      refine z_if_eq CF (tgt := 22) (nIz (by omega)) dX0_order_12 (by decide) (fun _ => ?_) (fun h => absurd h (by decide))
      exact thr CF hfl hE hP hj (va_S.rf) htab hlocks hl.1 (cls := "java/lang/IndexOutOfBoundsException") (text := "no such customer or money") (by decide +kernel) (List.mem_of_getElem? (i := 0) rfl) (List.mem_of_getElem? (i := 6) rfl) (inr_2 _ (List.mem_of_getElem? (i := 19) rfl)) (inr_2 _ (List.mem_of_getElem? (i := 20) rfl)) ha_IO hb_IO hg_IO dX0_order_22 dX0_order_25 dX0_order_26 dX0_order_28 dX0_order_31 (Nat.le_of_ble_eq_true rfl) (Nat.le_of_ble_eq_true rfl) (Nat.le_of_ble_eq_true rfl) (Nat.le_of_ble_eq_true rfl) (Or.inl ⟨rfl, by omega⟩)
  · rw [show (0 : Int32) = nI 0 by rfl]
    refine z_if_eq CF (tgt := 22) (nIz (by omega)) dX0_order_5 (by decide) (fun _ => ?_) (fun h => absurd h (by decide))
    exact thr CF hfl hE hP hj (va_S.rf) htab hlocks hl.1 (cls := "java/lang/IndexOutOfBoundsException") (text := "no such customer or money") (by decide +kernel) (List.mem_of_getElem? (i := 0) rfl) (List.mem_of_getElem? (i := 6) rfl) (inr_2 _ (List.mem_of_getElem? (i := 19) rfl)) (inr_2 _ (List.mem_of_getElem? (i := 20) rfl)) ha_IO hb_IO hg_IO dX0_order_22 dX0_order_25 dX0_order_26 dX0_order_28 dX0_order_31 (Nat.le_of_ble_eq_true rfl) (Nat.le_of_ble_eq_true rfl) (Nat.le_of_ble_eq_true rfl) (Nat.le_of_ble_eq_true rfl) (Or.inl ⟨rfl, by omega⟩)
set_option maxHeartbeats 1000000 in
set_option maxRecDepth 100000 in
theorem c0_cancel (l : Launch) {G : va_G} {cA : ClassId} {ad : Nat → Nat} {σ : RS} (hj : inj8 ad) {b : BS} (hI : InvC b) (hR : Rc σ b) (hO : Ro σ b) (hOi : InvO b) {q : Nat} (hq : q < b 0 3) : Met l yX0_cancel (ws_ yX0_cancel cX0_cancel 4 (some .int)) (rmk 8 0 0) (pc0 G cA ad σ [.ref (ad 0), .int (nI (q))]) (va_Qi (fun (r : Int32) (σ' : RS) => r = nI (b 7 (q * 5)) ∧ Rc σ' (takeN b q) ∧ Ro σ' (takeN b q)) (fun σ' t => va_P G vwCl (w0 ad cA σ') t.heap) (own8 ad)) 0 0 (own8 ad) := by
  refine Met.ofW (cc := cX0_cancel) (maxL := 4) (ret := (some .int)) (by decide) rfl ?_
  intro p e s m args below meth c s₁ B hml hv
  obtain ⟨rfl, hP, hK⟩ := hv
  have CF : CallFix p m c cX0_cancel 4 s _ AW RX0 := ⟨B.exec, B.bytes, hml, findClass_of_methodNamed B.named, fun w h => atoms_spec (ws := ws_ yX0_cancel cX0_cancel 4 (some .int)) B.pre w (List.mem_cons_of_mem _ h)⟩
  have hr := B.returns
  have hlocks := B.notSynchronized
  have hl := lv_entry ([.ref (ad 0), .int (nI (q))]) (n := 4) (Nat.le_of_ble_eq_true rfl)
  rw [lg_entry_eq]
  generalize (lg_sl ([.ref (ad 0), .int (nI (q))]) ++ List.replicate (4 - (lg_sl ([.ref (ad 0), .int (nI (q))])).length) Slot.unset).toArray = ls at hl ⊢
  have hl : lv_has ls 4 [(0, .ref (ad 0)), (1, .int (nI (q)))] := hl
  have hD : va_D (own8 ad) (w0 ad cA σ) := w0_D hj (fun _ h => h)
  have hS : va_S (own8 ad) s.heap s.heap [] := va_S.rf
  obtain ⟨i_sp, i_cu, i_ra, i_di, i_mo, i_pu⟩ := id hI
  have hw10 := hOi.1
  refine lv_aload_n CF.1 CF.2.1 dX0_cancel_0 rfl (lv_at hl 0 rfl) ?_
  refine lv_iload_n CF.1 CF.2.1 dX0_cancel_1 rfl (lv_at hl 1 rfl) ?_
  refine c0_i CF hK hP (As := [.int (nI (q))]) (rest := []) (c0_isPlace l hI hR hO hOi (nI (q))) rfl lk_RX0_X0_isPlace rfl hl.1 ⟨Nat.le_of_ble_eq_true rfl, Nat.le_of_ble_eq_true rfl⟩ ⟨Nat.zero_le _, Nat.zero_le _⟩ (Nat.le_of_ble_eq_true rfl) rfl dX0_cancel_2 (fun r_1 hr_2 => ?_)
  have hxh_3 := nIz (n := q) (by omega)
  rcases hr_2 with ⟨rfl, -, -⟩ | ⟨rfl, h9⟩
  rotate_left
  · exact absurd h9 (by rw [hxh_3]; omega)
  rw [show (1 : Int32) = nI 1 by rfl]
  refine z_if_ne CF (tgt := 18) (nIz (by omega)) dX0_cancel_5 (by decide) (fun _ => ?_) (fun h => absurd h (by decide))
  refine lv_aload_n CF.1 CF.2.1 dX0_cancel_18 rfl (lv_at hl 0 rfl) ?_
  refine lv_iload_n CF.1 CF.2.1 dX0_cancel_19 rfl (lv_at hl 1 rfl) ?_
  refine lv_iconst (v := nI 0) CF.1 CF.2.1 dX0_cancel_20 (by decide) ?_
  refine c0_i CF hK hP (As := [.int (nI (q)), .int (nI (0))]) (rest := []) (c0_orderPart l (σ := σ) (u := q) (t := 0) (by omega) (by omega)) rfl lk_RX0_X0_orderPart rfl hl.1 ⟨Nat.le_of_ble_eq_true rfl, Nat.le_of_ble_eq_true rfl⟩ ⟨Nat.zero_le _, Nat.zero_le _⟩ (Nat.le_of_ble_eq_true rfl) rfl dX0_cancel_21 (fun r_6 hr_7 => ?_)
  subst hr_7
  refine tpi (show σ 7 (q * 5 + 0) = nI (b 7 (q * 5)) from hO.2.2 (q * 5 + 0) (by omega)) ?_
  refine lv_istore_n (lv' := [(2, .int (nI (b 7 (q * 5)))), (0, .ref (ad 0)), (1, .int (nI (q)))]) CF.1 CF.2.1 dX0_cancel_24 rfl hl (by decide) rfl (fun ls hl => ?_)
  refine lv_iload_n CF.1 CF.2.1 dX0_cancel_25 rfl (lv_at hl 2 rfl) ?_
  refine lv_iconst (v := nI 1) CF.1 CF.2.1 dX0_cancel_26 (by decide) ?_
  refine o_iadd CF dX0_cancel_27 ?_
  refine lv_istore_n (lv' := [(3, .int (nI (q + 1))), (2, .int (nI (b 7 (q * 5)))), (0, .ref (ad 0)), (1, .int (nI (q)))]) CF.1 CF.2.1 dX0_cancel_28 rfl hl (by decide) rfl (fun ls hl => ?_)
  refine loop_rw0 (α := Unit) (fun i x => [(0, .ref (ad 0)), (1, .int (nI (q))), (2, .int (nI (b 7 (q * 5)))), (3, .int (nI (i)))]) (fun i _ σ' => σ' = cnI σ q i) (b 0 3) (q + 1) (()) cnI_0.symm hP hS (lv_sub hl [2, 3, 1, 0] rfl) (by omega) (fun i_8 x_8 σ8 H8 locs hj_8 hi_8 hx_8 hP8 hS8 ih_8 ls hl => ?_)
  have hD8 : va_D (own8 ad) (w0 ad cA σ8) := w0_D hj (fun _ h => h)
  have hx_8 : σ8 = cnI σ q i_8 := hx_8
  refine lv_iload_n CF.1 CF.2.1 dX0_cancel_29 rfl (lv_at hl 3 rfl) ?_
  refine lv_aload_n CF.1 CF.2.1 dX0_cancel_30 rfl (lv_at hl 0 rfl) ?_
  refine x0_g_waiting CF hK hP8 (v := (nI (b 0 3))) (show σ8 0 3 = nI (b 0 3) by rw [hx_8]; unfold cnI; rw [if_neg (by omega)]; exact hO.1) dX0_cancel_31 ?_
  refine z_icmp_ge CF (tgt := 51) (nIz (by omega)) (nIz (by omega)) dX0_cancel_34 (by decide) (fun h_9 => ?_) (fun h_10 => ?_)
  · refine lv_aload_n CF.1 CF.2.1 dX0_cancel_51 rfl (lv_at hl 0 rfl) ?_
    refine lv_dup CF.1 CF.2.1 dX0_cancel_52 rfl ?_
    refine x0_g_waiting CF hK hP8 (v := (nI (b 0 3))) (show σ8 0 3 = nI (b 0 3) by rw [hx_8]; unfold cnI; rw [if_neg (by omega)]; exact hO.1) dX0_cancel_53 ?_
    refine lv_iconst (v := nI 1) CF.1 CF.2.1 dX0_cancel_56 (by decide) ?_
    refine o_isub CF (by omega) dX0_cancel_57 ?_
    refine x0_p_waiting CF hK hP8 hD8 hS8 dX0_cancel_58 (fun σ11 H11 locs hσ11 hP11 hD11 hS11 => ?_)
    refine lv_iload_n CF.1 CF.2.1 dX0_cancel_61 rfl (lv_at hl 2 rfl) ?_
    exact W.iret CF.1 CF.2.1 hr (fun t9 ht9 hW9 => ⟨⟨_, σ11, rfl, ⟨rfl, (can_R hR hO hq (by omega) hx_8 hσ11).1, (can_R hR hO hq (by omega) hx_8 hσ11).2⟩, by show va_P G vwCl (w0 ad cA σ11) t9.heap; rw [ht9]; exact hP11⟩, hS11.F ht9⟩) hS11.2.2 dX0_cancel_62
  · refine lv_aload_n CF.1 CF.2.1 dX0_cancel_37 rfl (lv_at hl 0 rfl) ?_
    refine lv_iload_n CF.1 CF.2.1 dX0_cancel_38 rfl (lv_at hl 3 rfl) ?_
    refine lv_iload_n CF.1 CF.2.1 dX0_cancel_39 rfl (lv_at hl 3 rfl) ?_
    refine lv_iconst (v := nI 1) CF.1 CF.2.1 dX0_cancel_40 (by decide) ?_
    refine o_isub CF (by omega) dX0_cancel_41 ?_
    refine d0_v CF hK hP8 hj (fun _ h => h) hS8 (As := [.int (nI (i_8)), .int (nI (i_8 - 1))]) (rest := []) (c0_moveOrder l hj (σ := σ8) (q := i_8) (k := i_8 - 1) (by omega) (by omega)) rfl lk_RX0_X0_moveOrder rfl hl.1 ⟨Nat.le_of_ble_eq_true rfl, Nat.le_of_ble_eq_true rfl⟩ ⟨Nat.zero_le _, Nat.zero_le _⟩ (Nat.le_of_ble_eq_true rfl) rfl dX0_cancel_42 (fun σ14 H14 locs hr_13 hP14 hD14 hS14 hz14 hk14 => ?_)
    refine lv_iinc (v := nI (i_8 + 1)) (lv' := [(3, .int (nI (i_8 + 1))), (0, .ref (ad 0)), (1, .int (nI (q))), (2, .int (nI (b 7 (q * 5))))]) CF.1 CF.2.1 dX0_cancel_45 hl (k := 3) rfl (by first | exact nI_add _ _ | rfl) (by decide) rfl (fun ls hl => ?_)
    refine lv_goto (tgt := 29) CF.1 CF.2.1 dX0_cancel_48 (by decide) ?_
    exact ih_8 () σ14 _ _ ls (by omega) (by show σ14 = cnI σ q (i_8 + 1); rw [hr_13, hx_8]; exact cnI_s (by omega)) hP14 hS14 (lv_sub hl [1, 2, 3, 0] rfl)
set_option maxHeartbeats 1000000 in
set_option maxRecDepth 100000 in
theorem b0_cancel (l : Launch) (hfl : l.stackTraces = false) {G : va_G} {cA : ClassId} {ad : Nat → Nat} {σ : RS} (hj : inj8 ad) {b : BS} (hI : InvC b) (hR : Rc σ b) (hO : Ro σ b) (hOi : InvO b) (x : Int32) (hbad : ¬ (0 ≤ x.toInt ∧ x.toInt < (b 0 3 : Nat))) : vx_Met l yX0_cancel (ws_ yX0_cancel cX0_cancel 4 (some .int)) (rmk 8 1 6) (pcx G cA ad σ [.ref (ad 0), .int (x)]) (va_Qi (fun (_ : Int32) (_ : RS) => False) (fun σ' t => va_P G vwCl (w0 ad cA σ') t.heap) (own8 ad)) (xcS G cA ad σ (fun E => (E = "java/lang/IndexOutOfBoundsException" ∧ (True)))) 1 6 (own8 ad) := by
  refine vx_ofW (cc := cX0_cancel) (maxL := 4) (ret := (some .int)) (by decide) rfl ?_
  intro p e s m args below meth c s₁ B hml htab hv
  obtain ⟨rfl, hP, hK, hE⟩ := hv
  have CF : CallFix p m c cX0_cancel 4 s _ AW RX0 := ⟨B.exec, B.bytes, hml, findClass_of_methodNamed B.named, fun w h => atoms_spec (ws := ws_ yX0_cancel cX0_cancel 4 (some .int)) B.pre w (List.mem_cons_of_mem _ h)⟩
  have hr := B.returns
  have hlocks := B.notSynchronized
  have hl := lv_entry ([.ref (ad 0), .int (x)]) (n := 4) (Nat.le_of_ble_eq_true rfl)
  rw [lg_entry_eq]
  generalize (lg_sl ([.ref (ad 0), .int (x)]) ++ List.replicate (4 - (lg_sl ([.ref (ad 0), .int (x)])).length) Slot.unset).toArray = ls at hl ⊢
  have hl : lv_has ls 4 [(0, .ref (ad 0)), (1, .int (x))] := hl
  obtain ⟨i_sp, i_cu, i_ra, i_di, i_mo, i_pu⟩ := id hI
  have hw10 := hOi.1
  refine lv_aload_n CF.1 CF.2.1 dX0_cancel_0 rfl (lv_at hl 0 rfl) ?_
  refine lv_iload_n CF.1 CF.2.1 dX0_cancel_1 rfl (lv_at hl 1 rfl) ?_
  refine c0_i CF hK hP (As := [.int (x)]) (rest := []) (c0_isPlace l hI hR hO hOi ((x))) rfl lk_RX0_X0_isPlace rfl hl.1 ⟨Nat.le_of_ble_eq_true rfl, Nat.le_of_ble_eq_true rfl⟩ ⟨Nat.zero_le _, Nat.zero_le _⟩ (Nat.le_of_ble_eq_true rfl) rfl dX0_cancel_2 (fun r_1 hr_2 => ?_)
  rcases hr_2 with ⟨rfl, h_5, h_6⟩ | ⟨rfl, h_7⟩
  · rw [show (1 : Int32) = nI 1 by rfl]
    obtain ⟨j_3, h_4, rfl⟩ := nI_ex (x := x) (n := b 0 3) (by omega) (by omega)
    have hzj_3 := nIz (n := j_3) (by omega)
    refine z_if_ne CF (tgt := 18) (nIz (by omega)) dX0_cancel_5 (by decide) (fun _ => ?_) (fun h => absurd h (by decide))
    exact (show False by omega).elim
  · rw [show (0 : Int32) = nI 0 by rfl]
    refine z_if_ne CF (tgt := 18) (nIz (by omega)) dX0_cancel_5 (by decide) (fun h => absurd h (by decide)) (fun _ => ?_)
    exact thr CF hfl hE hP hj (va_S.rf) htab hlocks hl.1 (cls := "java/lang/IndexOutOfBoundsException") (text := "no such place") (by decide +kernel) (List.mem_of_getElem? (i := 0) rfl) (List.mem_of_getElem? (i := 11) rfl) (inr_2 _ (List.mem_of_getElem? (i := 19) rfl)) (inr_2 _ (List.mem_of_getElem? (i := 20) rfl)) ha_IO hb_IO hg_IO dX0_cancel_8 dX0_cancel_11 dX0_cancel_12 dX0_cancel_14 dX0_cancel_17 (Nat.le_of_ble_eq_true rfl) (Nat.le_of_ble_eq_true rfl) (Nat.le_of_ble_eq_true rfl) (Nat.le_of_ble_eq_true rfl) (⟨rfl, trivial⟩)
set_option maxHeartbeats 1000000 in
set_option maxRecDepth 100000 in
theorem c0_has (l : Launch) {G : va_G} {cA : ClassId} {ad : Nat → Nat} {σ : RS} {b : BS} (hI : InvC b) (hR : Rc σ b) (hO : Ro σ b) (hOi : InvO b) {u t : Nat} (hu : u < b 0 2) (ht : t < 5) : Met l yX0_has (ws_ yX0_has cX0_has 3 (some .int)) (rmk 8 0 0) (pc0 G cA ad σ [.ref (ad 0), .int (nI (u)), .int (nI (t))]) (rqi (fun r => r = nI (b 6 (u * 5 + t)))) 0 0 (fun _ => False) := by
  refine Met.ofW (cc := cX0_has) (maxL := 3) (ret := (some .int)) (by decide) rfl ?_
  intro p e s m args below meth c s₁ B hml hv
  obtain ⟨rfl, hP, hK⟩ := hv
  have CF : CallFix p m c cX0_has 3 s _ AW RX0 := ⟨B.exec, B.bytes, hml, findClass_of_methodNamed B.named, fun w h => atoms_spec (ws := ws_ yX0_has cX0_has 3 (some .int)) B.pre w (List.mem_cons_of_mem _ h)⟩
  have hr := B.returns
  have hlocks := B.notSynchronized
  have hl := lv_entry ([.ref (ad 0), .int (nI (u)), .int (nI (t))]) (n := 3) (Nat.le_of_ble_eq_true rfl)
  rw [lg_entry_eq]
  generalize (lg_sl ([.ref (ad 0), .int (nI (u)), .int (nI (t))]) ++ List.replicate (3 - (lg_sl ([.ref (ad 0), .int (nI (u)), .int (nI (t))])).length) Slot.unset).toArray = ls at hl ⊢
  have hl : lv_has ls 3 [(0, .ref (ad 0)), (1, .int (nI (u))), (2, .int (nI (t)))] := hl
  obtain ⟨i_sp, i_cu, i_ra, i_di, i_mo, i_pu⟩ := id hI
  have hw10 := hOi.1
  refine lv_aload_n CF.1 CF.2.1 dX0_has_0 rfl (lv_at hl 0 rfl) ?_
  refine lv_iload_n CF.1 CF.2.1 dX0_has_1 rfl (lv_at hl 1 rfl) ?_
  refine c0_i CF hK hP (As := [.int (nI (u))]) (rest := []) (c0_isCustomer l hI hR (nI (u))) rfl lk_RX0_X0_isCustomer rfl hl.1 ⟨Nat.le_of_ble_eq_true rfl, Nat.le_of_ble_eq_true rfl⟩ ⟨Nat.zero_le _, Nat.zero_le _⟩ (Nat.le_of_ble_eq_true rfl) rfl dX0_has_2 (fun r_1 hr_2 => ?_)
  have hxh_3 := nIz (n := u) (by omega)
  rcases hr_2 with ⟨rfl, -, -⟩ | ⟨rfl, h9⟩
  rotate_left
  · exact absurd h9 (by rw [hxh_3]; omega)
  rw [show (1 : Int32) = nI 1 by rfl]
  refine z_if_eq CF (tgt := 15) (nIz (by omega)) dX0_has_5 (by decide) (fun h => absurd h (by decide)) (fun _ => ?_)
  refine lv_iload_n CF.1 CF.2.1 dX0_has_8 rfl (lv_at hl 2 rfl) ?_
  refine cS_i CF (As := [.int (nI (t))]) (rest := []) (c0_isMoney l (nI (t))) lk_RX0_X0_isMoney rfl hl.1 ⟨Nat.le_of_ble_eq_true rfl, Nat.le_of_ble_eq_true rfl⟩ ⟨Nat.zero_le _, Nat.zero_le _⟩ (Nat.le_of_ble_eq_true rfl) rfl dX0_has_9 (fun r_6 hr_7 => ?_)
  have hxh_8 := nIz (n := t) (by omega)
  rcases hr_7 with ⟨rfl, -, -⟩ | ⟨rfl, h9⟩
  rotate_left
  · exact absurd h9 (by rw [hxh_8]; omega)
  rw [show (1 : Int32) = nI 1 by rfl]
  refine z_if_ne CF (tgt := 25) (nIz (by omega)) dX0_has_12 (by decide) (fun _ => ?_) (fun h => absurd h (by decide))
  refine lv_aload_n CF.1 CF.2.1 dX0_has_25 rfl (lv_at hl 0 rfl) ?_
  refine lv_iload_n CF.1 CF.2.1 dX0_has_26 rfl (lv_at hl 1 rfl) ?_
  refine lv_iload_n CF.1 CF.2.1 dX0_has_27 rfl (lv_at hl 2 rfl) ?_
  refine c0_i CF hK hP (As := [.int (nI (u)), .int (nI (t))]) (rest := []) (c0_inPurse l hI hR (u := u) (t := t) (by omega) (by omega)) rfl lk_RX0_X0_inPurse rfl hl.1 ⟨Nat.le_of_ble_eq_true rfl, Nat.le_of_ble_eq_true rfl⟩ ⟨Nat.zero_le _, Nat.zero_le _⟩ (Nat.le_of_ble_eq_true rfl) rfl dX0_has_28 (fun r_11 hr_12 => ?_)
  subst hr_12
  exact W.iret CF.1 CF.2.1 hr (fun t9 ht9 hW9 => ⟨_, rfl, rfl, ht9⟩) (fun q hq => absurd hq List.not_mem_nil) dX0_has_31
set_option maxHeartbeats 1000000 in
set_option maxRecDepth 100000 in
theorem b0_has (l : Launch) (hfl : l.stackTraces = false) {G : va_G} {cA : ClassId} {ad : Nat → Nat} {σ : RS} (hj : inj8 ad) {b : BS} (hI : InvC b) (hR : Rc σ b) (hO : Ro σ b) (hOi : InvO b) (x y : Int32) (hbad : ¬ (0 ≤ x.toInt ∧ x.toInt < (b 0 2 : Nat) ∧ 0 ≤ y.toInt ∧ y.toInt < 5)) : vx_Met l yX0_has (ws_ yX0_has cX0_has 3 (some .int)) (rmk 8 1 6) (pcx G cA ad σ [.ref (ad 0), .int (x), .int (y)]) (va_Qi (fun (_ : Int32) (_ : RS) => False) (fun σ' t => va_P G vwCl (w0 ad cA σ') t.heap) (own8 ad)) (xcS G cA ad σ (fun E => (E = "java/lang/IndexOutOfBoundsException" ∧ (True)))) 1 6 (own8 ad) := by
  refine vx_ofW (cc := cX0_has) (maxL := 3) (ret := (some .int)) (by decide) rfl ?_
  intro p e s m args below meth c s₁ B hml htab hv
  obtain ⟨rfl, hP, hK, hE⟩ := hv
  have CF : CallFix p m c cX0_has 3 s _ AW RX0 := ⟨B.exec, B.bytes, hml, findClass_of_methodNamed B.named, fun w h => atoms_spec (ws := ws_ yX0_has cX0_has 3 (some .int)) B.pre w (List.mem_cons_of_mem _ h)⟩
  have hr := B.returns
  have hlocks := B.notSynchronized
  have hl := lv_entry ([.ref (ad 0), .int (x), .int (y)]) (n := 3) (Nat.le_of_ble_eq_true rfl)
  rw [lg_entry_eq]
  generalize (lg_sl ([.ref (ad 0), .int (x), .int (y)]) ++ List.replicate (3 - (lg_sl ([.ref (ad 0), .int (x), .int (y)])).length) Slot.unset).toArray = ls at hl ⊢
  have hl : lv_has ls 3 [(0, .ref (ad 0)), (1, .int (x)), (2, .int (y))] := hl
  obtain ⟨i_sp, i_cu, i_ra, i_di, i_mo, i_pu⟩ := id hI
  have hw10 := hOi.1
  refine lv_aload_n CF.1 CF.2.1 dX0_has_0 rfl (lv_at hl 0 rfl) ?_
  refine lv_iload_n CF.1 CF.2.1 dX0_has_1 rfl (lv_at hl 1 rfl) ?_
  refine c0_i CF hK hP (As := [.int (x)]) (rest := []) (c0_isCustomer l hI hR ((x))) rfl lk_RX0_X0_isCustomer rfl hl.1 ⟨Nat.le_of_ble_eq_true rfl, Nat.le_of_ble_eq_true rfl⟩ ⟨Nat.zero_le _, Nat.zero_le _⟩ (Nat.le_of_ble_eq_true rfl) rfl dX0_has_2 (fun r_1 hr_2 => ?_)
  rcases hr_2 with ⟨rfl, h_5, h_6⟩ | ⟨rfl, h_7⟩
  · rw [show (1 : Int32) = nI 1 by rfl]
    obtain ⟨j_3, h_4, rfl⟩ := nI_ex (x := x) (n := b 0 2) (by omega) (by omega)
    have hzj_3 := nIz (n := j_3) (by omega)
    refine z_if_eq CF (tgt := 15) (nIz (by omega)) dX0_has_5 (by decide) (fun h => absurd h (by decide)) (fun _ => ?_)
    refine lv_iload_n CF.1 CF.2.1 dX0_has_8 rfl (lv_at hl 2 rfl) ?_
    refine cS_i CF (As := [.int (y)]) (rest := []) (c0_isMoney l ((y))) lk_RX0_X0_isMoney rfl hl.1 ⟨Nat.le_of_ble_eq_true rfl, Nat.le_of_ble_eq_true rfl⟩ ⟨Nat.zero_le _, Nat.zero_le _⟩ (Nat.le_of_ble_eq_true rfl) rfl dX0_has_9 (fun r_10 hr_11 => ?_)
    rcases hr_11 with ⟨rfl, h_14, h_15⟩ | ⟨rfl, h_16⟩
    · rw [show (1 : Int32) = nI 1 by rfl]
      obtain ⟨j_12, h_13, rfl⟩ := nI_ex (x := y) (n := 5) (by omega) (by omega)
      have hzj_12 := nIz (n := j_12) (by omega)
      refine z_if_ne CF (tgt := 25) (nIz (by omega)) dX0_has_12 (by decide) (fun _ => ?_) (fun h => absurd h (by decide))
      exact (show False by omega).elim
    · rw [show (0 : Int32) = nI 0 by rfl]
      refine z_if_ne CF (tgt := 25) (nIz (by omega)) dX0_has_12 (by decide) (fun h => absurd h (by decide)) (fun _ => ?_)
      exact thr CF hfl hE hP hj (va_S.rf) htab hlocks hl.1 (cls := "java/lang/IndexOutOfBoundsException") (text := "no such customer or money") (by decide +kernel) (List.mem_of_getElem? (i := 0) rfl) (List.mem_of_getElem? (i := 6) rfl) (inr_2 _ (List.mem_of_getElem? (i := 19) rfl)) (inr_2 _ (List.mem_of_getElem? (i := 20) rfl)) ha_IO hb_IO hg_IO dX0_has_15 dX0_has_18 dX0_has_19 dX0_has_21 dX0_has_24 (Nat.le_of_ble_eq_true rfl) (Nat.le_of_ble_eq_true rfl) (Nat.le_of_ble_eq_true rfl) (Nat.le_of_ble_eq_true rfl) (⟨rfl, trivial⟩)
  · rw [show (0 : Int32) = nI 0 by rfl]
    refine z_if_eq CF (tgt := 15) (nIz (by omega)) dX0_has_5 (by decide) (fun _ => ?_) (fun h => absurd h (by decide))
    exact thr CF hfl hE hP hj (va_S.rf) htab hlocks hl.1 (cls := "java/lang/IndexOutOfBoundsException") (text := "no such customer or money") (by decide +kernel) (List.mem_of_getElem? (i := 0) rfl) (List.mem_of_getElem? (i := 6) rfl) (inr_2 _ (List.mem_of_getElem? (i := 19) rfl)) (inr_2 _ (List.mem_of_getElem? (i := 20) rfl)) ha_IO hb_IO hg_IO dX0_has_15 dX0_has_18 dX0_has_19 dX0_has_21 dX0_has_24 (Nat.le_of_ble_eq_true rfl) (Nat.le_of_ble_eq_true rfl) (Nat.le_of_ble_eq_true rfl) (Nat.le_of_ble_eq_true rfl) (⟨rfl, trivial⟩)
set_option maxHeartbeats 1000000 in
set_option maxRecDepth 100000 in
theorem c0_told (l : Launch) {G : va_G} {cA : ClassId} {ad : Nat → Nat} {σ : RS} {b : BS} (hI : InvC b) (hR : Rc σ b) (hO : Ro σ b) (hOi : InvO b) {t w : Nat} (ht : t < 5) (hw : w < 5) : Met l yX0_told (ws_ yX0_told cX0_told 3 (some .int)) (rmk 8 0 0) (pc0 G cA ad σ [.ref (ad 0), .int (nI (t)), .int (nI (w))]) (rqi (fun r => r = nI (fmo b t w))) 0 0 (fun _ => False) := by
  refine Met.ofW (cc := cX0_told) (maxL := 3) (ret := (some .int)) (by decide) rfl ?_
  intro p e s m args below meth c s₁ B hml hv
  obtain ⟨rfl, hP, hK⟩ := hv
  have CF : CallFix p m c cX0_told 3 s _ AW RX0 := ⟨B.exec, B.bytes, hml, findClass_of_methodNamed B.named, fun w h => atoms_spec (ws := ws_ yX0_told cX0_told 3 (some .int)) B.pre w (List.mem_cons_of_mem _ h)⟩
  have hr := B.returns
  have hlocks := B.notSynchronized
  have hl := lv_entry ([.ref (ad 0), .int (nI (t)), .int (nI (w))]) (n := 3) (Nat.le_of_ble_eq_true rfl)
  rw [lg_entry_eq]
  generalize (lg_sl ([.ref (ad 0), .int (nI (t)), .int (nI (w))]) ++ List.replicate (3 - (lg_sl ([.ref (ad 0), .int (nI (t)), .int (nI (w))])).length) Slot.unset).toArray = ls at hl ⊢
  have hl : lv_has ls 3 [(0, .ref (ad 0)), (1, .int (nI (t))), (2, .int (nI (w)))] := hl
  obtain ⟨i_sp, i_cu, i_ra, i_di, i_mo, i_pu⟩ := id hI
  have hw10 := hOi.1
  refine lv_iload_n CF.1 CF.2.1 dX0_told_0 rfl (lv_at hl 1 rfl) ?_
  refine cS_i CF (As := [.int (nI (t))]) (rest := []) (c0_isMoney l (nI (t))) lk_RX0_X0_isMoney rfl hl.1 ⟨Nat.le_of_ble_eq_true rfl, Nat.le_of_ble_eq_true rfl⟩ ⟨Nat.zero_le _, Nat.zero_le _⟩ (Nat.le_of_ble_eq_true rfl) rfl dX0_told_1 (fun r_1 hr_2 => ?_)
  have hxh_3 := nIz (n := t) (by omega)
  rcases hr_2 with ⟨rfl, -, -⟩ | ⟨rfl, h9⟩
  rotate_left
  · exact absurd h9 (by rw [hxh_3]; omega)
  rw [show (1 : Int32) = nI 1 by rfl]
  refine z_if_eq CF (tgt := 16) (nIz (by omega)) dX0_told_4 (by decide) (fun h => absurd h (by decide)) (fun _ => ?_)
  refine lv_iload_n CF.1 CF.2.1 dX0_told_7 rfl (lv_at hl 2 rfl) ?_
  refine z_if_lt CF (tgt := 16) (nIz (by omega)) dX0_told_8 (by decide) (fun h_6 => absurd h_6 (by omega)) (fun h_7 => ?_)
  refine lv_iload_n CF.1 CF.2.1 dX0_told_11 rfl (lv_at hl 2 rfl) ?_
  refine lv_iconst (v := nI 5) CF.1 CF.2.1 dX0_told_12 (by decide) ?_
  refine z_icmp_lt CF (tgt := 26) (nIz (by omega)) (nIz (by omega)) dX0_told_13 (by decide) (fun h_8 => ?_) (fun h_9 => absurd h_9 (by omega))
  refine lv_aload_n CF.1 CF.2.1 dX0_told_26 rfl (lv_at hl 0 rfl) ?_
  refine lv_iload_n CF.1 CF.2.1 dX0_told_27 rfl (lv_at hl 1 rfl) ?_
  refine lv_iload_n CF.1 CF.2.1 dX0_told_28 rfl (lv_at hl 2 rfl) ?_
  refine c0_i CF hK hP (As := [.int (nI (t)), .int (nI (w))]) (rest := []) (c0_factOfMoney l hI hR (t := t) (w := w) (by omega) (by omega)) rfl lk_RX0_X0_factOfMoney rfl hl.1 ⟨Nat.le_of_ble_eq_true rfl, Nat.le_of_ble_eq_true rfl⟩ ⟨Nat.zero_le _, Nat.zero_le _⟩ (Nat.le_of_ble_eq_true rfl) rfl dX0_told_29 (fun r_10 hr_11 => ?_)
  subst hr_11
  exact W.iret CF.1 CF.2.1 hr (fun t9 ht9 hW9 => ⟨_, rfl, rfl, ht9⟩) (fun q hq => absurd hq List.not_mem_nil) dX0_told_32
set_option maxHeartbeats 1000000 in
set_option maxRecDepth 100000 in
theorem b0_told (l : Launch) (hfl : l.stackTraces = false) {G : va_G} {cA : ClassId} {ad : Nat → Nat} {σ : RS} (hj : inj8 ad) {b : BS} (hI : InvC b) (hR : Rc σ b) (hO : Ro σ b) (hOi : InvO b) (x y : Int32) (hbad : ¬ (0 ≤ x.toInt ∧ x.toInt < 5 ∧ 0 ≤ y.toInt ∧ y.toInt < 5)) : vx_Met l yX0_told (ws_ yX0_told cX0_told 3 (some .int)) (rmk 8 1 6) (pcx G cA ad σ [.ref (ad 0), .int (x), .int (y)]) (va_Qi (fun (_ : Int32) (_ : RS) => False) (fun σ' t => va_P G vwCl (w0 ad cA σ') t.heap) (own8 ad)) (xcS G cA ad σ (fun E => (E = "java/lang/IndexOutOfBoundsException" ∧ (True)))) 1 6 (own8 ad) := by
  refine vx_ofW (cc := cX0_told) (maxL := 3) (ret := (some .int)) (by decide) rfl ?_
  intro p e s m args below meth c s₁ B hml htab hv
  obtain ⟨rfl, hP, hK, hE⟩ := hv
  have CF : CallFix p m c cX0_told 3 s _ AW RX0 := ⟨B.exec, B.bytes, hml, findClass_of_methodNamed B.named, fun w h => atoms_spec (ws := ws_ yX0_told cX0_told 3 (some .int)) B.pre w (List.mem_cons_of_mem _ h)⟩
  have hr := B.returns
  have hlocks := B.notSynchronized
  have hl := lv_entry ([.ref (ad 0), .int (x), .int (y)]) (n := 3) (Nat.le_of_ble_eq_true rfl)
  rw [lg_entry_eq]
  generalize (lg_sl ([.ref (ad 0), .int (x), .int (y)]) ++ List.replicate (3 - (lg_sl ([.ref (ad 0), .int (x), .int (y)])).length) Slot.unset).toArray = ls at hl ⊢
  have hl : lv_has ls 3 [(0, .ref (ad 0)), (1, .int (x)), (2, .int (y))] := hl
  obtain ⟨i_sp, i_cu, i_ra, i_di, i_mo, i_pu⟩ := id hI
  have hw10 := hOi.1
  refine lv_iload_n CF.1 CF.2.1 dX0_told_0 rfl (lv_at hl 1 rfl) ?_
  refine cS_i CF (As := [.int (x)]) (rest := []) (c0_isMoney l ((x))) lk_RX0_X0_isMoney rfl hl.1 ⟨Nat.le_of_ble_eq_true rfl, Nat.le_of_ble_eq_true rfl⟩ ⟨Nat.zero_le _, Nat.zero_le _⟩ (Nat.le_of_ble_eq_true rfl) rfl dX0_told_1 (fun r_1 hr_2 => ?_)
  rcases hr_2 with ⟨rfl, h_5, h_6⟩ | ⟨rfl, h_7⟩
  · rw [show (1 : Int32) = nI 1 by rfl]
    obtain ⟨j_3, h_4, rfl⟩ := nI_ex (x := x) (n := 5) (by omega) (by omega)
    have hzj_3 := nIz (n := j_3) (by omega)
    refine z_if_eq CF (tgt := 16) (nIz (by omega)) dX0_told_4 (by decide) (fun h => absurd h (by decide)) (fun _ => ?_)
    refine lv_iload_n CF.1 CF.2.1 dX0_told_7 rfl (lv_at hl 2 rfl) ?_
    refine z_if_lt CF (tgt := 16) rfl dX0_told_8 (by decide) (fun h_10 => ?_) (fun h_11 => ?_)
    · exact thr CF hfl hE hP hj (va_S.rf) htab hlocks hl.1 (cls := "java/lang/IndexOutOfBoundsException") (text := "no such money or nothing to tell") (by decide +kernel) (List.mem_of_getElem? (i := 0) rfl) (List.mem_of_getElem? (i := 12) rfl) (inr_2 _ (List.mem_of_getElem? (i := 19) rfl)) (inr_2 _ (List.mem_of_getElem? (i := 20) rfl)) ha_IO hb_IO hg_IO dX0_told_16 dX0_told_19 dX0_told_20 dX0_told_22 dX0_told_25 (Nat.le_of_ble_eq_true rfl) (Nat.le_of_ble_eq_true rfl) (Nat.le_of_ble_eq_true rfl) (Nat.le_of_ble_eq_true rfl) (⟨rfl, trivial⟩)
    · refine lv_iload_n CF.1 CF.2.1 dX0_told_11 rfl (lv_at hl 2 rfl) ?_
      refine lv_iconst (v := nI 5) CF.1 CF.2.1 dX0_told_12 (by decide) ?_
      refine z_icmp_lt CF (tgt := 26) rfl (nIz (by omega)) dX0_told_13 (by decide) (fun h_12 => ?_) (fun h_13 => ?_)
      · exact (show False by omega).elim
      · exact thr CF hfl hE hP hj (va_S.rf) htab hlocks hl.1 (cls := "java/lang/IndexOutOfBoundsException") (text := "no such money or nothing to tell") (by decide +kernel) (List.mem_of_getElem? (i := 0) rfl) (List.mem_of_getElem? (i := 12) rfl) (inr_2 _ (List.mem_of_getElem? (i := 19) rfl)) (inr_2 _ (List.mem_of_getElem? (i := 20) rfl)) ha_IO hb_IO hg_IO dX0_told_16 dX0_told_19 dX0_told_20 dX0_told_22 dX0_told_25 (Nat.le_of_ble_eq_true rfl) (Nat.le_of_ble_eq_true rfl) (Nat.le_of_ble_eq_true rfl) (Nat.le_of_ble_eq_true rfl) (⟨rfl, trivial⟩)
  · rw [show (0 : Int32) = nI 0 by rfl]
    refine z_if_eq CF (tgt := 16) (nIz (by omega)) dX0_told_4 (by decide) (fun _ => ?_) (fun h => absurd h (by decide))
    exact thr CF hfl hE hP hj (va_S.rf) htab hlocks hl.1 (cls := "java/lang/IndexOutOfBoundsException") (text := "no such money or nothing to tell") (by decide +kernel) (List.mem_of_getElem? (i := 0) rfl) (List.mem_of_getElem? (i := 12) rfl) (inr_2 _ (List.mem_of_getElem? (i := 19) rfl)) (inr_2 _ (List.mem_of_getElem? (i := 20) rfl)) ha_IO hb_IO hg_IO dX0_told_16 dX0_told_19 dX0_told_20 dX0_told_22 dX0_told_25 (Nat.le_of_ble_eq_true rfl) (Nat.le_of_ble_eq_true rfl) (Nat.le_of_ble_eq_true rfl) (Nat.le_of_ble_eq_true rfl) (⟨rfl, trivial⟩)
set_option maxHeartbeats 1000000 in
set_option maxRecDepth 100000 in
theorem c0_about (l : Launch) {G : va_G} {cA : ClassId} {ad : Nat → Nat} {σ : RS} {b : BS} (hI : InvC b) (hR : Rc σ b) (hO : Ro σ b) (hOi : InvO b) {q k : Nat} (hq : q < b 0 3) (hk : k < 5) : Met l yX0_about (ws_ yX0_about cX0_about 3 (some .int)) (rmk 8 0 0) (pc0 G cA ad σ [.ref (ad 0), .int (nI (q)), .int (nI (k))]) (rqi (fun r => r = nI (b 7 (q * 5 + k)))) 0 0 (fun _ => False) := by
  refine Met.ofW (cc := cX0_about) (maxL := 3) (ret := (some .int)) (by decide) rfl ?_
  intro p e s m args below meth c s₁ B hml hv
  obtain ⟨rfl, hP, hK⟩ := hv
  have CF : CallFix p m c cX0_about 3 s _ AW RX0 := ⟨B.exec, B.bytes, hml, findClass_of_methodNamed B.named, fun w h => atoms_spec (ws := ws_ yX0_about cX0_about 3 (some .int)) B.pre w (List.mem_cons_of_mem _ h)⟩
  have hr := B.returns
  have hlocks := B.notSynchronized
  have hl := lv_entry ([.ref (ad 0), .int (nI (q)), .int (nI (k))]) (n := 3) (Nat.le_of_ble_eq_true rfl)
  rw [lg_entry_eq]
  generalize (lg_sl ([.ref (ad 0), .int (nI (q)), .int (nI (k))]) ++ List.replicate (3 - (lg_sl ([.ref (ad 0), .int (nI (q)), .int (nI (k))])).length) Slot.unset).toArray = ls at hl ⊢
  have hl : lv_has ls 3 [(0, .ref (ad 0)), (1, .int (nI (q))), (2, .int (nI (k)))] := hl
  obtain ⟨i_sp, i_cu, i_ra, i_di, i_mo, i_pu⟩ := id hI
  have hw10 := hOi.1
  refine lv_aload_n CF.1 CF.2.1 dX0_about_0 rfl (lv_at hl 0 rfl) ?_
  refine lv_iload_n CF.1 CF.2.1 dX0_about_1 rfl (lv_at hl 1 rfl) ?_
  refine c0_i CF hK hP (As := [.int (nI (q))]) (rest := []) (c0_isPlace l hI hR hO hOi (nI (q))) rfl lk_RX0_X0_isPlace rfl hl.1 ⟨Nat.le_of_ble_eq_true rfl, Nat.le_of_ble_eq_true rfl⟩ ⟨Nat.zero_le _, Nat.zero_le _⟩ (Nat.le_of_ble_eq_true rfl) rfl dX0_about_2 (fun r_1 hr_2 => ?_)
  have hxh_3 := nIz (n := q) (by omega)
  rcases hr_2 with ⟨rfl, -, -⟩ | ⟨rfl, h9⟩
  rotate_left
  · exact absurd h9 (by rw [hxh_3]; omega)
  rw [show (1 : Int32) = nI 1 by rfl]
  refine z_if_eq CF (tgt := 17) (nIz (by omega)) dX0_about_5 (by decide) (fun h => absurd h (by decide)) (fun _ => ?_)
  refine lv_iload_n CF.1 CF.2.1 dX0_about_8 rfl (lv_at hl 2 rfl) ?_
  refine z_if_lt CF (tgt := 17) (nIz (by omega)) dX0_about_9 (by decide) (fun h_6 => absurd h_6 (by omega)) (fun h_7 => ?_)
  refine lv_iload_n CF.1 CF.2.1 dX0_about_12 rfl (lv_at hl 2 rfl) ?_
  refine lv_iconst (v := nI 5) CF.1 CF.2.1 dX0_about_13 (by decide) ?_
  refine z_icmp_lt CF (tgt := 27) (nIz (by omega)) (nIz (by omega)) dX0_about_14 (by decide) (fun h_8 => ?_) (fun h_9 => absurd h_9 (by omega))
  refine lv_aload_n CF.1 CF.2.1 dX0_about_27 rfl (lv_at hl 0 rfl) ?_
  refine lv_iload_n CF.1 CF.2.1 dX0_about_28 rfl (lv_at hl 1 rfl) ?_
  refine lv_iload_n CF.1 CF.2.1 dX0_about_29 rfl (lv_at hl 2 rfl) ?_
  refine c0_i CF hK hP (As := [.int (nI (q)), .int (nI (k))]) (rest := []) (c0_orderPart l (σ := σ) (u := q) (t := k) (by omega) (by omega)) rfl lk_RX0_X0_orderPart rfl hl.1 ⟨Nat.le_of_ble_eq_true rfl, Nat.le_of_ble_eq_true rfl⟩ ⟨Nat.zero_le _, Nat.zero_le _⟩ (Nat.le_of_ble_eq_true rfl) rfl dX0_about_30 (fun r_10 hr_11 => ?_)
  subst hr_11
  refine tpi (show σ 7 (q * 5 + k) = nI (b 7 (q * 5 + k)) from hO.2.2 (q * 5 + k) (by omega)) ?_
  exact W.iret CF.1 CF.2.1 hr (fun t9 ht9 hW9 => ⟨_, rfl, rfl, ht9⟩) (fun q hq => absurd hq List.not_mem_nil) dX0_about_33
set_option maxHeartbeats 1000000 in
set_option maxRecDepth 100000 in
theorem b0_about (l : Launch) (hfl : l.stackTraces = false) {G : va_G} {cA : ClassId} {ad : Nat → Nat} {σ : RS} (hj : inj8 ad) {b : BS} (hI : InvC b) (hR : Rc σ b) (hO : Ro σ b) (hOi : InvO b) (x y : Int32) (hbad : ¬ (0 ≤ x.toInt ∧ x.toInt < (b 0 3 : Nat) ∧ 0 ≤ y.toInt ∧ y.toInt < 5)) : vx_Met l yX0_about (ws_ yX0_about cX0_about 3 (some .int)) (rmk 8 1 6) (pcx G cA ad σ [.ref (ad 0), .int (x), .int (y)]) (va_Qi (fun (_ : Int32) (_ : RS) => False) (fun σ' t => va_P G vwCl (w0 ad cA σ') t.heap) (own8 ad)) (xcS G cA ad σ (fun E => (E = "java/lang/IndexOutOfBoundsException" ∧ (True)))) 1 6 (own8 ad) := by
  refine vx_ofW (cc := cX0_about) (maxL := 3) (ret := (some .int)) (by decide) rfl ?_
  intro p e s m args below meth c s₁ B hml htab hv
  obtain ⟨rfl, hP, hK, hE⟩ := hv
  have CF : CallFix p m c cX0_about 3 s _ AW RX0 := ⟨B.exec, B.bytes, hml, findClass_of_methodNamed B.named, fun w h => atoms_spec (ws := ws_ yX0_about cX0_about 3 (some .int)) B.pre w (List.mem_cons_of_mem _ h)⟩
  have hr := B.returns
  have hlocks := B.notSynchronized
  have hl := lv_entry ([.ref (ad 0), .int (x), .int (y)]) (n := 3) (Nat.le_of_ble_eq_true rfl)
  rw [lg_entry_eq]
  generalize (lg_sl ([.ref (ad 0), .int (x), .int (y)]) ++ List.replicate (3 - (lg_sl ([.ref (ad 0), .int (x), .int (y)])).length) Slot.unset).toArray = ls at hl ⊢
  have hl : lv_has ls 3 [(0, .ref (ad 0)), (1, .int (x)), (2, .int (y))] := hl
  obtain ⟨i_sp, i_cu, i_ra, i_di, i_mo, i_pu⟩ := id hI
  have hw10 := hOi.1
  refine lv_aload_n CF.1 CF.2.1 dX0_about_0 rfl (lv_at hl 0 rfl) ?_
  refine lv_iload_n CF.1 CF.2.1 dX0_about_1 rfl (lv_at hl 1 rfl) ?_
  refine c0_i CF hK hP (As := [.int (x)]) (rest := []) (c0_isPlace l hI hR hO hOi ((x))) rfl lk_RX0_X0_isPlace rfl hl.1 ⟨Nat.le_of_ble_eq_true rfl, Nat.le_of_ble_eq_true rfl⟩ ⟨Nat.zero_le _, Nat.zero_le _⟩ (Nat.le_of_ble_eq_true rfl) rfl dX0_about_2 (fun r_1 hr_2 => ?_)
  rcases hr_2 with ⟨rfl, h_5, h_6⟩ | ⟨rfl, h_7⟩
  · rw [show (1 : Int32) = nI 1 by rfl]
    obtain ⟨j_3, h_4, rfl⟩ := nI_ex (x := x) (n := b 0 3) (by omega) (by omega)
    have hzj_3 := nIz (n := j_3) (by omega)
    refine z_if_eq CF (tgt := 17) (nIz (by omega)) dX0_about_5 (by decide) (fun h => absurd h (by decide)) (fun _ => ?_)
    refine lv_iload_n CF.1 CF.2.1 dX0_about_8 rfl (lv_at hl 2 rfl) ?_
    refine z_if_lt CF (tgt := 17) rfl dX0_about_9 (by decide) (fun h_10 => ?_) (fun h_11 => ?_)
    · exact thr CF hfl hE hP hj (va_S.rf) htab hlocks hl.1 (cls := "java/lang/IndexOutOfBoundsException") (text := "no such place or nothing to tell") (by decide +kernel) (List.mem_of_getElem? (i := 0) rfl) (List.mem_of_getElem? (i := 13) rfl) (inr_2 _ (List.mem_of_getElem? (i := 19) rfl)) (inr_2 _ (List.mem_of_getElem? (i := 20) rfl)) ha_IO hb_IO hg_IO dX0_about_17 dX0_about_20 dX0_about_21 dX0_about_23 dX0_about_26 (Nat.le_of_ble_eq_true rfl) (Nat.le_of_ble_eq_true rfl) (Nat.le_of_ble_eq_true rfl) (Nat.le_of_ble_eq_true rfl) (⟨rfl, trivial⟩)
    · refine lv_iload_n CF.1 CF.2.1 dX0_about_12 rfl (lv_at hl 2 rfl) ?_
      refine lv_iconst (v := nI 5) CF.1 CF.2.1 dX0_about_13 (by decide) ?_
      refine z_icmp_lt CF (tgt := 27) rfl (nIz (by omega)) dX0_about_14 (by decide) (fun h_12 => ?_) (fun h_13 => ?_)
      · exact (show False by omega).elim
      · exact thr CF hfl hE hP hj (va_S.rf) htab hlocks hl.1 (cls := "java/lang/IndexOutOfBoundsException") (text := "no such place or nothing to tell") (by decide +kernel) (List.mem_of_getElem? (i := 0) rfl) (List.mem_of_getElem? (i := 13) rfl) (inr_2 _ (List.mem_of_getElem? (i := 19) rfl)) (inr_2 _ (List.mem_of_getElem? (i := 20) rfl)) ha_IO hb_IO hg_IO dX0_about_17 dX0_about_20 dX0_about_21 dX0_about_23 dX0_about_26 (Nat.le_of_ble_eq_true rfl) (Nat.le_of_ble_eq_true rfl) (Nat.le_of_ble_eq_true rfl) (Nat.le_of_ble_eq_true rfl) (⟨rfl, trivial⟩)
  · rw [show (0 : Int32) = nI 0 by rfl]
    refine z_if_eq CF (tgt := 17) (nIz (by omega)) dX0_about_5 (by decide) (fun _ => ?_) (fun h => absurd h (by decide))
    exact thr CF hfl hE hP hj (va_S.rf) htab hlocks hl.1 (cls := "java/lang/IndexOutOfBoundsException") (text := "no such place or nothing to tell") (by decide +kernel) (List.mem_of_getElem? (i := 0) rfl) (List.mem_of_getElem? (i := 13) rfl) (inr_2 _ (List.mem_of_getElem? (i := 19) rfl)) (inr_2 _ (List.mem_of_getElem? (i := 20) rfl)) ha_IO hb_IO hg_IO dX0_about_17 dX0_about_20 dX0_about_21 dX0_about_23 dX0_about_26 (Nat.le_of_ble_eq_true rfl) (Nat.le_of_ble_eq_true rfl) (Nat.le_of_ble_eq_true rfl) (Nat.le_of_ble_eq_true rfl) (⟨rfl, trivial⟩)
set_option maxHeartbeats 1000000 in
set_option maxRecDepth 100000 in
theorem c0_count (l : Launch) {G : va_G} {cA : ClassId} {ad : Nat → Nat} {σ : RS} {b : BS} (hI : InvC b) (hR : Rc σ b) (hO : Ro σ b) (hOi : InvO b) {w : Nat} (hw : w < 7) : Met l yX0_count (ws_ yX0_count cX0_count 2 (some .int)) (rmk 8 0 0) (pc0 G cA ad σ [.ref (ad 0), .int (nI (w))]) (rqi (fun r => r = nI (fbo b w))) 0 0 (fun _ => False) := by
  refine Met.ofW (cc := cX0_count) (maxL := 2) (ret := (some .int)) (by decide) rfl ?_
  intro p e s m args below meth c s₁ B hml hv
  obtain ⟨rfl, hP, hK⟩ := hv
  have CF : CallFix p m c cX0_count 2 s _ AW RX0 := ⟨B.exec, B.bytes, hml, findClass_of_methodNamed B.named, fun w h => atoms_spec (ws := ws_ yX0_count cX0_count 2 (some .int)) B.pre w (List.mem_cons_of_mem _ h)⟩
  have hr := B.returns
  have hlocks := B.notSynchronized
  have hl := lv_entry ([.ref (ad 0), .int (nI (w))]) (n := 2) (Nat.le_of_ble_eq_true rfl)
  rw [lg_entry_eq]
  generalize (lg_sl ([.ref (ad 0), .int (nI (w))]) ++ List.replicate (2 - (lg_sl ([.ref (ad 0), .int (nI (w))])).length) Slot.unset).toArray = ls at hl ⊢
  have hl : lv_has ls 2 [(0, .ref (ad 0)), (1, .int (nI (w)))] := hl
  obtain ⟨i_sp, i_cu, i_ra, i_di, i_mo, i_pu⟩ := id hI
  have hw10 := hOi.1
  refine lv_iload_n CF.1 CF.2.1 dX0_count_0 rfl (lv_at hl 1 rfl) ?_
  refine z_if_lt CF (tgt := 10) (nIz (by omega)) dX0_count_1 (by decide) (fun h_1 => absurd h_1 (by omega)) (fun h_2 => ?_)
  refine lv_iload_n CF.1 CF.2.1 dX0_count_4 rfl (lv_at hl 1 rfl) ?_
  refine lv_bipush (v := nI 7) CF.1 CF.2.1 dX0_count_5 (by decide) ?_
  refine z_icmp_lt CF (tgt := 20) (nIz (by omega)) (nIz (by omega)) dX0_count_7 (by decide) (fun h_3 => ?_) (fun h_4 => absurd h_4 (by omega))
  refine lv_aload_n CF.1 CF.2.1 dX0_count_20 rfl (lv_at hl 0 rfl) ?_
  refine lv_iload_n CF.1 CF.2.1 dX0_count_21 rfl (lv_at hl 1 rfl) ?_
  refine c0_i CF hK hP (As := [.int (nI (w))]) (rest := []) (c0_factOfBooth l hI hR hO (w := w) (by omega)) rfl lk_RX0_X0_factOfBooth rfl hl.1 ⟨Nat.le_of_ble_eq_true rfl, Nat.le_of_ble_eq_true rfl⟩ ⟨Nat.zero_le _, Nat.zero_le _⟩ (Nat.le_of_ble_eq_true rfl) rfl dX0_count_22 (fun r_5 hr_6 => ?_)
  subst hr_6
  exact W.iret CF.1 CF.2.1 hr (fun t9 ht9 hW9 => ⟨_, rfl, rfl, ht9⟩) (fun q hq => absurd hq List.not_mem_nil) dX0_count_25
set_option maxHeartbeats 1000000 in
set_option maxRecDepth 100000 in
theorem b0_count (l : Launch) (hfl : l.stackTraces = false) {G : va_G} {cA : ClassId} {ad : Nat → Nat} {σ : RS} (hj : inj8 ad) {b : BS} (hI : InvC b) (hR : Rc σ b) (hO : Ro σ b) (hOi : InvO b) (x : Int32) (hbad : ¬ (0 ≤ x.toInt ∧ x.toInt < 7)) : vx_Met l yX0_count (ws_ yX0_count cX0_count 2 (some .int)) (rmk 8 1 6) (pcx G cA ad σ [.ref (ad 0), .int (x)]) (va_Qi (fun (_ : Int32) (_ : RS) => False) (fun σ' t => va_P G vwCl (w0 ad cA σ') t.heap) (own8 ad)) (xcS G cA ad σ (fun E => (E = "java/lang/IndexOutOfBoundsException" ∧ (True)))) 1 6 (own8 ad) := by
  refine vx_ofW (cc := cX0_count) (maxL := 2) (ret := (some .int)) (by decide) rfl ?_
  intro p e s m args below meth c s₁ B hml htab hv
  obtain ⟨rfl, hP, hK, hE⟩ := hv
  have CF : CallFix p m c cX0_count 2 s _ AW RX0 := ⟨B.exec, B.bytes, hml, findClass_of_methodNamed B.named, fun w h => atoms_spec (ws := ws_ yX0_count cX0_count 2 (some .int)) B.pre w (List.mem_cons_of_mem _ h)⟩
  have hr := B.returns
  have hlocks := B.notSynchronized
  have hl := lv_entry ([.ref (ad 0), .int (x)]) (n := 2) (Nat.le_of_ble_eq_true rfl)
  rw [lg_entry_eq]
  generalize (lg_sl ([.ref (ad 0), .int (x)]) ++ List.replicate (2 - (lg_sl ([.ref (ad 0), .int (x)])).length) Slot.unset).toArray = ls at hl ⊢
  have hl : lv_has ls 2 [(0, .ref (ad 0)), (1, .int (x))] := hl
  obtain ⟨i_sp, i_cu, i_ra, i_di, i_mo, i_pu⟩ := id hI
  have hw10 := hOi.1
  refine lv_iload_n CF.1 CF.2.1 dX0_count_0 rfl (lv_at hl 1 rfl) ?_
  refine z_if_lt CF (tgt := 10) rfl dX0_count_1 (by decide) (fun h_1 => ?_) (fun h_2 => ?_)
  · exact thr CF hfl hE hP hj (va_S.rf) htab hlocks hl.1 (cls := "java/lang/IndexOutOfBoundsException") (text := "nothing to count") (by decide +kernel) (List.mem_of_getElem? (i := 0) rfl) (List.mem_of_getElem? (i := 14) rfl) (inr_2 _ (List.mem_of_getElem? (i := 19) rfl)) (inr_2 _ (List.mem_of_getElem? (i := 20) rfl)) ha_IO hb_IO hg_IO dX0_count_10 dX0_count_13 dX0_count_14 dX0_count_16 dX0_count_19 (Nat.le_of_ble_eq_true rfl) (Nat.le_of_ble_eq_true rfl) (Nat.le_of_ble_eq_true rfl) (Nat.le_of_ble_eq_true rfl) (⟨rfl, trivial⟩)
  · refine lv_iload_n CF.1 CF.2.1 dX0_count_4 rfl (lv_at hl 1 rfl) ?_
    refine lv_bipush (v := nI 7) CF.1 CF.2.1 dX0_count_5 (by decide) ?_
    refine z_icmp_lt CF (tgt := 20) rfl (nIz (by omega)) dX0_count_7 (by decide) (fun h_3 => ?_) (fun h_4 => ?_)
    · exact (show False by omega).elim
    · exact thr CF hfl hE hP hj (va_S.rf) htab hlocks hl.1 (cls := "java/lang/IndexOutOfBoundsException") (text := "nothing to count") (by decide +kernel) (List.mem_of_getElem? (i := 0) rfl) (List.mem_of_getElem? (i := 14) rfl) (inr_2 _ (List.mem_of_getElem? (i := 19) rfl)) (inr_2 _ (List.mem_of_getElem? (i := 20) rfl)) ha_IO hb_IO hg_IO dX0_count_10 dX0_count_13 dX0_count_14 dX0_count_16 dX0_count_19 (Nat.le_of_ble_eq_true rfl) (Nat.le_of_ble_eq_true rfl) (Nat.le_of_ble_eq_true rfl) (Nat.le_of_ble_eq_true rfl) (⟨rfl, trivial⟩)
set_option maxHeartbeats 1000000 in
set_option maxRecDepth 100000 in
theorem c0_would (l : Launch) {G : va_G} {cA : ClassId} {ad : Nat → Nat} {σ : RS} {b : BS} (hI : InvC b) (hR : Rc σ b) (hO : Ro σ b) (hOi : InvO b) {f t a : Nat} (hf : f < 5) (ht : t < 5) (ha : a ≤ 99999) : Met l yX0_would (ws_ yX0_would cX0_would 4 (some .int)) (rmk 8 0 0) (pc0 G cA ad σ [.ref (ad 0), .int (nI (f)), .int (nI (t)), .int (nI (a))]) (rqi (fun r => r = nI (if f = t then a else gv b f t a))) 0 0 (fun _ => False) := by
  refine Met.ofW (cc := cX0_would) (maxL := 4) (ret := (some .int)) (by decide) rfl ?_
  intro p e s m args below meth c s₁ B hml hv
  obtain ⟨rfl, hP, hK⟩ := hv
  have CF : CallFix p m c cX0_would 4 s _ AW RX0 := ⟨B.exec, B.bytes, hml, findClass_of_methodNamed B.named, fun w h => atoms_spec (ws := ws_ yX0_would cX0_would 4 (some .int)) B.pre w (List.mem_cons_of_mem _ h)⟩
  have hr := B.returns
  have hlocks := B.notSynchronized
  have hl := lv_entry ([.ref (ad 0), .int (nI (f)), .int (nI (t)), .int (nI (a))]) (n := 4) (Nat.le_of_ble_eq_true rfl)
  rw [lg_entry_eq]
  generalize (lg_sl ([.ref (ad 0), .int (nI (f)), .int (nI (t)), .int (nI (a))]) ++ List.replicate (4 - (lg_sl ([.ref (ad 0), .int (nI (f)), .int (nI (t)), .int (nI (a))])).length) Slot.unset).toArray = ls at hl ⊢
  have hl : lv_has ls 4 [(0, .ref (ad 0)), (1, .int (nI (f))), (2, .int (nI (t))), (3, .int (nI (a)))] := hl
  obtain ⟨i_sp, i_cu, i_ra, i_di, i_mo, i_pu⟩ := id hI
  have hw10 := hOi.1
  refine lv_iload_n CF.1 CF.2.1 dX0_would_0 rfl (lv_at hl 1 rfl) ?_
  refine cS_i CF (As := [.int (nI (f))]) (rest := []) (c0_isMoney l (nI (f))) lk_RX0_X0_isMoney rfl hl.1 ⟨Nat.le_of_ble_eq_true rfl, Nat.le_of_ble_eq_true rfl⟩ ⟨Nat.zero_le _, Nat.zero_le _⟩ (Nat.le_of_ble_eq_true rfl) rfl dX0_would_1 (fun r_1 hr_2 => ?_)
  have hxh_3 := nIz (n := f) (by omega)
  rcases hr_2 with ⟨rfl, -, -⟩ | ⟨rfl, h9⟩
  rotate_left
  · exact absurd h9 (by rw [hxh_3]; omega)
  rw [show (1 : Int32) = nI 1 by rfl]
  refine z_if_eq CF (tgt := 14) (nIz (by omega)) dX0_would_4 (by decide) (fun h => absurd h (by decide)) (fun _ => ?_)
  refine lv_iload_n CF.1 CF.2.1 dX0_would_7 rfl (lv_at hl 2 rfl) ?_
  refine cS_i CF (As := [.int (nI (t))]) (rest := []) (c0_isMoney l (nI (t))) lk_RX0_X0_isMoney rfl hl.1 ⟨Nat.le_of_ble_eq_true rfl, Nat.le_of_ble_eq_true rfl⟩ ⟨Nat.zero_le _, Nat.zero_le _⟩ (Nat.le_of_ble_eq_true rfl) rfl dX0_would_8 (fun r_6 hr_7 => ?_)
  have hxh_8 := nIz (n := t) (by omega)
  rcases hr_7 with ⟨rfl, -, -⟩ | ⟨rfl, h9⟩
  rotate_left
  · exact absurd h9 (by rw [hxh_8]; omega)
  rw [show (1 : Int32) = nI 1 by rfl]
  refine z_if_ne CF (tgt := 24) (nIz (by omega)) dX0_would_11 (by decide) (fun _ => ?_) (fun h => absurd h (by decide))
  refine lv_iload_n CF.1 CF.2.1 dX0_would_24 rfl (lv_at hl 3 rfl) ?_
  refine cS_i CF (As := [.int (nI (a))]) (rest := []) (c0_isAmountOrNone l (nI (a))) lk_RX0_X0_isAmountOrNone rfl hl.1 ⟨Nat.le_of_ble_eq_true rfl, Nat.le_of_ble_eq_true rfl⟩ ⟨Nat.zero_le _, Nat.zero_le _⟩ (Nat.le_of_ble_eq_true rfl) rfl dX0_would_25 (fun r_11 hr_12 => ?_)
  have hxh_13 := nIz (n := a) (by omega)
  rcases hr_12 with ⟨rfl, -, -⟩ | ⟨rfl, h9⟩
  rotate_left
  · exact absurd h9 (by rw [hxh_13]; omega)
  rw [show (1 : Int32) = nI 1 by rfl]
  refine z_if_ne CF (tgt := 41) (nIz (by omega)) dX0_would_28 (by decide) (fun _ => ?_) (fun h => absurd h (by decide))
  refine lv_iload_n CF.1 CF.2.1 dX0_would_41 rfl (lv_at hl 1 rfl) ?_
  refine lv_iload_n CF.1 CF.2.1 dX0_would_42 rfl (lv_at hl 2 rfl) ?_
  refine z_icmp_ne CF (tgt := 48) (nIz (by omega)) (nIz (by omega)) dX0_would_43 (by decide) (fun h_16 => ?_) (fun h_17 => ?_)
  · refine lv_aload_n CF.1 CF.2.1 dX0_would_48 rfl (lv_at hl 0 rfl) ?_
    refine lv_iload_n CF.1 CF.2.1 dX0_would_49 rfl (lv_at hl 1 rfl) ?_
    refine lv_iload_n CF.1 CF.2.1 dX0_would_50 rfl (lv_at hl 2 rfl) ?_
    refine lv_iload_n CF.1 CF.2.1 dX0_would_51 rfl (lv_at hl 3 rfl) ?_
    refine o_i2l CF (by omega) dX0_would_52 ?_
    refine c0_l CF hK hP (As := [.int (nI (f)), .int (nI (t)), .long (lN (a))]) (rest := []) (c0_tenthousandths l hI hR (f := f) (t := t) (by omega) (by omega) (lN (a))) rfl lk_RX0_X0_tenthousandths rfl hl.1 ⟨Nat.le_of_ble_eq_true rfl, Nat.le_of_ble_eq_true rfl⟩ ⟨Nat.zero_le _, Nat.zero_le _⟩ (Nat.le_of_ble_eq_true rfl) rfl dX0_would_53 (fun r_18 hr_19 => ?_)
    subst hr_19
    refine tpl (show lN (a) * lN (b 1 (f * 5 + t)) * lN (100 - b 0 1) = lN (pr b (f) (t) (a)) from by rw [lN_mul, lN_mul]; rfl) ?_
    have hp_20 := pr_le hI (f := f) (t := t) (a := a) (A := 2147483647) (by omega) (by omega) (by omega)
    refine cS_l CF (As := [.long (lN (pr b (f) (t) (a)))]) (rest := []) (c0_wholeOnes l (lN (pr b (f) (t) (a)))) lk_RX0_X0_wholeOnes rfl hl.1 ⟨Nat.le_of_ble_eq_true rfl, Nat.le_of_ble_eq_true rfl⟩ ⟨Nat.zero_le _, Nat.zero_le _⟩ (Nat.le_of_ble_eq_true rfl) rfl dX0_would_56 (fun r_21 hr_22 => ?_)
    subst hr_22
    refine tpl (y := lN (gv b (f) (t) (a))) (pk_lDiv (a := pr b (f) (t) (a)) (b := 10000) (by omega) (by omega) (by omega)) ?_
    have hg_23 : gv b (f) (t) (a) = pr b (f) (t) (a) / 10000 := rfl
    refine o_l2i CF dX0_would_59 ?_
    exact W.iret CF.1 CF.2.1 hr (fun t9 ht9 hW9 => ⟨_, rfl, by rw [if_neg (by omega)], ht9⟩) (fun q hq => absurd hq List.not_mem_nil) dX0_would_60
  · refine lv_iload_n CF.1 CF.2.1 dX0_would_46 rfl (lv_at hl 3 rfl) ?_
    exact W.iret CF.1 CF.2.1 hr (fun t9 ht9 hW9 => ⟨_, rfl, by rw [if_pos (by omega)], ht9⟩) (fun q hq => absurd hq List.not_mem_nil) dX0_would_47
set_option maxHeartbeats 1000000 in
set_option maxRecDepth 100000 in
theorem b0_would (l : Launch) (hfl : l.stackTraces = false) {G : va_G} {cA : ClassId} {ad : Nat → Nat} {σ : RS} (hj : inj8 ad) {b : BS} (hI : InvC b) (hR : Rc σ b) (hO : Ro σ b) (hOi : InvO b) (x y z : Int32) (hbad : ¬ (0 ≤ x.toInt ∧ x.toInt < 5 ∧ 0 ≤ y.toInt ∧ y.toInt < 5 ∧ 0 ≤ z.toInt ∧ z.toInt ≤ 99999)) : vx_Met l yX0_would (ws_ yX0_would cX0_would 4 (some .int)) (rmk 8 1 6) (pcx G cA ad σ [.ref (ad 0), .int (x), .int (y), .int (z)]) (va_Qi (fun (_ : Int32) (_ : RS) => False) (fun σ' t => va_P G vwCl (w0 ad cA σ') t.heap) (own8 ad)) (xcS G cA ad σ (fun E => (E = "java/lang/IndexOutOfBoundsException" ∧ (¬ (0 ≤ x.toInt ∧ x.toInt < 5 ∧ 0 ≤ y.toInt ∧ y.toInt < 5))) ∨ (E = "java/lang/IllegalArgumentException" ∧ (0 ≤ x.toInt ∧ x.toInt < 5 ∧ 0 ≤ y.toInt ∧ y.toInt < 5)))) 1 6 (own8 ad) := by
  refine vx_ofW (cc := cX0_would) (maxL := 4) (ret := (some .int)) (by decide) rfl ?_
  intro p e s m args below meth c s₁ B hml htab hv
  obtain ⟨rfl, hP, hK, hE⟩ := hv
  have CF : CallFix p m c cX0_would 4 s _ AW RX0 := ⟨B.exec, B.bytes, hml, findClass_of_methodNamed B.named, fun w h => atoms_spec (ws := ws_ yX0_would cX0_would 4 (some .int)) B.pre w (List.mem_cons_of_mem _ h)⟩
  have hr := B.returns
  have hlocks := B.notSynchronized
  have hl := lv_entry ([.ref (ad 0), .int (x), .int (y), .int (z)]) (n := 4) (Nat.le_of_ble_eq_true rfl)
  rw [lg_entry_eq]
  generalize (lg_sl ([.ref (ad 0), .int (x), .int (y), .int (z)]) ++ List.replicate (4 - (lg_sl ([.ref (ad 0), .int (x), .int (y), .int (z)])).length) Slot.unset).toArray = ls at hl ⊢
  have hl : lv_has ls 4 [(0, .ref (ad 0)), (1, .int (x)), (2, .int (y)), (3, .int (z))] := hl
  obtain ⟨i_sp, i_cu, i_ra, i_di, i_mo, i_pu⟩ := id hI
  have hw10 := hOi.1
  refine lv_iload_n CF.1 CF.2.1 dX0_would_0 rfl (lv_at hl 1 rfl) ?_
  refine cS_i CF (As := [.int (x)]) (rest := []) (c0_isMoney l ((x))) lk_RX0_X0_isMoney rfl hl.1 ⟨Nat.le_of_ble_eq_true rfl, Nat.le_of_ble_eq_true rfl⟩ ⟨Nat.zero_le _, Nat.zero_le _⟩ (Nat.le_of_ble_eq_true rfl) rfl dX0_would_1 (fun r_1 hr_2 => ?_)
  rcases hr_2 with ⟨rfl, h_5, h_6⟩ | ⟨rfl, h_7⟩
  · rw [show (1 : Int32) = nI 1 by rfl]
    obtain ⟨j_3, h_4, rfl⟩ := nI_ex (x := x) (n := 5) (by omega) (by omega)
    have hzj_3 := nIz (n := j_3) (by omega)
    refine z_if_eq CF (tgt := 14) (nIz (by omega)) dX0_would_4 (by decide) (fun h => absurd h (by decide)) (fun _ => ?_)
    refine lv_iload_n CF.1 CF.2.1 dX0_would_7 rfl (lv_at hl 2 rfl) ?_
    refine cS_i CF (As := [.int (y)]) (rest := []) (c0_isMoney l ((y))) lk_RX0_X0_isMoney rfl hl.1 ⟨Nat.le_of_ble_eq_true rfl, Nat.le_of_ble_eq_true rfl⟩ ⟨Nat.zero_le _, Nat.zero_le _⟩ (Nat.le_of_ble_eq_true rfl) rfl dX0_would_8 (fun r_10 hr_11 => ?_)
    rcases hr_11 with ⟨rfl, h_14, h_15⟩ | ⟨rfl, h_16⟩
    · rw [show (1 : Int32) = nI 1 by rfl]
      obtain ⟨j_12, h_13, rfl⟩ := nI_ex (x := y) (n := 5) (by omega) (by omega)
      have hzj_12 := nIz (n := j_12) (by omega)
      refine z_if_ne CF (tgt := 24) (nIz (by omega)) dX0_would_11 (by decide) (fun _ => ?_) (fun h => absurd h (by decide))
      refine lv_iload_n CF.1 CF.2.1 dX0_would_24 rfl (lv_at hl 3 rfl) ?_
      refine cS_i CF (As := [.int (z)]) (rest := []) (c0_isAmountOrNone l ((z))) lk_RX0_X0_isAmountOrNone rfl hl.1 ⟨Nat.le_of_ble_eq_true rfl, Nat.le_of_ble_eq_true rfl⟩ ⟨Nat.zero_le _, Nat.zero_le _⟩ (Nat.le_of_ble_eq_true rfl) rfl dX0_would_25 (fun r_19 hr_20 => ?_)
      rcases hr_20 with ⟨rfl, h_23, h_24⟩ | ⟨rfl, h_25⟩
      · rw [show (1 : Int32) = nI 1 by rfl]
        obtain ⟨j_21, h_22, rfl⟩ := nI_ex (x := z) (n := 100000) (by omega) (by omega)
        have hzj_21 := nIz (n := j_21) (by omega)
        refine z_if_ne CF (tgt := 41) (nIz (by omega)) dX0_would_28 (by decide) (fun _ => ?_) (fun h => absurd h (by decide))
        exact (show False by omega).elim
      · rw [show (0 : Int32) = nI 0 by rfl]
        refine z_if_ne CF (tgt := 41) (nIz (by omega)) dX0_would_28 (by decide) (fun h => absurd h (by decide)) (fun _ => ?_)
        exact thr CF hfl hE hP hj (va_S.rf) htab hlocks hl.1 (cls := "java/lang/IllegalArgumentException") (text := "the amount is not 0 to 99999") (by decide +kernel) (List.mem_of_getElem? (i := 1) rfl) (List.mem_of_getElem? (i := 15) rfl) (inr_2 _ (List.mem_of_getElem? (i := 21) rfl)) (inr_2 _ (List.mem_of_getElem? (i := 22) rfl)) ha_IA hb_IA hg_IA dX0_would_31 dX0_would_34 dX0_would_35 dX0_would_37 dX0_would_40 (Nat.le_of_ble_eq_true rfl) (Nat.le_of_ble_eq_true rfl) (Nat.le_of_ble_eq_true rfl) (Nat.le_of_ble_eq_true rfl) (Or.inr (⟨rfl, by omega⟩))
    · rw [show (0 : Int32) = nI 0 by rfl]
      refine z_if_ne CF (tgt := 24) (nIz (by omega)) dX0_would_11 (by decide) (fun h => absurd h (by decide)) (fun _ => ?_)
      exact thr CF hfl hE hP hj (va_S.rf) htab hlocks hl.1 (cls := "java/lang/IndexOutOfBoundsException") (text := "no such money") (by decide +kernel) (List.mem_of_getElem? (i := 0) rfl) (List.mem_of_getElem? (i := 0) rfl) (inr_2 _ (List.mem_of_getElem? (i := 19) rfl)) (inr_2 _ (List.mem_of_getElem? (i := 20) rfl)) ha_IO hb_IO hg_IO dX0_would_14 dX0_would_17 dX0_would_18 dX0_would_20 dX0_would_23 (Nat.le_of_ble_eq_true rfl) (Nat.le_of_ble_eq_true rfl) (Nat.le_of_ble_eq_true rfl) (Nat.le_of_ble_eq_true rfl) (Or.inl ⟨rfl, by omega⟩)
  · rw [show (0 : Int32) = nI 0 by rfl]
    refine z_if_eq CF (tgt := 14) (nIz (by omega)) dX0_would_4 (by decide) (fun _ => ?_) (fun h => absurd h (by decide))
    exact thr CF hfl hE hP hj (va_S.rf) htab hlocks hl.1 (cls := "java/lang/IndexOutOfBoundsException") (text := "no such money") (by decide +kernel) (List.mem_of_getElem? (i := 0) rfl) (List.mem_of_getElem? (i := 0) rfl) (inr_2 _ (List.mem_of_getElem? (i := 19) rfl)) (inr_2 _ (List.mem_of_getElem? (i := 20) rfl)) ha_IO hb_IO hg_IO dX0_would_14 dX0_would_17 dX0_would_18 dX0_would_20 dX0_would_23 (Nat.le_of_ble_eq_true rfl) (Nat.le_of_ble_eq_true rfl) (Nat.le_of_ble_eq_true rfl) (Nat.le_of_ble_eq_true rfl) (Or.inl ⟨rfl, by omega⟩)
set_option maxHeartbeats 1000000 in
set_option maxRecDepth 100000 in
theorem c0_way (l : Launch) {G : va_G} {cA : ClassId} {ad : Nat → Nat} {σ : RS} {b : BS} (hI : InvC b) (hR : Rc σ b) (hO : Ro σ b) (hOi : InvO b) {f t a : Nat} (hf : f < 5) (ht : t < 5) (hne : f ≠ t) (ha : a ≤ 99999) : Met l yX0_way (ws_ yX0_way cX0_way 4 (some .int)) (rmk 20 0 0) (pc0 G cA ad σ [.ref (ad 0), .int (nI (f)), .int (nI (t)), .int (nI (a))]) (rqi (fun r => r = nI (mag b t 4 f a (2 ^ f ||| 2 ^ t)))) 0 0 (fun _ => False) := by
  refine Met.ofW (cc := cX0_way) (maxL := 4) (ret := (some .int)) (by decide) rfl ?_
  intro p e s m args below meth c s₁ B hml hv
  obtain ⟨rfl, hP, hK⟩ := hv
  have CF : CallFix p m c cX0_way 4 s _ AW RX0 := ⟨B.exec, B.bytes, hml, findClass_of_methodNamed B.named, fun w h => atoms_spec (ws := ws_ yX0_way cX0_way 4 (some .int)) B.pre w (List.mem_cons_of_mem _ h)⟩
  have hr := B.returns
  have hlocks := B.notSynchronized
  have hl := lv_entry ([.ref (ad 0), .int (nI (f)), .int (nI (t)), .int (nI (a))]) (n := 4) (Nat.le_of_ble_eq_true rfl)
  rw [lg_entry_eq]
  generalize (lg_sl ([.ref (ad 0), .int (nI (f)), .int (nI (t)), .int (nI (a))]) ++ List.replicate (4 - (lg_sl ([.ref (ad 0), .int (nI (f)), .int (nI (t)), .int (nI (a))])).length) Slot.unset).toArray = ls at hl ⊢
  have hl : lv_has ls 4 [(0, .ref (ad 0)), (1, .int (nI (f))), (2, .int (nI (t))), (3, .int (nI (a)))] := hl
  obtain ⟨i_sp, i_cu, i_ra, i_di, i_mo, i_pu⟩ := id hI
  have hw10 := hOi.1
  have hv32 : 2 ^ f ||| 2 ^ t < 32 := or_lt (Nat.lt_of_lt_of_le (Nat.pow_lt_pow_right (show 1 < 2 by omega) hf) (by decide)) ht
  refine lv_iload_n CF.1 CF.2.1 dX0_way_0 rfl (lv_at hl 1 rfl) ?_
  refine cS_i CF (As := [.int (nI (f))]) (rest := []) (c0_isMoney l (nI (f))) lk_RX0_X0_isMoney rfl hl.1 ⟨Nat.le_of_ble_eq_true rfl, Nat.le_of_ble_eq_true rfl⟩ ⟨Nat.zero_le _, Nat.zero_le _⟩ (Nat.le_of_ble_eq_true rfl) rfl dX0_way_1 (fun r_1 hr_2 => ?_)
  have hxh_3 := nIz (n := f) (by omega)
  rcases hr_2 with ⟨rfl, -, -⟩ | ⟨rfl, h9⟩
  rotate_left
  · exact absurd h9 (by rw [hxh_3]; omega)
  rw [show (1 : Int32) = nI 1 by rfl]
  refine z_if_eq CF (tgt := 14) (nIz (by omega)) dX0_way_4 (by decide) (fun h => absurd h (by decide)) (fun _ => ?_)
  refine lv_iload_n CF.1 CF.2.1 dX0_way_7 rfl (lv_at hl 2 rfl) ?_
  refine cS_i CF (As := [.int (nI (t))]) (rest := []) (c0_isMoney l (nI (t))) lk_RX0_X0_isMoney rfl hl.1 ⟨Nat.le_of_ble_eq_true rfl, Nat.le_of_ble_eq_true rfl⟩ ⟨Nat.zero_le _, Nat.zero_le _⟩ (Nat.le_of_ble_eq_true rfl) rfl dX0_way_8 (fun r_6 hr_7 => ?_)
  have hxh_8 := nIz (n := t) (by omega)
  rcases hr_7 with ⟨rfl, -, -⟩ | ⟨rfl, h9⟩
  rotate_left
  · exact absurd h9 (by rw [hxh_8]; omega)
  rw [show (1 : Int32) = nI 1 by rfl]
  refine z_if_ne CF (tgt := 24) (nIz (by omega)) dX0_way_11 (by decide) (fun _ => ?_) (fun h => absurd h (by decide))
  refine lv_iload_n CF.1 CF.2.1 dX0_way_24 rfl (lv_at hl 1 rfl) ?_
  refine lv_iload_n CF.1 CF.2.1 dX0_way_25 rfl (lv_at hl 2 rfl) ?_
  refine z_icmp_eq CF (tgt := 36) (nIz (by omega)) (nIz (by omega)) dX0_way_26 (by decide) (fun h_11 => absurd h_11 (by omega)) (fun h_12 => ?_)
  refine lv_iload_n CF.1 CF.2.1 dX0_way_29 rfl (lv_at hl 3 rfl) ?_
  refine cS_i CF (As := [.int (nI (a))]) (rest := []) (c0_isAmountOrNone l (nI (a))) lk_RX0_X0_isAmountOrNone rfl hl.1 ⟨Nat.le_of_ble_eq_true rfl, Nat.le_of_ble_eq_true rfl⟩ ⟨Nat.zero_le _, Nat.zero_le _⟩ (Nat.le_of_ble_eq_true rfl) rfl dX0_way_30 (fun r_13 hr_14 => ?_)
  have hxh_15 := nIz (n := a) (by omega)
  rcases hr_14 with ⟨rfl, -, -⟩ | ⟨rfl, h9⟩
  rotate_left
  · exact absurd h9 (by rw [hxh_15]; omega)
  rw [show (1 : Int32) = nI 1 by rfl]
  refine z_if_ne CF (tgt := 46) (nIz (by omega)) dX0_way_33 (by decide) (fun _ => ?_) (fun h => absurd h (by decide))
  refine lv_aload_n CF.1 CF.2.1 dX0_way_46 rfl (lv_at hl 0 rfl) ?_
  refine lv_iload_n CF.1 CF.2.1 dX0_way_47 rfl (lv_at hl 1 rfl) ?_
  refine lv_iload_n CF.1 CF.2.1 dX0_way_48 rfl (lv_at hl 2 rfl) ?_
  refine lv_iload_n CF.1 CF.2.1 dX0_way_49 rfl (lv_at hl 3 rfl) ?_
  refine o_i2l CF (by omega) dX0_way_50 ?_
  refine lv_iload_n CF.1 CF.2.1 dX0_way_51 rfl (lv_at hl 1 rfl) ?_
  refine cS_i CF (As := [.int (nI (f))]) (rest := [.long (lN (a)), .int (nI (t)), .int (nI (f)), .ref (ad 0)]) (c0_bit l (j := f) (by omega)) lk_RX0_X0_bit rfl hl.1 ⟨Nat.le_of_ble_eq_true rfl, Nat.le_of_ble_eq_true rfl⟩ ⟨Nat.zero_le _, Nat.zero_le _⟩ (Nat.le_of_ble_eq_true rfl) rfl dX0_way_52 (fun r_18 hr_19 => ?_)
  subst hr_19
  refine lv_iload_n CF.1 CF.2.1 dX0_way_55 rfl (lv_at hl 2 rfl) ?_
  refine cS_i CF (As := [.int (nI (t))]) (rest := [.int (nI (2 ^ (f))), .long (lN (a)), .int (nI (t)), .int (nI (f)), .ref (ad 0)]) (c0_bit l (j := t) (by omega)) lk_RX0_X0_bit rfl hl.1 ⟨Nat.le_of_ble_eq_true rfl, Nat.le_of_ble_eq_true rfl⟩ ⟨Nat.zero_le _, Nat.zero_le _⟩ (Nat.le_of_ble_eq_true rfl) rfl dX0_way_56 (fun r_20 hr_21 => ?_)
  subst hr_21
  refine lv_ior CF.1 CF.2.1 dX0_way_59 ?_
  refine tpi (orI _ _) ?_
  refine lv_iconst (v := nI 4) CF.1 CF.2.1 dX0_way_60 (by decide) ?_
  refine c0_l CF hK hP (As := [.int (nI (f)), .int (nI (t)), .long (lN (a)), .int (nI ((2 ^ (f)) ||| (2 ^ (t)))), .int (nI (4))]) (rest := []) (c0_mostAtGoal l hI hR 4 (by omega) (f) (t) (a) ((2 ^ (f)) ||| (2 ^ (t))) (by omega) (by omega) (by omega) hv32) rfl lk_RX0_X0_mostAtGoal rfl hl.1 ⟨Nat.le_of_ble_eq_true rfl, Nat.le_of_ble_eq_true rfl⟩ ⟨Nat.zero_le _, Nat.zero_le _⟩ (Nat.le_of_ble_eq_true rfl) rfl dX0_way_61 (fun r_22 hr_23 => ?_)
  subst hr_23
  have h_mg := mag_le (b := b) (goal := t) 4 (f) (a) ((2 ^ (f)) ||| (2 ^ (t)))
  refine o_l2i CF dX0_way_64 ?_
  exact W.iret CF.1 CF.2.1 hr (fun t9 ht9 hW9 => ⟨_, rfl, rfl, ht9⟩) (fun q hq => absurd hq List.not_mem_nil) dX0_way_65
set_option maxHeartbeats 1000000 in
set_option maxRecDepth 100000 in
theorem b0_way (l : Launch) (hfl : l.stackTraces = false) {G : va_G} {cA : ClassId} {ad : Nat → Nat} {σ : RS} (hj : inj8 ad) {b : BS} (hI : InvC b) (hR : Rc σ b) (hO : Ro σ b) (hOi : InvO b) (x y z : Int32) (hbad : ¬ (0 ≤ x.toInt ∧ x.toInt < 5 ∧ 0 ≤ y.toInt ∧ y.toInt < 5 ∧ x.toInt ≠ y.toInt ∧ 0 ≤ z.toInt ∧ z.toInt ≤ 99999)) : vx_Met l yX0_way (ws_ yX0_way cX0_way 4 (some .int)) (rmk 8 1 6) (pcx G cA ad σ [.ref (ad 0), .int (x), .int (y), .int (z)]) (va_Qi (fun (_ : Int32) (_ : RS) => False) (fun σ' t => va_P G vwCl (w0 ad cA σ') t.heap) (own8 ad)) (xcS G cA ad σ (fun E => (E = "java/lang/IndexOutOfBoundsException" ∧ (¬ (0 ≤ x.toInt ∧ x.toInt < 5 ∧ 0 ≤ y.toInt ∧ y.toInt < 5))) ∨ (E = "java/lang/IllegalArgumentException" ∧ (0 ≤ x.toInt ∧ x.toInt < 5 ∧ 0 ≤ y.toInt ∧ y.toInt < 5)))) 1 6 (own8 ad) := by
  refine vx_ofW (cc := cX0_way) (maxL := 4) (ret := (some .int)) (by decide) rfl ?_
  intro p e s m args below meth c s₁ B hml htab hv
  obtain ⟨rfl, hP, hK, hE⟩ := hv
  have CF : CallFix p m c cX0_way 4 s _ AW RX0 := ⟨B.exec, B.bytes, hml, findClass_of_methodNamed B.named, fun w h => atoms_spec (ws := ws_ yX0_way cX0_way 4 (some .int)) B.pre w (List.mem_cons_of_mem _ h)⟩
  have hr := B.returns
  have hlocks := B.notSynchronized
  have hl := lv_entry ([.ref (ad 0), .int (x), .int (y), .int (z)]) (n := 4) (Nat.le_of_ble_eq_true rfl)
  rw [lg_entry_eq]
  generalize (lg_sl ([.ref (ad 0), .int (x), .int (y), .int (z)]) ++ List.replicate (4 - (lg_sl ([.ref (ad 0), .int (x), .int (y), .int (z)])).length) Slot.unset).toArray = ls at hl ⊢
  have hl : lv_has ls 4 [(0, .ref (ad 0)), (1, .int (x)), (2, .int (y)), (3, .int (z))] := hl
  obtain ⟨i_sp, i_cu, i_ra, i_di, i_mo, i_pu⟩ := id hI
  have hw10 := hOi.1
  refine lv_iload_n CF.1 CF.2.1 dX0_way_0 rfl (lv_at hl 1 rfl) ?_
  refine cS_i CF (As := [.int (x)]) (rest := []) (c0_isMoney l ((x))) lk_RX0_X0_isMoney rfl hl.1 ⟨Nat.le_of_ble_eq_true rfl, Nat.le_of_ble_eq_true rfl⟩ ⟨Nat.zero_le _, Nat.zero_le _⟩ (Nat.le_of_ble_eq_true rfl) rfl dX0_way_1 (fun r_1 hr_2 => ?_)
  rcases hr_2 with ⟨rfl, h_5, h_6⟩ | ⟨rfl, h_7⟩
  · rw [show (1 : Int32) = nI 1 by rfl]
    obtain ⟨j_3, h_4, rfl⟩ := nI_ex (x := x) (n := 5) (by omega) (by omega)
    have hzj_3 := nIz (n := j_3) (by omega)
    refine z_if_eq CF (tgt := 14) (nIz (by omega)) dX0_way_4 (by decide) (fun h => absurd h (by decide)) (fun _ => ?_)
    refine lv_iload_n CF.1 CF.2.1 dX0_way_7 rfl (lv_at hl 2 rfl) ?_
    refine cS_i CF (As := [.int (y)]) (rest := []) (c0_isMoney l ((y))) lk_RX0_X0_isMoney rfl hl.1 ⟨Nat.le_of_ble_eq_true rfl, Nat.le_of_ble_eq_true rfl⟩ ⟨Nat.zero_le _, Nat.zero_le _⟩ (Nat.le_of_ble_eq_true rfl) rfl dX0_way_8 (fun r_10 hr_11 => ?_)
    rcases hr_11 with ⟨rfl, h_14, h_15⟩ | ⟨rfl, h_16⟩
    · rw [show (1 : Int32) = nI 1 by rfl]
      obtain ⟨j_12, h_13, rfl⟩ := nI_ex (x := y) (n := 5) (by omega) (by omega)
      have hzj_12 := nIz (n := j_12) (by omega)
      refine z_if_ne CF (tgt := 24) (nIz (by omega)) dX0_way_11 (by decide) (fun _ => ?_) (fun h => absurd h (by decide))
      refine lv_iload_n CF.1 CF.2.1 dX0_way_24 rfl (lv_at hl 1 rfl) ?_
      refine lv_iload_n CF.1 CF.2.1 dX0_way_25 rfl (lv_at hl 2 rfl) ?_
      refine z_icmp_eq CF (tgt := 36) (nIz (by omega)) (nIz (by omega)) dX0_way_26 (by decide) (fun h_19 => ?_) (fun h_20 => ?_)
      · exact thr CF hfl hE hP hj (va_S.rf) htab hlocks hl.1 (cls := "java/lang/IllegalArgumentException") (text := "the moneys are the same or the amount is not 0 to 99999") (by decide +kernel) (List.mem_of_getElem? (i := 1) rfl) (List.mem_of_getElem? (i := 16) rfl) (inr_2 _ (List.mem_of_getElem? (i := 21) rfl)) (inr_2 _ (List.mem_of_getElem? (i := 22) rfl)) ha_IA hb_IA hg_IA dX0_way_36 dX0_way_39 dX0_way_40 dX0_way_42 dX0_way_45 (Nat.le_of_ble_eq_true rfl) (Nat.le_of_ble_eq_true rfl) (Nat.le_of_ble_eq_true rfl) (Nat.le_of_ble_eq_true rfl) (Or.inr (⟨rfl, by omega⟩))
      · refine lv_iload_n CF.1 CF.2.1 dX0_way_29 rfl (lv_at hl 3 rfl) ?_
        refine cS_i CF (As := [.int (z)]) (rest := []) (c0_isAmountOrNone l ((z))) lk_RX0_X0_isAmountOrNone rfl hl.1 ⟨Nat.le_of_ble_eq_true rfl, Nat.le_of_ble_eq_true rfl⟩ ⟨Nat.zero_le _, Nat.zero_le _⟩ (Nat.le_of_ble_eq_true rfl) rfl dX0_way_30 (fun r_21 hr_22 => ?_)
        rcases hr_22 with ⟨rfl, h_25, h_26⟩ | ⟨rfl, h_27⟩
        · rw [show (1 : Int32) = nI 1 by rfl]
          obtain ⟨j_23, h_24, rfl⟩ := nI_ex (x := z) (n := 100000) (by omega) (by omega)
          have hzj_23 := nIz (n := j_23) (by omega)
          refine z_if_ne CF (tgt := 46) (nIz (by omega)) dX0_way_33 (by decide) (fun _ => ?_) (fun h => absurd h (by decide))
          exact (show False by omega).elim
        · rw [show (0 : Int32) = nI 0 by rfl]
          refine z_if_ne CF (tgt := 46) (nIz (by omega)) dX0_way_33 (by decide) (fun h => absurd h (by decide)) (fun _ => ?_)
          exact thr CF hfl hE hP hj (va_S.rf) htab hlocks hl.1 (cls := "java/lang/IllegalArgumentException") (text := "the moneys are the same or the amount is not 0 to 99999") (by decide +kernel) (List.mem_of_getElem? (i := 1) rfl) (List.mem_of_getElem? (i := 16) rfl) (inr_2 _ (List.mem_of_getElem? (i := 21) rfl)) (inr_2 _ (List.mem_of_getElem? (i := 22) rfl)) ha_IA hb_IA hg_IA dX0_way_36 dX0_way_39 dX0_way_40 dX0_way_42 dX0_way_45 (Nat.le_of_ble_eq_true rfl) (Nat.le_of_ble_eq_true rfl) (Nat.le_of_ble_eq_true rfl) (Nat.le_of_ble_eq_true rfl) (Or.inr (⟨rfl, by omega⟩))
    · rw [show (0 : Int32) = nI 0 by rfl]
      refine z_if_ne CF (tgt := 24) (nIz (by omega)) dX0_way_11 (by decide) (fun h => absurd h (by decide)) (fun _ => ?_)
      exact thr CF hfl hE hP hj (va_S.rf) htab hlocks hl.1 (cls := "java/lang/IndexOutOfBoundsException") (text := "no such money") (by decide +kernel) (List.mem_of_getElem? (i := 0) rfl) (List.mem_of_getElem? (i := 0) rfl) (inr_2 _ (List.mem_of_getElem? (i := 19) rfl)) (inr_2 _ (List.mem_of_getElem? (i := 20) rfl)) ha_IO hb_IO hg_IO dX0_way_14 dX0_way_17 dX0_way_18 dX0_way_20 dX0_way_23 (Nat.le_of_ble_eq_true rfl) (Nat.le_of_ble_eq_true rfl) (Nat.le_of_ble_eq_true rfl) (Nat.le_of_ble_eq_true rfl) (Or.inl ⟨rfl, by omega⟩)
  · rw [show (0 : Int32) = nI 0 by rfl]
    refine z_if_eq CF (tgt := 14) (nIz (by omega)) dX0_way_4 (by decide) (fun _ => ?_) (fun h => absurd h (by decide))
    exact thr CF hfl hE hP hj (va_S.rf) htab hlocks hl.1 (cls := "java/lang/IndexOutOfBoundsException") (text := "no such money") (by decide +kernel) (List.mem_of_getElem? (i := 0) rfl) (List.mem_of_getElem? (i := 0) rfl) (inr_2 _ (List.mem_of_getElem? (i := 19) rfl)) (inr_2 _ (List.mem_of_getElem? (i := 20) rfl)) ha_IO hb_IO hg_IO dX0_way_14 dX0_way_17 dX0_way_18 dX0_way_20 dX0_way_23 (Nat.le_of_ble_eq_true rfl) (Nat.le_of_ble_eq_true rfl) (Nat.le_of_ble_eq_true rfl) (Nat.le_of_ble_eq_true rfl) (Or.inl ⟨rfl, by omega⟩)
set_option maxHeartbeats 1000000 in
set_option maxRecDepth 100000 in
theorem c0_ring (l : Launch) {G : va_G} {cA : ClassId} {ad : Nat → Nat} {σ : RS} {b : BS} (hI : InvC b) (hR : Rc σ b) (hO : Ro σ b) (hOi : InvO b) {f a : Nat} (hf : f < 5) (ha : a ≤ 99999) : Met l yX0_ring (ws_ yX0_ring cX0_ring 5 (some .int)) (rmk 20 0 0) (pc0 G cA ad σ [.ref (ad 0), .int (nI (f)), .int (nI (a))]) (rqi (fun r => r = nI (mag b f 5 f a (2 ^ f) - a))) 0 0 (fun _ => False) := by
  refine Met.ofW (cc := cX0_ring) (maxL := 5) (ret := (some .int)) (by decide) rfl ?_
  intro p e s m args below meth c s₁ B hml hv
  obtain ⟨rfl, hP, hK⟩ := hv
  have CF : CallFix p m c cX0_ring 5 s _ AW RX0 := ⟨B.exec, B.bytes, hml, findClass_of_methodNamed B.named, fun w h => atoms_spec (ws := ws_ yX0_ring cX0_ring 5 (some .int)) B.pre w (List.mem_cons_of_mem _ h)⟩
  have hr := B.returns
  have hlocks := B.notSynchronized
  have hl := lv_entry ([.ref (ad 0), .int (nI (f)), .int (nI (a))]) (n := 5) (Nat.le_of_ble_eq_true rfl)
  rw [lg_entry_eq]
  generalize (lg_sl ([.ref (ad 0), .int (nI (f)), .int (nI (a))]) ++ List.replicate (5 - (lg_sl ([.ref (ad 0), .int (nI (f)), .int (nI (a))])).length) Slot.unset).toArray = ls at hl ⊢
  have hl : lv_has ls 5 [(0, .ref (ad 0)), (1, .int (nI (f))), (2, .int (nI (a)))] := hl
  obtain ⟨i_sp, i_cu, i_ra, i_di, i_mo, i_pu⟩ := id hI
  have hw10 := hOi.1
  have hv32 : 2 ^ f < 32 := Nat.lt_of_lt_of_le (Nat.pow_lt_pow_right (show 1 < 2 by omega) hf) (by decide)
  refine lv_iload_n CF.1 CF.2.1 dX0_ring_0 rfl (lv_at hl 1 rfl) ?_
  refine cS_i CF (As := [.int (nI (f))]) (rest := []) (c0_isMoney l (nI (f))) lk_RX0_X0_isMoney rfl hl.1 ⟨Nat.le_of_ble_eq_true rfl, Nat.le_of_ble_eq_true rfl⟩ ⟨Nat.zero_le _, Nat.zero_le _⟩ (Nat.le_of_ble_eq_true rfl) rfl dX0_ring_1 (fun r_1 hr_2 => ?_)
  have hxh_3 := nIz (n := f) (by omega)
  rcases hr_2 with ⟨rfl, -, -⟩ | ⟨rfl, h9⟩
  rotate_left
  · exact absurd h9 (by rw [hxh_3]; omega)
  rw [show (1 : Int32) = nI 1 by rfl]
  refine z_if_ne CF (tgt := 17) (nIz (by omega)) dX0_ring_4 (by decide) (fun _ => ?_) (fun h => absurd h (by decide))
  refine lv_iload_n CF.1 CF.2.1 dX0_ring_17 rfl (lv_at hl 2 rfl) ?_
  refine cS_i CF (As := [.int (nI (a))]) (rest := []) (c0_isAmountOrNone l (nI (a))) lk_RX0_X0_isAmountOrNone rfl hl.1 ⟨Nat.le_of_ble_eq_true rfl, Nat.le_of_ble_eq_true rfl⟩ ⟨Nat.zero_le _, Nat.zero_le _⟩ (Nat.le_of_ble_eq_true rfl) rfl dX0_ring_18 (fun r_6 hr_7 => ?_)
  have hxh_8 := nIz (n := a) (by omega)
  rcases hr_7 with ⟨rfl, -, -⟩ | ⟨rfl, h9⟩
  rotate_left
  · exact absurd h9 (by rw [hxh_8]; omega)
  rw [show (1 : Int32) = nI 1 by rfl]
  refine z_if_ne CF (tgt := 34) (nIz (by omega)) dX0_ring_21 (by decide) (fun _ => ?_) (fun h => absurd h (by decide))
  refine lv_aload_n CF.1 CF.2.1 dX0_ring_34 rfl (lv_at hl 0 rfl) ?_
  refine lv_iload_n CF.1 CF.2.1 dX0_ring_35 rfl (lv_at hl 1 rfl) ?_
  refine lv_iload_n CF.1 CF.2.1 dX0_ring_36 rfl (lv_at hl 1 rfl) ?_
  refine lv_iload_n CF.1 CF.2.1 dX0_ring_37 rfl (lv_at hl 2 rfl) ?_
  refine o_i2l CF (by omega) dX0_ring_38 ?_
  refine lv_iload_n CF.1 CF.2.1 dX0_ring_39 rfl (lv_at hl 1 rfl) ?_
  refine cS_i CF (As := [.int (nI (f))]) (rest := [.long (lN (a)), .int (nI (f)), .int (nI (f)), .ref (ad 0)]) (c0_bit l (j := f) (by omega)) lk_RX0_X0_bit rfl hl.1 ⟨Nat.le_of_ble_eq_true rfl, Nat.le_of_ble_eq_true rfl⟩ ⟨Nat.zero_le _, Nat.zero_le _⟩ (Nat.le_of_ble_eq_true rfl) rfl dX0_ring_40 (fun r_11 hr_12 => ?_)
  subst hr_12
  refine lv_iconst (v := nI 5) CF.1 CF.2.1 dX0_ring_43 (by decide) ?_
  refine c0_l CF hK hP (As := [.int (nI (f)), .int (nI (f)), .long (lN (a)), .int (nI (2 ^ (f))), .int (nI (5))]) (rest := []) (c0_mostAtGoal l hI hR 5 (by omega) (f) (f) (a) (2 ^ (f)) (by omega) (by omega) (by omega) hv32) rfl lk_RX0_X0_mostAtGoal rfl hl.1 ⟨Nat.le_of_ble_eq_true rfl, Nat.le_of_ble_eq_true rfl⟩ ⟨Nat.zero_le _, Nat.zero_le _⟩ (Nat.le_of_ble_eq_true rfl) rfl dX0_ring_44 (fun r_13 hr_14 => ?_)
  subst hr_14
  have h_mg := mag_le (b := b) (goal := f) 5 (f) (a) (2 ^ (f))
  refine lv_lstore_n (lv' := [(3, .long (lN (mag b (f) 5 (f) (a) (2 ^ (f))))), (0, .ref (ad 0)), (1, .int (nI (f))), (2, .int (nI (a)))]) CF.1 CF.2.1 dX0_ring_47 rfl hl (by decide) rfl (fun ls hl => ?_)
  refine lv_lload_n CF.1 CF.2.1 dX0_ring_48 rfl (lv_at hl 0 rfl) ?_
  refine lv_iload_n CF.1 CF.2.1 dX0_ring_49 rfl (lv_at hl 3 rfl) ?_
  refine o_i2l CF (by omega) dX0_ring_50 ?_
  refine z_lcmp_le CF (tgt := 63) (lNz (by omega)) (lNz (by omega)) dX0_ring_51 dX0_ring_52 (by decide) (fun h_15 => ?_) (fun h_16 => ?_)
  · refine lv_iconst (v := nI 0) CF.1 CF.2.1 dX0_ring_63 (by decide) ?_
    exact W.iret CF.1 CF.2.1 hr (fun t9 ht9 hW9 => ⟨_, rfl, by first | rfl | (congr 1; omega), ht9⟩) (fun q hq => absurd hq List.not_mem_nil) dX0_ring_64
  · refine lv_lload_n CF.1 CF.2.1 dX0_ring_55 rfl (lv_at hl 0 rfl) ?_
    refine lv_iload_n CF.1 CF.2.1 dX0_ring_56 rfl (lv_at hl 3 rfl) ?_
    refine o_i2l CF (by omega) dX0_ring_57 ?_
    refine o_lsub CF (by omega) dX0_ring_58 ?_
    refine o_l2i CF dX0_ring_59 ?_
    refine lv_goto (tgt := 64) CF.1 CF.2.1 dX0_ring_60 (by decide) ?_
    exact W.iret CF.1 CF.2.1 hr (fun t9 ht9 hW9 => ⟨_, rfl, by first | rfl | (congr 1; omega), ht9⟩) (fun q hq => absurd hq List.not_mem_nil) dX0_ring_64
set_option maxHeartbeats 1000000 in
set_option maxRecDepth 100000 in
theorem b0_ring (l : Launch) (hfl : l.stackTraces = false) {G : va_G} {cA : ClassId} {ad : Nat → Nat} {σ : RS} (hj : inj8 ad) {b : BS} (hI : InvC b) (hR : Rc σ b) (hO : Ro σ b) (hOi : InvO b) (x z : Int32) (hbad : ¬ (0 ≤ x.toInt ∧ x.toInt < 5 ∧ 0 ≤ z.toInt ∧ z.toInt ≤ 99999)) : vx_Met l yX0_ring (ws_ yX0_ring cX0_ring 5 (some .int)) (rmk 8 1 6) (pcx G cA ad σ [.ref (ad 0), .int (x), .int (z)]) (va_Qi (fun (_ : Int32) (_ : RS) => False) (fun σ' t => va_P G vwCl (w0 ad cA σ') t.heap) (own8 ad)) (xcS G cA ad σ (fun E => (E = "java/lang/IndexOutOfBoundsException" ∧ (¬ (0 ≤ x.toInt ∧ x.toInt < 5))) ∨ (E = "java/lang/IllegalArgumentException" ∧ (0 ≤ x.toInt ∧ x.toInt < 5)))) 1 6 (own8 ad) := by
  refine vx_ofW (cc := cX0_ring) (maxL := 5) (ret := (some .int)) (by decide) rfl ?_
  intro p e s m args below meth c s₁ B hml htab hv
  obtain ⟨rfl, hP, hK, hE⟩ := hv
  have CF : CallFix p m c cX0_ring 5 s _ AW RX0 := ⟨B.exec, B.bytes, hml, findClass_of_methodNamed B.named, fun w h => atoms_spec (ws := ws_ yX0_ring cX0_ring 5 (some .int)) B.pre w (List.mem_cons_of_mem _ h)⟩
  have hr := B.returns
  have hlocks := B.notSynchronized
  have hl := lv_entry ([.ref (ad 0), .int (x), .int (z)]) (n := 5) (Nat.le_of_ble_eq_true rfl)
  rw [lg_entry_eq]
  generalize (lg_sl ([.ref (ad 0), .int (x), .int (z)]) ++ List.replicate (5 - (lg_sl ([.ref (ad 0), .int (x), .int (z)])).length) Slot.unset).toArray = ls at hl ⊢
  have hl : lv_has ls 5 [(0, .ref (ad 0)), (1, .int (x)), (2, .int (z))] := hl
  obtain ⟨i_sp, i_cu, i_ra, i_di, i_mo, i_pu⟩ := id hI
  have hw10 := hOi.1
  refine lv_iload_n CF.1 CF.2.1 dX0_ring_0 rfl (lv_at hl 1 rfl) ?_
  refine cS_i CF (As := [.int (x)]) (rest := []) (c0_isMoney l ((x))) lk_RX0_X0_isMoney rfl hl.1 ⟨Nat.le_of_ble_eq_true rfl, Nat.le_of_ble_eq_true rfl⟩ ⟨Nat.zero_le _, Nat.zero_le _⟩ (Nat.le_of_ble_eq_true rfl) rfl dX0_ring_1 (fun r_1 hr_2 => ?_)
  rcases hr_2 with ⟨rfl, h_5, h_6⟩ | ⟨rfl, h_7⟩
  · rw [show (1 : Int32) = nI 1 by rfl]
    obtain ⟨j_3, h_4, rfl⟩ := nI_ex (x := x) (n := 5) (by omega) (by omega)
    have hzj_3 := nIz (n := j_3) (by omega)
    refine z_if_ne CF (tgt := 17) (nIz (by omega)) dX0_ring_4 (by decide) (fun _ => ?_) (fun h => absurd h (by decide))
    refine lv_iload_n CF.1 CF.2.1 dX0_ring_17 rfl (lv_at hl 2 rfl) ?_
    refine cS_i CF (As := [.int (z)]) (rest := []) (c0_isAmountOrNone l ((z))) lk_RX0_X0_isAmountOrNone rfl hl.1 ⟨Nat.le_of_ble_eq_true rfl, Nat.le_of_ble_eq_true rfl⟩ ⟨Nat.zero_le _, Nat.zero_le _⟩ (Nat.le_of_ble_eq_true rfl) rfl dX0_ring_18 (fun r_10 hr_11 => ?_)
    rcases hr_11 with ⟨rfl, h_14, h_15⟩ | ⟨rfl, h_16⟩
    · rw [show (1 : Int32) = nI 1 by rfl]
      obtain ⟨j_12, h_13, rfl⟩ := nI_ex (x := z) (n := 100000) (by omega) (by omega)
      have hzj_12 := nIz (n := j_12) (by omega)
      refine z_if_ne CF (tgt := 34) (nIz (by omega)) dX0_ring_21 (by decide) (fun _ => ?_) (fun h => absurd h (by decide))
      exact (show False by omega).elim
    · rw [show (0 : Int32) = nI 0 by rfl]
      refine z_if_ne CF (tgt := 34) (nIz (by omega)) dX0_ring_21 (by decide) (fun h => absurd h (by decide)) (fun _ => ?_)
      exact thr CF hfl hE hP hj (va_S.rf) htab hlocks hl.1 (cls := "java/lang/IllegalArgumentException") (text := "the amount is not 0 to 99999") (by decide +kernel) (List.mem_of_getElem? (i := 1) rfl) (List.mem_of_getElem? (i := 15) rfl) (inr_2 _ (List.mem_of_getElem? (i := 21) rfl)) (inr_2 _ (List.mem_of_getElem? (i := 22) rfl)) ha_IA hb_IA hg_IA dX0_ring_24 dX0_ring_27 dX0_ring_28 dX0_ring_30 dX0_ring_33 (Nat.le_of_ble_eq_true rfl) (Nat.le_of_ble_eq_true rfl) (Nat.le_of_ble_eq_true rfl) (Nat.le_of_ble_eq_true rfl) (Or.inr (⟨rfl, by omega⟩))
  · rw [show (0 : Int32) = nI 0 by rfl]
    refine z_if_ne CF (tgt := 17) (nIz (by omega)) dX0_ring_4 (by decide) (fun h => absurd h (by decide)) (fun _ => ?_)
    exact thr CF hfl hE hP hj (va_S.rf) htab hlocks hl.1 (cls := "java/lang/IndexOutOfBoundsException") (text := "no such money") (by decide +kernel) (List.mem_of_getElem? (i := 0) rfl) (List.mem_of_getElem? (i := 0) rfl) (inr_2 _ (List.mem_of_getElem? (i := 19) rfl)) (inr_2 _ (List.mem_of_getElem? (i := 20) rfl)) ha_IO hb_IO hg_IO dX0_ring_7 dX0_ring_10 dX0_ring_11 dX0_ring_13 dX0_ring_16 (Nat.le_of_ble_eq_true rfl) (Nat.le_of_ble_eq_true rfl) (Nat.le_of_ble_eq_true rfl) (Nat.le_of_ble_eq_true rfl) (Or.inl ⟨rfl, by omega⟩)
set_option maxHeartbeats 1000000 in
set_option maxRecDepth 100000 in
theorem c0_needs (l : Launch) {G : va_G} {cA : ClassId} {ad : Nat → Nat} {σ : RS} {b : BS} (hI : InvC b) (hR : Rc σ b) (hO : Ro σ b) (hOi : InvO b) {f t : Nat} (hf : f < 5) (ht : t < 5) (hne : f ≠ t) : Met l yX0_needs (ws_ yX0_needs cX0_needs 4 (some .int)) (rmk 8 0 0) (pc0 G cA ad σ [.ref (ad 0), .int (nI (f)), .int (nI (t))]) (rqi (fun r => ndP b f t r)) 0 0 (fun _ => False) := by
  refine Met.ofW (cc := cX0_needs) (maxL := 4) (ret := (some .int)) (by decide) rfl ?_
  intro p e s m args below meth c s₁ B hml hv
  obtain ⟨rfl, hP, hK⟩ := hv
  have CF : CallFix p m c cX0_needs 4 s _ AW RX0 := ⟨B.exec, B.bytes, hml, findClass_of_methodNamed B.named, fun w h => atoms_spec (ws := ws_ yX0_needs cX0_needs 4 (some .int)) B.pre w (List.mem_cons_of_mem _ h)⟩
  have hr := B.returns
  have hlocks := B.notSynchronized
  have hl := lv_entry ([.ref (ad 0), .int (nI (f)), .int (nI (t))]) (n := 4) (Nat.le_of_ble_eq_true rfl)
  rw [lg_entry_eq]
  generalize (lg_sl ([.ref (ad 0), .int (nI (f)), .int (nI (t))]) ++ List.replicate (4 - (lg_sl ([.ref (ad 0), .int (nI (f)), .int (nI (t))])).length) Slot.unset).toArray = ls at hl ⊢
  have hl : lv_has ls 4 [(0, .ref (ad 0)), (1, .int (nI (f))), (2, .int (nI (t)))] := hl
  obtain ⟨i_sp, i_cu, i_ra, i_di, i_mo, i_pu⟩ := id hI
  have hw10 := hOi.1
  refine lv_iload_n CF.1 CF.2.1 dX0_needs_0 rfl (lv_at hl 1 rfl) ?_
  refine cS_i CF (As := [.int (nI (f))]) (rest := []) (c0_isMoney l (nI (f))) lk_RX0_X0_isMoney rfl hl.1 ⟨Nat.le_of_ble_eq_true rfl, Nat.le_of_ble_eq_true rfl⟩ ⟨Nat.zero_le _, Nat.zero_le _⟩ (Nat.le_of_ble_eq_true rfl) rfl dX0_needs_1 (fun r_1 hr_2 => ?_)
  have hxh_3 := nIz (n := f) (by omega)
  rcases hr_2 with ⟨rfl, -, -⟩ | ⟨rfl, h9⟩
  rotate_left
  · exact absurd h9 (by rw [hxh_3]; omega)
  rw [show (1 : Int32) = nI 1 by rfl]
  refine z_if_eq CF (tgt := 14) (nIz (by omega)) dX0_needs_4 (by decide) (fun h => absurd h (by decide)) (fun _ => ?_)
  refine lv_iload_n CF.1 CF.2.1 dX0_needs_7 rfl (lv_at hl 2 rfl) ?_
  refine cS_i CF (As := [.int (nI (t))]) (rest := []) (c0_isMoney l (nI (t))) lk_RX0_X0_isMoney rfl hl.1 ⟨Nat.le_of_ble_eq_true rfl, Nat.le_of_ble_eq_true rfl⟩ ⟨Nat.zero_le _, Nat.zero_le _⟩ (Nat.le_of_ble_eq_true rfl) rfl dX0_needs_8 (fun r_6 hr_7 => ?_)
  have hxh_8 := nIz (n := t) (by omega)
  rcases hr_7 with ⟨rfl, -, -⟩ | ⟨rfl, h9⟩
  rotate_left
  · exact absurd h9 (by rw [hxh_8]; omega)
  rw [show (1 : Int32) = nI 1 by rfl]
  refine z_if_ne CF (tgt := 24) (nIz (by omega)) dX0_needs_11 (by decide) (fun _ => ?_) (fun h => absurd h (by decide))
  refine lv_iload_n CF.1 CF.2.1 dX0_needs_24 rfl (lv_at hl 1 rfl) ?_
  refine lv_iload_n CF.1 CF.2.1 dX0_needs_25 rfl (lv_at hl 2 rfl) ?_
  refine z_icmp_ne CF (tgt := 39) (nIz (by omega)) (nIz (by omega)) dX0_needs_26 (by decide) (fun h_11 => ?_) (fun h_12 => absurd h_12 (by omega))
  refine lv_aload_n CF.1 CF.2.1 dX0_needs_39 rfl (lv_at hl 0 rfl) ?_
  refine lv_iload_n CF.1 CF.2.1 dX0_needs_40 rfl (lv_at hl 1 rfl) ?_
  refine lv_iload_n CF.1 CF.2.1 dX0_needs_41 rfl (lv_at hl 2 rfl) ?_
  refine c0_i CF hK hP (As := [.int (nI (f)), .int (nI (t))]) (rest := []) (c0_firstOrderPlace l hI hR hO hOi (f := f) (t := t) hf ht) rfl lk_RX0_X0_firstOrderPlace rfl hl.1 ⟨Nat.le_of_ble_eq_true rfl, Nat.le_of_ble_eq_true rfl⟩ ⟨Nat.zero_le _, Nat.zero_le _⟩ (Nat.le_of_ble_eq_true rfl) rfl dX0_needs_42 (fun r_13 hr_14 => ?_)
  rcases hr_14 with ⟨q, hfq, rfl⟩ | ⟨hno, rfl⟩
  · have hqw := hfq.1
    refine lv_istore_n (lv' := [(3, .int (nI (q))), (0, .ref (ad 0)), (1, .int (nI (f))), (2, .int (nI (t)))]) CF.1 CF.2.1 dX0_needs_45 rfl hl (by decide) rfl (fun ls hl => ?_)
    refine lv_iload_n CF.1 CF.2.1 dX0_needs_46 rfl (lv_at hl 0 rfl) ?_
    refine z_if_ge CF (tgt := 54) (nIz (by omega)) dX0_needs_47 (by decide) (fun h_15 => ?_) (fun h_16 => absurd h_16 (by omega))
    refine lv_aload_n CF.1 CF.2.1 dX0_needs_54 rfl (lv_at hl 1 rfl) ?_
    refine lv_iload_n CF.1 CF.2.1 dX0_needs_55 rfl (lv_at hl 0 rfl) ?_
    refine c0_i CF hK hP (As := [.int (nI (q))]) (rest := []) (c0_leastRateFor l hI hR hO hOi (q := q) hqw) rfl lk_RX0_X0_leastRateFor rfl hl.1 ⟨Nat.le_of_ble_eq_true rfl, Nat.le_of_ble_eq_true rfl⟩ ⟨Nat.zero_le _, Nat.zero_le _⟩ (Nat.le_of_ble_eq_true rfl) rfl dX0_needs_56 (fun r_17 hr_18 => ?_)
    exact W.iret CF.1 CF.2.1 hr (fun t9 ht9 hW9 => ⟨_, rfl, Or.inl ⟨q, hfq, hr_18⟩, ht9⟩) (fun q hq => absurd hq List.not_mem_nil) dX0_needs_59
  · refine lv_istore_n (lv' := [(3, .int ((-1))), (0, .ref (ad 0)), (1, .int (nI (f))), (2, .int (nI (t)))]) CF.1 CF.2.1 dX0_needs_45 rfl hl (by decide) rfl (fun ls hl => ?_)
    refine lv_iload_n CF.1 CF.2.1 dX0_needs_46 rfl (lv_at hl 0 rfl) ?_
    refine z_if_ge CF (tgt := 54) (show (-1 : Int32).toInt = -1 by decide) dX0_needs_47 (by decide) (fun h_19 => absurd h_19 (by omega)) (fun h_20 => ?_)
    refine lv_iconst (v := (-1)) CF.1 CF.2.1 dX0_needs_50 (by decide) ?_
    refine lv_goto (tgt := 59) CF.1 CF.2.1 dX0_needs_51 (by decide) ?_
    exact W.iret CF.1 CF.2.1 hr (fun t9 ht9 hW9 => ⟨_, rfl, Or.inr ⟨hno, rfl⟩, ht9⟩) (fun q hq => absurd hq List.not_mem_nil) dX0_needs_59
set_option maxHeartbeats 1000000 in
set_option maxRecDepth 100000 in
theorem b0_needs (l : Launch) (hfl : l.stackTraces = false) {G : va_G} {cA : ClassId} {ad : Nat → Nat} {σ : RS} (hj : inj8 ad) {b : BS} (hI : InvC b) (hR : Rc σ b) (hO : Ro σ b) (hOi : InvO b) (x y : Int32) (hbad : ¬ (0 ≤ x.toInt ∧ x.toInt < 5 ∧ 0 ≤ y.toInt ∧ y.toInt < 5 ∧ x.toInt ≠ y.toInt)) : vx_Met l yX0_needs (ws_ yX0_needs cX0_needs 4 (some .int)) (rmk 8 1 6) (pcx G cA ad σ [.ref (ad 0), .int (x), .int (y)]) (va_Qi (fun (_ : Int32) (_ : RS) => False) (fun σ' t => va_P G vwCl (w0 ad cA σ') t.heap) (own8 ad)) (xcS G cA ad σ (fun E => (E = "java/lang/IndexOutOfBoundsException" ∧ (¬ (0 ≤ x.toInt ∧ x.toInt < 5 ∧ 0 ≤ y.toInt ∧ y.toInt < 5))) ∨ (E = "java/lang/IllegalArgumentException" ∧ (0 ≤ x.toInt ∧ x.toInt < 5 ∧ 0 ≤ y.toInt ∧ y.toInt < 5)))) 1 6 (own8 ad) := by
  refine vx_ofW (cc := cX0_needs) (maxL := 4) (ret := (some .int)) (by decide) rfl ?_
  intro p e s m args below meth c s₁ B hml htab hv
  obtain ⟨rfl, hP, hK, hE⟩ := hv
  have CF : CallFix p m c cX0_needs 4 s _ AW RX0 := ⟨B.exec, B.bytes, hml, findClass_of_methodNamed B.named, fun w h => atoms_spec (ws := ws_ yX0_needs cX0_needs 4 (some .int)) B.pre w (List.mem_cons_of_mem _ h)⟩
  have hr := B.returns
  have hlocks := B.notSynchronized
  have hl := lv_entry ([.ref (ad 0), .int (x), .int (y)]) (n := 4) (Nat.le_of_ble_eq_true rfl)
  rw [lg_entry_eq]
  generalize (lg_sl ([.ref (ad 0), .int (x), .int (y)]) ++ List.replicate (4 - (lg_sl ([.ref (ad 0), .int (x), .int (y)])).length) Slot.unset).toArray = ls at hl ⊢
  have hl : lv_has ls 4 [(0, .ref (ad 0)), (1, .int (x)), (2, .int (y))] := hl
  obtain ⟨i_sp, i_cu, i_ra, i_di, i_mo, i_pu⟩ := id hI
  have hw10 := hOi.1
  refine lv_iload_n CF.1 CF.2.1 dX0_needs_0 rfl (lv_at hl 1 rfl) ?_
  refine cS_i CF (As := [.int (x)]) (rest := []) (c0_isMoney l ((x))) lk_RX0_X0_isMoney rfl hl.1 ⟨Nat.le_of_ble_eq_true rfl, Nat.le_of_ble_eq_true rfl⟩ ⟨Nat.zero_le _, Nat.zero_le _⟩ (Nat.le_of_ble_eq_true rfl) rfl dX0_needs_1 (fun r_1 hr_2 => ?_)
  rcases hr_2 with ⟨rfl, h_5, h_6⟩ | ⟨rfl, h_7⟩
  · rw [show (1 : Int32) = nI 1 by rfl]
    obtain ⟨j_3, h_4, rfl⟩ := nI_ex (x := x) (n := 5) (by omega) (by omega)
    have hzj_3 := nIz (n := j_3) (by omega)
    refine z_if_eq CF (tgt := 14) (nIz (by omega)) dX0_needs_4 (by decide) (fun h => absurd h (by decide)) (fun _ => ?_)
    refine lv_iload_n CF.1 CF.2.1 dX0_needs_7 rfl (lv_at hl 2 rfl) ?_
    refine cS_i CF (As := [.int (y)]) (rest := []) (c0_isMoney l ((y))) lk_RX0_X0_isMoney rfl hl.1 ⟨Nat.le_of_ble_eq_true rfl, Nat.le_of_ble_eq_true rfl⟩ ⟨Nat.zero_le _, Nat.zero_le _⟩ (Nat.le_of_ble_eq_true rfl) rfl dX0_needs_8 (fun r_10 hr_11 => ?_)
    rcases hr_11 with ⟨rfl, h_14, h_15⟩ | ⟨rfl, h_16⟩
    · rw [show (1 : Int32) = nI 1 by rfl]
      obtain ⟨j_12, h_13, rfl⟩ := nI_ex (x := y) (n := 5) (by omega) (by omega)
      have hzj_12 := nIz (n := j_12) (by omega)
      refine z_if_ne CF (tgt := 24) (nIz (by omega)) dX0_needs_11 (by decide) (fun _ => ?_) (fun h => absurd h (by decide))
      refine lv_iload_n CF.1 CF.2.1 dX0_needs_24 rfl (lv_at hl 1 rfl) ?_
      refine lv_iload_n CF.1 CF.2.1 dX0_needs_25 rfl (lv_at hl 2 rfl) ?_
      refine z_icmp_ne CF (tgt := 39) (nIz (by omega)) (nIz (by omega)) dX0_needs_26 (by decide) (fun h_19 => ?_) (fun h_20 => ?_)
      · exact (show False by omega).elim
      · exact thr CF hfl hE hP hj (va_S.rf) htab hlocks hl.1 (cls := "java/lang/IllegalArgumentException") (text := "the moneys are the same") (by decide +kernel) (List.mem_of_getElem? (i := 1) rfl) (List.mem_of_getElem? (i := 17) rfl) (inr_2 _ (List.mem_of_getElem? (i := 21) rfl)) (inr_2 _ (List.mem_of_getElem? (i := 22) rfl)) ha_IA hb_IA hg_IA dX0_needs_29 dX0_needs_32 dX0_needs_33 dX0_needs_35 dX0_needs_38 (Nat.le_of_ble_eq_true rfl) (Nat.le_of_ble_eq_true rfl) (Nat.le_of_ble_eq_true rfl) (Nat.le_of_ble_eq_true rfl) (Or.inr (⟨rfl, by omega⟩))
    · rw [show (0 : Int32) = nI 0 by rfl]
      refine z_if_ne CF (tgt := 24) (nIz (by omega)) dX0_needs_11 (by decide) (fun h => absurd h (by decide)) (fun _ => ?_)
      exact thr CF hfl hE hP hj (va_S.rf) htab hlocks hl.1 (cls := "java/lang/IndexOutOfBoundsException") (text := "no such money") (by decide +kernel) (List.mem_of_getElem? (i := 0) rfl) (List.mem_of_getElem? (i := 0) rfl) (inr_2 _ (List.mem_of_getElem? (i := 19) rfl)) (inr_2 _ (List.mem_of_getElem? (i := 20) rfl)) ha_IO hb_IO hg_IO dX0_needs_14 dX0_needs_17 dX0_needs_18 dX0_needs_20 dX0_needs_23 (Nat.le_of_ble_eq_true rfl) (Nat.le_of_ble_eq_true rfl) (Nat.le_of_ble_eq_true rfl) (Nat.le_of_ble_eq_true rfl) (Or.inl ⟨rfl, by omega⟩)
  · rw [show (0 : Int32) = nI 0 by rfl]
    refine z_if_eq CF (tgt := 14) (nIz (by omega)) dX0_needs_4 (by decide) (fun _ => ?_) (fun h => absurd h (by decide))
    exact thr CF hfl hE hP hj (va_S.rf) htab hlocks hl.1 (cls := "java/lang/IndexOutOfBoundsException") (text := "no such money") (by decide +kernel) (List.mem_of_getElem? (i := 0) rfl) (List.mem_of_getElem? (i := 0) rfl) (inr_2 _ (List.mem_of_getElem? (i := 19) rfl)) (inr_2 _ (List.mem_of_getElem? (i := 20) rfl)) ha_IO hb_IO hg_IO dX0_needs_14 dX0_needs_17 dX0_needs_18 dX0_needs_20 dX0_needs_23 (Nat.le_of_ble_eq_true rfl) (Nat.le_of_ble_eq_true rfl) (Nat.le_of_ble_eq_true rfl) (Nat.le_of_ble_eq_true rfl) (Or.inl ⟨rfl, by omega⟩)
