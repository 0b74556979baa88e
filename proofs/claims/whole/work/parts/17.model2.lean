set_option maxHeartbeats 1000000 in
set_option maxRecDepth 100000 in
theorem c1_setRate (l : Launch) {G : va_G} {cA : ClassId} {ad : Nat → Nat} {σ : RS} (hj : inj8 ad) {b : BS} (hI : InvC b) (hR : Rc σ b) (hO : Ro σ b) (hOi : InvO b) {f t v : Nat} (hf : f < 5) (ht : t < 5) (hne : f ≠ t) (hv : v ≤ 9999) : Met l yX1_setRate (ws_ yX1_setRate cX1_setRate 4 (some .int)) (rmk 8 0 0) (pc1 G cA ad σ [.ref (ad 0), .int (nI (f)), .int (nI (t)), .int (nI (v))]) (va_Qi (fun (r : Int32) (σ' : RS) => r = nI (b 0 3 - s_rate b f t v 0 3) ∧ Rc σ' (s_rate b f t v) ∧ Ro σ' (s_rate b f t v) ∧ σ' 0 6 = nI 0) (fun σ' t => va_P G vwCl (w1 ad cA σ') t.heap) (own8 ad)) 0 0 (own8 ad) := by
  refine Met.ofW (cc := cX1_setRate) (maxL := 4) (ret := (some .int)) (by decide) rfl ?_
  intro p e s m args below meth c s₁ B hml hv
  obtain ⟨rfl, hP, hK⟩ := hv
  have CF : CallFix p m c cX1_setRate 4 s _ AW RX1 := ⟨B.exec, B.bytes, hml, findClass_of_methodNamed B.named, fun w h => atoms_spec (ws := ws_ yX1_setRate cX1_setRate 4 (some .int)) B.pre w (List.mem_cons_of_mem _ h)⟩
  have hr := B.returns
  have hlocks := B.notSynchronized
  have hl := lv_entry ([.ref (ad 0), .int (nI (f)), .int (nI (t)), .int (nI (v))]) (n := 4) (Nat.le_of_ble_eq_true rfl)
  rw [lg_entry_eq]
  generalize (lg_sl ([.ref (ad 0), .int (nI (f)), .int (nI (t)), .int (nI (v))]) ++ List.replicate (4 - (lg_sl ([.ref (ad 0), .int (nI (f)), .int (nI (t)), .int (nI (v))])).length) Slot.unset).toArray = ls at hl ⊢
  have hl : lv_has ls 4 [(0, .ref (ad 0)), (1, .int (nI (f))), (2, .int (nI (t))), (3, .int (nI (v)))] := hl
  have hD : va_D (own8 ad) (w1 ad cA σ) := w1_D hj (fun _ h => h)
  have hS : va_S (own8 ad) s.heap s.heap [] := va_S.rf
  obtain ⟨i_sp, i_cu, i_ra, i_di, i_mo, i_pu⟩ := id hI
  have hw10 := hOi.1
  refine lv_aload_n CF.1 CF.2.1 dX1_setRate_0 rfl (lv_at hl 0 rfl) ?_
  refine lv_iconst (v := nI 0) CF.1 CF.2.1 dX1_setRate_1 (by decide) ?_
  refine x1_p_thrown CF hK hP hD hS dX1_setRate_2 (fun σ1 H1 locs hσ1 hP1 hD1 hS1 => ?_)
  have hR : Rc σ1 b := Rc_th hR hσ1
  have hO : Ro σ1 b := Ro_th hO hσ1
  have hT : σ1 0 6 = nI 0 := by rw [hσ1, up_s]
  refine lv_iload_n CF.1 CF.2.1 dX1_setRate_5 rfl (lv_at hl 1 rfl) ?_
  refine cS_i CF (As := [.int (nI (f))]) (rest := []) (c1_isMoney l (nI (f))) lk_RX1_X1_isMoney rfl hl.1 ⟨Nat.le_of_ble_eq_true rfl, Nat.le_of_ble_eq_true rfl⟩ ⟨Nat.zero_le _, Nat.zero_le _⟩ (Nat.le_of_ble_eq_true rfl) rfl dX1_setRate_6 (fun r_2 hr_3 => ?_)
  have hxh_4 := nIz (n := f) (by omega)
  rcases hr_3 with ⟨rfl, -, -⟩ | ⟨rfl, h9⟩
  rotate_left
  · exact absurd h9 (by rw [hxh_4]; omega)
  rw [show (1 : Int32) = nI 1 by rfl]
  refine z_if_eq CF (tgt := 19) (nIz (by omega)) dX1_setRate_9 (by decide) (fun h => absurd h (by decide)) (fun _ => ?_)
  refine lv_iload_n CF.1 CF.2.1 dX1_setRate_12 rfl (lv_at hl 2 rfl) ?_
  refine cS_i CF (As := [.int (nI (t))]) (rest := []) (c1_isMoney l (nI (t))) lk_RX1_X1_isMoney rfl hl.1 ⟨Nat.le_of_ble_eq_true rfl, Nat.le_of_ble_eq_true rfl⟩ ⟨Nat.zero_le _, Nat.zero_le _⟩ (Nat.le_of_ble_eq_true rfl) rfl dX1_setRate_13 (fun r_7 hr_8 => ?_)
  have hxh_9 := nIz (n := t) (by omega)
  rcases hr_8 with ⟨rfl, -, -⟩ | ⟨rfl, h9⟩
  rotate_left
  · exact absurd h9 (by rw [hxh_9]; omega)
  rw [show (1 : Int32) = nI 1 by rfl]
  refine z_if_ne CF (tgt := 25) (nIz (by omega)) dX1_setRate_16 (by decide) (fun _ => ?_) (fun h => absurd h (by decide))
  refine lv_iload_n CF.1 CF.2.1 dX1_setRate_25 rfl (lv_at hl 1 rfl) ?_
  refine lv_iload_n CF.1 CF.2.1 dX1_setRate_26 rfl (lv_at hl 2 rfl) ?_
  refine z_icmp_eq CF (tgt := 41) (nIz (by omega)) (nIz (by omega)) dX1_setRate_27 (by decide) (fun h_12 => absurd h_12 (by omega)) (fun h_13 => ?_)
  refine lv_iload_n CF.1 CF.2.1 dX1_setRate_30 rfl (lv_at hl 3 rfl) ?_
  refine lv_iconst (v := nI 0) CF.1 CF.2.1 dX1_setRate_31 (by decide) ?_
  refine lv_sipush (v := nI 9999) CF.1 CF.2.1 dX1_setRate_32 (by decide) ?_
  refine cS_i CF (As := [.int (nI (v)), .int (nI (0)), .int (nI (9999))]) (rest := []) (c1_isIn l (nI (v)) (nI (0)) (nI (9999)) (nIz (by omega)) (nIz (by omega))) lk_RX1_X1_isIn rfl hl.1 ⟨Nat.le_of_ble_eq_true rfl, Nat.le_of_ble_eq_true rfl⟩ ⟨Nat.zero_le _, Nat.zero_le _⟩ (Nat.le_of_ble_eq_true rfl) rfl dX1_setRate_35 (fun r_14 hr_15 => ?_)
  have hxhr_15 := nIz (n := v) (by omega)
  rcases hr_15 with ⟨rfl, -, -⟩ | ⟨rfl, h9⟩
  rotate_left
  · exact absurd h9 (by rw [hxhr_15]; omega)
  rw [show (1 : Int32) = nI 1 by rfl]
  refine z_if_ne CF (tgt := 47) (nIz (by omega)) dX1_setRate_38 (by decide) (fun _ => ?_) (fun h => absurd h (by decide))
  refine lv_aload_n CF.1 CF.2.1 dX1_setRate_47 rfl (lv_at hl 0 rfl) ?_
  refine x1_g_rates CF hK hP1 dX1_setRate_48 ?_
  refine lv_iconst (v := nI 5) CF.1 CF.2.1 dX1_setRate_51 (by decide) ?_
  refine lv_iload_n CF.1 CF.2.1 dX1_setRate_52 rfl (lv_at hl 1 rfl) ?_
  refine o_imul CF dX1_setRate_53 ?_
  refine tpi (congrArg nI (Nat.mul_comm _ _)) ?_
  refine lv_iload_n CF.1 CF.2.1 dX1_setRate_54 rfl (lv_at hl 2 rfl) ?_
  refine o_iadd CF dX1_setRate_55 ?_
  refine lv_iload_n CF.1 CF.2.1 dX1_setRate_56 rfl (lv_at hl 3 rfl) ?_
  refine x1_ast1 CF hK hP1 hD1 hS1 (i := f * 5 + t) (by omega) dX1_setRate_57 (fun σ18 H18 locs hσ18 hP18 hD18 hS18 => ?_)
  have hR18 : Rc σ18 (upN (b) 1 (f * 5 + t) (v)) := by rw [hσ18]; exact Rc_up hR 1 (f * 5 + t) (v)
  have hM18 : Sm σ1 σ18 := by rw [hσ18]; exact Sm_up Sm_rf ⟨by decide, Or.inl (by decide)⟩
  refine lv_aload_n CF.1 CF.2.1 dX1_setRate_58 rfl (lv_at hl 0 rfl) ?_
  refine d1_i CF hK hP18 hj (fun _ h => h) hS18 (As := []) (rest := []) (c1_lookAt l hj (b := upN (b) 1 (f * 5 + t) (v)) (I_rate hI hf ht hne hv) hR18 (Ro_sm hO hM18 (by simp [upN]) (by simp [upN]) (fun j => by simp [upN])) (InvO_to hOi (by simp [upN]) (by simp [upN]) (fun j => by simp [upN]))) rfl lk_RX1_X1_lookAt rfl hl.1 ⟨Nat.le_of_ble_eq_true rfl, Nat.le_of_ble_eq_true rfl⟩ ⟨Nat.zero_le _, Nat.zero_le _⟩ (Nat.le_of_ble_eq_true rfl) rfl dX1_setRate_59 (fun r_19 σ21 H21 locs hr_20 hP21 hD21 hS21 hz21 hk21 => ?_)
  obtain ⟨rfl, hr_20b, hr_20c, hr_20d⟩ := hr_20
  exact W.iret CF.1 CF.2.1 hr (fun t9 ht9 hW9 => ⟨⟨_, σ21, rfl, ⟨rfl, hr_20b, hr_20c, hr_20d.trans (hM18.2.2.2.trans hT)⟩, by show va_P G vwCl (w1 ad cA σ21) t9.heap; rw [ht9]; exact hP21⟩, hS21.F ht9⟩) hS21.2.2 dX1_setRate_62
set_option maxHeartbeats 1000000 in
set_option maxRecDepth 100000 in
theorem b1_setRate (l : Launch) {G : va_G} {cA : ClassId} {ad : Nat → Nat} {σ : RS} (hj : inj8 ad) {b : BS} (hI : InvC b) (hR : Rc σ b) (hO : Ro σ b) (hOi : InvO b) (x y z : Int32) (hbad : ¬ (0 ≤ x.toInt ∧ x.toInt < 5 ∧ 0 ≤ y.toInt ∧ y.toInt < 5 ∧ x.toInt ≠ y.toInt ∧ 0 ≤ z.toInt ∧ z.toInt ≤ 9999)) : Met l yX1_setRate (ws_ yX1_setRate cX1_setRate 4 (some .int)) (rmk 8 0 0) (pc1 G cA ad σ [.ref (ad 0), .int (x), .int (y), .int (z)]) (va_Qi (fun (_ : Int32) (σ' : RS) => Rc σ' b ∧ Ro σ' b ∧ ((σ' 0 6 = nI 1 ∧ (¬ (0 ≤ x.toInt ∧ x.toInt < 5 ∧ 0 ≤ y.toInt ∧ y.toInt < 5))) ∨ (σ' 0 6 = nI 2 ∧ (0 ≤ x.toInt ∧ x.toInt < 5 ∧ 0 ≤ y.toInt ∧ y.toInt < 5)))) (fun σ' t => va_P G vwCl (w1 ad cA σ') t.heap) (own8 ad)) 0 0 (own8 ad) := by
  refine Met.ofW (cc := cX1_setRate) (maxL := 4) (ret := (some .int)) (by decide) rfl ?_
  intro p e s m args below meth c s₁ B hml hv
  obtain ⟨rfl, hP, hK⟩ := hv
  have CF : CallFix p m c cX1_setRate 4 s _ AW RX1 := ⟨B.exec, B.bytes, hml, findClass_of_methodNamed B.named, fun w h => atoms_spec (ws := ws_ yX1_setRate cX1_setRate 4 (some .int)) B.pre w (List.mem_cons_of_mem _ h)⟩
  have hr := B.returns
  have hlocks := B.notSynchronized
  have hl := lv_entry ([.ref (ad 0), .int (x), .int (y), .int (z)]) (n := 4) (Nat.le_of_ble_eq_true rfl)
  rw [lg_entry_eq]
  generalize (lg_sl ([.ref (ad 0), .int (x), .int (y), .int (z)]) ++ List.replicate (4 - (lg_sl ([.ref (ad 0), .int (x), .int (y), .int (z)])).length) Slot.unset).toArray = ls at hl ⊢
  have hl : lv_has ls 4 [(0, .ref (ad 0)), (1, .int (x)), (2, .int (y)), (3, .int (z))] := hl
  have hD : va_D (own8 ad) (w1 ad cA σ) := w1_D hj (fun _ h => h)
  have hS : va_S (own8 ad) s.heap s.heap [] := va_S.rf
  obtain ⟨i_sp, i_cu, i_ra, i_di, i_mo, i_pu⟩ := id hI
  have hw10 := hOi.1
  refine lv_aload_n CF.1 CF.2.1 dX1_setRate_0 rfl (lv_at hl 0 rfl) ?_
  refine lv_iconst (v := nI 0) CF.1 CF.2.1 dX1_setRate_1 (by decide) ?_
  refine x1_p_thrown CF hK hP hD hS dX1_setRate_2 (fun σ1 H1 locs hσ1 hP1 hD1 hS1 => ?_)
  have hR : Rc σ1 b := Rc_th hR hσ1
  have hO : Ro σ1 b := Ro_th hO hσ1
  have hT : σ1 0 6 = nI 0 := by rw [hσ1, up_s]
  refine lv_iload_n CF.1 CF.2.1 dX1_setRate_5 rfl (lv_at hl 1 rfl) ?_
  refine cS_i CF (As := [.int (x)]) (rest := []) (c1_isMoney l ((x))) lk_RX1_X1_isMoney rfl hl.1 ⟨Nat.le_of_ble_eq_true rfl, Nat.le_of_ble_eq_true rfl⟩ ⟨Nat.zero_le _, Nat.zero_le _⟩ (Nat.le_of_ble_eq_true rfl) rfl dX1_setRate_6 (fun r_2 hr_3 => ?_)
  rcases hr_3 with ⟨rfl, h_6, h_7⟩ | ⟨rfl, h_8⟩
  · rw [show (1 : Int32) = nI 1 by rfl]
    obtain ⟨j_4, h_5, rfl⟩ := nI_ex (x := x) (n := 5) (by omega) (by omega)
    have hzj_4 := nIz (n := j_4) (by omega)
    refine z_if_eq CF (tgt := 19) (nIz (by omega)) dX1_setRate_9 (by decide) (fun h => absurd h (by decide)) (fun _ => ?_)
    refine lv_iload_n CF.1 CF.2.1 dX1_setRate_12 rfl (lv_at hl 2 rfl) ?_
    refine cS_i CF (As := [.int (y)]) (rest := []) (c1_isMoney l ((y))) lk_RX1_X1_isMoney rfl hl.1 ⟨Nat.le_of_ble_eq_true rfl, Nat.le_of_ble_eq_true rfl⟩ ⟨Nat.zero_le _, Nat.zero_le _⟩ (Nat.le_of_ble_eq_true rfl) rfl dX1_setRate_13 (fun r_11 hr_12 => ?_)
    rcases hr_12 with ⟨rfl, h_15, h_16⟩ | ⟨rfl, h_17⟩
    · rw [show (1 : Int32) = nI 1 by rfl]
      obtain ⟨j_13, h_14, rfl⟩ := nI_ex (x := y) (n := 5) (by omega) (by omega)
      have hzj_13 := nIz (n := j_13) (by omega)
      refine z_if_ne CF (tgt := 25) (nIz (by omega)) dX1_setRate_16 (by decide) (fun _ => ?_) (fun h => absurd h (by decide))
      refine lv_iload_n CF.1 CF.2.1 dX1_setRate_25 rfl (lv_at hl 1 rfl) ?_
      refine lv_iload_n CF.1 CF.2.1 dX1_setRate_26 rfl (lv_at hl 2 rfl) ?_
      refine z_icmp_eq CF (tgt := 41) (nIz (by omega)) (nIz (by omega)) dX1_setRate_27 (by decide) (fun h_20 => ?_) (fun h_21 => ?_)
      · refine lv_aload_n CF.1 CF.2.1 dX1_setRate_41 rfl (lv_at hl 0 rfl) ?_
        refine lv_iconst (v := nI 2) CF.1 CF.2.1 dX1_setRate_42 (by decide) ?_
        refine d1_i CF hK hP1 hj (fun _ h => h) hS1 (As := [.int (nI (2))]) (rest := []) (c1_fail l hj (σ := σ1) (nI 2)) rfl lk_RX1_X1_fail rfl hl.1 ⟨Nat.le_of_ble_eq_true rfl, Nat.le_of_ble_eq_true rfl⟩ ⟨Nat.zero_le _, Nat.zero_le _⟩ (Nat.le_of_ble_eq_true rfl) rfl dX1_setRate_43 (fun r_22 σ24 H24 locs hr_23 hP24 hD24 hS24 hz24 hk24 => ?_)
        obtain ⟨rfl, hF_r_22⟩ := hr_23
        exact W.iret CF.1 CF.2.1 hr (fun t9 ht9 hW9 => ⟨⟨_, σ24, rfl, ⟨Rc_th hR hF_r_22, Ro_th hO hF_r_22, Or.inr (⟨by rw [hF_r_22, up_s], by omega⟩)⟩, by show va_P G vwCl (w1 ad cA σ24) t9.heap; rw [ht9]; exact hP24⟩, hS24.F ht9⟩) hS24.2.2 dX1_setRate_46
      · refine lv_iload_n CF.1 CF.2.1 dX1_setRate_30 rfl (lv_at hl 3 rfl) ?_
        refine lv_iconst (v := nI 0) CF.1 CF.2.1 dX1_setRate_31 (by decide) ?_
        refine lv_sipush (v := nI 9999) CF.1 CF.2.1 dX1_setRate_32 (by decide) ?_
        refine cS_i CF (As := [.int (z), .int (nI (0)), .int (nI (9999))]) (rest := []) (c1_isIn l ((z)) (nI (0)) (nI (9999)) (nIz (by omega)) (nIz (by omega))) lk_RX1_X1_isIn rfl hl.1 ⟨Nat.le_of_ble_eq_true rfl, Nat.le_of_ble_eq_true rfl⟩ ⟨Nat.zero_le _, Nat.zero_le _⟩ (Nat.le_of_ble_eq_true rfl) rfl dX1_setRate_35 (fun r_25 hr_26 => ?_)
        rcases hr_26 with ⟨rfl, h_29, h_30⟩ | ⟨rfl, h_31⟩
        · rw [show (1 : Int32) = nI 1 by rfl]
          obtain ⟨j_27, h_28, rfl⟩ := nI_ex (x := z) (n := 10000) (by omega) (by omega)
          have hzj_27 := nIz (n := j_27) (by omega)
          refine z_if_ne CF (tgt := 47) (nIz (by omega)) dX1_setRate_38 (by decide) (fun _ => ?_) (fun h => absurd h (by decide))
          exact (show False by omega).elim
        · rw [show (0 : Int32) = nI 0 by rfl]
          refine z_if_ne CF (tgt := 47) (nIz (by omega)) dX1_setRate_38 (by decide) (fun h => absurd h (by decide)) (fun _ => ?_)
          refine lv_aload_n CF.1 CF.2.1 dX1_setRate_41 rfl (lv_at hl 0 rfl) ?_
          refine lv_iconst (v := nI 2) CF.1 CF.2.1 dX1_setRate_42 (by decide) ?_
          refine d1_i CF hK hP1 hj (fun _ h => h) hS1 (As := [.int (nI (2))]) (rest := []) (c1_fail l hj (σ := σ1) (nI 2)) rfl lk_RX1_X1_fail rfl hl.1 ⟨Nat.le_of_ble_eq_true rfl, Nat.le_of_ble_eq_true rfl⟩ ⟨Nat.zero_le _, Nat.zero_le _⟩ (Nat.le_of_ble_eq_true rfl) rfl dX1_setRate_43 (fun r_36 σ38 H38 locs hr_37 hP38 hD38 hS38 hz38 hk38 => ?_)
          obtain ⟨rfl, hF_r_36⟩ := hr_37
          exact W.iret CF.1 CF.2.1 hr (fun t9 ht9 hW9 => ⟨⟨_, σ38, rfl, ⟨Rc_th hR hF_r_36, Ro_th hO hF_r_36, Or.inr (⟨by rw [hF_r_36, up_s], by omega⟩)⟩, by show va_P G vwCl (w1 ad cA σ38) t9.heap; rw [ht9]; exact hP38⟩, hS38.F ht9⟩) hS38.2.2 dX1_setRate_46
    · rw [show (0 : Int32) = nI 0 by rfl]
      refine z_if_ne CF (tgt := 25) (nIz (by omega)) dX1_setRate_16 (by decide) (fun h => absurd h (by decide)) (fun _ => ?_)
      refine lv_aload_n CF.1 CF.2.1 dX1_setRate_19 rfl (lv_at hl 0 rfl) ?_
      refine lv_iconst (v := nI 1) CF.1 CF.2.1 dX1_setRate_20 (by decide) ?_
      refine d1_i CF hK hP1 hj (fun _ h => h) hS1 (As := [.int (nI (1))]) (rest := []) (c1_fail l hj (σ := σ1) (nI 1)) rfl lk_RX1_X1_fail rfl hl.1 ⟨Nat.le_of_ble_eq_true rfl, Nat.le_of_ble_eq_true rfl⟩ ⟨Nat.zero_le _, Nat.zero_le _⟩ (Nat.le_of_ble_eq_true rfl) rfl dX1_setRate_21 (fun r_41 σ43 H43 locs hr_42 hP43 hD43 hS43 hz43 hk43 => ?_)
      obtain ⟨rfl, hF_r_41⟩ := hr_42
      exact W.iret CF.1 CF.2.1 hr (fun t9 ht9 hW9 => ⟨⟨_, σ43, rfl, ⟨Rc_th hR hF_r_41, Ro_th hO hF_r_41, Or.inl ⟨by rw [hF_r_41, up_s], by omega⟩⟩, by show va_P G vwCl (w1 ad cA σ43) t9.heap; rw [ht9]; exact hP43⟩, hS43.F ht9⟩) hS43.2.2 dX1_setRate_24
  · rw [show (0 : Int32) = nI 0 by rfl]
    refine z_if_eq CF (tgt := 19) (nIz (by omega)) dX1_setRate_9 (by decide) (fun _ => ?_) (fun h => absurd h (by decide))
    refine lv_aload_n CF.1 CF.2.1 dX1_setRate_19 rfl (lv_at hl 0 rfl) ?_
    refine lv_iconst (v := nI 1) CF.1 CF.2.1 dX1_setRate_20 (by decide) ?_
    refine d1_i CF hK hP1 hj (fun _ h => h) hS1 (As := [.int (nI (1))]) (rest := []) (c1_fail l hj (σ := σ1) (nI 1)) rfl lk_RX1_X1_fail rfl hl.1 ⟨Nat.le_of_ble_eq_true rfl, Nat.le_of_ble_eq_true rfl⟩ ⟨Nat.zero_le _, Nat.zero_le _⟩ (Nat.le_of_ble_eq_true rfl) rfl dX1_setRate_21 (fun r_46 σ48 H48 locs hr_47 hP48 hD48 hS48 hz48 hk48 => ?_)
    obtain ⟨rfl, hF_r_46⟩ := hr_47
    exact W.iret CF.1 CF.2.1 hr (fun t9 ht9 hW9 => ⟨⟨_, σ48, rfl, ⟨Rc_th hR hF_r_46, Ro_th hO hF_r_46, Or.inl ⟨by rw [hF_r_46, up_s], by omega⟩⟩, by show va_P G vwCl (w1 ad cA σ48) t9.heap; rw [ht9]; exact hP48⟩, hS48.F ht9⟩) hS48.2.2 dX1_setRate_24
set_option maxHeartbeats 1000000 in
set_option maxRecDepth 100000 in
theorem c1_setSpread (l : Launch) {G : va_G} {cA : ClassId} {ad : Nat → Nat} {σ : RS} (hj : inj8 ad) {b : BS} (hI : InvC b) (hR : Rc σ b) (hO : Ro σ b) (hOi : InvO b) {v : Nat} (hv : v ≤ 50) : Met l yX1_setSpread (ws_ yX1_setSpread cX1_setSpread 2 (some .int)) (rmk 8 0 0) (pc1 G cA ad σ [.ref (ad 0), .int (nI (v))]) (va_Qi (fun (r : Int32) (σ' : RS) => r = nI (b 0 3 - s_spread b v 0 3) ∧ Rc σ' (s_spread b v) ∧ Ro σ' (s_spread b v) ∧ σ' 0 6 = nI 0) (fun σ' t => va_P G vwCl (w1 ad cA σ') t.heap) (own8 ad)) 0 0 (own8 ad) := by
  refine Met.ofW (cc := cX1_setSpread) (maxL := 2) (ret := (some .int)) (by decide) rfl ?_
  intro p e s m args below meth c s₁ B hml hv
  obtain ⟨rfl, hP, hK⟩ := hv
  have CF : CallFix p m c cX1_setSpread 2 s _ AW RX1 := ⟨B.exec, B.bytes, hml, findClass_of_methodNamed B.named, fun w h => atoms_spec (ws := ws_ yX1_setSpread cX1_setSpread 2 (some .int)) B.pre w (List.mem_cons_of_mem _ h)⟩
  have hr := B.returns
  have hlocks := B.notSynchronized
  have hl := lv_entry ([.ref (ad 0), .int (nI (v))]) (n := 2) (Nat.le_of_ble_eq_true rfl)
  rw [lg_entry_eq]
  generalize (lg_sl ([.ref (ad 0), .int (nI (v))]) ++ List.replicate (2 - (lg_sl ([.ref (ad 0), .int (nI (v))])).length) Slot.unset).toArray = ls at hl ⊢
  have hl : lv_has ls 2 [(0, .ref (ad 0)), (1, .int (nI (v)))] := hl
  have hD : va_D (own8 ad) (w1 ad cA σ) := w1_D hj (fun _ h => h)
  have hS : va_S (own8 ad) s.heap s.heap [] := va_S.rf
  obtain ⟨i_sp, i_cu, i_ra, i_di, i_mo, i_pu⟩ := id hI
  have hw10 := hOi.1
  refine lv_aload_n CF.1 CF.2.1 dX1_setSpread_0 rfl (lv_at hl 0 rfl) ?_
  refine lv_iconst (v := nI 0) CF.1 CF.2.1 dX1_setSpread_1 (by decide) ?_
  refine x1_p_thrown CF hK hP hD hS dX1_setSpread_2 (fun σ1 H1 locs hσ1 hP1 hD1 hS1 => ?_)
  have hR : Rc σ1 b := Rc_th hR hσ1
  have hO : Ro σ1 b := Ro_th hO hσ1
  have hT : σ1 0 6 = nI 0 := by rw [hσ1, up_s]
  refine lv_iload_n CF.1 CF.2.1 dX1_setSpread_5 rfl (lv_at hl 1 rfl) ?_
  refine lv_iconst (v := nI 0) CF.1 CF.2.1 dX1_setSpread_6 (by decide) ?_
  refine lv_bipush (v := nI 50) CF.1 CF.2.1 dX1_setSpread_7 (by decide) ?_
  refine cS_i CF (As := [.int (nI (v)), .int (nI (0)), .int (nI (50))]) (rest := []) (c1_isIn l (nI (v)) (nI (0)) (nI (50)) (nIz (by omega)) (nIz (by omega))) lk_RX1_X1_isIn rfl hl.1 ⟨Nat.le_of_ble_eq_true rfl, Nat.le_of_ble_eq_true rfl⟩ ⟨Nat.zero_le _, Nat.zero_le _⟩ (Nat.le_of_ble_eq_true rfl) rfl dX1_setSpread_9 (fun r_2 hr_3 => ?_)
  have hxhr_3 := nIz (n := v) (by omega)
  rcases hr_3 with ⟨rfl, -, -⟩ | ⟨rfl, h9⟩
  rotate_left
  · exact absurd h9 (by rw [hxhr_3]; omega)
  rw [show (1 : Int32) = nI 1 by rfl]
  refine z_if_ne CF (tgt := 21) (nIz (by omega)) dX1_setSpread_12 (by decide) (fun _ => ?_) (fun h => absurd h (by decide))
  refine lv_aload_n CF.1 CF.2.1 dX1_setSpread_21 rfl (lv_at hl 0 rfl) ?_
  refine lv_iload_n CF.1 CF.2.1 dX1_setSpread_22 rfl (lv_at hl 1 rfl) ?_
  refine x1_p_spread CF hK hP1 hD1 hS1 dX1_setSpread_23 (fun σ6 H6 locs hσ6 hP6 hD6 hS6 => ?_)
  have hR6 : Rc σ6 (upN (b) 0 (1) (v)) := by rw [hσ6]; exact Rc_up hR 0 (1) (v)
  have hM6 : Sm σ1 σ6 := by rw [hσ6]; exact Sm_up Sm_rf ⟨by decide, Or.inr ⟨by decide, by decide, by decide⟩⟩
  refine lv_aload_n CF.1 CF.2.1 dX1_setSpread_26 rfl (lv_at hl 0 rfl) ?_
  refine d1_i CF hK hP6 hj (fun _ h => h) hS6 (As := []) (rest := []) (c1_lookAt l hj (b := upN (b) 0 (1) (v)) (InvC_up hI (Or.inr (Or.inl ⟨rfl, rfl, hv⟩))) hR6 (Ro_sm hO hM6 (by simp [upN]) (by simp [upN]) (fun j => by simp [upN])) (InvO_to hOi (by simp [upN]) (by simp [upN]) (fun j => by simp [upN]))) rfl lk_RX1_X1_lookAt rfl hl.1 ⟨Nat.le_of_ble_eq_true rfl, Nat.le_of_ble_eq_true rfl⟩ ⟨Nat.zero_le _, Nat.zero_le _⟩ (Nat.le_of_ble_eq_true rfl) rfl dX1_setSpread_27 (fun r_7 σ9 H9 locs hr_8 hP9 hD9 hS9 hz9 hk9 => ?_)
  obtain ⟨rfl, hr_8b, hr_8c, hr_8d⟩ := hr_8
  exact W.iret CF.1 CF.2.1 hr (fun t9 ht9 hW9 => ⟨⟨_, σ9, rfl, ⟨rfl, hr_8b, hr_8c, hr_8d.trans (hM6.2.2.2.trans hT)⟩, by show va_P G vwCl (w1 ad cA σ9) t9.heap; rw [ht9]; exact hP9⟩, hS9.F ht9⟩) hS9.2.2 dX1_setSpread_30
set_option maxHeartbeats 1000000 in
set_option maxRecDepth 100000 in
theorem b1_setSpread (l : Launch) {G : va_G} {cA : ClassId} {ad : Nat → Nat} {σ : RS} (hj : inj8 ad) {b : BS} (hI : InvC b) (hR : Rc σ b) (hO : Ro σ b) (hOi : InvO b) (x : Int32) (hbad : ¬ (0 ≤ x.toInt ∧ x.toInt ≤ 50)) : Met l yX1_setSpread (ws_ yX1_setSpread cX1_setSpread 2 (some .int)) (rmk 8 0 0) (pc1 G cA ad σ [.ref (ad 0), .int (x)]) (va_Qi (fun (_ : Int32) (σ' : RS) => Rc σ' b ∧ Ro σ' b ∧ ((σ' 0 6 = nI 1 ∧ (True)))) (fun σ' t => va_P G vwCl (w1 ad cA σ') t.heap) (own8 ad)) 0 0 (own8 ad) := by
  refine Met.ofW (cc := cX1_setSpread) (maxL := 2) (ret := (some .int)) (by decide) rfl ?_
  intro p e s m args below meth c s₁ B hml hv
  obtain ⟨rfl, hP, hK⟩ := hv
  have CF : CallFix p m c cX1_setSpread 2 s _ AW RX1 := ⟨B.exec, B.bytes, hml, findClass_of_methodNamed B.named, fun w h => atoms_spec (ws := ws_ yX1_setSpread cX1_setSpread 2 (some .int)) B.pre w (List.mem_cons_of_mem _ h)⟩
  have hr := B.returns
  have hlocks := B.notSynchronized
  have hl := lv_entry ([.ref (ad 0), .int (x)]) (n := 2) (Nat.le_of_ble_eq_true rfl)
  rw [lg_entry_eq]
  generalize (lg_sl ([.ref (ad 0), .int (x)]) ++ List.replicate (2 - (lg_sl ([.ref (ad 0), .int (x)])).length) Slot.unset).toArray = ls at hl ⊢
  have hl : lv_has ls 2 [(0, .ref (ad 0)), (1, .int (x))] := hl
  have hD : va_D (own8 ad) (w1 ad cA σ) := w1_D hj (fun _ h => h)
  have hS : va_S (own8 ad) s.heap s.heap [] := va_S.rf
  obtain ⟨i_sp, i_cu, i_ra, i_di, i_mo, i_pu⟩ := id hI
  have hw10 := hOi.1
  refine lv_aload_n CF.1 CF.2.1 dX1_setSpread_0 rfl (lv_at hl 0 rfl) ?_
  refine lv_iconst (v := nI 0) CF.1 CF.2.1 dX1_setSpread_1 (by decide) ?_
  refine x1_p_thrown CF hK hP hD hS dX1_setSpread_2 (fun σ1 H1 locs hσ1 hP1 hD1 hS1 => ?_)
  have hR : Rc σ1 b := Rc_th hR hσ1
  have hO : Ro σ1 b := Ro_th hO hσ1
  have hT : σ1 0 6 = nI 0 := by rw [hσ1, up_s]
  refine lv_iload_n CF.1 CF.2.1 dX1_setSpread_5 rfl (lv_at hl 1 rfl) ?_
  refine lv_iconst (v := nI 0) CF.1 CF.2.1 dX1_setSpread_6 (by decide) ?_
  refine lv_bipush (v := nI 50) CF.1 CF.2.1 dX1_setSpread_7 (by decide) ?_
  refine cS_i CF (As := [.int (x), .int (nI (0)), .int (nI (50))]) (rest := []) (c1_isIn l ((x)) (nI (0)) (nI (50)) (nIz (by omega)) (nIz (by omega))) lk_RX1_X1_isIn rfl hl.1 ⟨Nat.le_of_ble_eq_true rfl, Nat.le_of_ble_eq_true rfl⟩ ⟨Nat.zero_le _, Nat.zero_le _⟩ (Nat.le_of_ble_eq_true rfl) rfl dX1_setSpread_9 (fun r_2 hr_3 => ?_)
  rcases hr_3 with ⟨rfl, h_6, h_7⟩ | ⟨rfl, h_8⟩
  · rw [show (1 : Int32) = nI 1 by rfl]
    obtain ⟨j_4, h_5, rfl⟩ := nI_ex (x := x) (n := 51) (by omega) (by omega)
    have hzj_4 := nIz (n := j_4) (by omega)
    refine z_if_ne CF (tgt := 21) (nIz (by omega)) dX1_setSpread_12 (by decide) (fun _ => ?_) (fun h => absurd h (by decide))
    exact (show False by omega).elim
  · rw [show (0 : Int32) = nI 0 by rfl]
    refine z_if_ne CF (tgt := 21) (nIz (by omega)) dX1_setSpread_12 (by decide) (fun h => absurd h (by decide)) (fun _ => ?_)
    refine lv_aload_n CF.1 CF.2.1 dX1_setSpread_15 rfl (lv_at hl 0 rfl) ?_
    refine lv_iconst (v := nI 1) CF.1 CF.2.1 dX1_setSpread_16 (by decide) ?_
    refine d1_i CF hK hP1 hj (fun _ h => h) hS1 (As := [.int (nI (1))]) (rest := []) (c1_fail l hj (σ := σ1) (nI 1)) rfl lk_RX1_X1_fail rfl hl.1 ⟨Nat.le_of_ble_eq_true rfl, Nat.le_of_ble_eq_true rfl⟩ ⟨Nat.zero_le _, Nat.zero_le _⟩ (Nat.le_of_ble_eq_true rfl) rfl dX1_setSpread_17 (fun r_13 σ15 H15 locs hr_14 hP15 hD15 hS15 hz15 hk15 => ?_)
    obtain ⟨rfl, hF_r_13⟩ := hr_14
    exact W.iret CF.1 CF.2.1 hr (fun t9 ht9 hW9 => ⟨⟨_, σ15, rfl, ⟨Rc_th hR hF_r_13, Ro_th hO hF_r_13, ⟨by rw [hF_r_13, up_s], trivial⟩⟩, by show va_P G vwCl (w1 ad cA σ15) t9.heap; rw [ht9]; exact hP15⟩, hS15.F ht9⟩) hS15.2.2 dX1_setSpread_20
set_option maxHeartbeats 1000000 in
set_option maxRecDepth 100000 in
theorem c1_setLimit (l : Launch) {G : va_G} {cA : ClassId} {ad : Nat → Nat} {σ : RS} (hj : inj8 ad) {b : BS} (hI : InvC b) (hR : Rc σ b) (hO : Ro σ b) (hOi : InvO b) {t v : Nat} (ht : t < 5) (hv : v ≤ 99999) : Met l yX1_setLimit (ws_ yX1_setLimit cX1_setLimit 4 (some .int)) (rmk 8 0 0) (pc1 G cA ad σ [.ref (ad 0), .int (nI (t)), .int (nI (v))]) (va_Qi (fun (r : Int32) (σ' : RS) => r = nI (b 4 t) ∧ Rc σ' (upN b 4 t v) ∧ Ro σ' (upN b 4 t v) ∧ σ' 0 6 = nI 0) (fun σ' t => va_P G vwCl (w1 ad cA σ') t.heap) (own8 ad)) 0 0 (own8 ad) := by
  refine Met.ofW (cc := cX1_setLimit) (maxL := 4) (ret := (some .int)) (by decide) rfl ?_
  intro p e s m args below meth c s₁ B hml hv
  obtain ⟨rfl, hP, hK⟩ := hv
  have CF : CallFix p m c cX1_setLimit 4 s _ AW RX1 := ⟨B.exec, B.bytes, hml, findClass_of_methodNamed B.named, fun w h => atoms_spec (ws := ws_ yX1_setLimit cX1_setLimit 4 (some .int)) B.pre w (List.mem_cons_of_mem _ h)⟩
  have hr := B.returns
  have hlocks := B.notSynchronized
  have hl := lv_entry ([.ref (ad 0), .int (nI (t)), .int (nI (v))]) (n := 4) (Nat.le_of_ble_eq_true rfl)
  rw [lg_entry_eq]
  generalize (lg_sl ([.ref (ad 0), .int (nI (t)), .int (nI (v))]) ++ List.replicate (4 - (lg_sl ([.ref (ad 0), .int (nI (t)), .int (nI (v))])).length) Slot.unset).toArray = ls at hl ⊢
  have hl : lv_has ls 4 [(0, .ref (ad 0)), (1, .int (nI (t))), (2, .int (nI (v)))] := hl
  have hD : va_D (own8 ad) (w1 ad cA σ) := w1_D hj (fun _ h => h)
  have hS : va_S (own8 ad) s.heap s.heap [] := va_S.rf
  obtain ⟨i_sp, i_cu, i_ra, i_di, i_mo, i_pu⟩ := id hI
  have hw10 := hOi.1
  refine lv_aload_n CF.1 CF.2.1 dX1_setLimit_0 rfl (lv_at hl 0 rfl) ?_
  refine lv_iconst (v := nI 0) CF.1 CF.2.1 dX1_setLimit_1 (by decide) ?_
  refine x1_p_thrown CF hK hP hD hS dX1_setLimit_2 (fun σ1 H1 locs hσ1 hP1 hD1 hS1 => ?_)
  have hR : Rc σ1 b := Rc_th hR hσ1
  have hO : Ro σ1 b := Ro_th hO hσ1
  have hT : σ1 0 6 = nI 0 := by rw [hσ1, up_s]
  refine lv_iload_n CF.1 CF.2.1 dX1_setLimit_5 rfl (lv_at hl 1 rfl) ?_
  refine cS_i CF (As := [.int (nI (t))]) (rest := []) (c1_isMoney l (nI (t))) lk_RX1_X1_isMoney rfl hl.1 ⟨Nat.le_of_ble_eq_true rfl, Nat.le_of_ble_eq_true rfl⟩ ⟨Nat.zero_le _, Nat.zero_le _⟩ (Nat.le_of_ble_eq_true rfl) rfl dX1_setLimit_6 (fun r_2 hr_3 => ?_)
  have hxh_4 := nIz (n := t) (by omega)
  rcases hr_3 with ⟨rfl, -, -⟩ | ⟨rfl, h9⟩
  rotate_left
  · exact absurd h9 (by rw [hxh_4]; omega)
  rw [show (1 : Int32) = nI 1 by rfl]
  refine z_if_ne CF (tgt := 18) (nIz (by omega)) dX1_setLimit_9 (by decide) (fun _ => ?_) (fun h => absurd h (by decide))
  refine lv_iload_n CF.1 CF.2.1 dX1_setLimit_18 rfl (lv_at hl 2 rfl) ?_
  refine lv_iconst (v := nI 0) CF.1 CF.2.1 dX1_setLimit_19 (by decide) ?_
  refine lv_ldc (v := nI 99999) CF.1 CF.2.1 CF.2.2.2.1 (CF.2.2.2.2 _ (inr_9 _ (List.mem_of_getElem? (i := 21) rfl))) dX1_setLimit_20 ?_
  refine cS_i CF (As := [.int (nI (v)), .int (nI (0)), .int (nI (99999))]) (rest := []) (c1_isIn l (nI (v)) (nI (0)) (nI (99999)) (nIz (by omega)) (nIz (by omega))) lk_RX1_X1_isIn rfl hl.1 ⟨Nat.le_of_ble_eq_true rfl, Nat.le_of_ble_eq_true rfl⟩ ⟨Nat.zero_le _, Nat.zero_le _⟩ (Nat.le_of_ble_eq_true rfl) rfl dX1_setLimit_22 (fun r_7 hr_8 => ?_)
  have hxhr_8 := nIz (n := v) (by omega)
  rcases hr_8 with ⟨rfl, -, -⟩ | ⟨rfl, h9⟩
  rotate_left
  · exact absurd h9 (by rw [hxhr_8]; omega)
  rw [show (1 : Int32) = nI 1 by rfl]
  refine z_if_ne CF (tgt := 34) (nIz (by omega)) dX1_setLimit_25 (by decide) (fun _ => ?_) (fun h => absurd h (by decide))
  refine lv_aload_n CF.1 CF.2.1 dX1_setLimit_34 rfl (lv_at hl 0 rfl) ?_
  refine x1_g_limits CF hK hP1 dX1_setLimit_35 ?_
  refine lv_iload_n CF.1 CF.2.1 dX1_setLimit_38 rfl (lv_at hl 1 rfl) ?_
  refine x1_ald4 CF hK hP1 (i := t) (by omega) (v := (nI (b 4 (t)))) (hR.a4 (by omega)) dX1_setLimit_39 ?_
  refine lv_istore_n (lv' := [(3, .int (nI (b 4 (t)))), (0, .ref (ad 0)), (1, .int (nI (t))), (2, .int (nI (v)))]) CF.1 CF.2.1 dX1_setLimit_40 rfl hl (by decide) rfl (fun ls hl => ?_)
  refine lv_aload_n CF.1 CF.2.1 dX1_setLimit_41 rfl (lv_at hl 1 rfl) ?_
  refine x1_g_limits CF hK hP1 dX1_setLimit_42 ?_
  refine lv_iload_n CF.1 CF.2.1 dX1_setLimit_45 rfl (lv_at hl 2 rfl) ?_
  refine lv_iload_n CF.1 CF.2.1 dX1_setLimit_46 rfl (lv_at hl 3 rfl) ?_
  refine x1_ast4 CF hK hP1 hD1 hS1 (i := t) (by omega) dX1_setLimit_47 (fun σ11 H11 locs hσ11 hP11 hD11 hS11 => ?_)
  have hR11 : Rc σ11 (upN (b) 4 (t) (v)) := by rw [hσ11]; exact Rc_up hR 4 (t) (v)
  have hM11 : Sm σ1 σ11 := by rw [hσ11]; exact Sm_up Sm_rf ⟨by decide, Or.inl (by decide)⟩
  refine lv_iload_n CF.1 CF.2.1 dX1_setLimit_48 rfl (lv_at hl 0 rfl) ?_
  exact W.iret CF.1 CF.2.1 hr (fun t9 ht9 hW9 => ⟨⟨_, σ11, rfl, ⟨rfl, hR11, (Ro_sm hO hM11 (by simp [upN]) (by simp [upN]) (fun j => by simp [upN])), (hM11.2.2.2.trans hT)⟩, by show va_P G vwCl (w1 ad cA σ11) t9.heap; rw [ht9]; exact hP11⟩, hS11.F ht9⟩) hS11.2.2 dX1_setLimit_49
set_option maxHeartbeats 1000000 in
set_option maxRecDepth 100000 in
theorem b1_setLimit (l : Launch) {G : va_G} {cA : ClassId} {ad : Nat → Nat} {σ : RS} (hj : inj8 ad) {b : BS} (hI : InvC b) (hR : Rc σ b) (hO : Ro σ b) (hOi : InvO b) (x z : Int32) (hbad : ¬ (0 ≤ x.toInt ∧ x.toInt < 5 ∧ 0 ≤ z.toInt ∧ z.toInt ≤ 99999)) : Met l yX1_setLimit (ws_ yX1_setLimit cX1_setLimit 4 (some .int)) (rmk 8 0 0) (pc1 G cA ad σ [.ref (ad 0), .int (x), .int (z)]) (va_Qi (fun (_ : Int32) (σ' : RS) => Rc σ' b ∧ Ro σ' b ∧ ((σ' 0 6 = nI 1 ∧ (¬ (0 ≤ x.toInt ∧ x.toInt < 5))) ∨ (σ' 0 6 = nI 2 ∧ (0 ≤ x.toInt ∧ x.toInt < 5)))) (fun σ' t => va_P G vwCl (w1 ad cA σ') t.heap) (own8 ad)) 0 0 (own8 ad) := by
  refine Met.ofW (cc := cX1_setLimit) (maxL := 4) (ret := (some .int)) (by decide) rfl ?_
  intro p e s m args below meth c s₁ B hml hv
  obtain ⟨rfl, hP, hK⟩ := hv
  have CF : CallFix p m c cX1_setLimit 4 s _ AW RX1 := ⟨B.exec, B.bytes, hml, findClass_of_methodNamed B.named, fun w h => atoms_spec (ws := ws_ yX1_setLimit cX1_setLimit 4 (some .int)) B.pre w (List.mem_cons_of_mem _ h)⟩
  have hr := B.returns
  have hlocks := B.notSynchronized
  have hl := lv_entry ([.ref (ad 0), .int (x), .int (z)]) (n := 4) (Nat.le_of_ble_eq_true rfl)
  rw [lg_entry_eq]
  generalize (lg_sl ([.ref (ad 0), .int (x), .int (z)]) ++ List.replicate (4 - (lg_sl ([.ref (ad 0), .int (x), .int (z)])).length) Slot.unset).toArray = ls at hl ⊢
  have hl : lv_has ls 4 [(0, .ref (ad 0)), (1, .int (x)), (2, .int (z))] := hl
  have hD : va_D (own8 ad) (w1 ad cA σ) := w1_D hj (fun _ h => h)
  have hS : va_S (own8 ad) s.heap s.heap [] := va_S.rf
  obtain ⟨i_sp, i_cu, i_ra, i_di, i_mo, i_pu⟩ := id hI
  have hw10 := hOi.1
  refine lv_aload_n CF.1 CF.2.1 dX1_setLimit_0 rfl (lv_at hl 0 rfl) ?_
  refine lv_iconst (v := nI 0) CF.1 CF.2.1 dX1_setLimit_1 (by decide) ?_
  refine x1_p_thrown CF hK hP hD hS dX1_setLimit_2 (fun σ1 H1 locs hσ1 hP1 hD1 hS1 => ?_)
  have hR : Rc σ1 b := Rc_th hR hσ1
  have hO : Ro σ1 b := Ro_th hO hσ1
  have hT : σ1 0 6 = nI 0 := by rw [hσ1, up_s]
  refine lv_iload_n CF.1 CF.2.1 dX1_setLimit_5 rfl (lv_at hl 1 rfl) ?_
  refine cS_i CF (As := [.int (x)]) (rest := []) (c1_isMoney l ((x))) lk_RX1_X1_isMoney rfl hl.1 ⟨Nat.le_of_ble_eq_true rfl, Nat.le_of_ble_eq_true rfl⟩ ⟨Nat.zero_le _, Nat.zero_le _⟩ (Nat.le_of_ble_eq_true rfl) rfl dX1_setLimit_6 (fun r_2 hr_3 => ?_)
  rcases hr_3 with ⟨rfl, h_6, h_7⟩ | ⟨rfl, h_8⟩
  · rw [show (1 : Int32) = nI 1 by rfl]
    obtain ⟨j_4, h_5, rfl⟩ := nI_ex (x := x) (n := 5) (by omega) (by omega)
    have hzj_4 := nIz (n := j_4) (by omega)
    refine z_if_ne CF (tgt := 18) (nIz (by omega)) dX1_setLimit_9 (by decide) (fun _ => ?_) (fun h => absurd h (by decide))
    refine lv_iload_n CF.1 CF.2.1 dX1_setLimit_18 rfl (lv_at hl 2 rfl) ?_
    refine lv_iconst (v := nI 0) CF.1 CF.2.1 dX1_setLimit_19 (by decide) ?_
    refine lv_ldc (v := nI 99999) CF.1 CF.2.1 CF.2.2.2.1 (CF.2.2.2.2 _ (inr_9 _ (List.mem_of_getElem? (i := 21) rfl))) dX1_setLimit_20 ?_
    refine cS_i CF (As := [.int (z), .int (nI (0)), .int (nI (99999))]) (rest := []) (c1_isIn l ((z)) (nI (0)) (nI (99999)) (nIz (by omega)) (nIz (by omega))) lk_RX1_X1_isIn rfl hl.1 ⟨Nat.le_of_ble_eq_true rfl, Nat.le_of_ble_eq_true rfl⟩ ⟨Nat.zero_le _, Nat.zero_le _⟩ (Nat.le_of_ble_eq_true rfl) rfl dX1_setLimit_22 (fun r_11 hr_12 => ?_)
    rcases hr_12 with ⟨rfl, h_15, h_16⟩ | ⟨rfl, h_17⟩
    · rw [show (1 : Int32) = nI 1 by rfl]
      obtain ⟨j_13, h_14, rfl⟩ := nI_ex (x := z) (n := 100000) (by omega) (by omega)
      have hzj_13 := nIz (n := j_13) (by omega)
      refine z_if_ne CF (tgt := 34) (nIz (by omega)) dX1_setLimit_25 (by decide) (fun _ => ?_) (fun h => absurd h (by decide))
      exact (show False by omega).elim
    · rw [show (0 : Int32) = nI 0 by rfl]
      refine z_if_ne CF (tgt := 34) (nIz (by omega)) dX1_setLimit_25 (by decide) (fun h => absurd h (by decide)) (fun _ => ?_)
      refine lv_aload_n CF.1 CF.2.1 dX1_setLimit_28 rfl (lv_at hl 0 rfl) ?_
      refine lv_iconst (v := nI 2) CF.1 CF.2.1 dX1_setLimit_29 (by decide) ?_
      refine d1_i CF hK hP1 hj (fun _ h => h) hS1 (As := [.int (nI (2))]) (rest := []) (c1_fail l hj (σ := σ1) (nI 2)) rfl lk_RX1_X1_fail rfl hl.1 ⟨Nat.le_of_ble_eq_true rfl, Nat.le_of_ble_eq_true rfl⟩ ⟨Nat.zero_le _, Nat.zero_le _⟩ (Nat.le_of_ble_eq_true rfl) rfl dX1_setLimit_30 (fun r_22 σ24 H24 locs hr_23 hP24 hD24 hS24 hz24 hk24 => ?_)
      obtain ⟨rfl, hF_r_22⟩ := hr_23
      exact W.iret CF.1 CF.2.1 hr (fun t9 ht9 hW9 => ⟨⟨_, σ24, rfl, ⟨Rc_th hR hF_r_22, Ro_th hO hF_r_22, Or.inr (⟨by rw [hF_r_22, up_s], by omega⟩)⟩, by show va_P G vwCl (w1 ad cA σ24) t9.heap; rw [ht9]; exact hP24⟩, hS24.F ht9⟩) hS24.2.2 dX1_setLimit_33
  · rw [show (0 : Int32) = nI 0 by rfl]
    refine z_if_ne CF (tgt := 18) (nIz (by omega)) dX1_setLimit_9 (by decide) (fun h => absurd h (by decide)) (fun _ => ?_)
    refine lv_aload_n CF.1 CF.2.1 dX1_setLimit_12 rfl (lv_at hl 0 rfl) ?_
    refine lv_iconst (v := nI 1) CF.1 CF.2.1 dX1_setLimit_13 (by decide) ?_
    refine d1_i CF hK hP1 hj (fun _ h => h) hS1 (As := [.int (nI (1))]) (rest := []) (c1_fail l hj (σ := σ1) (nI 1)) rfl lk_RX1_X1_fail rfl hl.1 ⟨Nat.le_of_ble_eq_true rfl, Nat.le_of_ble_eq_true rfl⟩ ⟨Nat.zero_le _, Nat.zero_le _⟩ (Nat.le_of_ble_eq_true rfl) rfl dX1_setLimit_14 (fun r_27 σ29 H29 locs hr_28 hP29 hD29 hS29 hz29 hk29 => ?_)
    obtain ⟨rfl, hF_r_27⟩ := hr_28
    exact W.iret CF.1 CF.2.1 hr (fun t9 ht9 hW9 => ⟨⟨_, σ29, rfl, ⟨Rc_th hR hF_r_27, Ro_th hO hF_r_27, Or.inl ⟨by rw [hF_r_27, up_s], by omega⟩⟩, by show va_P G vwCl (w1 ad cA σ29) t9.heap; rw [ht9]; exact hP29⟩, hS29.F ht9⟩) hS29.2.2 dX1_setLimit_17
set_option maxHeartbeats 1000000 in
set_option maxRecDepth 100000 in
theorem c1_stock (l : Launch) {G : va_G} {cA : ClassId} {ad : Nat → Nat} {σ : RS} (hj : inj8 ad) {b : BS} (hI : InvC b) (hR : Rc σ b) (hO : Ro σ b) (hOi : InvO b) {t v : Nat} (ht : t < 5) (hv0 : 1 ≤ v) (hv : v ≤ 99999) : Met l yX1_stock (ws_ yX1_stock cX1_stock 3 (some .int)) (rmk 8 0 0) (pc1 G cA ad σ [.ref (ad 0), .int (nI (t)), .int (nI (v))]) (va_Qi (fun (r : Int32) (σ' : RS) => r = nI (min (b 2 t + v) 999999) ∧ Rc σ' (upN b 2 t (min (b 2 t + v) 999999)) ∧ Ro σ' (upN b 2 t (min (b 2 t + v) 999999)) ∧ σ' 0 6 = nI 0) (fun σ' t => va_P G vwCl (w1 ad cA σ') t.heap) (own8 ad)) 0 0 (own8 ad) := by
  refine Met.ofW (cc := cX1_stock) (maxL := 3) (ret := (some .int)) (by decide) rfl ?_
  intro p e s m args below meth c s₁ B hml hv
  obtain ⟨rfl, hP, hK⟩ := hv
  have CF : CallFix p m c cX1_stock 3 s _ AW RX1 := ⟨B.exec, B.bytes, hml, findClass_of_methodNamed B.named, fun w h => atoms_spec (ws := ws_ yX1_stock cX1_stock 3 (some .int)) B.pre w (List.mem_cons_of_mem _ h)⟩
  have hr := B.returns
  have hlocks := B.notSynchronized
  have hl := lv_entry ([.ref (ad 0), .int (nI (t)), .int (nI (v))]) (n := 3) (Nat.le_of_ble_eq_true rfl)
  rw [lg_entry_eq]
  generalize (lg_sl ([.ref (ad 0), .int (nI (t)), .int (nI (v))]) ++ List.replicate (3 - (lg_sl ([.ref (ad 0), .int (nI (t)), .int (nI (v))])).length) Slot.unset).toArray = ls at hl ⊢
  have hl : lv_has ls 3 [(0, .ref (ad 0)), (1, .int (nI (t))), (2, .int (nI (v)))] := hl
  have hD : va_D (own8 ad) (w1 ad cA σ) := w1_D hj (fun _ h => h)
  have hS : va_S (own8 ad) s.heap s.heap [] := va_S.rf
  obtain ⟨i_sp, i_cu, i_ra, i_di, i_mo, i_pu⟩ := id hI
  have hw10 := hOi.1
  have h_mo := i_mo t ht
  refine lv_aload_n CF.1 CF.2.1 dX1_stock_0 rfl (lv_at hl 0 rfl) ?_
  refine lv_iconst (v := nI 0) CF.1 CF.2.1 dX1_stock_1 (by decide) ?_
  refine x1_p_thrown CF hK hP hD hS dX1_stock_2 (fun σ1 H1 locs hσ1 hP1 hD1 hS1 => ?_)
  have hR : Rc σ1 b := Rc_th hR hσ1
  have hO : Ro σ1 b := Ro_th hO hσ1
  have hT : σ1 0 6 = nI 0 := by rw [hσ1, up_s]
  refine lv_iload_n CF.1 CF.2.1 dX1_stock_5 rfl (lv_at hl 1 rfl) ?_
  refine cS_i CF (As := [.int (nI (t))]) (rest := []) (c1_isMoney l (nI (t))) lk_RX1_X1_isMoney rfl hl.1 ⟨Nat.le_of_ble_eq_true rfl, Nat.le_of_ble_eq_true rfl⟩ ⟨Nat.zero_le _, Nat.zero_le _⟩ (Nat.le_of_ble_eq_true rfl) rfl dX1_stock_6 (fun r_2 hr_3 => ?_)
  have hxh_4 := nIz (n := t) (by omega)
  rcases hr_3 with ⟨rfl, -, -⟩ | ⟨rfl, h9⟩
  rotate_left
  · exact absurd h9 (by rw [hxh_4]; omega)
  rw [show (1 : Int32) = nI 1 by rfl]
  refine z_if_ne CF (tgt := 18) (nIz (by omega)) dX1_stock_9 (by decide) (fun _ => ?_) (fun h => absurd h (by decide))
  refine lv_iload_n CF.1 CF.2.1 dX1_stock_18 rfl (lv_at hl 2 rfl) ?_
  refine lv_iconst (v := nI 1) CF.1 CF.2.1 dX1_stock_19 (by decide) ?_
  refine lv_ldc (v := nI 99999) CF.1 CF.2.1 CF.2.2.2.1 (CF.2.2.2.2 _ (inr_9 _ (List.mem_of_getElem? (i := 21) rfl))) dX1_stock_20 ?_
  refine cS_i CF (As := [.int (nI (v)), .int (nI (1)), .int (nI (99999))]) (rest := []) (c1_isIn l (nI (v)) (nI (1)) (nI (99999)) (nIz (by omega)) (nIz (by omega))) lk_RX1_X1_isIn rfl hl.1 ⟨Nat.le_of_ble_eq_true rfl, Nat.le_of_ble_eq_true rfl⟩ ⟨Nat.zero_le _, Nat.zero_le _⟩ (Nat.le_of_ble_eq_true rfl) rfl dX1_stock_22 (fun r_7 hr_8 => ?_)
  have hxhr_8 := nIz (n := v) (by omega)
  rcases hr_8 with ⟨rfl, -, -⟩ | ⟨rfl, h9⟩
  rotate_left
  · exact absurd h9 (by rw [hxhr_8]; omega)
  rw [show (1 : Int32) = nI 1 by rfl]
  refine z_if_ne CF (tgt := 34) (nIz (by omega)) dX1_stock_25 (by decide) (fun _ => ?_) (fun h => absurd h (by decide))
  refine lv_aload_n CF.1 CF.2.1 dX1_stock_34 rfl (lv_at hl 0 rfl) ?_
  refine x1_g_stocks CF hK hP1 dX1_stock_35 ?_
  refine lv_iload_n CF.1 CF.2.1 dX1_stock_38 rfl (lv_at hl 1 rfl) ?_
  refine lv_ldc (v := nI 999999) CF.1 CF.2.1 CF.2.2.2.1 (CF.2.2.2.2 _ (inr_8 _ (List.mem_of_getElem? (i := 5) rfl))) dX1_stock_39 ?_
  refine lv_aload_n CF.1 CF.2.1 dX1_stock_41 rfl (lv_at hl 0 rfl) ?_
  refine x1_g_stocks CF hK hP1 dX1_stock_42 ?_
  refine lv_iload_n CF.1 CF.2.1 dX1_stock_45 rfl (lv_at hl 1 rfl) ?_
  refine x1_ald2 CF hK hP1 (i := t) (by omega) (v := (nI (b 2 (t)))) (hR.a2 (by omega)) dX1_stock_46 ?_
  refine lv_iload_n CF.1 CF.2.1 dX1_stock_47 rfl (lv_at hl 2 rfl) ?_
  refine o_iadd CF dX1_stock_48 ?_
  refine va_mmin CF.1 CF.2.1 (CF.2.2.1.trans hl.1.symm) CF.2.2.2.1 (CF.2.2.2.2 _ (inr_8 _ (List.mem_of_getElem? (i := 6) rfl))) (CF.2.2.2.2 _ (inr_8 _ (List.mem_of_getElem? (i := 7) rfl))) (CF.2.2.2.2 _ (inr_5 _ (List.mem_of_getElem? (i := 8) rfl))) (CF.2.2.2.2 _ (inr_8 _ (List.mem_of_getElem? (i := 8) rfl))) (Nat.le_of_ble_eq_true rfl) (Nat.le_of_ble_eq_true rfl) (Nat.zero_le _) (Nat.zero_le _) dX1_stock_49 ?_
  refine tpi (mnI (by omega) (by omega)) ?_
  refine tpi (congrArg nI (Nat.min_comm _ _)) ?_
  refine x1_ast2 CF hK hP1 hD1 hS1 (i := t) (by omega) dX1_stock_52 (fun σ11 H11 locs hσ11 hP11 hD11 hS11 => ?_)
  have hR11 : Rc σ11 (upN (b) 2 (t) (min (b 2 (t) + v) 999999)) := by rw [hσ11]; exact Rc_up hR 2 (t) (min (b 2 (t) + v) 999999)
  have hM11 : Sm σ1 σ11 := by rw [hσ11]; exact Sm_up Sm_rf ⟨by decide, Or.inl (by decide)⟩
  refine lv_aload_n CF.1 CF.2.1 dX1_stock_53 rfl (lv_at hl 0 rfl) ?_
  refine x1_g_stocks CF hK hP11 dX1_stock_54 ?_
  refine lv_iload_n CF.1 CF.2.1 dX1_stock_57 rfl (lv_at hl 1 rfl) ?_
  refine x1_ald2 CF hK hP11 (i := t) (by omega) (v := (nI (min (b 2 (t) + v) 999999))) (by rw [hσ11, up_s]) dX1_stock_58 ?_
  exact W.iret CF.1 CF.2.1 hr (fun t9 ht9 hW9 => ⟨⟨_, σ11, rfl, ⟨rfl, hR11, (Ro_sm hO hM11 (by simp [upN]) (by simp [upN]) (fun j => by simp [upN])), (hM11.2.2.2.trans hT)⟩, by show va_P G vwCl (w1 ad cA σ11) t9.heap; rw [ht9]; exact hP11⟩, hS11.F ht9⟩) hS11.2.2 dX1_stock_59
set_option maxHeartbeats 1000000 in
set_option maxRecDepth 100000 in
theorem b1_stock (l : Launch) {G : va_G} {cA : ClassId} {ad : Nat → Nat} {σ : RS} (hj : inj8 ad) {b : BS} (hI : InvC b) (hR : Rc σ b) (hO : Ro σ b) (hOi : InvO b) (x z : Int32) (hbad : ¬ (0 ≤ x.toInt ∧ x.toInt < 5 ∧ 1 ≤ z.toInt ∧ z.toInt ≤ 99999)) : Met l yX1_stock (ws_ yX1_stock cX1_stock 3 (some .int)) (rmk 8 0 0) (pc1 G cA ad σ [.ref (ad 0), .int (x), .int (z)]) (va_Qi (fun (_ : Int32) (σ' : RS) => Rc σ' b ∧ Ro σ' b ∧ ((σ' 0 6 = nI 1 ∧ (¬ (0 ≤ x.toInt ∧ x.toInt < 5))) ∨ (σ' 0 6 = nI 2 ∧ (0 ≤ x.toInt ∧ x.toInt < 5)))) (fun σ' t => va_P G vwCl (w1 ad cA σ') t.heap) (own8 ad)) 0 0 (own8 ad) := by
  refine Met.ofW (cc := cX1_stock) (maxL := 3) (ret := (some .int)) (by decide) rfl ?_
  intro p e s m args below meth c s₁ B hml hv
  obtain ⟨rfl, hP, hK⟩ := hv
  have CF : CallFix p m c cX1_stock 3 s _ AW RX1 := ⟨B.exec, B.bytes, hml, findClass_of_methodNamed B.named, fun w h => atoms_spec (ws := ws_ yX1_stock cX1_stock 3 (some .int)) B.pre w (List.mem_cons_of_mem _ h)⟩
  have hr := B.returns
  have hlocks := B.notSynchronized
  have hl := lv_entry ([.ref (ad 0), .int (x), .int (z)]) (n := 3) (Nat.le_of_ble_eq_true rfl)
  rw [lg_entry_eq]
  generalize (lg_sl ([.ref (ad 0), .int (x), .int (z)]) ++ List.replicate (3 - (lg_sl ([.ref (ad 0), .int (x), .int (z)])).length) Slot.unset).toArray = ls at hl ⊢
  have hl : lv_has ls 3 [(0, .ref (ad 0)), (1, .int (x)), (2, .int (z))] := hl
  have hD : va_D (own8 ad) (w1 ad cA σ) := w1_D hj (fun _ h => h)
  have hS : va_S (own8 ad) s.heap s.heap [] := va_S.rf
  obtain ⟨i_sp, i_cu, i_ra, i_di, i_mo, i_pu⟩ := id hI
  have hw10 := hOi.1
  refine lv_aload_n CF.1 CF.2.1 dX1_stock_0 rfl (lv_at hl 0 rfl) ?_
  refine lv_iconst (v := nI 0) CF.1 CF.2.1 dX1_stock_1 (by decide) ?_
  refine x1_p_thrown CF hK hP hD hS dX1_stock_2 (fun σ1 H1 locs hσ1 hP1 hD1 hS1 => ?_)
  have hR : Rc σ1 b := Rc_th hR hσ1
  have hO : Ro σ1 b := Ro_th hO hσ1
  have hT : σ1 0 6 = nI 0 := by rw [hσ1, up_s]
  refine lv_iload_n CF.1 CF.2.1 dX1_stock_5 rfl (lv_at hl 1 rfl) ?_
  refine cS_i CF (As := [.int (x)]) (rest := []) (c1_isMoney l ((x))) lk_RX1_X1_isMoney rfl hl.1 ⟨Nat.le_of_ble_eq_true rfl, Nat.le_of_ble_eq_true rfl⟩ ⟨Nat.zero_le _, Nat.zero_le _⟩ (Nat.le_of_ble_eq_true rfl) rfl dX1_stock_6 (fun r_2 hr_3 => ?_)
  rcases hr_3 with ⟨rfl, h_6, h_7⟩ | ⟨rfl, h_8⟩
  · rw [show (1 : Int32) = nI 1 by rfl]
    obtain ⟨j_4, h_5, rfl⟩ := nI_ex (x := x) (n := 5) (by omega) (by omega)
    have hzj_4 := nIz (n := j_4) (by omega)
    refine z_if_ne CF (tgt := 18) (nIz (by omega)) dX1_stock_9 (by decide) (fun _ => ?_) (fun h => absurd h (by decide))
    refine lv_iload_n CF.1 CF.2.1 dX1_stock_18 rfl (lv_at hl 2 rfl) ?_
    refine lv_iconst (v := nI 1) CF.1 CF.2.1 dX1_stock_19 (by decide) ?_
    refine lv_ldc (v := nI 99999) CF.1 CF.2.1 CF.2.2.2.1 (CF.2.2.2.2 _ (inr_9 _ (List.mem_of_getElem? (i := 21) rfl))) dX1_stock_20 ?_
    refine cS_i CF (As := [.int (z), .int (nI (1)), .int (nI (99999))]) (rest := []) (c1_isIn l ((z)) (nI (1)) (nI (99999)) (nIz (by omega)) (nIz (by omega))) lk_RX1_X1_isIn rfl hl.1 ⟨Nat.le_of_ble_eq_true rfl, Nat.le_of_ble_eq_true rfl⟩ ⟨Nat.zero_le _, Nat.zero_le _⟩ (Nat.le_of_ble_eq_true rfl) rfl dX1_stock_22 (fun r_11 hr_12 => ?_)
    rcases hr_12 with ⟨rfl, h_15, h_16⟩ | ⟨rfl, h_17⟩
    · rw [show (1 : Int32) = nI 1 by rfl]
      obtain ⟨j_13, h_14, rfl⟩ := nI_ex (x := z) (n := 100000) (by omega) (by omega)
      have hzj_13 := nIz (n := j_13) (by omega)
      refine z_if_ne CF (tgt := 34) (nIz (by omega)) dX1_stock_25 (by decide) (fun _ => ?_) (fun h => absurd h (by decide))
      exact (show False by omega).elim
    · rw [show (0 : Int32) = nI 0 by rfl]
      refine z_if_ne CF (tgt := 34) (nIz (by omega)) dX1_stock_25 (by decide) (fun h => absurd h (by decide)) (fun _ => ?_)
      refine lv_aload_n CF.1 CF.2.1 dX1_stock_28 rfl (lv_at hl 0 rfl) ?_
      refine lv_iconst (v := nI 2) CF.1 CF.2.1 dX1_stock_29 (by decide) ?_
      refine d1_i CF hK hP1 hj (fun _ h => h) hS1 (As := [.int (nI (2))]) (rest := []) (c1_fail l hj (σ := σ1) (nI 2)) rfl lk_RX1_X1_fail rfl hl.1 ⟨Nat.le_of_ble_eq_true rfl, Nat.le_of_ble_eq_true rfl⟩ ⟨Nat.zero_le _, Nat.zero_le _⟩ (Nat.le_of_ble_eq_true rfl) rfl dX1_stock_30 (fun r_22 σ24 H24 locs hr_23 hP24 hD24 hS24 hz24 hk24 => ?_)
      obtain ⟨rfl, hF_r_22⟩ := hr_23
      exact W.iret CF.1 CF.2.1 hr (fun t9 ht9 hW9 => ⟨⟨_, σ24, rfl, ⟨Rc_th hR hF_r_22, Ro_th hO hF_r_22, Or.inr (⟨by rw [hF_r_22, up_s], by omega⟩)⟩, by show va_P G vwCl (w1 ad cA σ24) t9.heap; rw [ht9]; exact hP24⟩, hS24.F ht9⟩) hS24.2.2 dX1_stock_33
  · rw [show (0 : Int32) = nI 0 by rfl]
    refine z_if_ne CF (tgt := 18) (nIz (by omega)) dX1_stock_9 (by decide) (fun h => absurd h (by decide)) (fun _ => ?_)
    refine lv_aload_n CF.1 CF.2.1 dX1_stock_12 rfl (lv_at hl 0 rfl) ?_
    refine lv_iconst (v := nI 1) CF.1 CF.2.1 dX1_stock_13 (by decide) ?_
    refine d1_i CF hK hP1 hj (fun _ h => h) hS1 (As := [.int (nI (1))]) (rest := []) (c1_fail l hj (σ := σ1) (nI 1)) rfl lk_RX1_X1_fail rfl hl.1 ⟨Nat.le_of_ble_eq_true rfl, Nat.le_of_ble_eq_true rfl⟩ ⟨Nat.zero_le _, Nat.zero_le _⟩ (Nat.le_of_ble_eq_true rfl) rfl dX1_stock_14 (fun r_27 σ29 H29 locs hr_28 hP29 hD29 hS29 hz29 hk29 => ?_)
    obtain ⟨rfl, hF_r_27⟩ := hr_28
    exact W.iret CF.1 CF.2.1 hr (fun t9 ht9 hW9 => ⟨⟨_, σ29, rfl, ⟨Rc_th hR hF_r_27, Ro_th hO hF_r_27, Or.inl ⟨by rw [hF_r_27, up_s], by omega⟩⟩, by show va_P G vwCl (w1 ad cA σ29) t9.heap; rw [ht9]; exact hP29⟩, hS29.F ht9⟩) hS29.2.2 dX1_stock_17
set_option maxHeartbeats 1000000 in
set_option maxRecDepth 100000 in
theorem c1_next (l : Launch) {G : va_G} {cA : ClassId} {ad : Nat → Nat} {σ : RS} (hj : inj8 ad) {b : BS} (hI : InvC b) (hR : Rc σ b) (hO : Ro σ b) (hOi : InvO b)  : Met l yX1_next (ws_ yX1_next cX1_next 2 (some .int)) (rmk 8 0 0) (pc1 G cA ad σ [.ref (ad 0)]) (va_Qi (fun (r : Int32) (σ' : RS) => r = nI (b 0 3 - s_next b 0 3) ∧ Rc σ' (s_next b) ∧ Ro σ' (s_next b) ∧ σ' 0 6 = nI 0) (fun σ' t => va_P G vwCl (w1 ad cA σ') t.heap) (own8 ad)) 0 0 (own8 ad) := by
  refine Met.ofW (cc := cX1_next) (maxL := 2) (ret := (some .int)) (by decide) rfl ?_
  intro p e s m args below meth c s₁ B hml hv
  obtain ⟨rfl, hP, hK⟩ := hv
  have CF : CallFix p m c cX1_next 2 s _ AW RX1 := ⟨B.exec, B.bytes, hml, findClass_of_methodNamed B.named, fun w h => atoms_spec (ws := ws_ yX1_next cX1_next 2 (some .int)) B.pre w (List.mem_cons_of_mem _ h)⟩
  have hr := B.returns
  have hlocks := B.notSynchronized
  have hl := lv_entry ([.ref (ad 0)]) (n := 2) (Nat.le_of_ble_eq_true rfl)
  rw [lg_entry_eq]
  generalize (lg_sl ([.ref (ad 0)]) ++ List.replicate (2 - (lg_sl ([.ref (ad 0)])).length) Slot.unset).toArray = ls at hl ⊢
  have hl : lv_has ls 2 [(0, .ref (ad 0))] := hl
  have hD : va_D (own8 ad) (w1 ad cA σ) := w1_D hj (fun _ h => h)
  have hS : va_S (own8 ad) s.heap s.heap [] := va_S.rf
  obtain ⟨i_sp, i_cu, i_ra, i_di, i_mo, i_pu⟩ := id hI
  have hw10 := hOi.1
  refine lv_aload_n CF.1 CF.2.1 dX1_next_0 rfl (lv_at hl 0 rfl) ?_
  refine lv_iconst (v := nI 0) CF.1 CF.2.1 dX1_next_1 (by decide) ?_
  refine x1_p_thrown CF hK hP hD hS dX1_next_2 (fun σ1 H1 locs hσ1 hP1 hD1 hS1 => ?_)
  have hR : Rc σ1 b := Rc_th hR hσ1
  have hO : Ro σ1 b := Ro_th hO hσ1
  have hT : σ1 0 6 = nI 0 := by rw [hσ1, up_s]
  refine lv_aload_n CF.1 CF.2.1 dX1_next_5 rfl (lv_at hl 0 rfl) ?_
  refine lv_dup CF.1 CF.2.1 dX1_next_6 rfl ?_
  refine x1_g_day CF hK hP1 (v := (nI (b 0 0))) (hR.1) dX1_next_7 ?_
  refine lv_iconst (v := nI 1) CF.1 CF.2.1 dX1_next_10 (by decide) ?_
  refine o_iadd CF dX1_next_11 ?_
  refine x1_p_day CF hK hP1 hD1 hS1 dX1_next_12 (fun σ2 H2 locs hσ2 hP2 hD2 hS2 => ?_)
  obtain ⟨σd, hσe⟩ : ∃ z, z = σ2 := ⟨_, rfl⟩
  have hσdd : σd = up σ1 0 0 (nI (b 0 0 + 1)) := by rw [hσe]; exact hσ2
  refine lv_iconst (v := nI 0) CF.1 CF.2.1 dX1_next_15 (by decide) ?_
  refine lv_istore_n (lv' := [(1, .int (nI (0))), (0, .ref (ad 0))]) CF.1 CF.2.1 dX1_next_16 rfl hl (by decide) rfl (fun ls hl => ?_)
  refine loop_rw1 (α := Unit) (fun i x => [(0, .ref (ad 0)), (1, .int (nI (i)))]) (fun i _ σ' => σ' = nxI σd i) (5) (0) (()) (hσe.symm.trans nxI_0.symm) hP2 hS2 (lv_sub hl [1, 0] rfl) (by omega) (fun i_3 x_3 σ3 H3 locs hj_3 hi_3 hx_3 hP3 hS3 ih_3 ls hl => ?_)
  have hD3 : va_D (own8 ad) (w1 ad cA σ3) := w1_D hj (fun _ h => h)
  have hx_3 : σ3 = nxI σd i_3 := hx_3
  refine lv_iload_n CF.1 CF.2.1 dX1_next_17 rfl (lv_at hl 1 rfl) ?_
  refine lv_iconst (v := nI 5) CF.1 CF.2.1 dX1_next_18 (by decide) ?_
  refine z_icmp_ge CF (tgt := 35) (nIz (by omega)) (nIz (by omega)) dX1_next_19 (by decide) (fun h_4 => ?_) (fun h_5 => ?_)
  · have hRn := nx_R hR hO hσdd
    rw [show i_3 = 5 by omega] at hx_3
    have hTn : σ3 0 6 = nI 0 := by rw [hx_3]; unfold nxI; rw [if_neg (by decide), hσdd, up_i (by decide)]; exact hT
    rw [← hx_3] at hRn
    refine lv_aload_n CF.1 CF.2.1 dX1_next_35 rfl (lv_at hl 0 rfl) ?_
    refine d1_i CF hK hP3 hj (fun _ h => h) hS3 (As := []) (rest := []) (c1_lookAt l hj (b := s_nx b) (I_nx hI) hRn.1 hRn.2 (InvO_to hOi (Nat.le_refl _) rfl (fun j => rfl))) rfl lk_RX1_X1_lookAt rfl hl.1 ⟨Nat.le_of_ble_eq_true rfl, Nat.le_of_ble_eq_true rfl⟩ ⟨Nat.zero_le _, Nat.zero_le _⟩ (Nat.le_of_ble_eq_true rfl) rfl dX1_next_36 (fun r_6 σ8 H8 locs hr_7 hP8 hD8 hS8 hz8 hk8 => ?_)
    obtain ⟨rfl, hr_7b, hr_7c, hr_7d⟩ := hr_7
    exact W.iret CF.1 CF.2.1 hr (fun t9 ht9 hW9 => ⟨⟨_, σ8, rfl, ⟨rfl, hr_7b, hr_7c, hr_7d.trans hTn⟩, by show va_P G vwCl (w1 ad cA σ8) t9.heap; rw [ht9]; exact hP8⟩, hS8.F ht9⟩) hS8.2.2 dX1_next_39
  · refine lv_aload_n CF.1 CF.2.1 dX1_next_22 rfl (lv_at hl 0 rfl) ?_
    refine x1_g_given CF hK hP3 dX1_next_23 ?_
    refine lv_iload_n CF.1 CF.2.1 dX1_next_26 rfl (lv_at hl 1 rfl) ?_
    refine lv_iconst (v := nI 0) CF.1 CF.2.1 dX1_next_27 (by decide) ?_
    refine x1_ast5 CF hK hP3 hD3 hS3 (i := i_3) (by omega) dX1_next_28 (fun σ9 H9 locs hσ9 hP9 hD9 hS9 => ?_)
    refine lv_iinc (v := nI (i_3 + 1)) (lv' := [(1, .int (nI (i_3 + 1))), (0, .ref (ad 0))]) CF.1 CF.2.1 dX1_next_29 hl (k := 1) rfl (by first | exact nI_add _ _ | rfl) (by decide) rfl (fun ls hl => ?_)
    refine lv_goto (tgt := 17) CF.1 CF.2.1 dX1_next_32 (by decide) ?_
    exact ih_3 () σ9 _ _ ls (by omega) (by show σ9 = nxI σd (i_3 + 1); rw [hσ9, hx_3]; exact nxI_s) hP9 hS9 (lv_sub hl [1, 0] rfl)
set_option maxHeartbeats 1000000 in
set_option maxRecDepth 100000 in
theorem c1_come (l : Launch) {G : va_G} {cA : ClassId} {ad : Nat → Nat} {σ : RS} (hj : inj8 ad) {b : BS} (hI : InvC b) (hR : Rc σ b) (hO : Ro σ b) (hOi : InvO b) (hc : b 0 2 < 6) : Met l yX1_come (ws_ yX1_come cX1_come 1 (some .int)) (rmk 8 0 0) (pc1 G cA ad σ [.ref (ad 0)]) (va_Qi (fun (r : Int32) (σ' : RS) => r = nI (b 0 2) ∧ Rc σ' (upN b 0 2 (b 0 2 + 1)) ∧ Ro σ' (upN b 0 2 (b 0 2 + 1)) ∧ σ' 0 6 = nI 0) (fun σ' t => va_P G vwCl (w1 ad cA σ') t.heap) (own8 ad)) 0 0 (own8 ad) := by
  refine Met.ofW (cc := cX1_come) (maxL := 1) (ret := (some .int)) (by decide) rfl ?_
  intro p e s m args below meth c s₁ B hml hv
  obtain ⟨rfl, hP, hK⟩ := hv
  have CF : CallFix p m c cX1_come 1 s _ AW RX1 := ⟨B.exec, B.bytes, hml, findClass_of_methodNamed B.named, fun w h => atoms_spec (ws := ws_ yX1_come cX1_come 1 (some .int)) B.pre w (List.mem_cons_of_mem _ h)⟩
  have hr := B.returns
  have hlocks := B.notSynchronized
  have hl := lv_entry ([.ref (ad 0)]) (n := 1) (Nat.le_of_ble_eq_true rfl)
  rw [lg_entry_eq]
  generalize (lg_sl ([.ref (ad 0)]) ++ List.replicate (1 - (lg_sl ([.ref (ad 0)])).length) Slot.unset).toArray = ls at hl ⊢
  have hl : lv_has ls 1 [(0, .ref (ad 0))] := hl
  have hD : va_D (own8 ad) (w1 ad cA σ) := w1_D hj (fun _ h => h)
  have hS : va_S (own8 ad) s.heap s.heap [] := va_S.rf
  obtain ⟨i_sp, i_cu, i_ra, i_di, i_mo, i_pu⟩ := id hI
  have hw10 := hOi.1
  refine lv_aload_n CF.1 CF.2.1 dX1_come_0 rfl (lv_at hl 0 rfl) ?_
  refine lv_iconst (v := nI 0) CF.1 CF.2.1 dX1_come_1 (by decide) ?_
  refine x1_p_thrown CF hK hP hD hS dX1_come_2 (fun σ1 H1 locs hσ1 hP1 hD1 hS1 => ?_)
  have hR : Rc σ1 b := Rc_th hR hσ1
  have hO : Ro σ1 b := Ro_th hO hσ1
  have hT : σ1 0 6 = nI 0 := by rw [hσ1, up_s]
  refine lv_aload_n CF.1 CF.2.1 dX1_come_5 rfl (lv_at hl 0 rfl) ?_
  refine x1_g_customers CF hK hP1 (v := (nI (b 0 2))) (hR.2.2.1) dX1_come_6 ?_
  refine lv_bipush (v := nI 6) CF.1 CF.2.1 dX1_come_9 (by decide) ?_
  refine z_icmp_ne CF (tgt := 20) (nIz (by omega)) (nIz (by omega)) dX1_come_11 (by decide) (fun h_2 => ?_) (fun h_3 => absurd h_3 (by omega))
  refine lv_aload_n CF.1 CF.2.1 dX1_come_20 rfl (lv_at hl 0 rfl) ?_
  refine lv_dup CF.1 CF.2.1 dX1_come_21 rfl ?_
  refine x1_g_customers CF hK hP1 (v := (nI (b 0 2))) (hR.2.2.1) dX1_come_22 ?_
  refine lv_iconst (v := nI 1) CF.1 CF.2.1 dX1_come_25 (by decide) ?_
  refine o_iadd CF dX1_come_26 ?_
  refine x1_p_customers CF hK hP1 hD1 hS1 dX1_come_27 (fun σ4 H4 locs hσ4 hP4 hD4 hS4 => ?_)
  have hR4 : Rc σ4 (upN (b) 0 (2) (b 0 2 + 1)) := by rw [hσ4]; exact Rc_up hR 0 (2) (b 0 2 + 1)
  have hM4 : Sm σ1 σ4 := by rw [hσ4]; exact Sm_up Sm_rf ⟨by decide, Or.inr ⟨by decide, by decide, by decide⟩⟩
  refine lv_aload_n CF.1 CF.2.1 dX1_come_30 rfl (lv_at hl 0 rfl) ?_
  refine x1_g_customers CF hK hP4 (v := (nI (b 0 2 + 1))) (by rw [hσ4, up_s]) dX1_come_31 ?_
  refine lv_iconst (v := nI 1) CF.1 CF.2.1 dX1_come_34 (by decide) ?_
  refine o_isub CF (by omega) dX1_come_35 ?_
  exact W.iret CF.1 CF.2.1 hr (fun t9 ht9 hW9 => ⟨⟨_, σ4, rfl, ⟨by first | rfl | (congr 1), hR4, (Ro_sm hO hM4 (by simp [upN]) (by simp [upN]) (fun j => by simp [upN])), (hM4.2.2.2.trans hT)⟩, by show va_P G vwCl (w1 ad cA σ4) t9.heap; rw [ht9]; exact hP4⟩, hS4.F ht9⟩) hS4.2.2 dX1_come_36
set_option maxHeartbeats 1000000 in
set_option maxRecDepth 100000 in
theorem b1_come (l : Launch) {G : va_G} {cA : ClassId} {ad : Nat → Nat} {σ : RS} (hj : inj8 ad) {b : BS} (hI : InvC b) (hR : Rc σ b) (hO : Ro σ b) (hOi : InvO b) (hbad : ¬ (b 0 2 < 6)) : Met l yX1_come (ws_ yX1_come cX1_come 1 (some .int)) (rmk 8 0 0) (pc1 G cA ad σ [.ref (ad 0)]) (va_Qi (fun (_ : Int32) (σ' : RS) => Rc σ' b ∧ Ro σ' b ∧ ((σ' 0 6 = nI 1 ∧ (True)))) (fun σ' t => va_P G vwCl (w1 ad cA σ') t.heap) (own8 ad)) 0 0 (own8 ad) := by
  refine Met.ofW (cc := cX1_come) (maxL := 1) (ret := (some .int)) (by decide) rfl ?_
  intro p e s m args below meth c s₁ B hml hv
  obtain ⟨rfl, hP, hK⟩ := hv
  have CF : CallFix p m c cX1_come 1 s _ AW RX1 := ⟨B.exec, B.bytes, hml, findClass_of_methodNamed B.named, fun w h => atoms_spec (ws := ws_ yX1_come cX1_come 1 (some .int)) B.pre w (List.mem_cons_of_mem _ h)⟩
  have hr := B.returns
  have hlocks := B.notSynchronized
  have hl := lv_entry ([.ref (ad 0)]) (n := 1) (Nat.le_of_ble_eq_true rfl)
  rw [lg_entry_eq]
  generalize (lg_sl ([.ref (ad 0)]) ++ List.replicate (1 - (lg_sl ([.ref (ad 0)])).length) Slot.unset).toArray = ls at hl ⊢
  have hl : lv_has ls 1 [(0, .ref (ad 0))] := hl
  have hD : va_D (own8 ad) (w1 ad cA σ) := w1_D hj (fun _ h => h)
  have hS : va_S (own8 ad) s.heap s.heap [] := va_S.rf
  obtain ⟨i_sp, i_cu, i_ra, i_di, i_mo, i_pu⟩ := id hI
  have hw10 := hOi.1
  refine lv_aload_n CF.1 CF.2.1 dX1_come_0 rfl (lv_at hl 0 rfl) ?_
  refine lv_iconst (v := nI 0) CF.1 CF.2.1 dX1_come_1 (by decide) ?_
  refine x1_p_thrown CF hK hP hD hS dX1_come_2 (fun σ1 H1 locs hσ1 hP1 hD1 hS1 => ?_)
  have hR : Rc σ1 b := Rc_th hR hσ1
  have hO : Ro σ1 b := Ro_th hO hσ1
  have hT : σ1 0 6 = nI 0 := by rw [hσ1, up_s]
  refine lv_aload_n CF.1 CF.2.1 dX1_come_5 rfl (lv_at hl 0 rfl) ?_
  refine x1_g_customers CF hK hP1 (v := (nI (b 0 2))) (hR.2.2.1) dX1_come_6 ?_
  refine lv_bipush (v := nI 6) CF.1 CF.2.1 dX1_come_9 (by decide) ?_
  refine z_icmp_ne CF (tgt := 20) (nIz (by omega)) (nIz (by omega)) dX1_come_11 (by decide) (fun h_2 => ?_) (fun h_3 => ?_)
  · exact (show False by omega).elim
  · refine lv_aload_n CF.1 CF.2.1 dX1_come_14 rfl (lv_at hl 0 rfl) ?_
    refine lv_iconst (v := nI 1) CF.1 CF.2.1 dX1_come_15 (by decide) ?_
    refine d1_i CF hK hP1 hj (fun _ h => h) hS1 (As := [.int (nI (1))]) (rest := []) (c1_fail l hj (σ := σ1) (nI 1)) rfl lk_RX1_X1_fail rfl hl.1 ⟨Nat.le_of_ble_eq_true rfl, Nat.le_of_ble_eq_true rfl⟩ ⟨Nat.zero_le _, Nat.zero_le _⟩ (Nat.le_of_ble_eq_true rfl) rfl dX1_come_16 (fun r_4 σ6 H6 locs hr_5 hP6 hD6 hS6 hz6 hk6 => ?_)
    obtain ⟨rfl, hF_r_4⟩ := hr_5
    exact W.iret CF.1 CF.2.1 hr (fun t9 ht9 hW9 => ⟨⟨_, σ6, rfl, ⟨Rc_th hR hF_r_4, Ro_th hO hF_r_4, ⟨by rw [hF_r_4, up_s], trivial⟩⟩, by show va_P G vwCl (w1 ad cA σ6) t9.heap; rw [ht9]; exact hP6⟩, hS6.F ht9⟩) hS6.2.2 dX1_come_19
set_option maxHeartbeats 1000000 in
set_option maxRecDepth 100000 in
theorem c1_earn (l : Launch) {G : va_G} {cA : ClassId} {ad : Nat → Nat} {σ : RS} (hj : inj8 ad) {b : BS} (hI : InvC b) (hR : Rc σ b) (hO : Ro σ b) (hOi : InvO b) {u t v : Nat} (hu : u < b 0 2) (ht : t < 5) (hv0 : 1 ≤ v) (hv : v ≤ 99999) : Met l yX1_earn (ws_ yX1_earn cX1_earn 5 (some .int)) (rmk 8 0 0) (pc1 G cA ad σ [.ref (ad 0), .int (nI (u)), .int (nI (t)), .int (nI (v))]) (va_Qi (fun (r : Int32) (σ' : RS) => r = nI (min (b 6 (u * 5 + t) + v) 999999) ∧ Rc σ' (upN b 6 (u * 5 + t) (min (b 6 (u * 5 + t) + v) 999999)) ∧ Ro σ' (upN b 6 (u * 5 + t) (min (b 6 (u * 5 + t) + v) 999999)) ∧ σ' 0 6 = nI 0) (fun σ' t => va_P G vwCl (w1 ad cA σ') t.heap) (own8 ad)) 0 0 (own8 ad) := by
  refine Met.ofW (cc := cX1_earn) (maxL := 5) (ret := (some .int)) (by decide) rfl ?_
  intro p e s m args below meth c s₁ B hml hv
  obtain ⟨rfl, hP, hK⟩ := hv
  have CF : CallFix p m c cX1_earn 5 s _ AW RX1 := ⟨B.exec, B.bytes, hml, findClass_of_methodNamed B.named, fun w h => atoms_spec (ws := ws_ yX1_earn cX1_earn 5 (some .int)) B.pre w (List.mem_cons_of_mem _ h)⟩
  have hr := B.returns
  have hlocks := B.notSynchronized
  have hl := lv_entry ([.ref (ad 0), .int (nI (u)), .int (nI (t)), .int (nI (v))]) (n := 5) (Nat.le_of_ble_eq_true rfl)
  rw [lg_entry_eq]
  generalize (lg_sl ([.ref (ad 0), .int (nI (u)), .int (nI (t)), .int (nI (v))]) ++ List.replicate (5 - (lg_sl ([.ref (ad 0), .int (nI (u)), .int (nI (t)), .int (nI (v))])).length) Slot.unset).toArray = ls at hl ⊢
  have hl : lv_has ls 5 [(0, .ref (ad 0)), (1, .int (nI (u))), (2, .int (nI (t))), (3, .int (nI (v)))] := hl
  have hD : va_D (own8 ad) (w1 ad cA σ) := w1_D hj (fun _ h => h)
  have hS : va_S (own8 ad) s.heap s.heap [] := va_S.rf
  obtain ⟨i_sp, i_cu, i_ra, i_di, i_mo, i_pu⟩ := id hI
  have hw10 := hOi.1
  have h_pu := i_pu (u * 5 + t) (by omega)
  refine lv_aload_n CF.1 CF.2.1 dX1_earn_0 rfl (lv_at hl 0 rfl) ?_
  refine lv_iconst (v := nI 0) CF.1 CF.2.1 dX1_earn_1 (by decide) ?_
  refine x1_p_thrown CF hK hP hD hS dX1_earn_2 (fun σ1 H1 locs hσ1 hP1 hD1 hS1 => ?_)
  have hR : Rc σ1 b := Rc_th hR hσ1
  have hO : Ro σ1 b := Ro_th hO hσ1
  have hT : σ1 0 6 = nI 0 := by rw [hσ1, up_s]
  refine lv_aload_n CF.1 CF.2.1 dX1_earn_5 rfl (lv_at hl 0 rfl) ?_
  refine lv_iload_n CF.1 CF.2.1 dX1_earn_6 rfl (lv_at hl 1 rfl) ?_
  refine c1_i CF hK hP1 (As := [.int (nI (u))]) (rest := []) (c1_isCustomer l hI hR (nI (u))) rfl lk_RX1_X1_isCustomer rfl hl.1 ⟨Nat.le_of_ble_eq_true rfl, Nat.le_of_ble_eq_true rfl⟩ ⟨Nat.zero_le _, Nat.zero_le _⟩ (Nat.le_of_ble_eq_true rfl) rfl dX1_earn_7 (fun r_2 hr_3 => ?_)
  have hxh_4 := nIz (n := u) (by omega)
  rcases hr_3 with ⟨rfl, -, -⟩ | ⟨rfl, h9⟩
  rotate_left
  · exact absurd h9 (by rw [hxh_4]; omega)
  rw [show (1 : Int32) = nI 1 by rfl]
  refine z_if_eq CF (tgt := 20) (nIz (by omega)) dX1_earn_10 (by decide) (fun h => absurd h (by decide)) (fun _ => ?_)
  refine lv_iload_n CF.1 CF.2.1 dX1_earn_13 rfl (lv_at hl 2 rfl) ?_
  refine cS_i CF (As := [.int (nI (t))]) (rest := []) (c1_isMoney l (nI (t))) lk_RX1_X1_isMoney rfl hl.1 ⟨Nat.le_of_ble_eq_true rfl, Nat.le_of_ble_eq_true rfl⟩ ⟨Nat.zero_le _, Nat.zero_le _⟩ (Nat.le_of_ble_eq_true rfl) rfl dX1_earn_14 (fun r_7 hr_8 => ?_)
  have hxh_9 := nIz (n := t) (by omega)
  rcases hr_8 with ⟨rfl, -, -⟩ | ⟨rfl, h9⟩
  rotate_left
  · exact absurd h9 (by rw [hxh_9]; omega)
  rw [show (1 : Int32) = nI 1 by rfl]
  refine z_if_ne CF (tgt := 26) (nIz (by omega)) dX1_earn_17 (by decide) (fun _ => ?_) (fun h => absurd h (by decide))
  refine lv_iload_n CF.1 CF.2.1 dX1_earn_26 rfl (lv_at hl 3 rfl) ?_
  refine lv_iconst (v := nI 1) CF.1 CF.2.1 dX1_earn_27 (by decide) ?_
  refine lv_ldc (v := nI 99999) CF.1 CF.2.1 CF.2.2.2.1 (CF.2.2.2.2 _ (inr_9 _ (List.mem_of_getElem? (i := 21) rfl))) dX1_earn_28 ?_
  refine cS_i CF (As := [.int (nI (v)), .int (nI (1)), .int (nI (99999))]) (rest := []) (c1_isIn l (nI (v)) (nI (1)) (nI (99999)) (nIz (by omega)) (nIz (by omega))) lk_RX1_X1_isIn rfl hl.1 ⟨Nat.le_of_ble_eq_true rfl, Nat.le_of_ble_eq_true rfl⟩ ⟨Nat.zero_le _, Nat.zero_le _⟩ (Nat.le_of_ble_eq_true rfl) rfl dX1_earn_30 (fun r_12 hr_13 => ?_)
  have hxhr_13 := nIz (n := v) (by omega)
  rcases hr_13 with ⟨rfl, -, -⟩ | ⟨rfl, h9⟩
  rotate_left
  · exact absurd h9 (by rw [hxhr_13]; omega)
  rw [show (1 : Int32) = nI 1 by rfl]
  refine z_if_ne CF (tgt := 42) (nIz (by omega)) dX1_earn_33 (by decide) (fun _ => ?_) (fun h => absurd h (by decide))
  refine lv_iconst (v := nI 5) CF.1 CF.2.1 dX1_earn_42 (by decide) ?_
  refine lv_iload_n CF.1 CF.2.1 dX1_earn_43 rfl (lv_at hl 1 rfl) ?_
  refine o_imul CF dX1_earn_44 ?_
  refine tpi (congrArg nI (Nat.mul_comm _ _)) ?_
  refine lv_iload_n CF.1 CF.2.1 dX1_earn_45 rfl (lv_at hl 2 rfl) ?_
  refine o_iadd CF dX1_earn_46 ?_
  refine lv_istore (lv' := [(4, .int (nI (u * 5 + t))), (0, .ref (ad 0)), (1, .int (nI (u))), (2, .int (nI (t))), (3, .int (nI (v)))]) CF.1 CF.2.1 dX1_earn_47 hl (by decide) rfl (fun ls hl => ?_)
  refine lv_aload_n CF.1 CF.2.1 dX1_earn_49 rfl (lv_at hl 1 rfl) ?_
  refine x1_g_purses CF hK hP1 dX1_earn_50 ?_
  refine lv_iload CF.1 CF.2.1 dX1_earn_53 (lv_at hl 0 rfl) ?_
  refine lv_ldc (v := nI 999999) CF.1 CF.2.1 CF.2.2.2.1 (CF.2.2.2.2 _ (inr_8 _ (List.mem_of_getElem? (i := 5) rfl))) dX1_earn_55 ?_
  refine lv_aload_n CF.1 CF.2.1 dX1_earn_57 rfl (lv_at hl 1 rfl) ?_
  refine x1_g_purses CF hK hP1 dX1_earn_58 ?_
  refine lv_iload CF.1 CF.2.1 dX1_earn_61 (lv_at hl 0 rfl) ?_
  refine x1_ald6 CF hK hP1 (i := u * 5 + t) (by omega) (v := (nI (b 6 (u * 5 + t)))) (hR.a6 (by omega)) dX1_earn_63 ?_
  refine lv_iload_n CF.1 CF.2.1 dX1_earn_64 rfl (lv_at hl 4 rfl) ?_
  refine o_iadd CF dX1_earn_65 ?_
  refine va_mmin CF.1 CF.2.1 (CF.2.2.1.trans hl.1.symm) CF.2.2.2.1 (CF.2.2.2.2 _ (inr_8 _ (List.mem_of_getElem? (i := 6) rfl))) (CF.2.2.2.2 _ (inr_8 _ (List.mem_of_getElem? (i := 7) rfl))) (CF.2.2.2.2 _ (inr_5 _ (List.mem_of_getElem? (i := 8) rfl))) (CF.2.2.2.2 _ (inr_8 _ (List.mem_of_getElem? (i := 8) rfl))) (Nat.le_of_ble_eq_true rfl) (Nat.le_of_ble_eq_true rfl) (Nat.zero_le _) (Nat.zero_le _) dX1_earn_66 ?_
  refine tpi (mnI (by omega) (by omega)) ?_
  refine tpi (congrArg nI (Nat.min_comm _ _)) ?_
  refine x1_ast6 CF hK hP1 hD1 hS1 (i := u * 5 + t) (by omega) dX1_earn_69 (fun σ16 H16 locs hσ16 hP16 hD16 hS16 => ?_)
  have hR16 : Rc σ16 (upN (b) 6 (u * 5 + t) (min (b 6 (u * 5 + t) + v) 999999)) := by rw [hσ16]; exact Rc_up hR 6 (u * 5 + t) (min (b 6 (u * 5 + t) + v) 999999)
  have hM16 : Sm σ1 σ16 := by rw [hσ16]; exact Sm_up Sm_rf ⟨by decide, Or.inl (by decide)⟩
  refine lv_aload_n CF.1 CF.2.1 dX1_earn_70 rfl (lv_at hl 1 rfl) ?_
  refine x1_g_purses CF hK hP16 dX1_earn_71 ?_
  refine lv_iload CF.1 CF.2.1 dX1_earn_74 (lv_at hl 0 rfl) ?_
  refine x1_ald6 CF hK hP16 (i := u * 5 + t) (by omega) (v := (nI (min (b 6 (u * 5 + t) + v) 999999))) (by rw [hσ16, up_s]) dX1_earn_76 ?_
  exact W.iret CF.1 CF.2.1 hr (fun t9 ht9 hW9 => ⟨⟨_, σ16, rfl, ⟨rfl, hR16, (Ro_sm hO hM16 (by simp [upN]) (by simp [upN]) (fun j => by simp [upN])), (hM16.2.2.2.trans hT)⟩, by show va_P G vwCl (w1 ad cA σ16) t9.heap; rw [ht9]; exact hP16⟩, hS16.F ht9⟩) hS16.2.2 dX1_earn_77
set_option maxHeartbeats 1000000 in
set_option maxRecDepth 100000 in
theorem b1_earn (l : Launch) {G : va_G} {cA : ClassId} {ad : Nat → Nat} {σ : RS} (hj : inj8 ad) {b : BS} (hI : InvC b) (hR : Rc σ b) (hO : Ro σ b) (hOi : InvO b) (x y z : Int32) (hbad : ¬ (0 ≤ x.toInt ∧ x.toInt < (b 0 2 : Nat) ∧ 0 ≤ y.toInt ∧ y.toInt < 5 ∧ 1 ≤ z.toInt ∧ z.toInt ≤ 99999)) : Met l yX1_earn (ws_ yX1_earn cX1_earn 5 (some .int)) (rmk 8 0 0) (pc1 G cA ad σ [.ref (ad 0), .int (x), .int (y), .int (z)]) (va_Qi (fun (_ : Int32) (σ' : RS) => Rc σ' b ∧ Ro σ' b ∧ ((σ' 0 6 = nI 1 ∧ (¬ (0 ≤ x.toInt ∧ x.toInt < (b 0 2 : Nat) ∧ 0 ≤ y.toInt ∧ y.toInt < 5))) ∨ (σ' 0 6 = nI 2 ∧ (0 ≤ x.toInt ∧ x.toInt < (b 0 2 : Nat) ∧ 0 ≤ y.toInt ∧ y.toInt < 5)))) (fun σ' t => va_P G vwCl (w1 ad cA σ') t.heap) (own8 ad)) 0 0 (own8 ad) := by
  refine Met.ofW (cc := cX1_earn) (maxL := 5) (ret := (some .int)) (by decide) rfl ?_
  intro p e s m args below meth c s₁ B hml hv
  obtain ⟨rfl, hP, hK⟩ := hv
  have CF : CallFix p m c cX1_earn 5 s _ AW RX1 := ⟨B.exec, B.bytes, hml, findClass_of_methodNamed B.named, fun w h => atoms_spec (ws := ws_ yX1_earn cX1_earn 5 (some .int)) B.pre w (List.mem_cons_of_mem _ h)⟩
  have hr := B.returns
  have hlocks := B.notSynchronized
  have hl := lv_entry ([.ref (ad 0), .int (x), .int (y), .int (z)]) (n := 5) (Nat.le_of_ble_eq_true rfl)
  rw [lg_entry_eq]
  generalize (lg_sl ([.ref (ad 0), .int (x), .int (y), .int (z)]) ++ List.replicate (5 - (lg_sl ([.ref (ad 0), .int (x), .int (y), .int (z)])).length) Slot.unset).toArray = ls at hl ⊢
  have hl : lv_has ls 5 [(0, .ref (ad 0)), (1, .int (x)), (2, .int (y)), (3, .int (z))] := hl
  have hD : va_D (own8 ad) (w1 ad cA σ) := w1_D hj (fun _ h => h)
  have hS : va_S (own8 ad) s.heap s.heap [] := va_S.rf
  obtain ⟨i_sp, i_cu, i_ra, i_di, i_mo, i_pu⟩ := id hI
  have hw10 := hOi.1
  refine lv_aload_n CF.1 CF.2.1 dX1_earn_0 rfl (lv_at hl 0 rfl) ?_
  refine lv_iconst (v := nI 0) CF.1 CF.2.1 dX1_earn_1 (by decide) ?_
  refine x1_p_thrown CF hK hP hD hS dX1_earn_2 (fun σ1 H1 locs hσ1 hP1 hD1 hS1 => ?_)
  have hR : Rc σ1 b := Rc_th hR hσ1
  have hO : Ro σ1 b := Ro_th hO hσ1
  have hT : σ1 0 6 = nI 0 := by rw [hσ1, up_s]
  refine lv_aload_n CF.1 CF.2.1 dX1_earn_5 rfl (lv_at hl 0 rfl) ?_
  refine lv_iload_n CF.1 CF.2.1 dX1_earn_6 rfl (lv_at hl 1 rfl) ?_
  refine c1_i CF hK hP1 (As := [.int (x)]) (rest := []) (c1_isCustomer l hI hR ((x))) rfl lk_RX1_X1_isCustomer rfl hl.1 ⟨Nat.le_of_ble_eq_true rfl, Nat.le_of_ble_eq_true rfl⟩ ⟨Nat.zero_le _, Nat.zero_le _⟩ (Nat.le_of_ble_eq_true rfl) rfl dX1_earn_7 (fun r_2 hr_3 => ?_)
  rcases hr_3 with ⟨rfl, h_6, h_7⟩ | ⟨rfl, h_8⟩
  · rw [show (1 : Int32) = nI 1 by rfl]
    obtain ⟨j_4, h_5, rfl⟩ := nI_ex (x := x) (n := b 0 2) (by omega) (by omega)
    have hzj_4 := nIz (n := j_4) (by omega)
    refine z_if_eq CF (tgt := 20) (nIz (by omega)) dX1_earn_10 (by decide) (fun h => absurd h (by decide)) (fun _ => ?_)
    refine lv_iload_n CF.1 CF.2.1 dX1_earn_13 rfl (lv_at hl 2 rfl) ?_
    refine cS_i CF (As := [.int (y)]) (rest := []) (c1_isMoney l ((y))) lk_RX1_X1_isMoney rfl hl.1 ⟨Nat.le_of_ble_eq_true rfl, Nat.le_of_ble_eq_true rfl⟩ ⟨Nat.zero_le _, Nat.zero_le _⟩ (Nat.le_of_ble_eq_true rfl) rfl dX1_earn_14 (fun r_11 hr_12 => ?_)
    rcases hr_12 with ⟨rfl, h_15, h_16⟩ | ⟨rfl, h_17⟩
    · rw [show (1 : Int32) = nI 1 by rfl]
      obtain ⟨j_13, h_14, rfl⟩ := nI_ex (x := y) (n := 5) (by omega) (by omega)
      have hzj_13 := nIz (n := j_13) (by omega)
      refine z_if_ne CF (tgt := 26) (nIz (by omega)) dX1_earn_17 (by decide) (fun _ => ?_) (fun h => absurd h (by decide))
      refine lv_iload_n CF.1 CF.2.1 dX1_earn_26 rfl (lv_at hl 3 rfl) ?_
      refine lv_iconst (v := nI 1) CF.1 CF.2.1 dX1_earn_27 (by decide) ?_
      refine lv_ldc (v := nI 99999) CF.1 CF.2.1 CF.2.2.2.1 (CF.2.2.2.2 _ (inr_9 _ (List.mem_of_getElem? (i := 21) rfl))) dX1_earn_28 ?_
      refine cS_i CF (As := [.int (z), .int (nI (1)), .int (nI (99999))]) (rest := []) (c1_isIn l ((z)) (nI (1)) (nI (99999)) (nIz (by omega)) (nIz (by omega))) lk_RX1_X1_isIn rfl hl.1 ⟨Nat.le_of_ble_eq_true rfl, Nat.le_of_ble_eq_true rfl⟩ ⟨Nat.zero_le _, Nat.zero_le _⟩ (Nat.le_of_ble_eq_true rfl) rfl dX1_earn_30 (fun r_20 hr_21 => ?_)
      rcases hr_21 with ⟨rfl, h_24, h_25⟩ | ⟨rfl, h_26⟩
      · rw [show (1 : Int32) = nI 1 by rfl]
        obtain ⟨j_22, h_23, rfl⟩ := nI_ex (x := z) (n := 100000) (by omega) (by omega)
        have hzj_22 := nIz (n := j_22) (by omega)
        refine z_if_ne CF (tgt := 42) (nIz (by omega)) dX1_earn_33 (by decide) (fun _ => ?_) (fun h => absurd h (by decide))
        exact (show False by omega).elim
      · rw [show (0 : Int32) = nI 0 by rfl]
        refine z_if_ne CF (tgt := 42) (nIz (by omega)) dX1_earn_33 (by decide) (fun h => absurd h (by decide)) (fun _ => ?_)
        refine lv_aload_n CF.1 CF.2.1 dX1_earn_36 rfl (lv_at hl 0 rfl) ?_
        refine lv_iconst (v := nI 2) CF.1 CF.2.1 dX1_earn_37 (by decide) ?_
        refine d1_i CF hK hP1 hj (fun _ h => h) hS1 (As := [.int (nI (2))]) (rest := []) (c1_fail l hj (σ := σ1) (nI 2)) rfl lk_RX1_X1_fail rfl hl.1 ⟨Nat.le_of_ble_eq_true rfl, Nat.le_of_ble_eq_true rfl⟩ ⟨Nat.zero_le _, Nat.zero_le _⟩ (Nat.le_of_ble_eq_true rfl) rfl dX1_earn_38 (fun r_31 σ33 H33 locs hr_32 hP33 hD33 hS33 hz33 hk33 => ?_)
        obtain ⟨rfl, hF_r_31⟩ := hr_32
        exact W.iret CF.1 CF.2.1 hr (fun t9 ht9 hW9 => ⟨⟨_, σ33, rfl, ⟨Rc_th hR hF_r_31, Ro_th hO hF_r_31, Or.inr (⟨by rw [hF_r_31, up_s], by omega⟩)⟩, by show va_P G vwCl (w1 ad cA σ33) t9.heap; rw [ht9]; exact hP33⟩, hS33.F ht9⟩) hS33.2.2 dX1_earn_41
    · rw [show (0 : Int32) = nI 0 by rfl]
      refine z_if_ne CF (tgt := 26) (nIz (by omega)) dX1_earn_17 (by decide) (fun h => absurd h (by decide)) (fun _ => ?_)
      refine lv_aload_n CF.1 CF.2.1 dX1_earn_20 rfl (lv_at hl 0 rfl) ?_
      refine lv_iconst (v := nI 1) CF.1 CF.2.1 dX1_earn_21 (by decide) ?_
      refine d1_i CF hK hP1 hj (fun _ h => h) hS1 (As := [.int (nI (1))]) (rest := []) (c1_fail l hj (σ := σ1) (nI 1)) rfl lk_RX1_X1_fail rfl hl.1 ⟨Nat.le_of_ble_eq_true rfl, Nat.le_of_ble_eq_true rfl⟩ ⟨Nat.zero_le _, Nat.zero_le _⟩ (Nat.le_of_ble_eq_true rfl) rfl dX1_earn_22 (fun r_36 σ38 H38 locs hr_37 hP38 hD38 hS38 hz38 hk38 => ?_)
      obtain ⟨rfl, hF_r_36⟩ := hr_37
      exact W.iret CF.1 CF.2.1 hr (fun t9 ht9 hW9 => ⟨⟨_, σ38, rfl, ⟨Rc_th hR hF_r_36, Ro_th hO hF_r_36, Or.inl ⟨by rw [hF_r_36, up_s], by omega⟩⟩, by show va_P G vwCl (w1 ad cA σ38) t9.heap; rw [ht9]; exact hP38⟩, hS38.F ht9⟩) hS38.2.2 dX1_earn_25
  · rw [show (0 : Int32) = nI 0 by rfl]
    refine z_if_eq CF (tgt := 20) (nIz (by omega)) dX1_earn_10 (by decide) (fun _ => ?_) (fun h => absurd h (by decide))
    refine lv_aload_n CF.1 CF.2.1 dX1_earn_20 rfl (lv_at hl 0 rfl) ?_
    refine lv_iconst (v := nI 1) CF.1 CF.2.1 dX1_earn_21 (by decide) ?_
    refine d1_i CF hK hP1 hj (fun _ h => h) hS1 (As := [.int (nI (1))]) (rest := []) (c1_fail l hj (σ := σ1) (nI 1)) rfl lk_RX1_X1_fail rfl hl.1 ⟨Nat.le_of_ble_eq_true rfl, Nat.le_of_ble_eq_true rfl⟩ ⟨Nat.zero_le _, Nat.zero_le _⟩ (Nat.le_of_ble_eq_true rfl) rfl dX1_earn_22 (fun r_41 σ43 H43 locs hr_42 hP43 hD43 hS43 hz43 hk43 => ?_)
    obtain ⟨rfl, hF_r_41⟩ := hr_42
    exact W.iret CF.1 CF.2.1 hr (fun t9 ht9 hW9 => ⟨⟨_, σ43, rfl, ⟨Rc_th hR hF_r_41, Ro_th hO hF_r_41, Or.inl ⟨by rw [hF_r_41, up_s], by omega⟩⟩, by show va_P G vwCl (w1 ad cA σ43) t9.heap; rw [ht9]; exact hP43⟩, hS43.F ht9⟩) hS43.2.2 dX1_earn_25
set_option maxHeartbeats 1000000 in
set_option maxRecDepth 100000 in
theorem c1_change (l : Launch) {G : va_G} {cA : ClassId} {ad : Nat → Nat} {σ : RS} (hj : inj8 ad) {b : BS} (hI : InvC b) (hR : Rc σ b) (hO : Ro σ b) (hOi : InvO b) {u f t a : Nat} (hu : u < b 0 2) (hf : f < 5) (ht : t < 5) (ha : a < 2147483648) (hok : okN b u f t a 1) : Met l yX1_change (ws_ yX1_change cX1_change 5 (some .int)) (rmk 8 0 0) (pc1 G cA ad σ [.ref (ad 0), .int (nI (u)), .int (nI (f)), .int (nI (t)), .int (nI (a))]) (va_Qi (fun (r : Int32) (σ' : RS) => r = nI (gv b f t a) ∧ Rc σ' (dc b u f t a) ∧ Ro σ' (dc b u f t a) ∧ σ' 0 6 = nI 0) (fun σ' t => va_P G vwCl (w1 ad cA σ') t.heap) (own8 ad)) 0 0 (own8 ad) := by
  refine Met.ofW (cc := cX1_change) (maxL := 5) (ret := (some .int)) (by decide) rfl ?_
  intro p e s m args below meth c s₁ B hml hv
  obtain ⟨rfl, hP, hK⟩ := hv
  have CF : CallFix p m c cX1_change 5 s _ AW RX1 := ⟨B.exec, B.bytes, hml, findClass_of_methodNamed B.named, fun w h => atoms_spec (ws := ws_ yX1_change cX1_change 5 (some .int)) B.pre w (List.mem_cons_of_mem _ h)⟩
  have hr := B.returns
  have hlocks := B.notSynchronized
  have hl := lv_entry ([.ref (ad 0), .int (nI (u)), .int (nI (f)), .int (nI (t)), .int (nI (a))]) (n := 5) (Nat.le_of_ble_eq_true rfl)
  rw [lg_entry_eq]
  generalize (lg_sl ([.ref (ad 0), .int (nI (u)), .int (nI (f)), .int (nI (t)), .int (nI (a))]) ++ List.replicate (5 - (lg_sl ([.ref (ad 0), .int (nI (u)), .int (nI (f)), .int (nI (t)), .int (nI (a))])).length) Slot.unset).toArray = ls at hl ⊢
  have hl : lv_has ls 5 [(0, .ref (ad 0)), (1, .int (nI (u))), (2, .int (nI (f))), (3, .int (nI (t))), (4, .int (nI (a)))] := hl
  have hD : va_D (own8 ad) (w1 ad cA σ) := w1_D hj (fun _ h => h)
  have hS : va_S (own8 ad) s.heap s.heap [] := va_S.rf
  obtain ⟨i_sp, i_cu, i_ra, i_di, i_mo, i_pu⟩ := id hI
  have hw10 := hOi.1
  have h_mt := i_mo t ht
  obtain ⟨k1, k2, k3, k4, k5, k6, k7⟩ := id hok
  refine lv_aload_n CF.1 CF.2.1 dX1_change_0 rfl (lv_at hl 0 rfl) ?_
  refine lv_iconst (v := nI 0) CF.1 CF.2.1 dX1_change_1 (by decide) ?_
  refine x1_p_thrown CF hK hP hD hS dX1_change_2 (fun σ1 H1 locs hσ1 hP1 hD1 hS1 => ?_)
  have hR : Rc σ1 b := Rc_th hR hσ1
  have hO : Ro σ1 b := Ro_th hO hσ1
  have hT : σ1 0 6 = nI 0 := by rw [hσ1, up_s]
  refine lv_aload_n CF.1 CF.2.1 dX1_change_5 rfl (lv_at hl 0 rfl) ?_
  refine lv_iload_n CF.1 CF.2.1 dX1_change_6 rfl (lv_at hl 1 rfl) ?_
  refine c1_i CF hK hP1 (As := [.int (nI (u))]) (rest := []) (c1_isCustomer l hI hR (nI (u))) rfl lk_RX1_X1_isCustomer rfl hl.1 ⟨Nat.le_of_ble_eq_true rfl, Nat.le_of_ble_eq_true rfl⟩ ⟨Nat.zero_le _, Nat.zero_le _⟩ (Nat.le_of_ble_eq_true rfl) rfl dX1_change_7 (fun r_2 hr_3 => ?_)
  have hxh_4 := nIz (n := u) (by omega)
  rcases hr_3 with ⟨rfl, -, -⟩ | ⟨rfl, h9⟩
  rotate_left
  · exact absurd h9 (by rw [hxh_4]; omega)
  rw [show (1 : Int32) = nI 1 by rfl]
  refine z_if_eq CF (tgt := 27) (nIz (by omega)) dX1_change_10 (by decide) (fun h => absurd h (by decide)) (fun _ => ?_)
  refine lv_iload_n CF.1 CF.2.1 dX1_change_13 rfl (lv_at hl 2 rfl) ?_
  refine cS_i CF (As := [.int (nI (f))]) (rest := []) (c1_isMoney l (nI (f))) lk_RX1_X1_isMoney rfl hl.1 ⟨Nat.le_of_ble_eq_true rfl, Nat.le_of_ble_eq_true rfl⟩ ⟨Nat.zero_le _, Nat.zero_le _⟩ (Nat.le_of_ble_eq_true rfl) rfl dX1_change_14 (fun r_7 hr_8 => ?_)
  have hxh_9 := nIz (n := f) (by omega)
  rcases hr_8 with ⟨rfl, -, -⟩ | ⟨rfl, h9⟩
  rotate_left
  · exact absurd h9 (by rw [hxh_9]; omega)
  rw [show (1 : Int32) = nI 1 by rfl]
  refine z_if_eq CF (tgt := 27) (nIz (by omega)) dX1_change_17 (by decide) (fun h => absurd h (by decide)) (fun _ => ?_)
  refine lv_iload_n CF.1 CF.2.1 dX1_change_20 rfl (lv_at hl 3 rfl) ?_
  refine cS_i CF (As := [.int (nI (t))]) (rest := []) (c1_isMoney l (nI (t))) lk_RX1_X1_isMoney rfl hl.1 ⟨Nat.le_of_ble_eq_true rfl, Nat.le_of_ble_eq_true rfl⟩ ⟨Nat.zero_le _, Nat.zero_le _⟩ (Nat.le_of_ble_eq_true rfl) rfl dX1_change_21 (fun r_12 hr_13 => ?_)
  have hxh_14 := nIz (n := t) (by omega)
  rcases hr_13 with ⟨rfl, -, -⟩ | ⟨rfl, h9⟩
  rotate_left
  · exact absurd h9 (by rw [hxh_14]; omega)
  rw [show (1 : Int32) = nI 1 by rfl]
  refine z_if_ne CF (tgt := 33) (nIz (by omega)) dX1_change_24 (by decide) (fun _ => ?_) (fun h => absurd h (by decide))
  refine lv_aload_n CF.1 CF.2.1 dX1_change_33 rfl (lv_at hl 0 rfl) ?_
  refine lv_iload_n CF.1 CF.2.1 dX1_change_34 rfl (lv_at hl 1 rfl) ?_
  refine lv_iload_n CF.1 CF.2.1 dX1_change_35 rfl (lv_at hl 2 rfl) ?_
  refine lv_iload_n CF.1 CF.2.1 dX1_change_36 rfl (lv_at hl 3 rfl) ?_
  refine lv_iload CF.1 CF.2.1 dX1_change_37 (lv_at hl 4 rfl) ?_
  refine lv_aload_n CF.1 CF.2.1 dX1_change_39 rfl (lv_at hl 0 rfl) ?_
  refine lv_iload_n CF.1 CF.2.1 dX1_change_40 rfl (lv_at hl 2 rfl) ?_
  refine lv_iload_n CF.1 CF.2.1 dX1_change_41 rfl (lv_at hl 3 rfl) ?_
  refine c1_i CF hK hP1 (As := [.int (nI (f)), .int (nI (t))]) (rest := [.int (nI (a)), .int (nI (t)), .int (nI (f)), .int (nI (u)), .ref (ad 0)]) (c1_rate l hI hR (f := f) (t := t) (by omega) (by omega)) rfl lk_RX1_X1_rate rfl hl.1 ⟨Nat.le_of_ble_eq_true rfl, Nat.le_of_ble_eq_true rfl⟩ ⟨Nat.zero_le _, Nat.zero_le _⟩ (Nat.le_of_ble_eq_true rfl) rfl dX1_change_42 (fun r_17 hr_18 => ?_)
  subst hr_18
  refine c1_i CF hK hP1 (As := [.int (nI (u)), .int (nI (f)), .int (nI (t)), .int (nI (a)), .int (nI (b 1 (f * 5 + t)))]) (rest := []) (c1_can l hI hR (u := u) (f := f) (t := t) (a := a) (x := b 1 (f * 5 + t)) hu hf ht ha (i_ra _ (by omega))) rfl lk_RX1_X1_can rfl hl.1 ⟨Nat.le_of_ble_eq_true rfl, Nat.le_of_ble_eq_true rfl⟩ ⟨Nat.zero_le _, Nat.zero_le _⟩ (Nat.le_of_ble_eq_true rfl) rfl dX1_change_45 (fun r_19 hr_20 => ?_)
  rcases hr_20 with ⟨rfl, -⟩ | ⟨rfl, hr_20n⟩
  rotate_left
  · exact absurd (due_iff.mpr hok).1 hr_20n
  refine z_if_eq CF (tgt := 63) (nIz (by omega)) dX1_change_48 (by decide) (fun h => absurd h (by decide)) (fun _ => ?_)
  refine lv_aload_n CF.1 CF.2.1 dX1_change_51 rfl (lv_at hl 0 rfl) ?_
  refine lv_iload_n CF.1 CF.2.1 dX1_change_52 rfl (lv_at hl 1 rfl) ?_
  refine lv_iload_n CF.1 CF.2.1 dX1_change_53 rfl (lv_at hl 2 rfl) ?_
  refine lv_iload_n CF.1 CF.2.1 dX1_change_54 rfl (lv_at hl 3 rfl) ?_
  refine lv_iload CF.1 CF.2.1 dX1_change_55 (lv_at hl 4 rfl) ?_
  refine d1_i CF hK hP1 hj (fun _ h => h) hS1 (As := [.int (nI (u)), .int (nI (f)), .int (nI (t)), .int (nI (a))]) (rest := []) (c1_carryOut l hj (b := b) hI hR (u := u) (f := f) (t := t) (a := a) hu hf ht k1 k3 k5 k6) rfl lk_RX1_X1_carryOut rfl hl.1 ⟨Nat.le_of_ble_eq_true rfl, Nat.le_of_ble_eq_true rfl⟩ ⟨Nat.zero_le _, Nat.zero_le _⟩ (Nat.le_of_ble_eq_true rfl) rfl dX1_change_57 (fun r_23 σ25 H25 locs hr_24 hP25 hD25 hS25 hz25 hk25 => ?_)
  obtain ⟨rfl, hr_24b, hr_24c⟩ := hr_24
  refine lv_goto (tgt := 68) CF.1 CF.2.1 dX1_change_60 (by decide) ?_
  exact W.iret CF.1 CF.2.1 hr (fun t9 ht9 hW9 => ⟨⟨_, σ25, rfl, ⟨rfl, hr_24b, Ro_sm hO hr_24c dc_03 dc_05 (fun j => by rw [dc_7]), hr_24c.2.2.2.trans hT⟩, by show va_P G vwCl (w1 ad cA σ25) t9.heap; rw [ht9]; exact hP25⟩, hS25.F ht9⟩) hS25.2.2 dX1_change_68
set_option maxHeartbeats 1000000 in
set_option maxRecDepth 100000 in
theorem b1_change (l : Launch) {G : va_G} {cA : ClassId} {ad : Nat → Nat} {σ : RS} (hj : inj8 ad) {b : BS} (hI : InvC b) (hR : Rc σ b) (hO : Ro σ b) (hOi : InvO b) (x y z w : Int32) (hbad : ¬ (0 ≤ x.toInt ∧ x.toInt < (b 0 2 : Nat) ∧ 0 ≤ y.toInt ∧ y.toInt < 5 ∧ 0 ≤ z.toInt ∧ z.toInt < 5 ∧ ∃ a, a < 2147483648 ∧ w = nI a ∧ okN b x.toNatClampNeg y.toNatClampNeg z.toNatClampNeg a 1)) : Met l yX1_change (ws_ yX1_change cX1_change 5 (some .int)) (rmk 8 0 0) (pc1 G cA ad σ [.ref (ad 0), .int (x), .int (y), .int (z), .int (w)]) (va_Qi (fun (_ : Int32) (σ' : RS) => Rc σ' b ∧ Ro σ' b ∧ ((σ' 0 6 = nI 1 ∧ (¬ (0 ≤ x.toInt ∧ x.toInt < (b 0 2 : Nat) ∧ 0 ≤ y.toInt ∧ y.toInt < 5 ∧ 0 ≤ z.toInt ∧ z.toInt < 5))) ∨ (σ' 0 6 = nI 2 ∧ (0 ≤ x.toInt ∧ x.toInt < (b 0 2 : Nat) ∧ 0 ≤ y.toInt ∧ y.toInt < 5 ∧ 0 ≤ z.toInt ∧ z.toInt < 5)))) (fun σ' t => va_P G vwCl (w1 ad cA σ') t.heap) (own8 ad)) 0 0 (own8 ad) := by
  refine Met.ofW (cc := cX1_change) (maxL := 5) (ret := (some .int)) (by decide) rfl ?_
  intro p e s m args below meth c s₁ B hml hv
  obtain ⟨rfl, hP, hK⟩ := hv
  have CF : CallFix p m c cX1_change 5 s _ AW RX1 := ⟨B.exec, B.bytes, hml, findClass_of_methodNamed B.named, fun w h => atoms_spec (ws := ws_ yX1_change cX1_change 5 (some .int)) B.pre w (List.mem_cons_of_mem _ h)⟩
  have hr := B.returns
  have hlocks := B.notSynchronized
  have hl := lv_entry ([.ref (ad 0), .int (x), .int (y), .int (z), .int (w)]) (n := 5) (Nat.le_of_ble_eq_true rfl)
  rw [lg_entry_eq]
  generalize (lg_sl ([.ref (ad 0), .int (x), .int (y), .int (z), .int (w)]) ++ List.replicate (5 - (lg_sl ([.ref (ad 0), .int (x), .int (y), .int (z), .int (w)])).length) Slot.unset).toArray = ls at hl ⊢
  have hl : lv_has ls 5 [(0, .ref (ad 0)), (1, .int (x)), (2, .int (y)), (3, .int (z)), (4, .int (w))] := hl
  have hD : va_D (own8 ad) (w1 ad cA σ) := w1_D hj (fun _ h => h)
  have hS : va_S (own8 ad) s.heap s.heap [] := va_S.rf
  obtain ⟨i_sp, i_cu, i_ra, i_di, i_mo, i_pu⟩ := id hI
  have hw10 := hOi.1
  refine lv_aload_n CF.1 CF.2.1 dX1_change_0 rfl (lv_at hl 0 rfl) ?_
  refine lv_iconst (v := nI 0) CF.1 CF.2.1 dX1_change_1 (by decide) ?_
  refine x1_p_thrown CF hK hP hD hS dX1_change_2 (fun σ1 H1 locs hσ1 hP1 hD1 hS1 => ?_)
  have hR : Rc σ1 b := Rc_th hR hσ1
  have hO : Ro σ1 b := Ro_th hO hσ1
  have hT : σ1 0 6 = nI 0 := by rw [hσ1, up_s]
  refine lv_aload_n CF.1 CF.2.1 dX1_change_5 rfl (lv_at hl 0 rfl) ?_
  refine lv_iload_n CF.1 CF.2.1 dX1_change_6 rfl (lv_at hl 1 rfl) ?_
  refine c1_i CF hK hP1 (As := [.int (x)]) (rest := []) (c1_isCustomer l hI hR ((x))) rfl lk_RX1_X1_isCustomer rfl hl.1 ⟨Nat.le_of_ble_eq_true rfl, Nat.le_of_ble_eq_true rfl⟩ ⟨Nat.zero_le _, Nat.zero_le _⟩ (Nat.le_of_ble_eq_true rfl) rfl dX1_change_7 (fun r_2 hr_3 => ?_)
  rcases hr_3 with ⟨rfl, h_6, h_7⟩ | ⟨rfl, h_8⟩
  · rw [show (1 : Int32) = nI 1 by rfl]
    obtain ⟨j_4, h_5, rfl⟩ := nI_ex (x := x) (n := b 0 2) (by omega) (by omega)
    have hzj_4 := nIz (n := j_4) (by omega)
    refine z_if_eq CF (tgt := 27) (nIz (by omega)) dX1_change_10 (by decide) (fun h => absurd h (by decide)) (fun _ => ?_)
    refine lv_iload_n CF.1 CF.2.1 dX1_change_13 rfl (lv_at hl 2 rfl) ?_
    refine cS_i CF (As := [.int (y)]) (rest := []) (c1_isMoney l ((y))) lk_RX1_X1_isMoney rfl hl.1 ⟨Nat.le_of_ble_eq_true rfl, Nat.le_of_ble_eq_true rfl⟩ ⟨Nat.zero_le _, Nat.zero_le _⟩ (Nat.le_of_ble_eq_true rfl) rfl dX1_change_14 (fun r_11 hr_12 => ?_)
    rcases hr_12 with ⟨rfl, h_15, h_16⟩ | ⟨rfl, h_17⟩
    · rw [show (1 : Int32) = nI 1 by rfl]
      obtain ⟨j_13, h_14, rfl⟩ := nI_ex (x := y) (n := 5) (by omega) (by omega)
      have hzj_13 := nIz (n := j_13) (by omega)
      refine z_if_eq CF (tgt := 27) (nIz (by omega)) dX1_change_17 (by decide) (fun h => absurd h (by decide)) (fun _ => ?_)
      refine lv_iload_n CF.1 CF.2.1 dX1_change_20 rfl (lv_at hl 3 rfl) ?_
      refine cS_i CF (As := [.int (z)]) (rest := []) (c1_isMoney l ((z))) lk_RX1_X1_isMoney rfl hl.1 ⟨Nat.le_of_ble_eq_true rfl, Nat.le_of_ble_eq_true rfl⟩ ⟨Nat.zero_le _, Nat.zero_le _⟩ (Nat.le_of_ble_eq_true rfl) rfl dX1_change_21 (fun r_20 hr_21 => ?_)
      rcases hr_21 with ⟨rfl, h_24, h_25⟩ | ⟨rfl, h_26⟩
      · rw [show (1 : Int32) = nI 1 by rfl]
        obtain ⟨j_22, h_23, rfl⟩ := nI_ex (x := z) (n := 5) (by omega) (by omega)
        have hzj_22 := nIz (n := j_22) (by omega)
        refine z_if_ne CF (tgt := 33) (nIz (by omega)) dX1_change_24 (by decide) (fun _ => ?_) (fun h => absurd h (by decide))
        refine lv_aload_n CF.1 CF.2.1 dX1_change_33 rfl (lv_at hl 0 rfl) ?_
        refine lv_iload_n CF.1 CF.2.1 dX1_change_34 rfl (lv_at hl 1 rfl) ?_
        refine lv_iload_n CF.1 CF.2.1 dX1_change_35 rfl (lv_at hl 2 rfl) ?_
        refine lv_iload_n CF.1 CF.2.1 dX1_change_36 rfl (lv_at hl 3 rfl) ?_
        refine lv_iload CF.1 CF.2.1 dX1_change_37 (lv_at hl 4 rfl) ?_
        refine lv_aload_n CF.1 CF.2.1 dX1_change_39 rfl (lv_at hl 0 rfl) ?_
        refine lv_iload_n CF.1 CF.2.1 dX1_change_40 rfl (lv_at hl 2 rfl) ?_
        refine lv_iload_n CF.1 CF.2.1 dX1_change_41 rfl (lv_at hl 3 rfl) ?_
        refine c1_i CF hK hP1 (As := [.int (nI (j_13)), .int (nI (j_22))]) (rest := [.int (w), .int (nI (j_22)), .int (nI (j_13)), .int (nI (j_4)), .ref (ad 0)]) (c1_rate l hI hR (f := j_13) (t := j_22) (by omega) (by omega)) rfl lk_RX1_X1_rate rfl hl.1 ⟨Nat.le_of_ble_eq_true rfl, Nat.le_of_ble_eq_true rfl⟩ ⟨Nat.zero_le _, Nat.zero_le _⟩ (Nat.le_of_ble_eq_true rfl) rfl dX1_change_42 (fun r_29 hr_30 => ?_)
        subst hr_30
        by_cases hneg : w.toInt < 1
        · refine c1_i CF hK hP1 (As := [.int (nI (j_4)), .int (nI (j_13)), .int (nI (j_22)), .int (w), .int (nI (b 1 (j_13 * 5 + j_22)))]) (rest := []) (c1_canNeg l hI hR (u := j_4) (f := j_13) (t := j_22) (x := b 1 (j_13 * 5 + j_22)) (by omega) (by omega) (by omega) hneg (i_ra _ (by omega))) rfl lk_RX1_X1_can rfl hl.1 ⟨Nat.le_of_ble_eq_true rfl, Nat.le_of_ble_eq_true rfl⟩ ⟨Nat.zero_le _, Nat.zero_le _⟩ (Nat.le_of_ble_eq_true rfl) rfl dX1_change_45 (fun r_31 hr_31 => ?_)
          subst hr_31
          refine z_if_eq CF (tgt := 63) (nIz (by omega)) dX1_change_48 (by decide) (fun _ => ?_) (fun h => absurd h (by decide))
          refine lv_aload_n CF.1 CF.2.1 dX1_change_63 rfl (lv_at hl 0 rfl) ?_
          refine lv_iconst (v := nI 2) CF.1 CF.2.1 dX1_change_64 (by decide) ?_
          refine d1_i CF hK hP1 hj (fun _ h => h) hS1 (As := [.int (nI (2))]) (rest := []) (c1_fail l hj (σ := σ1) (nI 2)) rfl lk_RX1_X1_fail rfl hl.1 ⟨Nat.le_of_ble_eq_true rfl, Nat.le_of_ble_eq_true rfl⟩ ⟨Nat.zero_le _, Nat.zero_le _⟩ (Nat.le_of_ble_eq_true rfl) rfl dX1_change_65 (fun r_34 σ36 H36 locs hr_35 hP36 hD36 hS36 hz36 hk36 => ?_)
          obtain ⟨rfl, hF_r_34⟩ := hr_35
          exact W.iret CF.1 CF.2.1 hr (fun t9 ht9 hW9 => ⟨⟨_, σ36, rfl, ⟨Rc_th hR hF_r_34, Ro_th hO hF_r_34, Or.inr (⟨by rw [hF_r_34, up_s], by omega⟩)⟩, by show va_P G vwCl (w1 ad cA σ36) t9.heap; rw [ht9]; exact hP36⟩, hS36.F ht9⟩) hS36.2.2 dX1_change_68
        · obtain ⟨a, ha, rfl⟩ := nI_ex (x := w) (n := 2147483648) (by omega) (by have := w.toInt_lt; omega)
          refine c1_i CF hK hP1 (As := [.int (nI (j_4)), .int (nI (j_13)), .int (nI (j_22)), .int (nI (a)), .int (nI (b 1 (j_13 * 5 + j_22)))]) (rest := []) (c1_can l hI hR (u := j_4) (f := j_13) (t := j_22) (a := a) (x := b 1 (j_13 * 5 + j_22)) (by omega) (by omega) (by omega) ha (i_ra _ (by omega))) rfl lk_RX1_X1_can rfl hl.1 ⟨Nat.le_of_ble_eq_true rfl, Nat.le_of_ble_eq_true rfl⟩ ⟨Nat.zero_le _, Nat.zero_le _⟩ (Nat.le_of_ble_eq_true rfl) rfl dX1_change_45 (fun r_37 hr_37 => ?_)
          rcases hr_37 with ⟨-, hok⟩ | ⟨rfl, -⟩
          · exact absurd ⟨by omega, by omega, by omega, by omega, by omega, by omega, a, ha, rfl, by rw [nI_clamp (by omega), nI_clamp (by omega), nI_clamp (by omega)]; exact due_iff.mp ⟨hok, hok.2.2.2.2.1⟩⟩ hbad
          refine z_if_eq CF (tgt := 63) (nIz (by omega)) dX1_change_48 (by decide) (fun _ => ?_) (fun h => absurd h (by decide))
          refine lv_aload_n CF.1 CF.2.1 dX1_change_63 rfl (lv_at hl 0 rfl) ?_
          refine lv_iconst (v := nI 2) CF.1 CF.2.1 dX1_change_64 (by decide) ?_
          refine d1_i CF hK hP1 hj (fun _ h => h) hS1 (As := [.int (nI (2))]) (rest := []) (c1_fail l hj (σ := σ1) (nI 2)) rfl lk_RX1_X1_fail rfl hl.1 ⟨Nat.le_of_ble_eq_true rfl, Nat.le_of_ble_eq_true rfl⟩ ⟨Nat.zero_le _, Nat.zero_le _⟩ (Nat.le_of_ble_eq_true rfl) rfl dX1_change_65 (fun r_40 σ42 H42 locs hr_41 hP42 hD42 hS42 hz42 hk42 => ?_)
          obtain ⟨rfl, hF_r_40⟩ := hr_41
          exact W.iret CF.1 CF.2.1 hr (fun t9 ht9 hW9 => ⟨⟨_, σ42, rfl, ⟨Rc_th hR hF_r_40, Ro_th hO hF_r_40, Or.inr (⟨by rw [hF_r_40, up_s], by omega⟩)⟩, by show va_P G vwCl (w1 ad cA σ42) t9.heap; rw [ht9]; exact hP42⟩, hS42.F ht9⟩) hS42.2.2 dX1_change_68
      · rw [show (0 : Int32) = nI 0 by rfl]
        refine z_if_ne CF (tgt := 33) (nIz (by omega)) dX1_change_24 (by decide) (fun h => absurd h (by decide)) (fun _ => ?_)
        refine lv_aload_n CF.1 CF.2.1 dX1_change_27 rfl (lv_at hl 0 rfl) ?_
        refine lv_iconst (v := nI 1) CF.1 CF.2.1 dX1_change_28 (by decide) ?_
        refine d1_i CF hK hP1 hj (fun _ h => h) hS1 (As := [.int (nI (1))]) (rest := []) (c1_fail l hj (σ := σ1) (nI 1)) rfl lk_RX1_X1_fail rfl hl.1 ⟨Nat.le_of_ble_eq_true rfl, Nat.le_of_ble_eq_true rfl⟩ ⟨Nat.zero_le _, Nat.zero_le _⟩ (Nat.le_of_ble_eq_true rfl) rfl dX1_change_29 (fun r_45 σ47 H47 locs hr_46 hP47 hD47 hS47 hz47 hk47 => ?_)
        obtain ⟨rfl, hF_r_45⟩ := hr_46
        exact W.iret CF.1 CF.2.1 hr (fun t9 ht9 hW9 => ⟨⟨_, σ47, rfl, ⟨Rc_th hR hF_r_45, Ro_th hO hF_r_45, Or.inl ⟨by rw [hF_r_45, up_s], by omega⟩⟩, by show va_P G vwCl (w1 ad cA σ47) t9.heap; rw [ht9]; exact hP47⟩, hS47.F ht9⟩) hS47.2.2 dX1_change_32
    · rw [show (0 : Int32) = nI 0 by rfl]
      refine z_if_eq CF (tgt := 27) (nIz (by omega)) dX1_change_17 (by decide) (fun _ => ?_) (fun h => absurd h (by decide))
      refine lv_aload_n CF.1 CF.2.1 dX1_change_27 rfl (lv_at hl 0 rfl) ?_
      refine lv_iconst (v := nI 1) CF.1 CF.2.1 dX1_change_28 (by decide) ?_
      refine d1_i CF hK hP1 hj (fun _ h => h) hS1 (As := [.int (nI (1))]) (rest := []) (c1_fail l hj (σ := σ1) (nI 1)) rfl lk_RX1_X1_fail rfl hl.1 ⟨Nat.le_of_ble_eq_true rfl, Nat.le_of_ble_eq_true rfl⟩ ⟨Nat.zero_le _, Nat.zero_le _⟩ (Nat.le_of_ble_eq_true rfl) rfl dX1_change_29 (fun r_50 σ52 H52 locs hr_51 hP52 hD52 hS52 hz52 hk52 => ?_)
      obtain ⟨rfl, hF_r_50⟩ := hr_51
      exact W.iret CF.1 CF.2.1 hr (fun t9 ht9 hW9 => ⟨⟨_, σ52, rfl, ⟨Rc_th hR hF_r_50, Ro_th hO hF_r_50, Or.inl ⟨by rw [hF_r_50, up_s], by omega⟩⟩, by show va_P G vwCl (w1 ad cA σ52) t9.heap; rw [ht9]; exact hP52⟩, hS52.F ht9⟩) hS52.2.2 dX1_change_32
  · rw [show (0 : Int32) = nI 0 by rfl]
    refine z_if_eq CF (tgt := 27) (nIz (by omega)) dX1_change_10 (by decide) (fun _ => ?_) (fun h => absurd h (by decide))
    refine lv_aload_n CF.1 CF.2.1 dX1_change_27 rfl (lv_at hl 0 rfl) ?_
    refine lv_iconst (v := nI 1) CF.1 CF.2.1 dX1_change_28 (by decide) ?_
    refine d1_i CF hK hP1 hj (fun _ h => h) hS1 (As := [.int (nI (1))]) (rest := []) (c1_fail l hj (σ := σ1) (nI 1)) rfl lk_RX1_X1_fail rfl hl.1 ⟨Nat.le_of_ble_eq_true rfl, Nat.le_of_ble_eq_true rfl⟩ ⟨Nat.zero_le _, Nat.zero_le _⟩ (Nat.le_of_ble_eq_true rfl) rfl dX1_change_29 (fun r_55 σ57 H57 locs hr_56 hP57 hD57 hS57 hz57 hk57 => ?_)
    obtain ⟨rfl, hF_r_55⟩ := hr_56
    exact W.iret CF.1 CF.2.1 hr (fun t9 ht9 hW9 => ⟨⟨_, σ57, rfl, ⟨Rc_th hR hF_r_55, Ro_th hO hF_r_55, Or.inl ⟨by rw [hF_r_55, up_s], by omega⟩⟩, by show va_P G vwCl (w1 ad cA σ57) t9.heap; rw [ht9]; exact hP57⟩, hS57.F ht9⟩) hS57.2.2 dX1_change_32
set_option maxHeartbeats 1000000 in
set_option maxRecDepth 100000 in
theorem c1_cancel (l : Launch) {G : va_G} {cA : ClassId} {ad : Nat → Nat} {σ : RS} (hj : inj8 ad) {b : BS} (hI : InvC b) (hR : Rc σ b) (hO : Ro σ b) (hOi : InvO b) {q : Nat} (hq : q < b 0 3) : Met l yX1_cancel (ws_ yX1_cancel cX1_cancel 3 (some .int)) (rmk 8 0 0) (pc1 G cA ad σ [.ref (ad 0), .int (nI (q))]) (va_Qi (fun (r : Int32) (σ' : RS) => r = nI (b 7 (q * 5)) ∧ Rc σ' (takeN b q) ∧ Ro σ' (takeN b q) ∧ σ' 0 6 = nI 0) (fun σ' t => va_P G vwCl (w1 ad cA σ') t.heap) (own8 ad)) 0 0 (own8 ad) := by
  refine Met.ofW (cc := cX1_cancel) (maxL := 3) (ret := (some .int)) (by decide) rfl ?_
  intro p e s m args below meth c s₁ B hml hv
  obtain ⟨rfl, hP, hK⟩ := hv
  have CF : CallFix p m c cX1_cancel 3 s _ AW RX1 := ⟨B.exec, B.bytes, hml, findClass_of_methodNamed B.named, fun w h => atoms_spec (ws := ws_ yX1_cancel cX1_cancel 3 (some .int)) B.pre w (List.mem_cons_of_mem _ h)⟩
  have hr := B.returns
  have hlocks := B.notSynchronized
  have hl := lv_entry ([.ref (ad 0), .int (nI (q))]) (n := 3) (Nat.le_of_ble_eq_true rfl)
  rw [lg_entry_eq]
  generalize (lg_sl ([.ref (ad 0), .int (nI (q))]) ++ List.replicate (3 - (lg_sl ([.ref (ad 0), .int (nI (q))])).length) Slot.unset).toArray = ls at hl ⊢
  have hl : lv_has ls 3 [(0, .ref (ad 0)), (1, .int (nI (q)))] := hl
  have hD : va_D (own8 ad) (w1 ad cA σ) := w1_D hj (fun _ h => h)
  have hS : va_S (own8 ad) s.heap s.heap [] := va_S.rf
  obtain ⟨i_sp, i_cu, i_ra, i_di, i_mo, i_pu⟩ := id hI
  have hw10 := hOi.1
  refine lv_aload_n CF.1 CF.2.1 dX1_cancel_0 rfl (lv_at hl 0 rfl) ?_
  refine lv_iconst (v := nI 0) CF.1 CF.2.1 dX1_cancel_1 (by decide) ?_
  refine x1_p_thrown CF hK hP hD hS dX1_cancel_2 (fun σ1 H1 locs hσ1 hP1 hD1 hS1 => ?_)
  have hR : Rc σ1 b := Rc_th hR hσ1
  have hO : Ro σ1 b := Ro_th hO hσ1
  have hT : σ1 0 6 = nI 0 := by rw [hσ1, up_s]
  refine lv_iload_n CF.1 CF.2.1 dX1_cancel_5 rfl (lv_at hl 1 rfl) ?_
  refine lv_iconst (v := nI 0) CF.1 CF.2.1 dX1_cancel_6 (by decide) ?_
  refine lv_aload_n CF.1 CF.2.1 dX1_cancel_7 rfl (lv_at hl 0 rfl) ?_
  refine x1_g_waiting CF hK hP1 (v := (nI (b 0 3))) (hO.1) dX1_cancel_8 ?_
  refine lv_iconst (v := nI 1) CF.1 CF.2.1 dX1_cancel_11 (by decide) ?_
  refine lv_isub CF.1 CF.2.1 dX1_cancel_12 ?_
  refine cS_i CF (As := [.int (nI (q)), .int (nI (0)), .int (nI (b 0 3) - nI (1))]) (rest := []) (c1_isIn l (nI (q)) (nI (0)) ((nI (b 0 3) - nI (1))) (nIz (by omega)) (pk_sub_toInt (by omega) (by omega))) lk_RX1_X1_isIn rfl hl.1 ⟨Nat.le_of_ble_eq_true rfl, Nat.le_of_ble_eq_true rfl⟩ ⟨Nat.zero_le _, Nat.zero_le _⟩ (Nat.le_of_ble_eq_true rfl) rfl dX1_cancel_13 (fun r_2 hr_3 => ?_)
  have hxhr_3 := nIz (n := q) (by omega)
  rcases hr_3 with ⟨rfl, -, -⟩ | ⟨rfl, h9⟩
  rotate_left
  · exact absurd h9 (by rw [hxhr_3]; omega)
  rw [show (1 : Int32) = nI 1 by rfl]
  refine z_if_ne CF (tgt := 25) (nIz (by omega)) dX1_cancel_16 (by decide) (fun _ => ?_) (fun h => absurd h (by decide))
  refine lv_aload_n CF.1 CF.2.1 dX1_cancel_25 rfl (lv_at hl 0 rfl) ?_
  refine lv_iload_n CF.1 CF.2.1 dX1_cancel_26 rfl (lv_at hl 1 rfl) ?_
  refine lv_iconst (v := nI 0) CF.1 CF.2.1 dX1_cancel_27 (by decide) ?_
  refine c1_i CF hK hP1 (As := [.int (nI (q)), .int (nI (0))]) (rest := []) (c1_or l (σ := σ1) (u := q) (t := 0) (by omega) (by omega)) rfl lk_RX1_X1_or rfl hl.1 ⟨Nat.le_of_ble_eq_true rfl, Nat.le_of_ble_eq_true rfl⟩ ⟨Nat.zero_le _, Nat.zero_le _⟩ (Nat.le_of_ble_eq_true rfl) rfl dX1_cancel_28 (fun r_6 hr_7 => ?_)
  subst hr_7
  refine tpi (show σ1 7 (q * 5 + 0) = nI (b 7 (q * 5)) from hO.2.2 (q * 5 + 0) (by omega)) ?_
  refine lv_istore_n (lv' := [(2, .int (nI (b 7 (q * 5)))), (0, .ref (ad 0)), (1, .int (nI (q)))]) CF.1 CF.2.1 dX1_cancel_31 rfl hl (by decide) rfl (fun ls hl => ?_)
  refine lv_aload_n CF.1 CF.2.1 dX1_cancel_32 rfl (lv_at hl 1 rfl) ?_
  refine lv_iload_n CF.1 CF.2.1 dX1_cancel_33 rfl (lv_at hl 2 rfl) ?_
  refine d1_v CF hK hP1 hj (fun _ h => h) hS1 (As := [.int (nI (q))]) (rest := []) (c1_takeOut l hj (b := b) hO.1 hw10 (q := q) hq) rfl lk_RX1_X1_takeOut rfl hl.1 ⟨Nat.le_of_ble_eq_true rfl, Nat.le_of_ble_eq_true rfl⟩ ⟨Nat.zero_le _, Nat.zero_le _⟩ (Nat.le_of_ble_eq_true rfl) rfl dX1_cancel_34 (fun σ10 H10 locs hr_9 hP10 hD10 hS10 hz10 hk10 => ?_)
  obtain ⟨s1, ht1, ht2⟩ := hr_9
  refine lv_iload_n CF.1 CF.2.1 dX1_cancel_37 rfl (lv_at hl 0 rfl) ?_
  exact W.iret CF.1 CF.2.1 hr (fun t9 ht9 hW9 => ⟨⟨_, σ10, rfl, ⟨rfl, (tk_R hR hO hq ht1 ht2).1, (tk_R hR hO hq ht1 ht2).2, by rw [ht2]; unfold tkR; rw [if_neg (by decide), ht1, up_i (by decide)]; exact hT⟩, by show va_P G vwCl (w1 ad cA σ10) t9.heap; rw [ht9]; exact hP10⟩, hS10.F ht9⟩) hS10.2.2 dX1_cancel_38
set_option maxHeartbeats 1000000 in
set_option maxRecDepth 100000 in
theorem b1_cancel (l : Launch) {G : va_G} {cA : ClassId} {ad : Nat → Nat} {σ : RS} (hj : inj8 ad) {b : BS} (hI : InvC b) (hR : Rc σ b) (hO : Ro σ b) (hOi : InvO b) (x : Int32) (hbad : ¬ (0 ≤ x.toInt ∧ x.toInt < (b 0 3 : Nat))) : Met l yX1_cancel (ws_ yX1_cancel cX1_cancel 3 (some .int)) (rmk 8 0 0) (pc1 G cA ad σ [.ref (ad 0), .int (x)]) (va_Qi (fun (_ : Int32) (σ' : RS) => Rc σ' b ∧ Ro σ' b ∧ ((σ' 0 6 = nI 1 ∧ (True)))) (fun σ' t => va_P G vwCl (w1 ad cA σ') t.heap) (own8 ad)) 0 0 (own8 ad) := by
  refine Met.ofW (cc := cX1_cancel) (maxL := 3) (ret := (some .int)) (by decide) rfl ?_
  intro p e s m args below meth c s₁ B hml hv
  obtain ⟨rfl, hP, hK⟩ := hv
  have CF : CallFix p m c cX1_cancel 3 s _ AW RX1 := ⟨B.exec, B.bytes, hml, findClass_of_methodNamed B.named, fun w h => atoms_spec (ws := ws_ yX1_cancel cX1_cancel 3 (some .int)) B.pre w (List.mem_cons_of_mem _ h)⟩
  have hr := B.returns
  have hlocks := B.notSynchronized
  have hl := lv_entry ([.ref (ad 0), .int (x)]) (n := 3) (Nat.le_of_ble_eq_true rfl)
  rw [lg_entry_eq]
  generalize (lg_sl ([.ref (ad 0), .int (x)]) ++ List.replicate (3 - (lg_sl ([.ref (ad 0), .int (x)])).length) Slot.unset).toArray = ls at hl ⊢
  have hl : lv_has ls 3 [(0, .ref (ad 0)), (1, .int (x))] := hl
  have hD : va_D (own8 ad) (w1 ad cA σ) := w1_D hj (fun _ h => h)
  have hS : va_S (own8 ad) s.heap s.heap [] := va_S.rf
  obtain ⟨i_sp, i_cu, i_ra, i_di, i_mo, i_pu⟩ := id hI
  have hw10 := hOi.1
  refine lv_aload_n CF.1 CF.2.1 dX1_cancel_0 rfl (lv_at hl 0 rfl) ?_
  refine lv_iconst (v := nI 0) CF.1 CF.2.1 dX1_cancel_1 (by decide) ?_
  refine x1_p_thrown CF hK hP hD hS dX1_cancel_2 (fun σ1 H1 locs hσ1 hP1 hD1 hS1 => ?_)
  have hR : Rc σ1 b := Rc_th hR hσ1
  have hO : Ro σ1 b := Ro_th hO hσ1
  have hT : σ1 0 6 = nI 0 := by rw [hσ1, up_s]
  refine lv_iload_n CF.1 CF.2.1 dX1_cancel_5 rfl (lv_at hl 1 rfl) ?_
  refine lv_iconst (v := nI 0) CF.1 CF.2.1 dX1_cancel_6 (by decide) ?_
  refine lv_aload_n CF.1 CF.2.1 dX1_cancel_7 rfl (lv_at hl 0 rfl) ?_
  refine x1_g_waiting CF hK hP1 (v := (nI (b 0 3))) (hO.1) dX1_cancel_8 ?_
  refine lv_iconst (v := nI 1) CF.1 CF.2.1 dX1_cancel_11 (by decide) ?_
  refine lv_isub CF.1 CF.2.1 dX1_cancel_12 ?_
  refine cS_i CF (As := [.int (x), .int (nI (0)), .int (nI (b 0 3) - nI (1))]) (rest := []) (c1_isIn l ((x)) (nI (0)) ((nI (b 0 3) - nI (1))) (nIz (by omega)) (pk_sub_toInt (by omega) (by omega))) lk_RX1_X1_isIn rfl hl.1 ⟨Nat.le_of_ble_eq_true rfl, Nat.le_of_ble_eq_true rfl⟩ ⟨Nat.zero_le _, Nat.zero_le _⟩ (Nat.le_of_ble_eq_true rfl) rfl dX1_cancel_13 (fun r_2 hr_3 => ?_)
  rcases hr_3 with ⟨rfl, h_6, h_7⟩ | ⟨rfl, h_8⟩
  · rw [show (1 : Int32) = nI 1 by rfl]
    obtain ⟨j_4, h_5, rfl⟩ := nI_ex (x := x) (n := b 0 3) (by omega) (by omega)
    have hzj_4 := nIz (n := j_4) (by omega)
    refine z_if_ne CF (tgt := 25) (nIz (by omega)) dX1_cancel_16 (by decide) (fun _ => ?_) (fun h => absurd h (by decide))
    exact (show False by omega).elim
  · rw [show (0 : Int32) = nI 0 by rfl]
    refine z_if_ne CF (tgt := 25) (nIz (by omega)) dX1_cancel_16 (by decide) (fun h => absurd h (by decide)) (fun _ => ?_)
    refine lv_aload_n CF.1 CF.2.1 dX1_cancel_19 rfl (lv_at hl 0 rfl) ?_
    refine lv_iconst (v := nI 1) CF.1 CF.2.1 dX1_cancel_20 (by decide) ?_
    refine d1_i CF hK hP1 hj (fun _ h => h) hS1 (As := [.int (nI (1))]) (rest := []) (c1_fail l hj (σ := σ1) (nI 1)) rfl lk_RX1_X1_fail rfl hl.1 ⟨Nat.le_of_ble_eq_true rfl, Nat.le_of_ble_eq_true rfl⟩ ⟨Nat.zero_le _, Nat.zero_le _⟩ (Nat.le_of_ble_eq_true rfl) rfl dX1_cancel_21 (fun r_13 σ15 H15 locs hr_14 hP15 hD15 hS15 hz15 hk15 => ?_)
    obtain ⟨rfl, hF_r_13⟩ := hr_14
    exact W.iret CF.1 CF.2.1 hr (fun t9 ht9 hW9 => ⟨⟨_, σ15, rfl, ⟨Rc_th hR hF_r_13, Ro_th hO hF_r_13, ⟨by rw [hF_r_13, up_s], trivial⟩⟩, by show va_P G vwCl (w1 ad cA σ15) t9.heap; rw [ht9]; exact hP15⟩, hS15.F ht9⟩) hS15.2.2 dX1_cancel_24
set_option maxHeartbeats 1000000 in
set_option maxRecDepth 100000 in
theorem c1_has (l : Launch) {G : va_G} {cA : ClassId} {ad : Nat → Nat} {σ : RS} (hj : inj8 ad) {b : BS} (hI : InvC b) (hR : Rc σ b) (hO : Ro σ b) (hOi : InvO b) {u t : Nat} (hu : u < b 0 2) (ht : t < 5) : Met l yX1_has (ws_ yX1_has cX1_has 3 (some .int)) (rmk 8 0 0) (pc1 G cA ad σ [.ref (ad 0), .int (nI (u)), .int (nI (t))]) (va_Qi (fun (r : Int32) (σ' : RS) => r = nI (b 6 (u * 5 + t)) ∧ Rc σ' (b) ∧ Ro σ' (b) ∧ σ' 0 6 = nI 0) (fun σ' t => va_P G vwCl (w1 ad cA σ') t.heap) (own8 ad)) 0 0 (own8 ad) := by
  refine Met.ofW (cc := cX1_has) (maxL := 3) (ret := (some .int)) (by decide) rfl ?_
  intro p e s m args below meth c s₁ B hml hv
  obtain ⟨rfl, hP, hK⟩ := hv
  have CF : CallFix p m c cX1_has 3 s _ AW RX1 := ⟨B.exec, B.bytes, hml, findClass_of_methodNamed B.named, fun w h => atoms_spec (ws := ws_ yX1_has cX1_has 3 (some .int)) B.pre w (List.mem_cons_of_mem _ h)⟩
  have hr := B.returns
  have hlocks := B.notSynchronized
  have hl := lv_entry ([.ref (ad 0), .int (nI (u)), .int (nI (t))]) (n := 3) (Nat.le_of_ble_eq_true rfl)
  rw [lg_entry_eq]
  generalize (lg_sl ([.ref (ad 0), .int (nI (u)), .int (nI (t))]) ++ List.replicate (3 - (lg_sl ([.ref (ad 0), .int (nI (u)), .int (nI (t))])).length) Slot.unset).toArray = ls at hl ⊢
  have hl : lv_has ls 3 [(0, .ref (ad 0)), (1, .int (nI (u))), (2, .int (nI (t)))] := hl
  have hD : va_D (own8 ad) (w1 ad cA σ) := w1_D hj (fun _ h => h)
  have hS : va_S (own8 ad) s.heap s.heap [] := va_S.rf
  obtain ⟨i_sp, i_cu, i_ra, i_di, i_mo, i_pu⟩ := id hI
  have hw10 := hOi.1
  refine lv_aload_n CF.1 CF.2.1 dX1_has_0 rfl (lv_at hl 0 rfl) ?_
  refine lv_iconst (v := nI 0) CF.1 CF.2.1 dX1_has_1 (by decide) ?_
  refine x1_p_thrown CF hK hP hD hS dX1_has_2 (fun σ1 H1 locs hσ1 hP1 hD1 hS1 => ?_)
  have hR : Rc σ1 b := Rc_th hR hσ1
  have hO : Ro σ1 b := Ro_th hO hσ1
  have hT : σ1 0 6 = nI 0 := by rw [hσ1, up_s]
  refine lv_aload_n CF.1 CF.2.1 dX1_has_5 rfl (lv_at hl 0 rfl) ?_
  refine lv_iload_n CF.1 CF.2.1 dX1_has_6 rfl (lv_at hl 1 rfl) ?_
  refine c1_i CF hK hP1 (As := [.int (nI (u))]) (rest := []) (c1_isCustomer l hI hR (nI (u))) rfl lk_RX1_X1_isCustomer rfl hl.1 ⟨Nat.le_of_ble_eq_true rfl, Nat.le_of_ble_eq_true rfl⟩ ⟨Nat.zero_le _, Nat.zero_le _⟩ (Nat.le_of_ble_eq_true rfl) rfl dX1_has_7 (fun r_2 hr_3 => ?_)
  have hxh_4 := nIz (n := u) (by omega)
  rcases hr_3 with ⟨rfl, -, -⟩ | ⟨rfl, h9⟩
  rotate_left
  · exact absurd h9 (by rw [hxh_4]; omega)
  rw [show (1 : Int32) = nI 1 by rfl]
  refine z_if_eq CF (tgt := 29) (nIz (by omega)) dX1_has_10 (by decide) (fun h => absurd h (by decide)) (fun _ => ?_)
  refine lv_iload_n CF.1 CF.2.1 dX1_has_13 rfl (lv_at hl 2 rfl) ?_
  refine cS_i CF (As := [.int (nI (t))]) (rest := []) (c1_isMoney l (nI (t))) lk_RX1_X1_isMoney rfl hl.1 ⟨Nat.le_of_ble_eq_true rfl, Nat.le_of_ble_eq_true rfl⟩ ⟨Nat.zero_le _, Nat.zero_le _⟩ (Nat.le_of_ble_eq_true rfl) rfl dX1_has_14 (fun r_7 hr_8 => ?_)
  have hxh_9 := nIz (n := t) (by omega)
  rcases hr_8 with ⟨rfl, -, -⟩ | ⟨rfl, h9⟩
  rotate_left
  · exact absurd h9 (by rw [hxh_9]; omega)
  rw [show (1 : Int32) = nI 1 by rfl]
  refine z_if_eq CF (tgt := 29) (nIz (by omega)) dX1_has_17 (by decide) (fun h => absurd h (by decide)) (fun _ => ?_)
  refine lv_aload_n CF.1 CF.2.1 dX1_has_20 rfl (lv_at hl 0 rfl) ?_
  refine lv_iload_n CF.1 CF.2.1 dX1_has_21 rfl (lv_at hl 1 rfl) ?_
  refine lv_iload_n CF.1 CF.2.1 dX1_has_22 rfl (lv_at hl 2 rfl) ?_
  refine c1_i CF hK hP1 (As := [.int (nI (u)), .int (nI (t))]) (rest := []) (c1_purse l hI hR (u := u) (t := t) (by omega) (by omega)) rfl lk_RX1_X1_purse rfl hl.1 ⟨Nat.le_of_ble_eq_true rfl, Nat.le_of_ble_eq_true rfl⟩ ⟨Nat.zero_le _, Nat.zero_le _⟩ (Nat.le_of_ble_eq_true rfl) rfl dX1_has_23 (fun r_12 hr_13 => ?_)
  subst hr_13
  refine lv_goto (tgt := 34) CF.1 CF.2.1 dX1_has_26 (by decide) ?_
  exact W.iret CF.1 CF.2.1 hr (fun t9 ht9 hW9 => ⟨⟨_, σ1, rfl, ⟨rfl, hR, hO, hT⟩, by show va_P G vwCl (w1 ad cA σ1) t9.heap; rw [ht9]; exact hP1⟩, hS1.F ht9⟩) hS1.2.2 dX1_has_34
set_option maxHeartbeats 1000000 in
set_option maxRecDepth 100000 in
theorem b1_has (l : Launch) {G : va_G} {cA : ClassId} {ad : Nat → Nat} {σ : RS} (hj : inj8 ad) {b : BS} (hI : InvC b) (hR : Rc σ b) (hO : Ro σ b) (hOi : InvO b) (x y : Int32) (hbad : ¬ (0 ≤ x.toInt ∧ x.toInt < (b 0 2 : Nat) ∧ 0 ≤ y.toInt ∧ y.toInt < 5)) : Met l yX1_has (ws_ yX1_has cX1_has 3 (some .int)) (rmk 8 0 0) (pc1 G cA ad σ [.ref (ad 0), .int (x), .int (y)]) (va_Qi (fun (_ : Int32) (σ' : RS) => Rc σ' b ∧ Ro σ' b ∧ ((σ' 0 6 = nI 1 ∧ (True)))) (fun σ' t => va_P G vwCl (w1 ad cA σ') t.heap) (own8 ad)) 0 0 (own8 ad) := by
  refine Met.ofW (cc := cX1_has) (maxL := 3) (ret := (some .int)) (by decide) rfl ?_
  intro p e s m args below meth c s₁ B hml hv
  obtain ⟨rfl, hP, hK⟩ := hv
  have CF : CallFix p m c cX1_has 3 s _ AW RX1 := ⟨B.exec, B.bytes, hml, findClass_of_methodNamed B.named, fun w h => atoms_spec (ws := ws_ yX1_has cX1_has 3 (some .int)) B.pre w (List.mem_cons_of_mem _ h)⟩
  have hr := B.returns
  have hlocks := B.notSynchronized
  have hl := lv_entry ([.ref (ad 0), .int (x), .int (y)]) (n := 3) (Nat.le_of_ble_eq_true rfl)
  rw [lg_entry_eq]
  generalize (lg_sl ([.ref (ad 0), .int (x), .int (y)]) ++ List.replicate (3 - (lg_sl ([.ref (ad 0), .int (x), .int (y)])).length) Slot.unset).toArray = ls at hl ⊢
  have hl : lv_has ls 3 [(0, .ref (ad 0)), (1, .int (x)), (2, .int (y))] := hl
  have hD : va_D (own8 ad) (w1 ad cA σ) := w1_D hj (fun _ h => h)
  have hS : va_S (own8 ad) s.heap s.heap [] := va_S.rf
  obtain ⟨i_sp, i_cu, i_ra, i_di, i_mo, i_pu⟩ := id hI
  have hw10 := hOi.1
  refine lv_aload_n CF.1 CF.2.1 dX1_has_0 rfl (lv_at hl 0 rfl) ?_
  refine lv_iconst (v := nI 0) CF.1 CF.2.1 dX1_has_1 (by decide) ?_
  refine x1_p_thrown CF hK hP hD hS dX1_has_2 (fun σ1 H1 locs hσ1 hP1 hD1 hS1 => ?_)
  have hR : Rc σ1 b := Rc_th hR hσ1
  have hO : Ro σ1 b := Ro_th hO hσ1
  have hT : σ1 0 6 = nI 0 := by rw [hσ1, up_s]
  refine lv_aload_n CF.1 CF.2.1 dX1_has_5 rfl (lv_at hl 0 rfl) ?_
  refine lv_iload_n CF.1 CF.2.1 dX1_has_6 rfl (lv_at hl 1 rfl) ?_
  refine c1_i CF hK hP1 (As := [.int (x)]) (rest := []) (c1_isCustomer l hI hR ((x))) rfl lk_RX1_X1_isCustomer rfl hl.1 ⟨Nat.le_of_ble_eq_true rfl, Nat.le_of_ble_eq_true rfl⟩ ⟨Nat.zero_le _, Nat.zero_le _⟩ (Nat.le_of_ble_eq_true rfl) rfl dX1_has_7 (fun r_2 hr_3 => ?_)
  rcases hr_3 with ⟨rfl, h_6, h_7⟩ | ⟨rfl, h_8⟩
  · rw [show (1 : Int32) = nI 1 by rfl]
    obtain ⟨j_4, h_5, rfl⟩ := nI_ex (x := x) (n := b 0 2) (by omega) (by omega)
    have hzj_4 := nIz (n := j_4) (by omega)
    refine z_if_eq CF (tgt := 29) (nIz (by omega)) dX1_has_10 (by decide) (fun h => absurd h (by decide)) (fun _ => ?_)
    refine lv_iload_n CF.1 CF.2.1 dX1_has_13 rfl (lv_at hl 2 rfl) ?_
    refine cS_i CF (As := [.int (y)]) (rest := []) (c1_isMoney l ((y))) lk_RX1_X1_isMoney rfl hl.1 ⟨Nat.le_of_ble_eq_true rfl, Nat.le_of_ble_eq_true rfl⟩ ⟨Nat.zero_le _, Nat.zero_le _⟩ (Nat.le_of_ble_eq_true rfl) rfl dX1_has_14 (fun r_11 hr_12 => ?_)
    rcases hr_12 with ⟨rfl, h_15, h_16⟩ | ⟨rfl, h_17⟩
    · rw [show (1 : Int32) = nI 1 by rfl]
      obtain ⟨j_13, h_14, rfl⟩ := nI_ex (x := y) (n := 5) (by omega) (by omega)
      have hzj_13 := nIz (n := j_13) (by omega)
      refine z_if_eq CF (tgt := 29) (nIz (by omega)) dX1_has_17 (by decide) (fun h => absurd h (by decide)) (fun _ => ?_)
      exact (show False by omega).elim
    · rw [show (0 : Int32) = nI 0 by rfl]
      refine z_if_eq CF (tgt := 29) (nIz (by omega)) dX1_has_17 (by decide) (fun _ => ?_) (fun h => absurd h (by decide))
      refine lv_aload_n CF.1 CF.2.1 dX1_has_29 rfl (lv_at hl 0 rfl) ?_
      refine lv_iconst (v := nI 1) CF.1 CF.2.1 dX1_has_30 (by decide) ?_
      refine d1_i CF hK hP1 hj (fun _ h => h) hS1 (As := [.int (nI (1))]) (rest := []) (c1_fail l hj (σ := σ1) (nI 1)) rfl lk_RX1_X1_fail rfl hl.1 ⟨Nat.le_of_ble_eq_true rfl, Nat.le_of_ble_eq_true rfl⟩ ⟨Nat.zero_le _, Nat.zero_le _⟩ (Nat.le_of_ble_eq_true rfl) rfl dX1_has_31 (fun r_22 σ24 H24 locs hr_23 hP24 hD24 hS24 hz24 hk24 => ?_)
      obtain ⟨rfl, hF_r_22⟩ := hr_23
      exact W.iret CF.1 CF.2.1 hr (fun t9 ht9 hW9 => ⟨⟨_, σ24, rfl, ⟨Rc_th hR hF_r_22, Ro_th hO hF_r_22, ⟨by rw [hF_r_22, up_s], trivial⟩⟩, by show va_P G vwCl (w1 ad cA σ24) t9.heap; rw [ht9]; exact hP24⟩, hS24.F ht9⟩) hS24.2.2 dX1_has_34
  · rw [show (0 : Int32) = nI 0 by rfl]
    refine z_if_eq CF (tgt := 29) (nIz (by omega)) dX1_has_10 (by decide) (fun _ => ?_) (fun h => absurd h (by decide))
    refine lv_aload_n CF.1 CF.2.1 dX1_has_29 rfl (lv_at hl 0 rfl) ?_
    refine lv_iconst (v := nI 1) CF.1 CF.2.1 dX1_has_30 (by decide) ?_
    refine d1_i CF hK hP1 hj (fun _ h => h) hS1 (As := [.int (nI (1))]) (rest := []) (c1_fail l hj (σ := σ1) (nI 1)) rfl lk_RX1_X1_fail rfl hl.1 ⟨Nat.le_of_ble_eq_true rfl, Nat.le_of_ble_eq_true rfl⟩ ⟨Nat.zero_le _, Nat.zero_le _⟩ (Nat.le_of_ble_eq_true rfl) rfl dX1_has_31 (fun r_27 σ29 H29 locs hr_28 hP29 hD29 hS29 hz29 hk29 => ?_)
    obtain ⟨rfl, hF_r_27⟩ := hr_28
    exact W.iret CF.1 CF.2.1 hr (fun t9 ht9 hW9 => ⟨⟨_, σ29, rfl, ⟨Rc_th hR hF_r_27, Ro_th hO hF_r_27, ⟨by rw [hF_r_27, up_s], trivial⟩⟩, by show va_P G vwCl (w1 ad cA σ29) t9.heap; rw [ht9]; exact hP29⟩, hS29.F ht9⟩) hS29.2.2 dX1_has_34
set_option maxHeartbeats 1000000 in
set_option maxRecDepth 100000 in
theorem c1_told (l : Launch) {G : va_G} {cA : ClassId} {ad : Nat → Nat} {σ : RS} (hj : inj8 ad) {b : BS} (hI : InvC b) (hR : Rc σ b) (hO : Ro σ b) (hOi : InvO b) {t w : Nat} (ht : t < 5) (hw : w < 5) : Met l yX1_told (ws_ yX1_told cX1_told 3 (some .int)) (rmk 8 0 0) (pc1 G cA ad σ [.ref (ad 0), .int (nI (t)), .int (nI (w))]) (va_Qi (fun (r : Int32) (σ' : RS) => r = nI (fmo b t w) ∧ Rc σ' (b) ∧ Ro σ' (b) ∧ σ' 0 6 = nI 0) (fun σ' t => va_P G vwCl (w1 ad cA σ') t.heap) (own8 ad)) 0 0 (own8 ad) := by
  refine Met.ofW (cc := cX1_told) (maxL := 3) (ret := (some .int)) (by decide) rfl ?_
  intro p e s m args below meth c s₁ B hml hv
  obtain ⟨rfl, hP, hK⟩ := hv
  have CF : CallFix p m c cX1_told 3 s _ AW RX1 := ⟨B.exec, B.bytes, hml, findClass_of_methodNamed B.named, fun w h => atoms_spec (ws := ws_ yX1_told cX1_told 3 (some .int)) B.pre w (List.mem_cons_of_mem _ h)⟩
  have hr := B.returns
  have hlocks := B.notSynchronized
  have hl := lv_entry ([.ref (ad 0), .int (nI (t)), .int (nI (w))]) (n := 3) (Nat.le_of_ble_eq_true rfl)
  rw [lg_entry_eq]
  generalize (lg_sl ([.ref (ad 0), .int (nI (t)), .int (nI (w))]) ++ List.replicate (3 - (lg_sl ([.ref (ad 0), .int (nI (t)), .int (nI (w))])).length) Slot.unset).toArray = ls at hl ⊢
  have hl : lv_has ls 3 [(0, .ref (ad 0)), (1, .int (nI (t))), (2, .int (nI (w)))] := hl
  have hD : va_D (own8 ad) (w1 ad cA σ) := w1_D hj (fun _ h => h)
  have hS : va_S (own8 ad) s.heap s.heap [] := va_S.rf
  obtain ⟨i_sp, i_cu, i_ra, i_di, i_mo, i_pu⟩ := id hI
  have hw10 := hOi.1
  refine lv_aload_n CF.1 CF.2.1 dX1_told_0 rfl (lv_at hl 0 rfl) ?_
  refine lv_iconst (v := nI 0) CF.1 CF.2.1 dX1_told_1 (by decide) ?_
  refine x1_p_thrown CF hK hP hD hS dX1_told_2 (fun σ1 H1 locs hσ1 hP1 hD1 hS1 => ?_)
  have hR : Rc σ1 b := Rc_th hR hσ1
  have hO : Ro σ1 b := Ro_th hO hσ1
  have hT : σ1 0 6 = nI 0 := by rw [hσ1, up_s]
  refine lv_iload_n CF.1 CF.2.1 dX1_told_5 rfl (lv_at hl 1 rfl) ?_
  refine cS_i CF (As := [.int (nI (t))]) (rest := []) (c1_isMoney l (nI (t))) lk_RX1_X1_isMoney rfl hl.1 ⟨Nat.le_of_ble_eq_true rfl, Nat.le_of_ble_eq_true rfl⟩ ⟨Nat.zero_le _, Nat.zero_le _⟩ (Nat.le_of_ble_eq_true rfl) rfl dX1_told_6 (fun r_2 hr_3 => ?_)
  have hxh_4 := nIz (n := t) (by omega)
  rcases hr_3 with ⟨rfl, -, -⟩ | ⟨rfl, h9⟩
  rotate_left
  · exact absurd h9 (by rw [hxh_4]; omega)
  rw [show (1 : Int32) = nI 1 by rfl]
  refine z_if_eq CF (tgt := 30) (nIz (by omega)) dX1_told_9 (by decide) (fun h => absurd h (by decide)) (fun _ => ?_)
  refine lv_iload_n CF.1 CF.2.1 dX1_told_12 rfl (lv_at hl 2 rfl) ?_
  refine lv_iconst (v := nI 0) CF.1 CF.2.1 dX1_told_13 (by decide) ?_
  refine lv_iconst (v := nI 4) CF.1 CF.2.1 dX1_told_14 (by decide) ?_
  refine cS_i CF (As := [.int (nI (w)), .int (nI (0)), .int (nI (4))]) (rest := []) (c1_isIn l (nI (w)) (nI (0)) (nI (4)) (nIz (by omega)) (nIz (by omega))) lk_RX1_X1_isIn rfl hl.1 ⟨Nat.le_of_ble_eq_true rfl, Nat.le_of_ble_eq_true rfl⟩ ⟨Nat.zero_le _, Nat.zero_le _⟩ (Nat.le_of_ble_eq_true rfl) rfl dX1_told_15 (fun r_7 hr_8 => ?_)
  have hxhr_8 := nIz (n := w) (by omega)
  rcases hr_8 with ⟨rfl, -, -⟩ | ⟨rfl, h9⟩
  rotate_left
  · exact absurd h9 (by rw [hxhr_8]; omega)
  rw [show (1 : Int32) = nI 1 by rfl]
  refine z_if_eq CF (tgt := 30) (nIz (by omega)) dX1_told_18 (by decide) (fun h => absurd h (by decide)) (fun _ => ?_)
  refine lv_aload_n CF.1 CF.2.1 dX1_told_21 rfl (lv_at hl 0 rfl) ?_
  refine lv_iload_n CF.1 CF.2.1 dX1_told_22 rfl (lv_at hl 1 rfl) ?_
  refine lv_iload_n CF.1 CF.2.1 dX1_told_23 rfl (lv_at hl 2 rfl) ?_
  refine c1_i CF hK hP1 (As := [.int (nI (t)), .int (nI (w))]) (rest := []) (c1_moneyTold l hI hR (t := t) (w := w) (by omega) (by omega)) rfl lk_RX1_X1_moneyTold rfl hl.1 ⟨Nat.le_of_ble_eq_true rfl, Nat.le_of_ble_eq_true rfl⟩ ⟨Nat.zero_le _, Nat.zero_le _⟩ (Nat.le_of_ble_eq_true rfl) rfl dX1_told_24 (fun r_11 hr_12 => ?_)
  subst hr_12
  refine lv_goto (tgt := 35) CF.1 CF.2.1 dX1_told_27 (by decide) ?_
  exact W.iret CF.1 CF.2.1 hr (fun t9 ht9 hW9 => ⟨⟨_, σ1, rfl, ⟨rfl, hR, hO, hT⟩, by show va_P G vwCl (w1 ad cA σ1) t9.heap; rw [ht9]; exact hP1⟩, hS1.F ht9⟩) hS1.2.2 dX1_told_35
set_option maxHeartbeats 1000000 in
set_option maxRecDepth 100000 in
theorem b1_told (l : Launch) {G : va_G} {cA : ClassId} {ad : Nat → Nat} {σ : RS} (hj : inj8 ad) {b : BS} (hI : InvC b) (hR : Rc σ b) (hO : Ro σ b) (hOi : InvO b) (x y : Int32) (hbad : ¬ (0 ≤ x.toInt ∧ x.toInt < 5 ∧ 0 ≤ y.toInt ∧ y.toInt < 5)) : Met l yX1_told (ws_ yX1_told cX1_told 3 (some .int)) (rmk 8 0 0) (pc1 G cA ad σ [.ref (ad 0), .int (x), .int (y)]) (va_Qi (fun (_ : Int32) (σ' : RS) => Rc σ' b ∧ Ro σ' b ∧ ((σ' 0 6 = nI 1 ∧ (True)))) (fun σ' t => va_P G vwCl (w1 ad cA σ') t.heap) (own8 ad)) 0 0 (own8 ad) := by
  refine Met.ofW (cc := cX1_told) (maxL := 3) (ret := (some .int)) (by decide) rfl ?_
  intro p e s m args below meth c s₁ B hml hv
  obtain ⟨rfl, hP, hK⟩ := hv
  have CF : CallFix p m c cX1_told 3 s _ AW RX1 := ⟨B.exec, B.bytes, hml, findClass_of_methodNamed B.named, fun w h => atoms_spec (ws := ws_ yX1_told cX1_told 3 (some .int)) B.pre w (List.mem_cons_of_mem _ h)⟩
  have hr := B.returns
  have hlocks := B.notSynchronized
  have hl := lv_entry ([.ref (ad 0), .int (x), .int (y)]) (n := 3) (Nat.le_of_ble_eq_true rfl)
  rw [lg_entry_eq]
  generalize (lg_sl ([.ref (ad 0), .int (x), .int (y)]) ++ List.replicate (3 - (lg_sl ([.ref (ad 0), .int (x), .int (y)])).length) Slot.unset).toArray = ls at hl ⊢
  have hl : lv_has ls 3 [(0, .ref (ad 0)), (1, .int (x)), (2, .int (y))] := hl
  have hD : va_D (own8 ad) (w1 ad cA σ) := w1_D hj (fun _ h => h)
  have hS : va_S (own8 ad) s.heap s.heap [] := va_S.rf
  obtain ⟨i_sp, i_cu, i_ra, i_di, i_mo, i_pu⟩ := id hI
  have hw10 := hOi.1
  refine lv_aload_n CF.1 CF.2.1 dX1_told_0 rfl (lv_at hl 0 rfl) ?_
  refine lv_iconst (v := nI 0) CF.1 CF.2.1 dX1_told_1 (by decide) ?_
  refine x1_p_thrown CF hK hP hD hS dX1_told_2 (fun σ1 H1 locs hσ1 hP1 hD1 hS1 => ?_)
  have hR : Rc σ1 b := Rc_th hR hσ1
  have hO : Ro σ1 b := Ro_th hO hσ1
  have hT : σ1 0 6 = nI 0 := by rw [hσ1, up_s]
  refine lv_iload_n CF.1 CF.2.1 dX1_told_5 rfl (lv_at hl 1 rfl) ?_
  refine cS_i CF (As := [.int (x)]) (rest := []) (c1_isMoney l ((x))) lk_RX1_X1_isMoney rfl hl.1 ⟨Nat.le_of_ble_eq_true rfl, Nat.le_of_ble_eq_true rfl⟩ ⟨Nat.zero_le _, Nat.zero_le _⟩ (Nat.le_of_ble_eq_true rfl) rfl dX1_told_6 (fun r_2 hr_3 => ?_)
  rcases hr_3 with ⟨rfl, h_6, h_7⟩ | ⟨rfl, h_8⟩
  · rw [show (1 : Int32) = nI 1 by rfl]
    obtain ⟨j_4, h_5, rfl⟩ := nI_ex (x := x) (n := 5) (by omega) (by omega)
    have hzj_4 := nIz (n := j_4) (by omega)
    refine z_if_eq CF (tgt := 30) (nIz (by omega)) dX1_told_9 (by decide) (fun h => absurd h (by decide)) (fun _ => ?_)
    refine lv_iload_n CF.1 CF.2.1 dX1_told_12 rfl (lv_at hl 2 rfl) ?_
    refine lv_iconst (v := nI 0) CF.1 CF.2.1 dX1_told_13 (by decide) ?_
    refine lv_iconst (v := nI 4) CF.1 CF.2.1 dX1_told_14 (by decide) ?_
    refine cS_i CF (As := [.int (y), .int (nI (0)), .int (nI (4))]) (rest := []) (c1_isIn l ((y)) (nI (0)) (nI (4)) (nIz (by omega)) (nIz (by omega))) lk_RX1_X1_isIn rfl hl.1 ⟨Nat.le_of_ble_eq_true rfl, Nat.le_of_ble_eq_true rfl⟩ ⟨Nat.zero_le _, Nat.zero_le _⟩ (Nat.le_of_ble_eq_true rfl) rfl dX1_told_15 (fun r_11 hr_12 => ?_)
    rcases hr_12 with ⟨rfl, h_15, h_16⟩ | ⟨rfl, h_17⟩
    · rw [show (1 : Int32) = nI 1 by rfl]
      obtain ⟨j_13, h_14, rfl⟩ := nI_ex (x := y) (n := 5) (by omega) (by omega)
      have hzj_13 := nIz (n := j_13) (by omega)
      refine z_if_eq CF (tgt := 30) (nIz (by omega)) dX1_told_18 (by decide) (fun h => absurd h (by decide)) (fun _ => ?_)
      exact (show False by omega).elim
    · rw [show (0 : Int32) = nI 0 by rfl]
      refine z_if_eq CF (tgt := 30) (nIz (by omega)) dX1_told_18 (by decide) (fun _ => ?_) (fun h => absurd h (by decide))
      refine lv_aload_n CF.1 CF.2.1 dX1_told_30 rfl (lv_at hl 0 rfl) ?_
      refine lv_iconst (v := nI 1) CF.1 CF.2.1 dX1_told_31 (by decide) ?_
      refine d1_i CF hK hP1 hj (fun _ h => h) hS1 (As := [.int (nI (1))]) (rest := []) (c1_fail l hj (σ := σ1) (nI 1)) rfl lk_RX1_X1_fail rfl hl.1 ⟨Nat.le_of_ble_eq_true rfl, Nat.le_of_ble_eq_true rfl⟩ ⟨Nat.zero_le _, Nat.zero_le _⟩ (Nat.le_of_ble_eq_true rfl) rfl dX1_told_32 (fun r_22 σ24 H24 locs hr_23 hP24 hD24 hS24 hz24 hk24 => ?_)
      obtain ⟨rfl, hF_r_22⟩ := hr_23
      exact W.iret CF.1 CF.2.1 hr (fun t9 ht9 hW9 => ⟨⟨_, σ24, rfl, ⟨Rc_th hR hF_r_22, Ro_th hO hF_r_22, ⟨by rw [hF_r_22, up_s], trivial⟩⟩, by show va_P G vwCl (w1 ad cA σ24) t9.heap; rw [ht9]; exact hP24⟩, hS24.F ht9⟩) hS24.2.2 dX1_told_35
  · rw [show (0 : Int32) = nI 0 by rfl]
    refine z_if_eq CF (tgt := 30) (nIz (by omega)) dX1_told_9 (by decide) (fun _ => ?_) (fun h => absurd h (by decide))
    refine lv_aload_n CF.1 CF.2.1 dX1_told_30 rfl (lv_at hl 0 rfl) ?_
    refine lv_iconst (v := nI 1) CF.1 CF.2.1 dX1_told_31 (by decide) ?_
    refine d1_i CF hK hP1 hj (fun _ h => h) hS1 (As := [.int (nI (1))]) (rest := []) (c1_fail l hj (σ := σ1) (nI 1)) rfl lk_RX1_X1_fail rfl hl.1 ⟨Nat.le_of_ble_eq_true rfl, Nat.le_of_ble_eq_true rfl⟩ ⟨Nat.zero_le _, Nat.zero_le _⟩ (Nat.le_of_ble_eq_true rfl) rfl dX1_told_32 (fun r_27 σ29 H29 locs hr_28 hP29 hD29 hS29 hz29 hk29 => ?_)
    obtain ⟨rfl, hF_r_27⟩ := hr_28
    exact W.iret CF.1 CF.2.1 hr (fun t9 ht9 hW9 => ⟨⟨_, σ29, rfl, ⟨Rc_th hR hF_r_27, Ro_th hO hF_r_27, ⟨by rw [hF_r_27, up_s], trivial⟩⟩, by show va_P G vwCl (w1 ad cA σ29) t9.heap; rw [ht9]; exact hP29⟩, hS29.F ht9⟩) hS29.2.2 dX1_told_35
set_option maxHeartbeats 1000000 in
set_option maxRecDepth 100000 in
theorem c1_about (l : Launch) {G : va_G} {cA : ClassId} {ad : Nat → Nat} {σ : RS} (hj : inj8 ad) {b : BS} (hI : InvC b) (hR : Rc σ b) (hO : Ro σ b) (hOi : InvO b) {q k : Nat} (hq : q < b 0 3) (hk : k < 5) : Met l yX1_about (ws_ yX1_about cX1_about 3 (some .int)) (rmk 8 0 0) (pc1 G cA ad σ [.ref (ad 0), .int (nI (q)), .int (nI (k))]) (va_Qi (fun (r : Int32) (σ' : RS) => r = nI (b 7 (q * 5 + k)) ∧ Rc σ' (b) ∧ Ro σ' (b) ∧ σ' 0 6 = nI 0) (fun σ' t => va_P G vwCl (w1 ad cA σ') t.heap) (own8 ad)) 0 0 (own8 ad) := by
  refine Met.ofW (cc := cX1_about) (maxL := 3) (ret := (some .int)) (by decide) rfl ?_
  intro p e s m args below meth c s₁ B hml hv
  obtain ⟨rfl, hP, hK⟩ := hv
  have CF : CallFix p m c cX1_about 3 s _ AW RX1 := ⟨B.exec, B.bytes, hml, findClass_of_methodNamed B.named, fun w h => atoms_spec (ws := ws_ yX1_about cX1_about 3 (some .int)) B.pre w (List.mem_cons_of_mem _ h)⟩
  have hr := B.returns
  have hlocks := B.notSynchronized
  have hl := lv_entry ([.ref (ad 0), .int (nI (q)), .int (nI (k))]) (n := 3) (Nat.le_of_ble_eq_true rfl)
  rw [lg_entry_eq]
  generalize (lg_sl ([.ref (ad 0), .int (nI (q)), .int (nI (k))]) ++ List.replicate (3 - (lg_sl ([.ref (ad 0), .int (nI (q)), .int (nI (k))])).length) Slot.unset).toArray = ls at hl ⊢
  have hl : lv_has ls 3 [(0, .ref (ad 0)), (1, .int (nI (q))), (2, .int (nI (k)))] := hl
  have hD : va_D (own8 ad) (w1 ad cA σ) := w1_D hj (fun _ h => h)
  have hS : va_S (own8 ad) s.heap s.heap [] := va_S.rf
  obtain ⟨i_sp, i_cu, i_ra, i_di, i_mo, i_pu⟩ := id hI
  have hw10 := hOi.1
  refine lv_aload_n CF.1 CF.2.1 dX1_about_0 rfl (lv_at hl 0 rfl) ?_
  refine lv_iconst (v := nI 0) CF.1 CF.2.1 dX1_about_1 (by decide) ?_
  refine x1_p_thrown CF hK hP hD hS dX1_about_2 (fun σ1 H1 locs hσ1 hP1 hD1 hS1 => ?_)
  have hR : Rc σ1 b := Rc_th hR hσ1
  have hO : Ro σ1 b := Ro_th hO hσ1
  have hT : σ1 0 6 = nI 0 := by rw [hσ1, up_s]
  refine lv_iload_n CF.1 CF.2.1 dX1_about_5 rfl (lv_at hl 1 rfl) ?_
  refine lv_iconst (v := nI 0) CF.1 CF.2.1 dX1_about_6 (by decide) ?_
  refine lv_aload_n CF.1 CF.2.1 dX1_about_7 rfl (lv_at hl 0 rfl) ?_
  refine x1_g_waiting CF hK hP1 (v := (nI (b 0 3))) (hO.1) dX1_about_8 ?_
  refine lv_iconst (v := nI 1) CF.1 CF.2.1 dX1_about_11 (by decide) ?_
  refine lv_isub CF.1 CF.2.1 dX1_about_12 ?_
  refine cS_i CF (As := [.int (nI (q)), .int (nI (0)), .int (nI (b 0 3) - nI (1))]) (rest := []) (c1_isIn l (nI (q)) (nI (0)) ((nI (b 0 3) - nI (1))) (nIz (by omega)) (pk_sub_toInt (by omega) (by omega))) lk_RX1_X1_isIn rfl hl.1 ⟨Nat.le_of_ble_eq_true rfl, Nat.le_of_ble_eq_true rfl⟩ ⟨Nat.zero_le _, Nat.zero_le _⟩ (Nat.le_of_ble_eq_true rfl) rfl dX1_about_13 (fun r_2 hr_3 => ?_)
  have hxhr_3 := nIz (n := q) (by omega)
  rcases hr_3 with ⟨rfl, -, -⟩ | ⟨rfl, h9⟩
  rotate_left
  · exact absurd h9 (by rw [hxhr_3]; omega)
  rw [show (1 : Int32) = nI 1 by rfl]
  refine z_if_eq CF (tgt := 37) (nIz (by omega)) dX1_about_16 (by decide) (fun h => absurd h (by decide)) (fun _ => ?_)
  refine lv_iload_n CF.1 CF.2.1 dX1_about_19 rfl (lv_at hl 2 rfl) ?_
  refine lv_iconst (v := nI 0) CF.1 CF.2.1 dX1_about_20 (by decide) ?_
  refine lv_iconst (v := nI 4) CF.1 CF.2.1 dX1_about_21 (by decide) ?_
  refine cS_i CF (As := [.int (nI (k)), .int (nI (0)), .int (nI (4))]) (rest := []) (c1_isIn l (nI (k)) (nI (0)) (nI (4)) (nIz (by omega)) (nIz (by omega))) lk_RX1_X1_isIn rfl hl.1 ⟨Nat.le_of_ble_eq_true rfl, Nat.le_of_ble_eq_true rfl⟩ ⟨Nat.zero_le _, Nat.zero_le _⟩ (Nat.le_of_ble_eq_true rfl) rfl dX1_about_22 (fun r_6 hr_7 => ?_)
  have hxhr_7 := nIz (n := k) (by omega)
  rcases hr_7 with ⟨rfl, -, -⟩ | ⟨rfl, h9⟩
  rotate_left
  · exact absurd h9 (by rw [hxhr_7]; omega)
  rw [show (1 : Int32) = nI 1 by rfl]
  refine z_if_eq CF (tgt := 37) (nIz (by omega)) dX1_about_25 (by decide) (fun h => absurd h (by decide)) (fun _ => ?_)
  refine lv_aload_n CF.1 CF.2.1 dX1_about_28 rfl (lv_at hl 0 rfl) ?_
  refine lv_iload_n CF.1 CF.2.1 dX1_about_29 rfl (lv_at hl 1 rfl) ?_
  refine lv_iload_n CF.1 CF.2.1 dX1_about_30 rfl (lv_at hl 2 rfl) ?_
  refine c1_i CF hK hP1 (As := [.int (nI (q)), .int (nI (k))]) (rest := []) (c1_or l (σ := σ1) (u := q) (t := k) (by omega) (by omega)) rfl lk_RX1_X1_or rfl hl.1 ⟨Nat.le_of_ble_eq_true rfl, Nat.le_of_ble_eq_true rfl⟩ ⟨Nat.zero_le _, Nat.zero_le _⟩ (Nat.le_of_ble_eq_true rfl) rfl dX1_about_31 (fun r_10 hr_11 => ?_)
  subst hr_11
  refine tpi (show σ1 7 (q * 5 + k) = nI (b 7 (q * 5 + k)) from hO.2.2 (q * 5 + k) (by omega)) ?_
  refine lv_goto (tgt := 42) CF.1 CF.2.1 dX1_about_34 (by decide) ?_
  exact W.iret CF.1 CF.2.1 hr (fun t9 ht9 hW9 => ⟨⟨_, σ1, rfl, ⟨rfl, hR, hO, hT⟩, by show va_P G vwCl (w1 ad cA σ1) t9.heap; rw [ht9]; exact hP1⟩, hS1.F ht9⟩) hS1.2.2 dX1_about_42
set_option maxHeartbeats 1000000 in
set_option maxRecDepth 100000 in
theorem b1_about (l : Launch) {G : va_G} {cA : ClassId} {ad : Nat → Nat} {σ : RS} (hj : inj8 ad) {b : BS} (hI : InvC b) (hR : Rc σ b) (hO : Ro σ b) (hOi : InvO b) (x y : Int32) (hbad : ¬ (0 ≤ x.toInt ∧ x.toInt < (b 0 3 : Nat) ∧ 0 ≤ y.toInt ∧ y.toInt < 5)) : Met l yX1_about (ws_ yX1_about cX1_about 3 (some .int)) (rmk 8 0 0) (pc1 G cA ad σ [.ref (ad 0), .int (x), .int (y)]) (va_Qi (fun (_ : Int32) (σ' : RS) => Rc σ' b ∧ Ro σ' b ∧ ((σ' 0 6 = nI 1 ∧ (True)))) (fun σ' t => va_P G vwCl (w1 ad cA σ') t.heap) (own8 ad)) 0 0 (own8 ad) := by
  refine Met.ofW (cc := cX1_about) (maxL := 3) (ret := (some .int)) (by decide) rfl ?_
  intro p e s m args below meth c s₁ B hml hv
  obtain ⟨rfl, hP, hK⟩ := hv
  have CF : CallFix p m c cX1_about 3 s _ AW RX1 := ⟨B.exec, B.bytes, hml, findClass_of_methodNamed B.named, fun w h => atoms_spec (ws := ws_ yX1_about cX1_about 3 (some .int)) B.pre w (List.mem_cons_of_mem _ h)⟩
  have hr := B.returns
  have hlocks := B.notSynchronized
  have hl := lv_entry ([.ref (ad 0), .int (x), .int (y)]) (n := 3) (Nat.le_of_ble_eq_true rfl)
  rw [lg_entry_eq]
  generalize (lg_sl ([.ref (ad 0), .int (x), .int (y)]) ++ List.replicate (3 - (lg_sl ([.ref (ad 0), .int (x), .int (y)])).length) Slot.unset).toArray = ls at hl ⊢
  have hl : lv_has ls 3 [(0, .ref (ad 0)), (1, .int (x)), (2, .int (y))] := hl
  have hD : va_D (own8 ad) (w1 ad cA σ) := w1_D hj (fun _ h => h)
  have hS : va_S (own8 ad) s.heap s.heap [] := va_S.rf
  obtain ⟨i_sp, i_cu, i_ra, i_di, i_mo, i_pu⟩ := id hI
  have hw10 := hOi.1
  refine lv_aload_n CF.1 CF.2.1 dX1_about_0 rfl (lv_at hl 0 rfl) ?_
  refine lv_iconst (v := nI 0) CF.1 CF.2.1 dX1_about_1 (by decide) ?_
  refine x1_p_thrown CF hK hP hD hS dX1_about_2 (fun σ1 H1 locs hσ1 hP1 hD1 hS1 => ?_)
  have hR : Rc σ1 b := Rc_th hR hσ1
  have hO : Ro σ1 b := Ro_th hO hσ1
  have hT : σ1 0 6 = nI 0 := by rw [hσ1, up_s]
  refine lv_iload_n CF.1 CF.2.1 dX1_about_5 rfl (lv_at hl 1 rfl) ?_
  refine lv_iconst (v := nI 0) CF.1 CF.2.1 dX1_about_6 (by decide) ?_
  refine lv_aload_n CF.1 CF.2.1 dX1_about_7 rfl (lv_at hl 0 rfl) ?_
  refine x1_g_waiting CF hK hP1 (v := (nI (b 0 3))) (hO.1) dX1_about_8 ?_
  refine lv_iconst (v := nI 1) CF.1 CF.2.1 dX1_about_11 (by decide) ?_
  refine lv_isub CF.1 CF.2.1 dX1_about_12 ?_
  refine cS_i CF (As := [.int (x), .int (nI (0)), .int (nI (b 0 3) - nI (1))]) (rest := []) (c1_isIn l ((x)) (nI (0)) ((nI (b 0 3) - nI (1))) (nIz (by omega)) (pk_sub_toInt (by omega) (by omega))) lk_RX1_X1_isIn rfl hl.1 ⟨Nat.le_of_ble_eq_true rfl, Nat.le_of_ble_eq_true rfl⟩ ⟨Nat.zero_le _, Nat.zero_le _⟩ (Nat.le_of_ble_eq_true rfl) rfl dX1_about_13 (fun r_2 hr_3 => ?_)
  rcases hr_3 with ⟨rfl, h_6, h_7⟩ | ⟨rfl, h_8⟩
  · rw [show (1 : Int32) = nI 1 by rfl]
    obtain ⟨j_4, h_5, rfl⟩ := nI_ex (x := x) (n := b 0 3) (by omega) (by omega)
    have hzj_4 := nIz (n := j_4) (by omega)
    refine z_if_eq CF (tgt := 37) (nIz (by omega)) dX1_about_16 (by decide) (fun h => absurd h (by decide)) (fun _ => ?_)
    refine lv_iload_n CF.1 CF.2.1 dX1_about_19 rfl (lv_at hl 2 rfl) ?_
    refine lv_iconst (v := nI 0) CF.1 CF.2.1 dX1_about_20 (by decide) ?_
    refine lv_iconst (v := nI 4) CF.1 CF.2.1 dX1_about_21 (by decide) ?_
    refine cS_i CF (As := [.int (y), .int (nI (0)), .int (nI (4))]) (rest := []) (c1_isIn l ((y)) (nI (0)) (nI (4)) (nIz (by omega)) (nIz (by omega))) lk_RX1_X1_isIn rfl hl.1 ⟨Nat.le_of_ble_eq_true rfl, Nat.le_of_ble_eq_true rfl⟩ ⟨Nat.zero_le _, Nat.zero_le _⟩ (Nat.le_of_ble_eq_true rfl) rfl dX1_about_22 (fun r_11 hr_12 => ?_)
    rcases hr_12 with ⟨rfl, h_15, h_16⟩ | ⟨rfl, h_17⟩
    · rw [show (1 : Int32) = nI 1 by rfl]
      obtain ⟨j_13, h_14, rfl⟩ := nI_ex (x := y) (n := 5) (by omega) (by omega)
      have hzj_13 := nIz (n := j_13) (by omega)
      refine z_if_eq CF (tgt := 37) (nIz (by omega)) dX1_about_25 (by decide) (fun h => absurd h (by decide)) (fun _ => ?_)
      exact (show False by omega).elim
    · rw [show (0 : Int32) = nI 0 by rfl]
      refine z_if_eq CF (tgt := 37) (nIz (by omega)) dX1_about_25 (by decide) (fun _ => ?_) (fun h => absurd h (by decide))
      refine lv_aload_n CF.1 CF.2.1 dX1_about_37 rfl (lv_at hl 0 rfl) ?_
      refine lv_iconst (v := nI 1) CF.1 CF.2.1 dX1_about_38 (by decide) ?_
      refine d1_i CF hK hP1 hj (fun _ h => h) hS1 (As := [.int (nI (1))]) (rest := []) (c1_fail l hj (σ := σ1) (nI 1)) rfl lk_RX1_X1_fail rfl hl.1 ⟨Nat.le_of_ble_eq_true rfl, Nat.le_of_ble_eq_true rfl⟩ ⟨Nat.zero_le _, Nat.zero_le _⟩ (Nat.le_of_ble_eq_true rfl) rfl dX1_about_39 (fun r_22 σ24 H24 locs hr_23 hP24 hD24 hS24 hz24 hk24 => ?_)
      obtain ⟨rfl, hF_r_22⟩ := hr_23
      exact W.iret CF.1 CF.2.1 hr (fun t9 ht9 hW9 => ⟨⟨_, σ24, rfl, ⟨Rc_th hR hF_r_22, Ro_th hO hF_r_22, ⟨by rw [hF_r_22, up_s], trivial⟩⟩, by show va_P G vwCl (w1 ad cA σ24) t9.heap; rw [ht9]; exact hP24⟩, hS24.F ht9⟩) hS24.2.2 dX1_about_42
  · rw [show (0 : Int32) = nI 0 by rfl]
    refine z_if_eq CF (tgt := 37) (nIz (by omega)) dX1_about_16 (by decide) (fun _ => ?_) (fun h => absurd h (by decide))
    refine lv_aload_n CF.1 CF.2.1 dX1_about_37 rfl (lv_at hl 0 rfl) ?_
    refine lv_iconst (v := nI 1) CF.1 CF.2.1 dX1_about_38 (by decide) ?_
    refine d1_i CF hK hP1 hj (fun _ h => h) hS1 (As := [.int (nI (1))]) (rest := []) (c1_fail l hj (σ := σ1) (nI 1)) rfl lk_RX1_X1_fail rfl hl.1 ⟨Nat.le_of_ble_eq_true rfl, Nat.le_of_ble_eq_true rfl⟩ ⟨Nat.zero_le _, Nat.zero_le _⟩ (Nat.le_of_ble_eq_true rfl) rfl dX1_about_39 (fun r_27 σ29 H29 locs hr_28 hP29 hD29 hS29 hz29 hk29 => ?_)
    obtain ⟨rfl, hF_r_27⟩ := hr_28
    exact W.iret CF.1 CF.2.1 hr (fun t9 ht9 hW9 => ⟨⟨_, σ29, rfl, ⟨Rc_th hR hF_r_27, Ro_th hO hF_r_27, ⟨by rw [hF_r_27, up_s], trivial⟩⟩, by show va_P G vwCl (w1 ad cA σ29) t9.heap; rw [ht9]; exact hP29⟩, hS29.F ht9⟩) hS29.2.2 dX1_about_42
set_option maxHeartbeats 1000000 in
set_option maxRecDepth 100000 in
theorem c1_count (l : Launch) {G : va_G} {cA : ClassId} {ad : Nat → Nat} {σ : RS} (hj : inj8 ad) {b : BS} (hI : InvC b) (hR : Rc σ b) (hO : Ro σ b) (hOi : InvO b) {w : Nat} (hw : w < 7) : Met l yX1_count (ws_ yX1_count cX1_count 2 (some .int)) (rmk 8 0 0) (pc1 G cA ad σ [.ref (ad 0), .int (nI (w))]) (va_Qi (fun (r : Int32) (σ' : RS) => r = nI (fbo b w) ∧ Rc σ' (b) ∧ Ro σ' (b) ∧ σ' 0 6 = nI 0) (fun σ' t => va_P G vwCl (w1 ad cA σ') t.heap) (own8 ad)) 0 0 (own8 ad) := by
  refine Met.ofW (cc := cX1_count) (maxL := 2) (ret := (some .int)) (by decide) rfl ?_
  intro p e s m args below meth c s₁ B hml hv
  obtain ⟨rfl, hP, hK⟩ := hv
  have CF : CallFix p m c cX1_count 2 s _ AW RX1 := ⟨B.exec, B.bytes, hml, findClass_of_methodNamed B.named, fun w h => atoms_spec (ws := ws_ yX1_count cX1_count 2 (some .int)) B.pre w (List.mem_cons_of_mem _ h)⟩
  have hr := B.returns
  have hlocks := B.notSynchronized
  have hl := lv_entry ([.ref (ad 0), .int (nI (w))]) (n := 2) (Nat.le_of_ble_eq_true rfl)
  rw [lg_entry_eq]
  generalize (lg_sl ([.ref (ad 0), .int (nI (w))]) ++ List.replicate (2 - (lg_sl ([.ref (ad 0), .int (nI (w))])).length) Slot.unset).toArray = ls at hl ⊢
  have hl : lv_has ls 2 [(0, .ref (ad 0)), (1, .int (nI (w)))] := hl
  have hD : va_D (own8 ad) (w1 ad cA σ) := w1_D hj (fun _ h => h)
  have hS : va_S (own8 ad) s.heap s.heap [] := va_S.rf
  obtain ⟨i_sp, i_cu, i_ra, i_di, i_mo, i_pu⟩ := id hI
  have hw10 := hOi.1
  refine lv_aload_n CF.1 CF.2.1 dX1_count_0 rfl (lv_at hl 0 rfl) ?_
  refine lv_iconst (v := nI 0) CF.1 CF.2.1 dX1_count_1 (by decide) ?_
  refine x1_p_thrown CF hK hP hD hS dX1_count_2 (fun σ1 H1 locs hσ1 hP1 hD1 hS1 => ?_)
  have hR : Rc σ1 b := Rc_th hR hσ1
  have hO : Ro σ1 b := Ro_th hO hσ1
  have hT : σ1 0 6 = nI 0 := by rw [hσ1, up_s]
  refine lv_iload_n CF.1 CF.2.1 dX1_count_5 rfl (lv_at hl 1 rfl) ?_
  refine lv_iconst (v := nI 0) CF.1 CF.2.1 dX1_count_6 (by decide) ?_
  refine lv_bipush (v := nI 6) CF.1 CF.2.1 dX1_count_7 (by decide) ?_
  refine cS_i CF (As := [.int (nI (w)), .int (nI (0)), .int (nI (6))]) (rest := []) (c1_isIn l (nI (w)) (nI (0)) (nI (6)) (nIz (by omega)) (nIz (by omega))) lk_RX1_X1_isIn rfl hl.1 ⟨Nat.le_of_ble_eq_true rfl, Nat.le_of_ble_eq_true rfl⟩ ⟨Nat.zero_le _, Nat.zero_le _⟩ (Nat.le_of_ble_eq_true rfl) rfl dX1_count_9 (fun r_2 hr_3 => ?_)
  have hxhr_3 := nIz (n := w) (by omega)
  rcases hr_3 with ⟨rfl, -, -⟩ | ⟨rfl, h9⟩
  rotate_left
  · exact absurd h9 (by rw [hxhr_3]; omega)
  rw [show (1 : Int32) = nI 1 by rfl]
  refine z_if_eq CF (tgt := 23) (nIz (by omega)) dX1_count_12 (by decide) (fun h => absurd h (by decide)) (fun _ => ?_)
  refine lv_aload_n CF.1 CF.2.1 dX1_count_15 rfl (lv_at hl 0 rfl) ?_
  refine lv_iload_n CF.1 CF.2.1 dX1_count_16 rfl (lv_at hl 1 rfl) ?_
  refine c1_i CF hK hP1 (As := [.int (nI (w))]) (rest := []) (c1_counted l hI hR hO (w := w) (by omega)) rfl lk_RX1_X1_counted rfl hl.1 ⟨Nat.le_of_ble_eq_true rfl, Nat.le_of_ble_eq_true rfl⟩ ⟨Nat.zero_le _, Nat.zero_le _⟩ (Nat.le_of_ble_eq_true rfl) rfl dX1_count_17 (fun r_6 hr_7 => ?_)
  subst hr_7
  refine lv_goto (tgt := 28) CF.1 CF.2.1 dX1_count_20 (by decide) ?_
  exact W.iret CF.1 CF.2.1 hr (fun t9 ht9 hW9 => ⟨⟨_, σ1, rfl, ⟨rfl, hR, hO, hT⟩, by show va_P G vwCl (w1 ad cA σ1) t9.heap; rw [ht9]; exact hP1⟩, hS1.F ht9⟩) hS1.2.2 dX1_count_28
set_option maxHeartbeats 1000000 in
set_option maxRecDepth 100000 in
theorem b1_count (l : Launch) {G : va_G} {cA : ClassId} {ad : Nat → Nat} {σ : RS} (hj : inj8 ad) {b : BS} (hI : InvC b) (hR : Rc σ b) (hO : Ro σ b) (hOi : InvO b) (x : Int32) (hbad : ¬ (0 ≤ x.toInt ∧ x.toInt < 7)) : Met l yX1_count (ws_ yX1_count cX1_count 2 (some .int)) (rmk 8 0 0) (pc1 G cA ad σ [.ref (ad 0), .int (x)]) (va_Qi (fun (_ : Int32) (σ' : RS) => Rc σ' b ∧ Ro σ' b ∧ ((σ' 0 6 = nI 1 ∧ (True)))) (fun σ' t => va_P G vwCl (w1 ad cA σ') t.heap) (own8 ad)) 0 0 (own8 ad) := by
  refine Met.ofW (cc := cX1_count) (maxL := 2) (ret := (some .int)) (by decide) rfl ?_
  intro p e s m args below meth c s₁ B hml hv
  obtain ⟨rfl, hP, hK⟩ := hv
  have CF : CallFix p m c cX1_count 2 s _ AW RX1 := ⟨B.exec, B.bytes, hml, findClass_of_methodNamed B.named, fun w h => atoms_spec (ws := ws_ yX1_count cX1_count 2 (some .int)) B.pre w (List.mem_cons_of_mem _ h)⟩
  have hr := B.returns
  have hlocks := B.notSynchronized
  have hl := lv_entry ([.ref (ad 0), .int (x)]) (n := 2) (Nat.le_of_ble_eq_true rfl)
  rw [lg_entry_eq]
  generalize (lg_sl ([.ref (ad 0), .int (x)]) ++ List.replicate (2 - (lg_sl ([.ref (ad 0), .int (x)])).length) Slot.unset).toArray = ls at hl ⊢
  have hl : lv_has ls 2 [(0, .ref (ad 0)), (1, .int (x))] := hl
  have hD : va_D (own8 ad) (w1 ad cA σ) := w1_D hj (fun _ h => h)
  have hS : va_S (own8 ad) s.heap s.heap [] := va_S.rf
  obtain ⟨i_sp, i_cu, i_ra, i_di, i_mo, i_pu⟩ := id hI
  have hw10 := hOi.1
  refine lv_aload_n CF.1 CF.2.1 dX1_count_0 rfl (lv_at hl 0 rfl) ?_
  refine lv_iconst (v := nI 0) CF.1 CF.2.1 dX1_count_1 (by decide) ?_
  refine x1_p_thrown CF hK hP hD hS dX1_count_2 (fun σ1 H1 locs hσ1 hP1 hD1 hS1 => ?_)
  have hR : Rc σ1 b := Rc_th hR hσ1
  have hO : Ro σ1 b := Ro_th hO hσ1
  have hT : σ1 0 6 = nI 0 := by rw [hσ1, up_s]
  refine lv_iload_n CF.1 CF.2.1 dX1_count_5 rfl (lv_at hl 1 rfl) ?_
  refine lv_iconst (v := nI 0) CF.1 CF.2.1 dX1_count_6 (by decide) ?_
  refine lv_bipush (v := nI 6) CF.1 CF.2.1 dX1_count_7 (by decide) ?_
  refine cS_i CF (As := [.int (x), .int (nI (0)), .int (nI (6))]) (rest := []) (c1_isIn l ((x)) (nI (0)) (nI (6)) (nIz (by omega)) (nIz (by omega))) lk_RX1_X1_isIn rfl hl.1 ⟨Nat.le_of_ble_eq_true rfl, Nat.le_of_ble_eq_true rfl⟩ ⟨Nat.zero_le _, Nat.zero_le _⟩ (Nat.le_of_ble_eq_true rfl) rfl dX1_count_9 (fun r_2 hr_3 => ?_)
  rcases hr_3 with ⟨rfl, h_6, h_7⟩ | ⟨rfl, h_8⟩
  · rw [show (1 : Int32) = nI 1 by rfl]
    obtain ⟨j_4, h_5, rfl⟩ := nI_ex (x := x) (n := 7) (by omega) (by omega)
    have hzj_4 := nIz (n := j_4) (by omega)
    refine z_if_eq CF (tgt := 23) (nIz (by omega)) dX1_count_12 (by decide) (fun h => absurd h (by decide)) (fun _ => ?_)
    exact (show False by omega).elim
  · rw [show (0 : Int32) = nI 0 by rfl]
    refine z_if_eq CF (tgt := 23) (nIz (by omega)) dX1_count_12 (by decide) (fun _ => ?_) (fun h => absurd h (by decide))
    refine lv_aload_n CF.1 CF.2.1 dX1_count_23 rfl (lv_at hl 0 rfl) ?_
    refine lv_iconst (v := nI 1) CF.1 CF.2.1 dX1_count_24 (by decide) ?_
    refine d1_i CF hK hP1 hj (fun _ h => h) hS1 (As := [.int (nI (1))]) (rest := []) (c1_fail l hj (σ := σ1) (nI 1)) rfl lk_RX1_X1_fail rfl hl.1 ⟨Nat.le_of_ble_eq_true rfl, Nat.le_of_ble_eq_true rfl⟩ ⟨Nat.zero_le _, Nat.zero_le _⟩ (Nat.le_of_ble_eq_true rfl) rfl dX1_count_25 (fun r_13 σ15 H15 locs hr_14 hP15 hD15 hS15 hz15 hk15 => ?_)
    obtain ⟨rfl, hF_r_13⟩ := hr_14
    exact W.iret CF.1 CF.2.1 hr (fun t9 ht9 hW9 => ⟨⟨_, σ15, rfl, ⟨Rc_th hR hF_r_13, Ro_th hO hF_r_13, ⟨by rw [hF_r_13, up_s], trivial⟩⟩, by show va_P G vwCl (w1 ad cA σ15) t9.heap; rw [ht9]; exact hP15⟩, hS15.F ht9⟩) hS15.2.2 dX1_count_28
set_option maxHeartbeats 1000000 in
set_option maxRecDepth 100000 in
theorem c1_would (l : Launch) {G : va_G} {cA : ClassId} {ad : Nat → Nat} {σ : RS} (hj : inj8 ad) {b : BS} (hI : InvC b) (hR : Rc σ b) (hO : Ro σ b) (hOi : InvO b) {f t a : Nat} (hf : f < 5) (ht : t < 5) (ha : a ≤ 99999) : Met l yX1_would (ws_ yX1_would cX1_would 4 (some .int)) (rmk 8 0 0) (pc1 G cA ad σ [.ref (ad 0), .int (nI (f)), .int (nI (t)), .int (nI (a))]) (va_Qi (fun (r : Int32) (σ' : RS) => r = nI (if f = t then a else gv b f t a) ∧ Rc σ' (b) ∧ Ro σ' (b) ∧ σ' 0 6 = nI 0) (fun σ' t => va_P G vwCl (w1 ad cA σ') t.heap) (own8 ad)) 0 0 (own8 ad) := by
  refine Met.ofW (cc := cX1_would) (maxL := 4) (ret := (some .int)) (by decide) rfl ?_
  intro p e s m args below meth c s₁ B hml hv
  obtain ⟨rfl, hP, hK⟩ := hv
  have CF : CallFix p m c cX1_would 4 s _ AW RX1 := ⟨B.exec, B.bytes, hml, findClass_of_methodNamed B.named, fun w h => atoms_spec (ws := ws_ yX1_would cX1_would 4 (some .int)) B.pre w (List.mem_cons_of_mem _ h)⟩
  have hr := B.returns
  have hlocks := B.notSynchronized
  have hl := lv_entry ([.ref (ad 0), .int (nI (f)), .int (nI (t)), .int (nI (a))]) (n := 4) (Nat.le_of_ble_eq_true rfl)
  rw [lg_entry_eq]
  generalize (lg_sl ([.ref (ad 0), .int (nI (f)), .int (nI (t)), .int (nI (a))]) ++ List.replicate (4 - (lg_sl ([.ref (ad 0), .int (nI (f)), .int (nI (t)), .int (nI (a))])).length) Slot.unset).toArray = ls at hl ⊢
  have hl : lv_has ls 4 [(0, .ref (ad 0)), (1, .int (nI (f))), (2, .int (nI (t))), (3, .int (nI (a)))] := hl
  have hD : va_D (own8 ad) (w1 ad cA σ) := w1_D hj (fun _ h => h)
  have hS : va_S (own8 ad) s.heap s.heap [] := va_S.rf
  obtain ⟨i_sp, i_cu, i_ra, i_di, i_mo, i_pu⟩ := id hI
  have hw10 := hOi.1
  refine lv_aload_n CF.1 CF.2.1 dX1_would_0 rfl (lv_at hl 0 rfl) ?_
  refine lv_iconst (v := nI 0) CF.1 CF.2.1 dX1_would_1 (by decide) ?_
  refine x1_p_thrown CF hK hP hD hS dX1_would_2 (fun σ1 H1 locs hσ1 hP1 hD1 hS1 => ?_)
  have hR : Rc σ1 b := Rc_th hR hσ1
  have hO : Ro σ1 b := Ro_th hO hσ1
  have hT : σ1 0 6 = nI 0 := by rw [hσ1, up_s]
  refine lv_iload_n CF.1 CF.2.1 dX1_would_5 rfl (lv_at hl 1 rfl) ?_
  refine cS_i CF (As := [.int (nI (f))]) (rest := []) (c1_isMoney l (nI (f))) lk_RX1_X1_isMoney rfl hl.1 ⟨Nat.le_of_ble_eq_true rfl, Nat.le_of_ble_eq_true rfl⟩ ⟨Nat.zero_le _, Nat.zero_le _⟩ (Nat.le_of_ble_eq_true rfl) rfl dX1_would_6 (fun r_2 hr_3 => ?_)
  have hxh_4 := nIz (n := f) (by omega)
  rcases hr_3 with ⟨rfl, -, -⟩ | ⟨rfl, h9⟩
  rotate_left
  · exact absurd h9 (by rw [hxh_4]; omega)
  rw [show (1 : Int32) = nI 1 by rfl]
  refine z_if_eq CF (tgt := 19) (nIz (by omega)) dX1_would_9 (by decide) (fun h => absurd h (by decide)) (fun _ => ?_)
  refine lv_iload_n CF.1 CF.2.1 dX1_would_12 rfl (lv_at hl 2 rfl) ?_
  refine cS_i CF (As := [.int (nI (t))]) (rest := []) (c1_isMoney l (nI (t))) lk_RX1_X1_isMoney rfl hl.1 ⟨Nat.le_of_ble_eq_true rfl, Nat.le_of_ble_eq_true rfl⟩ ⟨Nat.zero_le _, Nat.zero_le _⟩ (Nat.le_of_ble_eq_true rfl) rfl dX1_would_13 (fun r_7 hr_8 => ?_)
  have hxh_9 := nIz (n := t) (by omega)
  rcases hr_8 with ⟨rfl, -, -⟩ | ⟨rfl, h9⟩
  rotate_left
  · exact absurd h9 (by rw [hxh_9]; omega)
  rw [show (1 : Int32) = nI 1 by rfl]
  refine z_if_ne CF (tgt := 25) (nIz (by omega)) dX1_would_16 (by decide) (fun _ => ?_) (fun h => absurd h (by decide))
  refine lv_iload_n CF.1 CF.2.1 dX1_would_25 rfl (lv_at hl 3 rfl) ?_
  refine lv_iconst (v := nI 0) CF.1 CF.2.1 dX1_would_26 (by decide) ?_
  refine lv_ldc (v := nI 99999) CF.1 CF.2.1 CF.2.2.2.1 (CF.2.2.2.2 _ (inr_9 _ (List.mem_of_getElem? (i := 21) rfl))) dX1_would_27 ?_
  refine cS_i CF (As := [.int (nI (a)), .int (nI (0)), .int (nI (99999))]) (rest := []) (c1_isIn l (nI (a)) (nI (0)) (nI (99999)) (nIz (by omega)) (nIz (by omega))) lk_RX1_X1_isIn rfl hl.1 ⟨Nat.le_of_ble_eq_true rfl, Nat.le_of_ble_eq_true rfl⟩ ⟨Nat.zero_le _, Nat.zero_le _⟩ (Nat.le_of_ble_eq_true rfl) rfl dX1_would_29 (fun r_12 hr_13 => ?_)
  have hxhr_13 := nIz (n := a) (by omega)
  rcases hr_13 with ⟨rfl, -, -⟩ | ⟨rfl, h9⟩
  rotate_left
  · exact absurd h9 (by rw [hxhr_13]; omega)
  rw [show (1 : Int32) = nI 1 by rfl]
  refine z_if_ne CF (tgt := 41) (nIz (by omega)) dX1_would_32 (by decide) (fun _ => ?_) (fun h => absurd h (by decide))
  refine lv_iload_n CF.1 CF.2.1 dX1_would_41 rfl (lv_at hl 1 rfl) ?_
  refine lv_iload_n CF.1 CF.2.1 dX1_would_42 rfl (lv_at hl 2 rfl) ?_
  refine z_icmp_ne CF (tgt := 50) (nIz (by omega)) (nIz (by omega)) dX1_would_43 (by decide) (fun h_16 => ?_) (fun h_17 => ?_)
  · refine lv_aload_n CF.1 CF.2.1 dX1_would_50 rfl (lv_at hl 0 rfl) ?_
    refine lv_iload_n CF.1 CF.2.1 dX1_would_51 rfl (lv_at hl 3 rfl) ?_
    refine o_i2l CF (by omega) dX1_would_52 ?_
    refine lv_aload_n CF.1 CF.2.1 dX1_would_53 rfl (lv_at hl 0 rfl) ?_
    refine lv_iload_n CF.1 CF.2.1 dX1_would_54 rfl (lv_at hl 1 rfl) ?_
    refine lv_iload_n CF.1 CF.2.1 dX1_would_55 rfl (lv_at hl 2 rfl) ?_
    refine c1_i CF hK hP1 (As := [.int (nI (f)), .int (nI (t))]) (rest := [.long (lN (a)), .ref (ad 0)]) (c1_rate l hI hR (f := f) (t := t) (by omega) (by omega)) rfl lk_RX1_X1_rate rfl hl.1 ⟨Nat.le_of_ble_eq_true rfl, Nat.le_of_ble_eq_true rfl⟩ ⟨Nat.zero_le _, Nat.zero_le _⟩ (Nat.le_of_ble_eq_true rfl) rfl dX1_would_56 (fun r_18 hr_19 => ?_)
    subst hr_19
    have h_ra := i_ra (f * 5 + t) (by omega)
    have h_gb := gq_le (b := b) (a := a) (x := b 1 (f * 5 + t)) (A := 99999) (X := 9999) ha h_ra
    have h_gq : gq b a (b 1 (f * 5 + t)) = a * b 1 (f * 5 + t) * (100 - b 0 1) / 10000 := rfl
    refine c1_l CF hK hP1 (As := [.long (lN (a)), .int (nI (b 1 (f * 5 + t)))]) (rest := []) (c1_gives l hI hR (a := a) (x := b 1 (f * 5 + t)) (by omega) (by omega)) rfl lk_RX1_X1_gives rfl hl.1 ⟨Nat.le_of_ble_eq_true rfl, Nat.le_of_ble_eq_true rfl⟩ ⟨Nat.zero_le _, Nat.zero_le _⟩ (Nat.le_of_ble_eq_true rfl) rfl dX1_would_59 (fun r_20 hr_21 => ?_)
    subst hr_21
    refine o_l2i CF dX1_would_62 ?_
    exact W.iret CF.1 CF.2.1 hr (fun t9 ht9 hW9 => ⟨⟨_, σ1, rfl, ⟨by rw [if_neg (by omega)]; rfl, hR, hO, hT⟩, by show va_P G vwCl (w1 ad cA σ1) t9.heap; rw [ht9]; exact hP1⟩, hS1.F ht9⟩) hS1.2.2 dX1_would_63
  · refine lv_iload_n CF.1 CF.2.1 dX1_would_46 rfl (lv_at hl 3 rfl) ?_
    refine lv_goto (tgt := 63) CF.1 CF.2.1 dX1_would_47 (by decide) ?_
    exact W.iret CF.1 CF.2.1 hr (fun t9 ht9 hW9 => ⟨⟨_, σ1, rfl, ⟨by rw [if_pos (by omega)], hR, hO, hT⟩, by show va_P G vwCl (w1 ad cA σ1) t9.heap; rw [ht9]; exact hP1⟩, hS1.F ht9⟩) hS1.2.2 dX1_would_63
set_option maxHeartbeats 1000000 in
set_option maxRecDepth 100000 in
theorem b1_would (l : Launch) {G : va_G} {cA : ClassId} {ad : Nat → Nat} {σ : RS} (hj : inj8 ad) {b : BS} (hI : InvC b) (hR : Rc σ b) (hO : Ro σ b) (hOi : InvO b) (x y z : Int32) (hbad : ¬ (0 ≤ x.toInt ∧ x.toInt < 5 ∧ 0 ≤ y.toInt ∧ y.toInt < 5 ∧ 0 ≤ z.toInt ∧ z.toInt ≤ 99999)) : Met l yX1_would (ws_ yX1_would cX1_would 4 (some .int)) (rmk 8 0 0) (pc1 G cA ad σ [.ref (ad 0), .int (x), .int (y), .int (z)]) (va_Qi (fun (_ : Int32) (σ' : RS) => Rc σ' b ∧ Ro σ' b ∧ ((σ' 0 6 = nI 1 ∧ (¬ (0 ≤ x.toInt ∧ x.toInt < 5 ∧ 0 ≤ y.toInt ∧ y.toInt < 5))) ∨ (σ' 0 6 = nI 2 ∧ (0 ≤ x.toInt ∧ x.toInt < 5 ∧ 0 ≤ y.toInt ∧ y.toInt < 5)))) (fun σ' t => va_P G vwCl (w1 ad cA σ') t.heap) (own8 ad)) 0 0 (own8 ad) := by
  refine Met.ofW (cc := cX1_would) (maxL := 4) (ret := (some .int)) (by decide) rfl ?_
  intro p e s m args below meth c s₁ B hml hv
  obtain ⟨rfl, hP, hK⟩ := hv
  have CF : CallFix p m c cX1_would 4 s _ AW RX1 := ⟨B.exec, B.bytes, hml, findClass_of_methodNamed B.named, fun w h => atoms_spec (ws := ws_ yX1_would cX1_would 4 (some .int)) B.pre w (List.mem_cons_of_mem _ h)⟩
  have hr := B.returns
  have hlocks := B.notSynchronized
  have hl := lv_entry ([.ref (ad 0), .int (x), .int (y), .int (z)]) (n := 4) (Nat.le_of_ble_eq_true rfl)
  rw [lg_entry_eq]
  generalize (lg_sl ([.ref (ad 0), .int (x), .int (y), .int (z)]) ++ List.replicate (4 - (lg_sl ([.ref (ad 0), .int (x), .int (y), .int (z)])).length) Slot.unset).toArray = ls at hl ⊢
  have hl : lv_has ls 4 [(0, .ref (ad 0)), (1, .int (x)), (2, .int (y)), (3, .int (z))] := hl
  have hD : va_D (own8 ad) (w1 ad cA σ) := w1_D hj (fun _ h => h)
  have hS : va_S (own8 ad) s.heap s.heap [] := va_S.rf
  obtain ⟨i_sp, i_cu, i_ra, i_di, i_mo, i_pu⟩ := id hI
  have hw10 := hOi.1
  refine lv_aload_n CF.1 CF.2.1 dX1_would_0 rfl (lv_at hl 0 rfl) ?_
  refine lv_iconst (v := nI 0) CF.1 CF.2.1 dX1_would_1 (by decide) ?_
  refine x1_p_thrown CF hK hP hD hS dX1_would_2 (fun σ1 H1 locs hσ1 hP1 hD1 hS1 => ?_)
  have hR : Rc σ1 b := Rc_th hR hσ1
  have hO : Ro σ1 b := Ro_th hO hσ1
  have hT : σ1 0 6 = nI 0 := by rw [hσ1, up_s]
  refine lv_iload_n CF.1 CF.2.1 dX1_would_5 rfl (lv_at hl 1 rfl) ?_
  refine cS_i CF (As := [.int (x)]) (rest := []) (c1_isMoney l ((x))) lk_RX1_X1_isMoney rfl hl.1 ⟨Nat.le_of_ble_eq_true rfl, Nat.le_of_ble_eq_true rfl⟩ ⟨Nat.zero_le _, Nat.zero_le _⟩ (Nat.le_of_ble_eq_true rfl) rfl dX1_would_6 (fun r_2 hr_3 => ?_)
  rcases hr_3 with ⟨rfl, h_6, h_7⟩ | ⟨rfl, h_8⟩
  · rw [show (1 : Int32) = nI 1 by rfl]
    obtain ⟨j_4, h_5, rfl⟩ := nI_ex (x := x) (n := 5) (by omega) (by omega)
    have hzj_4 := nIz (n := j_4) (by omega)
    refine z_if_eq CF (tgt := 19) (nIz (by omega)) dX1_would_9 (by decide) (fun h => absurd h (by decide)) (fun _ => ?_)
    refine lv_iload_n CF.1 CF.2.1 dX1_would_12 rfl (lv_at hl 2 rfl) ?_
    refine cS_i CF (As := [.int (y)]) (rest := []) (c1_isMoney l ((y))) lk_RX1_X1_isMoney rfl hl.1 ⟨Nat.le_of_ble_eq_true rfl, Nat.le_of_ble_eq_true rfl⟩ ⟨Nat.zero_le _, Nat.zero_le _⟩ (Nat.le_of_ble_eq_true rfl) rfl dX1_would_13 (fun r_11 hr_12 => ?_)
    rcases hr_12 with ⟨rfl, h_15, h_16⟩ | ⟨rfl, h_17⟩
    · rw [show (1 : Int32) = nI 1 by rfl]
      obtain ⟨j_13, h_14, rfl⟩ := nI_ex (x := y) (n := 5) (by omega) (by omega)
      have hzj_13 := nIz (n := j_13) (by omega)
      refine z_if_ne CF (tgt := 25) (nIz (by omega)) dX1_would_16 (by decide) (fun _ => ?_) (fun h => absurd h (by decide))
      refine lv_iload_n CF.1 CF.2.1 dX1_would_25 rfl (lv_at hl 3 rfl) ?_
      refine lv_iconst (v := nI 0) CF.1 CF.2.1 dX1_would_26 (by decide) ?_
      refine lv_ldc (v := nI 99999) CF.1 CF.2.1 CF.2.2.2.1 (CF.2.2.2.2 _ (inr_9 _ (List.mem_of_getElem? (i := 21) rfl))) dX1_would_27 ?_
      refine cS_i CF (As := [.int (z), .int (nI (0)), .int (nI (99999))]) (rest := []) (c1_isIn l ((z)) (nI (0)) (nI (99999)) (nIz (by omega)) (nIz (by omega))) lk_RX1_X1_isIn rfl hl.1 ⟨Nat.le_of_ble_eq_true rfl, Nat.le_of_ble_eq_true rfl⟩ ⟨Nat.zero_le _, Nat.zero_le _⟩ (Nat.le_of_ble_eq_true rfl) rfl dX1_would_29 (fun r_20 hr_21 => ?_)
      rcases hr_21 with ⟨rfl, h_24, h_25⟩ | ⟨rfl, h_26⟩
      · rw [show (1 : Int32) = nI 1 by rfl]
        obtain ⟨j_22, h_23, rfl⟩ := nI_ex (x := z) (n := 100000) (by omega) (by omega)
        have hzj_22 := nIz (n := j_22) (by omega)
        refine z_if_ne CF (tgt := 41) (nIz (by omega)) dX1_would_32 (by decide) (fun _ => ?_) (fun h => absurd h (by decide))
        exact (show False by omega).elim
      · rw [show (0 : Int32) = nI 0 by rfl]
        refine z_if_ne CF (tgt := 41) (nIz (by omega)) dX1_would_32 (by decide) (fun h => absurd h (by decide)) (fun _ => ?_)
        refine lv_aload_n CF.1 CF.2.1 dX1_would_35 rfl (lv_at hl 0 rfl) ?_
        refine lv_iconst (v := nI 2) CF.1 CF.2.1 dX1_would_36 (by decide) ?_
        refine d1_i CF hK hP1 hj (fun _ h => h) hS1 (As := [.int (nI (2))]) (rest := []) (c1_fail l hj (σ := σ1) (nI 2)) rfl lk_RX1_X1_fail rfl hl.1 ⟨Nat.le_of_ble_eq_true rfl, Nat.le_of_ble_eq_true rfl⟩ ⟨Nat.zero_le _, Nat.zero_le _⟩ (Nat.le_of_ble_eq_true rfl) rfl dX1_would_37 (fun r_31 σ33 H33 locs hr_32 hP33 hD33 hS33 hz33 hk33 => ?_)
        obtain ⟨rfl, hF_r_31⟩ := hr_32
        exact W.iret CF.1 CF.2.1 hr (fun t9 ht9 hW9 => ⟨⟨_, σ33, rfl, ⟨Rc_th hR hF_r_31, Ro_th hO hF_r_31, Or.inr (⟨by rw [hF_r_31, up_s], by omega⟩)⟩, by show va_P G vwCl (w1 ad cA σ33) t9.heap; rw [ht9]; exact hP33⟩, hS33.F ht9⟩) hS33.2.2 dX1_would_40
    · rw [show (0 : Int32) = nI 0 by rfl]
      refine z_if_ne CF (tgt := 25) (nIz (by omega)) dX1_would_16 (by decide) (fun h => absurd h (by decide)) (fun _ => ?_)
      refine lv_aload_n CF.1 CF.2.1 dX1_would_19 rfl (lv_at hl 0 rfl) ?_
      refine lv_iconst (v := nI 1) CF.1 CF.2.1 dX1_would_20 (by decide) ?_
      refine d1_i CF hK hP1 hj (fun _ h => h) hS1 (As := [.int (nI (1))]) (rest := []) (c1_fail l hj (σ := σ1) (nI 1)) rfl lk_RX1_X1_fail rfl hl.1 ⟨Nat.le_of_ble_eq_true rfl, Nat.le_of_ble_eq_true rfl⟩ ⟨Nat.zero_le _, Nat.zero_le _⟩ (Nat.le_of_ble_eq_true rfl) rfl dX1_would_21 (fun r_36 σ38 H38 locs hr_37 hP38 hD38 hS38 hz38 hk38 => ?_)
      obtain ⟨rfl, hF_r_36⟩ := hr_37
      exact W.iret CF.1 CF.2.1 hr (fun t9 ht9 hW9 => ⟨⟨_, σ38, rfl, ⟨Rc_th hR hF_r_36, Ro_th hO hF_r_36, Or.inl ⟨by rw [hF_r_36, up_s], by omega⟩⟩, by show va_P G vwCl (w1 ad cA σ38) t9.heap; rw [ht9]; exact hP38⟩, hS38.F ht9⟩) hS38.2.2 dX1_would_24
  · rw [show (0 : Int32) = nI 0 by rfl]
    refine z_if_eq CF (tgt := 19) (nIz (by omega)) dX1_would_9 (by decide) (fun _ => ?_) (fun h => absurd h (by decide))
    refine lv_aload_n CF.1 CF.2.1 dX1_would_19 rfl (lv_at hl 0 rfl) ?_
    refine lv_iconst (v := nI 1) CF.1 CF.2.1 dX1_would_20 (by decide) ?_
    refine d1_i CF hK hP1 hj (fun _ h => h) hS1 (As := [.int (nI (1))]) (rest := []) (c1_fail l hj (σ := σ1) (nI 1)) rfl lk_RX1_X1_fail rfl hl.1 ⟨Nat.le_of_ble_eq_true rfl, Nat.le_of_ble_eq_true rfl⟩ ⟨Nat.zero_le _, Nat.zero_le _⟩ (Nat.le_of_ble_eq_true rfl) rfl dX1_would_21 (fun r_41 σ43 H43 locs hr_42 hP43 hD43 hS43 hz43 hk43 => ?_)
    obtain ⟨rfl, hF_r_41⟩ := hr_42
    exact W.iret CF.1 CF.2.1 hr (fun t9 ht9 hW9 => ⟨⟨_, σ43, rfl, ⟨Rc_th hR hF_r_41, Ro_th hO hF_r_41, Or.inl ⟨by rw [hF_r_41, up_s], by omega⟩⟩, by show va_P G vwCl (w1 ad cA σ43) t9.heap; rw [ht9]; exact hP43⟩, hS43.F ht9⟩) hS43.2.2 dX1_would_24
set_option maxHeartbeats 1000000 in
set_option maxRecDepth 100000 in
theorem c1_way (l : Launch) {G : va_G} {cA : ClassId} {ad : Nat → Nat} {σ : RS} (hj : inj8 ad) {b : BS} (hI : InvC b) (hR : Rc σ b) (hO : Ro σ b) (hOi : InvO b) {f t a : Nat} (hf : f < 5) (ht : t < 5) (hne : f ≠ t) (ha : a ≤ 99999) : Met l yX1_way (ws_ yX1_way cX1_way 4 (some .int)) (rmk 20 0 0) (pc1 G cA ad σ [.ref (ad 0), .int (nI (f)), .int (nI (t)), .int (nI (a))]) (va_Qi (fun (r : Int32) (σ' : RS) => r = nI (mst b t 4 f a (2 ^ f)) ∧ Rc σ' (b) ∧ Ro σ' (b) ∧ σ' 0 6 = nI 0) (fun σ' t => va_P G vwCl (w1 ad cA σ') t.heap) (own8 ad)) 0 0 (own8 ad) := by
  refine Met.ofW (cc := cX1_way) (maxL := 4) (ret := (some .int)) (by decide) rfl ?_
  intro p e s m args below meth c s₁ B hml hv
  obtain ⟨rfl, hP, hK⟩ := hv
  have CF : CallFix p m c cX1_way 4 s _ AW RX1 := ⟨B.exec, B.bytes, hml, findClass_of_methodNamed B.named, fun w h => atoms_spec (ws := ws_ yX1_way cX1_way 4 (some .int)) B.pre w (List.mem_cons_of_mem _ h)⟩
  have hr := B.returns
  have hlocks := B.notSynchronized
  have hl := lv_entry ([.ref (ad 0), .int (nI (f)), .int (nI (t)), .int (nI (a))]) (n := 4) (Nat.le_of_ble_eq_true rfl)
  rw [lg_entry_eq]
  generalize (lg_sl ([.ref (ad 0), .int (nI (f)), .int (nI (t)), .int (nI (a))]) ++ List.replicate (4 - (lg_sl ([.ref (ad 0), .int (nI (f)), .int (nI (t)), .int (nI (a))])).length) Slot.unset).toArray = ls at hl ⊢
  have hl : lv_has ls 4 [(0, .ref (ad 0)), (1, .int (nI (f))), (2, .int (nI (t))), (3, .int (nI (a)))] := hl
  have hD : va_D (own8 ad) (w1 ad cA σ) := w1_D hj (fun _ h => h)
  have hS : va_S (own8 ad) s.heap s.heap [] := va_S.rf
  obtain ⟨i_sp, i_cu, i_ra, i_di, i_mo, i_pu⟩ := id hI
  have hw10 := hOi.1
  have hv32 : 2 ^ f < 32 := Nat.lt_of_lt_of_le (Nat.pow_lt_pow_right (show 1 < 2 by omega) hf) (by decide)
  refine lv_aload_n CF.1 CF.2.1 dX1_way_0 rfl (lv_at hl 0 rfl) ?_
  refine lv_iconst (v := nI 0) CF.1 CF.2.1 dX1_way_1 (by decide) ?_
  refine x1_p_thrown CF hK hP hD hS dX1_way_2 (fun σ1 H1 locs hσ1 hP1 hD1 hS1 => ?_)
  have hR : Rc σ1 b := Rc_th hR hσ1
  have hO : Ro σ1 b := Ro_th hO hσ1
  have hT : σ1 0 6 = nI 0 := by rw [hσ1, up_s]
  refine lv_iload_n CF.1 CF.2.1 dX1_way_5 rfl (lv_at hl 1 rfl) ?_
  refine cS_i CF (As := [.int (nI (f))]) (rest := []) (c1_isMoney l (nI (f))) lk_RX1_X1_isMoney rfl hl.1 ⟨Nat.le_of_ble_eq_true rfl, Nat.le_of_ble_eq_true rfl⟩ ⟨Nat.zero_le _, Nat.zero_le _⟩ (Nat.le_of_ble_eq_true rfl) rfl dX1_way_6 (fun r_2 hr_3 => ?_)
  have hxh_4 := nIz (n := f) (by omega)
  rcases hr_3 with ⟨rfl, -, -⟩ | ⟨rfl, h9⟩
  rotate_left
  · exact absurd h9 (by rw [hxh_4]; omega)
  rw [show (1 : Int32) = nI 1 by rfl]
  refine z_if_eq CF (tgt := 19) (nIz (by omega)) dX1_way_9 (by decide) (fun h => absurd h (by decide)) (fun _ => ?_)
  refine lv_iload_n CF.1 CF.2.1 dX1_way_12 rfl (lv_at hl 2 rfl) ?_
  refine cS_i CF (As := [.int (nI (t))]) (rest := []) (c1_isMoney l (nI (t))) lk_RX1_X1_isMoney rfl hl.1 ⟨Nat.le_of_ble_eq_true rfl, Nat.le_of_ble_eq_true rfl⟩ ⟨Nat.zero_le _, Nat.zero_le _⟩ (Nat.le_of_ble_eq_true rfl) rfl dX1_way_13 (fun r_7 hr_8 => ?_)
  have hxh_9 := nIz (n := t) (by omega)
  rcases hr_8 with ⟨rfl, -, -⟩ | ⟨rfl, h9⟩
  rotate_left
  · exact absurd h9 (by rw [hxh_9]; omega)
  rw [show (1 : Int32) = nI 1 by rfl]
  refine z_if_ne CF (tgt := 25) (nIz (by omega)) dX1_way_16 (by decide) (fun _ => ?_) (fun h => absurd h (by decide))
  refine lv_iload_n CF.1 CF.2.1 dX1_way_25 rfl (lv_at hl 1 rfl) ?_
  refine lv_iload_n CF.1 CF.2.1 dX1_way_26 rfl (lv_at hl 2 rfl) ?_
  refine z_icmp_eq CF (tgt := 40) (nIz (by omega)) (nIz (by omega)) dX1_way_27 (by decide) (fun h_12 => absurd h_12 (by omega)) (fun h_13 => ?_)
  refine lv_iload_n CF.1 CF.2.1 dX1_way_30 rfl (lv_at hl 3 rfl) ?_
  refine lv_iconst (v := nI 0) CF.1 CF.2.1 dX1_way_31 (by decide) ?_
  refine lv_ldc (v := nI 99999) CF.1 CF.2.1 CF.2.2.2.1 (CF.2.2.2.2 _ (inr_9 _ (List.mem_of_getElem? (i := 21) rfl))) dX1_way_32 ?_
  refine cS_i CF (As := [.int (nI (a)), .int (nI (0)), .int (nI (99999))]) (rest := []) (c1_isIn l (nI (a)) (nI (0)) (nI (99999)) (nIz (by omega)) (nIz (by omega))) lk_RX1_X1_isIn rfl hl.1 ⟨Nat.le_of_ble_eq_true rfl, Nat.le_of_ble_eq_true rfl⟩ ⟨Nat.zero_le _, Nat.zero_le _⟩ (Nat.le_of_ble_eq_true rfl) rfl dX1_way_34 (fun r_14 hr_15 => ?_)
  have hxhr_15 := nIz (n := a) (by omega)
  rcases hr_15 with ⟨rfl, -, -⟩ | ⟨rfl, h9⟩
  rotate_left
  · exact absurd h9 (by rw [hxhr_15]; omega)
  rw [show (1 : Int32) = nI 1 by rfl]
  refine z_if_ne CF (tgt := 46) (nIz (by omega)) dX1_way_37 (by decide) (fun _ => ?_) (fun h => absurd h (by decide))
  refine lv_aload_n CF.1 CF.2.1 dX1_way_46 rfl (lv_at hl 0 rfl) ?_
  refine lv_iload_n CF.1 CF.2.1 dX1_way_47 rfl (lv_at hl 1 rfl) ?_
  refine lv_iload_n CF.1 CF.2.1 dX1_way_48 rfl (lv_at hl 2 rfl) ?_
  refine lv_iload_n CF.1 CF.2.1 dX1_way_49 rfl (lv_at hl 3 rfl) ?_
  refine o_i2l CF (by omega) dX1_way_50 ?_
  refine lv_iconst (v := nI 1) CF.1 CF.2.1 dX1_way_51 (by decide) ?_
  refine lv_iload_n CF.1 CF.2.1 dX1_way_52 rfl (lv_at hl 1 rfl) ?_
  refine lv_ishl CF.1 CF.2.1 dX1_way_53 ?_
  refine tpi (show nI 1 <<< (nI (f) &&& 31) = nI (2 ^ (f)) from shl1 (by omega)) ?_
  refine lv_iconst (v := nI 4) CF.1 CF.2.1 dX1_way_54 (by decide) ?_
  refine c1_l CF hK hP1 (As := [.int (nI (f)), .int (nI (t)), .long (lN (a)), .int (nI (2 ^ (f))), .int (nI (4))]) (rest := []) (c1_most l hI hR 4 (by omega) (f) (t) (a) (2 ^ (f)) (by omega) (by omega) (by omega) hv32) rfl lk_RX1_X1_most rfl hl.1 ⟨Nat.le_of_ble_eq_true rfl, Nat.le_of_ble_eq_true rfl⟩ ⟨Nat.zero_le _, Nat.zero_le _⟩ (Nat.le_of_ble_eq_true rfl) rfl dX1_way_55 (fun r_18 hr_19 => ?_)
  subst hr_19
  have h_mg := mst_le (b := b) (goal := t) 4 (f) (a) (2 ^ (f))
  refine o_l2i CF dX1_way_58 ?_
  exact W.iret CF.1 CF.2.1 hr (fun t9 ht9 hW9 => ⟨⟨_, σ1, rfl, ⟨rfl, hR, hO, hT⟩, by show va_P G vwCl (w1 ad cA σ1) t9.heap; rw [ht9]; exact hP1⟩, hS1.F ht9⟩) hS1.2.2 dX1_way_59
set_option maxHeartbeats 1000000 in
set_option maxRecDepth 100000 in
theorem b1_way (l : Launch) {G : va_G} {cA : ClassId} {ad : Nat → Nat} {σ : RS} (hj : inj8 ad) {b : BS} (hI : InvC b) (hR : Rc σ b) (hO : Ro σ b) (hOi : InvO b) (x y z : Int32) (hbad : ¬ (0 ≤ x.toInt ∧ x.toInt < 5 ∧ 0 ≤ y.toInt ∧ y.toInt < 5 ∧ x.toInt ≠ y.toInt ∧ 0 ≤ z.toInt ∧ z.toInt ≤ 99999)) : Met l yX1_way (ws_ yX1_way cX1_way 4 (some .int)) (rmk 8 0 0) (pc1 G cA ad σ [.ref (ad 0), .int (x), .int (y), .int (z)]) (va_Qi (fun (_ : Int32) (σ' : RS) => Rc σ' b ∧ Ro σ' b ∧ ((σ' 0 6 = nI 1 ∧ (¬ (0 ≤ x.toInt ∧ x.toInt < 5 ∧ 0 ≤ y.toInt ∧ y.toInt < 5))) ∨ (σ' 0 6 = nI 2 ∧ (0 ≤ x.toInt ∧ x.toInt < 5 ∧ 0 ≤ y.toInt ∧ y.toInt < 5)))) (fun σ' t => va_P G vwCl (w1 ad cA σ') t.heap) (own8 ad)) 0 0 (own8 ad) := by
  refine Met.ofW (cc := cX1_way) (maxL := 4) (ret := (some .int)) (by decide) rfl ?_
  intro p e s m args below meth c s₁ B hml hv
  obtain ⟨rfl, hP, hK⟩ := hv
  have CF : CallFix p m c cX1_way 4 s _ AW RX1 := ⟨B.exec, B.bytes, hml, findClass_of_methodNamed B.named, fun w h => atoms_spec (ws := ws_ yX1_way cX1_way 4 (some .int)) B.pre w (List.mem_cons_of_mem _ h)⟩
  have hr := B.returns
  have hlocks := B.notSynchronized
  have hl := lv_entry ([.ref (ad 0), .int (x), .int (y), .int (z)]) (n := 4) (Nat.le_of_ble_eq_true rfl)
  rw [lg_entry_eq]
  generalize (lg_sl ([.ref (ad 0), .int (x), .int (y), .int (z)]) ++ List.replicate (4 - (lg_sl ([.ref (ad 0), .int (x), .int (y), .int (z)])).length) Slot.unset).toArray = ls at hl ⊢
  have hl : lv_has ls 4 [(0, .ref (ad 0)), (1, .int (x)), (2, .int (y)), (3, .int (z))] := hl
  have hD : va_D (own8 ad) (w1 ad cA σ) := w1_D hj (fun _ h => h)
  have hS : va_S (own8 ad) s.heap s.heap [] := va_S.rf
  obtain ⟨i_sp, i_cu, i_ra, i_di, i_mo, i_pu⟩ := id hI
  have hw10 := hOi.1
  refine lv_aload_n CF.1 CF.2.1 dX1_way_0 rfl (lv_at hl 0 rfl) ?_
  refine lv_iconst (v := nI 0) CF.1 CF.2.1 dX1_way_1 (by decide) ?_
  refine x1_p_thrown CF hK hP hD hS dX1_way_2 (fun σ1 H1 locs hσ1 hP1 hD1 hS1 => ?_)
  have hR : Rc σ1 b := Rc_th hR hσ1
  have hO : Ro σ1 b := Ro_th hO hσ1
  have hT : σ1 0 6 = nI 0 := by rw [hσ1, up_s]
  refine lv_iload_n CF.1 CF.2.1 dX1_way_5 rfl (lv_at hl 1 rfl) ?_
  refine cS_i CF (As := [.int (x)]) (rest := []) (c1_isMoney l ((x))) lk_RX1_X1_isMoney rfl hl.1 ⟨Nat.le_of_ble_eq_true rfl, Nat.le_of_ble_eq_true rfl⟩ ⟨Nat.zero_le _, Nat.zero_le _⟩ (Nat.le_of_ble_eq_true rfl) rfl dX1_way_6 (fun r_2 hr_3 => ?_)
  rcases hr_3 with ⟨rfl, h_6, h_7⟩ | ⟨rfl, h_8⟩
  · rw [show (1 : Int32) = nI 1 by rfl]
    obtain ⟨j_4, h_5, rfl⟩ := nI_ex (x := x) (n := 5) (by omega) (by omega)
    have hzj_4 := nIz (n := j_4) (by omega)
    refine z_if_eq CF (tgt := 19) (nIz (by omega)) dX1_way_9 (by decide) (fun h => absurd h (by decide)) (fun _ => ?_)
    refine lv_iload_n CF.1 CF.2.1 dX1_way_12 rfl (lv_at hl 2 rfl) ?_
    refine cS_i CF (As := [.int (y)]) (rest := []) (c1_isMoney l ((y))) lk_RX1_X1_isMoney rfl hl.1 ⟨Nat.le_of_ble_eq_true rfl, Nat.le_of_ble_eq_true rfl⟩ ⟨Nat.zero_le _, Nat.zero_le _⟩ (Nat.le_of_ble_eq_true rfl) rfl dX1_way_13 (fun r_11 hr_12 => ?_)
    rcases hr_12 with ⟨rfl, h_15, h_16⟩ | ⟨rfl, h_17⟩
    · rw [show (1 : Int32) = nI 1 by rfl]
      obtain ⟨j_13, h_14, rfl⟩ := nI_ex (x := y) (n := 5) (by omega) (by omega)
      have hzj_13 := nIz (n := j_13) (by omega)
      refine z_if_ne CF (tgt := 25) (nIz (by omega)) dX1_way_16 (by decide) (fun _ => ?_) (fun h => absurd h (by decide))
      refine lv_iload_n CF.1 CF.2.1 dX1_way_25 rfl (lv_at hl 1 rfl) ?_
      refine lv_iload_n CF.1 CF.2.1 dX1_way_26 rfl (lv_at hl 2 rfl) ?_
      refine z_icmp_eq CF (tgt := 40) (nIz (by omega)) (nIz (by omega)) dX1_way_27 (by decide) (fun h_20 => ?_) (fun h_21 => ?_)
      · refine lv_aload_n CF.1 CF.2.1 dX1_way_40 rfl (lv_at hl 0 rfl) ?_
        refine lv_iconst (v := nI 2) CF.1 CF.2.1 dX1_way_41 (by decide) ?_
        refine d1_i CF hK hP1 hj (fun _ h => h) hS1 (As := [.int (nI (2))]) (rest := []) (c1_fail l hj (σ := σ1) (nI 2)) rfl lk_RX1_X1_fail rfl hl.1 ⟨Nat.le_of_ble_eq_true rfl, Nat.le_of_ble_eq_true rfl⟩ ⟨Nat.zero_le _, Nat.zero_le _⟩ (Nat.le_of_ble_eq_true rfl) rfl dX1_way_42 (fun r_22 σ24 H24 locs hr_23 hP24 hD24 hS24 hz24 hk24 => ?_)
        obtain ⟨rfl, hF_r_22⟩ := hr_23
        exact W.iret CF.1 CF.2.1 hr (fun t9 ht9 hW9 => ⟨⟨_, σ24, rfl, ⟨Rc_th hR hF_r_22, Ro_th hO hF_r_22, Or.inr (⟨by rw [hF_r_22, up_s], by omega⟩)⟩, by show va_P G vwCl (w1 ad cA σ24) t9.heap; rw [ht9]; exact hP24⟩, hS24.F ht9⟩) hS24.2.2 dX1_way_45
      · refine lv_iload_n CF.1 CF.2.1 dX1_way_30 rfl (lv_at hl 3 rfl) ?_
        refine lv_iconst (v := nI 0) CF.1 CF.2.1 dX1_way_31 (by decide) ?_
        refine lv_ldc (v := nI 99999) CF.1 CF.2.1 CF.2.2.2.1 (CF.2.2.2.2 _ (inr_9 _ (List.mem_of_getElem? (i := 21) rfl))) dX1_way_32 ?_
        refine cS_i CF (As := [.int (z), .int (nI (0)), .int (nI (99999))]) (rest := []) (c1_isIn l ((z)) (nI (0)) (nI (99999)) (nIz (by omega)) (nIz (by omega))) lk_RX1_X1_isIn rfl hl.1 ⟨Nat.le_of_ble_eq_true rfl, Nat.le_of_ble_eq_true rfl⟩ ⟨Nat.zero_le _, Nat.zero_le _⟩ (Nat.le_of_ble_eq_true rfl) rfl dX1_way_34 (fun r_25 hr_26 => ?_)
        rcases hr_26 with ⟨rfl, h_29, h_30⟩ | ⟨rfl, h_31⟩
        · rw [show (1 : Int32) = nI 1 by rfl]
          obtain ⟨j_27, h_28, rfl⟩ := nI_ex (x := z) (n := 100000) (by omega) (by omega)
          have hzj_27 := nIz (n := j_27) (by omega)
          refine z_if_ne CF (tgt := 46) (nIz (by omega)) dX1_way_37 (by decide) (fun _ => ?_) (fun h => absurd h (by decide))
          exact (show False by omega).elim
        · rw [show (0 : Int32) = nI 0 by rfl]
          refine z_if_ne CF (tgt := 46) (nIz (by omega)) dX1_way_37 (by decide) (fun h => absurd h (by decide)) (fun _ => ?_)
          refine lv_aload_n CF.1 CF.2.1 dX1_way_40 rfl (lv_at hl 0 rfl) ?_
          refine lv_iconst (v := nI 2) CF.1 CF.2.1 dX1_way_41 (by decide) ?_
          refine d1_i CF hK hP1 hj (fun _ h => h) hS1 (As := [.int (nI (2))]) (rest := []) (c1_fail l hj (σ := σ1) (nI 2)) rfl lk_RX1_X1_fail rfl hl.1 ⟨Nat.le_of_ble_eq_true rfl, Nat.le_of_ble_eq_true rfl⟩ ⟨Nat.zero_le _, Nat.zero_le _⟩ (Nat.le_of_ble_eq_true rfl) rfl dX1_way_42 (fun r_36 σ38 H38 locs hr_37 hP38 hD38 hS38 hz38 hk38 => ?_)
          obtain ⟨rfl, hF_r_36⟩ := hr_37
          exact W.iret CF.1 CF.2.1 hr (fun t9 ht9 hW9 => ⟨⟨_, σ38, rfl, ⟨Rc_th hR hF_r_36, Ro_th hO hF_r_36, Or.inr (⟨by rw [hF_r_36, up_s], by omega⟩)⟩, by show va_P G vwCl (w1 ad cA σ38) t9.heap; rw [ht9]; exact hP38⟩, hS38.F ht9⟩) hS38.2.2 dX1_way_45
    · rw [show (0 : Int32) = nI 0 by rfl]
      refine z_if_ne CF (tgt := 25) (nIz (by omega)) dX1_way_16 (by decide) (fun h => absurd h (by decide)) (fun _ => ?_)
      refine lv_aload_n CF.1 CF.2.1 dX1_way_19 rfl (lv_at hl 0 rfl) ?_
      refine lv_iconst (v := nI 1) CF.1 CF.2.1 dX1_way_20 (by decide) ?_
      refine d1_i CF hK hP1 hj (fun _ h => h) hS1 (As := [.int (nI (1))]) (rest := []) (c1_fail l hj (σ := σ1) (nI 1)) rfl lk_RX1_X1_fail rfl hl.1 ⟨Nat.le_of_ble_eq_true rfl, Nat.le_of_ble_eq_true rfl⟩ ⟨Nat.zero_le _, Nat.zero_le _⟩ (Nat.le_of_ble_eq_true rfl) rfl dX1_way_21 (fun r_41 σ43 H43 locs hr_42 hP43 hD43 hS43 hz43 hk43 => ?_)
      obtain ⟨rfl, hF_r_41⟩ := hr_42
      exact W.iret CF.1 CF.2.1 hr (fun t9 ht9 hW9 => ⟨⟨_, σ43, rfl, ⟨Rc_th hR hF_r_41, Ro_th hO hF_r_41, Or.inl ⟨by rw [hF_r_41, up_s], by omega⟩⟩, by show va_P G vwCl (w1 ad cA σ43) t9.heap; rw [ht9]; exact hP43⟩, hS43.F ht9⟩) hS43.2.2 dX1_way_24
  · rw [show (0 : Int32) = nI 0 by rfl]
    refine z_if_eq CF (tgt := 19) (nIz (by omega)) dX1_way_9 (by decide) (fun _ => ?_) (fun h => absurd h (by decide))
    refine lv_aload_n CF.1 CF.2.1 dX1_way_19 rfl (lv_at hl 0 rfl) ?_
    refine lv_iconst (v := nI 1) CF.1 CF.2.1 dX1_way_20 (by decide) ?_
    refine d1_i CF hK hP1 hj (fun _ h => h) hS1 (As := [.int (nI (1))]) (rest := []) (c1_fail l hj (σ := σ1) (nI 1)) rfl lk_RX1_X1_fail rfl hl.1 ⟨Nat.le_of_ble_eq_true rfl, Nat.le_of_ble_eq_true rfl⟩ ⟨Nat.zero_le _, Nat.zero_le _⟩ (Nat.le_of_ble_eq_true rfl) rfl dX1_way_21 (fun r_46 σ48 H48 locs hr_47 hP48 hD48 hS48 hz48 hk48 => ?_)
    obtain ⟨rfl, hF_r_46⟩ := hr_47
    exact W.iret CF.1 CF.2.1 hr (fun t9 ht9 hW9 => ⟨⟨_, σ48, rfl, ⟨Rc_th hR hF_r_46, Ro_th hO hF_r_46, Or.inl ⟨by rw [hF_r_46, up_s], by omega⟩⟩, by show va_P G vwCl (w1 ad cA σ48) t9.heap; rw [ht9]; exact hP48⟩, hS48.F ht9⟩) hS48.2.2 dX1_way_24
theorem rgX {m a : Nat} (hm : m ≤ 2147483647) (ha : a ≤ 99999) : (if lN m - lN a < lN 0 then lN 0 else lN m - lN a) = lN (m - a) := by
  have h2 : (lN m - lN a).toInt = (m : Int) - a := by rw [Int64.toInt_sub, lNz (by omega), lNz (by omega), Int.bmod_eq_of_le (by omega) (by omega)]
  have h0 : (lN 0).toInt = 0 := by decide
  by_cases h : a ≤ m
  · rw [if_neg (by rw [Int64.lt_iff_toInt_lt, h2, h0]; omega), lN_sub h]
  · rw [if_pos (by rw [Int64.lt_iff_toInt_lt, h2, h0]; omega), show m - a = 0 by omega]
set_option maxHeartbeats 1000000 in
set_option maxRecDepth 100000 in
theorem c1_ring (l : Launch) {G : va_G} {cA : ClassId} {ad : Nat → Nat} {σ : RS} (hj : inj8 ad) {b : BS} (hI : InvC b) (hR : Rc σ b) (hO : Ro σ b) (hOi : InvO b) {f a : Nat} (hf : f < 5) (ha : a ≤ 99999) : Met l yX1_ring (ws_ yX1_ring cX1_ring 3 (some .int)) (rmk 20 0 0) (pc1 G cA ad σ [.ref (ad 0), .int (nI (f)), .int (nI (a))]) (va_Qi (fun (r : Int32) (σ' : RS) => r = nI (mst b f 5 f a (2 ^ f) - a) ∧ Rc σ' (b) ∧ Ro σ' (b) ∧ σ' 0 6 = nI 0) (fun σ' t => va_P G vwCl (w1 ad cA σ') t.heap) (own8 ad)) 0 0 (own8 ad) := by
  refine Met.ofW (cc := cX1_ring) (maxL := 3) (ret := (some .int)) (by decide) rfl ?_
  intro p e s m args below meth c s₁ B hml hv
  obtain ⟨rfl, hP, hK⟩ := hv
  have CF : CallFix p m c cX1_ring 3 s _ AW RX1 := ⟨B.exec, B.bytes, hml, findClass_of_methodNamed B.named, fun w h => atoms_spec (ws := ws_ yX1_ring cX1_ring 3 (some .int)) B.pre w (List.mem_cons_of_mem _ h)⟩
  have hr := B.returns
  have hlocks := B.notSynchronized
  have hl := lv_entry ([.ref (ad 0), .int (nI (f)), .int (nI (a))]) (n := 3) (Nat.le_of_ble_eq_true rfl)
  rw [lg_entry_eq]
  generalize (lg_sl ([.ref (ad 0), .int (nI (f)), .int (nI (a))]) ++ List.replicate (3 - (lg_sl ([.ref (ad 0), .int (nI (f)), .int (nI (a))])).length) Slot.unset).toArray = ls at hl ⊢
  have hl : lv_has ls 3 [(0, .ref (ad 0)), (1, .int (nI (f))), (2, .int (nI (a)))] := hl
  have hD : va_D (own8 ad) (w1 ad cA σ) := w1_D hj (fun _ h => h)
  have hS : va_S (own8 ad) s.heap s.heap [] := va_S.rf
  obtain ⟨i_sp, i_cu, i_ra, i_di, i_mo, i_pu⟩ := id hI
  have hw10 := hOi.1
  have hv32 : 2 ^ f < 32 := Nat.lt_of_lt_of_le (Nat.pow_lt_pow_right (show 1 < 2 by omega) hf) (by decide)
  refine lv_aload_n CF.1 CF.2.1 dX1_ring_0 rfl (lv_at hl 0 rfl) ?_
  refine lv_iconst (v := nI 0) CF.1 CF.2.1 dX1_ring_1 (by decide) ?_
  refine x1_p_thrown CF hK hP hD hS dX1_ring_2 (fun σ1 H1 locs hσ1 hP1 hD1 hS1 => ?_)
  have hR : Rc σ1 b := Rc_th hR hσ1
  have hO : Ro σ1 b := Ro_th hO hσ1
  have hT : σ1 0 6 = nI 0 := by rw [hσ1, up_s]
  refine lv_iload_n CF.1 CF.2.1 dX1_ring_5 rfl (lv_at hl 1 rfl) ?_
  refine cS_i CF (As := [.int (nI (f))]) (rest := []) (c1_isMoney l (nI (f))) lk_RX1_X1_isMoney rfl hl.1 ⟨Nat.le_of_ble_eq_true rfl, Nat.le_of_ble_eq_true rfl⟩ ⟨Nat.zero_le _, Nat.zero_le _⟩ (Nat.le_of_ble_eq_true rfl) rfl dX1_ring_6 (fun r_2 hr_3 => ?_)
  have hxh_4 := nIz (n := f) (by omega)
  rcases hr_3 with ⟨rfl, -, -⟩ | ⟨rfl, h9⟩
  rotate_left
  · exact absurd h9 (by rw [hxh_4]; omega)
  rw [show (1 : Int32) = nI 1 by rfl]
  refine z_if_ne CF (tgt := 18) (nIz (by omega)) dX1_ring_9 (by decide) (fun _ => ?_) (fun h => absurd h (by decide))
  refine lv_iload_n CF.1 CF.2.1 dX1_ring_18 rfl (lv_at hl 2 rfl) ?_
  refine lv_iconst (v := nI 0) CF.1 CF.2.1 dX1_ring_19 (by decide) ?_
  refine lv_ldc (v := nI 99999) CF.1 CF.2.1 CF.2.2.2.1 (CF.2.2.2.2 _ (inr_9 _ (List.mem_of_getElem? (i := 21) rfl))) dX1_ring_20 ?_
  refine cS_i CF (As := [.int (nI (a)), .int (nI (0)), .int (nI (99999))]) (rest := []) (c1_isIn l (nI (a)) (nI (0)) (nI (99999)) (nIz (by omega)) (nIz (by omega))) lk_RX1_X1_isIn rfl hl.1 ⟨Nat.le_of_ble_eq_true rfl, Nat.le_of_ble_eq_true rfl⟩ ⟨Nat.zero_le _, Nat.zero_le _⟩ (Nat.le_of_ble_eq_true rfl) rfl dX1_ring_22 (fun r_7 hr_8 => ?_)
  have hxhr_8 := nIz (n := a) (by omega)
  rcases hr_8 with ⟨rfl, -, -⟩ | ⟨rfl, h9⟩
  rotate_left
  · exact absurd h9 (by rw [hxhr_8]; omega)
  rw [show (1 : Int32) = nI 1 by rfl]
  refine z_if_ne CF (tgt := 34) (nIz (by omega)) dX1_ring_25 (by decide) (fun _ => ?_) (fun h => absurd h (by decide))
  refine lv_lconst (v := lN 0) CF.1 CF.2.1 dX1_ring_34 (by decide) ?_
  refine lv_aload_n CF.1 CF.2.1 dX1_ring_35 rfl (lv_at hl 0 rfl) ?_
  refine lv_iload_n CF.1 CF.2.1 dX1_ring_36 rfl (lv_at hl 1 rfl) ?_
  refine lv_iload_n CF.1 CF.2.1 dX1_ring_37 rfl (lv_at hl 1 rfl) ?_
  refine lv_iload_n CF.1 CF.2.1 dX1_ring_38 rfl (lv_at hl 2 rfl) ?_
  refine o_i2l CF (by omega) dX1_ring_39 ?_
  refine lv_iconst (v := nI 1) CF.1 CF.2.1 dX1_ring_40 (by decide) ?_
  refine lv_iload_n CF.1 CF.2.1 dX1_ring_41 rfl (lv_at hl 1 rfl) ?_
  refine lv_ishl CF.1 CF.2.1 dX1_ring_42 ?_
  refine tpi (show nI 1 <<< (nI (f) &&& 31) = nI (2 ^ (f)) from shl1 (by omega)) ?_
  refine lv_iconst (v := nI 5) CF.1 CF.2.1 dX1_ring_43 (by decide) ?_
  refine c1_l CF hK hP1 (As := [.int (nI (f)), .int (nI (f)), .long (lN (a)), .int (nI (2 ^ (f))), .int (nI (5))]) (rest := [.long (lN (0))]) (c1_most l hI hR 5 (by omega) (f) (f) (a) (2 ^ (f)) (by omega) (by omega) (by omega) hv32) rfl lk_RX1_X1_most rfl hl.1 ⟨Nat.le_of_ble_eq_true rfl, Nat.le_of_ble_eq_true rfl⟩ ⟨Nat.zero_le _, Nat.zero_le _⟩ (Nat.le_of_ble_eq_true rfl) rfl dX1_ring_44 (fun r_11 hr_12 => ?_)
  subst hr_12
  have h_mg := mst_le (b := b) (goal := f) 5 (f) (a) (2 ^ (f))
  refine lv_iload_n CF.1 CF.2.1 dX1_ring_47 rfl (lv_at hl 2 rfl) ?_
  refine o_i2l CF (by omega) dX1_ring_48 ?_
  refine lv_lsub CF.1 CF.2.1 dX1_ring_49 ?_
  refine va_mmax_long CF.1 CF.2.1 (CF.2.2.1.trans hl.1.symm) CF.2.2.2.1 (CF.2.2.2.2 _ (inr_18 _ (List.mem_of_getElem? (i := 19) rfl))) (CF.2.2.2.2 _ (inr_17 _ (List.mem_of_getElem? (i := 22) rfl))) (CF.2.2.2.2 _ (inr_5 _ (List.mem_of_getElem? (i := 8) rfl))) (CF.2.2.2.2 _ (inr_17 _ (List.mem_of_getElem? (i := 23) rfl))) (Nat.le_of_ble_eq_true rfl) (Nat.le_of_ble_eq_true rfl) (Nat.zero_le _) (Nat.zero_le _) dX1_ring_50 ?_
  refine tpl (y := lN (mst b (f) 5 (f) (a) (2 ^ (f)) - a)) ?_ ?_
  · exact rgX (by omega) (by omega)
  refine o_l2i CF dX1_ring_53 ?_
  exact W.iret CF.1 CF.2.1 hr (fun t9 ht9 hW9 => ⟨⟨_, σ1, rfl, ⟨rfl, hR, hO, hT⟩, by show va_P G vwCl (w1 ad cA σ1) t9.heap; rw [ht9]; exact hP1⟩, hS1.F ht9⟩) hS1.2.2 dX1_ring_54
set_option maxHeartbeats 1000000 in
set_option maxRecDepth 100000 in
theorem b1_ring (l : Launch) {G : va_G} {cA : ClassId} {ad : Nat → Nat} {σ : RS} (hj : inj8 ad) {b : BS} (hI : InvC b) (hR : Rc σ b) (hO : Ro σ b) (hOi : InvO b) (x z : Int32) (hbad : ¬ (0 ≤ x.toInt ∧ x.toInt < 5 ∧ 0 ≤ z.toInt ∧ z.toInt ≤ 99999)) : Met l yX1_ring (ws_ yX1_ring cX1_ring 3 (some .int)) (rmk 8 0 0) (pc1 G cA ad σ [.ref (ad 0), .int (x), .int (z)]) (va_Qi (fun (_ : Int32) (σ' : RS) => Rc σ' b ∧ Ro σ' b ∧ ((σ' 0 6 = nI 1 ∧ (¬ (0 ≤ x.toInt ∧ x.toInt < 5))) ∨ (σ' 0 6 = nI 2 ∧ (0 ≤ x.toInt ∧ x.toInt < 5)))) (fun σ' t => va_P G vwCl (w1 ad cA σ') t.heap) (own8 ad)) 0 0 (own8 ad) := by
  refine Met.ofW (cc := cX1_ring) (maxL := 3) (ret := (some .int)) (by decide) rfl ?_
  intro p e s m args below meth c s₁ B hml hv
  obtain ⟨rfl, hP, hK⟩ := hv
  have CF : CallFix p m c cX1_ring 3 s _ AW RX1 := ⟨B.exec, B.bytes, hml, findClass_of_methodNamed B.named, fun w h => atoms_spec (ws := ws_ yX1_ring cX1_ring 3 (some .int)) B.pre w (List.mem_cons_of_mem _ h)⟩
  have hr := B.returns
  have hlocks := B.notSynchronized
  have hl := lv_entry ([.ref (ad 0), .int (x), .int (z)]) (n := 3) (Nat.le_of_ble_eq_true rfl)
  rw [lg_entry_eq]
  generalize (lg_sl ([.ref (ad 0), .int (x), .int (z)]) ++ List.replicate (3 - (lg_sl ([.ref (ad 0), .int (x), .int (z)])).length) Slot.unset).toArray = ls at hl ⊢
  have hl : lv_has ls 3 [(0, .ref (ad 0)), (1, .int (x)), (2, .int (z))] := hl
  have hD : va_D (own8 ad) (w1 ad cA σ) := w1_D hj (fun _ h => h)
  have hS : va_S (own8 ad) s.heap s.heap [] := va_S.rf
  obtain ⟨i_sp, i_cu, i_ra, i_di, i_mo, i_pu⟩ := id hI
  have hw10 := hOi.1
  refine lv_aload_n CF.1 CF.2.1 dX1_ring_0 rfl (lv_at hl 0 rfl) ?_
  refine lv_iconst (v := nI 0) CF.1 CF.2.1 dX1_ring_1 (by decide) ?_
  refine x1_p_thrown CF hK hP hD hS dX1_ring_2 (fun σ1 H1 locs hσ1 hP1 hD1 hS1 => ?_)
  have hR : Rc σ1 b := Rc_th hR hσ1
  have hO : Ro σ1 b := Ro_th hO hσ1
  have hT : σ1 0 6 = nI 0 := by rw [hσ1, up_s]
  refine lv_iload_n CF.1 CF.2.1 dX1_ring_5 rfl (lv_at hl 1 rfl) ?_
  refine cS_i CF (As := [.int (x)]) (rest := []) (c1_isMoney l ((x))) lk_RX1_X1_isMoney rfl hl.1 ⟨Nat.le_of_ble_eq_true rfl, Nat.le_of_ble_eq_true rfl⟩ ⟨Nat.zero_le _, Nat.zero_le _⟩ (Nat.le_of_ble_eq_true rfl) rfl dX1_ring_6 (fun r_2 hr_3 => ?_)
  rcases hr_3 with ⟨rfl, h_6, h_7⟩ | ⟨rfl, h_8⟩
  · rw [show (1 : Int32) = nI 1 by rfl]
    obtain ⟨j_4, h_5, rfl⟩ := nI_ex (x := x) (n := 5) (by omega) (by omega)
    have hzj_4 := nIz (n := j_4) (by omega)
    refine z_if_ne CF (tgt := 18) (nIz (by omega)) dX1_ring_9 (by decide) (fun _ => ?_) (fun h => absurd h (by decide))
    refine lv_iload_n CF.1 CF.2.1 dX1_ring_18 rfl (lv_at hl 2 rfl) ?_
    refine lv_iconst (v := nI 0) CF.1 CF.2.1 dX1_ring_19 (by decide) ?_
    refine lv_ldc (v := nI 99999) CF.1 CF.2.1 CF.2.2.2.1 (CF.2.2.2.2 _ (inr_9 _ (List.mem_of_getElem? (i := 21) rfl))) dX1_ring_20 ?_
    refine cS_i CF (As := [.int (z), .int (nI (0)), .int (nI (99999))]) (rest := []) (c1_isIn l ((z)) (nI (0)) (nI (99999)) (nIz (by omega)) (nIz (by omega))) lk_RX1_X1_isIn rfl hl.1 ⟨Nat.le_of_ble_eq_true rfl, Nat.le_of_ble_eq_true rfl⟩ ⟨Nat.zero_le _, Nat.zero_le _⟩ (Nat.le_of_ble_eq_true rfl) rfl dX1_ring_22 (fun r_11 hr_12 => ?_)
    rcases hr_12 with ⟨rfl, h_15, h_16⟩ | ⟨rfl, h_17⟩
    · rw [show (1 : Int32) = nI 1 by rfl]
      obtain ⟨j_13, h_14, rfl⟩ := nI_ex (x := z) (n := 100000) (by omega) (by omega)
      have hzj_13 := nIz (n := j_13) (by omega)
      refine z_if_ne CF (tgt := 34) (nIz (by omega)) dX1_ring_25 (by decide) (fun _ => ?_) (fun h => absurd h (by decide))
      exact (show False by omega).elim
    · rw [show (0 : Int32) = nI 0 by rfl]
      refine z_if_ne CF (tgt := 34) (nIz (by omega)) dX1_ring_25 (by decide) (fun h => absurd h (by decide)) (fun _ => ?_)
      refine lv_aload_n CF.1 CF.2.1 dX1_ring_28 rfl (lv_at hl 0 rfl) ?_
      refine lv_iconst (v := nI 2) CF.1 CF.2.1 dX1_ring_29 (by decide) ?_
      refine d1_i CF hK hP1 hj (fun _ h => h) hS1 (As := [.int (nI (2))]) (rest := []) (c1_fail l hj (σ := σ1) (nI 2)) rfl lk_RX1_X1_fail rfl hl.1 ⟨Nat.le_of_ble_eq_true rfl, Nat.le_of_ble_eq_true rfl⟩ ⟨Nat.zero_le _, Nat.zero_le _⟩ (Nat.le_of_ble_eq_true rfl) rfl dX1_ring_30 (fun r_22 σ24 H24 locs hr_23 hP24 hD24 hS24 hz24 hk24 => ?_)
      obtain ⟨rfl, hF_r_22⟩ := hr_23
      exact W.iret CF.1 CF.2.1 hr (fun t9 ht9 hW9 => ⟨⟨_, σ24, rfl, ⟨Rc_th hR hF_r_22, Ro_th hO hF_r_22, Or.inr (⟨by rw [hF_r_22, up_s], by omega⟩)⟩, by show va_P G vwCl (w1 ad cA σ24) t9.heap; rw [ht9]; exact hP24⟩, hS24.F ht9⟩) hS24.2.2 dX1_ring_33
  · rw [show (0 : Int32) = nI 0 by rfl]
    refine z_if_ne CF (tgt := 18) (nIz (by omega)) dX1_ring_9 (by decide) (fun h => absurd h (by decide)) (fun _ => ?_)
    refine lv_aload_n CF.1 CF.2.1 dX1_ring_12 rfl (lv_at hl 0 rfl) ?_
    refine lv_iconst (v := nI 1) CF.1 CF.2.1 dX1_ring_13 (by decide) ?_
    refine d1_i CF hK hP1 hj (fun _ h => h) hS1 (As := [.int (nI (1))]) (rest := []) (c1_fail l hj (σ := σ1) (nI 1)) rfl lk_RX1_X1_fail rfl hl.1 ⟨Nat.le_of_ble_eq_true rfl, Nat.le_of_ble_eq_true rfl⟩ ⟨Nat.zero_le _, Nat.zero_le _⟩ (Nat.le_of_ble_eq_true rfl) rfl dX1_ring_14 (fun r_27 σ29 H29 locs hr_28 hP29 hD29 hS29 hz29 hk29 => ?_)
    obtain ⟨rfl, hF_r_27⟩ := hr_28
    exact W.iret CF.1 CF.2.1 hr (fun t9 ht9 hW9 => ⟨⟨_, σ29, rfl, ⟨Rc_th hR hF_r_27, Ro_th hO hF_r_27, Or.inl ⟨by rw [hF_r_27, up_s], by omega⟩⟩, by show va_P G vwCl (w1 ad cA σ29) t9.heap; rw [ht9]; exact hP29⟩, hS29.F ht9⟩) hS29.2.2 dX1_ring_17
set_option maxHeartbeats 1000000 in
set_option maxRecDepth 100000 in
theorem b1_needs (l : Launch) {G : va_G} {cA : ClassId} {ad : Nat → Nat} {σ : RS} (hj : inj8 ad) {b : BS} (hI : InvC b) (hR : Rc σ b) (hO : Ro σ b) (hOi : InvO b) (x y : Int32) (hbad : ¬ (0 ≤ x.toInt ∧ x.toInt < 5 ∧ 0 ≤ y.toInt ∧ y.toInt < 5 ∧ x.toInt ≠ y.toInt)) : Met l yX1_needs (ws_ yX1_needs cX1_needs 5 (some .int)) (rmk 8 0 0) (pc1 G cA ad σ [.ref (ad 0), .int (x), .int (y)]) (va_Qi (fun (_ : Int32) (σ' : RS) => Rc σ' b ∧ Ro σ' b ∧ ((σ' 0 6 = nI 1 ∧ (¬ (0 ≤ x.toInt ∧ x.toInt < 5 ∧ 0 ≤ y.toInt ∧ y.toInt < 5))) ∨ (σ' 0 6 = nI 2 ∧ (0 ≤ x.toInt ∧ x.toInt < 5 ∧ 0 ≤ y.toInt ∧ y.toInt < 5)))) (fun σ' t => va_P G vwCl (w1 ad cA σ') t.heap) (own8 ad)) 0 0 (own8 ad) := by
  refine Met.ofW (cc := cX1_needs) (maxL := 5) (ret := (some .int)) (by decide) rfl ?_
  intro p e s m args below meth c s₁ B hml hv
  obtain ⟨rfl, hP, hK⟩ := hv
  have CF : CallFix p m c cX1_needs 5 s _ AW RX1 := ⟨B.exec, B.bytes, hml, findClass_of_methodNamed B.named, fun w h => atoms_spec (ws := ws_ yX1_needs cX1_needs 5 (some .int)) B.pre w (List.mem_cons_of_mem _ h)⟩
  have hr := B.returns
  have hlocks := B.notSynchronized
  have hl := lv_entry ([.ref (ad 0), .int (x), .int (y)]) (n := 5) (Nat.le_of_ble_eq_true rfl)
  rw [lg_entry_eq]
  generalize (lg_sl ([.ref (ad 0), .int (x), .int (y)]) ++ List.replicate (5 - (lg_sl ([.ref (ad 0), .int (x), .int (y)])).length) Slot.unset).toArray = ls at hl ⊢
  have hl : lv_has ls 5 [(0, .ref (ad 0)), (1, .int (x)), (2, .int (y))] := hl
  have hD : va_D (own8 ad) (w1 ad cA σ) := w1_D hj (fun _ h => h)
  have hS : va_S (own8 ad) s.heap s.heap [] := va_S.rf
  obtain ⟨i_sp, i_cu, i_ra, i_di, i_mo, i_pu⟩ := id hI
  have hw10 := hOi.1
  refine lv_aload_n CF.1 CF.2.1 dX1_needs_0 rfl (lv_at hl 0 rfl) ?_
  refine lv_iconst (v := nI 0) CF.1 CF.2.1 dX1_needs_1 (by decide) ?_
  refine x1_p_thrown CF hK hP hD hS dX1_needs_2 (fun σ1 H1 locs hσ1 hP1 hD1 hS1 => ?_)
  have hR : Rc σ1 b := Rc_th hR hσ1
  have hO : Ro σ1 b := Ro_th hO hσ1
  have hT : σ1 0 6 = nI 0 := by rw [hσ1, up_s]
  refine lv_iload_n CF.1 CF.2.1 dX1_needs_5 rfl (lv_at hl 1 rfl) ?_
  refine cS_i CF (As := [.int (x)]) (rest := []) (c1_isMoney l ((x))) lk_RX1_X1_isMoney rfl hl.1 ⟨Nat.le_of_ble_eq_true rfl, Nat.le_of_ble_eq_true rfl⟩ ⟨Nat.zero_le _, Nat.zero_le _⟩ (Nat.le_of_ble_eq_true rfl) rfl dX1_needs_6 (fun r_2 hr_3 => ?_)
  rcases hr_3 with ⟨rfl, h_6, h_7⟩ | ⟨rfl, h_8⟩
  · rw [show (1 : Int32) = nI 1 by rfl]
    obtain ⟨j_4, h_5, rfl⟩ := nI_ex (x := x) (n := 5) (by omega) (by omega)
    have hzj_4 := nIz (n := j_4) (by omega)
    refine z_if_eq CF (tgt := 19) (nIz (by omega)) dX1_needs_9 (by decide) (fun h => absurd h (by decide)) (fun _ => ?_)
    refine lv_iload_n CF.1 CF.2.1 dX1_needs_12 rfl (lv_at hl 2 rfl) ?_
    refine cS_i CF (As := [.int (y)]) (rest := []) (c1_isMoney l ((y))) lk_RX1_X1_isMoney rfl hl.1 ⟨Nat.le_of_ble_eq_true rfl, Nat.le_of_ble_eq_true rfl⟩ ⟨Nat.zero_le _, Nat.zero_le _⟩ (Nat.le_of_ble_eq_true rfl) rfl dX1_needs_13 (fun r_11 hr_12 => ?_)
    rcases hr_12 with ⟨rfl, h_15, h_16⟩ | ⟨rfl, h_17⟩
    · rw [show (1 : Int32) = nI 1 by rfl]
      obtain ⟨j_13, h_14, rfl⟩ := nI_ex (x := y) (n := 5) (by omega) (by omega)
      have hzj_13 := nIz (n := j_13) (by omega)
      refine z_if_ne CF (tgt := 25) (nIz (by omega)) dX1_needs_16 (by decide) (fun _ => ?_) (fun h => absurd h (by decide))
      refine lv_iload_n CF.1 CF.2.1 dX1_needs_25 rfl (lv_at hl 1 rfl) ?_
      refine lv_iload_n CF.1 CF.2.1 dX1_needs_26 rfl (lv_at hl 2 rfl) ?_
      refine z_icmp_ne CF (tgt := 36) (nIz (by omega)) (nIz (by omega)) dX1_needs_27 (by decide) (fun h_20 => ?_) (fun h_21 => ?_)
      · exact (show False by omega).elim
      · refine lv_aload_n CF.1 CF.2.1 dX1_needs_30 rfl (lv_at hl 0 rfl) ?_
        refine lv_iconst (v := nI 2) CF.1 CF.2.1 dX1_needs_31 (by decide) ?_
        refine d1_i CF hK hP1 hj (fun _ h => h) hS1 (As := [.int (nI (2))]) (rest := []) (c1_fail l hj (σ := σ1) (nI 2)) rfl lk_RX1_X1_fail rfl hl.1 ⟨Nat.le_of_ble_eq_true rfl, Nat.le_of_ble_eq_true rfl⟩ ⟨Nat.zero_le _, Nat.zero_le _⟩ (Nat.le_of_ble_eq_true rfl) rfl dX1_needs_32 (fun r_22 σ24 H24 locs hr_23 hP24 hD24 hS24 hz24 hk24 => ?_)
        obtain ⟨rfl, hF_r_22⟩ := hr_23
        exact W.iret CF.1 CF.2.1 hr (fun t9 ht9 hW9 => ⟨⟨_, σ24, rfl, ⟨Rc_th hR hF_r_22, Ro_th hO hF_r_22, Or.inr (⟨by rw [hF_r_22, up_s], by omega⟩)⟩, by show va_P G vwCl (w1 ad cA σ24) t9.heap; rw [ht9]; exact hP24⟩, hS24.F ht9⟩) hS24.2.2 dX1_needs_35
    · rw [show (0 : Int32) = nI 0 by rfl]
      refine z_if_ne CF (tgt := 25) (nIz (by omega)) dX1_needs_16 (by decide) (fun h => absurd h (by decide)) (fun _ => ?_)
      refine lv_aload_n CF.1 CF.2.1 dX1_needs_19 rfl (lv_at hl 0 rfl) ?_
      refine lv_iconst (v := nI 1) CF.1 CF.2.1 dX1_needs_20 (by decide) ?_
      refine d1_i CF hK hP1 hj (fun _ h => h) hS1 (As := [.int (nI (1))]) (rest := []) (c1_fail l hj (σ := σ1) (nI 1)) rfl lk_RX1_X1_fail rfl hl.1 ⟨Nat.le_of_ble_eq_true rfl, Nat.le_of_ble_eq_true rfl⟩ ⟨Nat.zero_le _, Nat.zero_le _⟩ (Nat.le_of_ble_eq_true rfl) rfl dX1_needs_21 (fun r_27 σ29 H29 locs hr_28 hP29 hD29 hS29 hz29 hk29 => ?_)
      obtain ⟨rfl, hF_r_27⟩ := hr_28
      exact W.iret CF.1 CF.2.1 hr (fun t9 ht9 hW9 => ⟨⟨_, σ29, rfl, ⟨Rc_th hR hF_r_27, Ro_th hO hF_r_27, Or.inl ⟨by rw [hF_r_27, up_s], by omega⟩⟩, by show va_P G vwCl (w1 ad cA σ29) t9.heap; rw [ht9]; exact hP29⟩, hS29.F ht9⟩) hS29.2.2 dX1_needs_24
  · rw [show (0 : Int32) = nI 0 by rfl]
    refine z_if_eq CF (tgt := 19) (nIz (by omega)) dX1_needs_9 (by decide) (fun _ => ?_) (fun h => absurd h (by decide))
    refine lv_aload_n CF.1 CF.2.1 dX1_needs_19 rfl (lv_at hl 0 rfl) ?_
    refine lv_iconst (v := nI 1) CF.1 CF.2.1 dX1_needs_20 (by decide) ?_
    refine d1_i CF hK hP1 hj (fun _ h => h) hS1 (As := [.int (nI (1))]) (rest := []) (c1_fail l hj (σ := σ1) (nI 1)) rfl lk_RX1_X1_fail rfl hl.1 ⟨Nat.le_of_ble_eq_true rfl, Nat.le_of_ble_eq_true rfl⟩ ⟨Nat.zero_le _, Nat.zero_le _⟩ (Nat.le_of_ble_eq_true rfl) rfl dX1_needs_21 (fun r_32 σ34 H34 locs hr_33 hP34 hD34 hS34 hz34 hk34 => ?_)
    obtain ⟨rfl, hF_r_32⟩ := hr_33
    exact W.iret CF.1 CF.2.1 hr (fun t9 ht9 hW9 => ⟨⟨_, σ34, rfl, ⟨Rc_th hR hF_r_32, Ro_th hO hF_r_32, Or.inl ⟨by rw [hF_r_32, up_s], by omega⟩⟩, by show va_P G vwCl (w1 ad cA σ34) t9.heap; rw [ht9]; exact hP34⟩, hS34.F ht9⟩) hS34.2.2 dX1_needs_24
