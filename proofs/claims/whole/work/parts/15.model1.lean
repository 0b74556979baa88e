theorem due_iff {b : BS} {u f t a k : Nat} : (canN b u f t a (b 1 (f * 5 + t)) ∧ k ≤ gq b a (b 1 (f * 5 + t))) ↔ okN b u f t a k := by
  have e : gq b a (b 1 (f * 5 + t)) = gv b f t a := rfl
  rw [e]
  unfold canN okN
  rw [e]
  have h0 : b 1 (f * 5 + t) = 0 → gv b f t a = 0 := fun h => by unfold gv pr; rw [h, Nat.mul_zero, Nat.zero_mul, Nat.zero_div]
  generalize b 1 (f * 5 + t) = z at *
  constructor
  · rintro ⟨⟨h1, h2, h3, h4, h5, h6, h7⟩, h8⟩
    exact ⟨h1, h3, h4, h5, h6, h7, h8⟩
  · rintro ⟨h1, h3, h4, h5, h6, h7, h8⟩
    exact ⟨⟨h1, fun hz => by have := h0 hz; omega, h3, h4, h5, h6, h7⟩, h8⟩
theorem done_tk {σ σ1 s1 s2 : RS} {c : BS} {k w : Nat} {y : Int32} (hM : Sm σ σ1) (hO : Ro σ c) (h1 : s1 = up σ1 0 3 y) (h2 : s2 = tkR s1 k w) : s2 0 5 = nI (c 0 5) := by
  rw [h2]
  unfold tkR
  rw [if_neg (by decide), h1, up_i (by decide), hM.2.2.1]
  exact hO.2.1
theorem th_tk {σ σ1 s1 s2 s3 : RS} {k w : Nat} {y z : Int32} (hM : Sm σ σ1) (h1 : s1 = up σ1 0 3 y) (h2 : s2 = tkR s1 k w) (h3 : s3 = up s2 0 5 z) : s3 0 6 = σ 0 6 := by
  rw [h3, up_i (by decide), h2]
  unfold tkR
  rw [if_neg (by decide), h1, up_i (by decide), hM.2.2.2]
theorem lk1_y {σ σ1 s1 s2 s3 : RS} {c : BS} {k : Nat} (hR : Rc σ1 (dorder c k)) (hM : Sm σ σ1) (hO : Ro σ c) (hk : k < c 0 3) (h1 : s1 = up σ1 0 3 (nI (dorder c k 0 3 - 1))) (h2 : s2 = tkR s1 k (dorder c k 0 3 - 1)) (h3 : s3 = up s2 0 5 (nI (c 0 5 + 1))) : Rc s3 (lkA c k) ∧ Ro s3 (lkA c k) := by
  have hO1 : Ro σ1 (dorder c k) := Ro_sm hO hM dc_03 dc_05 (fun j => by show dc _ _ _ _ _ 7 j = _; rw [dc_7])
  obtain ⟨r1, r2⟩ := tk_R hR hO1 (by show k < dc _ _ _ _ _ 0 3; rw [dc_03]; exact hk) h1 h2
  have r3 := Rc_up r1 0 5 (c 0 5 + 1)
  rw [← h3] at r3
  obtain ⟨o1, o2, o3⟩ := r2
  refine ⟨r3, ?_, by rw [h3, up_s]; exact congrArg nI lkA_05.symm, fun j hj => ?_⟩
  · rw [h3, up_i (by omega), o1]
    unfold lkA
    rw [upN_i (by omega)]
  · have hj2 : j < 5 * takeN (dorder c k) k 0 3 := by
      have : lkA c k 0 3 = takeN (dorder c k) k 0 3 := by unfold lkA; rw [upN_i (by omega)]
      omega
    rw [h3, up_k (by omega), o3 j hj2]
    unfold lkA
    rw [upN_k (by omega)]
theorem look1_end {b : BS} {σ : RS} {i : Nat} (hi : i = b 0 3) (j3 : (lkN b i).2 ≤ i) (j4 : (lkN b i).1 0 3 + i = b 0 3 + (lkN b i).2) (j5 : (lkN b i).1 0 5 + (lkN b i).2 = b 0 5 + i) (e1 : Rc σ (lkN b i).1) (e2 : Ro σ (lkN b i).1) {x : Int32} (e3 : σ 0 6 = x) : nI ((lkN b i).1 0 5 - b 0 5) = nI (b 0 3 - lka b 0 3) ∧ Rc σ (lka b) ∧ Ro σ (lka b) ∧ σ 0 6 = x := by
  subst hi
  exact ⟨congrArg nI (by unfold lka; omega), e1, e2, e3⟩

set_option maxHeartbeats 1000000 in
set_option maxRecDepth 100000 in
theorem c1_fail (l : Launch) {G : va_G} {cA : ClassId} {ad : Nat → Nat} {σ : RS} (hj : inj8 ad) (x : Int32) : Met l yX1_fail (ws_ yX1_fail cX1_fail 2 (some .int)) (rmk 1 0 0) (pc1 G cA ad σ [.ref (ad 0), .int (x)]) (va_Qi (fun (r : Int32) (σ' : RS) => r = nI 0 ∧ σ' = up σ 0 6 x) (fun σ' t => va_P G vwCl (w1 ad cA σ') t.heap) (own8 ad)) 0 0 (own8 ad) := by
  refine Met.ofW (cc := cX1_fail) (maxL := 2) (ret := (some .int)) (by decide) rfl ?_
  intro p e s m args below meth c s₁ B hml hv
  obtain ⟨rfl, hP, hK⟩ := hv
  have CF : CallFix p m c cX1_fail 2 s _ AW RX1 := ⟨B.exec, B.bytes, hml, findClass_of_methodNamed B.named, fun w h => atoms_spec (ws := ws_ yX1_fail cX1_fail 2 (some .int)) B.pre w (List.mem_cons_of_mem _ h)⟩
  have hr := B.returns
  have hlocks := B.notSynchronized
  have hl := lv_entry ([.ref (ad 0), .int (x)]) (n := 2) (Nat.le_of_ble_eq_true rfl)
  rw [lg_entry_eq]
  generalize (lg_sl ([.ref (ad 0), .int (x)]) ++ List.replicate (2 - (lg_sl ([.ref (ad 0), .int (x)])).length) Slot.unset).toArray = ls at hl ⊢
  have hl : lv_has ls 2 [(0, .ref (ad 0)), (1, .int (x))] := hl
  have hD : va_D (own8 ad) (w1 ad cA σ) := w1_D hj (fun _ h => h)
  have hS : va_S (own8 ad) s.heap s.heap [] := va_S.rf
  refine lv_aload_n CF.1 CF.2.1 dX1_fail_0 rfl (lv_at hl 0 rfl) ?_
  refine lv_iload_n CF.1 CF.2.1 dX1_fail_1 rfl (lv_at hl 1 rfl) ?_
  refine x1_p_thrown CF hK hP hD hS dX1_fail_2 (fun σ1 H1 locs hσ1 hP1 hD1 hS1 => ?_)
  refine lv_iconst (v := nI 0) CF.1 CF.2.1 dX1_fail_5 (by decide) ?_
  exact W.iret CF.1 CF.2.1 hr (fun t9 ht9 hW9 => ⟨⟨_, σ1, rfl, ⟨rfl, hσ1⟩, by show va_P G vwCl (w1 ad cA σ1) t9.heap; rw [ht9]; exact hP1⟩, hS1.F ht9⟩) hS1.2.2 dX1_fail_6
set_option maxHeartbeats 1000000 in
set_option maxRecDepth 100000 in
theorem c1_thrown (l : Launch) {G : va_G} {cA : ClassId} {ad : Nat → Nat} {σ : RS}  : Met l yX1_thrown (ws_ yX1_thrown cX1_thrown 1 (some .int)) (rmk 1 0 0) (pc1 G cA ad σ [.ref (ad 0)]) (rqi (fun r => r = σ 0 6)) 0 0 (fun _ => False) := by
  refine Met.ofW (cc := cX1_thrown) (maxL := 1) (ret := (some .int)) (by decide) rfl ?_
  intro p e s m args below meth c s₁ B hml hv
  obtain ⟨rfl, hP, hK⟩ := hv
  have CF : CallFix p m c cX1_thrown 1 s _ AW RX1 := ⟨B.exec, B.bytes, hml, findClass_of_methodNamed B.named, fun w h => atoms_spec (ws := ws_ yX1_thrown cX1_thrown 1 (some .int)) B.pre w (List.mem_cons_of_mem _ h)⟩
  have hr := B.returns
  have hlocks := B.notSynchronized
  have hl := lv_entry ([.ref (ad 0)]) (n := 1) (Nat.le_of_ble_eq_true rfl)
  rw [lg_entry_eq]
  generalize (lg_sl ([.ref (ad 0)]) ++ List.replicate (1 - (lg_sl ([.ref (ad 0)])).length) Slot.unset).toArray = ls at hl ⊢
  have hl : lv_has ls 1 [(0, .ref (ad 0))] := hl
  refine lv_aload_n CF.1 CF.2.1 dX1_thrown_0 rfl (lv_at hl 0 rfl) ?_
  refine x1_g_thrown CF hK hP (v := (σ 0 6)) rfl dX1_thrown_1 ?_
  exact W.iret CF.1 CF.2.1 hr (fun t9 ht9 hW9 => ⟨_, rfl, rfl, ht9⟩) (fun q hq => absurd hq List.not_mem_nil) dX1_thrown_4
set_option maxHeartbeats 1000000 in
set_option maxRecDepth 100000 in
theorem c1_all (l : Launch) {G : va_G} {cA : ClassId} {ad : Nat → Nat} {σ : RS} {b : BS} (hI : InvC b) (hR : Rc σ b) {t : Nat} (ht : t < 5) : Met l yX1_all (ws_ yX1_all cX1_all 4 (some .int)) (rmk 2 0 0) (pc1 G cA ad σ [.ref (ad 0), .int (nI (t))]) (rqi (fun r => r = nI (alls b t (b 0 2)))) 0 0 (fun _ => False) := by
  refine Met.ofW (cc := cX1_all) (maxL := 4) (ret := (some .int)) (by decide) rfl ?_
  intro p e s m args below meth c s₁ B hml hv
  obtain ⟨rfl, hP, hK⟩ := hv
  have CF : CallFix p m c cX1_all 4 s _ AW RX1 := ⟨B.exec, B.bytes, hml, findClass_of_methodNamed B.named, fun w h => atoms_spec (ws := ws_ yX1_all cX1_all 4 (some .int)) B.pre w (List.mem_cons_of_mem _ h)⟩
  have hr := B.returns
  have hlocks := B.notSynchronized
  have hl := lv_entry ([.ref (ad 0), .int (nI (t))]) (n := 4) (Nat.le_of_ble_eq_true rfl)
  rw [lg_entry_eq]
  generalize (lg_sl ([.ref (ad 0), .int (nI (t))]) ++ List.replicate (4 - (lg_sl ([.ref (ad 0), .int (nI (t))])).length) Slot.unset).toArray = ls at hl ⊢
  have hl : lv_has ls 4 [(0, .ref (ad 0)), (1, .int (nI (t)))] := hl
  obtain ⟨i_sp, i_cu, i_ra, i_di, i_mo, i_pu⟩ := id hI
  refine lv_iconst (v := nI 0) CF.1 CF.2.1 dX1_all_0 (by decide) ?_
  refine lv_istore_n (lv' := [(2, .int (nI (0))), (0, .ref (ad 0)), (1, .int (nI (t)))]) CF.1 CF.2.1 dX1_all_1 rfl hl (by decide) rfl (fun ls hl => ?_)
  refine lv_iconst (v := nI 0) CF.1 CF.2.1 dX1_all_2 (by decide) ?_
  refine lv_istore_n (lv' := [(3, .int (nI (0))), (2, .int (nI (0))), (0, .ref (ad 0)), (1, .int (nI (t)))]) CF.1 CF.2.1 dX1_all_3 rfl hl (by decide) rfl (fun ls hl => ?_)
  refine loop_ro (fun i => [(0, .ref (ad 0)), (1, .int (nI (t))), (2, .int (nI (alls b t (i)))), (3, .int (nI (i)))]) (b 0 2) (0) (lv_sub hl [2, 3, 1, 0] rfl) (by omega) (fun i_1 h_4 h_3 ih_2 ls hl => ?_)
  have h_al := alls_le hI ht i_1 (by omega)
  refine lv_iload_n CF.1 CF.2.1 dX1_all_4 rfl (lv_at hl 3 rfl) ?_
  refine lv_aload_n CF.1 CF.2.1 dX1_all_5 rfl (lv_at hl 0 rfl) ?_
  refine x1_g_customers CF hK hP (v := (nI (b 0 2))) hR.2.2.1 dX1_all_6 ?_
  refine z_icmp_ge CF (tgt := 27) (nIz (by omega)) (nIz (by omega)) dX1_all_9 (by decide) (fun h_5 => ?_) (fun h_6 => ?_)
  · refine lv_iload_n CF.1 CF.2.1 dX1_all_27 rfl (lv_at hl 2 rfl) ?_
    exact W.iret CF.1 CF.2.1 hr (fun t9 ht9 hW9 => ⟨_, rfl, by rw [show i_1 = b 0 2 by omega], ht9⟩) (fun q hq => absurd hq List.not_mem_nil) dX1_all_28
  · refine lv_iload_n CF.1 CF.2.1 dX1_all_12 rfl (lv_at hl 2 rfl) ?_
    refine lv_aload_n CF.1 CF.2.1 dX1_all_13 rfl (lv_at hl 0 rfl) ?_
    refine lv_iload_n CF.1 CF.2.1 dX1_all_14 rfl (lv_at hl 3 rfl) ?_
    refine lv_iload_n CF.1 CF.2.1 dX1_all_15 rfl (lv_at hl 1 rfl) ?_
    refine c1_i CF hK hP (As := [.int (nI (i_1)), .int (nI (t))]) (rest := [.int (nI (alls b t (i_1)))]) (c1_purse l hI hR (u := i_1) (t := t) (by omega) (by omega)) rfl lk_RX1_X1_purse rfl hl.1 ⟨Nat.le_of_ble_eq_true rfl, Nat.le_of_ble_eq_true rfl⟩ ⟨Nat.zero_le _, Nat.zero_le _⟩ (Nat.le_of_ble_eq_true rfl) rfl dX1_all_16 (fun r_7 hr_8 => ?_)
    subst hr_8
    refine o_iadd CF dX1_all_19 ?_
    refine lv_istore_n (lv' := [(2, .int (nI (alls b t (i_1) + (b 6 (i_1 * 5 + t))))), (0, .ref (ad 0)), (1, .int (nI (t))), (3, .int (nI (i_1)))]) CF.1 CF.2.1 dX1_all_20 rfl hl (by decide) rfl (fun ls hl => ?_)
    refine lv_iinc (v := nI (i_1 + 1)) (lv' := [(3, .int (nI (i_1 + 1))), (2, .int (nI (alls b t (i_1) + (b 6 (i_1 * 5 + t))))), (0, .ref (ad 0)), (1, .int (nI (t)))]) CF.1 CF.2.1 dX1_all_21 hl (k := 3) rfl (by first | exact nI_add _ _ | rfl) (by decide) rfl (fun ls hl => ?_)
    refine lv_goto (tgt := 4) CF.1 CF.2.1 dX1_all_24 (by decide) ?_
    exact ih_2 ls (by omega) (lv_sub hl [2, 3, 1, 0] rfl)
set_option maxHeartbeats 1000000 in
set_option maxRecDepth 100000 in
theorem c1_moneyTold (l : Launch) {G : va_G} {cA : ClassId} {ad : Nat → Nat} {σ : RS} {b : BS} (hI : InvC b) (hR : Rc σ b) {t w : Nat} (ht : t < 5) (hw : w < 5) : Met l yX1_moneyTold (ws_ yX1_moneyTold cX1_moneyTold 3 (some .int)) (rmk 3 0 0) (pc1 G cA ad σ [.ref (ad 0), .int (nI (t)), .int (nI (w))]) (rqi (fun r => r = nI (fmo b t w))) 0 0 (fun _ => False) := by
  refine Met.ofW (cc := cX1_moneyTold) (maxL := 3) (ret := (some .int)) (by decide) rfl ?_
  intro p e s m args below meth c s₁ B hml hv
  obtain ⟨rfl, hP, hK⟩ := hv
  have CF : CallFix p m c cX1_moneyTold 3 s _ AW RX1 := ⟨B.exec, B.bytes, hml, findClass_of_methodNamed B.named, fun w h => atoms_spec (ws := ws_ yX1_moneyTold cX1_moneyTold 3 (some .int)) B.pre w (List.mem_cons_of_mem _ h)⟩
  have hr := B.returns
  have hlocks := B.notSynchronized
  have hl := lv_entry ([.ref (ad 0), .int (nI (t)), .int (nI (w))]) (n := 3) (Nat.le_of_ble_eq_true rfl)
  rw [lg_entry_eq]
  generalize (lg_sl ([.ref (ad 0), .int (nI (t)), .int (nI (w))]) ++ List.replicate (3 - (lg_sl ([.ref (ad 0), .int (nI (t)), .int (nI (w))])).length) Slot.unset).toArray = ls at hl ⊢
  have hl : lv_has ls 3 [(0, .ref (ad 0)), (1, .int (nI (t))), (2, .int (nI (w)))] := hl
  obtain ⟨i_sp, i_cu, i_ra, i_di, i_mo, i_pu⟩ := id hI
  refine lv_iload_n CF.1 CF.2.1 dX1_moneyTold_0 rfl (lv_at hl 2 rfl) ?_
  refine z_if_ne CF (tgt := 13) (nIz (by omega)) dX1_moneyTold_1 (by decide) (fun h_1 => ?_) (fun h_2 => ?_)
  · refine lv_iload_n CF.1 CF.2.1 dX1_moneyTold_13 rfl (lv_at hl 2 rfl) ?_
    refine lv_iconst (v := nI 1) CF.1 CF.2.1 dX1_moneyTold_14 (by decide) ?_
    refine z_icmp_ne CF (tgt := 27) (nIz (by omega)) (nIz (by omega)) dX1_moneyTold_15 (by decide) (fun h_3 => ?_) (fun h_4 => ?_)
    · refine lv_iload_n CF.1 CF.2.1 dX1_moneyTold_27 rfl (lv_at hl 2 rfl) ?_
      refine lv_iconst (v := nI 2) CF.1 CF.2.1 dX1_moneyTold_28 (by decide) ?_
      refine z_icmp_ne CF (tgt := 41) (nIz (by omega)) (nIz (by omega)) dX1_moneyTold_29 (by decide) (fun h_5 => ?_) (fun h_6 => ?_)
      · refine lv_iload_n CF.1 CF.2.1 dX1_moneyTold_41 rfl (lv_at hl 2 rfl) ?_
        refine lv_iconst (v := nI 3) CF.1 CF.2.1 dX1_moneyTold_42 (by decide) ?_
        refine z_icmp_ne CF (tgt := 55) (nIz (by omega)) (nIz (by omega)) dX1_moneyTold_43 (by decide) (fun h_7 => ?_) (fun h_8 => ?_)
        · refine lv_aload_n CF.1 CF.2.1 dX1_moneyTold_55 rfl (lv_at hl 0 rfl) ?_
          refine lv_iload_n CF.1 CF.2.1 dX1_moneyTold_56 rfl (lv_at hl 1 rfl) ?_
          refine c1_i CF hK hP (As := [.int (nI (t))]) (rest := []) (c1_all l hI hR (t := t) (by omega)) rfl lk_RX1_X1_all rfl hl.1 ⟨Nat.le_of_ble_eq_true rfl, Nat.le_of_ble_eq_true rfl⟩ ⟨Nat.zero_le _, Nat.zero_le _⟩ (Nat.le_of_ble_eq_true rfl) rfl dX1_moneyTold_57 (fun r_9 hr_10 => ?_)
          subst hr_10
          exact W.iret CF.1 CF.2.1 hr (fun t9 ht9 hW9 => ⟨_, rfl, by unfold fmo; repeat (first | rw [if_pos (by omega)] | rw [if_neg (by omega)]), ht9⟩) (fun q hq => absurd hq List.not_mem_nil) dX1_moneyTold_60
        · refine lv_aload_n CF.1 CF.2.1 dX1_moneyTold_46 rfl (lv_at hl 0 rfl) ?_
          refine x1_g_given CF hK hP dX1_moneyTold_47 ?_
          refine lv_iload_n CF.1 CF.2.1 dX1_moneyTold_50 rfl (lv_at hl 1 rfl) ?_
          refine x1_ald5 CF hK hP (i := t) (by omega) (v := (nI (b 5 (t)))) (hR.a5 (by omega)) dX1_moneyTold_51 ?_
          refine lv_goto (tgt := 60) CF.1 CF.2.1 dX1_moneyTold_52 (by decide) ?_
          exact W.iret CF.1 CF.2.1 hr (fun t9 ht9 hW9 => ⟨_, rfl, by unfold fmo; repeat (first | rw [if_pos (by omega)] | rw [if_neg (by omega)]), ht9⟩) (fun q hq => absurd hq List.not_mem_nil) dX1_moneyTold_60
      · refine lv_aload_n CF.1 CF.2.1 dX1_moneyTold_32 rfl (lv_at hl 0 rfl) ?_
        refine x1_g_limits CF hK hP dX1_moneyTold_33 ?_
        refine lv_iload_n CF.1 CF.2.1 dX1_moneyTold_36 rfl (lv_at hl 1 rfl) ?_
        refine x1_ald4 CF hK hP (i := t) (by omega) (v := (nI (b 4 (t)))) (hR.a4 (by omega)) dX1_moneyTold_37 ?_
        refine lv_goto (tgt := 60) CF.1 CF.2.1 dX1_moneyTold_38 (by decide) ?_
        exact W.iret CF.1 CF.2.1 hr (fun t9 ht9 hW9 => ⟨_, rfl, by unfold fmo; repeat (first | rw [if_pos (by omega)] | rw [if_neg (by omega)]), ht9⟩) (fun q hq => absurd hq List.not_mem_nil) dX1_moneyTold_60
    · refine lv_aload_n CF.1 CF.2.1 dX1_moneyTold_18 rfl (lv_at hl 0 rfl) ?_
      refine x1_g_dust CF hK hP dX1_moneyTold_19 ?_
      refine lv_iload_n CF.1 CF.2.1 dX1_moneyTold_22 rfl (lv_at hl 1 rfl) ?_
      refine x1_ald3 CF hK hP (i := t) (by omega) (v := (nI (b 3 (t)))) (hR.a3 (by omega)) dX1_moneyTold_23 ?_
      refine lv_goto (tgt := 60) CF.1 CF.2.1 dX1_moneyTold_24 (by decide) ?_
      exact W.iret CF.1 CF.2.1 hr (fun t9 ht9 hW9 => ⟨_, rfl, by unfold fmo; repeat (first | rw [if_pos (by omega)] | rw [if_neg (by omega)]), ht9⟩) (fun q hq => absurd hq List.not_mem_nil) dX1_moneyTold_60
  · refine lv_aload_n CF.1 CF.2.1 dX1_moneyTold_4 rfl (lv_at hl 0 rfl) ?_
    refine x1_g_stocks CF hK hP dX1_moneyTold_5 ?_
    refine lv_iload_n CF.1 CF.2.1 dX1_moneyTold_8 rfl (lv_at hl 1 rfl) ?_
    refine x1_ald2 CF hK hP (i := t) (by omega) (v := (nI (b 2 (t)))) (hR.a2 (by omega)) dX1_moneyTold_9 ?_
    refine lv_goto (tgt := 60) CF.1 CF.2.1 dX1_moneyTold_10 (by decide) ?_
    exact W.iret CF.1 CF.2.1 hr (fun t9 ht9 hW9 => ⟨_, rfl, by unfold fmo; repeat (first | rw [if_pos (by omega)] | rw [if_neg (by omega)]), ht9⟩) (fun q hq => absurd hq List.not_mem_nil) dX1_moneyTold_60
set_option maxHeartbeats 1000000 in
set_option maxRecDepth 100000 in
theorem c1_counted (l : Launch) {G : va_G} {cA : ClassId} {ad : Nat → Nat} {σ : RS} {b : BS} (hI : InvC b) (hR : Rc σ b) (hO : Ro σ b) {w : Nat} (hw : w < 7) : Met l yX1_counted (ws_ yX1_counted cX1_counted 7 (some .int)) (rmk 2 0 0) (pc1 G cA ad σ [.ref (ad 0), .int (nI (w))]) (rqi (fun r => r = nI (fbo b w))) 0 0 (fun _ => False) := by
  refine Met.ofW (cc := cX1_counted) (maxL := 7) (ret := (some .int)) (by decide) rfl ?_
  intro p e s m args below meth c s₁ B hml hv
  obtain ⟨rfl, hP, hK⟩ := hv
  have CF : CallFix p m c cX1_counted 7 s _ AW RX1 := ⟨B.exec, B.bytes, hml, findClass_of_methodNamed B.named, fun w h => atoms_spec (ws := ws_ yX1_counted cX1_counted 7 (some .int)) B.pre w (List.mem_cons_of_mem _ h)⟩
  have hr := B.returns
  have hlocks := B.notSynchronized
  have hl := lv_entry ([.ref (ad 0), .int (nI (w))]) (n := 7) (Nat.le_of_ble_eq_true rfl)
  rw [lg_entry_eq]
  generalize (lg_sl ([.ref (ad 0), .int (nI (w))]) ++ List.replicate (7 - (lg_sl ([.ref (ad 0), .int (nI (w))])).length) Slot.unset).toArray = ls at hl ⊢
  have hl : lv_has ls 7 [(0, .ref (ad 0)), (1, .int (nI (w)))] := hl
  refine lv_iload_n CF.1 CF.2.1 dX1_counted_0 rfl (lv_at hl 1 rfl) ?_
  rcases (show w = 0 ∨ w = 1 ∨ w = 2 ∨ w = 3 ∨ w = 4 ∨ w = 5 ∨ 6 ≤ w by omega) with rfl | rfl | rfl | rfl | rfl | rfl | h_1
  · refine lv_tableIn (off := 39) (tgt := 40) CF.1 CF.2.1 dX1_counted_1 (by decide) (by decide) rfl (by decide) ?_
    refine lv_aload_n CF.1 CF.2.1 dX1_counted_40 rfl (lv_at hl 0 rfl) ?_
    refine x1_g_day CF hK hP (v := (nI (b 0 0))) hR.1 dX1_counted_41 ?_
    exact W.iret CF.1 CF.2.1 hr (fun t9 ht9 hW9 => ⟨_, rfl, by first | rfl | (rw [show w = 6 by omega]; rfl) | (rw [show w = 25 by omega]; rfl), ht9⟩) (fun q hq => absurd hq List.not_mem_nil) dX1_counted_44
  · refine lv_tableIn (off := 44) (tgt := 45) CF.1 CF.2.1 dX1_counted_1 (by decide) (by decide) rfl (by decide) ?_
    refine lv_aload_n CF.1 CF.2.1 dX1_counted_45 rfl (lv_at hl 0 rfl) ?_
    refine x1_g_spread CF hK hP (v := (nI (b 0 1))) hR.2.1 dX1_counted_46 ?_
    exact W.iret CF.1 CF.2.1 hr (fun t9 ht9 hW9 => ⟨_, rfl, by first | rfl | (rw [show w = 6 by omega]; rfl) | (rw [show w = 25 by omega]; rfl), ht9⟩) (fun q hq => absurd hq List.not_mem_nil) dX1_counted_49
  · refine lv_tableIn (off := 49) (tgt := 50) CF.1 CF.2.1 dX1_counted_1 (by decide) (by decide) rfl (by decide) ?_
    refine lv_aload_n CF.1 CF.2.1 dX1_counted_50 rfl (lv_at hl 0 rfl) ?_
    refine x1_g_customers CF hK hP (v := (nI (b 0 2))) hR.2.2.1 dX1_counted_51 ?_
    exact W.iret CF.1 CF.2.1 hr (fun t9 ht9 hW9 => ⟨_, rfl, by first | rfl | (rw [show w = 6 by omega]; rfl) | (rw [show w = 25 by omega]; rfl), ht9⟩) (fun q hq => absurd hq List.not_mem_nil) dX1_counted_54
  · refine lv_tableIn (off := 54) (tgt := 55) CF.1 CF.2.1 dX1_counted_1 (by decide) (by decide) rfl (by decide) ?_
    refine lv_aload_n CF.1 CF.2.1 dX1_counted_55 rfl (lv_at hl 0 rfl) ?_
    refine x1_g_waiting CF hK hP (v := (nI (b 0 3))) hO.1 dX1_counted_56 ?_
    exact W.iret CF.1 CF.2.1 hr (fun t9 ht9 hW9 => ⟨_, rfl, by first | rfl | (rw [show w = 6 by omega]; rfl) | (rw [show w = 25 by omega]; rfl), ht9⟩) (fun q hq => absurd hq List.not_mem_nil) dX1_counted_59
  · refine lv_tableIn (off := 59) (tgt := 60) CF.1 CF.2.1 dX1_counted_1 (by decide) (by decide) rfl (by decide) ?_
    refine lv_iconst (v := nI 0) CF.1 CF.2.1 dX1_counted_60 (by decide) ?_
    refine lv_istore_n (lv' := [(2, .int (nI (0))), (0, .ref (ad 0)), (1, .int (nI (4)))]) CF.1 CF.2.1 dX1_counted_61 rfl hl (by decide) rfl (fun ls hl => ?_)
    refine lv_aload_n CF.1 CF.2.1 dX1_counted_62 rfl (lv_at hl 1 rfl) ?_
    refine x1_g_rates CF hK hP dX1_counted_63 ?_
    refine lv_astore_n (lv' := [(3, .ref (ad 1)), (2, .int (nI (0))), (0, .ref (ad 0)), (1, .int (nI (4)))]) CF.1 CF.2.1 dX1_counted_66 rfl hl (by decide) rfl (fun ls hl => ?_)
    refine lv_aload_n CF.1 CF.2.1 dX1_counted_67 rfl (lv_at hl 0 rfl) ?_
    refine x1_alen1 CF hK hP dX1_counted_68 ?_
    refine lv_istore (lv' := [(4, .int (nI (25))), (3, .ref (ad 1)), (2, .int (nI (0))), (0, .ref (ad 0)), (1, .int (nI (4)))]) CF.1 CF.2.1 dX1_counted_69 hl (by decide) rfl (fun ls hl => ?_)
    refine lv_iconst (v := nI 0) CF.1 CF.2.1 dX1_counted_71 (by decide) ?_
    refine lv_istore (lv' := [(5, .int (nI (0))), (4, .int (nI (25))), (3, .ref (ad 1)), (2, .int (nI (0))), (0, .ref (ad 0)), (1, .int (nI (4)))]) CF.1 CF.2.1 dX1_counted_72 hl (by decide) rfl (fun ls hl => ?_)
    refine loop_ro (fun i => [(0, .ref (ad 0)), (2, .int (nI (nzr b (i)))), (3, .ref (ad 1)), (4, .int (nI (25))), (5, .int (nI (i)))]) (25) (0) (lv_sub hl [4, 3, 2, 1, 0] rfl) (by omega) (fun i_2 h_5 h_4 ih_3 ls hl => ?_)
    have h_nz := nzr_le (b := b) i_2
    have h_ra := hI.2.2.1 i_2
    refine lv_iload CF.1 CF.2.1 dX1_counted_74 (lv_at hl 4 rfl) ?_
    refine lv_iload CF.1 CF.2.1 dX1_counted_76 (lv_at hl 3 rfl) ?_
    refine z_icmp_ge CF (tgt := 106) (nIz (by omega)) (nIz (by omega)) dX1_counted_78 (by decide) (fun h_6 => ?_) (fun h_7 => ?_)
    · refine lv_iload_n CF.1 CF.2.1 dX1_counted_106 rfl (lv_at hl 1 rfl) ?_
      exact W.iret CF.1 CF.2.1 hr (fun t9 ht9 hW9 => ⟨_, rfl, by first | rfl | (rw [show w = 6 by omega]; rfl) | (rw [show i_2 = 25 by omega]; rfl), ht9⟩) (fun q hq => absurd hq List.not_mem_nil) dX1_counted_107
    · refine lv_aload_n CF.1 CF.2.1 dX1_counted_81 rfl (lv_at hl 2 rfl) ?_
      refine lv_iload CF.1 CF.2.1 dX1_counted_82 (lv_at hl 4 rfl) ?_
      refine x1_ald1 CF hK hP (i := i_2) (by omega) (v := (nI (b 1 (i_2)))) (hR.a1 (by omega)) dX1_counted_84 ?_
      refine lv_istore (lv' := [(6, .int (nI (b 1 (i_2)))), (0, .ref (ad 0)), (2, .int (nI (nzr b (i_2)))), (3, .ref (ad 1)), (4, .int (nI (25))), (5, .int (nI (i_2)))]) CF.1 CF.2.1 dX1_counted_85 hl (by decide) rfl (fun ls hl => ?_)
      refine lv_iload_n CF.1 CF.2.1 dX1_counted_87 rfl (lv_at hl 2 rfl) ?_
      refine lv_iload CF.1 CF.2.1 dX1_counted_88 (lv_at hl 0 rfl) ?_
      refine z_if_ne CF (tgt := 97) (nIz (by omega)) dX1_counted_90 (by decide) (fun h_8 => ?_) (fun h_9 => ?_)
      · refine lv_iconst (v := nI 1) CF.1 CF.2.1 dX1_counted_97 (by decide) ?_
        refine o_iadd CF dX1_counted_98 ?_
        refine lv_istore_n (lv' := [(2, .int (nI (nzr b (i_2) + 1))), (6, .int (nI (b 1 (i_2)))), (0, .ref (ad 0)), (3, .ref (ad 1)), (4, .int (nI (25))), (5, .int (nI (i_2)))]) CF.1 CF.2.1 dX1_counted_99 rfl hl (by decide) rfl (fun ls hl => ?_)
        refine lv_iinc (v := nI (i_2 + 1)) (lv' := [(5, .int (nI (i_2 + 1))), (2, .int (nI (nzr b (i_2) + 1))), (6, .int (nI (b 1 (i_2)))), (0, .ref (ad 0)), (3, .ref (ad 1)), (4, .int (nI (25)))]) CF.1 CF.2.1 dX1_counted_100 hl (k := 5) rfl (by first | exact nI_add _ _ | rfl) (by decide) rfl (fun ls hl => ?_)
        refine lv_goto (tgt := 74) CF.1 CF.2.1 dX1_counted_103 (by decide) ?_
        exact ih_3 ls (by omega) (lv_sub hl [3, 1, 4, 5, 0] (by first | (rw [nzr_s0 (by omega)]; rfl) | (rw [nzr_s1 (by omega)]; rfl)))
      · refine lv_iconst (v := nI 0) CF.1 CF.2.1 dX1_counted_93 (by decide) ?_
        refine lv_goto (tgt := 98) CF.1 CF.2.1 dX1_counted_94 (by decide) ?_
        refine o_iadd CF dX1_counted_98 ?_
        refine lv_istore_n (lv' := [(2, .int (nI (nzr b (i_2) + 0))), (6, .int (nI (b 1 (i_2)))), (0, .ref (ad 0)), (3, .ref (ad 1)), (4, .int (nI (25))), (5, .int (nI (i_2)))]) CF.1 CF.2.1 dX1_counted_99 rfl hl (by decide) rfl (fun ls hl => ?_)
        refine lv_iinc (v := nI (i_2 + 1)) (lv' := [(5, .int (nI (i_2 + 1))), (2, .int (nI (nzr b (i_2) + 0))), (6, .int (nI (b 1 (i_2)))), (0, .ref (ad 0)), (3, .ref (ad 1)), (4, .int (nI (25)))]) CF.1 CF.2.1 dX1_counted_100 hl (k := 5) rfl (by first | exact nI_add _ _ | rfl) (by decide) rfl (fun ls hl => ?_)
        refine lv_goto (tgt := 74) CF.1 CF.2.1 dX1_counted_103 (by decide) ?_
        exact ih_3 ls (by omega) (lv_sub hl [3, 1, 4, 5, 0] (by first | (rw [nzr_s0 (by omega)]; rfl) | (rw [nzr_s1 (by omega)]; rfl)))
  · refine lv_tableIn (off := 107) (tgt := 108) CF.1 CF.2.1 dX1_counted_1 (by decide) (by decide) rfl (by decide) ?_
    refine lv_aload_n CF.1 CF.2.1 dX1_counted_108 rfl (lv_at hl 0 rfl) ?_
    refine x1_g_changes CF hK hP (v := (nI (b 0 4))) hR.2.2.2.1 dX1_counted_109 ?_
    exact W.iret CF.1 CF.2.1 hr (fun t9 ht9 hW9 => ⟨_, rfl, by first | rfl | (rw [show w = 6 by omega]; rfl) | (rw [show w = 25 by omega]; rfl), ht9⟩) (fun q hq => absurd hq List.not_mem_nil) dX1_counted_112
  · refine lv_tableOut (tgt := 113) CF.1 CF.2.1 dX1_counted_1 (by right; rw [nIz (by omega)]; omega) (by decide) ?_
    refine lv_aload_n CF.1 CF.2.1 dX1_counted_113 rfl (lv_at hl 0 rfl) ?_
    refine x1_g_done CF hK hP (v := (nI (b 0 5))) hO.2.1 dX1_counted_114 ?_
    exact W.iret CF.1 CF.2.1 hr (fun t9 ht9 hW9 => ⟨_, rfl, by first | rfl | (rw [show w = 6 by omega]; rfl) | (rw [show w = 25 by omega]; rfl), ht9⟩) (fun q hq => absurd hq List.not_mem_nil) dX1_counted_117
set_option maxHeartbeats 1000000 in
set_option maxRecDepth 100000 in
theorem c1_isDue (l : Launch) {G : va_G} {cA : ClassId} {ad : Nat → Nat} {σ : RS} {b : BS} (hI : InvC b) (hR : Rc σ b) {q u f t a k x : Nat} (hq : q < 10) (hq0 : σ 7 (q * 5 + 0) = nI u) (hq1 : σ 7 (q * 5 + 1) = nI f) (hq2 : σ 7 (q * 5 + 2) = nI t) (hq3 : σ 7 (q * 5 + 3) = nI a) (hq4 : σ 7 (q * 5 + 4) = nI k) (hu : u < b 0 2) (hf : f < 5) (ht : t < 5) (ha : a < 2147483648) (hk : k < 2147483648) (hx : x ≤ 9999) : Met l yX1_isDue (ws_ yX1_isDue cX1_isDue 3 (some .boolean)) (rmk 4 0 0) (pc1 G cA ad σ [.ref (ad 0), .int (nI (q)), .int (nI (x))]) (rqi (fun r => (r = nI 1 ∧ (canN b u f t a x ∧ k ≤ gq b a x)) ∨ (r = nI 0 ∧ ¬ (canN b u f t a x ∧ k ≤ gq b a x)))) 0 0 (fun _ => False) := by
  refine Met.ofW (cc := cX1_isDue) (maxL := 3) (ret := (some .boolean)) (by decide) rfl ?_
  intro p e s m args below meth c s₁ B hml hv
  obtain ⟨rfl, hP, hK⟩ := hv
  have CF : CallFix p m c cX1_isDue 3 s _ AW RX1 := ⟨B.exec, B.bytes, hml, findClass_of_methodNamed B.named, fun w h => atoms_spec (ws := ws_ yX1_isDue cX1_isDue 3 (some .boolean)) B.pre w (List.mem_cons_of_mem _ h)⟩
  have hr := B.returns
  have hlocks := B.notSynchronized
  have hl := lv_entry ([.ref (ad 0), .int (nI (q)), .int (nI (x))]) (n := 3) (Nat.le_of_ble_eq_true rfl)
  rw [lg_entry_eq]
  generalize (lg_sl ([.ref (ad 0), .int (nI (q)), .int (nI (x))]) ++ List.replicate (3 - (lg_sl ([.ref (ad 0), .int (nI (q)), .int (nI (x))])).length) Slot.unset).toArray = ls at hl ⊢
  have hl : lv_has ls 3 [(0, .ref (ad 0)), (1, .int (nI (q))), (2, .int (nI (x)))] := hl
  obtain ⟨i_sp, i_cu, i_ra, i_di, i_mo, i_pu⟩ := id hI
  have h_gb := gq_le (b := b) (a := a) (x := x) (A := 2147483647) (X := 9999) (by omega) hx
  have h_gq : gq b a x = a * x * (100 - b 0 1) / 10000 := rfl
  refine lv_aload_n CF.1 CF.2.1 dX1_isDue_0 rfl (lv_at hl 0 rfl) ?_
  refine lv_aload_n CF.1 CF.2.1 dX1_isDue_1 rfl (lv_at hl 0 rfl) ?_
  refine lv_iload_n CF.1 CF.2.1 dX1_isDue_2 rfl (lv_at hl 1 rfl) ?_
  refine lv_iconst (v := nI 0) CF.1 CF.2.1 dX1_isDue_3 (by decide) ?_
  refine c1_i CF hK hP (As := [.int (nI (q)), .int (nI (0))]) (rest := [.ref (ad 0)]) (c1_or l (σ := σ) (u := q) (t := 0) (by omega) (by omega)) rfl lk_RX1_X1_or rfl hl.1 ⟨Nat.le_of_ble_eq_true rfl, Nat.le_of_ble_eq_true rfl⟩ ⟨Nat.zero_le _, Nat.zero_le _⟩ (Nat.le_of_ble_eq_true rfl) rfl dX1_isDue_4 (fun r_1 hr_2 => ?_)
  subst hr_2
  refine tpi hq0 ?_
  refine lv_aload_n CF.1 CF.2.1 dX1_isDue_7 rfl (lv_at hl 0 rfl) ?_
  refine lv_iload_n CF.1 CF.2.1 dX1_isDue_8 rfl (lv_at hl 1 rfl) ?_
  refine lv_iconst (v := nI 1) CF.1 CF.2.1 dX1_isDue_9 (by decide) ?_
  refine c1_i CF hK hP (As := [.int (nI (q)), .int (nI (1))]) (rest := [.int (nI (u)), .ref (ad 0)]) (c1_or l (σ := σ) (u := q) (t := 1) (by omega) (by omega)) rfl lk_RX1_X1_or rfl hl.1 ⟨Nat.le_of_ble_eq_true rfl, Nat.le_of_ble_eq_true rfl⟩ ⟨Nat.zero_le _, Nat.zero_le _⟩ (Nat.le_of_ble_eq_true rfl) rfl dX1_isDue_10 (fun r_3 hr_4 => ?_)
  subst hr_4
  refine tpi hq1 ?_
  refine lv_aload_n CF.1 CF.2.1 dX1_isDue_13 rfl (lv_at hl 0 rfl) ?_
  refine lv_iload_n CF.1 CF.2.1 dX1_isDue_14 rfl (lv_at hl 1 rfl) ?_
  refine lv_iconst (v := nI 2) CF.1 CF.2.1 dX1_isDue_15 (by decide) ?_
  refine c1_i CF hK hP (As := [.int (nI (q)), .int (nI (2))]) (rest := [.int (nI (f)), .int (nI (u)), .ref (ad 0)]) (c1_or l (σ := σ) (u := q) (t := 2) (by omega) (by omega)) rfl lk_RX1_X1_or rfl hl.1 ⟨Nat.le_of_ble_eq_true rfl, Nat.le_of_ble_eq_true rfl⟩ ⟨Nat.zero_le _, Nat.zero_le _⟩ (Nat.le_of_ble_eq_true rfl) rfl dX1_isDue_16 (fun r_5 hr_6 => ?_)
  subst hr_6
  refine tpi hq2 ?_
  refine lv_aload_n CF.1 CF.2.1 dX1_isDue_19 rfl (lv_at hl 0 rfl) ?_
  refine lv_iload_n CF.1 CF.2.1 dX1_isDue_20 rfl (lv_at hl 1 rfl) ?_
  refine lv_iconst (v := nI 3) CF.1 CF.2.1 dX1_isDue_21 (by decide) ?_
  refine c1_i CF hK hP (As := [.int (nI (q)), .int (nI (3))]) (rest := [.int (nI (t)), .int (nI (f)), .int (nI (u)), .ref (ad 0)]) (c1_or l (σ := σ) (u := q) (t := 3) (by omega) (by omega)) rfl lk_RX1_X1_or rfl hl.1 ⟨Nat.le_of_ble_eq_true rfl, Nat.le_of_ble_eq_true rfl⟩ ⟨Nat.zero_le _, Nat.zero_le _⟩ (Nat.le_of_ble_eq_true rfl) rfl dX1_isDue_22 (fun r_7 hr_8 => ?_)
  subst hr_8
  refine tpi hq3 ?_
  refine lv_iload_n CF.1 CF.2.1 dX1_isDue_25 rfl (lv_at hl 2 rfl) ?_
  refine c1_i CF hK hP (As := [.int (nI (u)), .int (nI (f)), .int (nI (t)), .int (nI (a)), .int (nI (x))]) (rest := []) (c1_can l hI hR (u := u) (f := f) (t := t) (a := a) (x := x) (by omega) (by omega) (by omega) (by omega) (by omega)) rfl lk_RX1_X1_can rfl hl.1 ⟨Nat.le_of_ble_eq_true rfl, Nat.le_of_ble_eq_true rfl⟩ ⟨Nat.zero_le _, Nat.zero_le _⟩ (Nat.le_of_ble_eq_true rfl) rfl dX1_isDue_26 (fun r_9 hr_10 => ?_)
  rcases hr_10 with ⟨rfl, hr_10a⟩ | ⟨rfl, hr_10n⟩
  · refine z_if_eq CF (tgt := 59) (nIz (by omega)) dX1_isDue_29 (by decide) (fun h => absurd h (by decide)) (fun _ => ?_)
    refine lv_aload_n CF.1 CF.2.1 dX1_isDue_32 rfl (lv_at hl 0 rfl) ?_
    refine lv_aload_n CF.1 CF.2.1 dX1_isDue_33 rfl (lv_at hl 0 rfl) ?_
    refine lv_iload_n CF.1 CF.2.1 dX1_isDue_34 rfl (lv_at hl 1 rfl) ?_
    refine lv_iconst (v := nI 3) CF.1 CF.2.1 dX1_isDue_35 (by decide) ?_
    refine c1_i CF hK hP (As := [.int (nI (q)), .int (nI (3))]) (rest := [.ref (ad 0)]) (c1_or l (σ := σ) (u := q) (t := 3) (by omega) (by omega)) rfl lk_RX1_X1_or rfl hl.1 ⟨Nat.le_of_ble_eq_true rfl, Nat.le_of_ble_eq_true rfl⟩ ⟨Nat.zero_le _, Nat.zero_le _⟩ (Nat.le_of_ble_eq_true rfl) rfl dX1_isDue_36 (fun r_13 hr_14 => ?_)
    subst hr_14
    refine tpi hq3 ?_
    refine o_i2l CF (by omega) dX1_isDue_39 ?_
    refine lv_iload_n CF.1 CF.2.1 dX1_isDue_40 rfl (lv_at hl 2 rfl) ?_
    refine c1_l CF hK hP (As := [.long (lN (a)), .int (nI (x))]) (rest := []) (c1_gives l hI hR (a := a) (x := x) (by omega) (by omega)) rfl lk_RX1_X1_gives rfl hl.1 ⟨Nat.le_of_ble_eq_true rfl, Nat.le_of_ble_eq_true rfl⟩ ⟨Nat.zero_le _, Nat.zero_le _⟩ (Nat.le_of_ble_eq_true rfl) rfl dX1_isDue_41 (fun r_15 hr_16 => ?_)
    subst hr_16
    refine lv_aload_n CF.1 CF.2.1 dX1_isDue_44 rfl (lv_at hl 0 rfl) ?_
    refine lv_iload_n CF.1 CF.2.1 dX1_isDue_45 rfl (lv_at hl 1 rfl) ?_
    refine lv_iconst (v := nI 4) CF.1 CF.2.1 dX1_isDue_46 (by decide) ?_
    refine c1_i CF hK hP (As := [.int (nI (q)), .int (nI (4))]) (rest := [.long (lN (gq b (a) (x)))]) (c1_or l (σ := σ) (u := q) (t := 4) (by omega) (by omega)) rfl lk_RX1_X1_or rfl hl.1 ⟨Nat.le_of_ble_eq_true rfl, Nat.le_of_ble_eq_true rfl⟩ ⟨Nat.zero_le _, Nat.zero_le _⟩ (Nat.le_of_ble_eq_true rfl) rfl dX1_isDue_47 (fun r_17 hr_18 => ?_)
    subst hr_18
    refine tpi hq4 ?_
    refine o_i2l CF (by omega) dX1_isDue_50 ?_
    refine z_lcmp_lt CF (tgt := 59) (lNz (by omega)) (lNz (by omega)) dX1_isDue_51 dX1_isDue_52 (by decide) (fun h_19 => ?_) (fun h_20 => ?_)
    · refine lv_iconst (v := nI 0) CF.1 CF.2.1 dX1_isDue_59 (by decide) ?_
      exact W.zret CF.1 CF.2.1 hr rfl (fun t9 ht9 hW9 => ⟨_, rfl, Or.inr ⟨rfl, fun hz => by have := hz.2; omega⟩, ht9⟩) (fun q hq => absurd hq List.not_mem_nil) dX1_isDue_60
    · refine lv_iconst (v := nI 1) CF.1 CF.2.1 dX1_isDue_55 (by decide) ?_
      refine lv_goto (tgt := 60) CF.1 CF.2.1 dX1_isDue_56 (by decide) ?_
      exact W.zret CF.1 CF.2.1 hr rfl (fun t9 ht9 hW9 => ⟨_, rfl, Or.inl ⟨rfl, hr_10a, by omega⟩, ht9⟩) (fun q hq => absurd hq List.not_mem_nil) dX1_isDue_60
  · refine z_if_eq CF (tgt := 59) (nIz (by omega)) dX1_isDue_29 (by decide) (fun _ => ?_) (fun h => absurd h (by decide))
    refine lv_iconst (v := nI 0) CF.1 CF.2.1 dX1_isDue_59 (by decide) ?_
    exact W.zret CF.1 CF.2.1 hr rfl (fun t9 ht9 hW9 => ⟨_, rfl, Or.inr ⟨rfl, fun hz => hr_10n hz.1⟩, ht9⟩) (fun q hq => absurd hq List.not_mem_nil) dX1_isDue_60
set_option maxHeartbeats 1000000 in
set_option maxRecDepth 100000 in
theorem c1_lookAt (l : Launch) {G : va_G} {cA : ClassId} {ad : Nat → Nat} {σ : RS} (hj : inj8 ad) {b : BS} (hI : InvC b) (hR : Rc σ b) (hO : Ro σ b) (hOi : InvO b) : Met l yX1_lookAt (ws_ yX1_lookAt cX1_lookAt 3 (some .int)) (rmk 5 0 0) (pc1 G cA ad σ [.ref (ad 0)]) (va_Qi (fun (r : Int32) (σ' : RS) => r = nI (b 0 3 - lka b 0 3) ∧ Rc σ' (lka b) ∧ Ro σ' (lka b) ∧ σ' 0 6 = σ 0 6) (fun σ' t => va_P G vwCl (w1 ad cA σ') t.heap) (own8 ad)) 0 0 (own8 ad) := by
  refine Met.ofW (cc := cX1_lookAt) (maxL := 3) (ret := (some .int)) (by decide) rfl ?_
  intro p e s m args below meth c s₁ B hml hv
  obtain ⟨rfl, hP, hK⟩ := hv
  have CF : CallFix p m c cX1_lookAt 3 s _ AW RX1 := ⟨B.exec, B.bytes, hml, findClass_of_methodNamed B.named, fun w h => atoms_spec (ws := ws_ yX1_lookAt cX1_lookAt 3 (some .int)) B.pre w (List.mem_cons_of_mem _ h)⟩
  have hr := B.returns
  have hlocks := B.notSynchronized
  have hl := lv_entry ([.ref (ad 0)]) (n := 3) (Nat.le_of_ble_eq_true rfl)
  rw [lg_entry_eq]
  generalize (lg_sl ([.ref (ad 0)]) ++ List.replicate (3 - (lg_sl ([.ref (ad 0)])).length) Slot.unset).toArray = ls at hl ⊢
  have hl : lv_has ls 3 [(0, .ref (ad 0))] := hl
  have hD : va_D (own8 ad) (w1 ad cA σ) := w1_D hj (fun _ h => h)
  have hS : va_S (own8 ad) s.heap s.heap [] := va_S.rf
  have hw10 := hOi.1
  refine lv_aload_n CF.1 CF.2.1 dX1_lookAt_0 rfl (lv_at hl 0 rfl) ?_
  refine x1_g_done CF hK hP (v := (nI (b 0 5))) hO.2.1 dX1_lookAt_1 ?_
  refine lv_istore_n (lv' := [(1, .int (nI (b 0 5))), (0, .ref (ad 0))]) CF.1 CF.2.1 dX1_lookAt_4 rfl hl (by decide) rfl (fun ls hl => ?_)
  refine lv_iconst (v := nI 0) CF.1 CF.2.1 dX1_lookAt_5 (by decide) ?_
  refine lv_istore_n (lv' := [(2, .int (nI (0))), (1, .int (nI (b 0 5))), (0, .ref (ad 0))]) CF.1 CF.2.1 dX1_lookAt_6 rfl hl (by decide) rfl (fun ls hl => ?_)
  refine loop_rw1 (α := Unit) (fun i x => [(0, .ref (ad 0)), (1, .int (nI (b 0 5))), (2, .int (nI ((lkN b i).2)))]) (fun i _ σ' => Rc σ' (lkN b i).1 ∧ Ro σ' (lkN b i).1 ∧ σ' 0 6 = σ 0 6) (b 0 3) (0) (()) ⟨hR, hO, rfl⟩ hP hS (lv_sub hl [2, 1, 0] rfl) (by omega) (fun i_1 x_1 σ1 H1 locs hj_1 hi_1 hx_1 hP1 hS1 ih_1 ls hl => ?_)
  have hD1 : va_D (own8 ad) (w1 ad cA σ1) := w1_D hj (fun _ h => h)
  obtain ⟨j1, j2, j3, j4, j5, j6⟩ := lk_inv hI hOi i_1 (by omega)
  obtain ⟨e1, e2, e3⟩ := id hx_1
  have hw10 := hOi.1
  have hv10 := j2.1
  refine lv_iload_n CF.1 CF.2.1 dX1_lookAt_7 rfl (lv_at hl 2 rfl) ?_
  refine lv_aload_n CF.1 CF.2.1 dX1_lookAt_8 rfl (lv_at hl 0 rfl) ?_
  refine x1_g_waiting CF hK hP1 (v := (nI ((lkN b i_1).1 0 3))) e2.1 dX1_lookAt_9 ?_
  refine z_icmp_ge CF (tgt := 92) (nIz (by omega)) (nIz (by omega)) dX1_lookAt_12 (by decide) (fun h_2 => ?_) (fun h_3 => ?_)
  · refine lv_aload_n CF.1 CF.2.1 dX1_lookAt_92 rfl (lv_at hl 0 rfl) ?_
    refine x1_g_done CF hK hP1 (v := (nI ((lkN b i_1).1 0 5))) e2.2.1 dX1_lookAt_93 ?_
    refine lv_iload_n CF.1 CF.2.1 dX1_lookAt_96 rfl (lv_at hl 1 rfl) ?_
    refine o_isub CF (by omega) dX1_lookAt_97 ?_
    exact W.iret CF.1 CF.2.1 hr (fun t9 ht9 hW9 => ⟨⟨_, σ1, rfl, look1_end (show i_1 = b 0 3 by omega) j3 j4 j5 e1 e2 e3, by show va_P G vwCl (w1 ad cA σ1) t9.heap; rw [ht9]; exact hP1⟩, hS1.F ht9⟩) hS1.2.2 dX1_lookAt_98
  · obtain ⟨o1, o2, o3, o4, o5, o6, o7, o8⟩ := j2.2 (lkN b i_1).2 (by omega)
    refine lv_aload_n CF.1 CF.2.1 dX1_lookAt_15 rfl (lv_at hl 0 rfl) ?_
    refine lv_iload_n CF.1 CF.2.1 dX1_lookAt_16 rfl (lv_at hl 2 rfl) ?_
    refine lv_aload_n CF.1 CF.2.1 dX1_lookAt_17 rfl (lv_at hl 0 rfl) ?_
    refine lv_aload_n CF.1 CF.2.1 dX1_lookAt_18 rfl (lv_at hl 0 rfl) ?_
    refine lv_iload_n CF.1 CF.2.1 dX1_lookAt_19 rfl (lv_at hl 2 rfl) ?_
    refine lv_iconst (v := nI 1) CF.1 CF.2.1 dX1_lookAt_20 (by decide) ?_
    refine c1_i CF hK hP1 (As := [.int (nI ((lkN b i_1).2)), .int (nI (1))]) (rest := [.ref (ad 0), .int (nI ((lkN b i_1).2)), .ref (ad 0)]) (c1_or l (σ := σ1) (u := (lkN b i_1).2) (t := 1) (by omega) (by omega)) rfl lk_RX1_X1_or rfl hl.1 ⟨Nat.le_of_ble_eq_true rfl, Nat.le_of_ble_eq_true rfl⟩ ⟨Nat.zero_le _, Nat.zero_le _⟩ (Nat.le_of_ble_eq_true rfl) rfl dX1_lookAt_21 (fun r_4 hr_5 => ?_)
    subst hr_5
    refine tpi (show σ1 7 ((lkN b i_1).2 * 5 + 1) = nI ((lkN b i_1).1 7 ((lkN b i_1).2 * 5 + 1)) from e2.2.2 ((lkN b i_1).2 * 5 + 1) (by omega)) ?_
    refine lv_aload_n CF.1 CF.2.1 dX1_lookAt_24 rfl (lv_at hl 0 rfl) ?_
    refine lv_iload_n CF.1 CF.2.1 dX1_lookAt_25 rfl (lv_at hl 2 rfl) ?_
    refine lv_iconst (v := nI 2) CF.1 CF.2.1 dX1_lookAt_26 (by decide) ?_
    refine c1_i CF hK hP1 (As := [.int (nI ((lkN b i_1).2)), .int (nI (2))]) (rest := [.int (nI ((lkN b i_1).1 7 ((lkN b i_1).2 * 5 + 1))), .ref (ad 0), .int (nI ((lkN b i_1).2)), .ref (ad 0)]) (c1_or l (σ := σ1) (u := (lkN b i_1).2) (t := 2) (by omega) (by omega)) rfl lk_RX1_X1_or rfl hl.1 ⟨Nat.le_of_ble_eq_true rfl, Nat.le_of_ble_eq_true rfl⟩ ⟨Nat.zero_le _, Nat.zero_le _⟩ (Nat.le_of_ble_eq_true rfl) rfl dX1_lookAt_27 (fun r_6 hr_7 => ?_)
    subst hr_7
    refine tpi (show σ1 7 ((lkN b i_1).2 * 5 + 2) = nI ((lkN b i_1).1 7 ((lkN b i_1).2 * 5 + 2)) from e2.2.2 ((lkN b i_1).2 * 5 + 2) (by omega)) ?_
    refine c1_i CF hK hP1 (As := [.int (nI ((lkN b i_1).1 7 ((lkN b i_1).2 * 5 + 1))), .int (nI ((lkN b i_1).1 7 ((lkN b i_1).2 * 5 + 2)))]) (rest := [.int (nI ((lkN b i_1).2)), .ref (ad 0)]) (c1_rate l (b := (lkN b i_1).1) j1 e1 (f := (lkN b i_1).1 7 ((lkN b i_1).2 * 5 + 1)) (t := (lkN b i_1).1 7 ((lkN b i_1).2 * 5 + 2)) o2 o3) rfl lk_RX1_X1_rate rfl hl.1 ⟨Nat.le_of_ble_eq_true rfl, Nat.le_of_ble_eq_true rfl⟩ ⟨Nat.zero_le _, Nat.zero_le _⟩ (Nat.le_of_ble_eq_true rfl) rfl dX1_lookAt_30 (fun r_8 hr_9 => ?_)
    subst hr_9
    refine c1_i CF hK hP1 (As := [.int (nI ((lkN b i_1).2)), .int (nI ((lkN b i_1).1 1 ((lkN b i_1).1 7 ((lkN b i_1).2 * 5 + 1) * 5 + (lkN b i_1).1 7 ((lkN b i_1).2 * 5 + 2))))]) (rest := []) (c1_isDue l (b := (lkN b i_1).1) j1 e1 (q := (lkN b i_1).2) (u := (lkN b i_1).1 7 ((lkN b i_1).2 * 5)) (f := (lkN b i_1).1 7 ((lkN b i_1).2 * 5 + 1)) (t := (lkN b i_1).1 7 ((lkN b i_1).2 * 5 + 2)) (a := (lkN b i_1).1 7 ((lkN b i_1).2 * 5 + 3)) (k := (lkN b i_1).1 7 ((lkN b i_1).2 * 5 + 4)) (x := (lkN b i_1).1 1 ((lkN b i_1).1 7 ((lkN b i_1).2 * 5 + 1) * 5 + (lkN b i_1).1 7 ((lkN b i_1).2 * 5 + 2))) (by omega) (show σ1 7 ((lkN b i_1).2 * 5 + 0) = nI ((lkN b i_1).1 7 ((lkN b i_1).2 * 5)) from e2.2.2 ((lkN b i_1).2 * 5 + 0) (by omega)) (show σ1 7 ((lkN b i_1).2 * 5 + 1) = nI ((lkN b i_1).1 7 ((lkN b i_1).2 * 5 + 1)) from e2.2.2 ((lkN b i_1).2 * 5 + 1) (by omega)) (show σ1 7 ((lkN b i_1).2 * 5 + 2) = nI ((lkN b i_1).1 7 ((lkN b i_1).2 * 5 + 2)) from e2.2.2 ((lkN b i_1).2 * 5 + 2) (by omega)) (show σ1 7 ((lkN b i_1).2 * 5 + 3) = nI ((lkN b i_1).1 7 ((lkN b i_1).2 * 5 + 3)) from e2.2.2 ((lkN b i_1).2 * 5 + 3) (by omega)) (show σ1 7 ((lkN b i_1).2 * 5 + 4) = nI ((lkN b i_1).1 7 ((lkN b i_1).2 * 5 + 4)) from e2.2.2 ((lkN b i_1).2 * 5 + 4) (by omega)) o1 o2 o3 (by omega) (by omega) (j1.2.2.1 _ (by omega))) rfl lk_RX1_X1_isDue rfl hl.1 ⟨Nat.le_of_ble_eq_true rfl, Nat.le_of_ble_eq_true rfl⟩ ⟨Nat.zero_le _, Nat.zero_le _⟩ (Nat.le_of_ble_eq_true rfl) rfl dX1_lookAt_33 (fun r_10 hr_11 => ?_)
    rcases hr_11 with ⟨rfl, hr_11a⟩ | ⟨rfl, hr_11n⟩
    · have hr_11d : dueN (lkN b i_1).1 (lkN b i_1).2 := due_iff.mp hr_11a
      obtain ⟨hr_111, hr_112, hr_113, hr_114, hr_115, hr_116, hr_117⟩ := id hr_11d
      refine z_if_eq CF (tgt := 86) (nIz (by omega)) dX1_lookAt_36 (by decide) (fun h => absurd h (by decide)) (fun _ => ?_)
      refine lv_aload_n CF.1 CF.2.1 dX1_lookAt_39 rfl (lv_at hl 0 rfl) ?_
      refine lv_aload_n CF.1 CF.2.1 dX1_lookAt_40 rfl (lv_at hl 0 rfl) ?_
      refine lv_iload_n CF.1 CF.2.1 dX1_lookAt_41 rfl (lv_at hl 2 rfl) ?_
      refine lv_iconst (v := nI 0) CF.1 CF.2.1 dX1_lookAt_42 (by decide) ?_
      refine c1_i CF hK hP1 (As := [.int (nI ((lkN b i_1).2)), .int (nI (0))]) (rest := [.ref (ad 0)]) (c1_or l (σ := σ1) (u := (lkN b i_1).2) (t := 0) (by omega) (by omega)) rfl lk_RX1_X1_or rfl hl.1 ⟨Nat.le_of_ble_eq_true rfl, Nat.le_of_ble_eq_true rfl⟩ ⟨Nat.zero_le _, Nat.zero_le _⟩ (Nat.le_of_ble_eq_true rfl) rfl dX1_lookAt_43 (fun r_14 hr_15 => ?_)
      subst hr_15
      refine tpi (show σ1 7 ((lkN b i_1).2 * 5 + 0) = nI ((lkN b i_1).1 7 ((lkN b i_1).2 * 5)) from e2.2.2 ((lkN b i_1).2 * 5 + 0) (by omega)) ?_
      refine lv_aload_n CF.1 CF.2.1 dX1_lookAt_46 rfl (lv_at hl 0 rfl) ?_
      refine lv_iload_n CF.1 CF.2.1 dX1_lookAt_47 rfl (lv_at hl 2 rfl) ?_
      refine lv_iconst (v := nI 1) CF.1 CF.2.1 dX1_lookAt_48 (by decide) ?_
      refine c1_i CF hK hP1 (As := [.int (nI ((lkN b i_1).2)), .int (nI (1))]) (rest := [.int (nI ((lkN b i_1).1 7 ((lkN b i_1).2 * 5))), .ref (ad 0)]) (c1_or l (σ := σ1) (u := (lkN b i_1).2) (t := 1) (by omega) (by omega)) rfl lk_RX1_X1_or rfl hl.1 ⟨Nat.le_of_ble_eq_true rfl, Nat.le_of_ble_eq_true rfl⟩ ⟨Nat.zero_le _, Nat.zero_le _⟩ (Nat.le_of_ble_eq_true rfl) rfl dX1_lookAt_49 (fun r_16 hr_17 => ?_)
      subst hr_17
      refine tpi (show σ1 7 ((lkN b i_1).2 * 5 + 1) = nI ((lkN b i_1).1 7 ((lkN b i_1).2 * 5 + 1)) from e2.2.2 ((lkN b i_1).2 * 5 + 1) (by omega)) ?_
      refine lv_aload_n CF.1 CF.2.1 dX1_lookAt_52 rfl (lv_at hl 0 rfl) ?_
      refine lv_iload_n CF.1 CF.2.1 dX1_lookAt_53 rfl (lv_at hl 2 rfl) ?_
      refine lv_iconst (v := nI 2) CF.1 CF.2.1 dX1_lookAt_54 (by decide) ?_
      refine c1_i CF hK hP1 (As := [.int (nI ((lkN b i_1).2)), .int (nI (2))]) (rest := [.int (nI ((lkN b i_1).1 7 ((lkN b i_1).2 * 5 + 1))), .int (nI ((lkN b i_1).1 7 ((lkN b i_1).2 * 5))), .ref (ad 0)]) (c1_or l (σ := σ1) (u := (lkN b i_1).2) (t := 2) (by omega) (by omega)) rfl lk_RX1_X1_or rfl hl.1 ⟨Nat.le_of_ble_eq_true rfl, Nat.le_of_ble_eq_true rfl⟩ ⟨Nat.zero_le _, Nat.zero_le _⟩ (Nat.le_of_ble_eq_true rfl) rfl dX1_lookAt_55 (fun r_18 hr_19 => ?_)
      subst hr_19
      refine tpi (show σ1 7 ((lkN b i_1).2 * 5 + 2) = nI ((lkN b i_1).1 7 ((lkN b i_1).2 * 5 + 2)) from e2.2.2 ((lkN b i_1).2 * 5 + 2) (by omega)) ?_
      refine lv_aload_n CF.1 CF.2.1 dX1_lookAt_58 rfl (lv_at hl 0 rfl) ?_
      refine lv_iload_n CF.1 CF.2.1 dX1_lookAt_59 rfl (lv_at hl 2 rfl) ?_
      refine lv_iconst (v := nI 3) CF.1 CF.2.1 dX1_lookAt_60 (by decide) ?_
      refine c1_i CF hK hP1 (As := [.int (nI ((lkN b i_1).2)), .int (nI (3))]) (rest := [.int (nI ((lkN b i_1).1 7 ((lkN b i_1).2 * 5 + 2))), .int (nI ((lkN b i_1).1 7 ((lkN b i_1).2 * 5 + 1))), .int (nI ((lkN b i_1).1 7 ((lkN b i_1).2 * 5))), .ref (ad 0)]) (c1_or l (σ := σ1) (u := (lkN b i_1).2) (t := 3) (by omega) (by omega)) rfl lk_RX1_X1_or rfl hl.1 ⟨Nat.le_of_ble_eq_true rfl, Nat.le_of_ble_eq_true rfl⟩ ⟨Nat.zero_le _, Nat.zero_le _⟩ (Nat.le_of_ble_eq_true rfl) rfl dX1_lookAt_61 (fun r_20 hr_21 => ?_)
      subst hr_21
      refine tpi (show σ1 7 ((lkN b i_1).2 * 5 + 3) = nI ((lkN b i_1).1 7 ((lkN b i_1).2 * 5 + 3)) from e2.2.2 ((lkN b i_1).2 * 5 + 3) (by omega)) ?_
      refine d1_i CF hK hP1 hj (fun _ h => h) hS1 (As := [.int (nI ((lkN b i_1).1 7 ((lkN b i_1).2 * 5))), .int (nI ((lkN b i_1).1 7 ((lkN b i_1).2 * 5 + 1))), .int (nI ((lkN b i_1).1 7 ((lkN b i_1).2 * 5 + 2))), .int (nI ((lkN b i_1).1 7 ((lkN b i_1).2 * 5 + 3)))]) (rest := []) (c1_carryOut l hj (b := (lkN b i_1).1) j1 e1 (u := (lkN b i_1).1 7 ((lkN b i_1).2 * 5)) (f := (lkN b i_1).1 7 ((lkN b i_1).2 * 5 + 1)) (t := (lkN b i_1).1 7 ((lkN b i_1).2 * 5 + 2)) (a := (lkN b i_1).1 7 ((lkN b i_1).2 * 5 + 3)) o1 o2 o3 o4 hr_113 hr_115 hr_116) rfl lk_RX1_X1_carryOut rfl hl.1 ⟨Nat.le_of_ble_eq_true rfl, Nat.le_of_ble_eq_true rfl⟩ ⟨Nat.zero_le _, Nat.zero_le _⟩ (Nat.le_of_ble_eq_true rfl) rfl dX1_lookAt_64 (fun r_22 σ24 H24 locs hr_23 hP24 hD24 hS24 hz24 hk24 => ?_)
      refine lv_pop CF.1 CF.2.1 dX1_lookAt_67 rfl ?_
      refine lv_aload_n CF.1 CF.2.1 dX1_lookAt_68 rfl (lv_at hl 0 rfl) ?_
      refine lv_iload_n CF.1 CF.2.1 dX1_lookAt_69 rfl (lv_at hl 2 rfl) ?_
      have hD3 : dorder (lkN b i_1).1 (lkN b i_1).2 0 3 = (lkN b i_1).1 0 3 := dc_03
      refine d1_v CF hK hP24 hj (fun _ h => h) hS24 (As := [.int (nI ((lkN b i_1).2))]) (rest := []) (c1_takeOut l hj (b := dorder (lkN b i_1).1 (lkN b i_1).2) (by rw [hr_23.2.2.2.1, hD3]; exact e2.1) (by omega) (q := (lkN b i_1).2) (by omega)) rfl lk_RX1_X1_takeOut rfl hl.1 ⟨Nat.le_of_ble_eq_true rfl, Nat.le_of_ble_eq_true rfl⟩ ⟨Nat.zero_le _, Nat.zero_le _⟩ (Nat.le_of_ble_eq_true rfl) rfl dX1_lookAt_70 (fun σ27 H27 locs hr_26 hP27 hD27 hS27 hz27 hk27 => ?_)
      obtain ⟨s1, ht1, ht2⟩ := hr_26
      refine lv_aload_n CF.1 CF.2.1 dX1_lookAt_73 rfl (lv_at hl 0 rfl) ?_
      refine lv_dup CF.1 CF.2.1 dX1_lookAt_74 rfl ?_
      refine x1_g_done CF hK hP27 (v := (nI ((lkN b i_1).1 0 5))) (done_tk hr_23.2.2 e2 ht1 ht2) dX1_lookAt_75 ?_
      refine lv_iconst (v := nI 1) CF.1 CF.2.1 dX1_lookAt_78 (by decide) ?_
      refine o_iadd CF dX1_lookAt_79 ?_
      refine x1_p_done CF hK hP27 hD27 hS27 dX1_lookAt_80 (fun σ28 H28 locs hσ28 hP28 hD28 hS28 => ?_)
      refine lv_goto (tgt := 7) CF.1 CF.2.1 dX1_lookAt_83 (by decide) ?_
      have hk2 : (lkN b (i_1 + 1)).2 = (lkN b i_1).2 := by rw [lkN_s, lkS_y hr_11d]
      exact ih_1 () σ28 _ _ ls (by omega) (by show Rc σ28 (lkN b (i_1 + 1)).1 ∧ Ro σ28 (lkN b (i_1 + 1)).1 ∧ σ28 0 6 = σ 0 6; rw [lkN_s, lkS_y hr_11d]; obtain ⟨q1, q2⟩ := lk1_y hr_23.2.1 hr_23.2.2 e2 (by omega) ht1 ht2 hσ28; exact ⟨q1, q2, (th_tk hr_23.2.2 ht1 ht2 hσ28).trans e3⟩) hP28 hS28 (lv_sub hl [0, 1, 2] (by rw [hk2]; rfl))
    · have hr_11d : ¬ dueN (lkN b i_1).1 (lkN b i_1).2 := fun hz => hr_11n (due_iff.mpr hz)
      refine z_if_eq CF (tgt := 86) (nIz (by omega)) dX1_lookAt_36 (by decide) (fun _ => ?_) (fun h => absurd h (by decide))
      refine lv_iinc (v := nI ((lkN b i_1).2 + 1)) (lv' := [(2, .int (nI ((lkN b i_1).2 + 1))), (0, .ref (ad 0)), (1, .int (nI (b 0 5)))]) CF.1 CF.2.1 dX1_lookAt_86 hl (k := 2) rfl (by first | exact nI_add _ _ | rfl) (by decide) rfl (fun ls hl => ?_)
      refine lv_goto (tgt := 7) CF.1 CF.2.1 dX1_lookAt_89 (by decide) ?_
      have hk2 : (lkN b (i_1 + 1)).2 = (lkN b i_1).2 + 1 := by rw [lkN_s, lkS_n hr_11d]
      exact ih_1 () σ1 _ _ ls (by omega) (by show Rc σ1 (lkN b (i_1 + 1)).1 ∧ Ro σ1 (lkN b (i_1 + 1)).1 ∧ σ1 0 6 = σ 0 6; rw [lkN_s, lkS_n hr_11d]; exact ⟨e1, e2, e3⟩) hP1 hS1 (lv_sub hl [1, 2, 0] (by rw [hk2]; rfl))
