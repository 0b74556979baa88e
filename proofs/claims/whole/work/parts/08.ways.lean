/-- behind one change, cut off -/
def bh (b : BS) (f t a : Nat) : Nat := min (gv b f t a) 2147483647
def mgl (F : Nat → Nat) (x : Nat) : Nat → Nat | 0 => x | k + 1 => max (mgl F x k) (F k)
def mag (b : BS) (goal : Nat) : Nat → Nat → Nat → Nat → Nat
  | 0, _, _, _ => 0
  | n + 1, at_, a, v => mgl (fun o => if v &&& 2 ^ o = 0 then mag b goal n o (bh b at_ o a) (v ||| 2 ^ o) else 0) (bh b at_ goal a) 5
def mgF (b : BS) (goal n at_ a v : Nat) : Nat → Nat := fun o => if v &&& 2 ^ o = 0 then mag b goal n o (bh b at_ o a) (v ||| 2 ^ o) else 0
theorem mag_s {b : BS} {goal n at_ a v : Nat} : mag b goal (n + 1) at_ a v = mgl (mgF b goal n at_ a v) (bh b at_ goal a) 5 := rfl
theorem mgl_y {b : BS} {goal n at_ a v x o : Nat} (h : v &&& 2 ^ o = 0) : mgl (mgF b goal n at_ a v) x (o + 1) = max (mgl (mgF b goal n at_ a v) x o) (mag b goal n o (bh b at_ o a) (v ||| 2 ^ o)) := by
  show max _ (mgF b goal n at_ a v o) = _
  unfold mgF
  rw [if_pos h]
theorem mgl_n {b : BS} {goal n at_ a v x o : Nat} (h : ¬ v &&& 2 ^ o = 0) : mgl (mgF b goal n at_ a v) x (o + 1) = mgl (mgF b goal n at_ a v) x o := by
  show max _ (mgF b goal n at_ a v o) = _
  have h2 : mgF b goal n at_ a v o = 0 := by unfold mgF; rw [if_neg h]
  rw [h2]; omega
theorem mgl_le {F : Nat → Nat} {x B : Nat} (hx : x ≤ B) (hF : ∀ o, F o ≤ B) : ∀ k, mgl F x k ≤ B
  | 0 => hx
  | k + 1 => Nat.max_le.mpr ⟨mgl_le hx hF k, hF k⟩
theorem bh_le {b : BS} {f t a : Nat} : bh b f t a ≤ 2147483647 := Nat.min_le_right _ _
theorem mag_le {b : BS} {goal : Nat} : ∀ n at_ a v, mag b goal n at_ a v ≤ 2147483647
  | 0, _, _, _ => Nat.zero_le _
  | n + 1, at_, a, v => by
    rw [mag_s]
    refine mgl_le bh_le (fun o => ?_) 5
    unfold mgF
    split
    · exact mag_le n _ _ _
    · exact Nat.zero_le _
theorem mgF_le {b : BS} {goal n at_ a v o : Nat} : mgF b goal n at_ a v o ≤ 2147483647 := by
  unfold mgF
  split
  · exact mag_le n _ _ _
  · exact Nat.zero_le _
theorem rk {k K mL : Nat} (h : k + 1 ≤ K) (h2 : mL ≤ 21) : k + 1 ≤ (rmk K 0 0).frames ∧ 8 + (mL + 11) + 40 * k ≤ (rmk K 0 0).locals := ⟨h, by show 8 + (mL + 11) + 40 * k ≤ 40 * K; omega⟩
theorem ml15 {K : Nat} (h : 1 ≤ K) : (([] : List Value).map fun v => v.category).sum + 15 ≤ (rmk K 0 0).locals := by show 0 + 15 ≤ 40 * K; omega
theorem or_lt {v o : Nat} (h : v < 32) (ho : o < 5) : v ||| 2 ^ o < 32 := by
  have h2 : 2 ^ o < 2 ^ 5 := Nat.pow_lt_pow_right (by omega) ho
  exact Nat.or_lt_two_pow (n := 5) h h2

set_option maxHeartbeats 1000000 in
set_option maxRecDepth 100000 in
theorem c0_behindOneChange (l : Launch) {G : va_G} {cA : ClassId} {ad : Nat → Nat} {σ : RS} {b : BS} (hI : InvC b) (hR : Rc σ b) {f t a : Nat} (hf : f < 5) (ht : t < 5) (ha : a ≤ 2147483647) : Met l yX0_behindOneChange (ws_ yX0_behindOneChange cX0_behindOneChange 5 (some .long)) (rmk 4 0 0) (pc0 G cA ad σ [.ref (ad 0), .int (nI (f)), .int (nI (t)), .long (lN (a))]) (rql (fun r => r = lN (bh b f t a))) 0 0 (fun _ => False) := by
  refine Met.ofW (cc := cX0_behindOneChange) (maxL := 5) (ret := (some .long)) (by decide) rfl ?_
  intro p e s m args below meth c s₁ B hml hv
  obtain ⟨rfl, hP, hK⟩ := hv
  have CF : CallFix p m c cX0_behindOneChange 5 s _ AW RX0 := ⟨B.exec, B.bytes, hml, findClass_of_methodNamed B.named, fun w h => atoms_spec (ws := ws_ yX0_behindOneChange cX0_behindOneChange 5 (some .long)) B.pre w (List.mem_cons_of_mem _ h)⟩
  have hr := B.returns
  have hlocks := B.notSynchronized
  have hl := lv_entry ([.ref (ad 0), .int (nI (f)), .int (nI (t)), .long (lN (a))]) (n := 5) (Nat.le_of_ble_eq_true rfl)
  rw [lg_entry_eq]
  generalize (lg_sl ([.ref (ad 0), .int (nI (f)), .int (nI (t)), .long (lN (a))]) ++ List.replicate (5 - (lg_sl ([.ref (ad 0), .int (nI (f)), .int (nI (t)), .long (lN (a))])).length) Slot.unset).toArray = ls at hl ⊢
  have hl : lv_has ls 5 [(0, .ref (ad 0)), (1, .int (nI (f))), (2, .int (nI (t))), (3, .long (lN (a)))] := hl
  obtain ⟨i_sp, i_cu, i_ra, i_di, i_mo, i_pu⟩ := id hI
  refine lv_aload_n CF.1 CF.2.1 dX0_behindOneChange_0 rfl (lv_at hl 0 rfl) ?_
  refine lv_iload_n CF.1 CF.2.1 dX0_behindOneChange_1 rfl (lv_at hl 1 rfl) ?_
  refine lv_iload_n CF.1 CF.2.1 dX0_behindOneChange_2 rfl (lv_at hl 2 rfl) ?_
  refine lv_lload_n CF.1 CF.2.1 dX0_behindOneChange_3 rfl (lv_at hl 3 rfl) ?_
  refine c0_l CF hK hP (As := [.int (nI (f)), .int (nI (t)), .long (lN (a))]) (rest := []) (c0_tenthousandths l hI hR (f := f) (t := t) (by omega) (by omega) (lN (a))) rfl lk_RX0_X0_tenthousandths rfl hl.1 ⟨Nat.le_of_ble_eq_true rfl, Nat.le_of_ble_eq_true rfl⟩ ⟨Nat.zero_le _, Nat.zero_le _⟩ (Nat.le_of_ble_eq_true rfl) rfl dX0_behindOneChange_4 (fun r_1 hr_2 => ?_)
  subst hr_2
  refine tpl (show lN (a) * lN (b 1 (f * 5 + t)) * lN (100 - b 0 1) = lN (pr b (f) (t) (a)) from by rw [lN_mul, lN_mul]; rfl) ?_
  have hp_3 := pr_le hI (f := f) (t := t) (a := a) (A := 2147483647) (by omega) (by omega) (by omega)
  refine cS_l CF (As := [.long (lN (pr b (f) (t) (a)))]) (rest := []) (c0_wholeOnes l (lN (pr b (f) (t) (a)))) lk_RX0_X0_wholeOnes rfl hl.1 ⟨Nat.le_of_ble_eq_true rfl, Nat.le_of_ble_eq_true rfl⟩ ⟨Nat.zero_le _, Nat.zero_le _⟩ (Nat.le_of_ble_eq_true rfl) rfl dX0_behindOneChange_7 (fun r_4 hr_5 => ?_)
  subst hr_5
  refine tpl (y := lN (gv b (f) (t) (a))) (pk_lDiv (a := pr b (f) (t) (a)) (b := 10000) (by omega) (by omega) (by omega)) ?_
  have hg_6 : gv b (f) (t) (a) = pr b (f) (t) (a) / 10000 := rfl
  refine lv_ldc2 (v := lN 2147483647) CF.1 CF.2.1 CF.2.2.2.1 (CF.2.2.2.2 _ (inr_18 _ (List.mem_of_getElem? (i := 4) rfl))) dX0_behindOneChange_10 ?_
  refine va_mmin_long CF.1 CF.2.1 (CF.2.2.1.trans hl.1.symm) CF.2.2.2.1 (CF.2.2.2.2 _ (inr_5 _ (List.mem_of_getElem? (i := 6) rfl))) (CF.2.2.2.2 _ (inr_5 _ (List.mem_of_getElem? (i := 7) rfl))) (CF.2.2.2.2 _ (inr_5 _ (List.mem_of_getElem? (i := 8) rfl))) (CF.2.2.2.2 _ (inr_5 _ (List.mem_of_getElem? (i := 9) rfl))) (Nat.le_of_ble_eq_true rfl) (Nat.le_of_ble_eq_true rfl) (Nat.zero_le _) (Nat.zero_le _) dX0_behindOneChange_13 ?_
  refine tpl (mnL (by omega) (by omega)) ?_
  exact W.lret CF.1 CF.2.1 hr (fun t9 ht9 hW9 => ⟨_, rfl, rfl, ht9⟩) (fun q hq => absurd hq List.not_mem_nil) dX0_behindOneChange_16
def CtA (l : Launch) (G : va_G) (cA : ClassId) (ad : Nat → Nat) (σ : RS) (b : BS) (n : Nat) : Prop := ∀ at_ goal a v, at_ < 5 → goal < 5 → a ≤ 2147483647 → v < 32 → Met l yX0_mostAtGoal (ws_ yX0_mostAtGoal cX0_mostAtGoal 10 (some .long)) (rmk (2 * n + 5) 0 0) (pc0 G cA ad σ [.ref (ad 0), .int (nI at_), .int (nI goal), .long (lN a), .int (nI v), .int (nI n)]) (rql (fun r => r = lN (mag b goal n at_ a v))) 0 0 (fun _ => False)
def CtO (l : Launch) (G : va_G) (cA : ClassId) (ad : Nat → Nat) (σ : RS) (b : BS) (n : Nat) : Prop := ∀ at_ o goal a v, at_ < 5 → o < 5 → goal < 5 → a ≤ 2147483647 → v < 32 → Met l yX0_mostOver (ws_ yX0_mostOver cX0_mostOver 10 (some .long)) (rmk (2 * (n + 1) + 4) 0 0) (pc0 G cA ad σ [.ref (ad 0), .int (nI at_), .int (nI o), .int (nI goal), .long (lN a), .int (nI v), .int (nI (n + 1))]) (rql (fun r => r = lN (mag b goal n o (bh b at_ o a) (v ||| 2 ^ o)))) 0 0 (fun _ => False)
set_option maxHeartbeats 1000000 in
set_option maxRecDepth 100000 in
theorem c0_mostOver (l : Launch) {G : va_G} {cA : ClassId} {ad : Nat → Nat} {σ : RS} {b : BS} (hI : InvC b) (hR : Rc σ b) {n : Nat} (hn : n < 10) (hA : CtA l G cA ad σ b n) : CtO l G cA ad σ b n := by
  intro at_ o goal a v hat ho hgoal ha hv
  refine Met.ofW (cc := cX0_mostOver) (maxL := 10) (ret := (some .long)) (by decide) rfl ?_
  intro p e s m args below meth c s₁ B hml hv
  obtain ⟨rfl, hP, hK⟩ := hv
  have CF : CallFix p m c cX0_mostOver 10 s _ AW RX0 := ⟨B.exec, B.bytes, hml, findClass_of_methodNamed B.named, fun w h => atoms_spec (ws := ws_ yX0_mostOver cX0_mostOver 10 (some .long)) B.pre w (List.mem_cons_of_mem _ h)⟩
  have hr := B.returns
  have hlocks := B.notSynchronized
  have hl := lv_entry ([.ref (ad 0), .int (nI (at_)), .int (nI (o)), .int (nI (goal)), .long (lN (a)), .int (nI (v)), .int (nI (n + 1))]) (n := 10) (Nat.le_of_ble_eq_true rfl)
  rw [lg_entry_eq]
  show W p l e (rmk (2 * (n + 1) + 4) 0 0) s m _ below meth c s.heap [] 0 0 _ _
  generalize (lg_sl ([.ref (ad 0), .int (nI (at_)), .int (nI (o)), .int (nI (goal)), .long (lN (a)), .int (nI (v)), .int (nI (n + 1))]) ++ List.replicate (10 - (lg_sl ([.ref (ad 0), .int (nI (at_)), .int (nI (o)), .int (nI (goal)), .long (lN (a)), .int (nI (v)), .int (nI (n + 1))])).length) Slot.unset).toArray = ls at hl ⊢
  have hl : lv_has ls 10 [(0, .ref (ad 0)), (1, .int (nI (at_))), (2, .int (nI (o))), (3, .int (nI (goal))), (4, .long (lN (a))), (6, .int (nI (v))), (7, .int (nI (n + 1)))] := hl
  obtain ⟨i_sp, i_cu, i_ra, i_di, i_mo, i_pu⟩ := id hI
  refine lv_aload_n CF.1 CF.2.1 dX0_mostOver_0 rfl (lv_at hl 0 rfl) ?_
  refine lv_iload_n CF.1 CF.2.1 dX0_mostOver_1 rfl (lv_at hl 1 rfl) ?_
  refine lv_iload_n CF.1 CF.2.1 dX0_mostOver_2 rfl (lv_at hl 2 rfl) ?_
  refine lv_lload CF.1 CF.2.1 dX0_mostOver_3 (lv_at hl 4 rfl) ?_
  refine c0_l CF hK hP (As := [.int (nI (at_)), .int (nI (o)), .long (lN (a))]) (rest := []) (c0_behindOneChange l hI hR (f := at_) (t := o) (a := a) (by omega) (by omega) (by omega)) rfl lk_RX0_X0_behindOneChange rfl hl.1 (rk (by omega) (by decide)) ⟨Nat.zero_le _, Nat.zero_le _⟩ (Nat.le_of_ble_eq_true rfl) rfl dX0_mostOver_5 (fun r_1 hr_2 => ?_)
  subst hr_2
  refine lv_lstore (lv' := [(8, .long (lN (bh b (at_) (o) (a)))), (0, .ref (ad 0)), (1, .int (nI (at_))), (2, .int (nI (o))), (3, .int (nI (goal))), (4, .long (lN (a))), (6, .int (nI (v))), (7, .int (nI (n + 1)))]) CF.1 CF.2.1 dX0_mostOver_8 hl (by decide) rfl (fun ls hl => ?_)
  refine lv_aload_n CF.1 CF.2.1 dX0_mostOver_10 rfl (lv_at hl 1 rfl) ?_
  refine lv_iload_n CF.1 CF.2.1 dX0_mostOver_11 rfl (lv_at hl 3 rfl) ?_
  refine lv_iload_n CF.1 CF.2.1 dX0_mostOver_12 rfl (lv_at hl 4 rfl) ?_
  refine lv_lload CF.1 CF.2.1 dX0_mostOver_13 (lv_at hl 0 rfl) ?_
  refine lv_iload CF.1 CF.2.1 dX0_mostOver_15 (lv_at hl 6 rfl) ?_
  refine lv_iload_n CF.1 CF.2.1 dX0_mostOver_17 rfl (lv_at hl 3 rfl) ?_
  refine cS_i CF (As := [.int (nI (o))]) (rest := [.int (nI (v)), .long (lN (bh b (at_) (o) (a))), .int (nI (goal)), .int (nI (o)), .ref (ad 0)]) (c0_bit l (j := o) (by omega)) lk_RX0_X0_bit rfl hl.1 (rk (by omega) (by decide)) ⟨Nat.zero_le _, Nat.zero_le _⟩ (Nat.le_of_ble_eq_true rfl) rfl dX0_mostOver_18 (fun r_3 hr_4 => ?_)
  subst hr_4
  refine lv_ior CF.1 CF.2.1 dX0_mostOver_21 ?_
  refine tpi (orI _ _) ?_
  refine lv_iload CF.1 CF.2.1 dX0_mostOver_22 (lv_at hl 7 rfl) ?_
  refine lv_iconst (v := nI 1) CF.1 CF.2.1 dX0_mostOver_24 (by decide) ?_
  refine o_isub CF (by omega) dX0_mostOver_25 ?_
  refine tpi (congrArg nI (show n + 1 - 1 = n by omega)) ?_
  refine c0_l CF hK hP (As := [.int (nI (o)), .int (nI (goal)), .long (lN (bh b (at_) (o) (a))), .int (nI ((v) ||| (2 ^ (o)))), .int (nI (n))]) (rest := []) (hA o goal (bh b (at_) (o) (a)) ((v) ||| (2 ^ (o))) (by omega) (by omega) bh_le (or_lt hv ho)) rfl lk_RX0_X0_mostAtGoal rfl hl.1 (rk (by omega) (by decide)) ⟨Nat.zero_le _, Nat.zero_le _⟩ (Nat.le_of_ble_eq_true rfl) rfl dX0_mostOver_26 (fun r_5 hr_6 => ?_)
  subst hr_6
  exact W.lret CF.1 CF.2.1 hr (fun t9 ht9 hW9 => ⟨_, rfl, rfl, ht9⟩) (fun q hq => absurd hq List.not_mem_nil) dX0_mostOver_29
set_option maxHeartbeats 1000000 in
set_option maxRecDepth 100000 in
theorem c0_mag0 (l : Launch) {G : va_G} {cA : ClassId} {ad : Nat → Nat} {σ : RS} {b : BS} (hI : InvC b) (hR : Rc σ b) : CtA l G cA ad σ b 0 := by
  intro at_ goal a v hat hgoal ha hv
  refine Met.ofW (cc := cX0_mostAtGoal) (maxL := 10) (ret := (some .long)) (by decide) rfl ?_
  intro p e s m args below meth c s₁ B hml hv
  obtain ⟨rfl, hP, hK⟩ := hv
  have CF : CallFix p m c cX0_mostAtGoal 10 s _ AW RX0 := ⟨B.exec, B.bytes, hml, findClass_of_methodNamed B.named, fun w h => atoms_spec (ws := ws_ yX0_mostAtGoal cX0_mostAtGoal 10 (some .long)) B.pre w (List.mem_cons_of_mem _ h)⟩
  have hr := B.returns
  have hlocks := B.notSynchronized
  have hl := lv_entry ([.ref (ad 0), .int (nI (at_)), .int (nI (goal)), .long (lN (a)), .int (nI (v)), .int (nI (0))]) (n := 10) (Nat.le_of_ble_eq_true rfl)
  rw [lg_entry_eq]
  show W p l e (rmk (2 * 0 + 5) 0 0) s m _ below meth c s.heap [] 0 0 _ _
  generalize (lg_sl ([.ref (ad 0), .int (nI (at_)), .int (nI (goal)), .long (lN (a)), .int (nI (v)), .int (nI (0))]) ++ List.replicate (10 - (lg_sl ([.ref (ad 0), .int (nI (at_)), .int (nI (goal)), .long (lN (a)), .int (nI (v)), .int (nI (0))])).length) Slot.unset).toArray = ls at hl ⊢
  have hl : lv_has ls 10 [(0, .ref (ad 0)), (1, .int (nI (at_))), (2, .int (nI (goal))), (3, .long (lN (a))), (5, .int (nI (v))), (6, .int (nI (0)))] := hl
  obtain ⟨i_sp, i_cu, i_ra, i_di, i_mo, i_pu⟩ := id hI
  refine lv_iload CF.1 CF.2.1 dX0_mostAtGoal_0 (lv_at hl 5 rfl) ?_
  refine lv_iconst (v := nI 1) CF.1 CF.2.1 dX0_mostAtGoal_2 (by decide) ?_
  refine z_icmp_ge CF (tgt := 8) (nIz (by omega)) (nIz (by omega)) dX0_mostAtGoal_3 (by decide) (fun h => absurd h (by decide)) (fun _ => ?_)
  refine lv_lconst (v := lN 0) CF.1 CF.2.1 dX0_mostAtGoal_6 (by decide) ?_
  exact W.lret CF.1 CF.2.1 hr (fun t9 ht9 hW9 => ⟨_, rfl, rfl, ht9⟩) (fun q hq => absurd hq List.not_mem_nil) dX0_mostAtGoal_7
set_option maxHeartbeats 1000000 in
set_option maxRecDepth 100000 in
theorem c0_magS (l : Launch) {G : va_G} {cA : ClassId} {ad : Nat → Nat} {σ : RS} {b : BS} (hI : InvC b) (hR : Rc σ b) {n : Nat} (hn : n < 10) (hO : CtO l G cA ad σ b n) : CtA l G cA ad σ b (n + 1) := by
  intro at_ goal a v hat hgoal ha hv
  refine Met.ofW (cc := cX0_mostAtGoal) (maxL := 10) (ret := (some .long)) (by decide) rfl ?_
  intro p e s m args below meth c s₁ B hml hv
  obtain ⟨rfl, hP, hK⟩ := hv
  have CF : CallFix p m c cX0_mostAtGoal 10 s _ AW RX0 := ⟨B.exec, B.bytes, hml, findClass_of_methodNamed B.named, fun w h => atoms_spec (ws := ws_ yX0_mostAtGoal cX0_mostAtGoal 10 (some .long)) B.pre w (List.mem_cons_of_mem _ h)⟩
  have hr := B.returns
  have hlocks := B.notSynchronized
  have hl := lv_entry ([.ref (ad 0), .int (nI (at_)), .int (nI (goal)), .long (lN (a)), .int (nI (v)), .int (nI (n + 1))]) (n := 10) (Nat.le_of_ble_eq_true rfl)
  rw [lg_entry_eq]
  show W p l e (rmk (2 * (n + 1) + 5) 0 0) s m _ below meth c s.heap [] 0 0 _ _
  generalize (lg_sl ([.ref (ad 0), .int (nI (at_)), .int (nI (goal)), .long (lN (a)), .int (nI (v)), .int (nI (n + 1))]) ++ List.replicate (10 - (lg_sl ([.ref (ad 0), .int (nI (at_)), .int (nI (goal)), .long (lN (a)), .int (nI (v)), .int (nI (n + 1))])).length) Slot.unset).toArray = ls at hl ⊢
  have hl : lv_has ls 10 [(0, .ref (ad 0)), (1, .int (nI (at_))), (2, .int (nI (goal))), (3, .long (lN (a))), (5, .int (nI (v))), (6, .int (nI (n + 1)))] := hl
  obtain ⟨i_sp, i_cu, i_ra, i_di, i_mo, i_pu⟩ := id hI
  refine lv_iload CF.1 CF.2.1 dX0_mostAtGoal_0 (lv_at hl 5 rfl) ?_
  refine lv_iconst (v := nI 1) CF.1 CF.2.1 dX0_mostAtGoal_2 (by decide) ?_
  refine z_icmp_ge CF (tgt := 8) (nIz (by omega)) (nIz (by omega)) dX0_mostAtGoal_3 (by decide) (fun h_1 => ?_) (fun h_2 => absurd h_2 (by omega))
  refine lv_aload_n CF.1 CF.2.1 dX0_mostAtGoal_8 rfl (lv_at hl 0 rfl) ?_
  refine lv_iload_n CF.1 CF.2.1 dX0_mostAtGoal_9 rfl (lv_at hl 1 rfl) ?_
  refine lv_iload_n CF.1 CF.2.1 dX0_mostAtGoal_10 rfl (lv_at hl 2 rfl) ?_
  refine lv_lload_n CF.1 CF.2.1 dX0_mostAtGoal_11 rfl (lv_at hl 3 rfl) ?_
  refine c0_l CF hK hP (As := [.int (nI (at_)), .int (nI (goal)), .long (lN (a))]) (rest := []) (c0_behindOneChange l hI hR (f := at_) (t := goal) (a := a) (by omega) (by omega) (by omega)) rfl lk_RX0_X0_behindOneChange rfl hl.1 (rk (by omega) (by decide)) ⟨Nat.zero_le _, Nat.zero_le _⟩ (Nat.le_of_ble_eq_true rfl) rfl dX0_mostAtGoal_12 (fun r_3 hr_4 => ?_)
  subst hr_4
  refine lv_lstore (lv' := [(7, .long (lN (bh b (at_) (goal) (a)))), (0, .ref (ad 0)), (1, .int (nI (at_))), (2, .int (nI (goal))), (3, .long (lN (a))), (5, .int (nI (v))), (6, .int (nI (n + 1)))]) CF.1 CF.2.1 dX0_mostAtGoal_15 hl (by decide) rfl (fun ls hl => ?_)
  refine lv_iconst (v := nI 0) CF.1 CF.2.1 dX0_mostAtGoal_17 (by decide) ?_
  refine lv_istore (lv' := [(9, .int (nI (0))), (7, .long (lN (bh b (at_) (goal) (a)))), (0, .ref (ad 0)), (1, .int (nI (at_))), (2, .int (nI (goal))), (3, .long (lN (a))), (5, .int (nI (v))), (6, .int (nI (n + 1)))]) CF.1 CF.2.1 dX0_mostAtGoal_18 hl (by decide) rfl (fun ls hl => ?_)
  refine loop_ro (fun i => [(0, .ref (ad 0)), (1, .int (nI (at_))), (2, .int (nI (goal))), (3, .long (lN (a))), (5, .int (nI (v))), (6, .int (nI (n + 1))), (7, .long (lN (mgl (mgF b goal n at_ a v) (bh b at_ goal a) (i)))), (9, .int (nI (i)))]) (5) (0) (lv_sub hl [2, 3, 4, 5, 6, 7, 1, 0] rfl) (by omega) (fun i_5 h_8 h_7 ih_6 ls hl => ?_)
  have h_mm := mgl_le (B := 2147483647) (bh_le (b := b) (f := at_) (t := goal) (a := a)) (fun o => mgF_le (b := b) (goal := goal) (n := n) (at_ := at_) (a := a) (v := v) (o := o)) i_5
  have h_an : v &&& 2 ^ (i_5) ≤ v := Nat.and_le_left
  refine lv_iload CF.1 CF.2.1 dX0_mostAtGoal_20 (lv_at hl 7 rfl) ?_
  refine lv_iconst (v := nI 5) CF.1 CF.2.1 dX0_mostAtGoal_22 (by decide) ?_
  refine z_icmp_ge CF (tgt := 63) (nIz (by omega)) (nIz (by omega)) dX0_mostAtGoal_23 (by decide) (fun h_9 => ?_) (fun h_10 => ?_)
  · refine lv_lload CF.1 CF.2.1 dX0_mostAtGoal_63 (lv_at hl 6 rfl) ?_
    exact W.lret CF.1 CF.2.1 hr (fun t9 ht9 hW9 => ⟨_, rfl, by rw [mag_s, show i_5 = 5 by omega], ht9⟩) (fun q hq => absurd hq List.not_mem_nil) dX0_mostAtGoal_65
  · refine lv_iload CF.1 CF.2.1 dX0_mostAtGoal_26 (lv_at hl 4 rfl) ?_
    refine lv_iload CF.1 CF.2.1 dX0_mostAtGoal_28 (lv_at hl 7 rfl) ?_
    refine cS_i CF (As := [.int (nI (i_5))]) (rest := [.int (nI (v))]) (c0_bit l (j := i_5) (by omega)) lk_RX0_X0_bit rfl hl.1 (rk (by omega) (by decide)) ⟨Nat.zero_le _, Nat.zero_le _⟩ (Nat.le_of_ble_eq_true rfl) rfl dX0_mostAtGoal_30 (fun r_11 hr_12 => ?_)
    subst hr_12
    refine lv_iand CF.1 CF.2.1 dX0_mostAtGoal_33 ?_
    refine tpi (andI _ _) ?_
    refine z_if_ne CF (tgt := 57) (nIz (by omega)) dX0_mostAtGoal_34 (by decide) (fun h_13 => ?_) (fun h_14 => ?_)
    · refine lv_iinc (v := nI (i_5 + 1)) (lv' := [(9, .int (nI (i_5 + 1))), (0, .ref (ad 0)), (1, .int (nI (at_))), (2, .int (nI (goal))), (3, .long (lN (a))), (5, .int (nI (v))), (6, .int (nI (n + 1))), (7, .long (lN (mgl (mgF b goal n at_ a v) (bh b at_ goal a) (i_5))))]) CF.1 CF.2.1 dX0_mostAtGoal_57 hl (k := 7) rfl (by first | exact nI_add _ _ | rfl) (by decide) rfl (fun ls hl => ?_)
      refine lv_goto (tgt := 20) CF.1 CF.2.1 dX0_mostAtGoal_60 (by decide) ?_
      exact ih_6 ls (by omega) (lv_sub hl [1, 2, 3, 4, 5, 6, 7, 0] (by first | (rw [mgl_y (by omega)]; rfl) | (rw [mgl_n (by omega)]; rfl)))
    · refine lv_lload CF.1 CF.2.1 dX0_mostAtGoal_37 (lv_at hl 6 rfl) ?_
      refine lv_aload_n CF.1 CF.2.1 dX0_mostAtGoal_39 rfl (lv_at hl 0 rfl) ?_
      refine lv_iload_n CF.1 CF.2.1 dX0_mostAtGoal_40 rfl (lv_at hl 1 rfl) ?_
      refine lv_iload CF.1 CF.2.1 dX0_mostAtGoal_41 (lv_at hl 7 rfl) ?_
      refine lv_iload_n CF.1 CF.2.1 dX0_mostAtGoal_43 rfl (lv_at hl 2 rfl) ?_
      refine lv_lload_n CF.1 CF.2.1 dX0_mostAtGoal_44 rfl (lv_at hl 3 rfl) ?_
      refine lv_iload CF.1 CF.2.1 dX0_mostAtGoal_45 (lv_at hl 4 rfl) ?_
      refine lv_iload CF.1 CF.2.1 dX0_mostAtGoal_47 (lv_at hl 5 rfl) ?_
      refine c0_l CF hK hP (As := [.int (nI (at_)), .int (nI (i_5)), .int (nI (goal)), .long (lN (a)), .int (nI (v)), .int (nI (n + 1))]) (rest := [.long (lN (mgl (mgF b goal n at_ a v) (bh b at_ goal a) (i_5)))]) (hO at_ (i_5) goal a v (by omega) (by omega) (by omega) (by omega) (by omega)) rfl lk_RX0_X0_mostOver rfl hl.1 (rk (by omega) (by decide)) ⟨Nat.zero_le _, Nat.zero_le _⟩ (Nat.le_of_ble_eq_true rfl) rfl dX0_mostAtGoal_49 (fun r_15 hr_16 => ?_)
      subst hr_16
      have h_ml := mag_le (b := b) (goal := goal) n (i_5) (bh b at_ (i_5) a) (v ||| 2 ^ (i_5))
      refine va_mmax_long CF.1 CF.2.1 (CF.2.2.1.trans hl.1.symm) CF.2.2.2.1 (CF.2.2.2.2 _ (inr_17 _ (List.mem_of_getElem? (i := 21) rfl))) (CF.2.2.2.2 _ (inr_17 _ (List.mem_of_getElem? (i := 22) rfl))) (CF.2.2.2.2 _ (inr_5 _ (List.mem_of_getElem? (i := 8) rfl))) (CF.2.2.2.2 _ (inr_17 _ (List.mem_of_getElem? (i := 23) rfl))) (show 1 ≤ 2 * (n + 1) + 5 by omega) (ml15 (by omega)) (Nat.zero_le _) (Nat.zero_le _) dX0_mostAtGoal_52 ?_
      refine tpl (mxL (by omega) (by omega)) ?_
      refine lv_lstore (lv' := [(7, .long (lN (max (mgl (mgF b goal n at_ a v) (bh b at_ goal a) (i_5)) (mag b goal n (i_5) (bh b at_ (i_5) a) (v ||| 2 ^ (i_5)))))), (0, .ref (ad 0)), (1, .int (nI (at_))), (2, .int (nI (goal))), (3, .long (lN (a))), (5, .int (nI (v))), (6, .int (nI (n + 1))), (9, .int (nI (i_5)))]) CF.1 CF.2.1 dX0_mostAtGoal_55 hl (by decide) rfl (fun ls hl => ?_)
      refine lv_iinc (v := nI (i_5 + 1)) (lv' := [(9, .int (nI (i_5 + 1))), (7, .long (lN (max (mgl (mgF b goal n at_ a v) (bh b at_ goal a) (i_5)) (mag b goal n (i_5) (bh b at_ (i_5) a) (v ||| 2 ^ (i_5)))))), (0, .ref (ad 0)), (1, .int (nI (at_))), (2, .int (nI (goal))), (3, .long (lN (a))), (5, .int (nI (v))), (6, .int (nI (n + 1)))]) CF.1 CF.2.1 dX0_mostAtGoal_57 hl (k := 7) rfl (by first | exact nI_add _ _ | rfl) (by decide) rfl (fun ls hl => ?_)
      refine lv_goto (tgt := 20) CF.1 CF.2.1 dX0_mostAtGoal_60 (by decide) ?_
      exact ih_6 ls (by omega) (lv_sub hl [2, 3, 4, 5, 6, 7, 1, 0] (by first | (rw [mgl_y (by omega)]; rfl) | (rw [mgl_n (by omega)]; rfl)))
theorem c0_mostAtGoal (l : Launch) {G : va_G} {cA : ClassId} {ad : Nat → Nat} {σ : RS} {b : BS} (hI : InvC b) (hR : Rc σ b) : ∀ n, n ≤ 10 → CtA l G cA ad σ b n
  | 0, _ => c0_mag0 l hI hR
  | n + 1, h => c0_magS l hI hR (by omega) (c0_mostOver l hI hR (by omega) (c0_mostAtGoal l hI hR n (by omega)))
