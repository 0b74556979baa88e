/-- the model's most, as it is written: over all moneys, the end itself ends the way -/
def msl (F : Nat → Nat) : Nat → Nat | 0 => 0 | k + 1 => max (msl F k) (F k)
def mst (b : BS) (goal : Nat) : Nat → Nat → Nat → Nat → Nat
  | 0, _, _, _ => 0
  | n + 1, at_, a, v => msl (fun o => if b 1 (at_ * 5 + o) = 0 then 0 else if o = goal then bh b at_ o a else if v / 2 ^ o % 2 = 1 then 0 else mst b goal n o (bh b at_ o a) (v ||| 2 ^ o)) 5
def msF (b : BS) (goal n at_ a v : Nat) : Nat → Nat := fun o => if b 1 (at_ * 5 + o) = 0 then 0 else if o = goal then bh b at_ o a else if v / 2 ^ o % 2 = 1 then 0 else mst b goal n o (bh b at_ o a) (v ||| 2 ^ o)
theorem mst_s {b : BS} {goal n at_ a v : Nat} : mst b goal (n + 1) at_ a v = msl (msF b goal n at_ a v) 5 := rfl
theorem ms_z {b : BS} {goal n at_ a v o : Nat} (h : b 1 (at_ * 5 + o) = 0) : msl (msF b goal n at_ a v) (o + 1) = msl (msF b goal n at_ a v) o := by
  show max _ (msF b goal n at_ a v o) = _
  have h2 : msF b goal n at_ a v o = 0 := by unfold msF; rw [if_pos h]
  rw [h2]; omega
theorem ms_v {b : BS} {goal n at_ a v o : Nat} (h : ¬ o = goal) (hv : v / 2 ^ o % 2 = 1) : msl (msF b goal n at_ a v) (o + 1) = msl (msF b goal n at_ a v) o := by
  show max _ (msF b goal n at_ a v o) = _
  have h2 : msF b goal n at_ a v o = 0 := by
    unfold msF
    rw [if_neg h, if_pos hv]
    split <;> rfl
  rw [h2]; omega
theorem ms_e {b : BS} {goal n at_ a v o : Nat} (hz : ¬ b 1 (at_ * 5 + o) = 0) (h : o = goal) : msl (msF b goal n at_ a v) (o + 1) = max (msl (msF b goal n at_ a v) o) (bh b at_ o a) := by
  show max _ (msF b goal n at_ a v o) = _
  have h2 : msF b goal n at_ a v o = bh b at_ o a := by unfold msF; rw [if_neg hz, if_pos h]
  rw [h2]
theorem ms_r {b : BS} {goal n at_ a v o : Nat} (hz : ¬ b 1 (at_ * 5 + o) = 0) (h : ¬ o = goal) (hv : ¬ v / 2 ^ o % 2 = 1) : msl (msF b goal n at_ a v) (o + 1) = max (msl (msF b goal n at_ a v) o) (mst b goal n o (bh b at_ o a) (v ||| 2 ^ o)) := by
  show max _ (msF b goal n at_ a v o) = _
  have h2 : msF b goal n at_ a v o = mst b goal n o (bh b at_ o a) (v ||| 2 ^ o) := by unfold msF; rw [if_neg hz, if_neg h, if_neg hv]
  rw [h2]
theorem msl_le {F : Nat → Nat} {B : Nat} (hF : ∀ o, F o ≤ B) : ∀ k, msl F k ≤ B
  | 0 => Nat.zero_le _
  | k + 1 => Nat.max_le.mpr ⟨msl_le hF k, hF k⟩
theorem mst_le {b : BS} {goal : Nat} : ∀ n at_ a v, mst b goal n at_ a v ≤ 2147483647
  | 0, _, _, _ => Nat.zero_le _
  | n + 1, at_, a, v => by
    rw [mst_s]
    refine msl_le (fun o => ?_) 5
    unfold msF
    repeat' split
    all_goals first | exact Nat.zero_le _ | exact bh_le | exact mst_le n _ _ _
theorem msF_le {b : BS} {goal n at_ a v o : Nat} : msF b goal n at_ a v o ≤ 2147483647 := by
  unfold msF
  repeat' split
  all_goals first | exact Nat.zero_le _ | exact bh_le | exact mst_le n _ _ _
theorem bh_0 {b : BS} {f t : Nat} : bh b f t 0 = 0 := by unfold bh gv pr; rw [Nat.zero_mul, Nat.zero_mul, Nat.zero_div, Nat.zero_min]
theorem bh_z {b : BS} {f t a : Nat} (h : b 1 (f * 5 + t) = 0) : bh b f t a = 0 := by unfold bh gv pr; rw [h, Nat.mul_zero, Nat.zero_mul, Nat.zero_div, Nat.zero_min]
theorem mag_0 {b : BS} {goal : Nat} : ∀ n at_ v, mag b goal n at_ 0 v = 0
  | 0, _, _ => rfl
  | n + 1, at_, v => by
    rw [mag_s]
    refine Nat.le_zero.mp (mgl_le (by rw [bh_0]; omega) (fun o => ?_) 5)
    unfold mgF
    split
    · rw [bh_0, mag_0 n]; omega
    · omega
theorem bits5 : ∀ v : Fin 32, ∀ o : Fin 5, ∀ g : Fin 5, ((v.1 ||| 2 ^ g.1) &&& 2 ^ o.1 = 0 ↔ (o.1 ≠ g.1 ∧ ¬ v.1 / 2 ^ o.1 % 2 = 1)) := by decide +kernel
theorem mgms {F F' : Nat → Nat} {x g : Nat} (hg : g < 5) (h : ∀ o, o < 5 → o ≠ g → F o = F' o) (h0 : F g = 0) (h1 : F' g = x) : mgl F x 5 = msl F' 5 := by
  show max (max (max (max (max x (F 0)) (F 1)) (F 2)) (F 3)) (F 4) = max (max (max (max (max 0 (F' 0)) (F' 1)) (F' 2)) (F' 3)) (F' 4)
  rcases (show g = 0 ∨ g = 1 ∨ g = 2 ∨ g = 3 ∨ g = 4 by omega) with rfl | rfl | rfl | rfl | rfl
  · have := h 1 (by omega) (by omega); have := h 2 (by omega) (by omega); have := h 3 (by omega) (by omega); have := h 4 (by omega) (by omega); omega
  · have := h 0 (by omega) (by omega); have := h 2 (by omega) (by omega); have := h 3 (by omega) (by omega); have := h 4 (by omega) (by omega); omega
  · have := h 0 (by omega) (by omega); have := h 1 (by omega) (by omega); have := h 3 (by omega) (by omega); have := h 4 (by omega) (by omega); omega
  · have := h 0 (by omega) (by omega); have := h 1 (by omega) (by omega); have := h 2 (by omega) (by omega); have := h 4 (by omega) (by omega); omega
  · have := h 0 (by omega) (by omega); have := h 1 (by omega) (by omega); have := h 2 (by omega) (by omega); have := h 3 (by omega) (by omega); omega
/-- class and model find the same -/
theorem mag_mst {b : BS} {goal : Nat} (hg : goal < 5) : ∀ n at_ a v, v < 32 → mag b goal n at_ a (v ||| 2 ^ goal) = mst b goal n at_ a v
  | 0, _, _, _, _ => rfl
  | n + 1, at_, a, v, hv => by
    rw [mag_s, mst_s]
    refine mgms hg (fun o ho hne => ?_) ?_ ?_
    · have hb := bits5 ⟨v, hv⟩ ⟨o, ho⟩ ⟨goal, hg⟩
      dsimp only at hb
      unfold mgF msF
      by_cases hz : b 1 (at_ * 5 + o) = 0
      · rw [if_pos hz, bh_z hz, mag_0]
        split <;> rfl
      · rw [if_neg hz, if_neg hne]
        by_cases hv1 : v / 2 ^ o % 2 = 1
        · rw [if_pos hv1, if_neg (fun z => (hb.mp z).2 hv1)]
        · rw [if_neg hv1, if_pos (hb.mpr ⟨hne, hv1⟩)]
          have e : v ||| 2 ^ goal ||| 2 ^ o = v ||| 2 ^ o ||| 2 ^ goal := by rw [Nat.or_assoc, Nat.or_comm (2 ^ goal), ← Nat.or_assoc]
          rw [e]
          exact mag_mst hg n o _ _ (or_lt hv ho)
    · have hb := bits5 ⟨v, hv⟩ ⟨goal, hg⟩ ⟨goal, hg⟩
      dsimp only at hb
      unfold mgF
      rw [if_neg (fun z => (hb.mp z).1 rfl)]
    · unfold msF
      by_cases hz : b 1 (at_ * 5 + goal) = 0
      · rw [if_pos hz, bh_z hz]
      · rw [if_neg hz, if_pos rfl]
def CtM (l : Launch) (G : va_G) (cA : ClassId) (ad : Nat → Nat) (σ : RS) (b : BS) (n : Nat) : Prop := ∀ at_ goal a v, at_ < 5 → goal < 5 → a ≤ 2147483647 → v < 32 → Met l yX1_most (ws_ yX1_most cX1_most 13 (some .long)) (rmk (n + 5) 0 0) (pc1 G cA ad σ [.ref (ad 0), .int (nI at_), .int (nI goal), .long (lN a), .int (nI v), .int (nI n)]) (rql (fun r => r = lN (mst b goal n at_ a v))) 0 0 (fun _ => False)

set_option maxHeartbeats 1000000 in
set_option maxRecDepth 100000 in
theorem c1_mst0 (l : Launch) {G : va_G} {cA : ClassId} {ad : Nat → Nat} {σ : RS} {b : BS} (hI : InvC b) (hR : Rc σ b) : CtM l G cA ad σ b 0 := by
  intro at_ goal a v hat hgoal ha hv
  refine Met.ofW (cc := cX1_most) (maxL := 13) (ret := (some .long)) (by decide) rfl ?_
  intro p e s m args below meth c s₁ B hml hv
  obtain ⟨rfl, hP, hK⟩ := hv
  have CF : CallFix p m c cX1_most 13 s _ AW RX1 := ⟨B.exec, B.bytes, hml, findClass_of_methodNamed B.named, fun w h => atoms_spec (ws := ws_ yX1_most cX1_most 13 (some .long)) B.pre w (List.mem_cons_of_mem _ h)⟩
  have hr := B.returns
  have hlocks := B.notSynchronized
  have hl := lv_entry ([.ref (ad 0), .int (nI (at_)), .int (nI (goal)), .long (lN (a)), .int (nI (v)), .int (nI (0))]) (n := 13) (Nat.le_of_ble_eq_true rfl)
  rw [lg_entry_eq]
  show W p l e (rmk (0 + 5) 0 0) s m _ below meth c s.heap [] 0 0 _ _
  generalize (lg_sl ([.ref (ad 0), .int (nI (at_)), .int (nI (goal)), .long (lN (a)), .int (nI (v)), .int (nI (0))]) ++ List.replicate (13 - (lg_sl ([.ref (ad 0), .int (nI (at_)), .int (nI (goal)), .long (lN (a)), .int (nI (v)), .int (nI (0))])).length) Slot.unset).toArray = ls at hl ⊢
  have hl : lv_has ls 13 [(0, .ref (ad 0)), (1, .int (nI (at_))), (2, .int (nI (goal))), (3, .long (lN (a))), (5, .int (nI (v))), (6, .int (nI (0)))] := hl
  obtain ⟨i_sp, i_cu, i_ra, i_di, i_mo, i_pu⟩ := id hI
  refine lv_lconst (v := lN 0) CF.1 CF.2.1 dX1_most_0 (by decide) ?_
  refine lv_lstore (lv' := [(7, .long (lN (0))), (0, .ref (ad 0)), (1, .int (nI (at_))), (2, .int (nI (goal))), (3, .long (lN (a))), (5, .int (nI (v))), (6, .int (nI (0)))]) CF.1 CF.2.1 dX1_most_1 hl (by decide) rfl (fun ls hl => ?_)
  refine lv_iconst (v := nI 0) CF.1 CF.2.1 dX1_most_3 (by decide) ?_
  refine lv_istore (lv' := [(9, .int (nI (0))), (7, .long (lN (0))), (0, .ref (ad 0)), (1, .int (nI (at_))), (2, .int (nI (goal))), (3, .long (lN (a))), (5, .int (nI (v))), (6, .int (nI (0)))]) CF.1 CF.2.1 dX1_most_4 hl (by decide) rfl (fun ls hl => ?_)
  refine lv_iload CF.1 CF.2.1 dX1_most_6 (lv_at hl 0 rfl) ?_
  refine lv_iconst (v := nI 5) CF.1 CF.2.1 dX1_most_8 (by decide) ?_
  refine z_icmp_ge CF (tgt := 122) (nIz (by omega)) (nIz (by omega)) dX1_most_9 (by decide) (fun h => absurd h (by decide)) (fun _ => ?_)
  refine lv_iload CF.1 CF.2.1 dX1_most_12 (lv_at hl 7 rfl) ?_
  refine z_if_le CF (tgt := 122) (nIz (by omega)) dX1_most_14 (by decide) (fun _ => ?_) (fun h => absurd h (by decide))
  refine lv_lload CF.1 CF.2.1 dX1_most_122 (lv_at hl 1 rfl) ?_
  exact W.lret CF.1 CF.2.1 hr (fun t9 ht9 hW9 => ⟨_, rfl, rfl, ht9⟩) (fun q hq => absurd hq List.not_mem_nil) dX1_most_124
set_option maxHeartbeats 1000000 in
set_option maxRecDepth 100000 in
theorem c1_mstS (l : Launch) {G : va_G} {cA : ClassId} {ad : Nat → Nat} {σ : RS} {b : BS} (hI : InvC b) (hR : Rc σ b) {n : Nat} (hn : n < 10) (hA : CtM l G cA ad σ b n) : CtM l G cA ad σ b (n + 1) := by
  intro at_ goal a v hat hgoal ha hv
  refine Met.ofW (cc := cX1_most) (maxL := 13) (ret := (some .long)) (by decide) rfl ?_
  intro p e s m args below meth c s₁ B hml hv
  obtain ⟨rfl, hP, hK⟩ := hv
  have CF : CallFix p m c cX1_most 13 s _ AW RX1 := ⟨B.exec, B.bytes, hml, findClass_of_methodNamed B.named, fun w h => atoms_spec (ws := ws_ yX1_most cX1_most 13 (some .long)) B.pre w (List.mem_cons_of_mem _ h)⟩
  have hr := B.returns
  have hlocks := B.notSynchronized
  have hl := lv_entry ([.ref (ad 0), .int (nI (at_)), .int (nI (goal)), .long (lN (a)), .int (nI (v)), .int (nI (n + 1))]) (n := 13) (Nat.le_of_ble_eq_true rfl)
  rw [lg_entry_eq]
  show W p l e (rmk (n + 1 + 5) 0 0) s m _ below meth c s.heap [] 0 0 _ _
  generalize (lg_sl ([.ref (ad 0), .int (nI (at_)), .int (nI (goal)), .long (lN (a)), .int (nI (v)), .int (nI (n + 1))]) ++ List.replicate (13 - (lg_sl ([.ref (ad 0), .int (nI (at_)), .int (nI (goal)), .long (lN (a)), .int (nI (v)), .int (nI (n + 1))])).length) Slot.unset).toArray = ls at hl ⊢
  have hl : lv_has ls 13 [(0, .ref (ad 0)), (1, .int (nI (at_))), (2, .int (nI (goal))), (3, .long (lN (a))), (5, .int (nI (v))), (6, .int (nI (n + 1)))] := hl
  obtain ⟨i_sp, i_cu, i_ra, i_di, i_mo, i_pu⟩ := id hI
  refine lv_lconst (v := lN 0) CF.1 CF.2.1 dX1_most_0 (by decide) ?_
  refine lv_lstore (lv' := [(7, .long (lN (0))), (0, .ref (ad 0)), (1, .int (nI (at_))), (2, .int (nI (goal))), (3, .long (lN (a))), (5, .int (nI (v))), (6, .int (nI (n + 1)))]) CF.1 CF.2.1 dX1_most_1 hl (by decide) rfl (fun ls hl => ?_)
  refine lv_iconst (v := nI 0) CF.1 CF.2.1 dX1_most_3 (by decide) ?_
  refine lv_istore (lv' := [(9, .int (nI (0))), (7, .long (lN (0))), (0, .ref (ad 0)), (1, .int (nI (at_))), (2, .int (nI (goal))), (3, .long (lN (a))), (5, .int (nI (v))), (6, .int (nI (n + 1)))]) CF.1 CF.2.1 dX1_most_4 hl (by decide) rfl (fun ls hl => ?_)
  refine loop_ro (fun i => [(0, .ref (ad 0)), (1, .int (nI (at_))), (2, .int (nI (goal))), (3, .long (lN (a))), (5, .int (nI (v))), (6, .int (nI (n + 1))), (7, .long (lN (msl (msF b goal n at_ a v) (i)))), (9, .int (nI (i)))]) (5) (0) (lv_sub hl [2, 3, 4, 5, 6, 7, 1, 0] rfl) (by omega) (fun i_1 h_4 h_3 ih_2 ls hl => ?_)
  have h_mm := msl_le (B := 2147483647) (fun o => msF_le (b := b) (goal := goal) (n := n) (at_ := at_) (a := a) (v := v) (o := o)) i_1
  refine lv_iload CF.1 CF.2.1 dX1_most_6 (lv_at hl 7 rfl) ?_
  refine lv_iconst (v := nI 5) CF.1 CF.2.1 dX1_most_8 (by decide) ?_
  refine z_icmp_ge CF (tgt := 122) (nIz (by omega)) (nIz (by omega)) dX1_most_9 (by decide) (fun h_5 => ?_) (fun h_6 => ?_)
  · refine lv_lload CF.1 CF.2.1 dX1_most_122 (lv_at hl 6 rfl) ?_
    exact W.lret CF.1 CF.2.1 hr (fun t9 ht9 hW9 => ⟨_, rfl, by rw [mst_s, show i_1 = 5 by omega], ht9⟩) (fun q hq => absurd hq List.not_mem_nil) dX1_most_124
  · refine lv_iload CF.1 CF.2.1 dX1_most_12 (lv_at hl 5 rfl) ?_
    refine z_if_le CF (tgt := 122) (nIz (by omega)) dX1_most_14 (by decide) (fun h_7 => absurd h_7 (by omega)) (fun h_8 => ?_)
    have h_ra := i_ra (at_ * 5 + i_1) (by omega)
    have h_gb := gq_le (b := b) (a := a) (x := b 1 (at_ * 5 + i_1)) (A := 2147483647) (X := 9999) ha h_ra
    have h_gq : gq b a (b 1 (at_ * 5 + i_1)) = a * b 1 (at_ * 5 + i_1) * (100 - b 0 1) / 10000 := rfl
    have h_bh := bh_le (b := b) (f := at_) (t := i_1) (a := a)
    refine lv_iload CF.1 CF.2.1 dX1_most_17 (lv_at hl 7 rfl) ?_
    refine lv_iload_n CF.1 CF.2.1 dX1_most_19 rfl (lv_at hl 2 rfl) ?_
    refine z_icmp_ne CF (tgt := 27) (nIz (by omega)) (nIz (by omega)) dX1_most_20 (by decide) (fun h_9 => ?_) (fun h_10 => ?_)
    · refine lv_iconst (v := nI 0) CF.1 CF.2.1 dX1_most_27 (by decide) ?_
      refine lv_istore (lv' := [(10, .int (nI (0))), (0, .ref (ad 0)), (1, .int (nI (at_))), (2, .int (nI (goal))), (3, .long (lN (a))), (5, .int (nI (v))), (6, .int (nI (n + 1))), (7, .long (lN (msl (msF b goal n at_ a v) (i_1)))), (9, .int (nI (i_1)))]) CF.1 CF.2.1 dX1_most_28 hl (by decide) rfl (fun ls hl => ?_)
      refine lv_aload_n CF.1 CF.2.1 dX1_most_30 rfl (lv_at hl 1 rfl) ?_
      refine lv_iload_n CF.1 CF.2.1 dX1_most_31 rfl (lv_at hl 2 rfl) ?_
      refine lv_iload CF.1 CF.2.1 dX1_most_32 (lv_at hl 8 rfl) ?_
      refine c1_i CF hK hP (As := [.int (nI (at_)), .int (nI (i_1))]) (rest := []) (c1_rate l hI hR (f := at_) (t := i_1) (by omega) (by omega)) rfl lk_RX1_X1_rate rfl hl.1 (rk (by omega) (by decide)) ⟨Nat.zero_le _, Nat.zero_le _⟩ (Nat.le_of_ble_eq_true rfl) rfl dX1_most_34 (fun r_11 hr_12 => ?_)
      subst hr_12
      refine z_if_eq CF (tgt := 116) (nIz (by omega)) dX1_most_37 (by decide) (fun h_13 => ?_) (fun h_14 => ?_)
      · refine lv_iinc (v := nI (i_1 + 1)) (lv' := [(9, .int (nI (i_1 + 1))), (10, .int (nI (0))), (0, .ref (ad 0)), (1, .int (nI (at_))), (2, .int (nI (goal))), (3, .long (lN (a))), (5, .int (nI (v))), (6, .int (nI (n + 1))), (7, .long (lN (msl (msF b goal n at_ a v) (i_1))))]) CF.1 CF.2.1 dX1_most_116 hl (k := 8) rfl (by first | exact nI_add _ _ | rfl) (by decide) rfl (fun ls hl => ?_)
        refine lv_goto (tgt := 6) CF.1 CF.2.1 dX1_most_119 (by decide) ?_
        exact ih_2 ls (by omega) (lv_sub hl [2, 3, 4, 5, 6, 7, 8, 0] (by first | (rw [ms_z (by omega)]; rfl) | (rw [ms_v (by omega) (by omega)]; rfl) | (rw [ms_e (by omega) (by omega)]; rfl) | (rw [ms_r (by omega) (by omega) (by omega)]; rfl)))
      · refine lv_iload CF.1 CF.2.1 dX1_most_40 (lv_at hl 0 rfl) ?_
        refine z_if_ne CF (tgt := 59) (nIz (by omega)) dX1_most_42 (by decide) (fun h => absurd h (by decide)) (fun _ => ?_)
        refine lv_iload CF.1 CF.2.1 dX1_most_45 (lv_at hl 5 rfl) ?_
        refine lv_iload CF.1 CF.2.1 dX1_most_47 (lv_at hl 8 rfl) ?_
        refine lv_ishr CF.1 CF.2.1 dX1_most_49 ?_
        refine tpi (shr1 (v := v) (j := i_1) (by omega) (by omega)) ?_
        refine lv_iconst (v := nI 1) CF.1 CF.2.1 dX1_most_50 (by decide) ?_
        refine lv_iand CF.1 CF.2.1 dX1_most_51 ?_
        refine tpi (andI _ _) ?_
        refine tpi (show nI ((v / 2 ^ i_1) &&& 1) = nI (v / 2 ^ i_1 % 2) from congrArg nI (Nat.and_one_is_mod _)) ?_
        refine lv_iconst (v := nI 1) CF.1 CF.2.1 dX1_most_52 (by decide) ?_
        refine z_icmp_ne CF (tgt := 59) (nIz (by omega)) (nIz (by omega)) dX1_most_53 (by decide) (fun h_17 => ?_) (fun h_18 => ?_)
        · refine lv_ldc2 (v := lN 2147483647) CF.1 CF.2.1 CF.2.2.2.1 (CF.2.2.2.2 _ (inr_18 _ (List.mem_of_getElem? (i := 17) rfl))) dX1_most_59 ?_
          refine lv_aload_n CF.1 CF.2.1 dX1_most_62 rfl (lv_at hl 1 rfl) ?_
          refine lv_lload_n CF.1 CF.2.1 dX1_most_63 rfl (lv_at hl 4 rfl) ?_
          refine lv_aload_n CF.1 CF.2.1 dX1_most_64 rfl (lv_at hl 1 rfl) ?_
          refine lv_iload_n CF.1 CF.2.1 dX1_most_65 rfl (lv_at hl 2 rfl) ?_
          refine lv_iload CF.1 CF.2.1 dX1_most_66 (lv_at hl 8 rfl) ?_
          refine c1_i CF hK hP (As := [.int (nI (at_)), .int (nI (i_1))]) (rest := [.long (lN (a)), .ref (ad 0), .long (lN (2147483647))]) (c1_rate l hI hR (f := at_) (t := i_1) (by omega) (by omega)) rfl lk_RX1_X1_rate rfl hl.1 (rk (by omega) (by decide)) ⟨Nat.zero_le _, Nat.zero_le _⟩ (Nat.le_of_ble_eq_true rfl) rfl dX1_most_68 (fun r_19 hr_20 => ?_)
          subst hr_20
          refine c1_l CF hK hP (As := [.long (lN (a)), .int (nI (b 1 (at_ * 5 + i_1)))]) (rest := [.long (lN (2147483647))]) (c1_gives l hI hR (a := a) (x := b 1 (at_ * 5 + i_1)) (by omega) (by omega)) rfl lk_RX1_X1_gives rfl hl.1 (rk (by omega) (by decide)) ⟨Nat.zero_le _, Nat.zero_le _⟩ (Nat.le_of_ble_eq_true rfl) rfl dX1_most_71 (fun r_21 hr_22 => ?_)
          subst hr_22
          refine va_mmin_long CF.1 CF.2.1 (CF.2.2.1.trans hl.1.symm) CF.2.2.2.1 (CF.2.2.2.2 _ (inr_18 _ (List.mem_of_getElem? (i := 18) rfl))) (CF.2.2.2.2 _ (inr_5 _ (List.mem_of_getElem? (i := 7) rfl))) (CF.2.2.2.2 _ (inr_5 _ (List.mem_of_getElem? (i := 8) rfl))) (CF.2.2.2.2 _ (inr_5 _ (List.mem_of_getElem? (i := 9) rfl))) (show 1 ≤ n + 1 + 5 by omega) (ml15 (by omega)) (Nat.zero_le _) (Nat.zero_le _) dX1_most_74 ?_
          refine tpl (mnL (by omega) (by omega)) ?_
          refine tpl (y := lN (bh b at_ i_1 a)) (congrArg lN (Nat.min_comm _ _)) ?_
          refine lv_lstore (lv' := [(11, .long (lN (bh b at_ i_1 a))), (10, .int (nI (0))), (0, .ref (ad 0)), (1, .int (nI (at_))), (2, .int (nI (goal))), (3, .long (lN (a))), (5, .int (nI (v))), (6, .int (nI (n + 1))), (7, .long (lN (msl (msF b goal n at_ a v) (i_1)))), (9, .int (nI (i_1)))]) CF.1 CF.2.1 dX1_most_77 hl (by decide) rfl (fun ls hl => ?_)
          refine lv_lload CF.1 CF.2.1 dX1_most_79 (lv_at hl 8 rfl) ?_
          refine lv_iload CF.1 CF.2.1 dX1_most_81 (lv_at hl 1 rfl) ?_
          refine z_if_eq CF (tgt := 91) (nIz (by omega)) dX1_most_83 (by decide) (fun _ => ?_) (fun h => absurd h (by decide))
          refine lv_aload_n CF.1 CF.2.1 dX1_most_91 rfl (lv_at hl 2 rfl) ?_
          refine lv_iload CF.1 CF.2.1 dX1_most_92 (lv_at hl 9 rfl) ?_
          refine lv_iload_n CF.1 CF.2.1 dX1_most_94 rfl (lv_at hl 4 rfl) ?_
          refine lv_lload CF.1 CF.2.1 dX1_most_95 (lv_at hl 0 rfl) ?_
          refine lv_iload CF.1 CF.2.1 dX1_most_97 (lv_at hl 6 rfl) ?_
          refine lv_iconst (v := nI 1) CF.1 CF.2.1 dX1_most_99 (by decide) ?_
          refine lv_iload CF.1 CF.2.1 dX1_most_100 (lv_at hl 9 rfl) ?_
          refine lv_ishl CF.1 CF.2.1 dX1_most_102 ?_
          refine tpi (show nI 1 <<< (nI (i_1) &&& 31) = nI (2 ^ (i_1)) from shl1 (by omega)) ?_
          refine lv_ior CF.1 CF.2.1 dX1_most_103 ?_
          refine tpi (orI _ _) ?_
          refine lv_iload CF.1 CF.2.1 dX1_most_104 (lv_at hl 7 rfl) ?_
          refine lv_iconst (v := nI 1) CF.1 CF.2.1 dX1_most_106 (by decide) ?_
          refine o_isub CF (by omega) dX1_most_107 ?_
          refine tpi (congrArg nI (show n + 1 - 1 = n by omega)) ?_
          refine c1_l CF hK hP (As := [.int (nI (i_1)), .int (nI (goal)), .long (lN (bh b at_ i_1 a)), .int (nI ((v) ||| (2 ^ (i_1)))), .int (nI (n))]) (rest := [.long (lN (msl (msF b goal n at_ a v) (i_1)))]) (hA (i_1) goal (bh b at_ i_1 a) ((v) ||| (2 ^ (i_1))) (by omega) (by omega) bh_le (or_lt hv (by omega))) rfl lk_RX1_X1_most rfl hl.1 (rk (by omega) (by decide)) ⟨Nat.zero_le _, Nat.zero_le _⟩ (Nat.le_of_ble_eq_true rfl) rfl dX1_most_108 (fun r_25 hr_26 => ?_)
          subst hr_26
          have h_ml := mst_le (b := b) (goal := goal) n i_1 (bh b at_ i_1 a) (v ||| 2 ^ i_1)
          refine va_mmax_long CF.1 CF.2.1 (CF.2.2.1.trans hl.1.symm) CF.2.2.2.1 (CF.2.2.2.2 _ (inr_18 _ (List.mem_of_getElem? (i := 19) rfl))) (CF.2.2.2.2 _ (inr_17 _ (List.mem_of_getElem? (i := 22) rfl))) (CF.2.2.2.2 _ (inr_5 _ (List.mem_of_getElem? (i := 8) rfl))) (CF.2.2.2.2 _ (inr_17 _ (List.mem_of_getElem? (i := 23) rfl))) (show 1 ≤ n + 1 + 5 by omega) (ml15 (by omega)) (Nat.zero_le _) (Nat.zero_le _) dX1_most_111 ?_
          refine tpl (mxL (by omega) (by omega)) ?_
          refine lv_lstore (lv' := [(7, .long (lN (max (msl (msF b goal n at_ a v) (i_1)) (mst b goal n i_1 (bh b at_ i_1 a) (v ||| 2 ^ i_1))))), (11, .long (lN (bh b at_ i_1 a))), (10, .int (nI (0))), (0, .ref (ad 0)), (1, .int (nI (at_))), (2, .int (nI (goal))), (3, .long (lN (a))), (5, .int (nI (v))), (6, .int (nI (n + 1))), (9, .int (nI (i_1)))]) CF.1 CF.2.1 dX1_most_114 hl (by decide) rfl (fun ls hl => ?_)
          refine lv_iinc (v := nI (i_1 + 1)) (lv' := [(9, .int (nI (i_1 + 1))), (7, .long (lN (max (msl (msF b goal n at_ a v) (i_1)) (mst b goal n i_1 (bh b at_ i_1 a) (v ||| 2 ^ i_1))))), (11, .long (lN (bh b at_ i_1 a))), (10, .int (nI (0))), (0, .ref (ad 0)), (1, .int (nI (at_))), (2, .int (nI (goal))), (3, .long (lN (a))), (5, .int (nI (v))), (6, .int (nI (n + 1)))]) CF.1 CF.2.1 dX1_most_116 hl (k := 9) rfl (by first | exact nI_add _ _ | rfl) (by decide) rfl (fun ls hl => ?_)
          refine lv_goto (tgt := 6) CF.1 CF.2.1 dX1_most_119 (by decide) ?_
          exact ih_2 ls (by omega) (lv_sub hl [4, 5, 6, 7, 8, 9, 1, 0] (by first | (rw [ms_z (by omega)]; rfl) | (rw [ms_v (by omega) (by omega)]; rfl) | (rw [ms_e (by omega) (by omega)]; rfl) | (rw [ms_r (by omega) (by omega) (by omega)]; rfl)))
        · refine lv_goto (tgt := 116) CF.1 CF.2.1 dX1_most_56 (by decide) ?_
          refine lv_iinc (v := nI (i_1 + 1)) (lv' := [(9, .int (nI (i_1 + 1))), (10, .int (nI (0))), (0, .ref (ad 0)), (1, .int (nI (at_))), (2, .int (nI (goal))), (3, .long (lN (a))), (5, .int (nI (v))), (6, .int (nI (n + 1))), (7, .long (lN (msl (msF b goal n at_ a v) (i_1))))]) CF.1 CF.2.1 dX1_most_116 hl (k := 8) rfl (by first | exact nI_add _ _ | rfl) (by decide) rfl (fun ls hl => ?_)
          refine lv_goto (tgt := 6) CF.1 CF.2.1 dX1_most_119 (by decide) ?_
          exact ih_2 ls (by omega) (lv_sub hl [2, 3, 4, 5, 6, 7, 8, 0] (by first | (rw [ms_z (by omega)]; rfl) | (rw [ms_v (by omega) (by omega)]; rfl) | (rw [ms_e (by omega) (by omega)]; rfl) | (rw [ms_r (by omega) (by omega) (by omega)]; rfl)))
    · refine lv_iconst (v := nI 1) CF.1 CF.2.1 dX1_most_23 (by decide) ?_
      refine lv_goto (tgt := 28) CF.1 CF.2.1 dX1_most_24 (by decide) ?_
      refine lv_istore (lv' := [(10, .int (nI (1))), (0, .ref (ad 0)), (1, .int (nI (at_))), (2, .int (nI (goal))), (3, .long (lN (a))), (5, .int (nI (v))), (6, .int (nI (n + 1))), (7, .long (lN (msl (msF b goal n at_ a v) (i_1)))), (9, .int (nI (i_1)))]) CF.1 CF.2.1 dX1_most_28 hl (by decide) rfl (fun ls hl => ?_)
      refine lv_aload_n CF.1 CF.2.1 dX1_most_30 rfl (lv_at hl 1 rfl) ?_
      refine lv_iload_n CF.1 CF.2.1 dX1_most_31 rfl (lv_at hl 2 rfl) ?_
      refine lv_iload CF.1 CF.2.1 dX1_most_32 (lv_at hl 8 rfl) ?_
      refine c1_i CF hK hP (As := [.int (nI (at_)), .int (nI (i_1))]) (rest := []) (c1_rate l hI hR (f := at_) (t := i_1) (by omega) (by omega)) rfl lk_RX1_X1_rate rfl hl.1 (rk (by omega) (by decide)) ⟨Nat.zero_le _, Nat.zero_le _⟩ (Nat.le_of_ble_eq_true rfl) rfl dX1_most_34 (fun r_27 hr_28 => ?_)
      subst hr_28
      refine z_if_eq CF (tgt := 116) (nIz (by omega)) dX1_most_37 (by decide) (fun h_29 => ?_) (fun h_30 => ?_)
      · refine lv_iinc (v := nI (i_1 + 1)) (lv' := [(9, .int (nI (i_1 + 1))), (10, .int (nI (1))), (0, .ref (ad 0)), (1, .int (nI (at_))), (2, .int (nI (goal))), (3, .long (lN (a))), (5, .int (nI (v))), (6, .int (nI (n + 1))), (7, .long (lN (msl (msF b goal n at_ a v) (i_1))))]) CF.1 CF.2.1 dX1_most_116 hl (k := 8) rfl (by first | exact nI_add _ _ | rfl) (by decide) rfl (fun ls hl => ?_)
        refine lv_goto (tgt := 6) CF.1 CF.2.1 dX1_most_119 (by decide) ?_
        exact ih_2 ls (by omega) (lv_sub hl [2, 3, 4, 5, 6, 7, 8, 0] (by first | (rw [ms_z (by omega)]; rfl) | (rw [ms_v (by omega) (by omega)]; rfl) | (rw [ms_e (by omega) (by omega)]; rfl) | (rw [ms_r (by omega) (by omega) (by omega)]; rfl)))
      · refine lv_iload CF.1 CF.2.1 dX1_most_40 (lv_at hl 0 rfl) ?_
        refine z_if_ne CF (tgt := 59) (nIz (by omega)) dX1_most_42 (by decide) (fun _ => ?_) (fun h => absurd h (by decide))
        refine lv_ldc2 (v := lN 2147483647) CF.1 CF.2.1 CF.2.2.2.1 (CF.2.2.2.2 _ (inr_18 _ (List.mem_of_getElem? (i := 17) rfl))) dX1_most_59 ?_
        refine lv_aload_n CF.1 CF.2.1 dX1_most_62 rfl (lv_at hl 1 rfl) ?_
        refine lv_lload_n CF.1 CF.2.1 dX1_most_63 rfl (lv_at hl 4 rfl) ?_
        refine lv_aload_n CF.1 CF.2.1 dX1_most_64 rfl (lv_at hl 1 rfl) ?_
        refine lv_iload_n CF.1 CF.2.1 dX1_most_65 rfl (lv_at hl 2 rfl) ?_
        refine lv_iload CF.1 CF.2.1 dX1_most_66 (lv_at hl 8 rfl) ?_
        refine c1_i CF hK hP (As := [.int (nI (at_)), .int (nI (i_1))]) (rest := [.long (lN (a)), .ref (ad 0), .long (lN (2147483647))]) (c1_rate l hI hR (f := at_) (t := i_1) (by omega) (by omega)) rfl lk_RX1_X1_rate rfl hl.1 (rk (by omega) (by decide)) ⟨Nat.zero_le _, Nat.zero_le _⟩ (Nat.le_of_ble_eq_true rfl) rfl dX1_most_68 (fun r_33 hr_34 => ?_)
        subst hr_34
        refine c1_l CF hK hP (As := [.long (lN (a)), .int (nI (b 1 (at_ * 5 + i_1)))]) (rest := [.long (lN (2147483647))]) (c1_gives l hI hR (a := a) (x := b 1 (at_ * 5 + i_1)) (by omega) (by omega)) rfl lk_RX1_X1_gives rfl hl.1 (rk (by omega) (by decide)) ⟨Nat.zero_le _, Nat.zero_le _⟩ (Nat.le_of_ble_eq_true rfl) rfl dX1_most_71 (fun r_35 hr_36 => ?_)
        subst hr_36
        refine va_mmin_long CF.1 CF.2.1 (CF.2.2.1.trans hl.1.symm) CF.2.2.2.1 (CF.2.2.2.2 _ (inr_18 _ (List.mem_of_getElem? (i := 18) rfl))) (CF.2.2.2.2 _ (inr_5 _ (List.mem_of_getElem? (i := 7) rfl))) (CF.2.2.2.2 _ (inr_5 _ (List.mem_of_getElem? (i := 8) rfl))) (CF.2.2.2.2 _ (inr_5 _ (List.mem_of_getElem? (i := 9) rfl))) (show 1 ≤ n + 1 + 5 by omega) (ml15 (by omega)) (Nat.zero_le _) (Nat.zero_le _) dX1_most_74 ?_
        refine tpl (mnL (by omega) (by omega)) ?_
        refine tpl (y := lN (bh b at_ i_1 a)) (congrArg lN (Nat.min_comm _ _)) ?_
        refine lv_lstore (lv' := [(11, .long (lN (bh b at_ i_1 a))), (10, .int (nI (1))), (0, .ref (ad 0)), (1, .int (nI (at_))), (2, .int (nI (goal))), (3, .long (lN (a))), (5, .int (nI (v))), (6, .int (nI (n + 1))), (7, .long (lN (msl (msF b goal n at_ a v) (i_1)))), (9, .int (nI (i_1)))]) CF.1 CF.2.1 dX1_most_77 hl (by decide) rfl (fun ls hl => ?_)
        refine lv_lload CF.1 CF.2.1 dX1_most_79 (lv_at hl 8 rfl) ?_
        refine lv_iload CF.1 CF.2.1 dX1_most_81 (lv_at hl 1 rfl) ?_
        refine z_if_eq CF (tgt := 91) (nIz (by omega)) dX1_most_83 (by decide) (fun h => absurd h (by decide)) (fun _ => ?_)
        refine lv_lload CF.1 CF.2.1 dX1_most_86 (lv_at hl 0 rfl) ?_
        refine lv_goto (tgt := 111) CF.1 CF.2.1 dX1_most_88 (by decide) ?_
        refine va_mmax_long CF.1 CF.2.1 (CF.2.2.1.trans hl.1.symm) CF.2.2.2.1 (CF.2.2.2.2 _ (inr_18 _ (List.mem_of_getElem? (i := 19) rfl))) (CF.2.2.2.2 _ (inr_17 _ (List.mem_of_getElem? (i := 22) rfl))) (CF.2.2.2.2 _ (inr_5 _ (List.mem_of_getElem? (i := 8) rfl))) (CF.2.2.2.2 _ (inr_17 _ (List.mem_of_getElem? (i := 23) rfl))) (show 1 ≤ n + 1 + 5 by omega) (ml15 (by omega)) (Nat.zero_le _) (Nat.zero_le _) dX1_most_111 ?_
        refine tpl (mxL (by omega) (by omega)) ?_
        refine lv_lstore (lv' := [(7, .long (lN (max (msl (msF b goal n at_ a v) (i_1)) (bh b at_ i_1 a)))), (11, .long (lN (bh b at_ i_1 a))), (10, .int (nI (1))), (0, .ref (ad 0)), (1, .int (nI (at_))), (2, .int (nI (goal))), (3, .long (lN (a))), (5, .int (nI (v))), (6, .int (nI (n + 1))), (9, .int (nI (i_1)))]) CF.1 CF.2.1 dX1_most_114 hl (by decide) rfl (fun ls hl => ?_)
        refine lv_iinc (v := nI (i_1 + 1)) (lv' := [(9, .int (nI (i_1 + 1))), (7, .long (lN (max (msl (msF b goal n at_ a v) (i_1)) (bh b at_ i_1 a)))), (11, .long (lN (bh b at_ i_1 a))), (10, .int (nI (1))), (0, .ref (ad 0)), (1, .int (nI (at_))), (2, .int (nI (goal))), (3, .long (lN (a))), (5, .int (nI (v))), (6, .int (nI (n + 1)))]) CF.1 CF.2.1 dX1_most_116 hl (k := 9) rfl (by first | exact nI_add _ _ | rfl) (by decide) rfl (fun ls hl => ?_)
        refine lv_goto (tgt := 6) CF.1 CF.2.1 dX1_most_119 (by decide) ?_
        exact ih_2 ls (by omega) (lv_sub hl [4, 5, 6, 7, 8, 9, 1, 0] (by first | (rw [ms_z (by omega)]; rfl) | (rw [ms_v (by omega) (by omega)]; rfl) | (rw [ms_e (by omega) (by omega)]; rfl) | (rw [ms_r (by omega) (by omega) (by omega)]; rfl)))
theorem c1_most (l : Launch) {G : va_G} {cA : ClassId} {ad : Nat → Nat} {σ : RS} {b : BS} (hI : InvC b) (hR : Rc σ b) : ∀ n, n ≤ 10 → CtM l G cA ad σ b n
  | 0, _ => c1_mst0 l hI hR
  | n + 1, h => c1_mstS l hI hR (by omega) (c1_most l hI hR n (by omega))
