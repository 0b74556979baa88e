/-- the order at p wants the money t for the money f -/
abbrev mtN (b : BS) (f t p : Nat) : Prop := b 7 (p * 5 + 1) = f ∧ b 7 (p * 5 + 2) = t
def fstP (b : BS) (f t p : Nat) : Prop := p < b 0 3 ∧ mtN b f t p ∧ ∀ q, q < p → ¬ mtN b f t q
theorem fst_s {b : BS} {f t i : Nat} (h : ∀ q, q < i → ¬ mtN b f t q) (hn : ¬ mtN b f t i) : ∀ q, q < i + 1 → ¬ mtN b f t q := fun q hq => by
  rcases Nat.lt_or_ge q i with z | z
  · exact h q z
  · have e : q = i := by omega
    rw [e]; exact hn
def gx (b : BS) (p x : Nat) : Nat := b 7 (p * 5 + 3) * x * (100 - b 0 1) / 10000
/-- the order at p could be done by the rate x -/
def okR (b : BS) (p x : Nat) : Prop := b 7 (p * 5 + 3) ≤ b 6 (b 7 (p * 5) * 5 + b 7 (p * 5 + 1)) ∧ 1 ≤ gx b p x ∧ gx b p x ≤ b 2 (b 7 (p * 5 + 2)) ∧ b 5 (b 7 (p * 5 + 2)) + gx b p x ≤ b 4 (b 7 (p * 5 + 2)) ∧ b 7 (p * 5 + 4) ≤ gx b p x
def lrP (b : BS) (p : Nat) (r : Int32) : Prop := (∃ x, 1 ≤ x ∧ x ≤ 9999 ∧ okR b p x ∧ (∀ y, 1 ≤ y → y < x → ¬ okR b p y) ∧ r = nI x) ∨ ((∀ y, 1 ≤ y → y ≤ 9999 → ¬ okR b p y) ∧ r = -1)
def ndP (b : BS) (f t : Nat) (r : Int32) : Prop := (∃ p, fstP b f t p ∧ lrP b p r) ∨ ((∀ q, q < b 0 3 → ¬ mtN b f t q) ∧ r = -1)
theorem lrP_one {b : BS} {p : Nat} {r r' : Int32} (h : lrP b p r) (h' : lrP b p r') : r = r' := by
  rcases h with ⟨x, h1, h2, h3, h4, rfl⟩ | ⟨h1, rfl⟩ <;> rcases h' with ⟨x', k1, k2, k3, k4, rfl⟩ | ⟨k1, rfl⟩
  · rcases Nat.lt_trichotomy x x' with z | z | z
    · exact absurd h3 (k4 x h1 z)
    · rw [z]
    · exact absurd k3 (h4 x' k1 z)
  · exact absurd h3 (k1 x h1 h2)
  · exact absurd k3 (h1 x' k1 k2)
  · rfl
theorem ndP_one {b : BS} {f t : Nat} {r r' : Int32} (h : ndP b f t r) (h' : ndP b f t r') : r = r' := by
  rcases h with ⟨p, ⟨h1, h2, h3⟩, h4⟩ | ⟨h1, rfl⟩ <;> rcases h' with ⟨p', ⟨k1, k2, k3⟩, k4⟩ | ⟨k1, rfl⟩
  · rcases Nat.lt_trichotomy p p' with z | z | z
    · exact absurd h2 (k3 p z)
    · subst z; exact lrP_one h4 k4
    · exact absurd k2 (h3 p' z)
  · exact absurd h2 (k1 p h1)
  · exact absurd k2 (h1 p' k1)
  · rfl
theorem gx_w {b : BS} {p x : Nat} : gx b p x = b 7 (p * 5 + 3) * (100 - b 0 1) * x / 10000 := by
  unfold gx
  rw [Nat.mul_assoc, Nat.mul_comm x, ← Nat.mul_assoc]
theorem gx_mono {b : BS} {p x y : Nat} (h : x ≤ y) : gx b p x ≤ gx b p y := by
  rw [gx_w, gx_w]
  exact Nat.div_le_div_right (Nat.mul_le_mul_left _ h)
/-- the rate by division is the least that gives what is asked for -/
theorem lr_lt {b : BS} {p y w : Nat} (hw : w = b 7 (p * 5 + 3) * (100 - b 0 1)) (hw0 : 1 ≤ w) (hy : y < (b 7 (p * 5 + 4) * 10000 + w - 1) / w) : gx b p y < b 7 (p * 5 + 4) := by
  rw [gx_w, ← hw]
  rw [Nat.div_lt_iff_lt_mul (by omega)]
  rw [Nat.lt_div_iff_mul_lt (by omega)] at hy
  rw [Nat.mul_comm w y]
  omega
theorem lr_ge {b : BS} {p w : Nat} (hw : w = b 7 (p * 5 + 3) * (100 - b 0 1)) (hw0 : 1 ≤ w) : b 7 (p * 5 + 4) ≤ gx b p ((b 7 (p * 5 + 4) * 10000 + w - 1) / w) := by
  rw [gx_w, ← hw]
  rw [Nat.le_div_iff_mul_le (by omega)]
  have h := Nat.div_add_mod (b 7 (p * 5 + 4) * 10000 + w - 1) w
  have h2 := Nat.mod_lt (b 7 (p * 5 + 4) * 10000 + w - 1) (show 0 < w by omega)
  omega
theorem lr_big {b : BS} {p w : Nat} (hw : w = b 7 (p * 5 + 3) * (100 - b 0 1)) (hw0 : 1 ≤ w) (h : 9999 < (b 7 (p * 5 + 4) * 10000 + w - 1) / w) : lrP b p (-1) :=
  Or.inr ⟨fun y _ h2 hk => by have := lr_lt hw hw0 (y := y) (by omega); have := hk.2.2.2.2; omega, rfl⟩
theorem lr_yes {b : BS} {p w x : Nat} (hw : w = b 7 (p * 5 + 3) * (100 - b 0 1)) (hw0 : 1 ≤ w) (hx : x = (b 7 (p * 5 + 4) * 10000 + w - 1) / w) (hk : 1 ≤ b 7 (p * 5 + 4)) (h9 : x ≤ 9999) (g : Nat) (hg : g = w * x / 10000) (h : 1 ≤ b 7 (p * 5 + 3) ∧ b 7 (p * 5 + 3) ≤ b 6 (b 7 (p * 5) * 5 + b 7 (p * 5 + 1)) ∧ 1 ≤ g ∧ g ≤ b 2 (b 7 (p * 5 + 2)) ∧ b 5 (b 7 (p * 5 + 2)) + g ≤ b 4 (b 7 (p * 5 + 2))) : lrP b p (nI x) := by
  have e : gx b p x = g := by rw [gx_w, ← hw, hg]
  have h3 := lr_ge hw hw0
  rw [← hx] at h3
  refine Or.inl ⟨x, ?_, h9, ⟨h.2.1, by rw [e]; exact h.2.2.1, by rw [e]; exact h.2.2.2.1, by rw [e]; exact h.2.2.2.2, h3⟩, fun y _ hy hk => ?_, rfl⟩
  · rcases Nat.eq_zero_or_pos x with z | z
    · subst z; rw [gx_w, Nat.mul_zero, Nat.zero_div] at h3; omega
    · exact z
  · have h5 := hk.2.2.2.2
    have h4 := lr_lt hw hw0 (y := y) (by rw [← hx]; exact hy)
    omega
theorem lr_no {b : BS} {p w x : Nat} (hw : w = b 7 (p * 5 + 3) * (100 - b 0 1)) (hw0 : 1 ≤ w) (hx : x = (b 7 (p * 5 + 4) * 10000 + w - 1) / w) (hk : 1 ≤ b 7 (p * 5 + 4)) (ha : 1 ≤ b 7 (p * 5 + 3)) (g : Nat) (hg : g = w * x / 10000) (h : ¬ (1 ≤ b 7 (p * 5 + 3) ∧ b 7 (p * 5 + 3) ≤ b 6 (b 7 (p * 5) * 5 + b 7 (p * 5 + 1)) ∧ 1 ≤ g ∧ g ≤ b 2 (b 7 (p * 5 + 2)) ∧ b 5 (b 7 (p * 5 + 2)) + g ≤ b 4 (b 7 (p * 5 + 2)))) : lrP b p (-1) := by
  have e : gx b p x = g := by rw [gx_w, ← hw, hg]
  have h3 := lr_ge hw hw0
  rw [← hx] at h3
  refine Or.inr ⟨fun y h1 h2 ⟨q1, q2, q3, q4, q5⟩ => ?_, rfl⟩
  by_cases hy : y < x
  · have := lr_lt hw hw0 (y := y) (by rw [← hx]; exact hy)
    omega
  · have h6 := gx_mono (b := b) (p := p) (show x ≤ y by omega)
    exact h ⟨ha, q1, by omega, by omega, by omega⟩
def dg (d : Int64) (x : Nat) : Int64 := d * lN 31 + (nI x).toInt64
def dgl (f : Nat → Nat) (d : Int64) : Nat → Int64 | 0 => d | n + 1 => dg (dgl f d n) (f n)
def dgm (b : BS) (d : Int64) : Nat → Int64 | 0 => d | n + 1 => dgl (fun t => b 1 (n * 5 + t)) (dgl (fmo b n) (dgm b d n) 5) 5
def dgs (b : BS) : Int64 := dgl (b 7) (dgl (b 6) (dgm b (dgl (fbo b) (lN 1367) 7) 5) (b 0 2 * 5)) (b 0 3 * 5)

set_option maxHeartbeats 1000000 in
set_option maxRecDepth 100000 in
theorem c0_firstOrderPlace (l : Launch) {G : va_G} {cA : ClassId} {ad : Nat → Nat} {σ : RS} {b : BS} (hI : InvC b) (hR : Rc σ b) (hO : Ro σ b) (hOi : InvO b) {f t : Nat} (hf : f < 5) (ht : t < 5) : Met l yX0_firstOrderPlace (ws_ yX0_firstOrderPlace cX0_firstOrderPlace 4 (some .int)) (rmk 3 0 0) (pc0 G cA ad σ [.ref (ad 0), .int (nI (f)), .int (nI (t))]) (rqi (fun r => (∃ p, fstP b f t p ∧ r = nI p) ∨ ((∀ q, q < b 0 3 → ¬ mtN b f t q) ∧ r = -1))) 0 0 (fun _ => False) := by
  refine Met.ofW (cc := cX0_firstOrderPlace) (maxL := 4) (ret := (some .int)) (by decide) rfl ?_
  intro p e s m args below meth c s₁ B hml hv
  obtain ⟨rfl, hP, hK⟩ := hv
  have CF : CallFix p m c cX0_firstOrderPlace 4 s _ AW RX0 := ⟨B.exec, B.bytes, hml, findClass_of_methodNamed B.named, fun w h => atoms_spec (ws := ws_ yX0_firstOrderPlace cX0_firstOrderPlace 4 (some .int)) B.pre w (List.mem_cons_of_mem _ h)⟩
  have hr := B.returns
  have hlocks := B.notSynchronized
  have hl := lv_entry ([.ref (ad 0), .int (nI (f)), .int (nI (t))]) (n := 4) (Nat.le_of_ble_eq_true rfl)
  rw [lg_entry_eq]
  generalize (lg_sl ([.ref (ad 0), .int (nI (f)), .int (nI (t))]) ++ List.replicate (4 - (lg_sl ([.ref (ad 0), .int (nI (f)), .int (nI (t))])).length) Slot.unset).toArray = ls at hl ⊢
  have hl : lv_has ls 4 [(0, .ref (ad 0)), (1, .int (nI (f))), (2, .int (nI (t)))] := hl
  have hw10 := hOi.1
  refine lv_iconst (v := nI 0) CF.1 CF.2.1 dX0_firstOrderPlace_0 (by decide) ?_
  refine lv_istore_n (lv' := [(3, .int (nI (0))), (0, .ref (ad 0)), (1, .int (nI (f))), (2, .int (nI (t)))]) CF.1 CF.2.1 dX0_firstOrderPlace_1 rfl hl (by decide) rfl (fun ls hl => ?_)
  refine loop_gh (α := Unit) (fun i x => [(0, .ref (ad 0)), (1, .int (nI (f))), (2, .int (nI (t))), (3, .int (nI (i)))]) (fun i _ => ∀ q, q < i → ¬ mtN b f t q) (b 0 3) (0) (()) (fun q hq => absurd hq (by omega)) (lv_sub hl [1, 2, 3, 0] rfl) (by omega) (fun i_1 x_5 h_4 h_3 hx_6 ih_2 ls hl => ?_)
  have hw10 := hOi.1
  refine lv_iload_n CF.1 CF.2.1 dX0_firstOrderPlace_2 rfl (lv_at hl 3 rfl) ?_
  refine lv_aload_n CF.1 CF.2.1 dX0_firstOrderPlace_3 rfl (lv_at hl 0 rfl) ?_
  refine x0_g_waiting CF hK hP (v := (nI (b 0 3))) hO.1 dX0_firstOrderPlace_4 ?_
  refine z_icmp_ge CF (tgt := 38) (nIz (by omega)) (nIz (by omega)) dX0_firstOrderPlace_7 (by decide) (fun h_7 => ?_) (fun h_8 => ?_)
  · refine lv_iconst (v := (-1)) CF.1 CF.2.1 dX0_firstOrderPlace_38 (by decide) ?_
    exact W.iret CF.1 CF.2.1 hr (fun t9 ht9 hW9 => ⟨_, rfl, Or.inr ⟨fun q hq => hx_6 q (by omega), rfl⟩, ht9⟩) (fun q hq => absurd hq List.not_mem_nil) dX0_firstOrderPlace_39
  · refine lv_aload_n CF.1 CF.2.1 dX0_firstOrderPlace_10 rfl (lv_at hl 0 rfl) ?_
    refine lv_iload_n CF.1 CF.2.1 dX0_firstOrderPlace_11 rfl (lv_at hl 3 rfl) ?_
    refine lv_iconst (v := nI 1) CF.1 CF.2.1 dX0_firstOrderPlace_12 (by decide) ?_
    refine c0_i CF hK hP (As := [.int (nI (i_1)), .int (nI (1))]) (rest := []) (c0_orderPart l (σ := σ) (u := i_1) (t := 1) (by omega) (by omega)) rfl lk_RX0_X0_orderPart rfl hl.1 ⟨Nat.le_of_ble_eq_true rfl, Nat.le_of_ble_eq_true rfl⟩ ⟨Nat.zero_le _, Nat.zero_le _⟩ (Nat.le_of_ble_eq_true rfl) rfl dX0_firstOrderPlace_13 (fun r_9 hr_10 => ?_)
    subst hr_10
    obtain ⟨z0, z1, z2, -⟩ := hOi.2 i_1 (by omega)
    refine tpi (show σ 7 (i_1 * 5 + 1) = nI (b 7 (i_1 * 5 + 1)) from hO.2.2 (i_1 * 5 + 1) (by omega)) ?_
    refine lv_iload_n CF.1 CF.2.1 dX0_firstOrderPlace_16 rfl (lv_at hl 1 rfl) ?_
    refine z_icmp_ne CF (tgt := 32) (nIz (by omega)) (nIz (by omega)) dX0_firstOrderPlace_17 (by decide) (fun h_11 => ?_) (fun h_12 => ?_)
    · refine lv_iinc (v := nI (i_1 + 1)) (lv' := [(3, .int (nI (i_1 + 1))), (0, .ref (ad 0)), (1, .int (nI (f))), (2, .int (nI (t)))]) CF.1 CF.2.1 dX0_firstOrderPlace_32 hl (k := 3) rfl (by first | exact nI_add _ _ | rfl) (by decide) rfl (fun ls hl => ?_)
      refine lv_goto (tgt := 2) CF.1 CF.2.1 dX0_firstOrderPlace_35 (by decide) ?_
      exact ih_2 () ls (by omega) (fst_s hx_6 (by rintro ⟨h1, h2⟩; omega)) (lv_sub hl [1, 2, 3, 0] rfl)
    · refine lv_aload_n CF.1 CF.2.1 dX0_firstOrderPlace_20 rfl (lv_at hl 0 rfl) ?_
      refine lv_iload_n CF.1 CF.2.1 dX0_firstOrderPlace_21 rfl (lv_at hl 3 rfl) ?_
      refine lv_iconst (v := nI 2) CF.1 CF.2.1 dX0_firstOrderPlace_22 (by decide) ?_
      refine c0_i CF hK hP (As := [.int (nI (i_1)), .int (nI (2))]) (rest := []) (c0_orderPart l (σ := σ) (u := i_1) (t := 2) (by omega) (by omega)) rfl lk_RX0_X0_orderPart rfl hl.1 ⟨Nat.le_of_ble_eq_true rfl, Nat.le_of_ble_eq_true rfl⟩ ⟨Nat.zero_le _, Nat.zero_le _⟩ (Nat.le_of_ble_eq_true rfl) rfl dX0_firstOrderPlace_23 (fun r_13 hr_14 => ?_)
      subst hr_14
      obtain ⟨z0, z1, z2, -⟩ := hOi.2 i_1 (by omega)
      refine tpi (show σ 7 (i_1 * 5 + 2) = nI (b 7 (i_1 * 5 + 2)) from hO.2.2 (i_1 * 5 + 2) (by omega)) ?_
      refine lv_iload_n CF.1 CF.2.1 dX0_firstOrderPlace_26 rfl (lv_at hl 2 rfl) ?_
      refine z_icmp_ne CF (tgt := 32) (nIz (by omega)) (nIz (by omega)) dX0_firstOrderPlace_27 (by decide) (fun h_15 => ?_) (fun h_16 => ?_)
      · refine lv_iinc (v := nI (i_1 + 1)) (lv' := [(3, .int (nI (i_1 + 1))), (0, .ref (ad 0)), (1, .int (nI (f))), (2, .int (nI (t)))]) CF.1 CF.2.1 dX0_firstOrderPlace_32 hl (k := 3) rfl (by first | exact nI_add _ _ | rfl) (by decide) rfl (fun ls hl => ?_)
        refine lv_goto (tgt := 2) CF.1 CF.2.1 dX0_firstOrderPlace_35 (by decide) ?_
        exact ih_2 () ls (by omega) (fst_s hx_6 (by rintro ⟨h1, h2⟩; omega)) (lv_sub hl [1, 2, 3, 0] rfl)
      · refine lv_iload_n CF.1 CF.2.1 dX0_firstOrderPlace_30 rfl (lv_at hl 3 rfl) ?_
        exact W.iret CF.1 CF.2.1 hr (fun t9 ht9 hW9 => ⟨_, rfl, Or.inl ⟨i_1, ⟨by omega, ⟨by omega, by omega⟩, hx_6⟩, rfl⟩, ht9⟩) (fun q hq => absurd hq List.not_mem_nil) dX0_firstOrderPlace_31
set_option maxHeartbeats 1000000 in
set_option maxRecDepth 100000 in
theorem c0_leastRateFor (l : Launch) {G : va_G} {cA : ClassId} {ad : Nat → Nat} {σ : RS} {b : BS} (hI : InvC b) (hR : Rc σ b) (hO : Ro σ b) (hOi : InvO b) {q : Nat} (hq : q < b 0 3) : Met l yX0_leastRateFor (ws_ yX0_leastRateFor cX0_leastRateFor 12 (some .int)) (rmk 4 0 0) (pc0 G cA ad σ [.ref (ad 0), .int (nI (q))]) (rqi (fun r => lrP b q r)) 0 0 (fun _ => False) := by
  refine Met.ofW (cc := cX0_leastRateFor) (maxL := 12) (ret := (some .int)) (by decide) rfl ?_
  intro p e s m args below meth c s₁ B hml hv
  obtain ⟨rfl, hP, hK⟩ := hv
  have CF : CallFix p m c cX0_leastRateFor 12 s _ AW RX0 := ⟨B.exec, B.bytes, hml, findClass_of_methodNamed B.named, fun w h => atoms_spec (ws := ws_ yX0_leastRateFor cX0_leastRateFor 12 (some .int)) B.pre w (List.mem_cons_of_mem _ h)⟩
  have hr := B.returns
  have hlocks := B.notSynchronized
  have hl := lv_entry ([.ref (ad 0), .int (nI (q))]) (n := 12) (Nat.le_of_ble_eq_true rfl)
  rw [lg_entry_eq]
  generalize (lg_sl ([.ref (ad 0), .int (nI (q))]) ++ List.replicate (12 - (lg_sl ([.ref (ad 0), .int (nI (q))])).length) Slot.unset).toArray = ls at hl ⊢
  have hl : lv_has ls 12 [(0, .ref (ad 0)), (1, .int (nI (q)))] := hl
  obtain ⟨i_sp, i_cu, i_ra, i_di, i_mo, i_pu⟩ := id hI
  have hw10 := hOi.1
  obtain ⟨z0, z1, z2, z3, z4, z5, z6, z7⟩ := hOi.2 q hq
  have h_pu := i_pu (b 7 (q * 5) * 5 + b 7 (q * 5 + 1)) (by omega)
  refine lv_aload_n CF.1 CF.2.1 dX0_leastRateFor_0 rfl (lv_at hl 0 rfl) ?_
  refine lv_iload_n CF.1 CF.2.1 dX0_leastRateFor_1 rfl (lv_at hl 1 rfl) ?_
  refine lv_iconst (v := nI 3) CF.1 CF.2.1 dX0_leastRateFor_2 (by decide) ?_
  refine c0_i CF hK hP (As := [.int (nI (q)), .int (nI (3))]) (rest := []) (c0_orderPart l (σ := σ) (u := q) (t := 3) (by omega) (by omega)) rfl lk_RX0_X0_orderPart rfl hl.1 ⟨Nat.le_of_ble_eq_true rfl, Nat.le_of_ble_eq_true rfl⟩ ⟨Nat.zero_le _, Nat.zero_le _⟩ (Nat.le_of_ble_eq_true rfl) rfl dX0_leastRateFor_3 (fun r_1 hr_2 => ?_)
  subst hr_2
  refine tpi (show σ 7 (q * 5 + 3) = nI (b 7 (q * 5 + 3)) from hO.2.2 (q * 5 + 3) (by omega)) ?_
  refine lv_istore_n (lv' := [(2, .int (nI (b 7 (q * 5 + 3)))), (0, .ref (ad 0)), (1, .int (nI (q)))]) CF.1 CF.2.1 dX0_leastRateFor_6 rfl hl (by decide) rfl (fun ls hl => ?_)
  refine lv_aload_n CF.1 CF.2.1 dX0_leastRateFor_7 rfl (lv_at hl 1 rfl) ?_
  refine lv_iload_n CF.1 CF.2.1 dX0_leastRateFor_8 rfl (lv_at hl 2 rfl) ?_
  refine lv_iconst (v := nI 4) CF.1 CF.2.1 dX0_leastRateFor_9 (by decide) ?_
  refine c0_i CF hK hP (As := [.int (nI (q)), .int (nI (4))]) (rest := []) (c0_orderPart l (σ := σ) (u := q) (t := 4) (by omega) (by omega)) rfl lk_RX0_X0_orderPart rfl hl.1 ⟨Nat.le_of_ble_eq_true rfl, Nat.le_of_ble_eq_true rfl⟩ ⟨Nat.zero_le _, Nat.zero_le _⟩ (Nat.le_of_ble_eq_true rfl) rfl dX0_leastRateFor_10 (fun r_3 hr_4 => ?_)
  subst hr_4
  refine tpi (show σ 7 (q * 5 + 4) = nI (b 7 (q * 5 + 4)) from hO.2.2 (q * 5 + 4) (by omega)) ?_
  refine o_i2l CF (by omega) dX0_leastRateFor_13 ?_
  refine lv_ldc2 (v := lN 10000) CF.1 CF.2.1 CF.2.2.2.1 (CF.2.2.2.2 _ (inr_4 _ (List.mem_of_getElem? (i := 0) rfl))) dX0_leastRateFor_14 ?_
  refine o_lmul CF dX0_leastRateFor_17 ?_
  refine lv_lstore_n (lv' := [(3, .long (lN ((b 7 (q * 5 + 4)) * (10000)))), (2, .int (nI (b 7 (q * 5 + 3)))), (0, .ref (ad 0)), (1, .int (nI (q)))]) CF.1 CF.2.1 dX0_leastRateFor_18 rfl hl (by decide) rfl (fun ls hl => ?_)
  refine lv_iload_n CF.1 CF.2.1 dX0_leastRateFor_19 rfl (lv_at hl 1 rfl) ?_
  refine o_i2l CF (by omega) dX0_leastRateFor_20 ?_
  refine lv_bipush (v := nI 100) CF.1 CF.2.1 dX0_leastRateFor_21 (by decide) ?_
  refine lv_aload_n CF.1 CF.2.1 dX0_leastRateFor_23 rfl (lv_at hl 2 rfl) ?_
  refine x0_g_spread CF hK hP (v := (nI (b 0 1))) hR.2.1 dX0_leastRateFor_24 ?_
  refine o_isub CF (by omega) dX0_leastRateFor_27 ?_
  refine o_i2l CF (by omega) dX0_leastRateFor_28 ?_
  refine o_lmul CF dX0_leastRateFor_29 ?_
  obtain ⟨wq, hwq⟩ : ∃ wq, wq = b 7 (q * 5 + 3) * (100 - b 0 1) := ⟨_, rfl⟩
  have hW0 : 1 ≤ wq := by rw [hwq]; exact Nat.mul_pos (by omega) (by omega)
  have hW1 : wq ≤ 99999 * 100 := by rw [hwq]; exact Nat.mul_le_mul (by omega) (by omega)
  refine tpl (show lN ((b 7 (q * 5 + 3)) * (100 - (b 0 1))) = lN wq by rw [hwq]) ?_
  refine lv_lstore (lv' := [(5, .long (lN (wq))), (3, .long (lN ((b 7 (q * 5 + 4)) * (10000)))), (2, .int (nI (b 7 (q * 5 + 3)))), (0, .ref (ad 0)), (1, .int (nI (q)))]) CF.1 CF.2.1 dX0_leastRateFor_30 hl (by decide) rfl (fun ls hl => ?_)
  refine lv_lload CF.1 CF.2.1 dX0_leastRateFor_32 (lv_at hl 0 rfl) ?_
  refine lv_lconst (v := lN 1) CF.1 CF.2.1 dX0_leastRateFor_34 (by decide) ?_
  refine z_lcmp_ge CF (tgt := 41) (lNz (by omega)) (lNz (by omega)) dX0_leastRateFor_35 dX0_leastRateFor_36 (by decide) (fun h_5 => ?_) (fun h_6 => absurd h_6 (by omega))
  refine lv_lload_n CF.1 CF.2.1 dX0_leastRateFor_41 rfl (lv_at hl 1 rfl) ?_
  refine lv_lload CF.1 CF.2.1 dX0_leastRateFor_42 (lv_at hl 0 rfl) ?_
  refine o_ladd CF dX0_leastRateFor_44 ?_
  refine lv_lconst (v := lN 1) CF.1 CF.2.1 dX0_leastRateFor_45 (by decide) ?_
  refine o_lsub CF (by omega) dX0_leastRateFor_46 ?_
  refine lv_lload CF.1 CF.2.1 dX0_leastRateFor_47 (lv_at hl 0 rfl) ?_
  refine lv_ldiv CF.1 CF.2.1 dX0_leastRateFor_49 (lne (by omega) (by omega)) ?_
  refine tpl (pk_lDiv (by omega) (by omega) (by omega)) ?_
  obtain ⟨xq, hX⟩ : ∃ xq, xq = (b 7 (q * 5 + 4) * 10000 + wq - 1) / wq := ⟨_, rfl⟩
  have hX1 : xq ≤ b 7 (q * 5 + 4) * 10000 + wq - 1 := by rw [hX]; exact Nat.div_le_self _ _
  refine tpl (show lN (((((b 7 (q * 5 + 4)) * (10000)) + (wq)) - (1)) / (wq)) = lN xq by rw [hX]) ?_
  refine lv_lstore (lv' := [(7, .long (lN (xq))), (5, .long (lN (wq))), (3, .long (lN ((b 7 (q * 5 + 4)) * (10000)))), (2, .int (nI (b 7 (q * 5 + 3)))), (0, .ref (ad 0)), (1, .int (nI (q)))]) CF.1 CF.2.1 dX0_leastRateFor_50 hl (by decide) rfl (fun ls hl => ?_)
  refine lv_lload CF.1 CF.2.1 dX0_leastRateFor_52 (lv_at hl 0 rfl) ?_
  refine lv_ldc2 (v := lN 9999) CF.1 CF.2.1 CF.2.2.2.1 (CF.2.2.2.2 _ (inr_19 _ (List.mem_of_getElem? (i := 22) rfl))) dX0_leastRateFor_54 ?_
  refine z_lcmp_le CF (tgt := 63) (lNz (by omega)) (lNz (by omega)) dX0_leastRateFor_57 dX0_leastRateFor_58 (by decide) (fun h_7 => ?_) (fun h_8 => ?_)
  · refine lv_lload CF.1 CF.2.1 dX0_leastRateFor_63 (lv_at hl 1 rfl) ?_
    refine lv_lload CF.1 CF.2.1 dX0_leastRateFor_65 (lv_at hl 0 rfl) ?_
    refine o_lmul CF dX0_leastRateFor_67 ?_
    have hWX : wq * xq ≤ 9999900 * 9999 := Nat.mul_le_mul (by omega) (by omega)
    refine cS_l CF (As := [.long (lN ((wq) * (xq)))]) (rest := []) (c0_wholeOnes l (lN ((wq) * (xq)))) lk_RX0_X0_wholeOnes rfl hl.1 ⟨Nat.le_of_ble_eq_true rfl, Nat.le_of_ble_eq_true rfl⟩ ⟨Nat.zero_le _, Nat.zero_le _⟩ (Nat.le_of_ble_eq_true rfl) rfl dX0_leastRateFor_68 (fun r_9 hr_10 => ?_)
    subst hr_10
    refine tpl (y := lN (wq * xq / 10000)) (pk_lDiv (by omega) (by omega) (by omega)) ?_
    refine lv_lstore (lv' := [(9, .long (lN (wq * xq / 10000))), (7, .long (lN (xq))), (5, .long (lN (wq))), (3, .long (lN ((b 7 (q * 5 + 4)) * (10000)))), (2, .int (nI (b 7 (q * 5 + 3)))), (0, .ref (ad 0)), (1, .int (nI (q)))]) CF.1 CF.2.1 dX0_leastRateFor_71 hl (by decide) rfl (fun ls hl => ?_)
    refine lv_aload_n CF.1 CF.2.1 dX0_leastRateFor_73 rfl (lv_at hl 5 rfl) ?_
    refine lv_aload_n CF.1 CF.2.1 dX0_leastRateFor_74 rfl (lv_at hl 5 rfl) ?_
    refine lv_iload_n CF.1 CF.2.1 dX0_leastRateFor_75 rfl (lv_at hl 6 rfl) ?_
    refine lv_iconst (v := nI 0) CF.1 CF.2.1 dX0_leastRateFor_76 (by decide) ?_
    refine c0_i CF hK hP (As := [.int (nI (q)), .int (nI (0))]) (rest := [.ref (ad 0)]) (c0_orderPart l (σ := σ) (u := q) (t := 0) (by omega) (by omega)) rfl lk_RX0_X0_orderPart rfl hl.1 ⟨Nat.le_of_ble_eq_true rfl, Nat.le_of_ble_eq_true rfl⟩ ⟨Nat.zero_le _, Nat.zero_le _⟩ (Nat.le_of_ble_eq_true rfl) rfl dX0_leastRateFor_77 (fun r_11 hr_12 => ?_)
    subst hr_12
    refine tpi (show σ 7 (q * 5 + 0) = nI (b 7 (q * 5)) from hO.2.2 (q * 5 + 0) (by omega)) ?_
    refine lv_aload_n CF.1 CF.2.1 dX0_leastRateFor_80 rfl (lv_at hl 5 rfl) ?_
    refine lv_iload_n CF.1 CF.2.1 dX0_leastRateFor_81 rfl (lv_at hl 6 rfl) ?_
    refine lv_iconst (v := nI 1) CF.1 CF.2.1 dX0_leastRateFor_82 (by decide) ?_
    refine c0_i CF hK hP (As := [.int (nI (q)), .int (nI (1))]) (rest := [.int (nI (b 7 (q * 5))), .ref (ad 0)]) (c0_orderPart l (σ := σ) (u := q) (t := 1) (by omega) (by omega)) rfl lk_RX0_X0_orderPart rfl hl.1 ⟨Nat.le_of_ble_eq_true rfl, Nat.le_of_ble_eq_true rfl⟩ ⟨Nat.zero_le _, Nat.zero_le _⟩ (Nat.le_of_ble_eq_true rfl) rfl dX0_leastRateFor_83 (fun r_13 hr_14 => ?_)
    subst hr_14
    refine tpi (show σ 7 (q * 5 + 1) = nI (b 7 (q * 5 + 1)) from hO.2.2 (q * 5 + 1) (by omega)) ?_
    refine c0_i CF hK hP (As := [.int (nI (b 7 (q * 5))), .int (nI (b 7 (q * 5 + 1)))]) (rest := []) (c0_inPurse l hI hR (u := b 7 (q * 5)) (t := b 7 (q * 5 + 1)) (by omega) (by omega)) rfl lk_RX0_X0_inPurse rfl hl.1 ⟨Nat.le_of_ble_eq_true rfl, Nat.le_of_ble_eq_true rfl⟩ ⟨Nat.zero_le _, Nat.zero_le _⟩ (Nat.le_of_ble_eq_true rfl) rfl dX0_leastRateFor_86 (fun r_15 hr_16 => ?_)
    subst hr_16
    refine lv_istore (lv' := [(11, .int (nI (b 6 (b 7 (q * 5) * 5 + b 7 (q * 5 + 1))))), (9, .long (lN (wq * xq / 10000))), (7, .long (lN (xq))), (5, .long (lN (wq))), (3, .long (lN ((b 7 (q * 5 + 4)) * (10000)))), (2, .int (nI (b 7 (q * 5 + 3)))), (0, .ref (ad 0)), (1, .int (nI (q)))]) CF.1 CF.2.1 dX0_leastRateFor_89 hl (by decide) rfl (fun ls hl => ?_)
    refine lv_aload_n CF.1 CF.2.1 dX0_leastRateFor_91 rfl (lv_at hl 6 rfl) ?_
    refine lv_iload CF.1 CF.2.1 dX0_leastRateFor_92 (lv_at hl 0 rfl) ?_
    refine lv_aload_n CF.1 CF.2.1 dX0_leastRateFor_94 rfl (lv_at hl 6 rfl) ?_
    refine lv_iload_n CF.1 CF.2.1 dX0_leastRateFor_95 rfl (lv_at hl 7 rfl) ?_
    refine lv_iconst (v := nI 2) CF.1 CF.2.1 dX0_leastRateFor_96 (by decide) ?_
    refine c0_i CF hK hP (As := [.int (nI (q)), .int (nI (2))]) (rest := [.int (nI (b 6 (b 7 (q * 5) * 5 + b 7 (q * 5 + 1)))), .ref (ad 0)]) (c0_orderPart l (σ := σ) (u := q) (t := 2) (by omega) (by omega)) rfl lk_RX0_X0_orderPart rfl hl.1 ⟨Nat.le_of_ble_eq_true rfl, Nat.le_of_ble_eq_true rfl⟩ ⟨Nat.zero_le _, Nat.zero_le _⟩ (Nat.le_of_ble_eq_true rfl) rfl dX0_leastRateFor_97 (fun r_17 hr_18 => ?_)
    subst hr_18
    refine tpi (show σ 7 (q * 5 + 2) = nI (b 7 (q * 5 + 2)) from hO.2.2 (q * 5 + 2) (by omega)) ?_
    refine lv_iload_n CF.1 CF.2.1 dX0_leastRateFor_100 rfl (lv_at hl 5 rfl) ?_
    refine lv_lload CF.1 CF.2.1 dX0_leastRateFor_101 (lv_at hl 1 rfl) ?_
    refine c0_i CF hK hP (As := [.int (nI (b 6 (b 7 (q * 5) * 5 + b 7 (q * 5 + 1)))), .int (nI (b 7 (q * 5 + 2))), .int (nI (b 7 (q * 5 + 3))), .long (lN (wq * xq / 10000))]) (rest := []) (c0_isAllowed l hI hR (P := b 6 (b 7 (q * 5) * 5 + b 7 (q * 5 + 1))) (t := b 7 (q * 5 + 2)) (a := b 7 (q * 5 + 3)) (w := wq * xq / 10000) (by omega) (by omega) (by omega) (by omega)) rfl lk_RX0_X0_isAllowed rfl hl.1 ⟨Nat.le_of_ble_eq_true rfl, Nat.le_of_ble_eq_true rfl⟩ ⟨Nat.zero_le _, Nat.zero_le _⟩ (Nat.le_of_ble_eq_true rfl) rfl dX0_leastRateFor_103 (fun r_19 hr_20 => ?_)
    rcases hr_20 with ⟨rfl, hr_20a⟩ | ⟨rfl, hr_20n⟩
    · refine z_if_eq CF (tgt := 115) (nIz (by omega)) dX0_leastRateFor_106 (by decide) (fun h => absurd h (by decide)) (fun _ => ?_)
      refine lv_lload CF.1 CF.2.1 dX0_leastRateFor_109 (lv_at hl 2 rfl) ?_
      refine o_l2i CF dX0_leastRateFor_111 ?_
      refine lv_goto (tgt := 116) CF.1 CF.2.1 dX0_leastRateFor_112 (by decide) ?_
      exact W.iret CF.1 CF.2.1 hr (fun t9 ht9 hW9 => ⟨_, rfl, lr_yes (w := wq) hwq hW0 hX (by omega) (by omega) _ rfl hr_20a, ht9⟩) (fun q hq => absurd hq List.not_mem_nil) dX0_leastRateFor_116
    · refine z_if_eq CF (tgt := 115) (nIz (by omega)) dX0_leastRateFor_106 (by decide) (fun _ => ?_) (fun h => absurd h (by decide))
      refine lv_iconst (v := (-1)) CF.1 CF.2.1 dX0_leastRateFor_115 (by decide) ?_
      exact W.iret CF.1 CF.2.1 hr (fun t9 ht9 hW9 => ⟨_, rfl, lr_no (w := wq) hwq hW0 hX (by omega) (by omega) _ rfl hr_20n, ht9⟩) (fun q hq => absurd hq List.not_mem_nil) dX0_leastRateFor_116
  · refine lv_iconst (v := (-1)) CF.1 CF.2.1 dX0_leastRateFor_61 (by decide) ?_
    exact W.iret CF.1 CF.2.1 hr (fun t9 ht9 hW9 => ⟨_, rfl, lr_big (w := wq) hwq hW0 (by rw [← hX]; omega), ht9⟩) (fun q hq => absurd hq List.not_mem_nil) dX0_leastRateFor_62
