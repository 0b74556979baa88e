theorem InvC_up {b : BS} {k i v : Nat} (hI : InvC b) (h : (k = 0 ∧ i ≠ 1 ∧ i ≠ 2) ∨ (k = 0 ∧ i = 1 ∧ v ≤ 50) ∨ (k = 0 ∧ i = 2 ∧ v ≤ 6) ∨ (k = 1 ∧ v ≤ 9999 ∧ ∀ j, j < 5 → j * 5 + j ≠ i) ∨ (k = 2 ∧ v ≤ 999999) ∨ (k = 4 ∧ v ≤ 99999) ∨ (k = 6 ∧ v ≤ 999999) ∨ 7 ≤ k) : InvC (upN b k i v) := by
  obtain ⟨i1, i2, i3, i4, i5, i6⟩ := hI
  refine ⟨?_, ?_, fun j hj => ?_, fun j hj => ?_, fun j hj => ⟨?_, ?_, ?_, ?_⟩, fun j hj => ?_⟩
  · unfold upN; split <;> omega
  · unfold upN; split <;> omega
  · have := i3 j hj; unfold upN; split <;> omega
  · have := i4 j hj
    unfold upN
    split
    · next q =>
      rcases h with h | h | h | h | h | h | h | h <;> first | omega | exact absurd q.2 (h.2.2 j hj)
    · exact this
  · have := i5 j hj; unfold upN; split <;> omega
  · have := i5 j hj; unfold upN; split <;> omega
  · have := i5 j hj; unfold upN; split <;> omega
  · have := i5 j hj; unfold upN; split <;> omega
  · have := i6 j hj; unfold upN; split <;> omega
theorem InvO_to {b b' : BS} (hO : InvO b) (h2 : b 0 2 ≤ b' 0 2) (h3 : b' 0 3 = b 0 3) (h7 : ∀ j, b' 7 j = b 7 j) : InvO b' := by
  obtain ⟨o1, o2⟩ := hO
  refine ⟨by omega, fun p hp => ?_⟩
  have := o2 p (by omega)
  rw [h7, h7, h7, h7, h7]
  omega
theorem Ro_sm {σ σ' : RS} {b b' : BS} (hO : Ro σ b) (hM : Sm σ σ') (h3 : b' 0 3 = b 0 3) (h5 : b' 0 5 = b 0 5) (h7 : ∀ j, b' 7 j = b 7 j) : Ro σ' b' := by
  obtain ⟨o1, o2, o3⟩ := hO
  obtain ⟨m1, m2, m3, -⟩ := hM
  refine ⟨by rw [m2, h3]; exact o1, by rw [m3, h5]; exact o2, fun j hj => ?_⟩
  rw [h3] at hj
  rw [m1, h7]
  exact o3 j hj
def s_rate (b : BS) (f t v : Nat) : BS := lka (upN b 1 (f * 5 + t) v)
def s_spread (b : BS) (v : Nat) : BS := lka (upN b 0 1 v)
def s_nx (b : BS) : BS := fun k j => if k = 5 ∧ j < 5 then 0 else if k = 0 ∧ j = 0 then b 0 0 + 1 else b k j
def s_next (b : BS) : BS := lka (s_nx b)
def s_order (b : BS) (u f t a k : Nat) : BS := upN (upN (upN (upN (upN (upN b 7 (b 0 3 * 5) u) 7 (b 0 3 * 5 + 1) f) 7 (b 0 3 * 5 + 2) t) 7 (b 0 3 * 5 + 3) a) 7 (b 0 3 * 5 + 4) k) 0 3 (b 0 3 + 1)
theorem I_rate {b : BS} (hI : InvC b) {f t v : Nat} (hf : f < 5) (ht : t < 5) (hne : f ≠ t) (hv : v ≤ 9999) : InvC (upN b 1 (f * 5 + t) v) := InvC_up hI (Or.inr (Or.inr (Or.inr (Or.inl ⟨rfl, hv, fun j hj => by omega⟩))))
theorem I_nx {b : BS} (hI : InvC b) : InvC (s_nx b) := by
  obtain ⟨i1, i2, i3, i4, i5, i6⟩ := hI
  refine ⟨i1, i2, i3, i4, fun j hj => ?_, i6⟩
  have := i5 j hj
  exact ⟨this.1, this.2.1, this.2.2.1, by unfold s_nx; rw [if_pos ⟨rfl, hj⟩]; omega⟩
/-- given in this day is put to nothing, place by place -/
def nxI (σ : RS) (n : Nat) : RS := fun a j => if a = 5 ∧ j < n then nI 0 else σ a j
theorem nxI_0 {σ : RS} : nxI σ 0 = σ := by
  funext a j
  unfold nxI
  rw [if_neg (by omega)]
theorem nxI_s {σ : RS} {n : Nat} : up (nxI σ n) 5 n (nI 0) = nxI σ (n + 1) := by
  funext a j
  by_cases ha : a = 5
  · subst ha
    by_cases hj : j = n
    · subst hj; rw [up_s]; unfold nxI; rw [if_pos ⟨rfl, by omega⟩]
    · rw [up_i hj]; unfold nxI
      by_cases h : j < n
      · rw [if_pos ⟨rfl, h⟩, if_pos ⟨rfl, by omega⟩]
      · rw [if_neg (by omega), if_neg (by omega)]
  · rw [up_k ha]; unfold nxI; rw [if_neg (fun h => ha h.1), if_neg (fun h => ha h.1)]
theorem nx_R {σ σ1 : RS} {b : BS} (hR : Rc σ b) (hO : Ro σ b) (h1 : σ1 = up σ 0 0 (nI (b 0 0 + 1))) : Rc (nxI σ1 5) (s_nx b) ∧ Ro (nxI σ1 5) (s_nx b) := by
  obtain ⟨q1, q2, q3, q4, q5⟩ := hR
  obtain ⟨o1, o2, o3⟩ := hO
  have hne : ∀ a j, a ≠ 5 → nxI σ1 5 a j = σ1 a j := fun a j ha => by unfold nxI; rw [if_neg (fun h => ha h.1)]
  have hno : ∀ a j, a ≠ 5 → (a ≠ 0 ∨ j ≠ 0) → s_nx b a j = b a j := fun a j ha hb => by unfold s_nx; rw [if_neg (fun h => ha h.1), if_neg (by omega)]
  have h0 : ∀ a j, a ≠ 0 ∨ j ≠ 0 → σ1 a j = σ a j := fun a j hb => by
    rw [h1]
    by_cases ha : a = 0
    · subst ha; rw [up_i (by omega)]
    · rw [up_k ha]
  refine ⟨⟨?_, ?_, ?_, ?_, fun a j z1 z2 z3 => ?_⟩, ?_, ?_, fun j hj => ?_⟩
  · rw [hne _ _ (by omega), h1, up_s]; rfl
  · rw [hne _ _ (by omega), h0 _ _ (by omega), hno _ _ (by omega) (by omega)]; exact q2
  · rw [hne _ _ (by omega), h0 _ _ (by omega), hno _ _ (by omega) (by omega)]; exact q3
  · rw [hne _ _ (by omega), h0 _ _ (by omega), hno _ _ (by omega) (by omega)]; exact q4
  · by_cases ha : a = 5
    · subst ha
      unfold nxI s_nx
      have hj : j < 5 := z3
      rw [if_pos ⟨rfl, hj⟩, if_pos ⟨rfl, hj⟩]
    · rw [hne _ _ ha, h0 _ _ (by omega), hno _ _ ha (by omega)]; exact q5 a j z1 z2 z3
  · rw [hne _ _ (by omega), h0 _ _ (by omega), hno _ _ (by omega) (by omega)]; exact o1
  · rw [hne _ _ (by omega), h0 _ _ (by omega), hno _ _ (by omega) (by omega)]; exact o2
  · rw [hno _ _ (by omega) (by omega)] at hj
    rw [hne _ _ (by omega), h0 _ _ (by omega), hno _ _ (by omega) (by omega)]; exact o3 j hj
/-- an order is written behind the others -/
theorem ord_R {σ s1 s2 s3 s4 s5 s6 : RS} {b : BS} {u f t a k : Nat} (hR : Rc σ b) (hO : Ro σ b) (h1 : s1 = up σ 7 (b 0 3 * 5 + 0) (nI u)) (h2 : s2 = up s1 7 (b 0 3 * 5 + 1) (nI f)) (h3 : s3 = up s2 7 (b 0 3 * 5 + 2) (nI t)) (h4 : s4 = up s3 7 (b 0 3 * 5 + 3) (nI a)) (h5 : s5 = up s4 7 (b 0 3 * 5 + 4) (nI k)) (h6 : s6 = up s5 0 3 (nI (b 0 3 + 1))) : Rc s6 (s_order b u f t a k) ∧ Ro s6 (s_order b u f t a k) := by
  have r1 := Rc_up hR 7 (b 0 3 * 5 + 0) u
  rw [← h1] at r1
  have r2 := Rc_up r1 7 (b 0 3 * 5 + 1) f
  rw [← h2] at r2
  have r3 := Rc_up r2 7 (b 0 3 * 5 + 2) t
  rw [← h3] at r3
  have r4 := Rc_up r3 7 (b 0 3 * 5 + 3) a
  rw [← h4] at r4
  have r5 := Rc_up r4 7 (b 0 3 * 5 + 4) k
  rw [← h5] at r5
  have r6 := Rc_up r5 0 3 (b 0 3 + 1)
  rw [← h6] at r6
  obtain ⟨o1, o2, o3⟩ := hO
  have hw : s_order b u f t a k 0 3 = b 0 3 + 1 := upN_s
  refine ⟨r6, by rw [h6, up_s, hw], ?_, fun j hj => ?_⟩
  · rw [h6, up_i (by omega), h5, up_k (by omega), h4, up_k (by omega), h3, up_k (by omega), h2, up_k (by omega), h1, up_k (by omega)]
    unfold s_order
    rw [upN_i (by omega), upN_k (by omega), upN_k (by omega), upN_k (by omega), upN_k (by omega), upN_k (by omega)]
    exact o2
  · rw [hw] at hj
    rw [h6, up_k (by omega)]
    unfold s_order
    rw [upN_k (by omega)]
    rw [h5]
    by_cases c4 : j = b 0 3 * 5 + 4
    · rw [c4, up_s, upN_s]
    rw [up_i c4, upN_i c4, h4]
    by_cases c3 : j = b 0 3 * 5 + 3
    · rw [c3, up_s, upN_s]
    rw [up_i c3, upN_i c3, h3]
    by_cases c2 : j = b 0 3 * 5 + 2
    · rw [c2, up_s, upN_s]
    rw [up_i c2, upN_i c2, h2]
    by_cases c1 : j = b 0 3 * 5 + 1
    · rw [c1, up_s, upN_s]
    rw [up_i c1, upN_i c1, h1]
    by_cases c0 : j = b 0 3 * 5
    · rw [c0]
      show up σ 7 (b 0 3 * 5) (nI u) 7 (b 0 3 * 5) = _
      rw [up_s, upN_s]
    rw [up_i (by omega), upN_i c0]
    exact o3 j (by omega)
/-- orders behind a place come one nearer, one by one -/
def cnI (σ : RS) (q i : Nat) : RS := fun a j => if a = 7 ∧ q * 5 ≤ j ∧ j + 5 < i * 5 then σ 7 (j + 5) else σ a j
theorem cnI_0 {σ : RS} {q : Nat} : cnI σ q (q + 1) = σ := by
  funext a j
  unfold cnI
  rw [if_neg (by omega)]
theorem cnI_s {σ : RS} {q i : Nat} (h : q + 1 ≤ i) : mvI (cnI σ q i) i (i - 1) 5 = cnI σ q (i + 1) := by
  funext a j
  by_cases ha : a = 7
  · subst ha
    unfold mvI
    by_cases hj : 7 = 7 ∧ (i - 1) * 5 ≤ j ∧ j < (i - 1) * 5 + 5
    · rw [if_pos hj]
      unfold cnI
      rw [if_neg (by omega), if_pos ⟨rfl, by omega, by omega⟩]
      congr 1; omega
    · rw [if_neg hj]
      unfold cnI
      by_cases h2 : 7 = 7 ∧ q * 5 ≤ j ∧ j + 5 < i * 5
      · rw [if_pos h2, if_pos ⟨rfl, h2.2.1, by omega⟩]
      · rw [if_neg h2, if_neg (by omega)]
  · unfold mvI cnI
    rw [if_neg (fun h => ha h.1), if_neg (fun h => ha h.1), if_neg (fun h => ha h.1)]
theorem can_R {σ s1 s2 : RS} {b : BS} {q i : Nat} (hR : Rc σ b) (hO : Ro σ b) (hq : q < b 0 3) (hi : i = b 0 3) (h1 : s1 = cnI σ q i) (h2 : s2 = up s1 0 3 (nI (b 0 3 - 1))) : Rc s2 (takeN b q) ∧ Ro s2 (takeN b q) := by
  subst hi
  obtain ⟨q1, q2, q3, q4, q5⟩ := hR
  obtain ⟨o1, o2, o3⟩ := hO
  have hne : ∀ a j, a ≠ 7 → (a ≠ 0 ∨ j ≠ 3) → s2 a j = σ a j := fun a j ha hb => by
    rw [h2]
    by_cases h0 : a = 0
    · subst h0; rw [up_i (by omega), h1]; unfold cnI; rw [if_neg (fun h => ha h.1)]
    · rw [up_k h0, h1]; unfold cnI; rw [if_neg (fun h => ha h.1)]
  have hno : ∀ a j, a ≠ 7 → (a ≠ 0 ∨ j ≠ 3) → takeN b q a j = b a j := fun a j ha hb => takeN_k ha hb
  refine ⟨⟨?_, ?_, ?_, ?_, fun a j z1 z2 z3 => ?_⟩, ?_, ?_, fun j hj => ?_⟩
  · rw [hne _ _ (by omega) (by omega), hno _ _ (by omega) (by omega)]; exact q1
  · rw [hne _ _ (by omega) (by omega), hno _ _ (by omega) (by omega)]; exact q2
  · rw [hne _ _ (by omega) (by omega), hno _ _ (by omega) (by omega)]; exact q3
  · rw [hne _ _ (by omega) (by omega), hno _ _ (by omega) (by omega)]; exact q4
  · rw [hne _ _ (by omega) (by omega), hno _ _ (by omega) (by omega)]; exact q5 a j z1 z2 z3
  · rw [h2, up_s, takeN_w]
  · rw [hne _ _ (by omega) (by omega), hno _ _ (by omega) (by omega)]; exact o2
  · rw [takeN_w] at hj
    rw [h2, up_k (by omega), h1, takeN_7]
    unfold cnI
    by_cases c : j < q * 5
    · rw [if_neg (by omega), if_pos c]; exact o3 j (by omega)
    · rw [if_pos ⟨rfl, by omega, by omega⟩, if_neg c]; exact o3 (j + 5) (by omega)

set_option maxHeartbeats 1000000 in
set_option maxRecDepth 100000 in
theorem c0_isPlace (l : Launch) {G : va_G} {cA : ClassId} {ad : Nat → Nat} {σ : RS} {b : BS} (hI : InvC b) (hR : Rc σ b) (hO : Ro σ b) (hOi : InvO b) (x : Int32) : Met l yX0_isPlace (ws_ yX0_isPlace cX0_isPlace 2 (some .boolean)) (rmk 1 0 0) (pc0 G cA ad σ [.ref (ad 0), .int (x)]) (rqi (fun r => (r = 1 ∧ 0 ≤ x.toInt ∧ x.toInt < (b 0 3 : Nat)) ∨ (r = 0 ∧ (x.toInt < 0 ∨ ((b 0 3 : Nat) : Int) ≤ x.toInt)))) 0 0 (fun _ => False) := by
  refine Met.ofW (cc := cX0_isPlace) (maxL := 2) (ret := (some .boolean)) (by decide) rfl ?_
  intro p e s m args below meth c s₁ B hml hv
  obtain ⟨rfl, hP, hK⟩ := hv
  have CF : CallFix p m c cX0_isPlace 2 s _ AW RX0 := ⟨B.exec, B.bytes, hml, findClass_of_methodNamed B.named, fun w h => atoms_spec (ws := ws_ yX0_isPlace cX0_isPlace 2 (some .boolean)) B.pre w (List.mem_cons_of_mem _ h)⟩
  have hr := B.returns
  have hlocks := B.notSynchronized
  have hl := lv_entry ([.ref (ad 0), .int (x)]) (n := 2) (Nat.le_of_ble_eq_true rfl)
  rw [lg_entry_eq]
  generalize (lg_sl ([.ref (ad 0), .int (x)]) ++ List.replicate (2 - (lg_sl ([.ref (ad 0), .int (x)])).length) Slot.unset).toArray = ls at hl ⊢
  have hl : lv_has ls 2 [(0, .ref (ad 0)), (1, .int (x))] := hl
  have hw10 := hOi.1
  refine lv_iload_n CF.1 CF.2.1 dX0_isPlace_0 rfl (lv_at hl 1 rfl) ?_
  refine z_if_lt CF (tgt := 22) rfl dX0_isPlace_1 (by decide) (fun h_1 => ?_) (fun h_2 => ?_)
  · refine lv_iconst (v := nI 0) CF.1 CF.2.1 dX0_isPlace_22 (by decide) ?_
    exact W.zret CF.1 CF.2.1 hr rfl (fun t9 ht9 hW9 => ⟨_, rfl, Or.inr ⟨rfl, by omega⟩, ht9⟩) (fun q hq => absurd hq List.not_mem_nil) dX0_isPlace_23
  · refine lv_iload_n CF.1 CF.2.1 dX0_isPlace_4 rfl (lv_at hl 1 rfl) ?_
    refine lv_aload_n CF.1 CF.2.1 dX0_isPlace_5 rfl (lv_at hl 0 rfl) ?_
    refine x0_g_waiting CF hK hP (v := (nI (b 0 3))) hO.1 dX0_isPlace_6 ?_
    refine z_icmp_ge CF (tgt := 22) rfl (nIz (by omega)) dX0_isPlace_9 (by decide) (fun h_3 => ?_) (fun h_4 => ?_)
    · refine lv_iconst (v := nI 0) CF.1 CF.2.1 dX0_isPlace_22 (by decide) ?_
      exact W.zret CF.1 CF.2.1 hr rfl (fun t9 ht9 hW9 => ⟨_, rfl, Or.inr ⟨rfl, by omega⟩, ht9⟩) (fun q hq => absurd hq List.not_mem_nil) dX0_isPlace_23
    · refine lv_iload_n CF.1 CF.2.1 dX0_isPlace_12 rfl (lv_at hl 1 rfl) ?_
      refine lv_bipush (v := nI 10) CF.1 CF.2.1 dX0_isPlace_13 (by decide) ?_
      refine z_icmp_ge CF (tgt := 22) rfl (nIz (by omega)) dX0_isPlace_15 (by decide) (fun h_5 => ?_) (fun h_6 => ?_)
      · refine lv_iconst (v := nI 0) CF.1 CF.2.1 dX0_isPlace_22 (by decide) ?_
        exact W.zret CF.1 CF.2.1 hr rfl (fun t9 ht9 hW9 => ⟨_, rfl, Or.inr ⟨rfl, by omega⟩, ht9⟩) (fun q hq => absurd hq List.not_mem_nil) dX0_isPlace_23
      · refine lv_iconst (v := nI 1) CF.1 CF.2.1 dX0_isPlace_18 (by decide) ?_
        refine lv_goto (tgt := 23) CF.1 CF.2.1 dX0_isPlace_19 (by decide) ?_
        exact W.zret CF.1 CF.2.1 hr rfl (fun t9 ht9 hW9 => ⟨_, rfl, Or.inl ⟨rfl, by omega, by omega⟩, ht9⟩) (fun q hq => absurd hq List.not_mem_nil) dX0_isPlace_23
set_option maxHeartbeats 1000000 in
set_option maxRecDepth 100000 in
theorem c0_setRate (l : Launch) {G : va_G} {cA : ClassId} {ad : Nat → Nat} {σ : RS} (hj : inj8 ad) {b : BS} (hI : InvC b) (hR : Rc σ b) (hO : Ro σ b) (hOi : InvO b) {f t v : Nat} (hf : f < 5) (ht : t < 5) (hne : f ≠ t) (hv : v ≤ 9999) : Met l yX0_setRate (ws_ yX0_setRate cX0_setRate 4 (some .int)) (rmk 8 0 0) (pc0 G cA ad σ [.ref (ad 0), .int (nI (f)), .int (nI (t)), .int (nI (v))]) (va_Qi (fun (r : Int32) (σ' : RS) => r = nI (b 0 3 - s_rate b f t v 0 3) ∧ Rc σ' (s_rate b f t v) ∧ Ro σ' (s_rate b f t v)) (fun σ' t => va_P G vwCl (w0 ad cA σ') t.heap) (own8 ad)) 0 0 (own8 ad) := by
  refine Met.ofW (cc := cX0_setRate) (maxL := 4) (ret := (some .int)) (by decide) rfl ?_
  intro p e s m args below meth c s₁ B hml hv
  obtain ⟨rfl, hP, hK⟩ := hv
  have CF : CallFix p m c cX0_setRate 4 s _ AW RX0 := ⟨B.exec, B.bytes, hml, findClass_of_methodNamed B.named, fun w h => atoms_spec (ws := ws_ yX0_setRate cX0_setRate 4 (some .int)) B.pre w (List.mem_cons_of_mem _ h)⟩
  have hr := B.returns
  have hlocks := B.notSynchronized
  have hl := lv_entry ([.ref (ad 0), .int (nI (f)), .int (nI (t)), .int (nI (v))]) (n := 4) (Nat.le_of_ble_eq_true rfl)
  rw [lg_entry_eq]
  generalize (lg_sl ([.ref (ad 0), .int (nI (f)), .int (nI (t)), .int (nI (v))]) ++ List.replicate (4 - (lg_sl ([.ref (ad 0), .int (nI (f)), .int (nI (t)), .int (nI (v))])).length) Slot.unset).toArray = ls at hl ⊢
  have hl : lv_has ls 4 [(0, .ref (ad 0)), (1, .int (nI (f))), (2, .int (nI (t))), (3, .int (nI (v)))] := hl
  have hD : va_D (own8 ad) (w0 ad cA σ) := w0_D hj (fun _ h => h)
  have hS : va_S (own8 ad) s.heap s.heap [] := va_S.rf
  obtain ⟨i_sp, i_cu, i_ra, i_di, i_mo, i_pu⟩ := id hI
  have hw10 := hOi.1
  refine lv_iload_n CF.1 CF.2.1 dX0_setRate_0 rfl (lv_at hl 1 rfl) ?_
  refine cS_i CF (As := [.int (nI (f))]) (rest := []) (c0_isMoney l (nI (f))) lk_RX0_X0_isMoney rfl hl.1 ⟨Nat.le_of_ble_eq_true rfl, Nat.le_of_ble_eq_true rfl⟩ ⟨Nat.zero_le _, Nat.zero_le _⟩ (Nat.le_of_ble_eq_true rfl) rfl dX0_setRate_1 (fun r_1 hr_2 => ?_)
  have hxh_3 := nIz (n := f) (by omega)
  rcases hr_2 with ⟨rfl, -, -⟩ | ⟨rfl, h9⟩
  rotate_left
  · exact absurd h9 (by rw [hxh_3]; omega)
  rw [show (1 : Int32) = nI 1 by rfl]
  refine z_if_eq CF (tgt := 14) (nIz (by omega)) dX0_setRate_4 (by decide) (fun h => absurd h (by decide)) (fun _ => ?_)
  refine lv_iload_n CF.1 CF.2.1 dX0_setRate_7 rfl (lv_at hl 2 rfl) ?_
  refine cS_i CF (As := [.int (nI (t))]) (rest := []) (c0_isMoney l (nI (t))) lk_RX0_X0_isMoney rfl hl.1 ⟨Nat.le_of_ble_eq_true rfl, Nat.le_of_ble_eq_true rfl⟩ ⟨Nat.zero_le _, Nat.zero_le _⟩ (Nat.le_of_ble_eq_true rfl) rfl dX0_setRate_8 (fun r_6 hr_7 => ?_)
  have hxh_8 := nIz (n := t) (by omega)
  rcases hr_7 with ⟨rfl, -, -⟩ | ⟨rfl, h9⟩
  rotate_left
  · exact absurd h9 (by rw [hxh_8]; omega)
  rw [show (1 : Int32) = nI 1 by rfl]
  refine z_if_ne CF (tgt := 24) (nIz (by omega)) dX0_setRate_11 (by decide) (fun _ => ?_) (fun h => absurd h (by decide))
  refine lv_iload_n CF.1 CF.2.1 dX0_setRate_24 rfl (lv_at hl 1 rfl) ?_
  refine lv_iload_n CF.1 CF.2.1 dX0_setRate_25 rfl (lv_at hl 2 rfl) ?_
  refine z_icmp_eq CF (tgt := 40) (nIz (by omega)) (nIz (by omega)) dX0_setRate_26 (by decide) (fun h_11 => absurd h_11 (by omega)) (fun h_12 => ?_)
  refine lv_iload_n CF.1 CF.2.1 dX0_setRate_29 rfl (lv_at hl 3 rfl) ?_
  refine z_if_lt CF (tgt := 40) (nIz (by omega)) dX0_setRate_30 (by decide) (fun h_13 => absurd h_13 (by omega)) (fun h_14 => ?_)
  refine lv_iload_n CF.1 CF.2.1 dX0_setRate_33 rfl (lv_at hl 3 rfl) ?_
  refine lv_sipush (v := nI 9999) CF.1 CF.2.1 dX0_setRate_34 (by decide) ?_
  refine z_icmp_le CF (tgt := 50) (nIz (by omega)) (nIz (by omega)) dX0_setRate_37 (by decide) (fun h_15 => ?_) (fun h_16 => absurd h_16 (by omega))
  refine lv_aload_n CF.1 CF.2.1 dX0_setRate_50 rfl (lv_at hl 0 rfl) ?_
  refine x0_g_rates CF hK hP dX0_setRate_51 ?_
  refine lv_iload_n CF.1 CF.2.1 dX0_setRate_54 rfl (lv_at hl 1 rfl) ?_
  refine lv_iconst (v := nI 5) CF.1 CF.2.1 dX0_setRate_55 (by decide) ?_
  refine o_imul CF dX0_setRate_56 ?_
  refine lv_iload_n CF.1 CF.2.1 dX0_setRate_57 rfl (lv_at hl 2 rfl) ?_
  refine o_iadd CF dX0_setRate_58 ?_
  refine lv_iload_n CF.1 CF.2.1 dX0_setRate_59 rfl (lv_at hl 3 rfl) ?_
  refine x0_ast1 CF hK hP hD hS (i := f * 5 + t) (by omega) dX0_setRate_60 (fun σ17 H17 locs hσ17 hP17 hD17 hS17 => ?_)
  have hR17 : Rc σ17 (upN (b) 1 (f * 5 + t) (v)) := by rw [hσ17]; exact Rc_up hR 1 (f * 5 + t) (v)
  have hM17 : Sm σ σ17 := by rw [hσ17]; exact Sm_up Sm_rf ⟨by decide, Or.inl (by decide)⟩
  refine lv_aload_n CF.1 CF.2.1 dX0_setRate_61 rfl (lv_at hl 0 rfl) ?_
  refine d0_i CF hK hP17 hj (fun _ h => h) hS17 (As := []) (rest := []) (c0_lookAtOrders l hj (b := upN (b) 1 (f * 5 + t) (v)) (I_rate hI hf ht hne hv) hR17 (Ro_sm hO hM17 (by simp [upN]) (by simp [upN]) (fun j => by simp [upN])) (InvO_to hOi (by simp [upN]) (by simp [upN]) (fun j => by simp [upN]))) rfl lk_RX0_X0_lookAtOrders rfl hl.1 ⟨Nat.le_of_ble_eq_true rfl, Nat.le_of_ble_eq_true rfl⟩ ⟨Nat.zero_le _, Nat.zero_le _⟩ (Nat.le_of_ble_eq_true rfl) rfl dX0_setRate_62 (fun r_18 σ20 H20 locs hr_19 hP20 hD20 hS20 hz20 hk20 => ?_)
  obtain ⟨rfl, hr_19b, hr_19c⟩ := hr_19
  exact W.iret CF.1 CF.2.1 hr (fun t9 ht9 hW9 => ⟨⟨_, σ20, rfl, ⟨rfl, hr_19b, hr_19c⟩, by show va_P G vwCl (w0 ad cA σ20) t9.heap; rw [ht9]; exact hP20⟩, hS20.F ht9⟩) hS20.2.2 dX0_setRate_65
set_option maxHeartbeats 1000000 in
set_option maxRecDepth 100000 in
theorem b0_setRate (l : Launch) (hfl : l.stackTraces = false) {G : va_G} {cA : ClassId} {ad : Nat → Nat} {σ : RS} (hj : inj8 ad) {b : BS} (hI : InvC b) (hR : Rc σ b) (hO : Ro σ b) (hOi : InvO b) (x y z : Int32) (hbad : ¬ (0 ≤ x.toInt ∧ x.toInt < 5 ∧ 0 ≤ y.toInt ∧ y.toInt < 5 ∧ x.toInt ≠ y.toInt ∧ 0 ≤ z.toInt ∧ z.toInt ≤ 9999)) : vx_Met l yX0_setRate (ws_ yX0_setRate cX0_setRate 4 (some .int)) (rmk 8 1 6) (pcx G cA ad σ [.ref (ad 0), .int (x), .int (y), .int (z)]) (va_Qi (fun (_ : Int32) (_ : RS) => False) (fun σ' t => va_P G vwCl (w0 ad cA σ') t.heap) (own8 ad)) (xcS G cA ad σ (fun E => (E = "java/lang/IndexOutOfBoundsException" ∧ (¬ (0 ≤ x.toInt ∧ x.toInt < 5 ∧ 0 ≤ y.toInt ∧ y.toInt < 5))) ∨ (E = "java/lang/IllegalArgumentException" ∧ (0 ≤ x.toInt ∧ x.toInt < 5 ∧ 0 ≤ y.toInt ∧ y.toInt < 5)))) 1 6 (own8 ad) := by
  refine vx_ofW (cc := cX0_setRate) (maxL := 4) (ret := (some .int)) (by decide) rfl ?_
  intro p e s m args below meth c s₁ B hml htab hv
  obtain ⟨rfl, hP, hK, hE⟩ := hv
  have CF : CallFix p m c cX0_setRate 4 s _ AW RX0 := ⟨B.exec, B.bytes, hml, findClass_of_methodNamed B.named, fun w h => atoms_spec (ws := ws_ yX0_setRate cX0_setRate 4 (some .int)) B.pre w (List.mem_cons_of_mem _ h)⟩
  have hr := B.returns
  have hlocks := B.notSynchronized
  have hl := lv_entry ([.ref (ad 0), .int (x), .int (y), .int (z)]) (n := 4) (Nat.le_of_ble_eq_true rfl)
  rw [lg_entry_eq]
  generalize (lg_sl ([.ref (ad 0), .int (x), .int (y), .int (z)]) ++ List.replicate (4 - (lg_sl ([.ref (ad 0), .int (x), .int (y), .int (z)])).length) Slot.unset).toArray = ls at hl ⊢
  have hl : lv_has ls 4 [(0, .ref (ad 0)), (1, .int (x)), (2, .int (y)), (3, .int (z))] := hl
  obtain ⟨i_sp, i_cu, i_ra, i_di, i_mo, i_pu⟩ := id hI
  have hw10 := hOi.1
  refine lv_iload_n CF.1 CF.2.1 dX0_setRate_0 rfl (lv_at hl 1 rfl) ?_
  refine cS_i CF (As := [.int (x)]) (rest := []) (c0_isMoney l ((x))) lk_RX0_X0_isMoney rfl hl.1 ⟨Nat.le_of_ble_eq_true rfl, Nat.le_of_ble_eq_true rfl⟩ ⟨Nat.zero_le _, Nat.zero_le _⟩ (Nat.le_of_ble_eq_true rfl) rfl dX0_setRate_1 (fun r_1 hr_2 => ?_)
  rcases hr_2 with ⟨rfl, h_5, h_6⟩ | ⟨rfl, h_7⟩
  · rw [show (1 : Int32) = nI 1 by rfl]
    obtain ⟨j_3, h_4, rfl⟩ := nI_ex (x := x) (n := 5) (by omega) (by omega)
    have hzj_3 := nIz (n := j_3) (by omega)
    refine z_if_eq CF (tgt := 14) (nIz (by omega)) dX0_setRate_4 (by decide) (fun h => absurd h (by decide)) (fun _ => ?_)
    refine lv_iload_n CF.1 CF.2.1 dX0_setRate_7 rfl (lv_at hl 2 rfl) ?_
    refine cS_i CF (As := [.int (y)]) (rest := []) (c0_isMoney l ((y))) lk_RX0_X0_isMoney rfl hl.1 ⟨Nat.le_of_ble_eq_true rfl, Nat.le_of_ble_eq_true rfl⟩ ⟨Nat.zero_le _, Nat.zero_le _⟩ (Nat.le_of_ble_eq_true rfl) rfl dX0_setRate_8 (fun r_10 hr_11 => ?_)
    rcases hr_11 with ⟨rfl, h_14, h_15⟩ | ⟨rfl, h_16⟩
    · rw [show (1 : Int32) = nI 1 by rfl]
      obtain ⟨j_12, h_13, rfl⟩ := nI_ex (x := y) (n := 5) (by omega) (by omega)
      have hzj_12 := nIz (n := j_12) (by omega)
      refine z_if_ne CF (tgt := 24) (nIz (by omega)) dX0_setRate_11 (by decide) (fun _ => ?_) (fun h => absurd h (by decide))
      refine lv_iload_n CF.1 CF.2.1 dX0_setRate_24 rfl (lv_at hl 1 rfl) ?_
      refine lv_iload_n CF.1 CF.2.1 dX0_setRate_25 rfl (lv_at hl 2 rfl) ?_
      refine z_icmp_eq CF (tgt := 40) (nIz (by omega)) (nIz (by omega)) dX0_setRate_26 (by decide) (fun h_19 => ?_) (fun h_20 => ?_)
      · exact thr CF hfl hE hP hj (va_S.rf) htab hlocks hl.1 (cls := "java/lang/IllegalArgumentException") (text := "the moneys are the same or the rate is not 0 to 9999") (by decide +kernel) (List.mem_of_getElem? (i := 1) rfl) (List.mem_of_getElem? (i := 1) rfl) (inr_2 _ (List.mem_of_getElem? (i := 21) rfl)) (inr_2 _ (List.mem_of_getElem? (i := 22) rfl)) ha_IA hb_IA hg_IA dX0_setRate_40 dX0_setRate_43 dX0_setRate_44 dX0_setRate_46 dX0_setRate_49 (Nat.le_of_ble_eq_true rfl) (Nat.le_of_ble_eq_true rfl) (Nat.le_of_ble_eq_true rfl) (Nat.le_of_ble_eq_true rfl) (Or.inr (⟨rfl, by omega⟩))
      · refine lv_iload_n CF.1 CF.2.1 dX0_setRate_29 rfl (lv_at hl 3 rfl) ?_
        refine z_if_lt CF (tgt := 40) rfl dX0_setRate_30 (by decide) (fun h_21 => ?_) (fun h_22 => ?_)
        · exact thr CF hfl hE hP hj (va_S.rf) htab hlocks hl.1 (cls := "java/lang/IllegalArgumentException") (text := "the moneys are the same or the rate is not 0 to 9999") (by decide +kernel) (List.mem_of_getElem? (i := 1) rfl) (List.mem_of_getElem? (i := 1) rfl) (inr_2 _ (List.mem_of_getElem? (i := 21) rfl)) (inr_2 _ (List.mem_of_getElem? (i := 22) rfl)) ha_IA hb_IA hg_IA dX0_setRate_40 dX0_setRate_43 dX0_setRate_44 dX0_setRate_46 dX0_setRate_49 (Nat.le_of_ble_eq_true rfl) (Nat.le_of_ble_eq_true rfl) (Nat.le_of_ble_eq_true rfl) (Nat.le_of_ble_eq_true rfl) (Or.inr (⟨rfl, by omega⟩))
        · refine lv_iload_n CF.1 CF.2.1 dX0_setRate_33 rfl (lv_at hl 3 rfl) ?_
          refine lv_sipush (v := nI 9999) CF.1 CF.2.1 dX0_setRate_34 (by decide) ?_
          refine z_icmp_le CF (tgt := 50) rfl (nIz (by omega)) dX0_setRate_37 (by decide) (fun h_23 => ?_) (fun h_24 => ?_)
          · exact (show False by omega).elim
          · exact thr CF hfl hE hP hj (va_S.rf) htab hlocks hl.1 (cls := "java/lang/IllegalArgumentException") (text := "the moneys are the same or the rate is not 0 to 9999") (by decide +kernel) (List.mem_of_getElem? (i := 1) rfl) (List.mem_of_getElem? (i := 1) rfl) (inr_2 _ (List.mem_of_getElem? (i := 21) rfl)) (inr_2 _ (List.mem_of_getElem? (i := 22) rfl)) ha_IA hb_IA hg_IA dX0_setRate_40 dX0_setRate_43 dX0_setRate_44 dX0_setRate_46 dX0_setRate_49 (Nat.le_of_ble_eq_true rfl) (Nat.le_of_ble_eq_true rfl) (Nat.le_of_ble_eq_true rfl) (Nat.le_of_ble_eq_true rfl) (Or.inr (⟨rfl, by omega⟩))
    · rw [show (0 : Int32) = nI 0 by rfl]
      refine z_if_ne CF (tgt := 24) (nIz (by omega)) dX0_setRate_11 (by decide) (fun h => absurd h (by decide)) (fun _ => ?_)
      exact thr CF hfl hE hP hj (va_S.rf) htab hlocks hl.1 (cls := "java/lang/IndexOutOfBoundsException") (text := "no such money") (by decide +kernel) (List.mem_of_getElem? (i := 0) rfl) (List.mem_of_getElem? (i := 0) rfl) (inr_2 _ (List.mem_of_getElem? (i := 19) rfl)) (inr_2 _ (List.mem_of_getElem? (i := 20) rfl)) ha_IO hb_IO hg_IO dX0_setRate_14 dX0_setRate_17 dX0_setRate_18 dX0_setRate_20 dX0_setRate_23 (Nat.le_of_ble_eq_true rfl) (Nat.le_of_ble_eq_true rfl) (Nat.le_of_ble_eq_true rfl) (Nat.le_of_ble_eq_true rfl) (Or.inl ⟨rfl, by omega⟩)
  · rw [show (0 : Int32) = nI 0 by rfl]
    refine z_if_eq CF (tgt := 14) (nIz (by omega)) dX0_setRate_4 (by decide) (fun _ => ?_) (fun h => absurd h (by decide))
    exact thr CF hfl hE hP hj (va_S.rf) htab hlocks hl.1 (cls := "java/lang/IndexOutOfBoundsException") (text := "no such money") (by decide +kernel) (List.mem_of_getElem? (i := 0) rfl) (List.mem_of_getElem? (i := 0) rfl) (inr_2 _ (List.mem_of_getElem? (i := 19) rfl)) (inr_2 _ (List.mem_of_getElem? (i := 20) rfl)) ha_IO hb_IO hg_IO dX0_setRate_14 dX0_setRate_17 dX0_setRate_18 dX0_setRate_20 dX0_setRate_23 (Nat.le_of_ble_eq_true rfl) (Nat.le_of_ble_eq_true rfl) (Nat.le_of_ble_eq_true rfl) (Nat.le_of_ble_eq_true rfl) (Or.inl ⟨rfl, by omega⟩)
set_option maxHeartbeats 1000000 in
set_option maxRecDepth 100000 in
theorem c0_setSpread (l : Launch) {G : va_G} {cA : ClassId} {ad : Nat → Nat} {σ : RS} (hj : inj8 ad) {b : BS} (hI : InvC b) (hR : Rc σ b) (hO : Ro σ b) (hOi : InvO b) {v : Nat} (hv : v ≤ 50) : Met l yX0_setSpread (ws_ yX0_setSpread cX0_setSpread 2 (some .int)) (rmk 8 0 0) (pc0 G cA ad σ [.ref (ad 0), .int (nI (v))]) (va_Qi (fun (r : Int32) (σ' : RS) => r = nI (b 0 3 - s_spread b v 0 3) ∧ Rc σ' (s_spread b v) ∧ Ro σ' (s_spread b v)) (fun σ' t => va_P G vwCl (w0 ad cA σ') t.heap) (own8 ad)) 0 0 (own8 ad) := by
  refine Met.ofW (cc := cX0_setSpread) (maxL := 2) (ret := (some .int)) (by decide) rfl ?_
  intro p e s m args below meth c s₁ B hml hv
  obtain ⟨rfl, hP, hK⟩ := hv
  have CF : CallFix p m c cX0_setSpread 2 s _ AW RX0 := ⟨B.exec, B.bytes, hml, findClass_of_methodNamed B.named, fun w h => atoms_spec (ws := ws_ yX0_setSpread cX0_setSpread 2 (some .int)) B.pre w (List.mem_cons_of_mem _ h)⟩
  have hr := B.returns
  have hlocks := B.notSynchronized
  have hl := lv_entry ([.ref (ad 0), .int (nI (v))]) (n := 2) (Nat.le_of_ble_eq_true rfl)
  rw [lg_entry_eq]
  generalize (lg_sl ([.ref (ad 0), .int (nI (v))]) ++ List.replicate (2 - (lg_sl ([.ref (ad 0), .int (nI (v))])).length) Slot.unset).toArray = ls at hl ⊢
  have hl : lv_has ls 2 [(0, .ref (ad 0)), (1, .int (nI (v)))] := hl
  have hD : va_D (own8 ad) (w0 ad cA σ) := w0_D hj (fun _ h => h)
  have hS : va_S (own8 ad) s.heap s.heap [] := va_S.rf
  obtain ⟨i_sp, i_cu, i_ra, i_di, i_mo, i_pu⟩ := id hI
  have hw10 := hOi.1
  refine lv_iload_n CF.1 CF.2.1 dX0_setSpread_0 rfl (lv_at hl 1 rfl) ?_
  refine z_if_lt CF (tgt := 10) (nIz (by omega)) dX0_setSpread_1 (by decide) (fun h_1 => absurd h_1 (by omega)) (fun h_2 => ?_)
  refine lv_iload_n CF.1 CF.2.1 dX0_setSpread_4 rfl (lv_at hl 1 rfl) ?_
  refine lv_bipush (v := nI 50) CF.1 CF.2.1 dX0_setSpread_5 (by decide) ?_
  refine z_icmp_le CF (tgt := 20) (nIz (by omega)) (nIz (by omega)) dX0_setSpread_7 (by decide) (fun h_3 => ?_) (fun h_4 => absurd h_4 (by omega))
  refine lv_aload_n CF.1 CF.2.1 dX0_setSpread_20 rfl (lv_at hl 0 rfl) ?_
  refine lv_iload_n CF.1 CF.2.1 dX0_setSpread_21 rfl (lv_at hl 1 rfl) ?_
  refine x0_p_spread CF hK hP hD hS dX0_setSpread_22 (fun σ5 H5 locs hσ5 hP5 hD5 hS5 => ?_)
  have hR5 : Rc σ5 (upN (b) 0 (1) (v)) := by rw [hσ5]; exact Rc_up hR 0 (1) (v)
  have hM5 : Sm σ σ5 := by rw [hσ5]; exact Sm_up Sm_rf ⟨by decide, Or.inr ⟨by decide, by decide, by decide⟩⟩
  refine lv_aload_n CF.1 CF.2.1 dX0_setSpread_25 rfl (lv_at hl 0 rfl) ?_
  refine d0_i CF hK hP5 hj (fun _ h => h) hS5 (As := []) (rest := []) (c0_lookAtOrders l hj (b := upN (b) 0 (1) (v)) (InvC_up hI (Or.inr (Or.inl ⟨rfl, rfl, hv⟩))) hR5 (Ro_sm hO hM5 (by simp [upN]) (by simp [upN]) (fun j => by simp [upN])) (InvO_to hOi (by simp [upN]) (by simp [upN]) (fun j => by simp [upN]))) rfl lk_RX0_X0_lookAtOrders rfl hl.1 ⟨Nat.le_of_ble_eq_true rfl, Nat.le_of_ble_eq_true rfl⟩ ⟨Nat.zero_le _, Nat.zero_le _⟩ (Nat.le_of_ble_eq_true rfl) rfl dX0_setSpread_26 (fun r_6 σ8 H8 locs hr_7 hP8 hD8 hS8 hz8 hk8 => ?_)
  obtain ⟨rfl, hr_7b, hr_7c⟩ := hr_7
  exact W.iret CF.1 CF.2.1 hr (fun t9 ht9 hW9 => ⟨⟨_, σ8, rfl, ⟨rfl, hr_7b, hr_7c⟩, by show va_P G vwCl (w0 ad cA σ8) t9.heap; rw [ht9]; exact hP8⟩, hS8.F ht9⟩) hS8.2.2 dX0_setSpread_29
set_option maxHeartbeats 1000000 in
set_option maxRecDepth 100000 in
theorem b0_setSpread (l : Launch) (hfl : l.stackTraces = false) {G : va_G} {cA : ClassId} {ad : Nat → Nat} {σ : RS} (hj : inj8 ad) {b : BS} (hI : InvC b) (hR : Rc σ b) (hO : Ro σ b) (hOi : InvO b) (x : Int32) (hbad : ¬ (0 ≤ x.toInt ∧ x.toInt ≤ 50)) : vx_Met l yX0_setSpread (ws_ yX0_setSpread cX0_setSpread 2 (some .int)) (rmk 8 1 6) (pcx G cA ad σ [.ref (ad 0), .int (x)]) (va_Qi (fun (_ : Int32) (_ : RS) => False) (fun σ' t => va_P G vwCl (w0 ad cA σ') t.heap) (own8 ad)) (xcS G cA ad σ (fun E => (E = "java/lang/IllegalArgumentException" ∧ (True)))) 1 6 (own8 ad) := by
  refine vx_ofW (cc := cX0_setSpread) (maxL := 2) (ret := (some .int)) (by decide) rfl ?_
  intro p e s m args below meth c s₁ B hml htab hv
  obtain ⟨rfl, hP, hK, hE⟩ := hv
  have CF : CallFix p m c cX0_setSpread 2 s _ AW RX0 := ⟨B.exec, B.bytes, hml, findClass_of_methodNamed B.named, fun w h => atoms_spec (ws := ws_ yX0_setSpread cX0_setSpread 2 (some .int)) B.pre w (List.mem_cons_of_mem _ h)⟩
  have hr := B.returns
  have hlocks := B.notSynchronized
  have hl := lv_entry ([.ref (ad 0), .int (x)]) (n := 2) (Nat.le_of_ble_eq_true rfl)
  rw [lg_entry_eq]
  generalize (lg_sl ([.ref (ad 0), .int (x)]) ++ List.replicate (2 - (lg_sl ([.ref (ad 0), .int (x)])).length) Slot.unset).toArray = ls at hl ⊢
  have hl : lv_has ls 2 [(0, .ref (ad 0)), (1, .int (x))] := hl
  obtain ⟨i_sp, i_cu, i_ra, i_di, i_mo, i_pu⟩ := id hI
  have hw10 := hOi.1
  refine lv_iload_n CF.1 CF.2.1 dX0_setSpread_0 rfl (lv_at hl 1 rfl) ?_
  refine z_if_lt CF (tgt := 10) rfl dX0_setSpread_1 (by decide) (fun h_1 => ?_) (fun h_2 => ?_)
  · exact thr CF hfl hE hP hj (va_S.rf) htab hlocks hl.1 (cls := "java/lang/IllegalArgumentException") (text := "the spread is not 0 to 50") (by decide +kernel) (List.mem_of_getElem? (i := 1) rfl) (List.mem_of_getElem? (i := 2) rfl) (inr_2 _ (List.mem_of_getElem? (i := 21) rfl)) (inr_2 _ (List.mem_of_getElem? (i := 22) rfl)) ha_IA hb_IA hg_IA dX0_setSpread_10 dX0_setSpread_13 dX0_setSpread_14 dX0_setSpread_16 dX0_setSpread_19 (Nat.le_of_ble_eq_true rfl) (Nat.le_of_ble_eq_true rfl) (Nat.le_of_ble_eq_true rfl) (Nat.le_of_ble_eq_true rfl) (⟨rfl, trivial⟩)
  · refine lv_iload_n CF.1 CF.2.1 dX0_setSpread_4 rfl (lv_at hl 1 rfl) ?_
    refine lv_bipush (v := nI 50) CF.1 CF.2.1 dX0_setSpread_5 (by decide) ?_
    refine z_icmp_le CF (tgt := 20) rfl (nIz (by omega)) dX0_setSpread_7 (by decide) (fun h_3 => ?_) (fun h_4 => ?_)
    · exact (show False by omega).elim
    · exact thr CF hfl hE hP hj (va_S.rf) htab hlocks hl.1 (cls := "java/lang/IllegalArgumentException") (text := "the spread is not 0 to 50") (by decide +kernel) (List.mem_of_getElem? (i := 1) rfl) (List.mem_of_getElem? (i := 2) rfl) (inr_2 _ (List.mem_of_getElem? (i := 21) rfl)) (inr_2 _ (List.mem_of_getElem? (i := 22) rfl)) ha_IA hb_IA hg_IA dX0_setSpread_10 dX0_setSpread_13 dX0_setSpread_14 dX0_setSpread_16 dX0_setSpread_19 (Nat.le_of_ble_eq_true rfl) (Nat.le_of_ble_eq_true rfl) (Nat.le_of_ble_eq_true rfl) (Nat.le_of_ble_eq_true rfl) (⟨rfl, trivial⟩)
set_option maxHeartbeats 1000000 in
set_option maxRecDepth 100000 in
theorem c0_setLimit (l : Launch) {G : va_G} {cA : ClassId} {ad : Nat → Nat} {σ : RS} (hj : inj8 ad) {b : BS} (hI : InvC b) (hR : Rc σ b) (hO : Ro σ b) (hOi : InvO b) {t v : Nat} (ht : t < 5) (hv : v ≤ 99999) : Met l yX0_setLimit (ws_ yX0_setLimit cX0_setLimit 4 (some .int)) (rmk 8 0 0) (pc0 G cA ad σ [.ref (ad 0), .int (nI (t)), .int (nI (v))]) (va_Qi (fun (r : Int32) (σ' : RS) => r = nI (b 4 t) ∧ Rc σ' (upN b 4 t v) ∧ Ro σ' (upN b 4 t v)) (fun σ' t => va_P G vwCl (w0 ad cA σ') t.heap) (own8 ad)) 0 0 (own8 ad) := by
  refine Met.ofW (cc := cX0_setLimit) (maxL := 4) (ret := (some .int)) (by decide) rfl ?_
  intro p e s m args below meth c s₁ B hml hv
  obtain ⟨rfl, hP, hK⟩ := hv
  have CF : CallFix p m c cX0_setLimit 4 s _ AW RX0 := ⟨B.exec, B.bytes, hml, findClass_of_methodNamed B.named, fun w h => atoms_spec (ws := ws_ yX0_setLimit cX0_setLimit 4 (some .int)) B.pre w (List.mem_cons_of_mem _ h)⟩
  have hr := B.returns
  have hlocks := B.notSynchronized
  have hl := lv_entry ([.ref (ad 0), .int (nI (t)), .int (nI (v))]) (n := 4) (Nat.le_of_ble_eq_true rfl)
  rw [lg_entry_eq]
  generalize (lg_sl ([.ref (ad 0), .int (nI (t)), .int (nI (v))]) ++ List.replicate (4 - (lg_sl ([.ref (ad 0), .int (nI (t)), .int (nI (v))])).length) Slot.unset).toArray = ls at hl ⊢
  have hl : lv_has ls 4 [(0, .ref (ad 0)), (1, .int (nI (t))), (2, .int (nI (v)))] := hl
  have hD : va_D (own8 ad) (w0 ad cA σ) := w0_D hj (fun _ h => h)
  have hS : va_S (own8 ad) s.heap s.heap [] := va_S.rf
  obtain ⟨i_sp, i_cu, i_ra, i_di, i_mo, i_pu⟩ := id hI
  have hw10 := hOi.1
  refine lv_iload_n CF.1 CF.2.1 dX0_setLimit_0 rfl (lv_at hl 1 rfl) ?_
  refine cS_i CF (As := [.int (nI (t))]) (rest := []) (c0_isMoney l (nI (t))) lk_RX0_X0_isMoney rfl hl.1 ⟨Nat.le_of_ble_eq_true rfl, Nat.le_of_ble_eq_true rfl⟩ ⟨Nat.zero_le _, Nat.zero_le _⟩ (Nat.le_of_ble_eq_true rfl) rfl dX0_setLimit_1 (fun r_1 hr_2 => ?_)
  have hxh_3 := nIz (n := t) (by omega)
  rcases hr_2 with ⟨rfl, -, -⟩ | ⟨rfl, h9⟩
  rotate_left
  · exact absurd h9 (by rw [hxh_3]; omega)
  rw [show (1 : Int32) = nI 1 by rfl]
  refine z_if_ne CF (tgt := 17) (nIz (by omega)) dX0_setLimit_4 (by decide) (fun _ => ?_) (fun h => absurd h (by decide))
  refine lv_iload_n CF.1 CF.2.1 dX0_setLimit_17 rfl (lv_at hl 2 rfl) ?_
  refine z_if_lt CF (tgt := 27) (nIz (by omega)) dX0_setLimit_18 (by decide) (fun h_6 => absurd h_6 (by omega)) (fun h_7 => ?_)
  refine lv_iload_n CF.1 CF.2.1 dX0_setLimit_21 rfl (lv_at hl 2 rfl) ?_
  refine lv_ldc (v := nI 99999) CF.1 CF.2.1 CF.2.2.2.1 (CF.2.2.2.2 _ (inr_9 _ (List.mem_of_getElem? (i := 16) rfl))) dX0_setLimit_22 ?_
  refine z_icmp_le CF (tgt := 37) (nIz (by omega)) (nIz (by omega)) dX0_setLimit_24 (by decide) (fun h_8 => ?_) (fun h_9 => absurd h_9 (by omega))
  refine lv_aload_n CF.1 CF.2.1 dX0_setLimit_37 rfl (lv_at hl 0 rfl) ?_
  refine x0_g_limits CF hK hP dX0_setLimit_38 ?_
  refine lv_iload_n CF.1 CF.2.1 dX0_setLimit_41 rfl (lv_at hl 1 rfl) ?_
  refine x0_ald4 CF hK hP (i := t) (by omega) (v := (nI (b 4 (t)))) (hR.a4 (by omega)) dX0_setLimit_42 ?_
  refine lv_istore_n (lv' := [(3, .int (nI (b 4 (t)))), (0, .ref (ad 0)), (1, .int (nI (t))), (2, .int (nI (v)))]) CF.1 CF.2.1 dX0_setLimit_43 rfl hl (by decide) rfl (fun ls hl => ?_)
  refine lv_aload_n CF.1 CF.2.1 dX0_setLimit_44 rfl (lv_at hl 1 rfl) ?_
  refine x0_g_limits CF hK hP dX0_setLimit_45 ?_
  refine lv_iload_n CF.1 CF.2.1 dX0_setLimit_48 rfl (lv_at hl 2 rfl) ?_
  refine lv_iload_n CF.1 CF.2.1 dX0_setLimit_49 rfl (lv_at hl 3 rfl) ?_
  refine x0_ast4 CF hK hP hD hS (i := t) (by omega) dX0_setLimit_50 (fun σ10 H10 locs hσ10 hP10 hD10 hS10 => ?_)
  have hR10 : Rc σ10 (upN (b) 4 (t) (v)) := by rw [hσ10]; exact Rc_up hR 4 (t) (v)
  have hM10 : Sm σ σ10 := by rw [hσ10]; exact Sm_up Sm_rf ⟨by decide, Or.inl (by decide)⟩
  refine lv_iload_n CF.1 CF.2.1 dX0_setLimit_51 rfl (lv_at hl 0 rfl) ?_
  exact W.iret CF.1 CF.2.1 hr (fun t9 ht9 hW9 => ⟨⟨_, σ10, rfl, ⟨rfl, hR10, Ro_sm hO hM10 (by simp [upN]) (by simp [upN]) (fun j => by simp [upN])⟩, by show va_P G vwCl (w0 ad cA σ10) t9.heap; rw [ht9]; exact hP10⟩, hS10.F ht9⟩) hS10.2.2 dX0_setLimit_52
set_option maxHeartbeats 1000000 in
set_option maxRecDepth 100000 in
theorem b0_setLimit (l : Launch) (hfl : l.stackTraces = false) {G : va_G} {cA : ClassId} {ad : Nat → Nat} {σ : RS} (hj : inj8 ad) {b : BS} (hI : InvC b) (hR : Rc σ b) (hO : Ro σ b) (hOi : InvO b) (x z : Int32) (hbad : ¬ (0 ≤ x.toInt ∧ x.toInt < 5 ∧ 0 ≤ z.toInt ∧ z.toInt ≤ 99999)) : vx_Met l yX0_setLimit (ws_ yX0_setLimit cX0_setLimit 4 (some .int)) (rmk 8 1 6) (pcx G cA ad σ [.ref (ad 0), .int (x), .int (z)]) (va_Qi (fun (_ : Int32) (_ : RS) => False) (fun σ' t => va_P G vwCl (w0 ad cA σ') t.heap) (own8 ad)) (xcS G cA ad σ (fun E => (E = "java/lang/IndexOutOfBoundsException" ∧ (¬ (0 ≤ x.toInt ∧ x.toInt < 5))) ∨ (E = "java/lang/IllegalArgumentException" ∧ (0 ≤ x.toInt ∧ x.toInt < 5)))) 1 6 (own8 ad) := by
  refine vx_ofW (cc := cX0_setLimit) (maxL := 4) (ret := (some .int)) (by decide) rfl ?_
  intro p e s m args below meth c s₁ B hml htab hv
  obtain ⟨rfl, hP, hK, hE⟩ := hv
  have CF : CallFix p m c cX0_setLimit 4 s _ AW RX0 := ⟨B.exec, B.bytes, hml, findClass_of_methodNamed B.named, fun w h => atoms_spec (ws := ws_ yX0_setLimit cX0_setLimit 4 (some .int)) B.pre w (List.mem_cons_of_mem _ h)⟩
  have hr := B.returns
  have hlocks := B.notSynchronized
  have hl := lv_entry ([.ref (ad 0), .int (x), .int (z)]) (n := 4) (Nat.le_of_ble_eq_true rfl)
  rw [lg_entry_eq]
  generalize (lg_sl ([.ref (ad 0), .int (x), .int (z)]) ++ List.replicate (4 - (lg_sl ([.ref (ad 0), .int (x), .int (z)])).length) Slot.unset).toArray = ls at hl ⊢
  have hl : lv_has ls 4 [(0, .ref (ad 0)), (1, .int (x)), (2, .int (z))] := hl
  obtain ⟨i_sp, i_cu, i_ra, i_di, i_mo, i_pu⟩ := id hI
  have hw10 := hOi.1
  refine lv_iload_n CF.1 CF.2.1 dX0_setLimit_0 rfl (lv_at hl 1 rfl) ?_
  refine cS_i CF (As := [.int (x)]) (rest := []) (c0_isMoney l ((x))) lk_RX0_X0_isMoney rfl hl.1 ⟨Nat.le_of_ble_eq_true rfl, Nat.le_of_ble_eq_true rfl⟩ ⟨Nat.zero_le _, Nat.zero_le _⟩ (Nat.le_of_ble_eq_true rfl) rfl dX0_setLimit_1 (fun r_1 hr_2 => ?_)
  rcases hr_2 with ⟨rfl, h_5, h_6⟩ | ⟨rfl, h_7⟩
  · rw [show (1 : Int32) = nI 1 by rfl]
    obtain ⟨j_3, h_4, rfl⟩ := nI_ex (x := x) (n := 5) (by omega) (by omega)
    have hzj_3 := nIz (n := j_3) (by omega)
    refine z_if_ne CF (tgt := 17) (nIz (by omega)) dX0_setLimit_4 (by decide) (fun _ => ?_) (fun h => absurd h (by decide))
    refine lv_iload_n CF.1 CF.2.1 dX0_setLimit_17 rfl (lv_at hl 2 rfl) ?_
    refine z_if_lt CF (tgt := 27) rfl dX0_setLimit_18 (by decide) (fun h_10 => ?_) (fun h_11 => ?_)
    · exact thr CF hfl hE hP hj (va_S.rf) htab hlocks hl.1 (cls := "java/lang/IllegalArgumentException") (text := "the limit is not 0 to 99999") (by decide +kernel) (List.mem_of_getElem? (i := 1) rfl) (List.mem_of_getElem? (i := 3) rfl) (inr_2 _ (List.mem_of_getElem? (i := 21) rfl)) (inr_2 _ (List.mem_of_getElem? (i := 22) rfl)) ha_IA hb_IA hg_IA dX0_setLimit_27 dX0_setLimit_30 dX0_setLimit_31 dX0_setLimit_33 dX0_setLimit_36 (Nat.le_of_ble_eq_true rfl) (Nat.le_of_ble_eq_true rfl) (Nat.le_of_ble_eq_true rfl) (Nat.le_of_ble_eq_true rfl) (Or.inr (⟨rfl, by omega⟩))
    · refine lv_iload_n CF.1 CF.2.1 dX0_setLimit_21 rfl (lv_at hl 2 rfl) ?_
      refine lv_ldc (v := nI 99999) CF.1 CF.2.1 CF.2.2.2.1 (CF.2.2.2.2 _ (inr_9 _ (List.mem_of_getElem? (i := 16) rfl))) dX0_setLimit_22 ?_
      refine z_icmp_le CF (tgt := 37) rfl (nIz (by omega)) dX0_setLimit_24 (by decide) (fun h_12 => ?_) (fun h_13 => ?_)
      · exact (show False by omega).elim
      · exact thr CF hfl hE hP hj (va_S.rf) htab hlocks hl.1 (cls := "java/lang/IllegalArgumentException") (text := "the limit is not 0 to 99999") (by decide +kernel) (List.mem_of_getElem? (i := 1) rfl) (List.mem_of_getElem? (i := 3) rfl) (inr_2 _ (List.mem_of_getElem? (i := 21) rfl)) (inr_2 _ (List.mem_of_getElem? (i := 22) rfl)) ha_IA hb_IA hg_IA dX0_setLimit_27 dX0_setLimit_30 dX0_setLimit_31 dX0_setLimit_33 dX0_setLimit_36 (Nat.le_of_ble_eq_true rfl) (Nat.le_of_ble_eq_true rfl) (Nat.le_of_ble_eq_true rfl) (Nat.le_of_ble_eq_true rfl) (Or.inr (⟨rfl, by omega⟩))
  · rw [show (0 : Int32) = nI 0 by rfl]
    refine z_if_ne CF (tgt := 17) (nIz (by omega)) dX0_setLimit_4 (by decide) (fun h => absurd h (by decide)) (fun _ => ?_)
    exact thr CF hfl hE hP hj (va_S.rf) htab hlocks hl.1 (cls := "java/lang/IndexOutOfBoundsException") (text := "no such money") (by decide +kernel) (List.mem_of_getElem? (i := 0) rfl) (List.mem_of_getElem? (i := 0) rfl) (inr_2 _ (List.mem_of_getElem? (i := 19) rfl)) (inr_2 _ (List.mem_of_getElem? (i := 20) rfl)) ha_IO hb_IO hg_IO dX0_setLimit_7 dX0_setLimit_10 dX0_setLimit_11 dX0_setLimit_13 dX0_setLimit_16 (Nat.le_of_ble_eq_true rfl) (Nat.le_of_ble_eq_true rfl) (Nat.le_of_ble_eq_true rfl) (Nat.le_of_ble_eq_true rfl) (Or.inl ⟨rfl, by omega⟩)
set_option maxHeartbeats 1000000 in
set_option maxRecDepth 100000 in
theorem c0_stock (l : Launch) {G : va_G} {cA : ClassId} {ad : Nat → Nat} {σ : RS} (hj : inj8 ad) {b : BS} (hI : InvC b) (hR : Rc σ b) (hO : Ro σ b) (hOi : InvO b) {t v : Nat} (ht : t < 5) (hv0 : 1 ≤ v) (hv : v ≤ 99999) : Met l yX0_stock (ws_ yX0_stock cX0_stock 3 (some .int)) (rmk 8 0 0) (pc0 G cA ad σ [.ref (ad 0), .int (nI (t)), .int (nI (v))]) (va_Qi (fun (r : Int32) (σ' : RS) => r = nI (min (b 2 t + v) 999999) ∧ Rc σ' (upN b 2 t (min (b 2 t + v) 999999)) ∧ Ro σ' (upN b 2 t (min (b 2 t + v) 999999))) (fun σ' t => va_P G vwCl (w0 ad cA σ') t.heap) (own8 ad)) 0 0 (own8 ad) := by
  refine Met.ofW (cc := cX0_stock) (maxL := 3) (ret := (some .int)) (by decide) rfl ?_
  intro p e s m args below meth c s₁ B hml hv
  obtain ⟨rfl, hP, hK⟩ := hv
  have CF : CallFix p m c cX0_stock 3 s _ AW RX0 := ⟨B.exec, B.bytes, hml, findClass_of_methodNamed B.named, fun w h => atoms_spec (ws := ws_ yX0_stock cX0_stock 3 (some .int)) B.pre w (List.mem_cons_of_mem _ h)⟩
  have hr := B.returns
  have hlocks := B.notSynchronized
  have hl := lv_entry ([.ref (ad 0), .int (nI (t)), .int (nI (v))]) (n := 3) (Nat.le_of_ble_eq_true rfl)
  rw [lg_entry_eq]
  generalize (lg_sl ([.ref (ad 0), .int (nI (t)), .int (nI (v))]) ++ List.replicate (3 - (lg_sl ([.ref (ad 0), .int (nI (t)), .int (nI (v))])).length) Slot.unset).toArray = ls at hl ⊢
  have hl : lv_has ls 3 [(0, .ref (ad 0)), (1, .int (nI (t))), (2, .int (nI (v)))] := hl
  have hD : va_D (own8 ad) (w0 ad cA σ) := w0_D hj (fun _ h => h)
  have hS : va_S (own8 ad) s.heap s.heap [] := va_S.rf
  obtain ⟨i_sp, i_cu, i_ra, i_di, i_mo, i_pu⟩ := id hI
  have hw10 := hOi.1
  have h_mo := i_mo t ht
  refine lv_iload_n CF.1 CF.2.1 dX0_stock_0 rfl (lv_at hl 1 rfl) ?_
  refine cS_i CF (As := [.int (nI (t))]) (rest := []) (c0_isMoney l (nI (t))) lk_RX0_X0_isMoney rfl hl.1 ⟨Nat.le_of_ble_eq_true rfl, Nat.le_of_ble_eq_true rfl⟩ ⟨Nat.zero_le _, Nat.zero_le _⟩ (Nat.le_of_ble_eq_true rfl) rfl dX0_stock_1 (fun r_1 hr_2 => ?_)
  have hxh_3 := nIz (n := t) (by omega)
  rcases hr_2 with ⟨rfl, -, -⟩ | ⟨rfl, h9⟩
  rotate_left
  · exact absurd h9 (by rw [hxh_3]; omega)
  rw [show (1 : Int32) = nI 1 by rfl]
  refine z_if_ne CF (tgt := 17) (nIz (by omega)) dX0_stock_4 (by decide) (fun _ => ?_) (fun h => absurd h (by decide))
  refine lv_iload_n CF.1 CF.2.1 dX0_stock_17 rfl (lv_at hl 2 rfl) ?_
  refine cS_i CF (As := [.int (nI (v))]) (rest := []) (c0_isNamedAmount l (nI (v))) lk_RX0_X0_isNamedAmount rfl hl.1 ⟨Nat.le_of_ble_eq_true rfl, Nat.le_of_ble_eq_true rfl⟩ ⟨Nat.zero_le _, Nat.zero_le _⟩ (Nat.le_of_ble_eq_true rfl) rfl dX0_stock_18 (fun r_6 hr_7 => ?_)
  have hxh_8 := nIz (n := v) (by omega)
  rcases hr_7 with ⟨rfl, -, -⟩ | ⟨rfl, h9⟩
  rotate_left
  · exact absurd h9 (by rw [hxh_8]; omega)
  rw [show (1 : Int32) = nI 1 by rfl]
  refine z_if_ne CF (tgt := 34) (nIz (by omega)) dX0_stock_21 (by decide) (fun _ => ?_) (fun h => absurd h (by decide))
  refine lv_aload_n CF.1 CF.2.1 dX0_stock_34 rfl (lv_at hl 0 rfl) ?_
  refine x0_g_stocks CF hK hP dX0_stock_35 ?_
  refine lv_iload_n CF.1 CF.2.1 dX0_stock_38 rfl (lv_at hl 1 rfl) ?_
  refine lv_aload_n CF.1 CF.2.1 dX0_stock_39 rfl (lv_at hl 0 rfl) ?_
  refine x0_g_stocks CF hK hP dX0_stock_40 ?_
  refine lv_iload_n CF.1 CF.2.1 dX0_stock_43 rfl (lv_at hl 1 rfl) ?_
  refine x0_ald2 CF hK hP (i := t) (by omega) (v := (nI (b 2 (t)))) (hR.a2 (by omega)) dX0_stock_44 ?_
  refine lv_iload_n CF.1 CF.2.1 dX0_stock_45 rfl (lv_at hl 2 rfl) ?_
  refine o_iadd CF dX0_stock_46 ?_
  refine o_i2l CF (by omega) dX0_stock_47 ?_
  refine cS_i CF (As := [.long (lN (b 2 (t) + v))]) (rest := [.int (nI (t)), .ref (ad 2)]) (c0_heldAtMost l (v := b 2 (t) + v) (by omega)) lk_RX0_X0_heldAtMost rfl hl.1 ⟨Nat.le_of_ble_eq_true rfl, Nat.le_of_ble_eq_true rfl⟩ ⟨Nat.zero_le _, Nat.zero_le _⟩ (Nat.le_of_ble_eq_true rfl) rfl dX0_stock_48 (fun r_11 hr_12 => ?_)
  subst hr_12
  refine x0_ast2 CF hK hP hD hS (i := t) (by omega) dX0_stock_51 (fun σ13 H13 locs hσ13 hP13 hD13 hS13 => ?_)
  have hR13 : Rc σ13 (upN (b) 2 (t) (min (b 2 (t) + v) 999999)) := by rw [hσ13]; exact Rc_up hR 2 (t) (min (b 2 (t) + v) 999999)
  have hM13 : Sm σ σ13 := by rw [hσ13]; exact Sm_up Sm_rf ⟨by decide, Or.inl (by decide)⟩
  refine lv_aload_n CF.1 CF.2.1 dX0_stock_52 rfl (lv_at hl 0 rfl) ?_
  refine x0_g_stocks CF hK hP13 dX0_stock_53 ?_
  refine lv_iload_n CF.1 CF.2.1 dX0_stock_56 rfl (lv_at hl 1 rfl) ?_
  refine x0_ald2 CF hK hP13 (i := t) (by omega) (v := (nI (min (b 2 (t) + v) 999999))) (by rw [hσ13, up_s]) dX0_stock_57 ?_
  exact W.iret CF.1 CF.2.1 hr (fun t9 ht9 hW9 => ⟨⟨_, σ13, rfl, ⟨rfl, hR13, Ro_sm hO hM13 (by simp [upN]) (by simp [upN]) (fun j => by simp [upN])⟩, by show va_P G vwCl (w0 ad cA σ13) t9.heap; rw [ht9]; exact hP13⟩, hS13.F ht9⟩) hS13.2.2 dX0_stock_58
set_option maxHeartbeats 1000000 in
set_option maxRecDepth 100000 in
theorem b0_stock (l : Launch) (hfl : l.stackTraces = false) {G : va_G} {cA : ClassId} {ad : Nat → Nat} {σ : RS} (hj : inj8 ad) {b : BS} (hI : InvC b) (hR : Rc σ b) (hO : Ro σ b) (hOi : InvO b) (x z : Int32) (hbad : ¬ (0 ≤ x.toInt ∧ x.toInt < 5 ∧ 1 ≤ z.toInt ∧ z.toInt ≤ 99999)) : vx_Met l yX0_stock (ws_ yX0_stock cX0_stock 3 (some .int)) (rmk 8 1 6) (pcx G cA ad σ [.ref (ad 0), .int (x), .int (z)]) (va_Qi (fun (_ : Int32) (_ : RS) => False) (fun σ' t => va_P G vwCl (w0 ad cA σ') t.heap) (own8 ad)) (xcS G cA ad σ (fun E => (E = "java/lang/IndexOutOfBoundsException" ∧ (¬ (0 ≤ x.toInt ∧ x.toInt < 5))) ∨ (E = "java/lang/IllegalArgumentException" ∧ (0 ≤ x.toInt ∧ x.toInt < 5)))) 1 6 (own8 ad) := by
  refine vx_ofW (cc := cX0_stock) (maxL := 3) (ret := (some .int)) (by decide) rfl ?_
  intro p e s m args below meth c s₁ B hml htab hv
  obtain ⟨rfl, hP, hK, hE⟩ := hv
  have CF : CallFix p m c cX0_stock 3 s _ AW RX0 := ⟨B.exec, B.bytes, hml, findClass_of_methodNamed B.named, fun w h => atoms_spec (ws := ws_ yX0_stock cX0_stock 3 (some .int)) B.pre w (List.mem_cons_of_mem _ h)⟩
  have hr := B.returns
  have hlocks := B.notSynchronized
  have hl := lv_entry ([.ref (ad 0), .int (x), .int (z)]) (n := 3) (Nat.le_of_ble_eq_true rfl)
  rw [lg_entry_eq]
  generalize (lg_sl ([.ref (ad 0), .int (x), .int (z)]) ++ List.replicate (3 - (lg_sl ([.ref (ad 0), .int (x), .int (z)])).length) Slot.unset).toArray = ls at hl ⊢
  have hl : lv_has ls 3 [(0, .ref (ad 0)), (1, .int (x)), (2, .int (z))] := hl
  obtain ⟨i_sp, i_cu, i_ra, i_di, i_mo, i_pu⟩ := id hI
  have hw10 := hOi.1
  refine lv_iload_n CF.1 CF.2.1 dX0_stock_0 rfl (lv_at hl 1 rfl) ?_
  refine cS_i CF (As := [.int (x)]) (rest := []) (c0_isMoney l ((x))) lk_RX0_X0_isMoney rfl hl.1 ⟨Nat.le_of_ble_eq_true rfl, Nat.le_of_ble_eq_true rfl⟩ ⟨Nat.zero_le _, Nat.zero_le _⟩ (Nat.le_of_ble_eq_true rfl) rfl dX0_stock_1 (fun r_1 hr_2 => ?_)
  rcases hr_2 with ⟨rfl, h_5, h_6⟩ | ⟨rfl, h_7⟩
  · rw [show (1 : Int32) = nI 1 by rfl]
    obtain ⟨j_3, h_4, rfl⟩ := nI_ex (x := x) (n := 5) (by omega) (by omega)
    have hzj_3 := nIz (n := j_3) (by omega)
    refine z_if_ne CF (tgt := 17) (nIz (by omega)) dX0_stock_4 (by decide) (fun _ => ?_) (fun h => absurd h (by decide))
    refine lv_iload_n CF.1 CF.2.1 dX0_stock_17 rfl (lv_at hl 2 rfl) ?_
    refine cS_i CF (As := [.int (z)]) (rest := []) (c0_isNamedAmount l ((z))) lk_RX0_X0_isNamedAmount rfl hl.1 ⟨Nat.le_of_ble_eq_true rfl, Nat.le_of_ble_eq_true rfl⟩ ⟨Nat.zero_le _, Nat.zero_le _⟩ (Nat.le_of_ble_eq_true rfl) rfl dX0_stock_18 (fun r_10 hr_11 => ?_)
    rcases hr_11 with ⟨rfl, h_14, h_15⟩ | ⟨rfl, h_16⟩
    · rw [show (1 : Int32) = nI 1 by rfl]
      obtain ⟨j_12, h_13, rfl⟩ := nI_ex (x := z) (n := 100000) (by omega) (by omega)
      rw [nIz (by omega)] at h_14
      have hzj_12 := nIz (n := j_12) (by omega)
      refine z_if_ne CF (tgt := 34) (nIz (by omega)) dX0_stock_21 (by decide) (fun _ => ?_) (fun h => absurd h (by decide))
      exact (show False by omega).elim
    · rw [show (0 : Int32) = nI 0 by rfl]
      refine z_if_ne CF (tgt := 34) (nIz (by omega)) dX0_stock_21 (by decide) (fun h => absurd h (by decide)) (fun _ => ?_)
      exact thr CF hfl hE hP hj (va_S.rf) htab hlocks hl.1 (cls := "java/lang/IllegalArgumentException") (text := "what comes is not 1 to 99999") (by decide +kernel) (List.mem_of_getElem? (i := 1) rfl) (List.mem_of_getElem? (i := 4) rfl) (inr_2 _ (List.mem_of_getElem? (i := 21) rfl)) (inr_2 _ (List.mem_of_getElem? (i := 22) rfl)) ha_IA hb_IA hg_IA dX0_stock_24 dX0_stock_27 dX0_stock_28 dX0_stock_30 dX0_stock_33 (Nat.le_of_ble_eq_true rfl) (Nat.le_of_ble_eq_true rfl) (Nat.le_of_ble_eq_true rfl) (Nat.le_of_ble_eq_true rfl) (Or.inr (⟨rfl, by omega⟩))
  · rw [show (0 : Int32) = nI 0 by rfl]
    refine z_if_ne CF (tgt := 17) (nIz (by omega)) dX0_stock_4 (by decide) (fun h => absurd h (by decide)) (fun _ => ?_)
    exact thr CF hfl hE hP hj (va_S.rf) htab hlocks hl.1 (cls := "java/lang/IndexOutOfBoundsException") (text := "no such money") (by decide +kernel) (List.mem_of_getElem? (i := 0) rfl) (List.mem_of_getElem? (i := 0) rfl) (inr_2 _ (List.mem_of_getElem? (i := 19) rfl)) (inr_2 _ (List.mem_of_getElem? (i := 20) rfl)) ha_IO hb_IO hg_IO dX0_stock_7 dX0_stock_10 dX0_stock_11 dX0_stock_13 dX0_stock_16 (Nat.le_of_ble_eq_true rfl) (Nat.le_of_ble_eq_true rfl) (Nat.le_of_ble_eq_true rfl) (Nat.le_of_ble_eq_true rfl) (Or.inl ⟨rfl, by omega⟩)
set_option maxHeartbeats 1000000 in
set_option maxRecDepth 100000 in
theorem c0_next (l : Launch) {G : va_G} {cA : ClassId} {ad : Nat → Nat} {σ : RS} (hj : inj8 ad) {b : BS} (hI : InvC b) (hR : Rc σ b) (hO : Ro σ b) (hOi : InvO b)  : Met l yX0_next (ws_ yX0_next cX0_next 2 (some .int)) (rmk 8 0 0) (pc0 G cA ad σ [.ref (ad 0)]) (va_Qi (fun (r : Int32) (σ' : RS) => r = nI (b 0 3 - s_next b 0 3) ∧ Rc σ' (s_next b) ∧ Ro σ' (s_next b)) (fun σ' t => va_P G vwCl (w0 ad cA σ') t.heap) (own8 ad)) 0 0 (own8 ad) := by
  refine Met.ofW (cc := cX0_next) (maxL := 2) (ret := (some .int)) (by decide) rfl ?_
  intro p e s m args below meth c s₁ B hml hv
  obtain ⟨rfl, hP, hK⟩ := hv
  have CF : CallFix p m c cX0_next 2 s _ AW RX0 := ⟨B.exec, B.bytes, hml, findClass_of_methodNamed B.named, fun w h => atoms_spec (ws := ws_ yX0_next cX0_next 2 (some .int)) B.pre w (List.mem_cons_of_mem _ h)⟩
  have hr := B.returns
  have hlocks := B.notSynchronized
  have hl := lv_entry ([.ref (ad 0)]) (n := 2) (Nat.le_of_ble_eq_true rfl)
  rw [lg_entry_eq]
  generalize (lg_sl ([.ref (ad 0)]) ++ List.replicate (2 - (lg_sl ([.ref (ad 0)])).length) Slot.unset).toArray = ls at hl ⊢
  have hl : lv_has ls 2 [(0, .ref (ad 0))] := hl
  have hD : va_D (own8 ad) (w0 ad cA σ) := w0_D hj (fun _ h => h)
  have hS : va_S (own8 ad) s.heap s.heap [] := va_S.rf
  obtain ⟨i_sp, i_cu, i_ra, i_di, i_mo, i_pu⟩ := id hI
  have hw10 := hOi.1
  refine lv_aload_n CF.1 CF.2.1 dX0_next_0 rfl (lv_at hl 0 rfl) ?_
  refine lv_dup CF.1 CF.2.1 dX0_next_1 rfl ?_
  refine x0_g_day CF hK hP (v := (nI (b 0 0))) (hR.1) dX0_next_2 ?_
  refine lv_iconst (v := nI 1) CF.1 CF.2.1 dX0_next_5 (by decide) ?_
  refine o_iadd CF dX0_next_6 ?_
  refine x0_p_day CF hK hP hD hS dX0_next_7 (fun σ1 H1 locs hσ1 hP1 hD1 hS1 => ?_)
  obtain ⟨σ1, hσe⟩ : ∃ z, z = σ1 := ⟨_, rfl⟩
  have hσ1 : σ1 = up σ 0 0 (nI (b 0 0 + 1)) := by rw [hσe]; exact hσ1
  refine lv_iconst (v := nI 0) CF.1 CF.2.1 dX0_next_10 (by decide) ?_
  refine lv_istore_n (lv' := [(1, .int (nI (0))), (0, .ref (ad 0))]) CF.1 CF.2.1 dX0_next_11 rfl hl (by decide) rfl (fun ls hl => ?_)
  refine loop_rw0 (α := Unit) (fun i x => [(0, .ref (ad 0)), (1, .int (nI (i)))]) (fun i _ σ' => σ' = nxI σ1 i) (5) (0) (()) (hσe.symm.trans nxI_0.symm) hP1 hS1 (lv_sub hl [1, 0] rfl) (by omega) (fun i_2 x_2 σ2 H2 locs hj_2 hi_2 hx_2 hP2 hS2 ih_2 ls hl => ?_)
  have hD2 : va_D (own8 ad) (w0 ad cA σ2) := w0_D hj (fun _ h => h)
  have hx_2 : σ2 = nxI σ1 i_2 := hx_2
  refine lv_iload_n CF.1 CF.2.1 dX0_next_12 rfl (lv_at hl 1 rfl) ?_
  refine lv_iconst (v := nI 5) CF.1 CF.2.1 dX0_next_13 (by decide) ?_
  refine z_icmp_ge CF (tgt := 30) (nIz (by omega)) (nIz (by omega)) dX0_next_14 (by decide) (fun h_3 => ?_) (fun h_4 => ?_)
  · have hRn := nx_R hR hO hσ1
    rw [show i_2 = 5 by omega] at hx_2
    rw [← hx_2] at hRn
    refine lv_aload_n CF.1 CF.2.1 dX0_next_30 rfl (lv_at hl 0 rfl) ?_
    refine d0_i CF hK hP2 hj (fun _ h => h) hS2 (As := []) (rest := []) (c0_lookAtOrders l hj (b := s_nx b) (I_nx hI) hRn.1 hRn.2 (InvO_to hOi (Nat.le_refl _) rfl (fun j => rfl))) rfl lk_RX0_X0_lookAtOrders rfl hl.1 ⟨Nat.le_of_ble_eq_true rfl, Nat.le_of_ble_eq_true rfl⟩ ⟨Nat.zero_le _, Nat.zero_le _⟩ (Nat.le_of_ble_eq_true rfl) rfl dX0_next_31 (fun r_5 σ7 H7 locs hr_6 hP7 hD7 hS7 hz7 hk7 => ?_)
    obtain ⟨rfl, hr_6b, hr_6c⟩ := hr_6
    exact W.iret CF.1 CF.2.1 hr (fun t9 ht9 hW9 => ⟨⟨_, σ7, rfl, ⟨rfl, hr_6b, hr_6c⟩, by show va_P G vwCl (w0 ad cA σ7) t9.heap; rw [ht9]; exact hP7⟩, hS7.F ht9⟩) hS7.2.2 dX0_next_34
  · refine lv_aload_n CF.1 CF.2.1 dX0_next_17 rfl (lv_at hl 0 rfl) ?_
    refine x0_g_givenToday CF hK hP2 dX0_next_18 ?_
    refine lv_iload_n CF.1 CF.2.1 dX0_next_21 rfl (lv_at hl 1 rfl) ?_
    refine lv_iconst (v := nI 0) CF.1 CF.2.1 dX0_next_22 (by decide) ?_
    refine x0_ast5 CF hK hP2 hD2 hS2 (i := i_2) (by omega) dX0_next_23 (fun σ8 H8 locs hσ8 hP8 hD8 hS8 => ?_)
    refine lv_iinc (v := nI (i_2 + 1)) (lv' := [(1, .int (nI (i_2 + 1))), (0, .ref (ad 0))]) CF.1 CF.2.1 dX0_next_24 hl (k := 1) rfl (by first | exact nI_add _ _ | rfl) (by decide) rfl (fun ls hl => ?_)
    refine lv_goto (tgt := 12) CF.1 CF.2.1 dX0_next_27 (by decide) ?_
    exact ih_2 () σ8 _ _ ls (by omega) (by show σ8 = nxI σ1 (i_2 + 1); rw [hσ8, hx_2]; exact nxI_s) hP8 hS8 (lv_sub hl [1, 0] rfl)
set_option maxHeartbeats 1000000 in
set_option maxRecDepth 100000 in
theorem c0_come (l : Launch) {G : va_G} {cA : ClassId} {ad : Nat → Nat} {σ : RS} (hj : inj8 ad) {b : BS} (hI : InvC b) (hR : Rc σ b) (hO : Ro σ b) (hOi : InvO b) (hc : b 0 2 < 6) : Met l yX0_come (ws_ yX0_come cX0_come 1 (some .int)) (rmk 8 0 0) (pc0 G cA ad σ [.ref (ad 0)]) (va_Qi (fun (r : Int32) (σ' : RS) => r = nI (b 0 2) ∧ Rc σ' (upN b 0 2 (b 0 2 + 1)) ∧ Ro σ' (upN b 0 2 (b 0 2 + 1))) (fun σ' t => va_P G vwCl (w0 ad cA σ') t.heap) (own8 ad)) 0 0 (own8 ad) := by
  refine Met.ofW (cc := cX0_come) (maxL := 1) (ret := (some .int)) (by decide) rfl ?_
  intro p e s m args below meth c s₁ B hml hv
  obtain ⟨rfl, hP, hK⟩ := hv
  have CF : CallFix p m c cX0_come 1 s _ AW RX0 := ⟨B.exec, B.bytes, hml, findClass_of_methodNamed B.named, fun w h => atoms_spec (ws := ws_ yX0_come cX0_come 1 (some .int)) B.pre w (List.mem_cons_of_mem _ h)⟩
  have hr := B.returns
  have hlocks := B.notSynchronized
  have hl := lv_entry ([.ref (ad 0)]) (n := 1) (Nat.le_of_ble_eq_true rfl)
  rw [lg_entry_eq]
  generalize (lg_sl ([.ref (ad 0)]) ++ List.replicate (1 - (lg_sl ([.ref (ad 0)])).length) Slot.unset).toArray = ls at hl ⊢
  have hl : lv_has ls 1 [(0, .ref (ad 0))] := hl
  have hD : va_D (own8 ad) (w0 ad cA σ) := w0_D hj (fun _ h => h)
  have hS : va_S (own8 ad) s.heap s.heap [] := va_S.rf
  obtain ⟨i_sp, i_cu, i_ra, i_di, i_mo, i_pu⟩ := id hI
  have hw10 := hOi.1
  refine lv_aload_n CF.1 CF.2.1 dX0_come_0 rfl (lv_at hl 0 rfl) ?_
  refine x0_g_customers CF hK hP (v := (nI (b 0 2))) (hR.2.2.1) dX0_come_1 ?_
  refine lv_bipush (v := nI 6) CF.1 CF.2.1 dX0_come_4 (by decide) ?_
  refine z_icmp_lt CF (tgt := 19) (nIz (by omega)) (nIz (by omega)) dX0_come_6 (by decide) (fun h_1 => ?_) (fun h_2 => absurd h_2 (by omega))
  refine lv_aload_n CF.1 CF.2.1 dX0_come_19 rfl (lv_at hl 0 rfl) ?_
  refine lv_dup CF.1 CF.2.1 dX0_come_20 rfl ?_
  refine x0_g_customers CF hK hP (v := (nI (b 0 2))) (hR.2.2.1) dX0_come_21 ?_
  refine lv_iconst (v := nI 1) CF.1 CF.2.1 dX0_come_24 (by decide) ?_
  refine o_iadd CF dX0_come_25 ?_
  refine x0_p_customers CF hK hP hD hS dX0_come_26 (fun σ3 H3 locs hσ3 hP3 hD3 hS3 => ?_)
  have hR3 : Rc σ3 (upN (b) 0 (2) (b 0 2 + 1)) := by rw [hσ3]; exact Rc_up hR 0 (2) (b 0 2 + 1)
  have hM3 : Sm σ σ3 := by rw [hσ3]; exact Sm_up Sm_rf ⟨by decide, Or.inr ⟨by decide, by decide, by decide⟩⟩
  refine lv_aload_n CF.1 CF.2.1 dX0_come_29 rfl (lv_at hl 0 rfl) ?_
  refine x0_g_customers CF hK hP3 (v := (nI (b 0 2 + 1))) (by rw [hσ3, up_s]) dX0_come_30 ?_
  refine lv_iconst (v := nI 1) CF.1 CF.2.1 dX0_come_33 (by decide) ?_
  refine o_isub CF (by omega) dX0_come_34 ?_
  exact W.iret CF.1 CF.2.1 hr (fun t9 ht9 hW9 => ⟨⟨_, σ3, rfl, ⟨by first | rfl | (congr 1), hR3, Ro_sm hO hM3 (by simp [upN]) (by simp [upN]) (fun j => by simp [upN])⟩, by show va_P G vwCl (w0 ad cA σ3) t9.heap; rw [ht9]; exact hP3⟩, hS3.F ht9⟩) hS3.2.2 dX0_come_35
set_option maxHeartbeats 1000000 in
set_option maxRecDepth 100000 in
theorem b0_come (l : Launch) (hfl : l.stackTraces = false) {G : va_G} {cA : ClassId} {ad : Nat → Nat} {σ : RS} (hj : inj8 ad) {b : BS} (hI : InvC b) (hR : Rc σ b) (hO : Ro σ b) (hOi : InvO b)  (hbad : ¬ (b 0 2 < 6)) : vx_Met l yX0_come (ws_ yX0_come cX0_come 1 (some .int)) (rmk 8 1 6) (pcx G cA ad σ [.ref (ad 0)]) (va_Qi (fun (_ : Int32) (_ : RS) => False) (fun σ' t => va_P G vwCl (w0 ad cA σ') t.heap) (own8 ad)) (xcS G cA ad σ (fun E => (E = "java/lang/IllegalStateException" ∧ (True)))) 1 6 (own8 ad) := by
  refine vx_ofW (cc := cX0_come) (maxL := 1) (ret := (some .int)) (by decide) rfl ?_
  intro p e s m args below meth c s₁ B hml htab hv
  obtain ⟨rfl, hP, hK, hE⟩ := hv
  have CF : CallFix p m c cX0_come 1 s _ AW RX0 := ⟨B.exec, B.bytes, hml, findClass_of_methodNamed B.named, fun w h => atoms_spec (ws := ws_ yX0_come cX0_come 1 (some .int)) B.pre w (List.mem_cons_of_mem _ h)⟩
  have hr := B.returns
  have hlocks := B.notSynchronized
  have hl := lv_entry ([.ref (ad 0)]) (n := 1) (Nat.le_of_ble_eq_true rfl)
  rw [lg_entry_eq]
  generalize (lg_sl ([.ref (ad 0)]) ++ List.replicate (1 - (lg_sl ([.ref (ad 0)])).length) Slot.unset).toArray = ls at hl ⊢
  have hl : lv_has ls 1 [(0, .ref (ad 0))] := hl
  obtain ⟨i_sp, i_cu, i_ra, i_di, i_mo, i_pu⟩ := id hI
  have hw10 := hOi.1
  refine lv_aload_n CF.1 CF.2.1 dX0_come_0 rfl (lv_at hl 0 rfl) ?_
  refine x0_g_customers CF hK hP (v := (nI (b 0 2))) hR.2.2.1 dX0_come_1 ?_
  refine lv_bipush (v := nI 6) CF.1 CF.2.1 dX0_come_4 (by decide) ?_
  refine z_icmp_lt CF (tgt := 19) (nIz (by omega)) (nIz (by omega)) dX0_come_6 (by decide) (fun h_1 => ?_) (fun h_2 => ?_)
  · exact (show False by omega).elim
  · exact thr CF hfl hE hP hj (va_S.rf) htab hlocks hl.1 (cls := "java/lang/IllegalStateException") (text := "there are 6 customers") (by decide +kernel) (List.mem_of_getElem? (i := 2) rfl) (List.mem_of_getElem? (i := 5) rfl) (inr_11 _ (List.mem_of_getElem? (i := 6) rfl)) (inr_11 _ (List.mem_of_getElem? (i := 7) rfl)) ha_IS hb_IS hg_IS dX0_come_9 dX0_come_12 dX0_come_13 dX0_come_15 dX0_come_18 (Nat.le_of_ble_eq_true rfl) (Nat.le_of_ble_eq_true rfl) (Nat.le_of_ble_eq_true rfl) (Nat.le_of_ble_eq_true rfl) (⟨rfl, trivial⟩)
set_option maxHeartbeats 1000000 in
set_option maxRecDepth 100000 in
theorem c0_earn (l : Launch) {G : va_G} {cA : ClassId} {ad : Nat → Nat} {σ : RS} (hj : inj8 ad) {b : BS} (hI : InvC b) (hR : Rc σ b) (hO : Ro σ b) (hOi : InvO b) {u t v : Nat} (hu : u < b 0 2) (ht : t < 5) (hv0 : 1 ≤ v) (hv : v ≤ 99999) : Met l yX0_earn (ws_ yX0_earn cX0_earn 5 (some .int)) (rmk 8 0 0) (pc0 G cA ad σ [.ref (ad 0), .int (nI (u)), .int (nI (t)), .int (nI (v))]) (va_Qi (fun (r : Int32) (σ' : RS) => r = nI (min (b 6 (u * 5 + t) + v) 999999) ∧ Rc σ' (upN b 6 (u * 5 + t) (min (b 6 (u * 5 + t) + v) 999999)) ∧ Ro σ' (upN b 6 (u * 5 + t) (min (b 6 (u * 5 + t) + v) 999999))) (fun σ' t => va_P G vwCl (w0 ad cA σ') t.heap) (own8 ad)) 0 0 (own8 ad) := by
  refine Met.ofW (cc := cX0_earn) (maxL := 5) (ret := (some .int)) (by decide) rfl ?_
  intro p e s m args below meth c s₁ B hml hv
  obtain ⟨rfl, hP, hK⟩ := hv
  have CF : CallFix p m c cX0_earn 5 s _ AW RX0 := ⟨B.exec, B.bytes, hml, findClass_of_methodNamed B.named, fun w h => atoms_spec (ws := ws_ yX0_earn cX0_earn 5 (some .int)) B.pre w (List.mem_cons_of_mem _ h)⟩
  have hr := B.returns
  have hlocks := B.notSynchronized
  have hl := lv_entry ([.ref (ad 0), .int (nI (u)), .int (nI (t)), .int (nI (v))]) (n := 5) (Nat.le_of_ble_eq_true rfl)
  rw [lg_entry_eq]
  generalize (lg_sl ([.ref (ad 0), .int (nI (u)), .int (nI (t)), .int (nI (v))]) ++ List.replicate (5 - (lg_sl ([.ref (ad 0), .int (nI (u)), .int (nI (t)), .int (nI (v))])).length) Slot.unset).toArray = ls at hl ⊢
  have hl : lv_has ls 5 [(0, .ref (ad 0)), (1, .int (nI (u))), (2, .int (nI (t))), (3, .int (nI (v)))] := hl
  have hD : va_D (own8 ad) (w0 ad cA σ) := w0_D hj (fun _ h => h)
  have hS : va_S (own8 ad) s.heap s.heap [] := va_S.rf
  obtain ⟨i_sp, i_cu, i_ra, i_di, i_mo, i_pu⟩ := id hI
  have hw10 := hOi.1
  have h_pu := i_pu (u * 5 + t) (by omega)
  refine lv_aload_n CF.1 CF.2.1 dX0_earn_0 rfl (lv_at hl 0 rfl) ?_
  refine lv_iload_n CF.1 CF.2.1 dX0_earn_1 rfl (lv_at hl 1 rfl) ?_
  refine c0_i CF hK hP (As := [.int (nI (u))]) (rest := []) (c0_isCustomer l hI hR (nI (u))) rfl lk_RX0_X0_isCustomer rfl hl.1 ⟨Nat.le_of_ble_eq_true rfl, Nat.le_of_ble_eq_true rfl⟩ ⟨Nat.zero_le _, Nat.zero_le _⟩ (Nat.le_of_ble_eq_true rfl) rfl dX0_earn_2 (fun r_1 hr_2 => ?_)
  have hxh_3 := nIz (n := u) (by omega)
  rcases hr_2 with ⟨rfl, -, -⟩ | ⟨rfl, h9⟩
  rotate_left
  · exact absurd h9 (by rw [hxh_3]; omega)
  rw [show (1 : Int32) = nI 1 by rfl]
  refine z_if_eq CF (tgt := 15) (nIz (by omega)) dX0_earn_5 (by decide) (fun h => absurd h (by decide)) (fun _ => ?_)
  refine lv_iload_n CF.1 CF.2.1 dX0_earn_8 rfl (lv_at hl 2 rfl) ?_
  refine cS_i CF (As := [.int (nI (t))]) (rest := []) (c0_isMoney l (nI (t))) lk_RX0_X0_isMoney rfl hl.1 ⟨Nat.le_of_ble_eq_true rfl, Nat.le_of_ble_eq_true rfl⟩ ⟨Nat.zero_le _, Nat.zero_le _⟩ (Nat.le_of_ble_eq_true rfl) rfl dX0_earn_9 (fun r_6 hr_7 => ?_)
  have hxh_8 := nIz (n := t) (by omega)
  rcases hr_7 with ⟨rfl, -, -⟩ | ⟨rfl, h9⟩
  rotate_left
  · exact absurd h9 (by rw [hxh_8]; omega)
  rw [show (1 : Int32) = nI 1 by rfl]
  refine z_if_ne CF (tgt := 25) (nIz (by omega)) dX0_earn_12 (by decide) (fun _ => ?_) (fun h => absurd h (by decide))
  refine lv_iload_n CF.1 CF.2.1 dX0_earn_25 rfl (lv_at hl 3 rfl) ?_
  refine cS_i CF (As := [.int (nI (v))]) (rest := []) (c0_isNamedAmount l (nI (v))) lk_RX0_X0_isNamedAmount rfl hl.1 ⟨Nat.le_of_ble_eq_true rfl, Nat.le_of_ble_eq_true rfl⟩ ⟨Nat.zero_le _, Nat.zero_le _⟩ (Nat.le_of_ble_eq_true rfl) rfl dX0_earn_26 (fun r_11 hr_12 => ?_)
  have hxh_13 := nIz (n := v) (by omega)
  rcases hr_12 with ⟨rfl, -, -⟩ | ⟨rfl, h9⟩
  rotate_left
  · exact absurd h9 (by rw [hxh_13]; omega)
  rw [show (1 : Int32) = nI 1 by rfl]
  refine z_if_ne CF (tgt := 42) (nIz (by omega)) dX0_earn_29 (by decide) (fun _ => ?_) (fun h => absurd h (by decide))
  refine lv_iload_n CF.1 CF.2.1 dX0_earn_42 rfl (lv_at hl 1 rfl) ?_
  refine lv_iconst (v := nI 5) CF.1 CF.2.1 dX0_earn_43 (by decide) ?_
  refine o_imul CF dX0_earn_44 ?_
  refine lv_iload_n CF.1 CF.2.1 dX0_earn_45 rfl (lv_at hl 2 rfl) ?_
  refine o_iadd CF dX0_earn_46 ?_
  refine lv_istore (lv' := [(4, .int (nI (u * 5 + t))), (0, .ref (ad 0)), (1, .int (nI (u))), (2, .int (nI (t))), (3, .int (nI (v)))]) CF.1 CF.2.1 dX0_earn_47 hl (by decide) rfl (fun ls hl => ?_)
  refine lv_aload_n CF.1 CF.2.1 dX0_earn_49 rfl (lv_at hl 1 rfl) ?_
  refine x0_g_purses CF hK hP dX0_earn_50 ?_
  refine lv_iload CF.1 CF.2.1 dX0_earn_53 (lv_at hl 0 rfl) ?_
  refine lv_aload_n CF.1 CF.2.1 dX0_earn_55 rfl (lv_at hl 1 rfl) ?_
  refine x0_g_purses CF hK hP dX0_earn_56 ?_
  refine lv_iload CF.1 CF.2.1 dX0_earn_59 (lv_at hl 0 rfl) ?_
  refine x0_ald6 CF hK hP (i := u * 5 + t) (by omega) (v := (nI (b 6 (u * 5 + t)))) (hR.a6 (by omega)) dX0_earn_61 ?_
  refine lv_iload_n CF.1 CF.2.1 dX0_earn_62 rfl (lv_at hl 4 rfl) ?_
  refine o_iadd CF dX0_earn_63 ?_
  refine o_i2l CF (by omega) dX0_earn_64 ?_
  refine cS_i CF (As := [.long (lN (b 6 (u * 5 + t) + v))]) (rest := [.int (nI (u * 5 + t)), .ref (ad 6)]) (c0_heldAtMost l (v := b 6 (u * 5 + t) + v) (by omega)) lk_RX0_X0_heldAtMost rfl hl.1 ⟨Nat.le_of_ble_eq_true rfl, Nat.le_of_ble_eq_true rfl⟩ ⟨Nat.zero_le _, Nat.zero_le _⟩ (Nat.le_of_ble_eq_true rfl) rfl dX0_earn_65 (fun r_16 hr_17 => ?_)
  subst hr_17
  refine x0_ast6 CF hK hP hD hS (i := u * 5 + t) (by omega) dX0_earn_68 (fun σ18 H18 locs hσ18 hP18 hD18 hS18 => ?_)
  have hR18 : Rc σ18 (upN (b) 6 (u * 5 + t) (min (b 6 (u * 5 + t) + v) 999999)) := by rw [hσ18]; exact Rc_up hR 6 (u * 5 + t) (min (b 6 (u * 5 + t) + v) 999999)
  have hM18 : Sm σ σ18 := by rw [hσ18]; exact Sm_up Sm_rf ⟨by decide, Or.inl (by decide)⟩
  refine lv_aload_n CF.1 CF.2.1 dX0_earn_69 rfl (lv_at hl 1 rfl) ?_
  refine x0_g_purses CF hK hP18 dX0_earn_70 ?_
  refine lv_iload CF.1 CF.2.1 dX0_earn_73 (lv_at hl 0 rfl) ?_
  refine x0_ald6 CF hK hP18 (i := u * 5 + t) (by omega) (v := (nI (min (b 6 (u * 5 + t) + v) 999999))) (by rw [hσ18, up_s]) dX0_earn_75 ?_
  exact W.iret CF.1 CF.2.1 hr (fun t9 ht9 hW9 => ⟨⟨_, σ18, rfl, ⟨rfl, hR18, Ro_sm hO hM18 (by simp [upN]) (by simp [upN]) (fun j => by simp [upN])⟩, by show va_P G vwCl (w0 ad cA σ18) t9.heap; rw [ht9]; exact hP18⟩, hS18.F ht9⟩) hS18.2.2 dX0_earn_76
set_option maxHeartbeats 1000000 in
set_option maxRecDepth 100000 in
theorem b0_earn (l : Launch) (hfl : l.stackTraces = false) {G : va_G} {cA : ClassId} {ad : Nat → Nat} {σ : RS} (hj : inj8 ad) {b : BS} (hI : InvC b) (hR : Rc σ b) (hO : Ro σ b) (hOi : InvO b) (x y z : Int32) (hbad : ¬ (0 ≤ x.toInt ∧ x.toInt < (b 0 2 : Nat) ∧ 0 ≤ y.toInt ∧ y.toInt < 5 ∧ 1 ≤ z.toInt ∧ z.toInt ≤ 99999)) : vx_Met l yX0_earn (ws_ yX0_earn cX0_earn 5 (some .int)) (rmk 8 1 6) (pcx G cA ad σ [.ref (ad 0), .int (x), .int (y), .int (z)]) (va_Qi (fun (_ : Int32) (_ : RS) => False) (fun σ' t => va_P G vwCl (w0 ad cA σ') t.heap) (own8 ad)) (xcS G cA ad σ (fun E => (E = "java/lang/IndexOutOfBoundsException" ∧ (¬ (0 ≤ x.toInt ∧ x.toInt < (b 0 2 : Nat) ∧ 0 ≤ y.toInt ∧ y.toInt < 5))) ∨ (E = "java/lang/IllegalArgumentException" ∧ (0 ≤ x.toInt ∧ x.toInt < (b 0 2 : Nat) ∧ 0 ≤ y.toInt ∧ y.toInt < 5)))) 1 6 (own8 ad) := by
  refine vx_ofW (cc := cX0_earn) (maxL := 5) (ret := (some .int)) (by decide) rfl ?_
  intro p e s m args below meth c s₁ B hml htab hv
  obtain ⟨rfl, hP, hK, hE⟩ := hv
  have CF : CallFix p m c cX0_earn 5 s _ AW RX0 := ⟨B.exec, B.bytes, hml, findClass_of_methodNamed B.named, fun w h => atoms_spec (ws := ws_ yX0_earn cX0_earn 5 (some .int)) B.pre w (List.mem_cons_of_mem _ h)⟩
  have hr := B.returns
  have hlocks := B.notSynchronized
  have hl := lv_entry ([.ref (ad 0), .int (x), .int (y), .int (z)]) (n := 5) (Nat.le_of_ble_eq_true rfl)
  rw [lg_entry_eq]
  generalize (lg_sl ([.ref (ad 0), .int (x), .int (y), .int (z)]) ++ List.replicate (5 - (lg_sl ([.ref (ad 0), .int (x), .int (y), .int (z)])).length) Slot.unset).toArray = ls at hl ⊢
  have hl : lv_has ls 5 [(0, .ref (ad 0)), (1, .int (x)), (2, .int (y)), (3, .int (z))] := hl
  obtain ⟨i_sp, i_cu, i_ra, i_di, i_mo, i_pu⟩ := id hI
  have hw10 := hOi.1
  refine lv_aload_n CF.1 CF.2.1 dX0_earn_0 rfl (lv_at hl 0 rfl) ?_
  refine lv_iload_n CF.1 CF.2.1 dX0_earn_1 rfl (lv_at hl 1 rfl) ?_
  refine c0_i CF hK hP (As := [.int (x)]) (rest := []) (c0_isCustomer l hI hR ((x))) rfl lk_RX0_X0_isCustomer rfl hl.1 ⟨Nat.le_of_ble_eq_true rfl, Nat.le_of_ble_eq_true rfl⟩ ⟨Nat.zero_le _, Nat.zero_le _⟩ (Nat.le_of_ble_eq_true rfl) rfl dX0_earn_2 (fun r_1 hr_2 => ?_)
  rcases hr_2 with ⟨rfl, h_5, h_6⟩ | ⟨rfl, h_7⟩
  · rw [show (1 : Int32) = nI 1 by rfl]
    obtain ⟨j_3, h_4, rfl⟩ := nI_ex (x := x) (n := b 0 2) (by omega) (by omega)
    have hzj_3 := nIz (n := j_3) (by omega)
    refine z_if_eq CF (tgt := 15) (nIz (by omega)) dX0_earn_5 (by decide) (fun h => absurd h (by decide)) (fun _ => ?_)
    refine lv_iload_n CF.1 CF.2.1 dX0_earn_8 rfl (lv_at hl 2 rfl) ?_
    refine cS_i CF (As := [.int (y)]) (rest := []) (c0_isMoney l ((y))) lk_RX0_X0_isMoney rfl hl.1 ⟨Nat.le_of_ble_eq_true rfl, Nat.le_of_ble_eq_true rfl⟩ ⟨Nat.zero_le _, Nat.zero_le _⟩ (Nat.le_of_ble_eq_true rfl) rfl dX0_earn_9 (fun r_10 hr_11 => ?_)
    rcases hr_11 with ⟨rfl, h_14, h_15⟩ | ⟨rfl, h_16⟩
    · rw [show (1 : Int32) = nI 1 by rfl]
      obtain ⟨j_12, h_13, rfl⟩ := nI_ex (x := y) (n := 5) (by omega) (by omega)
      have hzj_12 := nIz (n := j_12) (by omega)
      refine z_if_ne CF (tgt := 25) (nIz (by omega)) dX0_earn_12 (by decide) (fun _ => ?_) (fun h => absurd h (by decide))
      refine lv_iload_n CF.1 CF.2.1 dX0_earn_25 rfl (lv_at hl 3 rfl) ?_
      refine cS_i CF (As := [.int (z)]) (rest := []) (c0_isNamedAmount l ((z))) lk_RX0_X0_isNamedAmount rfl hl.1 ⟨Nat.le_of_ble_eq_true rfl, Nat.le_of_ble_eq_true rfl⟩ ⟨Nat.zero_le _, Nat.zero_le _⟩ (Nat.le_of_ble_eq_true rfl) rfl dX0_earn_26 (fun r_19 hr_20 => ?_)
      rcases hr_20 with ⟨rfl, h_23, h_24⟩ | ⟨rfl, h_25⟩
      · rw [show (1 : Int32) = nI 1 by rfl]
        obtain ⟨j_21, h_22, rfl⟩ := nI_ex (x := z) (n := 100000) (by omega) (by omega)
        rw [nIz (by omega)] at h_23
        have hzj_21 := nIz (n := j_21) (by omega)
        refine z_if_ne CF (tgt := 42) (nIz (by omega)) dX0_earn_29 (by decide) (fun _ => ?_) (fun h => absurd h (by decide))
        exact (show False by omega).elim
      · rw [show (0 : Int32) = nI 0 by rfl]
        refine z_if_ne CF (tgt := 42) (nIz (by omega)) dX0_earn_29 (by decide) (fun h => absurd h (by decide)) (fun _ => ?_)
        exact thr CF hfl hE hP hj (va_S.rf) htab hlocks hl.1 (cls := "java/lang/IllegalArgumentException") (text := "what is earned is not 1 to 99999") (by decide +kernel) (List.mem_of_getElem? (i := 1) rfl) (List.mem_of_getElem? (i := 7) rfl) (inr_2 _ (List.mem_of_getElem? (i := 21) rfl)) (inr_2 _ (List.mem_of_getElem? (i := 22) rfl)) ha_IA hb_IA hg_IA dX0_earn_32 dX0_earn_35 dX0_earn_36 dX0_earn_38 dX0_earn_41 (Nat.le_of_ble_eq_true rfl) (Nat.le_of_ble_eq_true rfl) (Nat.le_of_ble_eq_true rfl) (Nat.le_of_ble_eq_true rfl) (Or.inr (⟨rfl, by omega⟩))
    · rw [show (0 : Int32) = nI 0 by rfl]
      refine z_if_ne CF (tgt := 25) (nIz (by omega)) dX0_earn_12 (by decide) (fun h => absurd h (by decide)) (fun _ => ?_)
      exact thr CF hfl hE hP hj (va_S.rf) htab hlocks hl.1 (cls := "java/lang/IndexOutOfBoundsException") (text := "no such customer or money") (by decide +kernel) (List.mem_of_getElem? (i := 0) rfl) (List.mem_of_getElem? (i := 6) rfl) (inr_2 _ (List.mem_of_getElem? (i := 19) rfl)) (inr_2 _ (List.mem_of_getElem? (i := 20) rfl)) ha_IO hb_IO hg_IO dX0_earn_15 dX0_earn_18 dX0_earn_19 dX0_earn_21 dX0_earn_24 (Nat.le_of_ble_eq_true rfl) (Nat.le_of_ble_eq_true rfl) (Nat.le_of_ble_eq_true rfl) (Nat.le_of_ble_eq_true rfl) (Or.inl ⟨rfl, by omega⟩)
  · rw [show (0 : Int32) = nI 0 by rfl]
    refine z_if_eq CF (tgt := 15) (nIz (by omega)) dX0_earn_5 (by decide) (fun _ => ?_) (fun h => absurd h (by decide))
    exact thr CF hfl hE hP hj (va_S.rf) htab hlocks hl.1 (cls := "java/lang/IndexOutOfBoundsException") (text := "no such customer or money") (by decide +kernel) (List.mem_of_getElem? (i := 0) rfl) (List.mem_of_getElem? (i := 6) rfl) (inr_2 _ (List.mem_of_getElem? (i := 19) rfl)) (inr_2 _ (List.mem_of_getElem? (i := 20) rfl)) ha_IO hb_IO hg_IO dX0_earn_15 dX0_earn_18 dX0_earn_19 dX0_earn_21 dX0_earn_24 (Nat.le_of_ble_eq_true rfl) (Nat.le_of_ble_eq_true rfl) (Nat.le_of_ble_eq_true rfl) (Nat.le_of_ble_eq_true rfl) (Or.inl ⟨rfl, by omega⟩)
