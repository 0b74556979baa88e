theorem shl1 {j : Nat} (hj : j < 5) : nI 1 <<< (nI j &&& 31) = nI (2 ^ j) := by rcases (show j = 0 ∨ j = 1 ∨ j = 2 ∨ j = 3 ∨ j = 4 by omega) with rfl | rfl | rfl | rfl | rfl <;> decide
theorem shr1 {v j : Nat} (hv : v < 2147483648) (hj : j < 5) : nI v >>> (nI j &&& 31) = nI (v / 2 ^ j) := by
  rcases (show j = 0 ∨ j = 1 ∨ j = 2 ∨ j = 3 ∨ j = 4 by omega) with rfl | rfl | rfl | rfl | rfl <;> exact pk_shrN hv _ _ (by decide)
def gq (b : BS) (a x : Nat) : Nat := a * x * (100 - b 0 1) / 10000
theorem gq_gv {b : BS} {f t a : Nat} : gq b a (b 1 (f * 5 + t)) = gv b f t a := rfl
theorem gq_le {b : BS} {a x A X : Nat} (ha : a ≤ A) (hx : x ≤ X) : a * x * (100 - b 0 1) ≤ A * X * 100 := Nat.mul_le_mul (Nat.mul_le_mul ha hx) (by omega)
abbrev canN (b : BS) (u f t a x : Nat) : Prop := f ≠ t ∧ x ≠ 0 ∧ 1 ≤ a ∧ a ≤ b 6 (u * 5 + f) ∧ 1 ≤ gq b a x ∧ gq b a x ≤ b 2 t ∧ b 5 t + gq b a x ≤ b 4 t
def d5 (b : BS) (u f t a : Nat) : BS := upN (upN (upN (upN (upN b 6 (u * 5 + f) (b 6 (u * 5 + f) - a)) 6 (u * 5 + t) (min (b 6 (u * 5 + t) + gv b f t a) 999999)) 2 f (min (b 2 f + a) 999999)) 2 t (b 2 t - gv b f t a)) 5 t (b 5 t + gv b f t a)
theorem dc_d5 {b : BS} {u f t a : Nat} (hne : f ≠ t) : dc b u f t a = upN (upN (upN (d5 b u f t a) 0 4 (b 0 4 + 1)) 2 t (min (b 2 t - gv b f t a + (b 3 t + pr b f t a % 10000) / 10000) 999999)) 3 t ((b 3 t + pr b f t a % 10000) % 10000) := by
  have e : dc0 b u f t a = upN (d5 b u f t a) 0 4 (b 0 4 + 1) := rfl
  have e2 : upN (d5 b u f t a) 0 4 (b 0 4 + 1) 2 t = b 2 t - gv b f t a := by simp [d5, upN]
  have e3 : upN (d5 b u f t a) 0 4 (b 0 4 + 1) 3 t = b 3 t := by simp [d5, upN]
  unfold dc kd
  rw [e, e2, e3]
theorem co_y {D : BS} {t x s c : Nat} (h1 : 10000 ≤ x) (h2 : x < 20000) : upN (upN (upN (upN D 3 t x) 3 t (x - 10000)) 2 t (min 999999 (s + 1))) 0 4 c = upN (upN (upN D 0 4 c) 2 t (min (s + x / 10000) 999999)) 3 t (x % 10000) := by
  have e1 : x / 10000 = 1 := by omega
  have e2 : x % 10000 = x - 10000 := by omega
  rw [e1, e2, Nat.min_comm 999999]
  funext k j
  by_cases h3 : k = 3 ∧ j = t
  · obtain ⟨rfl, rfl⟩ := h3; simp [upN]
  by_cases h2 : k = 2 ∧ j = t
  · obtain ⟨rfl, rfl⟩ := h2; simp [upN]
  by_cases h0 : k = 0 ∧ j = 4
  · obtain ⟨rfl, rfl⟩ := h0; simp [upN]
  · simp only [upN, if_neg h3, if_neg h2, if_neg h0]
theorem co_n {D : BS} {t x s c : Nat} (h2 : x < 10000) (hs : s ≤ 999999) (hD : D 2 t = s) : upN (upN D 3 t x) 0 4 c = upN (upN (upN D 0 4 c) 2 t (min (s + x / 10000) 999999)) 3 t (x % 10000) := by
  have e1 : x / 10000 = 0 := by omega
  have e2 : x % 10000 = x := by omega
  rw [e1, e2, Nat.add_zero, Nat.min_eq_left hs]
  funext k j
  by_cases h3 : k = 3 ∧ j = t
  · obtain ⟨rfl, rfl⟩ := h3; simp [upN]
  by_cases h2 : k = 2 ∧ j = t
  · obtain ⟨rfl, rfl⟩ := h2; simp [upN, hD]
  by_cases h0 : k = 0 ∧ j = 4
  · obtain ⟨rfl, rfl⟩ := h0; simp [upN]
  · simp only [upN, if_neg h3, if_neg h2, if_neg h0]
/-- the orders' array behind one taken out -/
def tkR (σ : RS) (q w : Nat) : RS := fun a => if a = 7 then va_cpy (σ 7) (σ 7) (5 * (q + 1)) (5 * q) (5 * (w - q)) else σ a
theorem tk_R {σ s1 s2 : RS} {b : BS} {q : Nat} (hR : Rc σ b) (hO : Ro σ b) (hq : q < b 0 3) (h1 : s1 = up σ 0 3 (nI (b 0 3 - 1))) (h2 : s2 = tkR s1 q (b 0 3 - 1)) : Rc s2 (takeN b q) ∧ Ro s2 (takeN b q) := by
  obtain ⟨q1, q2, q3, q4, q5⟩ := hR
  obtain ⟨o1, o2, o3⟩ := hO
  have hn : ∀ a j, a ≠ 7 → s2 a j = s1 a j := fun a j ha => by rw [h2]; unfold tkR; rw [if_neg ha]
  have hne : ∀ a j, a ≠ 7 → (a ≠ 0 ∨ j ≠ 3) → s2 a j = σ a j := fun a j ha hb => by
    rw [hn a j ha, h1]
    by_cases h0 : a = 0
    · subst h0; rw [up_i (by omega)]
    · rw [up_k h0]
  have hno : ∀ a j, a ≠ 7 → (a ≠ 0 ∨ j ≠ 3) → takeN b q a j = b a j := fun a j ha hb => takeN_k ha hb
  refine ⟨⟨?_, ?_, ?_, ?_, fun a j z1 z2 z3 => ?_⟩, ?_, ?_, fun j hj => ?_⟩
  · rw [hne _ _ (by omega) (by omega), hno _ _ (by omega) (by omega)]; exact q1
  · rw [hne _ _ (by omega) (by omega), hno _ _ (by omega) (by omega)]; exact q2
  · rw [hne _ _ (by omega) (by omega), hno _ _ (by omega) (by omega)]; exact q3
  · rw [hne _ _ (by omega) (by omega), hno _ _ (by omega) (by omega)]; exact q4
  · rw [hne _ _ (by omega) (by omega), hno _ _ (by omega) (by omega)]; exact q5 a j z1 z2 z3
  · rw [hn _ _ (by omega), h1, up_s, takeN_w]
  · rw [hne _ _ (by omega) (by omega), hno _ _ (by omega) (by omega)]; exact o2
  · rw [takeN_w] at hj
    have e7 : s1 7 = σ 7 := by rw [h1]; funext i; rw [up_k (by omega)]
    rw [h2, takeN_7]
    unfold tkR
    rw [if_pos rfl, e7]
    unfold va_cpy
    by_cases c : j < q * 5
    · rw [if_neg (by omega), if_pos c]; exact o3 j (by omega)
    · rw [if_pos ⟨by omega, by omega⟩, if_neg c, show 5 * (q + 1) + (j - 5 * q) = j + 5 by omega]; exact o3 (j + 5) (by omega)

set_option maxHeartbeats 1000000 in
set_option maxRecDepth 100000 in
theorem c1_isIn (l : Launch) (x lo hi : Int32) {za zb : Int} (hlo : lo.toInt = za) (hhi : hi.toInt = zb) : Met l yX1_isIn (ws_ yX1_isIn cX1_isIn 3 (some .boolean)) (rmk 1 0 0) (pcS [.int (x), .int (lo), .int (hi)]) (rqi (fun r => (r = 1 ∧ za ≤ x.toInt ∧ x.toInt ≤ zb) ∨ (r = 0 ∧ (x.toInt < za ∨ zb < x.toInt)))) 0 0 (fun _ => False) := by
  refine Met.ofW (cc := cX1_isIn) (maxL := 3) (ret := (some .boolean)) (by decide) rfl ?_
  intro p e s m args below meth c s₁ B hml hv
  obtain ⟨rfl, -⟩ := hv
  have CF : CallFix p m c cX1_isIn 3 s _ AW RX1 := ⟨B.exec, B.bytes, hml, findClass_of_methodNamed B.named, fun w h => atoms_spec (ws := ws_ yX1_isIn cX1_isIn 3 (some .boolean)) B.pre w (List.mem_cons_of_mem _ h)⟩
  have hr := B.returns
  have hlocks := B.notSynchronized
  have hl := lv_entry ([.int (x), .int (lo), .int (hi)]) (n := 3) (Nat.le_of_ble_eq_true rfl)
  rw [lg_entry_eq]
  generalize (lg_sl ([.int (x), .int (lo), .int (hi)]) ++ List.replicate (3 - (lg_sl ([.int (x), .int (lo), .int (hi)])).length) Slot.unset).toArray = ls at hl ⊢
  have hl : lv_has ls 3 [(0, .int (x)), (1, .int (lo)), (2, .int (hi))] := hl
  refine lv_iload_n CF.1 CF.2.1 dX1_isIn_0 rfl (lv_at hl 0 rfl) ?_
  refine lv_iload_n CF.1 CF.2.1 dX1_isIn_1 rfl (lv_at hl 1 rfl) ?_
  refine z_icmp_lt CF (tgt := 14) rfl hlo dX1_isIn_2 (by decide) (fun h_1 => ?_) (fun h_2 => ?_)
  · refine lv_iconst (v := nI 0) CF.1 CF.2.1 dX1_isIn_14 (by decide) ?_
    exact W.zret CF.1 CF.2.1 hr rfl (fun t9 ht9 hW9 => ⟨_, rfl, Or.inr ⟨rfl, by omega⟩, ht9⟩) (fun q hq => absurd hq List.not_mem_nil) dX1_isIn_15
  · refine lv_iload_n CF.1 CF.2.1 dX1_isIn_5 rfl (lv_at hl 0 rfl) ?_
    refine lv_iload_n CF.1 CF.2.1 dX1_isIn_6 rfl (lv_at hl 2 rfl) ?_
    refine z_icmp_gt CF (tgt := 14) rfl hhi dX1_isIn_7 (by decide) (fun h_3 => ?_) (fun h_4 => ?_)
    · refine lv_iconst (v := nI 0) CF.1 CF.2.1 dX1_isIn_14 (by decide) ?_
      exact W.zret CF.1 CF.2.1 hr rfl (fun t9 ht9 hW9 => ⟨_, rfl, Or.inr ⟨rfl, by omega⟩, ht9⟩) (fun q hq => absurd hq List.not_mem_nil) dX1_isIn_15
    · refine lv_iconst (v := nI 1) CF.1 CF.2.1 dX1_isIn_10 (by decide) ?_
      refine lv_goto (tgt := 15) CF.1 CF.2.1 dX1_isIn_11 (by decide) ?_
      exact W.zret CF.1 CF.2.1 hr rfl (fun t9 ht9 hW9 => ⟨_, rfl, Or.inl ⟨rfl, by omega, by omega⟩, ht9⟩) (fun q hq => absurd hq List.not_mem_nil) dX1_isIn_15
set_option maxHeartbeats 1000000 in
set_option maxRecDepth 100000 in
theorem c1_isMoney (l : Launch) (x : Int32) : Met l yX1_isMoney (ws_ yX1_isMoney cX1_isMoney 1 (some .boolean)) (rmk 2 0 0) (pcS [.int (x)]) (rqi (fun r => (r = 1 ∧ 0 ≤ x.toInt ∧ x.toInt < 5) ∨ (r = 0 ∧ (x.toInt < 0 ∨ 5 ≤ x.toInt)))) 0 0 (fun _ => False) := by
  refine Met.ofW (cc := cX1_isMoney) (maxL := 1) (ret := (some .boolean)) (by decide) rfl ?_
  intro p e s m args below meth c s₁ B hml hv
  obtain ⟨rfl, -⟩ := hv
  have CF : CallFix p m c cX1_isMoney 1 s _ AW RX1 := ⟨B.exec, B.bytes, hml, findClass_of_methodNamed B.named, fun w h => atoms_spec (ws := ws_ yX1_isMoney cX1_isMoney 1 (some .boolean)) B.pre w (List.mem_cons_of_mem _ h)⟩
  have hr := B.returns
  have hlocks := B.notSynchronized
  have hl := lv_entry ([.int (x)]) (n := 1) (Nat.le_of_ble_eq_true rfl)
  rw [lg_entry_eq]
  generalize (lg_sl ([.int (x)]) ++ List.replicate (1 - (lg_sl ([.int (x)])).length) Slot.unset).toArray = ls at hl ⊢
  have hl : lv_has ls 1 [(0, .int (x))] := hl
  refine lv_iload_n CF.1 CF.2.1 dX1_isMoney_0 rfl (lv_at hl 0 rfl) ?_
  refine lv_iconst (v := nI 0) CF.1 CF.2.1 dX1_isMoney_1 (by decide) ?_
  refine lv_iconst (v := nI 4) CF.1 CF.2.1 dX1_isMoney_2 (by decide) ?_
  refine cS_i CF (As := [.int (x), .int (nI (0)), .int (nI (4))]) (rest := []) (c1_isIn l ((x)) (nI (0)) (nI (4)) (nIz (by omega)) (nIz (by omega))) lk_RX1_X1_isIn rfl hl.1 ⟨Nat.le_of_ble_eq_true rfl, Nat.le_of_ble_eq_true rfl⟩ ⟨Nat.zero_le _, Nat.zero_le _⟩ (Nat.le_of_ble_eq_true rfl) rfl dX1_isMoney_3 (fun r_1 hr_2 => ?_)
  rcases hr_2 with ⟨rfl, h_5, h_6⟩ | ⟨rfl, h_7⟩
  · rw [show (1 : Int32) = nI 1 by rfl]
    exact W.zret CF.1 CF.2.1 hr rfl (fun t9 ht9 hW9 => ⟨_, rfl, Or.inl ⟨rfl, by omega, by omega⟩, ht9⟩) (fun q hq => absurd hq List.not_mem_nil) dX1_isMoney_6
  · rw [show (0 : Int32) = nI 0 by rfl]
    exact W.zret CF.1 CF.2.1 hr rfl (fun t9 ht9 hW9 => ⟨_, rfl, Or.inr ⟨rfl, by omega⟩, ht9⟩) (fun q hq => absurd hq List.not_mem_nil) dX1_isMoney_6
set_option maxHeartbeats 1000000 in
set_option maxRecDepth 100000 in
theorem c1_isCustomer (l : Launch) {G : va_G} {cA : ClassId} {ad : Nat → Nat} {σ : RS} {b : BS} (hI : InvC b) (hR : Rc σ b) (x : Int32) : Met l yX1_isCustomer (ws_ yX1_isCustomer cX1_isCustomer 2 (some .boolean)) (rmk 2 0 0) (pc1 G cA ad σ [.ref (ad 0), .int (x)]) (rqi (fun r => (r = 1 ∧ 0 ≤ x.toInt ∧ x.toInt < (b 0 2 : Nat)) ∨ (r = 0 ∧ (x.toInt < 0 ∨ ((b 0 2 : Nat) : Int) ≤ x.toInt)))) 0 0 (fun _ => False) := by
  refine Met.ofW (cc := cX1_isCustomer) (maxL := 2) (ret := (some .boolean)) (by decide) rfl ?_
  intro p e s m args below meth c s₁ B hml hv
  obtain ⟨rfl, hP, hK⟩ := hv
  have CF : CallFix p m c cX1_isCustomer 2 s _ AW RX1 := ⟨B.exec, B.bytes, hml, findClass_of_methodNamed B.named, fun w h => atoms_spec (ws := ws_ yX1_isCustomer cX1_isCustomer 2 (some .boolean)) B.pre w (List.mem_cons_of_mem _ h)⟩
  have hr := B.returns
  have hlocks := B.notSynchronized
  have hl := lv_entry ([.ref (ad 0), .int (x)]) (n := 2) (Nat.le_of_ble_eq_true rfl)
  rw [lg_entry_eq]
  generalize (lg_sl ([.ref (ad 0), .int (x)]) ++ List.replicate (2 - (lg_sl ([.ref (ad 0), .int (x)])).length) Slot.unset).toArray = ls at hl ⊢
  have hl : lv_has ls 2 [(0, .ref (ad 0)), (1, .int (x))] := hl
  obtain ⟨i_sp, i_cu, i_ra, i_di, i_mo, i_pu⟩ := id hI
  refine lv_iload_n CF.1 CF.2.1 dX1_isCustomer_0 rfl (lv_at hl 1 rfl) ?_
  refine lv_iconst (v := nI 0) CF.1 CF.2.1 dX1_isCustomer_1 (by decide) ?_
  refine lv_aload_n CF.1 CF.2.1 dX1_isCustomer_2 rfl (lv_at hl 0 rfl) ?_
  refine x1_g_customers CF hK hP (v := (nI (b 0 2))) hR.2.2.1 dX1_isCustomer_3 ?_
  refine lv_iconst (v := nI 1) CF.1 CF.2.1 dX1_isCustomer_6 (by decide) ?_
  refine lv_isub CF.1 CF.2.1 dX1_isCustomer_7 ?_
  refine cS_i CF (As := [.int (x), .int (nI (0)), .int (nI (b 0 2) - nI (1))]) (rest := []) (c1_isIn l ((x)) (nI (0)) ((nI (b 0 2) - nI (1))) (nIz (by omega)) (pk_sub_toInt (by omega) (by omega))) lk_RX1_X1_isIn rfl hl.1 ⟨Nat.le_of_ble_eq_true rfl, Nat.le_of_ble_eq_true rfl⟩ ⟨Nat.zero_le _, Nat.zero_le _⟩ (Nat.le_of_ble_eq_true rfl) rfl dX1_isCustomer_8 (fun r_1 hr_2 => ?_)
  rcases hr_2 with ⟨rfl, h_5, h_6⟩ | ⟨rfl, h_7⟩
  · rw [show (1 : Int32) = nI 1 by rfl]
    exact W.zret CF.1 CF.2.1 hr rfl (fun t9 ht9 hW9 => ⟨_, rfl, Or.inl ⟨rfl, by omega, by omega⟩, ht9⟩) (fun q hq => absurd hq List.not_mem_nil) dX1_isCustomer_11
  · rw [show (0 : Int32) = nI 0 by rfl]
    exact W.zret CF.1 CF.2.1 hr rfl (fun t9 ht9 hW9 => ⟨_, rfl, Or.inr ⟨rfl, by omega⟩, ht9⟩) (fun q hq => absurd hq List.not_mem_nil) dX1_isCustomer_11
set_option maxHeartbeats 1000000 in
set_option maxRecDepth 100000 in
theorem c1_rate (l : Launch) {G : va_G} {cA : ClassId} {ad : Nat → Nat} {σ : RS} {b : BS} (hI : InvC b) (hR : Rc σ b) {f t : Nat} (hf : f < 5) (ht : t < 5) : Met l yX1_rate (ws_ yX1_rate cX1_rate 3 (some .int)) (rmk 1 0 0) (pc1 G cA ad σ [.ref (ad 0), .int (nI (f)), .int (nI (t))]) (rqi (fun r => r = nI (b 1 (f * 5 + t)))) 0 0 (fun _ => False) := by
  refine Met.ofW (cc := cX1_rate) (maxL := 3) (ret := (some .int)) (by decide) rfl ?_
  intro p e s m args below meth c s₁ B hml hv
  obtain ⟨rfl, hP, hK⟩ := hv
  have CF : CallFix p m c cX1_rate 3 s _ AW RX1 := ⟨B.exec, B.bytes, hml, findClass_of_methodNamed B.named, fun w h => atoms_spec (ws := ws_ yX1_rate cX1_rate 3 (some .int)) B.pre w (List.mem_cons_of_mem _ h)⟩
  have hr := B.returns
  have hlocks := B.notSynchronized
  have hl := lv_entry ([.ref (ad 0), .int (nI (f)), .int (nI (t))]) (n := 3) (Nat.le_of_ble_eq_true rfl)
  rw [lg_entry_eq]
  generalize (lg_sl ([.ref (ad 0), .int (nI (f)), .int (nI (t))]) ++ List.replicate (3 - (lg_sl ([.ref (ad 0), .int (nI (f)), .int (nI (t))])).length) Slot.unset).toArray = ls at hl ⊢
  have hl : lv_has ls 3 [(0, .ref (ad 0)), (1, .int (nI (f))), (2, .int (nI (t)))] := hl
  obtain ⟨i_sp, i_cu, i_ra, i_di, i_mo, i_pu⟩ := id hI
  refine lv_iload_n CF.1 CF.2.1 dX1_rate_0 rfl (lv_at hl 1 rfl) ?_
  refine lv_iload_n CF.1 CF.2.1 dX1_rate_1 rfl (lv_at hl 2 rfl) ?_
  refine z_icmp_ne CF (tgt := 9) (nIz (by omega)) (nIz (by omega)) dX1_rate_2 (by decide) (fun h_1 => ?_) (fun h_2 => ?_)
  · refine lv_aload_n CF.1 CF.2.1 dX1_rate_9 rfl (lv_at hl 0 rfl) ?_
    refine x1_g_rates CF hK hP dX1_rate_10 ?_
    refine lv_iconst (v := nI 5) CF.1 CF.2.1 dX1_rate_13 (by decide) ?_
    refine lv_iload_n CF.1 CF.2.1 dX1_rate_14 rfl (lv_at hl 1 rfl) ?_
    refine o_imul CF dX1_rate_15 ?_
    refine tpi (congrArg nI (Nat.mul_comm _ _)) ?_
    refine lv_iload_n CF.1 CF.2.1 dX1_rate_16 rfl (lv_at hl 2 rfl) ?_
    refine o_iadd CF dX1_rate_17 ?_
    refine x1_ald1 CF hK hP (i := f * 5 + t) (by omega) (v := (nI (b 1 (f * 5 + t)))) (hR.a1 (by omega)) dX1_rate_18 ?_
    exact W.iret CF.1 CF.2.1 hr (fun t9 ht9 hW9 => ⟨_, rfl, rfl, ht9⟩) (fun q hq => absurd hq List.not_mem_nil) dX1_rate_19
  · refine lv_iconst (v := nI 0) CF.1 CF.2.1 dX1_rate_5 (by decide) ?_
    refine lv_goto (tgt := 19) CF.1 CF.2.1 dX1_rate_6 (by decide) ?_
    exact W.iret CF.1 CF.2.1 hr (fun t9 ht9 hW9 => ⟨_, rfl, by rw [show t = f by omega, i_di f hf], ht9⟩) (fun q hq => absurd hq List.not_mem_nil) dX1_rate_19
set_option maxHeartbeats 1000000 in
set_option maxRecDepth 100000 in
theorem c1_purse (l : Launch) {G : va_G} {cA : ClassId} {ad : Nat → Nat} {σ : RS} {b : BS} (hI : InvC b) (hR : Rc σ b) {u t : Nat} (hf : u < b 0 2) (ht : t < 5) : Met l yX1_purse (ws_ yX1_purse cX1_purse 3 (some .int)) (rmk 1 0 0) (pc1 G cA ad σ [.ref (ad 0), .int (nI (u)), .int (nI (t))]) (rqi (fun r => r = nI (b 6 (u * 5 + t)))) 0 0 (fun _ => False) := by
  refine Met.ofW (cc := cX1_purse) (maxL := 3) (ret := (some .int)) (by decide) rfl ?_
  intro p e s m args below meth c s₁ B hml hv
  obtain ⟨rfl, hP, hK⟩ := hv
  have CF : CallFix p m c cX1_purse 3 s _ AW RX1 := ⟨B.exec, B.bytes, hml, findClass_of_methodNamed B.named, fun w h => atoms_spec (ws := ws_ yX1_purse cX1_purse 3 (some .int)) B.pre w (List.mem_cons_of_mem _ h)⟩
  have hr := B.returns
  have hlocks := B.notSynchronized
  have hl := lv_entry ([.ref (ad 0), .int (nI (u)), .int (nI (t))]) (n := 3) (Nat.le_of_ble_eq_true rfl)
  rw [lg_entry_eq]
  generalize (lg_sl ([.ref (ad 0), .int (nI (u)), .int (nI (t))]) ++ List.replicate (3 - (lg_sl ([.ref (ad 0), .int (nI (u)), .int (nI (t))])).length) Slot.unset).toArray = ls at hl ⊢
  have hl : lv_has ls 3 [(0, .ref (ad 0)), (1, .int (nI (u))), (2, .int (nI (t)))] := hl
  obtain ⟨i_sp, i_cu, i_ra, i_di, i_mo, i_pu⟩ := id hI
  refine lv_aload_n CF.1 CF.2.1 dX1_purse_0 rfl (lv_at hl 0 rfl) ?_
  refine x1_g_purses CF hK hP dX1_purse_1 ?_
  refine lv_iconst (v := nI 5) CF.1 CF.2.1 dX1_purse_4 (by decide) ?_
  refine lv_iload_n CF.1 CF.2.1 dX1_purse_5 rfl (lv_at hl 1 rfl) ?_
  refine o_imul CF dX1_purse_6 ?_
  refine tpi (congrArg nI (Nat.mul_comm _ _)) ?_
  refine lv_iload_n CF.1 CF.2.1 dX1_purse_7 rfl (lv_at hl 2 rfl) ?_
  refine o_iadd CF dX1_purse_8 ?_
  refine x1_ald6 CF hK hP (i := u * 5 + t) (by omega) (v := (nI (b 6 (u * 5 + t)))) (hR.a6 (by omega)) dX1_purse_9 ?_
  exact W.iret CF.1 CF.2.1 hr (fun t9 ht9 hW9 => ⟨_, rfl, rfl, ht9⟩) (fun q hq => absurd hq List.not_mem_nil) dX1_purse_10
set_option maxHeartbeats 1000000 in
set_option maxRecDepth 100000 in
theorem c1_or (l : Launch) {G : va_G} {cA : ClassId} {ad : Nat → Nat} {σ : RS} {u t : Nat} (hf : u < 10) (ht : t < 5) : Met l yX1_or (ws_ yX1_or cX1_or 3 (some .int)) (rmk 1 0 0) (pc1 G cA ad σ [.ref (ad 0), .int (nI (u)), .int (nI (t))]) (rqi (fun r => r = σ 7 (u * 5 + t))) 0 0 (fun _ => False) := by
  refine Met.ofW (cc := cX1_or) (maxL := 3) (ret := (some .int)) (by decide) rfl ?_
  intro p e s m args below meth c s₁ B hml hv
  obtain ⟨rfl, hP, hK⟩ := hv
  have CF : CallFix p m c cX1_or 3 s _ AW RX1 := ⟨B.exec, B.bytes, hml, findClass_of_methodNamed B.named, fun w h => atoms_spec (ws := ws_ yX1_or cX1_or 3 (some .int)) B.pre w (List.mem_cons_of_mem _ h)⟩
  have hr := B.returns
  have hlocks := B.notSynchronized
  have hl := lv_entry ([.ref (ad 0), .int (nI (u)), .int (nI (t))]) (n := 3) (Nat.le_of_ble_eq_true rfl)
  rw [lg_entry_eq]
  generalize (lg_sl ([.ref (ad 0), .int (nI (u)), .int (nI (t))]) ++ List.replicate (3 - (lg_sl ([.ref (ad 0), .int (nI (u)), .int (nI (t))])).length) Slot.unset).toArray = ls at hl ⊢
  have hl : lv_has ls 3 [(0, .ref (ad 0)), (1, .int (nI (u))), (2, .int (nI (t)))] := hl
  refine lv_aload_n CF.1 CF.2.1 dX1_or_0 rfl (lv_at hl 0 rfl) ?_
  refine x1_g_orders CF hK hP dX1_or_1 ?_
  refine lv_iconst (v := nI 5) CF.1 CF.2.1 dX1_or_4 (by decide) ?_
  refine lv_iload_n CF.1 CF.2.1 dX1_or_5 rfl (lv_at hl 1 rfl) ?_
  refine o_imul CF dX1_or_6 ?_
  refine tpi (congrArg nI (Nat.mul_comm _ _)) ?_
  refine lv_iload_n CF.1 CF.2.1 dX1_or_7 rfl (lv_at hl 2 rfl) ?_
  refine o_iadd CF dX1_or_8 ?_
  refine x1_ald7 CF hK hP (i := u * 5 + t) (by omega) (v := (σ 7 (u * 5 + t))) rfl dX1_or_9 ?_
  exact W.iret CF.1 CF.2.1 hr (fun t9 ht9 hW9 => ⟨_, rfl, rfl, ht9⟩) (fun q hq => absurd hq List.not_mem_nil) dX1_or_10
set_option maxHeartbeats 1000000 in
set_option maxRecDepth 100000 in
theorem c1_parts (l : Launch) {G : va_G} {cA : ClassId} {ad : Nat → Nat} {σ : RS} {b : BS} (hI : InvC b) (hR : Rc σ b) {a x : Nat} (hx : x < 2147483648) : Met l yX1_parts (ws_ yX1_parts cX1_parts 4 (some .long)) (rmk 1 0 0) (pc1 G cA ad σ [.ref (ad 0), .long (lN (a)), .int (nI (x))]) (rql (fun r => r = lN (a * x * (100 - b 0 1)))) 0 0 (fun _ => False) := by
  refine Met.ofW (cc := cX1_parts) (maxL := 4) (ret := (some .long)) (by decide) rfl ?_
  intro p e s m args below meth c s₁ B hml hv
  obtain ⟨rfl, hP, hK⟩ := hv
  have CF : CallFix p m c cX1_parts 4 s _ AW RX1 := ⟨B.exec, B.bytes, hml, findClass_of_methodNamed B.named, fun w h => atoms_spec (ws := ws_ yX1_parts cX1_parts 4 (some .long)) B.pre w (List.mem_cons_of_mem _ h)⟩
  have hr := B.returns
  have hlocks := B.notSynchronized
  have hl := lv_entry ([.ref (ad 0), .long (lN (a)), .int (nI (x))]) (n := 4) (Nat.le_of_ble_eq_true rfl)
  rw [lg_entry_eq]
  generalize (lg_sl ([.ref (ad 0), .long (lN (a)), .int (nI (x))]) ++ List.replicate (4 - (lg_sl ([.ref (ad 0), .long (lN (a)), .int (nI (x))])).length) Slot.unset).toArray = ls at hl ⊢
  have hl : lv_has ls 4 [(0, .ref (ad 0)), (1, .long (lN (a))), (3, .int (nI (x)))] := hl
  obtain ⟨i_sp, i_cu, i_ra, i_di, i_mo, i_pu⟩ := id hI
  refine lv_lload_n CF.1 CF.2.1 dX1_parts_0 rfl (lv_at hl 1 rfl) ?_
  refine lv_iload_n CF.1 CF.2.1 dX1_parts_1 rfl (lv_at hl 2 rfl) ?_
  refine o_i2l CF (by omega) dX1_parts_2 ?_
  refine o_lmul CF dX1_parts_3 ?_
  refine lv_bipush (v := nI 100) CF.1 CF.2.1 dX1_parts_4 (by decide) ?_
  refine lv_aload_n CF.1 CF.2.1 dX1_parts_6 rfl (lv_at hl 0 rfl) ?_
  refine x1_g_spread CF hK hP (v := (nI (b 0 1))) hR.2.1 dX1_parts_7 ?_
  refine o_isub CF (by omega) dX1_parts_10 ?_
  refine o_i2l CF (by omega) dX1_parts_11 ?_
  refine o_lmul CF dX1_parts_12 ?_
  exact W.lret CF.1 CF.2.1 hr (fun t9 ht9 hW9 => ⟨_, rfl, rfl, ht9⟩) (fun q hq => absurd hq List.not_mem_nil) dX1_parts_13
set_option maxHeartbeats 1000000 in
set_option maxRecDepth 100000 in
theorem c1_gives (l : Launch) {G : va_G} {cA : ClassId} {ad : Nat → Nat} {σ : RS} {b : BS} (hI : InvC b) (hR : Rc σ b) {a x : Nat} (hx : x < 2147483648) (hb : a * x * (100 - b 0 1) < 9223372036854775808) : Met l yX1_gives (ws_ yX1_gives cX1_gives 4 (some .long)) (rmk 2 0 0) (pc1 G cA ad σ [.ref (ad 0), .long (lN (a)), .int (nI (x))]) (rql (fun r => r = lN (gq b a x))) 0 0 (fun _ => False) := by
  refine Met.ofW (cc := cX1_gives) (maxL := 4) (ret := (some .long)) (by decide) rfl ?_
  intro p e s m args below meth c s₁ B hml hv
  obtain ⟨rfl, hP, hK⟩ := hv
  have CF : CallFix p m c cX1_gives 4 s _ AW RX1 := ⟨B.exec, B.bytes, hml, findClass_of_methodNamed B.named, fun w h => atoms_spec (ws := ws_ yX1_gives cX1_gives 4 (some .long)) B.pre w (List.mem_cons_of_mem _ h)⟩
  have hr := B.returns
  have hlocks := B.notSynchronized
  have hl := lv_entry ([.ref (ad 0), .long (lN (a)), .int (nI (x))]) (n := 4) (Nat.le_of_ble_eq_true rfl)
  rw [lg_entry_eq]
  generalize (lg_sl ([.ref (ad 0), .long (lN (a)), .int (nI (x))]) ++ List.replicate (4 - (lg_sl ([.ref (ad 0), .long (lN (a)), .int (nI (x))])).length) Slot.unset).toArray = ls at hl ⊢
  have hl : lv_has ls 4 [(0, .ref (ad 0)), (1, .long (lN (a))), (3, .int (nI (x)))] := hl
  obtain ⟨i_sp, i_cu, i_ra, i_di, i_mo, i_pu⟩ := id hI
  refine lv_aload_n CF.1 CF.2.1 dX1_gives_0 rfl (lv_at hl 0 rfl) ?_
  refine lv_lload_n CF.1 CF.2.1 dX1_gives_1 rfl (lv_at hl 1 rfl) ?_
  refine lv_iload_n CF.1 CF.2.1 dX1_gives_2 rfl (lv_at hl 2 rfl) ?_
  refine c1_l CF hK hP (As := [.long (lN (a)), .int (nI (x))]) (rest := []) (c1_parts l hI hR (a := a) (x := x) (by omega)) rfl lk_RX1_X1_parts rfl hl.1 ⟨Nat.le_of_ble_eq_true rfl, Nat.le_of_ble_eq_true rfl⟩ ⟨Nat.zero_le _, Nat.zero_le _⟩ (Nat.le_of_ble_eq_true rfl) rfl dX1_gives_3 (fun r_1 hr_2 => ?_)
  subst hr_2
  refine lv_ldc2 (v := lN 10000) CF.1 CF.2.1 CF.2.2.2.1 (CF.2.2.2.2 _ (inr_7 _ (List.mem_of_getElem? (i := 19) rfl))) dX1_gives_6 ?_
  refine lv_ldiv CF.1 CF.2.1 dX1_gives_9 (lne (by omega) (by omega)) ?_
  refine tpl (pk_lDiv (by omega) (by omega) (by omega)) ?_
  exact W.lret CF.1 CF.2.1 hr (fun t9 ht9 hW9 => ⟨_, rfl, rfl, ht9⟩) (fun q hq => absurd hq List.not_mem_nil) dX1_gives_10
set_option maxHeartbeats 1000000 in
set_option maxRecDepth 100000 in
theorem c1_can (l : Launch) {G : va_G} {cA : ClassId} {ad : Nat → Nat} {σ : RS} {b : BS} (hI : InvC b) (hR : Rc σ b) {u f t a x : Nat} (hu : u < b 0 2) (hf : f < 5) (ht : t < 5) (ha : a < 2147483648) (hx : x ≤ 9999) : Met l yX1_can (ws_ yX1_can cX1_can 8 (some .boolean)) (rmk 3 0 0) (pc1 G cA ad σ [.ref (ad 0), .int (nI (u)), .int (nI (f)), .int (nI (t)), .int (nI (a)), .int (nI (x))]) (rqi (fun r => (r = nI 1 ∧ canN b u f t a x) ∨ (r = nI 0 ∧ ¬ canN b u f t a x))) 0 0 (fun _ => False) := by
  refine Met.ofW (cc := cX1_can) (maxL := 8) (ret := (some .boolean)) (by decide) rfl ?_
  intro p e s m args below meth c s₁ B hml hv
  obtain ⟨rfl, hP, hK⟩ := hv
  have CF : CallFix p m c cX1_can 8 s _ AW RX1 := ⟨B.exec, B.bytes, hml, findClass_of_methodNamed B.named, fun w h => atoms_spec (ws := ws_ yX1_can cX1_can 8 (some .boolean)) B.pre w (List.mem_cons_of_mem _ h)⟩
  have hr := B.returns
  have hlocks := B.notSynchronized
  have hl := lv_entry ([.ref (ad 0), .int (nI (u)), .int (nI (f)), .int (nI (t)), .int (nI (a)), .int (nI (x))]) (n := 8) (Nat.le_of_ble_eq_true rfl)
  rw [lg_entry_eq]
  generalize (lg_sl ([.ref (ad 0), .int (nI (u)), .int (nI (f)), .int (nI (t)), .int (nI (a)), .int (nI (x))]) ++ List.replicate (8 - (lg_sl ([.ref (ad 0), .int (nI (u)), .int (nI (f)), .int (nI (t)), .int (nI (a)), .int (nI (x))])).length) Slot.unset).toArray = ls at hl ⊢
  have hl : lv_has ls 8 [(0, .ref (ad 0)), (1, .int (nI (u))), (2, .int (nI (f))), (3, .int (nI (t))), (4, .int (nI (a))), (5, .int (nI (x)))] := hl
  obtain ⟨i_sp, i_cu, i_ra, i_di, i_mo, i_pu⟩ := id hI
  have h_m := i_mo t ht
  have h_pu := i_pu (u * 5 + f) (by omega)
  have h_gb := gq_le (b := b) (a := a) (x := x) (A := 2147483647) (X := 9999) (by omega) hx
  have h_gq : gq b a x = a * x * (100 - b 0 1) / 10000 := rfl
  refine lv_iload_n CF.1 CF.2.1 dX1_can_0 rfl (lv_at hl 2 rfl) ?_
  refine lv_iload_n CF.1 CF.2.1 dX1_can_1 rfl (lv_at hl 3 rfl) ?_
  refine z_icmp_eq CF (tgt := 27) (nIz (by omega)) (nIz (by omega)) dX1_can_2 (by decide) (fun h_1 => ?_) (fun h_2 => ?_)
  · refine lv_iconst (v := nI 0) CF.1 CF.2.1 dX1_can_27 (by decide) ?_
    exact W.zret CF.1 CF.2.1 hr rfl (fun t9 ht9 hW9 => ⟨_, rfl, Or.inr ⟨rfl, by unfold canN; omega⟩, ht9⟩) (fun q hq => absurd hq List.not_mem_nil) dX1_can_28
  · refine lv_iload CF.1 CF.2.1 dX1_can_5 (lv_at hl 5 rfl) ?_
    refine z_if_eq CF (tgt := 27) (nIz (by omega)) dX1_can_7 (by decide) (fun h_3 => ?_) (fun h_4 => ?_)
    · refine lv_iconst (v := nI 0) CF.1 CF.2.1 dX1_can_27 (by decide) ?_
      exact W.zret CF.1 CF.2.1 hr rfl (fun t9 ht9 hW9 => ⟨_, rfl, Or.inr ⟨rfl, by unfold canN; omega⟩, ht9⟩) (fun q hq => absurd hq List.not_mem_nil) dX1_can_28
    · refine lv_iload CF.1 CF.2.1 dX1_can_10 (lv_at hl 4 rfl) ?_
      refine lv_iconst (v := nI 1) CF.1 CF.2.1 dX1_can_12 (by decide) ?_
      refine z_icmp_lt CF (tgt := 27) (nIz (by omega)) (nIz (by omega)) dX1_can_13 (by decide) (fun h_5 => ?_) (fun h_6 => ?_)
      · refine lv_iconst (v := nI 0) CF.1 CF.2.1 dX1_can_27 (by decide) ?_
        exact W.zret CF.1 CF.2.1 hr rfl (fun t9 ht9 hW9 => ⟨_, rfl, Or.inr ⟨rfl, by unfold canN; omega⟩, ht9⟩) (fun q hq => absurd hq List.not_mem_nil) dX1_can_28
      · refine lv_aload_n CF.1 CF.2.1 dX1_can_16 rfl (lv_at hl 0 rfl) ?_
        refine lv_iload_n CF.1 CF.2.1 dX1_can_17 rfl (lv_at hl 1 rfl) ?_
        refine lv_iload_n CF.1 CF.2.1 dX1_can_18 rfl (lv_at hl 2 rfl) ?_
        refine c1_i CF hK hP (As := [.int (nI (u)), .int (nI (f))]) (rest := []) (c1_purse l hI hR (u := u) (t := f) (by omega) (by omega)) rfl lk_RX1_X1_purse rfl hl.1 ⟨Nat.le_of_ble_eq_true rfl, Nat.le_of_ble_eq_true rfl⟩ ⟨Nat.zero_le _, Nat.zero_le _⟩ (Nat.le_of_ble_eq_true rfl) rfl dX1_can_19 (fun r_7 hr_8 => ?_)
        subst hr_8
        refine lv_iload CF.1 CF.2.1 dX1_can_22 (lv_at hl 4 rfl) ?_
        refine z_icmp_ge CF (tgt := 29) (nIz (by omega)) (nIz (by omega)) dX1_can_24 (by decide) (fun h_9 => ?_) (fun h_10 => ?_)
        · refine lv_aload_n CF.1 CF.2.1 dX1_can_29 rfl (lv_at hl 0 rfl) ?_
          refine lv_iload CF.1 CF.2.1 dX1_can_30 (lv_at hl 4 rfl) ?_
          refine o_i2l CF (by omega) dX1_can_32 ?_
          refine lv_iload CF.1 CF.2.1 dX1_can_33 (lv_at hl 5 rfl) ?_
          refine c1_l CF hK hP (As := [.long (lN (a)), .int (nI (x))]) (rest := []) (c1_gives l hI hR (a := a) (x := x) (by omega) (by omega)) rfl lk_RX1_X1_gives rfl hl.1 ⟨Nat.le_of_ble_eq_true rfl, Nat.le_of_ble_eq_true rfl⟩ ⟨Nat.zero_le _, Nat.zero_le _⟩ (Nat.le_of_ble_eq_true rfl) rfl dX1_can_35 (fun r_11 hr_12 => ?_)
          subst hr_12
          refine lv_lstore (lv' := [(6, .long (lN (gq b (a) (x)))), (0, .ref (ad 0)), (1, .int (nI (u))), (2, .int (nI (f))), (3, .int (nI (t))), (4, .int (nI (a))), (5, .int (nI (x)))]) CF.1 CF.2.1 dX1_can_38 hl (by decide) rfl (fun ls hl => ?_)
          refine lv_lload CF.1 CF.2.1 dX1_can_40 (lv_at hl 0 rfl) ?_
          refine lv_lconst (v := lN 1) CF.1 CF.2.1 dX1_can_42 (by decide) ?_
          refine z_lcmp_lt CF (tgt := 85) (lNz (by omega)) (lNz (by omega)) dX1_can_43 dX1_can_44 (by decide) (fun h_13 => ?_) (fun h_14 => ?_)
          · refine lv_iconst (v := nI 0) CF.1 CF.2.1 dX1_can_85 (by decide) ?_
            exact W.zret CF.1 CF.2.1 hr rfl (fun t9 ht9 hW9 => ⟨_, rfl, Or.inr ⟨rfl, by unfold canN; omega⟩, ht9⟩) (fun q hq => absurd hq List.not_mem_nil) dX1_can_86
          · refine lv_lload CF.1 CF.2.1 dX1_can_47 (lv_at hl 0 rfl) ?_
            refine lv_aload_n CF.1 CF.2.1 dX1_can_49 rfl (lv_at hl 1 rfl) ?_
            refine x1_g_stocks CF hK hP dX1_can_50 ?_
            refine lv_iload_n CF.1 CF.2.1 dX1_can_53 rfl (lv_at hl 4 rfl) ?_
            refine x1_ald2 CF hK hP (i := t) (by omega) (v := (nI (b 2 (t)))) (hR.a2 (by omega)) dX1_can_54 ?_
            refine o_i2l CF (by omega) dX1_can_55 ?_
            refine z_lcmp_gt CF (tgt := 85) (lNz (by omega)) (lNz (by omega)) dX1_can_56 dX1_can_57 (by decide) (fun h_15 => ?_) (fun h_16 => ?_)
            · refine lv_iconst (v := nI 0) CF.1 CF.2.1 dX1_can_85 (by decide) ?_
              exact W.zret CF.1 CF.2.1 hr rfl (fun t9 ht9 hW9 => ⟨_, rfl, Or.inr ⟨rfl, by unfold canN; omega⟩, ht9⟩) (fun q hq => absurd hq List.not_mem_nil) dX1_can_86
            · refine lv_aload_n CF.1 CF.2.1 dX1_can_60 rfl (lv_at hl 1 rfl) ?_
              refine x1_g_given CF hK hP dX1_can_61 ?_
              refine lv_iload_n CF.1 CF.2.1 dX1_can_64 rfl (lv_at hl 4 rfl) ?_
              refine x1_ald5 CF hK hP (i := t) (by omega) (v := (nI (b 5 (t)))) (hR.a5 (by omega)) dX1_can_65 ?_
              refine o_i2l CF (by omega) dX1_can_66 ?_
              refine lv_lload CF.1 CF.2.1 dX1_can_67 (lv_at hl 0 rfl) ?_
              refine o_ladd CF dX1_can_69 ?_
              refine lv_aload_n CF.1 CF.2.1 dX1_can_70 rfl (lv_at hl 1 rfl) ?_
              refine x1_g_limits CF hK hP dX1_can_71 ?_
              refine lv_iload_n CF.1 CF.2.1 dX1_can_74 rfl (lv_at hl 4 rfl) ?_
              refine x1_ald4 CF hK hP (i := t) (by omega) (v := (nI (b 4 (t)))) (hR.a4 (by omega)) dX1_can_75 ?_
              refine o_i2l CF (by omega) dX1_can_76 ?_
              refine z_lcmp_gt CF (tgt := 85) (lNz (by omega)) (lNz (by omega)) dX1_can_77 dX1_can_78 (by decide) (fun h_17 => ?_) (fun h_18 => ?_)
              · refine lv_iconst (v := nI 0) CF.1 CF.2.1 dX1_can_85 (by decide) ?_
                exact W.zret CF.1 CF.2.1 hr rfl (fun t9 ht9 hW9 => ⟨_, rfl, Or.inr ⟨rfl, by unfold canN; omega⟩, ht9⟩) (fun q hq => absurd hq List.not_mem_nil) dX1_can_86
              · refine lv_iconst (v := nI 1) CF.1 CF.2.1 dX1_can_81 (by decide) ?_
                refine lv_goto (tgt := 86) CF.1 CF.2.1 dX1_can_82 (by decide) ?_
                exact W.zret CF.1 CF.2.1 hr rfl (fun t9 ht9 hW9 => ⟨_, rfl, Or.inl ⟨rfl, by unfold canN; omega⟩, ht9⟩) (fun q hq => absurd hq List.not_mem_nil) dX1_can_86
        · refine lv_iconst (v := nI 0) CF.1 CF.2.1 dX1_can_27 (by decide) ?_
          exact W.zret CF.1 CF.2.1 hr rfl (fun t9 ht9 hW9 => ⟨_, rfl, Or.inr ⟨rfl, by unfold canN; omega⟩, ht9⟩) (fun q hq => absurd hq List.not_mem_nil) dX1_can_28
set_option maxHeartbeats 1000000 in
set_option maxRecDepth 100000 in
theorem c1_canNeg (l : Launch) {G : va_G} {cA : ClassId} {ad : Nat → Nat} {σ : RS} {b : BS} (hI : InvC b) (hR : Rc σ b) {u f t x : Nat} (hu : u < b 0 2) (hf : f < 5) (ht : t < 5) {w : Int32} (hw : w.toInt < 1) (hx : x ≤ 9999) : Met l yX1_can (ws_ yX1_can cX1_can 8 (some .boolean)) (rmk 3 0 0) (pc1 G cA ad σ [.ref (ad 0), .int (nI (u)), .int (nI (f)), .int (nI (t)), .int (w), .int (nI (x))]) (rqi (fun r => r = nI 0)) 0 0 (fun _ => False) := by
  refine Met.ofW (cc := cX1_can) (maxL := 8) (ret := (some .boolean)) (by decide) rfl ?_
  intro p e s m args below meth c s₁ B hml hv
  obtain ⟨rfl, hP, hK⟩ := hv
  have CF : CallFix p m c cX1_can 8 s _ AW RX1 := ⟨B.exec, B.bytes, hml, findClass_of_methodNamed B.named, fun w h => atoms_spec (ws := ws_ yX1_can cX1_can 8 (some .boolean)) B.pre w (List.mem_cons_of_mem _ h)⟩
  have hr := B.returns
  have hlocks := B.notSynchronized
  have hl := lv_entry ([.ref (ad 0), .int (nI (u)), .int (nI (f)), .int (nI (t)), .int (w), .int (nI (x))]) (n := 8) (Nat.le_of_ble_eq_true rfl)
  rw [lg_entry_eq]
  generalize (lg_sl ([.ref (ad 0), .int (nI (u)), .int (nI (f)), .int (nI (t)), .int (w), .int (nI (x))]) ++ List.replicate (8 - (lg_sl ([.ref (ad 0), .int (nI (u)), .int (nI (f)), .int (nI (t)), .int (w), .int (nI (x))])).length) Slot.unset).toArray = ls at hl ⊢
  have hl : lv_has ls 8 [(0, .ref (ad 0)), (1, .int (nI (u))), (2, .int (nI (f))), (3, .int (nI (t))), (4, .int (w)), (5, .int (nI (x)))] := hl
  obtain ⟨i_sp, i_cu, i_ra, i_di, i_mo, i_pu⟩ := id hI
  refine lv_iload_n CF.1 CF.2.1 dX1_can_0 rfl (lv_at hl 2 rfl) ?_
  refine lv_iload_n CF.1 CF.2.1 dX1_can_1 rfl (lv_at hl 3 rfl) ?_
  refine z_icmp_eq CF (tgt := 27) (nIz (by omega)) (nIz (by omega)) dX1_can_2 (by decide) (fun h_1 => ?_) (fun h_2 => ?_)
  · refine lv_iconst (v := nI 0) CF.1 CF.2.1 dX1_can_27 (by decide) ?_
    exact W.zret CF.1 CF.2.1 hr rfl (fun t9 ht9 hW9 => ⟨_, rfl, rfl, ht9⟩) (fun q hq => absurd hq List.not_mem_nil) dX1_can_28
  · refine lv_iload CF.1 CF.2.1 dX1_can_5 (lv_at hl 5 rfl) ?_
    refine z_if_eq CF (tgt := 27) (nIz (by omega)) dX1_can_7 (by decide) (fun h_3 => ?_) (fun h_4 => ?_)
    · refine lv_iconst (v := nI 0) CF.1 CF.2.1 dX1_can_27 (by decide) ?_
      exact W.zret CF.1 CF.2.1 hr rfl (fun t9 ht9 hW9 => ⟨_, rfl, rfl, ht9⟩) (fun q hq => absurd hq List.not_mem_nil) dX1_can_28
    · refine lv_iload CF.1 CF.2.1 dX1_can_10 (lv_at hl 4 rfl) ?_
      refine lv_iconst (v := nI 1) CF.1 CF.2.1 dX1_can_12 (by decide) ?_
      refine z_icmp_lt CF (tgt := 27) rfl (nIz (by omega)) dX1_can_13 (by decide) (fun h_5 => ?_) (fun h_6 => absurd h_6 (by omega))
      refine lv_iconst (v := nI 0) CF.1 CF.2.1 dX1_can_27 (by decide) ?_
      exact W.zret CF.1 CF.2.1 hr rfl (fun t9 ht9 hW9 => ⟨_, rfl, rfl, ht9⟩) (fun q hq => absurd hq List.not_mem_nil) dX1_can_28
set_option maxHeartbeats 1000000 in
set_option maxRecDepth 100000 in
theorem c1_rateR (l : Launch) {G : va_G} {cA : ClassId} {ad : Nat → Nat} {σ : RS} {f t : Nat} (hf : f < 5) (ht : t < 5) : Met l yX1_rate (ws_ yX1_rate cX1_rate 3 (some .int)) (rmk 1 0 0) (pc1 G cA ad σ [.ref (ad 0), .int (nI (f)), .int (nI (t))]) (rqi (fun r => r = if f = t then nI 0 else σ 1 (f * 5 + t))) 0 0 (fun _ => False) := by
  refine Met.ofW (cc := cX1_rate) (maxL := 3) (ret := (some .int)) (by decide) rfl ?_
  intro p e s m args below meth c s₁ B hml hv
  obtain ⟨rfl, hP, hK⟩ := hv
  have CF : CallFix p m c cX1_rate 3 s _ AW RX1 := ⟨B.exec, B.bytes, hml, findClass_of_methodNamed B.named, fun w h => atoms_spec (ws := ws_ yX1_rate cX1_rate 3 (some .int)) B.pre w (List.mem_cons_of_mem _ h)⟩
  have hr := B.returns
  have hlocks := B.notSynchronized
  have hl := lv_entry ([.ref (ad 0), .int (nI (f)), .int (nI (t))]) (n := 3) (Nat.le_of_ble_eq_true rfl)
  rw [lg_entry_eq]
  generalize (lg_sl ([.ref (ad 0), .int (nI (f)), .int (nI (t))]) ++ List.replicate (3 - (lg_sl ([.ref (ad 0), .int (nI (f)), .int (nI (t))])).length) Slot.unset).toArray = ls at hl ⊢
  have hl : lv_has ls 3 [(0, .ref (ad 0)), (1, .int (nI (f))), (2, .int (nI (t)))] := hl
  refine lv_iload_n CF.1 CF.2.1 dX1_rate_0 rfl (lv_at hl 1 rfl) ?_
  refine lv_iload_n CF.1 CF.2.1 dX1_rate_1 rfl (lv_at hl 2 rfl) ?_
  refine z_icmp_ne CF (tgt := 9) (nIz (by omega)) (nIz (by omega)) dX1_rate_2 (by decide) (fun h_1 => ?_) (fun h_2 => ?_)
  · refine lv_aload_n CF.1 CF.2.1 dX1_rate_9 rfl (lv_at hl 0 rfl) ?_
    refine x1_g_rates CF hK hP dX1_rate_10 ?_
    refine lv_iconst (v := nI 5) CF.1 CF.2.1 dX1_rate_13 (by decide) ?_
    refine lv_iload_n CF.1 CF.2.1 dX1_rate_14 rfl (lv_at hl 1 rfl) ?_
    refine o_imul CF dX1_rate_15 ?_
    refine tpi (congrArg nI (Nat.mul_comm _ _)) ?_
    refine lv_iload_n CF.1 CF.2.1 dX1_rate_16 rfl (lv_at hl 2 rfl) ?_
    refine o_iadd CF dX1_rate_17 ?_
    refine x1_ald1 CF hK hP (i := f * 5 + t) (by omega) (v := (σ 1 (f * 5 + t))) rfl dX1_rate_18 ?_
    exact W.iret CF.1 CF.2.1 hr (fun t9 ht9 hW9 => ⟨_, rfl, by rw [if_neg (by omega)], ht9⟩) (fun q hq => absurd hq List.not_mem_nil) dX1_rate_19
  · refine lv_iconst (v := nI 0) CF.1 CF.2.1 dX1_rate_5 (by decide) ?_
    refine lv_goto (tgt := 19) CF.1 CF.2.1 dX1_rate_6 (by decide) ?_
    exact W.iret CF.1 CF.2.1 hr (fun t9 ht9 hW9 => ⟨_, rfl, by rw [if_pos (by omega)], ht9⟩) (fun q hq => absurd hq List.not_mem_nil) dX1_rate_19
set_option maxHeartbeats 1000000 in
set_option maxRecDepth 100000 in
theorem c1_partsR (l : Launch) {G : va_G} {cA : ClassId} {ad : Nat → Nat} {σ : RS} {a x z : Nat} (hz : σ 0 1 = nI z) (hz2 : z ≤ 50) (hx : x < 2147483648) : Met l yX1_parts (ws_ yX1_parts cX1_parts 4 (some .long)) (rmk 1 0 0) (pc1 G cA ad σ [.ref (ad 0), .long (lN (a)), .int (nI (x))]) (rql (fun r => r = lN (a * x * (100 - z)))) 0 0 (fun _ => False) := by
  refine Met.ofW (cc := cX1_parts) (maxL := 4) (ret := (some .long)) (by decide) rfl ?_
  intro p e s m args below meth c s₁ B hml hv
  obtain ⟨rfl, hP, hK⟩ := hv
  have CF : CallFix p m c cX1_parts 4 s _ AW RX1 := ⟨B.exec, B.bytes, hml, findClass_of_methodNamed B.named, fun w h => atoms_spec (ws := ws_ yX1_parts cX1_parts 4 (some .long)) B.pre w (List.mem_cons_of_mem _ h)⟩
  have hr := B.returns
  have hlocks := B.notSynchronized
  have hl := lv_entry ([.ref (ad 0), .long (lN (a)), .int (nI (x))]) (n := 4) (Nat.le_of_ble_eq_true rfl)
  rw [lg_entry_eq]
  generalize (lg_sl ([.ref (ad 0), .long (lN (a)), .int (nI (x))]) ++ List.replicate (4 - (lg_sl ([.ref (ad 0), .long (lN (a)), .int (nI (x))])).length) Slot.unset).toArray = ls at hl ⊢
  have hl : lv_has ls 4 [(0, .ref (ad 0)), (1, .long (lN (a))), (3, .int (nI (x)))] := hl
  refine lv_lload_n CF.1 CF.2.1 dX1_parts_0 rfl (lv_at hl 1 rfl) ?_
  refine lv_iload_n CF.1 CF.2.1 dX1_parts_1 rfl (lv_at hl 2 rfl) ?_
  refine o_i2l CF (by omega) dX1_parts_2 ?_
  refine o_lmul CF dX1_parts_3 ?_
  refine lv_bipush (v := nI 100) CF.1 CF.2.1 dX1_parts_4 (by decide) ?_
  refine lv_aload_n CF.1 CF.2.1 dX1_parts_6 rfl (lv_at hl 0 rfl) ?_
  refine x1_g_spread CF hK hP (v := (nI (z))) hz dX1_parts_7 ?_
  refine o_isub CF (by omega) dX1_parts_10 ?_
  refine o_i2l CF (by omega) dX1_parts_11 ?_
  refine o_lmul CF dX1_parts_12 ?_
  exact W.lret CF.1 CF.2.1 hr (fun t9 ht9 hW9 => ⟨_, rfl, rfl, ht9⟩) (fun q hq => absurd hq List.not_mem_nil) dX1_parts_13
set_option maxHeartbeats 1000000 in
set_option maxRecDepth 100000 in
theorem c1_purseR (l : Launch) {G : va_G} {cA : ClassId} {ad : Nat → Nat} {σ : RS} {u t : Nat} (hf : u < 6) (ht : t < 5) : Met l yX1_purse (ws_ yX1_purse cX1_purse 3 (some .int)) (rmk 1 0 0) (pc1 G cA ad σ [.ref (ad 0), .int (nI (u)), .int (nI (t))]) (rqi (fun r => r = σ 6 (u * 5 + t))) 0 0 (fun _ => False) := by
  refine Met.ofW (cc := cX1_purse) (maxL := 3) (ret := (some .int)) (by decide) rfl ?_
  intro p e s m args below meth c s₁ B hml hv
  obtain ⟨rfl, hP, hK⟩ := hv
  have CF : CallFix p m c cX1_purse 3 s _ AW RX1 := ⟨B.exec, B.bytes, hml, findClass_of_methodNamed B.named, fun w h => atoms_spec (ws := ws_ yX1_purse cX1_purse 3 (some .int)) B.pre w (List.mem_cons_of_mem _ h)⟩
  have hr := B.returns
  have hlocks := B.notSynchronized
  have hl := lv_entry ([.ref (ad 0), .int (nI (u)), .int (nI (t))]) (n := 3) (Nat.le_of_ble_eq_true rfl)
  rw [lg_entry_eq]
  generalize (lg_sl ([.ref (ad 0), .int (nI (u)), .int (nI (t))]) ++ List.replicate (3 - (lg_sl ([.ref (ad 0), .int (nI (u)), .int (nI (t))])).length) Slot.unset).toArray = ls at hl ⊢
  have hl : lv_has ls 3 [(0, .ref (ad 0)), (1, .int (nI (u))), (2, .int (nI (t)))] := hl
  refine lv_aload_n CF.1 CF.2.1 dX1_purse_0 rfl (lv_at hl 0 rfl) ?_
  refine x1_g_purses CF hK hP dX1_purse_1 ?_
  refine lv_iconst (v := nI 5) CF.1 CF.2.1 dX1_purse_4 (by decide) ?_
  refine lv_iload_n CF.1 CF.2.1 dX1_purse_5 rfl (lv_at hl 1 rfl) ?_
  refine o_imul CF dX1_purse_6 ?_
  refine tpi (congrArg nI (Nat.mul_comm _ _)) ?_
  refine lv_iload_n CF.1 CF.2.1 dX1_purse_7 rfl (lv_at hl 2 rfl) ?_
  refine o_iadd CF dX1_purse_8 ?_
  refine x1_ald6 CF hK hP (i := u * 5 + t) (by omega) (v := (σ 6 (u * 5 + t))) rfl dX1_purse_9 ?_
  exact W.iret CF.1 CF.2.1 hr (fun t9 ht9 hW9 => ⟨_, rfl, rfl, ht9⟩) (fun q hq => absurd hq List.not_mem_nil) dX1_purse_10
set_option maxHeartbeats 1000000 in
set_option maxRecDepth 100000 in
theorem c1_carryOut (l : Launch) {G : va_G} {cA : ClassId} {ad : Nat → Nat} {σ : RS} (hj : inj8 ad) {b : BS} (hI : InvC b) (hR : Rc σ b) {u f t a : Nat} (hu : u < b 0 2) (hf : f < 5) (ht : t < 5) (hne : f ≠ t) (ha : a ≤ b 6 (u * 5 + f)) (hg : gv b f t a ≤ b 2 t) (hl5 : b 5 t + gv b f t a ≤ b 4 t) : Met l yX1_carryOut (ws_ yX1_carryOut cX1_carryOut 6 (some .int)) (rmk 3 0 0) (pc1 G cA ad σ [.ref (ad 0), .int (nI (u)), .int (nI (f)), .int (nI (t)), .int (nI (a))]) (va_Qi (fun (r : Int32) (σ' : RS) => r = nI (gv b f t a) ∧ Rc σ' (dc b u f t a) ∧ Sm σ σ') (fun σ' t => va_P G vwCl (w1 ad cA σ') t.heap) (own8 ad)) 0 0 (own8 ad) := by
  refine Met.ofW (cc := cX1_carryOut) (maxL := 6) (ret := (some .int)) (by decide) rfl ?_
  intro p e s m args below meth c s₁ B hml hv
  obtain ⟨rfl, hP, hK⟩ := hv
  have CF : CallFix p m c cX1_carryOut 6 s _ AW RX1 := ⟨B.exec, B.bytes, hml, findClass_of_methodNamed B.named, fun w h => atoms_spec (ws := ws_ yX1_carryOut cX1_carryOut 6 (some .int)) B.pre w (List.mem_cons_of_mem _ h)⟩
  have hr := B.returns
  have hlocks := B.notSynchronized
  have hl := lv_entry ([.ref (ad 0), .int (nI (u)), .int (nI (f)), .int (nI (t)), .int (nI (a))]) (n := 6) (Nat.le_of_ble_eq_true rfl)
  rw [lg_entry_eq]
  generalize (lg_sl ([.ref (ad 0), .int (nI (u)), .int (nI (f)), .int (nI (t)), .int (nI (a))]) ++ List.replicate (6 - (lg_sl ([.ref (ad 0), .int (nI (u)), .int (nI (f)), .int (nI (t)), .int (nI (a))])).length) Slot.unset).toArray = ls at hl ⊢
  have hl : lv_has ls 6 [(0, .ref (ad 0)), (1, .int (nI (u))), (2, .int (nI (f))), (3, .int (nI (t))), (4, .int (nI (a)))] := hl
  have hD : va_D (own8 ad) (w1 ad cA σ) := w1_D hj (fun _ h => h)
  have hS : va_S (own8 ad) s.heap s.heap [] := va_S.rf
  obtain ⟨i_sp, i_cu, i_ra, i_di, i_mo, i_pu⟩ := id hI
  have h_m := i_mo t ht
  have h_mf := i_mo f hf
  have h_pu := i_pu (u * 5 + f) (by omega)
  have h_pt := i_pu (u * 5 + t) (by omega)
  have h_pr := pr_le hI (f := f) (t := t) (a := a) (A := 999999) hf ht (by omega)
  have h_pe : pr b f t a = a * b 1 (f * 5 + t) * (100 - b 0 1) := rfl
  have h_ra := i_ra (f * 5 + t) (by omega)
  refine lv_aload_n CF.1 CF.2.1 dX1_carryOut_0 rfl (lv_at hl 0 rfl) ?_
  refine lv_iload CF.1 CF.2.1 dX1_carryOut_1 (lv_at hl 4 rfl) ?_
  refine o_i2l CF (by omega) dX1_carryOut_3 ?_
  refine lv_aload_n CF.1 CF.2.1 dX1_carryOut_4 rfl (lv_at hl 0 rfl) ?_
  refine lv_iload_n CF.1 CF.2.1 dX1_carryOut_5 rfl (lv_at hl 2 rfl) ?_
  refine lv_iload_n CF.1 CF.2.1 dX1_carryOut_6 rfl (lv_at hl 3 rfl) ?_
  refine c1_i CF hK hP (As := [.int (nI (f)), .int (nI (t))]) (rest := [.long (lN (a)), .ref (ad 0)]) (c1_rateR l (σ := σ) (f := f) (t := t) hf ht) rfl lk_RX1_X1_rate rfl hl.1 ⟨Nat.le_of_ble_eq_true rfl, Nat.le_of_ble_eq_true rfl⟩ ⟨Nat.zero_le _, Nat.zero_le _⟩ (Nat.le_of_ble_eq_true rfl) rfl dX1_carryOut_7 (fun r_1 hr_2 => ?_)
  rw [if_neg hne] at hr_2
  subst hr_2
  refine tpi (show σ 1 (f * 5 + t) = nI (b 1 (f * 5 + t)) from (hR.a1 (by omega))) ?_
  refine c1_l CF hK hP (As := [.long (lN (a)), .int (nI (b 1 (f * 5 + t)))]) (rest := []) (c1_gives l hI hR (a := a) (x := b 1 (f * 5 + t)) (by omega) (by omega)) rfl lk_RX1_X1_gives rfl hl.1 ⟨Nat.le_of_ble_eq_true rfl, Nat.le_of_ble_eq_true rfl⟩ ⟨Nat.zero_le _, Nat.zero_le _⟩ (Nat.le_of_ble_eq_true rfl) rfl dX1_carryOut_10 (fun r_3 hr_4 => ?_)
  subst hr_4
  refine o_l2i CF dX1_carryOut_13 ?_
  refine lv_istore (lv' := [(5, .int (nI (gv b f t a))), (0, .ref (ad 0)), (1, .int (nI (u))), (2, .int (nI (f))), (3, .int (nI (t))), (4, .int (nI (a)))]) CF.1 CF.2.1 dX1_carryOut_14 hl (by decide) rfl (fun ls hl => ?_)
  refine lv_aload_n CF.1 CF.2.1 dX1_carryOut_16 rfl (lv_at hl 1 rfl) ?_
  refine x1_g_purses CF hK hP dX1_carryOut_17 ?_
  refine lv_iconst (v := nI 5) CF.1 CF.2.1 dX1_carryOut_20 (by decide) ?_
  refine lv_iload_n CF.1 CF.2.1 dX1_carryOut_21 rfl (lv_at hl 2 rfl) ?_
  refine o_imul CF dX1_carryOut_22 ?_
  refine tpi (congrArg nI (Nat.mul_comm _ _)) ?_
  refine lv_iload_n CF.1 CF.2.1 dX1_carryOut_23 rfl (lv_at hl 3 rfl) ?_
  refine o_iadd CF dX1_carryOut_24 ?_
  refine lv_dup2_11 CF.1 CF.2.1 dX1_carryOut_25 rfl rfl ?_
  refine x1_ald6 CF hK hP (i := u * 5 + f) (by omega) (v := (nI (b 6 (u * 5 + f)))) (hR.a6 (by omega)) dX1_carryOut_26 ?_
  refine lv_iload CF.1 CF.2.1 dX1_carryOut_27 (lv_at hl 5 rfl) ?_
  refine o_isub CF (by omega) dX1_carryOut_29 ?_
  refine x1_ast6 CF hK hP hD hS (i := u * 5 + f) (by omega) dX1_carryOut_30 (fun σ5 H5 locs hσ5 hP5 hD5 hS5 => ?_)
  have hR5 : Rc σ5 (upN (b) 6 (u * 5 + f) ((b 6 (u * 5 + f)) - a)) := by rw [hσ5]; exact Rc_up hR 6 (u * 5 + f) ((b 6 (u * 5 + f)) - a)
  have hM5 : Sm σ σ5 := by rw [hσ5]; exact Sm_up Sm_rf ⟨by decide, Or.inl (by decide)⟩
  refine lv_aload_n CF.1 CF.2.1 dX1_carryOut_31 rfl (lv_at hl 1 rfl) ?_
  refine x1_g_purses CF hK hP5 dX1_carryOut_32 ?_
  refine lv_iconst (v := nI 5) CF.1 CF.2.1 dX1_carryOut_35 (by decide) ?_
  refine lv_iload_n CF.1 CF.2.1 dX1_carryOut_36 rfl (lv_at hl 2 rfl) ?_
  refine o_imul CF dX1_carryOut_37 ?_
  refine tpi (congrArg nI (Nat.mul_comm _ _)) ?_
  refine lv_iload_n CF.1 CF.2.1 dX1_carryOut_38 rfl (lv_at hl 4 rfl) ?_
  refine o_iadd CF dX1_carryOut_39 ?_
  refine lv_ldc (v := nI 999999) CF.1 CF.2.1 CF.2.2.2.1 (CF.2.2.2.2 _ (inr_8 _ (List.mem_of_getElem? (i := 5) rfl))) dX1_carryOut_40 ?_
  refine lv_aload_n CF.1 CF.2.1 dX1_carryOut_42 rfl (lv_at hl 1 rfl) ?_
  refine lv_iload_n CF.1 CF.2.1 dX1_carryOut_43 rfl (lv_at hl 2 rfl) ?_
  refine lv_iload_n CF.1 CF.2.1 dX1_carryOut_44 rfl (lv_at hl 4 rfl) ?_
  refine c1_i CF hK hP5 (As := [.int (nI (u)), .int (nI (t))]) (rest := [.int (nI (999999)), .int (nI (u * 5 + t)), .ref (ad 6)]) (c1_purseR l (σ := σ5) (u := u) (t := t) (by omega) ht) rfl lk_RX1_X1_purse rfl hl.1 ⟨Nat.le_of_ble_eq_true rfl, Nat.le_of_ble_eq_true rfl⟩ ⟨Nat.zero_le _, Nat.zero_le _⟩ (Nat.le_of_ble_eq_true rfl) rfl dX1_carryOut_45 (fun r_6 hr_7 => ?_)
  subst hr_7
  refine tpi (show σ5 6 (u * 5 + t) = nI (b 6 (u * 5 + t)) from (by rw [hσ5, up_i (by omega)]; exact hR.a6 (by omega))) ?_
  refine lv_iload CF.1 CF.2.1 dX1_carryOut_48 (lv_at hl 0 rfl) ?_
  refine o_iadd CF dX1_carryOut_50 ?_
  refine va_mmin CF.1 CF.2.1 (CF.2.2.1.trans hl.1.symm) CF.2.2.2.1 (CF.2.2.2.2 _ (inr_8 _ (List.mem_of_getElem? (i := 6) rfl))) (CF.2.2.2.2 _ (inr_8 _ (List.mem_of_getElem? (i := 7) rfl))) (CF.2.2.2.2 _ (inr_5 _ (List.mem_of_getElem? (i := 8) rfl))) (CF.2.2.2.2 _ (inr_8 _ (List.mem_of_getElem? (i := 8) rfl))) (Nat.le_of_ble_eq_true rfl) (Nat.le_of_ble_eq_true rfl) (Nat.zero_le _) (Nat.zero_le _) dX1_carryOut_51 ?_
  refine tpi (mnI (by omega) (by omega)) ?_
  refine x1_ast6 CF hK hP5 hD5 hS5 (i := u * 5 + t) (by omega) dX1_carryOut_54 (fun σ8 H8 locs hσ8 hP8 hD8 hS8 => ?_)
  have hR8 : Rc σ8 (upN (upN (b) 6 (u * 5 + f) ((b 6 (u * 5 + f)) - a)) 6 (u * 5 + t) (min (999999) (b 6 (u * 5 + t) + (gv b f t a)))) := by rw [hσ8]; exact Rc_up hR5 6 (u * 5 + t) (min (999999) (b 6 (u * 5 + t) + (gv b f t a)))
  have hM8 : Sm σ σ8 := by rw [hσ8]; exact Sm_up hM5 ⟨by decide, Or.inl (by decide)⟩
  refine lv_aload_n CF.1 CF.2.1 dX1_carryOut_55 rfl (lv_at hl 1 rfl) ?_
  refine x1_g_stocks CF hK hP8 dX1_carryOut_56 ?_
  refine lv_iload_n CF.1 CF.2.1 dX1_carryOut_59 rfl (lv_at hl 3 rfl) ?_
  refine lv_ldc (v := nI 999999) CF.1 CF.2.1 CF.2.2.2.1 (CF.2.2.2.2 _ (inr_8 _ (List.mem_of_getElem? (i := 5) rfl))) dX1_carryOut_60 ?_
  refine lv_aload_n CF.1 CF.2.1 dX1_carryOut_62 rfl (lv_at hl 1 rfl) ?_
  refine x1_g_stocks CF hK hP8 dX1_carryOut_63 ?_
  refine lv_iload_n CF.1 CF.2.1 dX1_carryOut_66 rfl (lv_at hl 3 rfl) ?_
  refine x1_ald2 CF hK hP8 (i := f) (by omega) (v := (nI (b 2 (f)))) (by rw [hσ8, up_k (by decide), hσ5, up_k (by decide)]; exact hR.a2 (by omega)) dX1_carryOut_67 ?_
  refine lv_iload CF.1 CF.2.1 dX1_carryOut_68 (lv_at hl 5 rfl) ?_
  refine o_iadd CF dX1_carryOut_70 ?_
  refine va_mmin CF.1 CF.2.1 (CF.2.2.1.trans hl.1.symm) CF.2.2.2.1 (CF.2.2.2.2 _ (inr_8 _ (List.mem_of_getElem? (i := 6) rfl))) (CF.2.2.2.2 _ (inr_8 _ (List.mem_of_getElem? (i := 7) rfl))) (CF.2.2.2.2 _ (inr_5 _ (List.mem_of_getElem? (i := 8) rfl))) (CF.2.2.2.2 _ (inr_8 _ (List.mem_of_getElem? (i := 8) rfl))) (Nat.le_of_ble_eq_true rfl) (Nat.le_of_ble_eq_true rfl) (Nat.zero_le _) (Nat.zero_le _) dX1_carryOut_71 ?_
  refine tpi (mnI (by omega) (by omega)) ?_
  refine x1_ast2 CF hK hP8 hD8 hS8 (i := f) (by omega) dX1_carryOut_74 (fun σ9 H9 locs hσ9 hP9 hD9 hS9 => ?_)
  have hR9 : Rc σ9 (upN (upN (upN (b) 6 (u * 5 + f) ((b 6 (u * 5 + f)) - a)) 6 (u * 5 + t) (min (999999) (b 6 (u * 5 + t) + (gv b f t a)))) 2 (f) (min (999999) (b 2 (f) + a))) := by rw [hσ9]; exact Rc_up hR8 2 (f) (min (999999) (b 2 (f) + a))
  have hM9 : Sm σ σ9 := by rw [hσ9]; exact Sm_up hM8 ⟨by decide, Or.inl (by decide)⟩
  refine lv_aload_n CF.1 CF.2.1 dX1_carryOut_75 rfl (lv_at hl 1 rfl) ?_
  refine x1_g_stocks CF hK hP9 dX1_carryOut_76 ?_
  refine lv_iload_n CF.1 CF.2.1 dX1_carryOut_79 rfl (lv_at hl 4 rfl) ?_
  refine lv_dup2_11 CF.1 CF.2.1 dX1_carryOut_80 rfl rfl ?_
  refine x1_ald2 CF hK hP9 (i := t) (by omega) (v := (nI (b 2 (t)))) (by rw [hσ9, up_i (by omega), hσ8, up_k (by decide), hσ5, up_k (by decide)]; exact hR.a2 (by omega)) dX1_carryOut_81 ?_
  refine lv_iload CF.1 CF.2.1 dX1_carryOut_82 (lv_at hl 0 rfl) ?_
  refine o_isub CF (by omega) dX1_carryOut_84 ?_
  refine x1_ast2 CF hK hP9 hD9 hS9 (i := t) (by omega) dX1_carryOut_85 (fun σ10 H10 locs hσ10 hP10 hD10 hS10 => ?_)
  have hR10 : Rc σ10 (upN (upN (upN (upN (b) 6 (u * 5 + f) ((b 6 (u * 5 + f)) - a)) 6 (u * 5 + t) (min (999999) (b 6 (u * 5 + t) + (gv b f t a)))) 2 (f) (min (999999) (b 2 (f) + a))) 2 (t) ((b 2 (t)) - (gv b f t a))) := by rw [hσ10]; exact Rc_up hR9 2 (t) ((b 2 (t)) - (gv b f t a))
  have hM10 : Sm σ σ10 := by rw [hσ10]; exact Sm_up hM9 ⟨by decide, Or.inl (by decide)⟩
  refine lv_aload_n CF.1 CF.2.1 dX1_carryOut_86 rfl (lv_at hl 1 rfl) ?_
  refine x1_g_given CF hK hP10 dX1_carryOut_87 ?_
  refine lv_iload_n CF.1 CF.2.1 dX1_carryOut_90 rfl (lv_at hl 4 rfl) ?_
  refine lv_dup2_11 CF.1 CF.2.1 dX1_carryOut_91 rfl rfl ?_
  refine x1_ald5 CF hK hP10 (i := t) (by omega) (v := (nI (b 5 (t)))) (by rw [hσ10, up_k (by decide), hσ9, up_k (by decide), hσ8, up_k (by decide), hσ5, up_k (by decide)]; exact hR.a5 (by omega)) dX1_carryOut_92 ?_
  refine lv_iload CF.1 CF.2.1 dX1_carryOut_93 (lv_at hl 0 rfl) ?_
  refine o_iadd CF dX1_carryOut_95 ?_
  refine x1_ast5 CF hK hP10 hD10 hS10 (i := t) (by omega) dX1_carryOut_96 (fun σ11 H11 locs hσ11 hP11 hD11 hS11 => ?_)
  have hR11 : Rc σ11 (upN (upN (upN (upN (upN (b) 6 (u * 5 + f) ((b 6 (u * 5 + f)) - a)) 6 (u * 5 + t) (min (999999) (b 6 (u * 5 + t) + (gv b f t a)))) 2 (f) (min (999999) (b 2 (f) + a))) 2 (t) ((b 2 (t)) - (gv b f t a))) 5 (t) (b 5 (t) + (gv b f t a))) := by rw [hσ11]; exact Rc_up hR10 5 (t) (b 5 (t) + (gv b f t a))
  have hM11 : Sm σ σ11 := by rw [hσ11]; exact Sm_up hM10 ⟨by decide, Or.inl (by decide)⟩
  refine lv_aload_n CF.1 CF.2.1 dX1_carryOut_97 rfl (lv_at hl 1 rfl) ?_
  refine x1_g_dust CF hK hP11 dX1_carryOut_98 ?_
  refine lv_iload_n CF.1 CF.2.1 dX1_carryOut_101 rfl (lv_at hl 4 rfl) ?_
  refine lv_dup2_11 CF.1 CF.2.1 dX1_carryOut_102 rfl rfl ?_
  refine x1_ald3 CF hK hP11 (i := t) (by omega) (v := (nI (b 3 (t)))) (by rw [hσ11, up_k (by decide), hσ10, up_k (by decide), hσ9, up_k (by decide), hσ8, up_k (by decide), hσ5, up_k (by decide)]; exact hR.a3 (by omega)) dX1_carryOut_103 ?_
  refine lv_aload_n CF.1 CF.2.1 dX1_carryOut_104 rfl (lv_at hl 1 rfl) ?_
  refine lv_iload CF.1 CF.2.1 dX1_carryOut_105 (lv_at hl 5 rfl) ?_
  refine o_i2l CF (by omega) dX1_carryOut_107 ?_
  refine lv_aload_n CF.1 CF.2.1 dX1_carryOut_108 rfl (lv_at hl 1 rfl) ?_
  refine lv_iload_n CF.1 CF.2.1 dX1_carryOut_109 rfl (lv_at hl 3 rfl) ?_
  refine lv_iload_n CF.1 CF.2.1 dX1_carryOut_110 rfl (lv_at hl 4 rfl) ?_
  refine c1_i CF hK hP11 (As := [.int (nI (f)), .int (nI (t))]) (rest := [.long (lN (a)), .ref (ad 0), .int (nI (b 3 (t))), .int (nI (t)), .ref (ad 3)]) (c1_rateR l (σ := σ11) (f := f) (t := t) hf ht) rfl lk_RX1_X1_rate rfl hl.1 ⟨Nat.le_of_ble_eq_true rfl, Nat.le_of_ble_eq_true rfl⟩ ⟨Nat.zero_le _, Nat.zero_le _⟩ (Nat.le_of_ble_eq_true rfl) rfl dX1_carryOut_111 (fun r_12 hr_13 => ?_)
  rw [if_neg hne] at hr_13
  subst hr_13
  refine tpi (show σ11 1 (f * 5 + t) = nI (b 1 (f * 5 + t)) from (by rw [hσ11, up_k (by decide), hσ10, up_k (by decide), hσ9, up_k (by decide), hσ8, up_k (by decide), hσ5, up_k (by decide)]; exact hR.a1 (by omega))) ?_
  refine c1_l CF hK hP11 (As := [.long (lN (a)), .int (nI (b 1 (f * 5 + t)))]) (rest := [.int (nI (b 3 (t))), .int (nI (t)), .ref (ad 3)]) (c1_partsR l (σ := σ11) (a := a) (x := b 1 (f * 5 + t)) (z := b 0 1) (by rw [hσ11, up_k (by decide), hσ10, up_k (by decide), hσ9, up_k (by decide), hσ8, up_k (by decide), hσ5, up_k (by decide)]; exact hR.2.1) i_sp (by omega)) rfl lk_RX1_X1_parts rfl hl.1 ⟨Nat.le_of_ble_eq_true rfl, Nat.le_of_ble_eq_true rfl⟩ ⟨Nat.zero_le _, Nat.zero_le _⟩ (Nat.le_of_ble_eq_true rfl) rfl dX1_carryOut_114 (fun r_14 hr_15 => ?_)
  subst hr_15
  refine tpl (y := lN (pr b f t a)) rfl ?_
  refine lv_ldc2 (v := lN 10000) CF.1 CF.2.1 CF.2.2.2.1 (CF.2.2.2.2 _ (inr_7 _ (List.mem_of_getElem? (i := 19) rfl))) dX1_carryOut_117 ?_
  refine lv_lrem CF.1 CF.2.1 dX1_carryOut_120 (lne (by omega) (by omega)) ?_
  refine tpl (pk_lRem (by omega) (by omega) (by omega)) ?_
  refine o_l2i CF dX1_carryOut_121 ?_
  refine o_iadd CF dX1_carryOut_122 ?_
  refine x1_ast3 CF hK hP11 hD11 hS11 (i := t) (by omega) dX1_carryOut_123 (fun σ16 H16 locs hσ16 hP16 hD16 hS16 => ?_)
  have hR16 : Rc σ16 (upN (upN (upN (upN (upN (upN (b) 6 (u * 5 + f) ((b 6 (u * 5 + f)) - a)) 6 (u * 5 + t) (min (999999) (b 6 (u * 5 + t) + (gv b f t a)))) 2 (f) (min (999999) (b 2 (f) + a))) 2 (t) ((b 2 (t)) - (gv b f t a))) 5 (t) (b 5 (t) + (gv b f t a))) 3 (t) (b 3 (t) + ((pr b f t a) % (10000)))) := by rw [hσ16]; exact Rc_up hR11 3 (t) (b 3 (t) + ((pr b f t a) % (10000)))
  have hM16 : Sm σ σ16 := by rw [hσ16]; exact Sm_up hM11 ⟨by decide, Or.inl (by decide)⟩
  refine lv_aload_n CF.1 CF.2.1 dX1_carryOut_124 rfl (lv_at hl 1 rfl) ?_
  refine x1_g_dust CF hK hP16 dX1_carryOut_125 ?_
  refine lv_iload_n CF.1 CF.2.1 dX1_carryOut_128 rfl (lv_at hl 4 rfl) ?_
  refine x1_ald3 CF hK hP16 (i := t) (by omega) (v := (nI (b 3 (t) + ((pr b f t a) % (10000))))) (by rw [hσ16, up_s]) dX1_carryOut_129 ?_
  refine lv_sipush (v := nI 10000) CF.1 CF.2.1 dX1_carryOut_130 (by decide) ?_
  refine z_icmp_lt CF (tgt := 167) (nIz (by omega)) (nIz (by omega)) dX1_carryOut_133 (by decide) (fun h_17 => ?_) (fun h_18 => ?_)
  · refine lv_aload_n CF.1 CF.2.1 dX1_carryOut_167 rfl (lv_at hl 1 rfl) ?_
    refine lv_dup CF.1 CF.2.1 dX1_carryOut_168 rfl ?_
    refine x1_g_changes CF hK hP16 (v := (nI (b 0 4))) (by rw [hσ16, up_k (by decide), hσ11, up_k (by decide), hσ10, up_k (by decide), hσ9, up_k (by decide), hσ8, up_k (by decide), hσ5, up_k (by decide)]; exact hR.2.2.2.1) dX1_carryOut_169 ?_
    refine lv_iconst (v := nI 1) CF.1 CF.2.1 dX1_carryOut_172 (by decide) ?_
    refine o_iadd CF dX1_carryOut_173 ?_
    refine x1_p_changes CF hK hP16 hD16 hS16 dX1_carryOut_174 (fun σ19 H19 locs hσ19 hP19 hD19 hS19 => ?_)
    have hR19 : Rc σ19 (upN (upN (upN (upN (upN (upN (upN (b) 6 (u * 5 + f) ((b 6 (u * 5 + f)) - a)) 6 (u * 5 + t) (min (999999) (b 6 (u * 5 + t) + (gv b f t a)))) 2 (f) (min (999999) (b 2 (f) + a))) 2 (t) ((b 2 (t)) - (gv b f t a))) 5 (t) (b 5 (t) + (gv b f t a))) 3 (t) (b 3 (t) + ((pr b f t a) % (10000)))) 0 (4) (b 0 4 + 1)) := by rw [hσ19]; exact Rc_up hR16 0 (4) (b 0 4 + 1)
    have hM19 : Sm σ σ19 := by rw [hσ19]; exact Sm_up hM16 ⟨by decide, Or.inr ⟨by decide, by decide, by decide⟩⟩
    refine lv_iload CF.1 CF.2.1 dX1_carryOut_177 (lv_at hl 0 rfl) ?_
    exact W.iret CF.1 CF.2.1 hr (fun t9 ht9 hW9 => ⟨⟨_, σ19, rfl, ⟨rfl, (by rw [dc_d5 hne, ← co_n (by omega) (by omega) (by simp [d5, upN])]; unfold d5; rw [Nat.min_comm _ 999999, Nat.min_comm _ 999999]; exact hR19), hM19⟩, by show va_P G vwCl (w1 ad cA σ19) t9.heap; rw [ht9]; exact hP19⟩, hS19.F ht9⟩) hS19.2.2 dX1_carryOut_179
  · refine lv_aload_n CF.1 CF.2.1 dX1_carryOut_136 rfl (lv_at hl 1 rfl) ?_
    refine x1_g_dust CF hK hP16 dX1_carryOut_137 ?_
    refine lv_iload_n CF.1 CF.2.1 dX1_carryOut_140 rfl (lv_at hl 4 rfl) ?_
    refine lv_dup2_11 CF.1 CF.2.1 dX1_carryOut_141 rfl rfl ?_
    refine x1_ald3 CF hK hP16 (i := t) (by omega) (v := (nI (b 3 (t) + ((pr b f t a) % (10000))))) (by rw [hσ16, up_s]) dX1_carryOut_142 ?_
    refine lv_sipush (v := nI 10000) CF.1 CF.2.1 dX1_carryOut_143 (by decide) ?_
    refine o_isub CF (by omega) dX1_carryOut_146 ?_
    refine x1_ast3 CF hK hP16 hD16 hS16 (i := t) (by omega) dX1_carryOut_147 (fun σ20 H20 locs hσ20 hP20 hD20 hS20 => ?_)
    have hR20 : Rc σ20 (upN (upN (upN (upN (upN (upN (upN (b) 6 (u * 5 + f) ((b 6 (u * 5 + f)) - a)) 6 (u * 5 + t) (min (999999) (b 6 (u * 5 + t) + (gv b f t a)))) 2 (f) (min (999999) (b 2 (f) + a))) 2 (t) ((b 2 (t)) - (gv b f t a))) 5 (t) (b 5 (t) + (gv b f t a))) 3 (t) (b 3 (t) + ((pr b f t a) % (10000)))) 3 (t) ((b 3 (t) + ((pr b f t a) % (10000))) - 10000)) := by rw [hσ20]; exact Rc_up hR16 3 (t) ((b 3 (t) + ((pr b f t a) % (10000))) - 10000)
    have hM20 : Sm σ σ20 := by rw [hσ20]; exact Sm_up hM16 ⟨by decide, Or.inl (by decide)⟩
    refine lv_aload_n CF.1 CF.2.1 dX1_carryOut_148 rfl (lv_at hl 1 rfl) ?_
    refine x1_g_stocks CF hK hP20 dX1_carryOut_149 ?_
    refine lv_iload_n CF.1 CF.2.1 dX1_carryOut_152 rfl (lv_at hl 4 rfl) ?_
    refine lv_ldc (v := nI 999999) CF.1 CF.2.1 CF.2.2.2.1 (CF.2.2.2.2 _ (inr_8 _ (List.mem_of_getElem? (i := 5) rfl))) dX1_carryOut_153 ?_
    refine lv_aload_n CF.1 CF.2.1 dX1_carryOut_155 rfl (lv_at hl 1 rfl) ?_
    refine x1_g_stocks CF hK hP20 dX1_carryOut_156 ?_
    refine lv_iload_n CF.1 CF.2.1 dX1_carryOut_159 rfl (lv_at hl 4 rfl) ?_
    refine x1_ald2 CF hK hP20 (i := t) (by omega) (v := (nI ((b 2 (t)) - (gv b f t a)))) (by rw [hσ20, up_k (by decide), hσ16, up_k (by decide), hσ11, up_k (by decide), hσ10, up_s]) dX1_carryOut_160 ?_
    refine lv_iconst (v := nI 1) CF.1 CF.2.1 dX1_carryOut_161 (by decide) ?_
    refine o_iadd CF dX1_carryOut_162 ?_
    refine va_mmin CF.1 CF.2.1 (CF.2.2.1.trans hl.1.symm) CF.2.2.2.1 (CF.2.2.2.2 _ (inr_8 _ (List.mem_of_getElem? (i := 6) rfl))) (CF.2.2.2.2 _ (inr_8 _ (List.mem_of_getElem? (i := 7) rfl))) (CF.2.2.2.2 _ (inr_5 _ (List.mem_of_getElem? (i := 8) rfl))) (CF.2.2.2.2 _ (inr_8 _ (List.mem_of_getElem? (i := 8) rfl))) (Nat.le_of_ble_eq_true rfl) (Nat.le_of_ble_eq_true rfl) (Nat.zero_le _) (Nat.zero_le _) dX1_carryOut_163 ?_
    refine tpi (mnI (by omega) (by omega)) ?_
    refine x1_ast2 CF hK hP20 hD20 hS20 (i := t) (by omega) dX1_carryOut_166 (fun σ21 H21 locs hσ21 hP21 hD21 hS21 => ?_)
    have hR21 : Rc σ21 (upN (upN (upN (upN (upN (upN (upN (upN (b) 6 (u * 5 + f) ((b 6 (u * 5 + f)) - a)) 6 (u * 5 + t) (min (999999) (b 6 (u * 5 + t) + (gv b f t a)))) 2 (f) (min (999999) (b 2 (f) + a))) 2 (t) ((b 2 (t)) - (gv b f t a))) 5 (t) (b 5 (t) + (gv b f t a))) 3 (t) (b 3 (t) + ((pr b f t a) % (10000)))) 3 (t) ((b 3 (t) + ((pr b f t a) % (10000))) - 10000)) 2 (t) (min (999999) ((b 2 (t)) - (gv b f t a) + 1))) := by rw [hσ21]; exact Rc_up hR20 2 (t) (min (999999) ((b 2 (t)) - (gv b f t a) + 1))
    have hM21 : Sm σ σ21 := by rw [hσ21]; exact Sm_up hM20 ⟨by decide, Or.inl (by decide)⟩
    refine lv_aload_n CF.1 CF.2.1 dX1_carryOut_167 rfl (lv_at hl 1 rfl) ?_
    refine lv_dup CF.1 CF.2.1 dX1_carryOut_168 rfl ?_
    refine x1_g_changes CF hK hP21 (v := (nI (b 0 4))) (by rw [hσ21, up_k (by decide), hσ20, up_k (by decide), hσ16, up_k (by decide), hσ11, up_k (by decide), hσ10, up_k (by decide), hσ9, up_k (by decide), hσ8, up_k (by decide), hσ5, up_k (by decide)]; exact hR.2.2.2.1) dX1_carryOut_169 ?_
    refine lv_iconst (v := nI 1) CF.1 CF.2.1 dX1_carryOut_172 (by decide) ?_
    refine o_iadd CF dX1_carryOut_173 ?_
    refine x1_p_changes CF hK hP21 hD21 hS21 dX1_carryOut_174 (fun σ22 H22 locs hσ22 hP22 hD22 hS22 => ?_)
    have hR22 : Rc σ22 (upN (upN (upN (upN (upN (upN (upN (upN (upN (b) 6 (u * 5 + f) ((b 6 (u * 5 + f)) - a)) 6 (u * 5 + t) (min (999999) (b 6 (u * 5 + t) + (gv b f t a)))) 2 (f) (min (999999) (b 2 (f) + a))) 2 (t) ((b 2 (t)) - (gv b f t a))) 5 (t) (b 5 (t) + (gv b f t a))) 3 (t) (b 3 (t) + ((pr b f t a) % (10000)))) 3 (t) ((b 3 (t) + ((pr b f t a) % (10000))) - 10000)) 2 (t) (min (999999) ((b 2 (t)) - (gv b f t a) + 1))) 0 (4) (b 0 4 + 1)) := by rw [hσ22]; exact Rc_up hR21 0 (4) (b 0 4 + 1)
    have hM22 : Sm σ σ22 := by rw [hσ22]; exact Sm_up hM21 ⟨by decide, Or.inr ⟨by decide, by decide, by decide⟩⟩
    refine lv_iload CF.1 CF.2.1 dX1_carryOut_177 (lv_at hl 0 rfl) ?_
    exact W.iret CF.1 CF.2.1 hr (fun t9 ht9 hW9 => ⟨⟨_, σ22, rfl, ⟨rfl, (by rw [dc_d5 hne, ← co_y (by omega) (by omega)]; unfold d5; rw [Nat.min_comm _ 999999, Nat.min_comm _ 999999]; exact hR22), hM22⟩, by show va_P G vwCl (w1 ad cA σ22) t9.heap; rw [ht9]; exact hP22⟩, hS22.F ht9⟩) hS22.2.2 dX1_carryOut_179
section CPY
variable {p : Program} {l : Launch} {e : Env} {R : Room} {s : State} {m : MethodId} {args : Array Value} {below : List Frame} {meth : Method} {c : Code} {H : Heap} {locs : List Loc} {cells slots : Nat} {Q : State → Prop}
variable {cc : ByteArray} {pc nL : Nat} {ls : Array Slot} {rest : List Value} {G : va_G} {cA : ClassId} {ad : Nat → Nat} {σ : RS} {A : Nat → Prop} {H0 : Heap}
theorem cpy7 (CF : CallFix p m c cc nL s args AW RX1) (hK : KK G cA s) (hP : va_P G vwCl (w1 ad cA σ) H) (hD : va_D A (w1 ad cA σ)) (hS : va_S A H0 H locs) (hsz : ls.size = nL) {x y z : Int32} {sp dp n : Nat} (hx : x = nI sp) (hy : y = nI dp) (hz : z = nI n) (h4 : sp + n ≤ 50) (h5 : dp + n ≤ 50) (hfr : 1 ≤ R.frames) (hlo : 100 ≤ R.locals) (hdg : decode cc pc = .ok (.invokestatic 73, 3))
    (kk : ∀ (H1 : Heap) (locs1 : List Loc), va_P G vwCl (w1 ad cA (fun a => if a = 7 then va_cpy (σ 7) (σ 7) sp dp n else σ a)) H1 → va_D A (w1 ad cA (fun a => if a = 7 then va_cpy (σ 7) (σ 7) sp dp n else σ a)) → va_S A H0 H1 locs1 → W p l e R s m args below meth c H1 locs1 cells slots Q (F0 m (pc + 3) ls [])) : W p l e R s m args below meth c H locs cells slots Q (F0 m pc ls [.int z, .int y, .ref (ad 7), .int x, .ref (ad 7)]) := by
  subst hx; subst hy; subst hz
  have c1 : (nI sp).toNatClampNeg = sp := nI_clamp (by omega)
  have c2 : (nI dp).toNatClampNeg = dp := nI_clamp (by omega)
  have c3 : (nI n).toNatClampNeg = n := nI_clamp (by omega)
  refine va_copyi (D := G) CF.1 CF.2.1 (CF.2.2.1.trans hsz.symm) CF.2.2.2.1 (CF.2.2.2.2 _ (inr_8 _ (List.mem_of_getElem? (i := 14) rfl))) (CF.2.2.2.2 _ (inr_8 _ (List.mem_of_getElem? (i := 15) rfl))) (CF.2.2.2.2 _ (inr_8 _ (List.mem_of_getElem? (i := 16) rfl))) (CF.2.2.2.2 _ (inr_8 _ (List.mem_of_getElem? (i := 17) rfl))) hK hP hD hS 7 7 0 0 rfl rfl rfl rfl rfl (nI_pos (by omega)) (nI_pos (by omega)) (nI_pos (by omega)) (by rw [c1, c3]; exact h4) (by rw [c2, c3]; exact h5) (fun _ _ => rfl) hfr (Nat.le_trans (by decide +kernel) hlo) hdg (fun H1 locs1 hP hD hS => ?_)
  rw [c1, c2, c3] at hP hD
  exact kk H1 locs1 hP hD hS
end CPY
set_option maxHeartbeats 1000000 in
set_option maxRecDepth 100000 in
theorem c1_takeOut (l : Launch) {G : va_G} {cA : ClassId} {ad : Nat → Nat} {σ : RS} (hj : inj8 ad) {b : BS} (hw : σ 0 3 = nI (b 0 3)) (hw10 : b 0 3 ≤ 10) {q : Nat} (hq : q < b 0 3) : Met l yX1_takeOut (ws_ yX1_takeOut cX1_takeOut 2 none) (rmk 3 0 0) (pc1 G cA ad σ [.ref (ad 0), .int (nI (q))]) (va_Qv (fun σ' : RS => ∃ s1, s1 = up σ 0 3 (nI (b 0 3 - 1)) ∧ σ' = tkR s1 q (b 0 3 - 1)) (fun σ' t => va_P G vwCl (w1 ad cA σ') t.heap) (own8 ad)) 0 0 (own8 ad) := by
  refine Met.ofW (cc := cX1_takeOut) (maxL := 2) (ret := none) (by decide) rfl ?_
  intro p e s m args below meth c s₁ B hml hv
  obtain ⟨rfl, hP, hK⟩ := hv
  have CF : CallFix p m c cX1_takeOut 2 s _ AW RX1 := ⟨B.exec, B.bytes, hml, findClass_of_methodNamed B.named, fun w h => atoms_spec (ws := ws_ yX1_takeOut cX1_takeOut 2 none) B.pre w (List.mem_cons_of_mem _ h)⟩
  have hr := B.returns
  have hlocks := B.notSynchronized
  have hl := lv_entry ([.ref (ad 0), .int (nI (q))]) (n := 2) (Nat.le_of_ble_eq_true rfl)
  rw [lg_entry_eq]
  generalize (lg_sl ([.ref (ad 0), .int (nI (q))]) ++ List.replicate (2 - (lg_sl ([.ref (ad 0), .int (nI (q))])).length) Slot.unset).toArray = ls at hl ⊢
  have hl : lv_has ls 2 [(0, .ref (ad 0)), (1, .int (nI (q)))] := hl
  have hD : va_D (own8 ad) (w1 ad cA σ) := w1_D hj (fun _ h => h)
  have hS : va_S (own8 ad) s.heap s.heap [] := va_S.rf
  refine lv_aload_n CF.1 CF.2.1 dX1_takeOut_0 rfl (lv_at hl 0 rfl) ?_
  refine lv_dup CF.1 CF.2.1 dX1_takeOut_1 rfl ?_
  refine x1_g_waiting CF hK hP (v := (nI (b 0 3))) hw dX1_takeOut_2 ?_
  refine lv_iconst (v := nI 1) CF.1 CF.2.1 dX1_takeOut_5 (by decide) ?_
  refine o_isub CF (by omega) dX1_takeOut_6 ?_
  refine x1_p_waiting CF hK hP hD hS dX1_takeOut_7 (fun σ1 H1 locs hσ1 hP1 hD1 hS1 => ?_)
  refine lv_aload_n CF.1 CF.2.1 dX1_takeOut_10 rfl (lv_at hl 0 rfl) ?_
  refine x1_g_orders CF hK hP1 dX1_takeOut_11 ?_
  refine lv_iconst (v := nI 5) CF.1 CF.2.1 dX1_takeOut_14 (by decide) ?_
  refine lv_iload_n CF.1 CF.2.1 dX1_takeOut_15 rfl (lv_at hl 1 rfl) ?_
  refine lv_iconst (v := nI 1) CF.1 CF.2.1 dX1_takeOut_16 (by decide) ?_
  refine o_iadd CF dX1_takeOut_17 ?_
  refine o_imul CF dX1_takeOut_18 ?_
  refine tpi (congrArg nI (Nat.mul_comm _ _)) ?_
  refine lv_aload_n CF.1 CF.2.1 dX1_takeOut_19 rfl (lv_at hl 0 rfl) ?_
  refine x1_g_orders CF hK hP1 dX1_takeOut_20 ?_
  refine lv_iconst (v := nI 5) CF.1 CF.2.1 dX1_takeOut_23 (by decide) ?_
  refine lv_iload_n CF.1 CF.2.1 dX1_takeOut_24 rfl (lv_at hl 1 rfl) ?_
  refine o_imul CF dX1_takeOut_25 ?_
  refine tpi (congrArg nI (Nat.mul_comm _ _)) ?_
  refine lv_iconst (v := nI 5) CF.1 CF.2.1 dX1_takeOut_26 (by decide) ?_
  refine lv_aload_n CF.1 CF.2.1 dX1_takeOut_27 rfl (lv_at hl 0 rfl) ?_
  refine x1_g_waiting CF hK hP1 (v := (nI (b 0 3 - 1))) (by rw [hσ1, up_s]) dX1_takeOut_28 ?_
  refine lv_iload_n CF.1 CF.2.1 dX1_takeOut_31 rfl (lv_at hl 1 rfl) ?_
  refine o_isub CF (by omega) dX1_takeOut_32 ?_
  refine o_imul CF dX1_takeOut_33 ?_
  refine tpi (congrArg nI (Nat.mul_comm _ _)) ?_
  refine cpy7 CF hK hP1 hD1 hS1 hl.1 (sp := 5 * (q + 1)) (dp := 5 * q) (n := 5 * (b 0 3 - 1 - q)) (show nI ((q + 1) * 5) = nI (5 * (q + 1)) from congrArg nI (by omega)) (show nI (q * 5) = nI (5 * q) from congrArg nI (by omega)) (show nI (((b 0 3 - 1) - q) * 5) = nI (5 * (b 0 3 - 1 - q)) from congrArg nI (by omega)) (by omega) (by omega) (Nat.le_of_ble_eq_true rfl) (Nat.le_of_ble_eq_true rfl) dX1_takeOut_34 (fun H9 locs hP9 hD9 hS9 => ?_)
  exact W.vret CF.1 CF.2.1 hr (fun t9 ht9 hW9 => ⟨⟨(tkR σ1 q (b 0 3 - 1)), rfl, ⟨_, hσ1, rfl⟩, by show va_P G vwCl (w1 ad cA (tkR σ1 q (b 0 3 - 1))) t9.heap; rw [ht9]; exact hP9⟩, hS9.F ht9⟩) hS9.2.2 dX1_takeOut_37
