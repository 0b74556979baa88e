/-- what comes out of rounding: no NaN, and small enough -/
def okD : FP.Core.Datum → Prop | .nan => False | .inf _ => True | .fin _ c q => c < 9007199254740992 ∧ q ≤ 971
theorem okD_settle (s : Bool) (n : Nat) (q : Int) : okD (FP.Core.settle FP.Core.b64 s n q) := by
  have hp : 2 ^ FP.Core.b64.p = 9007199254740992 := by decide
  have hm : FP.Core.b64.qmax = 971 := by decide
  have ht : FP.Core.b64.tails = 4503599627370496 := by decide
  unfold FP.Core.settle FP.Core.bound
  rw [hp, hm, ht]
  split
  · next h1 =>
    split
    · next h => exact ⟨h1, h⟩
    · exact trivial
  · split
    · next h => exact ⟨by decide, h⟩
    · exact trivial
theorem okD_ratio (s : Bool) (n d : Nat) (e : Int) : okD (FP.Core.roundRatio FP.Core.b64 s n d e) := by
  unfold FP.Core.roundRatio
  split
  · exact ⟨by decide, by decide⟩
  · exact okD_settle _ _ _
theorem okD_enc {D : FP.Core.Datum} (h : okD D) : FP.Core.encode FP.Core.b64 D % 9223372036854775808 ≤ 9218868437227405312 ∧ FP.Core.encode FP.Core.b64 D < 18446744073709551616 := by
  have he : FP.Core.b64.exps = 2048 := by decide
  have ht : FP.Core.b64.tails = 4503599627370496 := by decide
  have hm : FP.Core.b64.qmin = -1074 := by decide
  cases D with
  | nan => exact h.elim
  | inf s => cases s <;> decide
  | fin s c q =>
    obtain ⟨h1, h2⟩ := h
    have hs : s.toNat ≤ 1 := by cases s <;> decide
    unfold FP.Core.encode FP.Core.assemble
    dsimp only
    rw [he, ht, hm]
    generalize s.toNat = b at hs ⊢
    split
    · omega
    · have : (q - -1074).toNat ≤ 2045 := by omega
      omega
theorem okD_dec {n : Nat} (h : n % 9223372036854775808 ≤ 9218868437227405312) : FP.Core.decode FP.Core.b64 n ≠ .nan := by
  have he : FP.Core.b64.exps = 2048 := by decide
  have ht : FP.Core.b64.tails = 4503599627370496 := by decide
  unfold FP.Core.decode FP.Core.fieldE FP.Core.fieldT
  rw [he, ht]
  split
  · next h1 =>
    rw [if_pos (by omega)]
    exact fun z => by cases z
  · split <;> exact fun z => by cases z
theorem okD_bits {D : FP.Core.Datum} (h : okD D) : vf_n64 (UInt64.ofNat (FP.Core.encode FP.Core.b64 D)) := by
  obtain ⟨h1, h2⟩ := okD_enc h
  unfold vf_n64
  rw [UInt64.le_iff_toNat_le, UInt64.toNat_and, UInt64.toNat_ofNat', Nat.mod_eq_of_lt h2]
  show FP.Core.encode FP.Core.b64 D &&& (2 ^ 63 - 1) ≤ 9218868437227405312
  rw [Nat.and_two_pow_sub_one_eq_mod]
  exact h1
def finD : FP.Core.Datum → Bool | .fin _ d _ => d != 0 | _ => false
theorem okD_quot {X Y : FP.Core.Datum} (hX : X ≠ .nan) (hY : finD Y = true) : okD (FP.Core.quotient FP.Core.b64 X Y) := by
  cases Y with
  | nan => cases hY
  | inf s => cases hY
  | fin t d r =>
    have hd : ¬ d = 0 := by simpa [finD] using hY
    cases X with
    | nan => exact absurd rfl hX
    | inf s => exact trivial
    | fin s c q =>
      show okD (if d = 0 then _ else _)
      rw [if_neg hd]
      exact okD_ratio _ _ _ _
/-- a sum over one to six customers is no NaN -/
theorem mean_n64 {x : Int32} {c : Nat} (h1 : 1 ≤ c) (h6 : c ≤ 6) : vf_n64 (FP.ddiv (FP.i2d x) (FP.i2d (nI c))) := by
  have hY : finD (FP.Core.decode FP.Core.b64 (FP.Core.i2d (nI c)).toNat) = true := by
    rcases (show c = 1 ∨ c = 2 ∨ c = 3 ∨ c = 4 ∨ c = 5 ∨ c = 6 by omega) with rfl | rfl | rfl | rfl | rfl | rfl <;> decide +kernel
  have hX : FP.Core.decode FP.Core.b64 (FP.Core.i2d x).toNat ≠ .nan := by
    refine okD_dec ?_
    have h := okD_enc (okD_ratio (decide (x.toInt < 0)) x.toInt.natAbs 1 0)
    show (UInt64.ofNat (FP.Core.encode FP.Core.b64 (FP.Core.roundRatio FP.Core.b64 (decide (x.toInt < 0)) x.toInt.natAbs 1 0))).toNat % _ ≤ _
    rw [UInt64.toNat_ofNat', Nat.mod_eq_of_lt h.2]
    exact h.1
  exact okD_bits (okD_quot hX hY)
def mnD (b : BS) (t : Nat) : UInt64 := if b 0 2 = 0 then FP.dconst0 else FP.ddiv (FP.i2d (nI (alls b t (b 0 2)))) (FP.i2d (nI (b 0 2)))
def rqd (post : UInt64 → Prop) : Array Value → State → Outcome → State → Prop := fun _ st o t => ∃ r, o = .returned (some (.double r)) ∧ post r ∧ t.heap = st.heap
theorem due_okR {b : BS} {p x : Nat} (hne : b 7 (p * 5 + 1) ≠ b 7 (p * 5 + 2)) (ha : 1 ≤ b 7 (p * 5 + 3)) (hx : 1 ≤ x) : (canN b (b 7 (p * 5)) (b 7 (p * 5 + 1)) (b 7 (p * 5 + 2)) (b 7 (p * 5 + 3)) x ∧ b 7 (p * 5 + 4) ≤ gq b (b 7 (p * 5 + 3)) x) ↔ okR b p x := by
  have e : gq b (b 7 (p * 5 + 3)) x = gx b p x := rfl
  unfold canN okR
  rw [e]
  constructor
  · rintro ⟨⟨h1, h2, h3, h4, h5, h6, h7⟩, h8⟩
    exact ⟨h4, h5, h6, h7, h8⟩
  · rintro ⟨h4, h5, h6, h7, h8⟩
    exact ⟨⟨hne, by omega, ha, h4, h5, h6, h7⟩, h8⟩
def f5 (u f t a k : Nat) : Nat → Int32 := upd (upd (upd (upd (upd (fun _ => 0) 0 (nI u)) 1 (nI f)) 2 (nI t)) 3 (nI a)) 4 (nI k)
theorem f5_R {σ : RS} {w u f t a k : Nat} : (fun c => if c = 7 then va_cpy (f5 u f t a k) (σ 7) 0 (w * 5) 5 else σ c) = up (up (up (up (up σ 7 (w * 5 + 0) (nI u)) 7 (w * 5 + 1) (nI f)) 7 (w * 5 + 2) (nI t)) 7 (w * 5 + 3) (nI a)) 7 (w * 5 + 4) (nI k) := by
  funext c j
  by_cases hc : c = 7
  · subst hc
    show va_cpy (f5 u f t a k) (σ 7) 0 (w * 5) 5 j = _
    unfold va_cpy
    by_cases h : w * 5 ≤ j ∧ j < w * 5 + 5
    · rw [if_pos h]
      rcases (show j = w * 5 + 0 ∨ j = w * 5 + 1 ∨ j = w * 5 + 2 ∨ j = w * 5 + 3 ∨ j = w * 5 + 4 by omega) with rfl | rfl | rfl | rfl | rfl
      · rw [up_i (by omega), up_i (by omega), up_i (by omega), up_i (by omega), up_s, show 0 + (w * 5 + 0 - w * 5) = 0 by omega]; rfl
      · rw [up_i (by omega), up_i (by omega), up_i (by omega), up_s, show 0 + (w * 5 + 1 - w * 5) = 1 by omega]; rfl
      · rw [up_i (by omega), up_i (by omega), up_s, show 0 + (w * 5 + 2 - w * 5) = 2 by omega]; rfl
      · rw [up_i (by omega), up_s, show 0 + (w * 5 + 3 - w * 5) = 3 by omega]; rfl
      · rw [up_s, show 0 + (w * 5 + 4 - w * 5) = 4 by omega]; rfl
    · rw [if_neg h, up_i (by omega), up_i (by omega), up_i (by omega), up_i (by omega), up_i (by omega)]
  · rw [if_neg hc, up_k hc, up_k hc, up_k hc, up_k hc, up_k hc]
theorem up_7 {σ : RS} {i j : Nat} {x : Int32} : up σ 7 i x 0 j = σ 0 j := up_k (by decide)

set_option maxHeartbeats 1000000 in
set_option maxRecDepth 100000 in
theorem c0_mean (l : Launch) {G : va_G} {cA : ClassId} {ad : Nat → Nat} {σ : RS} {b : BS} (hI : InvC b) (hR : Rc σ b) (hO : Ro σ b) (hOi : InvO b) {t : Nat} (ht : t < 5) : Met l yX0_mean (ws_ yX0_mean cX0_mean 2 (some .double)) (rmk 8 0 0) (pc0 G cA ad σ [.ref (ad 0), .int (nI t)]) (rqd (fun r => r = mnD b t)) 0 0 (fun _ => False) := by
  refine Met.ofW (cc := cX0_mean) (maxL := 2) (ret := (some .double)) (by decide) rfl ?_
  intro p e s m args below meth c s₁ B hml hv
  obtain ⟨rfl, hP, hK⟩ := hv
  have CF : CallFix p m c cX0_mean 2 s _ AW RX0 := ⟨B.exec, B.bytes, hml, findClass_of_methodNamed B.named, fun w h => atoms_spec (ws := ws_ yX0_mean cX0_mean 2 (some .double)) B.pre w (List.mem_cons_of_mem _ h)⟩
  have hr := B.returns
  have hlocks := B.notSynchronized
  have hl := lv_entry ([.ref (ad 0), .int (nI (t))]) (n := 2) (Nat.le_of_ble_eq_true rfl)
  rw [lg_entry_eq]
  generalize (lg_sl ([.ref (ad 0), .int (nI (t))]) ++ List.replicate (2 - (lg_sl ([.ref (ad 0), .int (nI (t))])).length) Slot.unset).toArray = ls at hl ⊢
  have hl : lv_has ls 2 [(0, .ref (ad 0)), (1, .int (nI (t)))] := hl
  obtain ⟨i_sp, i_cu, i_ra, i_di, i_mo, i_pu⟩ := id hI
  have hw10 := hOi.1
  refine lv_iload_n CF.1 CF.2.1 dX0_mean_0 rfl (lv_at hl 1 rfl) ?_
  refine cS_i CF (As := [.int (nI (t))]) (rest := []) (c0_isMoney l (nI (t))) lk_RX0_X0_isMoney rfl hl.1 ⟨Nat.le_of_ble_eq_true rfl, Nat.le_of_ble_eq_true rfl⟩ ⟨Nat.zero_le _, Nat.zero_le _⟩ (Nat.le_of_ble_eq_true rfl) rfl dX0_mean_1 (fun r_1 hr_2 => ?_)
  have hxh_3 := nIz (n := t) (by omega)
  rcases hr_2 with ⟨rfl, -, -⟩ | ⟨rfl, h9⟩
  rotate_left
  · exact absurd h9 (by rw [hxh_3]; omega)
  rw [show (1 : Int32) = nI 1 by rfl]
  refine z_if_ne CF (tgt := 17) (nIz (by omega)) dX0_mean_4 (by decide) (fun _ => ?_) (fun h => absurd h (by decide))
  refine lv_aload_n CF.1 CF.2.1 dX0_mean_17 rfl (lv_at hl 0 rfl) ?_
  refine x0_g_customers CF hK hP (v := (nI (b 0 2))) hR.2.2.1 dX0_mean_18 ?_
  refine z_if_gt CF (tgt := 26) (nIz (by omega)) dX0_mean_21 (by decide) (fun h_6 => ?_) (fun h_7 => ?_)
  · refine lv_aload_n CF.1 CF.2.1 dX0_mean_26 rfl (lv_at hl 0 rfl) ?_
    refine lv_iload_n CF.1 CF.2.1 dX0_mean_27 rfl (lv_at hl 1 rfl) ?_
    refine c0_i CF hK hP (As := [.int (nI (t))]) (rest := []) (c0_inAllPurses l hI hR (t := t) (by omega)) rfl lk_RX0_X0_inAllPurses rfl hl.1 ⟨Nat.le_of_ble_eq_true rfl, Nat.le_of_ble_eq_true rfl⟩ ⟨Nat.zero_le _, Nat.zero_le _⟩ (Nat.le_of_ble_eq_true rfl) rfl dX0_mean_28 (fun r_8 hr_9 => ?_)
    subst hr_9
    refine lv_i2d CF.1 CF.2.1 dX0_mean_31 ?_
    refine lv_aload_n CF.1 CF.2.1 dX0_mean_32 rfl (lv_at hl 0 rfl) ?_
    refine x0_g_customers CF hK hP (v := (nI (b 0 2))) hR.2.2.1 dX0_mean_33 ?_
    refine lv_i2d CF.1 CF.2.1 dX0_mean_36 ?_
    refine lv_ddiv CF.1 CF.2.1 dX0_mean_37 (mean_n64 (by omega) (by omega)) ?_
    exact W.dret CF.1 CF.2.1 hr (fun t9 ht9 hW9 => ⟨_, rfl, by unfold mnD; rw [if_neg (by omega)], ht9⟩) (fun q hq => absurd hq List.not_mem_nil) dX0_mean_38
  · refine lv_dconst0 CF.1 CF.2.1 dX0_mean_24 ?_
    exact W.dret CF.1 CF.2.1 hr (fun t9 ht9 hW9 => ⟨_, rfl, by unfold mnD; rw [if_pos (by omega)], ht9⟩) (fun q hq => absurd hq List.not_mem_nil) dX0_mean_25
set_option maxHeartbeats 1000000 in
set_option maxRecDepth 100000 in
theorem b0_mean (l : Launch) (hfl : l.stackTraces = false) {G : va_G} {cA : ClassId} {ad : Nat → Nat} {σ : RS} (hj : inj8 ad) {b : BS} (hI : InvC b) (hR : Rc σ b) (hO : Ro σ b) (hOi : InvO b) (x : Int32) (hbad : ¬ (0 ≤ x.toInt ∧ x.toInt < 5)) : vx_Met l yX0_mean (ws_ yX0_mean cX0_mean 2 (some .double)) (rmk 8 1 6) (pcx G cA ad σ [.ref (ad 0), .int (x)]) (va_Qi (fun (_ : Int32) (_ : RS) => False) (fun σ' t => va_P G vwCl (w0 ad cA σ') t.heap) (own8 ad)) (xcS G cA ad σ (fun E => (E = "java/lang/IndexOutOfBoundsException" ∧ (True)))) 1 6 (own8 ad) := by
  refine vx_ofW (cc := cX0_mean) (maxL := 2) (ret := (some .double)) (by decide) rfl ?_
  intro p e s m args below meth c s₁ B hml htab hv
  obtain ⟨rfl, hP, hK, hE⟩ := hv
  have CF : CallFix p m c cX0_mean 2 s _ AW RX0 := ⟨B.exec, B.bytes, hml, findClass_of_methodNamed B.named, fun w h => atoms_spec (ws := ws_ yX0_mean cX0_mean 2 (some .double)) B.pre w (List.mem_cons_of_mem _ h)⟩
  have hr := B.returns
  have hlocks := B.notSynchronized
  have hl := lv_entry ([.ref (ad 0), .int (x)]) (n := 2) (Nat.le_of_ble_eq_true rfl)
  rw [lg_entry_eq]
  generalize (lg_sl ([.ref (ad 0), .int (x)]) ++ List.replicate (2 - (lg_sl ([.ref (ad 0), .int (x)])).length) Slot.unset).toArray = ls at hl ⊢
  have hl : lv_has ls 2 [(0, .ref (ad 0)), (1, .int (x))] := hl
  obtain ⟨i_sp, i_cu, i_ra, i_di, i_mo, i_pu⟩ := id hI
  have hw10 := hOi.1
  refine lv_iload_n CF.1 CF.2.1 dX0_mean_0 rfl (lv_at hl 1 rfl) ?_
  refine cS_i CF (As := [.int (x)]) (rest := []) (c0_isMoney l ((x))) lk_RX0_X0_isMoney rfl hl.1 ⟨Nat.le_of_ble_eq_true rfl, Nat.le_of_ble_eq_true rfl⟩ ⟨Nat.zero_le _, Nat.zero_le _⟩ (Nat.le_of_ble_eq_true rfl) rfl dX0_mean_1 (fun r_1 hr_2 => ?_)
  rcases hr_2 with ⟨rfl, h_5, h_6⟩ | ⟨rfl, h_7⟩
  · rw [show (1 : Int32) = nI 1 by rfl]
    obtain ⟨j_3, h_4, rfl⟩ := nI_ex (x := x) (n := 5) (by omega) (by omega)
    have hzj_3 := nIz (n := j_3) (by omega)
    refine z_if_ne CF (tgt := 17) (nIz (by omega)) dX0_mean_4 (by decide) (fun _ => ?_) (fun h => absurd h (by decide))
    exact (show False by omega).elim
  · rw [show (0 : Int32) = nI 0 by rfl]
    refine z_if_ne CF (tgt := 17) (nIz (by omega)) dX0_mean_4 (by decide) (fun h => absurd h (by decide)) (fun _ => ?_)
    exact thr CF hfl hE hP hj (va_S.rf) htab hlocks hl.1 (cls := "java/lang/IndexOutOfBoundsException") (text := "no such money") (by decide +kernel) (List.mem_of_getElem? (i := 0) rfl) (List.mem_of_getElem? (i := 0) rfl) (inr_2 _ (List.mem_of_getElem? (i := 19) rfl)) (inr_2 _ (List.mem_of_getElem? (i := 20) rfl)) ha_IO hb_IO hg_IO dX0_mean_7 dX0_mean_10 dX0_mean_11 dX0_mean_13 dX0_mean_16 (Nat.le_of_ble_eq_true rfl) (Nat.le_of_ble_eq_true rfl) (Nat.le_of_ble_eq_true rfl) (Nat.le_of_ble_eq_true rfl) (⟨rfl, trivial⟩)
set_option maxHeartbeats 1000000 in
set_option maxRecDepth 100000 in
theorem c1_mean (l : Launch) {G : va_G} {cA : ClassId} {ad : Nat → Nat} {σ : RS} (hj : inj8 ad) {b : BS} (hI : InvC b) (hR : Rc σ b) (hO : Ro σ b) (hOi : InvO b) {t : Nat} (ht : t < 5) : Met l yX1_mean (ws_ yX1_mean cX1_mean 2 (some .double)) (rmk 8 0 0) (pc1 G cA ad σ [.ref (ad 0), .int (nI (t))]) (va_Qd (fun (r : UInt64) (σ' : RS) => r = mnD b t ∧ Rc σ' (b) ∧ Ro σ' (b) ∧ σ' 0 6 = nI 0) (fun σ' t => va_P G vwCl (w1 ad cA σ') t.heap) (own8 ad)) 0 0 (own8 ad) := by
  refine Met.ofW (cc := cX1_mean) (maxL := 2) (ret := (some .double)) (by decide) rfl ?_
  intro p e s m args below meth c s₁ B hml hv
  obtain ⟨rfl, hP, hK⟩ := hv
  have CF : CallFix p m c cX1_mean 2 s _ AW RX1 := ⟨B.exec, B.bytes, hml, findClass_of_methodNamed B.named, fun w h => atoms_spec (ws := ws_ yX1_mean cX1_mean 2 (some .double)) B.pre w (List.mem_cons_of_mem _ h)⟩
  have hr := B.returns
  have hlocks := B.notSynchronized
  have hl := lv_entry ([.ref (ad 0), .int (nI (t))]) (n := 2) (Nat.le_of_ble_eq_true rfl)
  rw [lg_entry_eq]
  generalize (lg_sl ([.ref (ad 0), .int (nI (t))]) ++ List.replicate (2 - (lg_sl ([.ref (ad 0), .int (nI (t))])).length) Slot.unset).toArray = ls at hl ⊢
  have hl : lv_has ls 2 [(0, .ref (ad 0)), (1, .int (nI (t)))] := hl
  have hD : va_D (own8 ad) (w1 ad cA σ) := w1_D hj (fun _ h => h)
  have hS : va_S (own8 ad) s.heap s.heap [] := va_S.rf
  obtain ⟨i_sp, i_cu, i_ra, i_di, i_mo, i_pu⟩ := id hI
  have hw10 := hOi.1
  refine lv_aload_n CF.1 CF.2.1 dX1_mean_0 rfl (lv_at hl 0 rfl) ?_
  refine lv_iload_n CF.1 CF.2.1 dX1_mean_1 rfl (lv_at hl 1 rfl) ?_
  refine cS_i CF (As := [.int (nI (t))]) (rest := [.ref (ad 0)]) (c1_isMoney l (nI (t))) lk_RX1_X1_isMoney rfl hl.1 ⟨Nat.le_of_ble_eq_true rfl, Nat.le_of_ble_eq_true rfl⟩ ⟨Nat.zero_le _, Nat.zero_le _⟩ (Nat.le_of_ble_eq_true rfl) rfl dX1_mean_2 (fun r_1 hr_2 => ?_)
  have hxh_3 := nIz (n := t) (by omega)
  rcases hr_2 with ⟨rfl, -, -⟩ | ⟨rfl, h9⟩
  rotate_left
  · exact absurd h9 (by rw [hxh_3]; omega)
  rw [show (1 : Int32) = nI 1 by rfl]
  refine z_if_eq CF (tgt := 12) (nIz (by omega)) dX1_mean_5 (by decide) (fun h => absurd h (by decide)) (fun _ => ?_)
  refine lv_iconst (v := nI 0) CF.1 CF.2.1 dX1_mean_8 (by decide) ?_
  refine lv_goto (tgt := 13) CF.1 CF.2.1 dX1_mean_9 (by decide) ?_
  refine x1_p_thrown CF hK hP hD hS dX1_mean_13 (fun σ6 H6 locs hσ6 hP6 hD6 hS6 => ?_)
  have hR : Rc σ6 b := Rc_th hR hσ6
  have hO : Ro σ6 b := Ro_th hO hσ6
  have hT : σ6 0 6 = nI 0 := by rw [hσ6, up_s]
  refine lv_aload_n CF.1 CF.2.1 dX1_mean_16 rfl (lv_at hl 0 rfl) ?_
  refine x1_g_thrown CF hK hP6 (v := (nI (0))) hT dX1_mean_17 ?_
  refine z_if_ne CF (tgt := 30) (nIz (by omega)) dX1_mean_20 (by decide) (fun h => absurd h (by decide)) (fun _ => ?_)
  refine lv_aload_n CF.1 CF.2.1 dX1_mean_23 rfl (lv_at hl 0 rfl) ?_
  refine x1_g_customers CF hK hP6 (v := (nI (b 0 2))) (hR.2.2.1) dX1_mean_24 ?_
  refine z_if_ne CF (tgt := 34) (nIz (by omega)) dX1_mean_27 (by decide) (fun h_9 => ?_) (fun h_10 => ?_)
  · refine lv_aload_n CF.1 CF.2.1 dX1_mean_34 rfl (lv_at hl 0 rfl) ?_
    refine lv_iload_n CF.1 CF.2.1 dX1_mean_35 rfl (lv_at hl 1 rfl) ?_
    refine c1_i CF hK hP6 (As := [.int (nI (t))]) (rest := []) (c1_all l hI hR (t := t) (by omega)) rfl lk_RX1_X1_all rfl hl.1 ⟨Nat.le_of_ble_eq_true rfl, Nat.le_of_ble_eq_true rfl⟩ ⟨Nat.zero_le _, Nat.zero_le _⟩ (Nat.le_of_ble_eq_true rfl) rfl dX1_mean_36 (fun r_11 hr_12 => ?_)
    subst hr_12
    refine lv_i2d CF.1 CF.2.1 dX1_mean_39 ?_
    refine lv_aload_n CF.1 CF.2.1 dX1_mean_40 rfl (lv_at hl 0 rfl) ?_
    refine x1_g_customers CF hK hP6 (v := (nI (b 0 2))) (hR.2.2.1) dX1_mean_41 ?_
    refine lv_i2d CF.1 CF.2.1 dX1_mean_44 ?_
    refine lv_ddiv CF.1 CF.2.1 dX1_mean_45 (mean_n64 (by omega) (by omega)) ?_
    exact W.dret CF.1 CF.2.1 hr (fun t9 ht9 hW9 => ⟨⟨_, σ6, rfl, ⟨by unfold mnD; rw [if_neg (by omega)], hR, hO, hT⟩, by show va_P G vwCl (w1 ad cA σ6) t9.heap; rw [ht9]; exact hP6⟩, hS6.F ht9⟩) hS6.2.2 dX1_mean_46
  · refine lv_dconst0 CF.1 CF.2.1 dX1_mean_30 ?_
    refine lv_goto (tgt := 46) CF.1 CF.2.1 dX1_mean_31 (by decide) ?_
    exact W.dret CF.1 CF.2.1 hr (fun t9 ht9 hW9 => ⟨⟨_, σ6, rfl, ⟨by unfold mnD; rw [if_pos (by omega)], hR, hO, hT⟩, by show va_P G vwCl (w1 ad cA σ6) t9.heap; rw [ht9]; exact hP6⟩, hS6.F ht9⟩) hS6.2.2 dX1_mean_46
set_option maxHeartbeats 1000000 in
set_option maxRecDepth 100000 in
theorem b1_mean (l : Launch) {G : va_G} {cA : ClassId} {ad : Nat → Nat} {σ : RS} (hj : inj8 ad) {b : BS} (hI : InvC b) (hR : Rc σ b) (hO : Ro σ b) (hOi : InvO b) (x : Int32) (hbad : ¬ (0 ≤ x.toInt ∧ x.toInt < 5)) : Met l yX1_mean (ws_ yX1_mean cX1_mean 2 (some .double)) (rmk 8 0 0) (pc1 G cA ad σ [.ref (ad 0), .int (x)]) (va_Qd (fun (_ : UInt64) (σ' : RS) => Rc σ' b ∧ Ro σ' b ∧ (σ' 0 6 = nI 1 ∧ (True))) (fun σ' t => va_P G vwCl (w1 ad cA σ') t.heap) (own8 ad)) 0 0 (own8 ad) := by
  refine Met.ofW (cc := cX1_mean) (maxL := 2) (ret := (some .double)) (by decide) rfl ?_
  intro p e s m args below meth c s₁ B hml hv
  obtain ⟨rfl, hP, hK⟩ := hv
  have CF : CallFix p m c cX1_mean 2 s _ AW RX1 := ⟨B.exec, B.bytes, hml, findClass_of_methodNamed B.named, fun w h => atoms_spec (ws := ws_ yX1_mean cX1_mean 2 (some .double)) B.pre w (List.mem_cons_of_mem _ h)⟩
  have hr := B.returns
  have hlocks := B.notSynchronized
  have hl := lv_entry ([.ref (ad 0), .int (x)]) (n := 2) (Nat.le_of_ble_eq_true rfl)
  rw [lg_entry_eq]
  generalize (lg_sl ([.ref (ad 0), .int (x)]) ++ List.replicate (2 - (lg_sl ([.ref (ad 0), .int (x)])).length) Slot.unset).toArray = ls at hl ⊢
  have hl : lv_has ls 2 [(0, .ref (ad 0)), (1, .int (x))] := hl
  have hD : va_D (own8 ad) (w1 ad cA σ) := w1_D hj (fun _ h => h)
  have hS : va_S (own8 ad) s.heap s.heap [] := va_S.rf
  obtain ⟨i_sp, i_cu, i_ra, i_di, i_mo, i_pu⟩ := id hI
  have hw10 := hOi.1
  refine lv_aload_n CF.1 CF.2.1 dX1_mean_0 rfl (lv_at hl 0 rfl) ?_
  refine lv_iload_n CF.1 CF.2.1 dX1_mean_1 rfl (lv_at hl 1 rfl) ?_
  refine cS_i CF (As := [.int (x)]) (rest := [.ref (ad 0)]) (c1_isMoney l ((x))) lk_RX1_X1_isMoney rfl hl.1 ⟨Nat.le_of_ble_eq_true rfl, Nat.le_of_ble_eq_true rfl⟩ ⟨Nat.zero_le _, Nat.zero_le _⟩ (Nat.le_of_ble_eq_true rfl) rfl dX1_mean_2 (fun r_1 hr_2 => ?_)
  rcases hr_2 with ⟨rfl, h_5, h_6⟩ | ⟨rfl, h_7⟩
  · rw [show (1 : Int32) = nI 1 by rfl]
    obtain ⟨j_3, h_4, rfl⟩ := nI_ex (x := x) (n := 5) (by omega) (by omega)
    have hzj_3 := nIz (n := j_3) (by omega)
    refine z_if_eq CF (tgt := 12) (nIz (by omega)) dX1_mean_5 (by decide) (fun h => absurd h (by decide)) (fun _ => ?_)
    exact (show False by omega).elim
  · rw [show (0 : Int32) = nI 0 by rfl]
    refine z_if_eq CF (tgt := 12) (nIz (by omega)) dX1_mean_5 (by decide) (fun _ => ?_) (fun h => absurd h (by decide))
    refine lv_iconst (v := nI 1) CF.1 CF.2.1 dX1_mean_12 (by decide) ?_
    refine x1_p_thrown CF hK hP hD hS dX1_mean_13 (fun σ12 H12 locs hσ12 hP12 hD12 hS12 => ?_)
    have hR : Rc σ12 b := Rc_th hR hσ12
    have hO : Ro σ12 b := Ro_th hO hσ12
    have hT : σ12 0 6 = nI 1 := by rw [hσ12, up_s]
    refine lv_aload_n CF.1 CF.2.1 dX1_mean_16 rfl (lv_at hl 0 rfl) ?_
    refine x1_g_thrown CF hK hP12 (v := (nI (1))) hT dX1_mean_17 ?_
    refine z_if_ne CF (tgt := 30) (nIz (by omega)) dX1_mean_20 (by decide) (fun _ => ?_) (fun h => absurd h (by decide))
    refine lv_dconst0 CF.1 CF.2.1 dX1_mean_30 ?_
    refine lv_goto (tgt := 46) CF.1 CF.2.1 dX1_mean_31 (by decide) ?_
    exact W.dret CF.1 CF.2.1 hr (fun t9 ht9 hW9 => ⟨⟨_, σ12, rfl, ⟨hR, hO, hT, trivial⟩, by show va_P G vwCl (w1 ad cA σ12) t9.heap; rw [ht9]; exact hP12⟩, hS12.F ht9⟩) hS12.2.2 dX1_mean_46
set_option maxHeartbeats 1000000 in
set_option maxRecDepth 100000 in
theorem c1_digest (l : Launch) {G : va_G} {cA : ClassId} {ad : Nat → Nat} {σ : RS} (hj : inj8 ad) {b : BS} (hI : InvC b) (hR : Rc σ b) (hO : Ro σ b) (hOi : InvO b) : Met l yX1_digest (ws_ yX1_digest cX1_digest 5 (some .long)) (rmk 8 0 0) (pc1 G cA ad σ [.ref (ad 0)]) (va_Ql (fun (r : Int64) (σ' : RS) => r = dgs b ∧ Rc σ' b ∧ Ro σ' b ∧ σ' 0 6 = nI 0) (fun σ' t => va_P G vwCl (w1 ad cA σ') t.heap) (own8 ad)) 0 0 (own8 ad) := by
  refine Met.ofW (cc := cX1_digest) (maxL := 5) (ret := (some .long)) (by decide) rfl ?_
  intro p e s m args below meth c s₁ B hml hv
  obtain ⟨rfl, hP, hK⟩ := hv
  have CF : CallFix p m c cX1_digest 5 s _ AW RX1 := ⟨B.exec, B.bytes, hml, findClass_of_methodNamed B.named, fun w h => atoms_spec (ws := ws_ yX1_digest cX1_digest 5 (some .long)) B.pre w (List.mem_cons_of_mem _ h)⟩
  have hr := B.returns
  have hlocks := B.notSynchronized
  have hl := lv_entry ([.ref (ad 0)]) (n := 5) (Nat.le_of_ble_eq_true rfl)
  rw [lg_entry_eq]
  generalize (lg_sl ([.ref (ad 0)]) ++ List.replicate (5 - (lg_sl ([.ref (ad 0)])).length) Slot.unset).toArray = ls at hl ⊢
  have hl : lv_has ls 5 [(0, .ref (ad 0))] := hl
  have hD : va_D (own8 ad) (w1 ad cA σ) := w1_D hj (fun _ h => h)
  have hS : va_S (own8 ad) s.heap s.heap [] := va_S.rf
  obtain ⟨i_sp, i_cu, i_ra, i_di, i_mo, i_pu⟩ := id hI
  have hw10 := hOi.1
  refine lv_aload_n CF.1 CF.2.1 dX1_digest_0 rfl (lv_at hl 0 rfl) ?_
  refine lv_iconst (v := nI 0) CF.1 CF.2.1 dX1_digest_1 (by decide) ?_
  refine x1_p_thrown CF hK hP hD hS dX1_digest_2 (fun σ1 H1 locs hσ1 hP1 hD1 hS1 => ?_)
  have hR : Rc σ1 b := Rc_th hR hσ1
  have hO : Ro σ1 b := Ro_th hO hσ1
  have hT : σ1 0 6 = nI 0 := by rw [hσ1, up_s]
  refine lv_ldc2 (v := lN 1367) CF.1 CF.2.1 CF.2.2.2.1 (CF.2.2.2.2 _ (inr_21 _ (List.mem_of_getElem? (i := 4) rfl))) dX1_digest_5 ?_
  refine lv_lstore_n (lv' := [(1, .long (lN (1367))), (0, .ref (ad 0))]) CF.1 CF.2.1 dX1_digest_8 rfl hl (by decide) rfl (fun ls hl => ?_)
  refine lv_iconst (v := nI 0) CF.1 CF.2.1 dX1_digest_9 (by decide) ?_
  refine lv_istore_n (lv' := [(3, .int (nI (0))), (1, .long (lN (1367))), (0, .ref (ad 0))]) CF.1 CF.2.1 dX1_digest_10 rfl hl (by decide) rfl (fun ls hl => ?_)
  refine loop_ro (fun i => [(0, .ref (ad 0)), (1, .long (dgl (fbo b) (lN 1367) i)), (3, .int (nI (i)))]) (7) (0) (lv_sub hl [2, 1, 0] rfl) (by omega) (fun i_2 h_5 h_4 ih_3 ls hl => ?_)
  refine lv_iload_n CF.1 CF.2.1 dX1_digest_11 rfl (lv_at hl 2 rfl) ?_
  refine lv_bipush (v := nI 7) CF.1 CF.2.1 dX1_digest_12 (by decide) ?_
  refine z_icmp_ge CF (tgt := 36) (nIz (by omega)) (nIz (by omega)) dX1_digest_14 (by decide) (fun h_6 => ?_) (fun h_7 => ?_)
  · obtain rfl : i_2 = 7 := by omega
    refine lv_iconst (v := nI 0) CF.1 CF.2.1 dX1_digest_36 (by decide) ?_
    refine lv_istore_n (lv' := [(3, .int (nI (0))), (0, .ref (ad 0)), (1, .long (dgl (fbo b) (lN 1367) 7))]) CF.1 CF.2.1 dX1_digest_37 rfl hl (by decide) rfl (fun ls hl => ?_)
    refine loop_ro (fun i => [(0, .ref (ad 0)), (1, .long (dgm b (dgl (fbo b) (lN 1367) 7) i)), (3, .int (nI (i)))]) (5) (0) (lv_sub hl [1, 2, 0] rfl) (by omega) (fun i_8 h_11 h_10 ih_9 ls hl => ?_)
    refine lv_iload_n CF.1 CF.2.1 dX1_digest_38 rfl (lv_at hl 2 rfl) ?_
    refine lv_iconst (v := nI 5) CF.1 CF.2.1 dX1_digest_39 (by decide) ?_
    refine z_icmp_ge CF (tgt := 109) (nIz (by omega)) (nIz (by omega)) dX1_digest_40 (by decide) (fun h_12 => ?_) (fun h_13 => ?_)
    · obtain rfl : i_8 = 5 := by omega
      refine lv_iconst (v := nI 0) CF.1 CF.2.1 dX1_digest_109 (by decide) ?_
      refine lv_istore_n (lv' := [(3, .int (nI (0))), (0, .ref (ad 0)), (1, .long (dgm b (dgl (fbo b) (lN 1367) 7) 5))]) CF.1 CF.2.1 dX1_digest_110 rfl hl (by decide) rfl (fun ls hl => ?_)
      refine loop_ro (fun i => [(0, .ref (ad 0)), (1, .long (dgl (b 6) (dgm b (dgl (fbo b) (lN 1367) 7) 5) i)), (3, .int (nI (i)))]) (b 0 2 * 5) (0) (lv_sub hl [1, 2, 0] rfl) (by omega) (fun i_14 h_17 h_16 ih_15 ls hl => ?_)
      refine lv_iload_n CF.1 CF.2.1 dX1_digest_111 rfl (lv_at hl 2 rfl) ?_
      refine lv_iconst (v := nI 5) CF.1 CF.2.1 dX1_digest_112 (by decide) ?_
      refine lv_aload_n CF.1 CF.2.1 dX1_digest_113 rfl (lv_at hl 0 rfl) ?_
      refine x1_g_customers CF hK hP1 (v := (nI (b 0 2))) (hR.2.2.1) dX1_digest_114 ?_
      refine o_imul CF dX1_digest_117 ?_
      refine tpi (congrArg nI (Nat.mul_comm _ _)) ?_
      refine z_icmp_ge CF (tgt := 141) (nIz (by omega)) (nIz (by omega)) dX1_digest_118 (by decide) (fun h_18 => ?_) (fun h_19 => ?_)
      · obtain rfl : i_14 = b 0 2 * 5 := by omega
        refine lv_iconst (v := nI 0) CF.1 CF.2.1 dX1_digest_141 (by decide) ?_
        refine lv_istore_n (lv' := [(3, .int (nI (0))), (0, .ref (ad 0)), (1, .long (dgl (b 6) (dgm b (dgl (fbo b) (lN 1367) 7) 5) (b 0 2 * 5)))]) CF.1 CF.2.1 dX1_digest_142 rfl hl (by decide) rfl (fun ls hl => ?_)
        refine loop_ro (fun i => [(0, .ref (ad 0)), (1, .long (dgl (b 7) (dgl (b 6) (dgm b (dgl (fbo b) (lN 1367) 7) 5) (b 0 2 * 5)) i)), (3, .int (nI (i)))]) (b 0 3 * 5) (0) (lv_sub hl [1, 2, 0] rfl) (by omega) (fun i_20 h_23 h_22 ih_21 ls hl => ?_)
        refine lv_iload_n CF.1 CF.2.1 dX1_digest_143 rfl (lv_at hl 2 rfl) ?_
        refine lv_iconst (v := nI 5) CF.1 CF.2.1 dX1_digest_144 (by decide) ?_
        refine lv_aload_n CF.1 CF.2.1 dX1_digest_145 rfl (lv_at hl 0 rfl) ?_
        refine x1_g_waiting CF hK hP1 (v := (nI (b 0 3))) (hO.1) dX1_digest_146 ?_
        refine o_imul CF dX1_digest_149 ?_
        refine tpi (congrArg nI (Nat.mul_comm _ _)) ?_
        refine z_icmp_ge CF (tgt := 173) (nIz (by omega)) (nIz (by omega)) dX1_digest_150 (by decide) (fun h_24 => ?_) (fun h_25 => ?_)
        · obtain rfl : i_20 = b 0 3 * 5 := by omega
          refine lv_lload_n CF.1 CF.2.1 dX1_digest_173 rfl (lv_at hl 1 rfl) ?_
          exact W.lret CF.1 CF.2.1 hr (fun t9 ht9 hW9 => ⟨⟨_, σ1, rfl, ⟨rfl, hR, hO, hT⟩, by show va_P G vwCl (w1 ad cA σ1) t9.heap; rw [ht9]; exact hP1⟩, hS1.F ht9⟩) hS1.2.2 dX1_digest_174
        · refine lv_lload_n CF.1 CF.2.1 dX1_digest_153 rfl (lv_at hl 1 rfl) ?_
          refine lv_ldc2 (v := lN 31) CF.1 CF.2.1 CF.2.2.2.1 (CF.2.2.2.2 _ (inr_21 _ (List.mem_of_getElem? (i := 5) rfl))) dX1_digest_154 ?_
          refine lv_lmul CF.1 CF.2.1 dX1_digest_157 ?_
          refine lv_aload_n CF.1 CF.2.1 dX1_digest_158 rfl (lv_at hl 0 rfl) ?_
          refine x1_g_orders CF hK hP1 dX1_digest_159 ?_
          refine lv_iload_n CF.1 CF.2.1 dX1_digest_162 rfl (lv_at hl 2 rfl) ?_
          refine x1_ald7 CF hK hP1 (i := i_20) (by omega) (v := (nI (b 7 (i_20)))) (hO.2.2 (i_20) (by omega)) dX1_digest_163 ?_
          refine lv_i2l CF.1 CF.2.1 dX1_digest_164 rfl ?_
          refine lv_ladd CF.1 CF.2.1 dX1_digest_165 ?_
          refine lv_lstore_n (lv' := [(1, .long (((dgl (b 7) (dgl (b 6) (dgm b (dgl (fbo b) (lN 1367) 7) 5) (b 0 2 * 5)) i_20) * lN (31)) + ((nI (b 7 (i_20))).toInt64))), (0, .ref (ad 0)), (3, .int (nI (i_20)))]) CF.1 CF.2.1 dX1_digest_166 rfl hl (by decide) rfl (fun ls hl => ?_)
          refine lv_iinc (v := nI (i_20 + 1)) (lv' := [(3, .int (nI (i_20 + 1))), (1, .long (((dgl (b 7) (dgl (b 6) (dgm b (dgl (fbo b) (lN 1367) 7) 5) (b 0 2 * 5)) i_20) * lN (31)) + ((nI (b 7 (i_20))).toInt64))), (0, .ref (ad 0))]) CF.1 CF.2.1 dX1_digest_167 hl (k := 2) rfl (by first | exact nI_add _ _ | rfl) (by decide) rfl (fun ls hl => ?_)
          refine lv_goto (tgt := 143) CF.1 CF.2.1 dX1_digest_170 (by decide) ?_
          exact ih_21 ls (by omega) (lv_sub hl [2, 1, 0] rfl)
      · refine lv_lload_n CF.1 CF.2.1 dX1_digest_121 rfl (lv_at hl 1 rfl) ?_
        refine lv_ldc2 (v := lN 31) CF.1 CF.2.1 CF.2.2.2.1 (CF.2.2.2.2 _ (inr_21 _ (List.mem_of_getElem? (i := 5) rfl))) dX1_digest_122 ?_
        refine lv_lmul CF.1 CF.2.1 dX1_digest_125 ?_
        refine lv_aload_n CF.1 CF.2.1 dX1_digest_126 rfl (lv_at hl 0 rfl) ?_
        refine x1_g_purses CF hK hP1 dX1_digest_127 ?_
        refine lv_iload_n CF.1 CF.2.1 dX1_digest_130 rfl (lv_at hl 2 rfl) ?_
        refine x1_ald6 CF hK hP1 (i := i_14) (by omega) (v := (nI (b 6 (i_14)))) (hR.a6 (by omega)) dX1_digest_131 ?_
        refine lv_i2l CF.1 CF.2.1 dX1_digest_132 rfl ?_
        refine lv_ladd CF.1 CF.2.1 dX1_digest_133 ?_
        refine lv_lstore_n (lv' := [(1, .long (((dgl (b 6) (dgm b (dgl (fbo b) (lN 1367) 7) 5) i_14) * lN (31)) + ((nI (b 6 (i_14))).toInt64))), (0, .ref (ad 0)), (3, .int (nI (i_14)))]) CF.1 CF.2.1 dX1_digest_134 rfl hl (by decide) rfl (fun ls hl => ?_)
        refine lv_iinc (v := nI (i_14 + 1)) (lv' := [(3, .int (nI (i_14 + 1))), (1, .long (((dgl (b 6) (dgm b (dgl (fbo b) (lN 1367) 7) 5) i_14) * lN (31)) + ((nI (b 6 (i_14))).toInt64))), (0, .ref (ad 0))]) CF.1 CF.2.1 dX1_digest_135 hl (k := 2) rfl (by first | exact nI_add _ _ | rfl) (by decide) rfl (fun ls hl => ?_)
        refine lv_goto (tgt := 111) CF.1 CF.2.1 dX1_digest_138 (by decide) ?_
        exact ih_15 ls (by omega) (lv_sub hl [2, 1, 0] rfl)
    · refine lv_iconst (v := nI 0) CF.1 CF.2.1 dX1_digest_43 (by decide) ?_
      refine lv_istore (lv' := [(4, .int (nI (0))), (0, .ref (ad 0)), (1, .long (dgm b (dgl (fbo b) (lN 1367) 7) i_8)), (3, .int (nI (i_8)))]) CF.1 CF.2.1 dX1_digest_44 hl (by decide) rfl (fun ls hl => ?_)
      refine loop_ro (fun i => [(0, .ref (ad 0)), (1, .long (dgl (fmo b i_8) (dgm b (dgl (fbo b) (lN 1367) 7) i_8) i)), (3, .int (nI (i_8))), (4, .int (nI (i)))]) (5) (0) (lv_sub hl [1, 2, 3, 0] rfl) (by omega) (fun i_26 h_29 h_28 ih_27 ls hl => ?_)
      refine lv_iload CF.1 CF.2.1 dX1_digest_46 (lv_at hl 3 rfl) ?_
      refine lv_iconst (v := nI 5) CF.1 CF.2.1 dX1_digest_48 (by decide) ?_
      refine z_icmp_ge CF (tgt := 73) (nIz (by omega)) (nIz (by omega)) dX1_digest_49 (by decide) (fun h_30 => ?_) (fun h_31 => ?_)
      · obtain rfl : i_26 = 5 := by omega
        refine lv_iconst (v := nI 0) CF.1 CF.2.1 dX1_digest_73 (by decide) ?_
        refine lv_istore (lv' := [(4, .int (nI (0))), (0, .ref (ad 0)), (1, .long (dgl (fmo b i_8) (dgm b (dgl (fbo b) (lN 1367) 7) i_8) 5)), (3, .int (nI (i_8)))]) CF.1 CF.2.1 dX1_digest_74 hl (by decide) rfl (fun ls hl => ?_)
        refine loop_ro (fun i => [(0, .ref (ad 0)), (1, .long (dgl (fun t => b 1 (i_8 * 5 + t)) (dgl (fmo b i_8) (dgm b (dgl (fbo b) (lN 1367) 7) i_8) 5) i)), (3, .int (nI (i_8))), (4, .int (nI (i)))]) (5) (0) (lv_sub hl [1, 2, 3, 0] rfl) (by omega) (fun i_32 h_35 h_34 ih_33 ls hl => ?_)
        refine lv_iload CF.1 CF.2.1 dX1_digest_76 (lv_at hl 3 rfl) ?_
        refine lv_iconst (v := nI 5) CF.1 CF.2.1 dX1_digest_78 (by decide) ?_
        refine z_icmp_ge CF (tgt := 103) (nIz (by omega)) (nIz (by omega)) dX1_digest_79 (by decide) (fun h_36 => ?_) (fun h_37 => ?_)
        · obtain rfl : i_32 = 5 := by omega
          refine lv_iinc (v := nI (i_8 + 1)) (lv' := [(3, .int (nI (i_8 + 1))), (0, .ref (ad 0)), (1, .long (dgl (fun t => b 1 (i_8 * 5 + t)) (dgl (fmo b i_8) (dgm b (dgl (fbo b) (lN 1367) 7) i_8) 5) 5)), (4, .int (nI (5)))]) CF.1 CF.2.1 dX1_digest_103 hl (k := 2) rfl (by first | exact nI_add _ _ | rfl) (by decide) rfl (fun ls hl => ?_)
          refine lv_goto (tgt := 38) CF.1 CF.2.1 dX1_digest_106 (by decide) ?_
          exact ih_9 ls (by omega) (lv_sub hl [1, 2, 0] rfl)
        · refine lv_lload_n CF.1 CF.2.1 dX1_digest_82 rfl (lv_at hl 1 rfl) ?_
          refine lv_ldc2 (v := lN 31) CF.1 CF.2.1 CF.2.2.2.1 (CF.2.2.2.2 _ (inr_21 _ (List.mem_of_getElem? (i := 5) rfl))) dX1_digest_83 ?_
          refine lv_lmul CF.1 CF.2.1 dX1_digest_86 ?_
          refine lv_aload_n CF.1 CF.2.1 dX1_digest_87 rfl (lv_at hl 0 rfl) ?_
          refine lv_iload_n CF.1 CF.2.1 dX1_digest_88 rfl (lv_at hl 2 rfl) ?_
          refine lv_iload CF.1 CF.2.1 dX1_digest_89 (lv_at hl 3 rfl) ?_
          refine c1_i CF hK hP1 (As := [.int (nI (i_8)), .int (nI (i_32))]) (rest := [.long ((dgl (fun t => b 1 (i_8 * 5 + t)) (dgl (fmo b i_8) (dgm b (dgl (fbo b) (lN 1367) 7) i_8) 5) i_32) * lN (31))]) (c1_rate l hI hR (f := i_8) (t := i_32) (by omega) (by omega)) rfl lk_RX1_X1_rate rfl hl.1 ⟨Nat.le_of_ble_eq_true rfl, Nat.le_of_ble_eq_true rfl⟩ ⟨Nat.zero_le _, Nat.zero_le _⟩ (Nat.le_of_ble_eq_true rfl) rfl dX1_digest_91 (fun r_38 hr_39 => ?_)
          subst hr_39
          refine lv_i2l CF.1 CF.2.1 dX1_digest_94 rfl ?_
          refine lv_ladd CF.1 CF.2.1 dX1_digest_95 ?_
          refine lv_lstore_n (lv' := [(1, .long (((dgl (fun t => b 1 (i_8 * 5 + t)) (dgl (fmo b i_8) (dgm b (dgl (fbo b) (lN 1367) 7) i_8) 5) i_32) * lN (31)) + ((nI (b 1 (i_8 * 5 + i_32))).toInt64))), (0, .ref (ad 0)), (3, .int (nI (i_8))), (4, .int (nI (i_32)))]) CF.1 CF.2.1 dX1_digest_96 rfl hl (by decide) rfl (fun ls hl => ?_)
          refine lv_iinc (v := nI (i_32 + 1)) (lv' := [(4, .int (nI (i_32 + 1))), (1, .long (((dgl (fun t => b 1 (i_8 * 5 + t)) (dgl (fmo b i_8) (dgm b (dgl (fbo b) (lN 1367) 7) i_8) 5) i_32) * lN (31)) + ((nI (b 1 (i_8 * 5 + i_32))).toInt64))), (0, .ref (ad 0)), (3, .int (nI (i_8)))]) CF.1 CF.2.1 dX1_digest_97 hl (k := 3) rfl (by first | exact nI_add _ _ | rfl) (by decide) rfl (fun ls hl => ?_)
          refine lv_goto (tgt := 76) CF.1 CF.2.1 dX1_digest_100 (by decide) ?_
          exact ih_33 ls (by omega) (lv_sub hl [2, 1, 3, 0] rfl)
      · refine lv_lload_n CF.1 CF.2.1 dX1_digest_52 rfl (lv_at hl 1 rfl) ?_
        refine lv_ldc2 (v := lN 31) CF.1 CF.2.1 CF.2.2.2.1 (CF.2.2.2.2 _ (inr_21 _ (List.mem_of_getElem? (i := 5) rfl))) dX1_digest_53 ?_
        refine lv_lmul CF.1 CF.2.1 dX1_digest_56 ?_
        refine lv_aload_n CF.1 CF.2.1 dX1_digest_57 rfl (lv_at hl 0 rfl) ?_
        refine lv_iload_n CF.1 CF.2.1 dX1_digest_58 rfl (lv_at hl 2 rfl) ?_
        refine lv_iload CF.1 CF.2.1 dX1_digest_59 (lv_at hl 3 rfl) ?_
        refine c1_i CF hK hP1 (As := [.int (nI (i_8)), .int (nI (i_26))]) (rest := [.long ((dgl (fmo b i_8) (dgm b (dgl (fbo b) (lN 1367) 7) i_8) i_26) * lN (31))]) (c1_moneyTold l hI hR (t := i_8) (w := i_26) (by omega) (by omega)) rfl lk_RX1_X1_moneyTold rfl hl.1 ⟨Nat.le_of_ble_eq_true rfl, Nat.le_of_ble_eq_true rfl⟩ ⟨Nat.zero_le _, Nat.zero_le _⟩ (Nat.le_of_ble_eq_true rfl) rfl dX1_digest_61 (fun r_40 hr_41 => ?_)
        subst hr_41
        refine lv_i2l CF.1 CF.2.1 dX1_digest_64 rfl ?_
        refine lv_ladd CF.1 CF.2.1 dX1_digest_65 ?_
        refine lv_lstore_n (lv' := [(1, .long (((dgl (fmo b i_8) (dgm b (dgl (fbo b) (lN 1367) 7) i_8) i_26) * lN (31)) + ((nI (fmo b (i_8) (i_26))).toInt64))), (0, .ref (ad 0)), (3, .int (nI (i_8))), (4, .int (nI (i_26)))]) CF.1 CF.2.1 dX1_digest_66 rfl hl (by decide) rfl (fun ls hl => ?_)
        refine lv_iinc (v := nI (i_26 + 1)) (lv' := [(4, .int (nI (i_26 + 1))), (1, .long (((dgl (fmo b i_8) (dgm b (dgl (fbo b) (lN 1367) 7) i_8) i_26) * lN (31)) + ((nI (fmo b (i_8) (i_26))).toInt64))), (0, .ref (ad 0)), (3, .int (nI (i_8)))]) CF.1 CF.2.1 dX1_digest_67 hl (k := 3) rfl (by first | exact nI_add _ _ | rfl) (by decide) rfl (fun ls hl => ?_)
        refine lv_goto (tgt := 46) CF.1 CF.2.1 dX1_digest_70 (by decide) ?_
        exact ih_27 ls (by omega) (lv_sub hl [2, 1, 3, 0] rfl)
  · refine lv_lload_n CF.1 CF.2.1 dX1_digest_17 rfl (lv_at hl 1 rfl) ?_
    refine lv_ldc2 (v := lN 31) CF.1 CF.2.1 CF.2.2.2.1 (CF.2.2.2.2 _ (inr_21 _ (List.mem_of_getElem? (i := 5) rfl))) dX1_digest_18 ?_
    refine lv_lmul CF.1 CF.2.1 dX1_digest_21 ?_
    refine lv_aload_n CF.1 CF.2.1 dX1_digest_22 rfl (lv_at hl 0 rfl) ?_
    refine lv_iload_n CF.1 CF.2.1 dX1_digest_23 rfl (lv_at hl 2 rfl) ?_
    refine c1_i CF hK hP1 (As := [.int (nI (i_2))]) (rest := [.long ((dgl (fbo b) (lN 1367) i_2) * lN (31))]) (c1_counted l hI hR hO (w := i_2) (by omega)) rfl lk_RX1_X1_counted rfl hl.1 ⟨Nat.le_of_ble_eq_true rfl, Nat.le_of_ble_eq_true rfl⟩ ⟨Nat.zero_le _, Nat.zero_le _⟩ (Nat.le_of_ble_eq_true rfl) rfl dX1_digest_24 (fun r_42 hr_43 => ?_)
    subst hr_43
    refine lv_i2l CF.1 CF.2.1 dX1_digest_27 rfl ?_
    refine lv_ladd CF.1 CF.2.1 dX1_digest_28 ?_
    refine lv_lstore_n (lv' := [(1, .long (((dgl (fbo b) (lN 1367) i_2) * lN (31)) + ((nI (fbo b (i_2))).toInt64))), (0, .ref (ad 0)), (3, .int (nI (i_2)))]) CF.1 CF.2.1 dX1_digest_29 rfl hl (by decide) rfl (fun ls hl => ?_)
    refine lv_iinc (v := nI (i_2 + 1)) (lv' := [(3, .int (nI (i_2 + 1))), (1, .long (((dgl (fbo b) (lN 1367) i_2) * lN (31)) + ((nI (fbo b (i_2))).toInt64))), (0, .ref (ad 0))]) CF.1 CF.2.1 dX1_digest_30 hl (k := 2) rfl (by first | exact nI_add _ _ | rfl) (by decide) rfl (fun ls hl => ?_)
    refine lv_goto (tgt := 11) CF.1 CF.2.1 dX1_digest_33 (by decide) ?_
    exact ih_3 ls (by omega) (lv_sub hl [2, 1, 0] rfl)
set_option maxHeartbeats 1000000 in
set_option maxRecDepth 100000 in
theorem c1_needs (l : Launch) {G : va_G} {cA : ClassId} {ad : Nat → Nat} {σ : RS} (hj : inj8 ad) {b : BS} (hI : InvC b) (hR : Rc σ b) (hO : Ro σ b) (hOi : InvO b) {f t : Nat} (hf : f < 5) (ht : t < 5) (hne : f ≠ t) : Met l yX1_needs (ws_ yX1_needs cX1_needs 5 (some .int)) (rmk 8 0 0) (pc1 G cA ad σ [.ref (ad 0), .int (nI (f)), .int (nI (t))]) (va_Qi (fun (r : Int32) (σ' : RS) => ndP b f t r ∧ Rc σ' (b) ∧ Ro σ' (b) ∧ σ' 0 6 = nI 0) (fun σ' t => va_P G vwCl (w1 ad cA σ') t.heap) (own8 ad)) 0 0 (own8 ad) := by
  refine Met.ofW (cc := cX1_needs) (maxL := 5) (ret := (some .int)) (by decide) rfl ?_
  intro p e s m args below meth c s₁ B hml hv
  obtain ⟨rfl, hP, hK⟩ := hv
  have CF : CallFix p m c cX1_needs 5 s _ AW RX1 := ⟨B.exec, B.bytes, hml, findClass_of_methodNamed B.named, fun w h => atoms_spec (ws := ws_ yX1_needs cX1_needs 5 (some .int)) B.pre w (List.mem_cons_of_mem _ h)⟩
  have hr := B.returns
  have hlocks := B.notSynchronized
  have hl := lv_entry ([.ref (ad 0), .int (nI (f)), .int (nI (t))]) (n := 5) (Nat.le_of_ble_eq_true rfl)
  rw [lg_entry_eq]
  generalize (lg_sl ([.ref (ad 0), .int (nI (f)), .int (nI (t))]) ++ List.replicate (5 - (lg_sl ([.ref (ad 0), .int (nI (f)), .int (nI (t))])).length) Slot.unset).toArray = ls at hl ⊢
  have hl : lv_has ls 5 [(0, .ref (ad 0)), (1, .int (nI (f))), (2, .int (nI (t)))] := hl
  have hD : va_D (own8 ad) (w1 ad cA σ) := w1_D hj (fun _ h => h)
  have hS : va_S (own8 ad) s.heap s.heap [] := va_S.rf
  obtain ⟨i_sp, i_cu, i_ra, i_di, i_mo, i_pu⟩ := id hI
  have hw10 := hOi.1
  refine lv_aload_n CF.1 CF.2.1 dX1_needs_0 rfl (lv_at hl 0 rfl) ?_
  refine lv_iconst (v := nI 0) CF.1 CF.2.1 dX1_needs_1 (by decide) ?_
  refine x1_p_thrown CF hK hP hD hS dX1_needs_2 (fun σ1 H1 locs hσ1 hP1 hD1 hS1 => ?_)
  have hR : Rc σ1 b := Rc_th hR hσ1
  have hO : Ro σ1 b := Ro_th hO hσ1
  have hT : σ1 0 6 = nI 0 := by rw [hσ1, up_s]
  refine lv_iload_n CF.1 CF.2.1 dX1_needs_5 rfl (lv_at hl 1 rfl) ?_
  refine cS_i CF (As := [.int (nI (f))]) (rest := []) (c1_isMoney l (nI (f))) lk_RX1_X1_isMoney rfl hl.1 ⟨Nat.le_of_ble_eq_true rfl, Nat.le_of_ble_eq_true rfl⟩ ⟨Nat.zero_le _, Nat.zero_le _⟩ (Nat.le_of_ble_eq_true rfl) rfl dX1_needs_6 (fun r_2 hr_3 => ?_)
  have hxh_4 := nIz (n := f) (by omega)
  rcases hr_3 with ⟨rfl, -, -⟩ | ⟨rfl, h9⟩
  rotate_left
  · exact absurd h9 (by rw [hxh_4]; omega)
  rw [show (1 : Int32) = nI 1 by rfl]
  refine z_if_eq CF (tgt := 19) (nIz (by omega)) dX1_needs_9 (by decide) (fun h => absurd h (by decide)) (fun _ => ?_)
  refine lv_iload_n CF.1 CF.2.1 dX1_needs_12 rfl (lv_at hl 2 rfl) ?_
  refine cS_i CF (As := [.int (nI (t))]) (rest := []) (c1_isMoney l (nI (t))) lk_RX1_X1_isMoney rfl hl.1 ⟨Nat.le_of_ble_eq_true rfl, Nat.le_of_ble_eq_true rfl⟩ ⟨Nat.zero_le _, Nat.zero_le _⟩ (Nat.le_of_ble_eq_true rfl) rfl dX1_needs_13 (fun r_7 hr_8 => ?_)
  have hxh_9 := nIz (n := t) (by omega)
  rcases hr_8 with ⟨rfl, -, -⟩ | ⟨rfl, h9⟩
  rotate_left
  · exact absurd h9 (by rw [hxh_9]; omega)
  rw [show (1 : Int32) = nI 1 by rfl]
  refine z_if_ne CF (tgt := 25) (nIz (by omega)) dX1_needs_16 (by decide) (fun _ => ?_) (fun h => absurd h (by decide))
  refine lv_iload_n CF.1 CF.2.1 dX1_needs_25 rfl (lv_at hl 1 rfl) ?_
  refine lv_iload_n CF.1 CF.2.1 dX1_needs_26 rfl (lv_at hl 2 rfl) ?_
  refine z_icmp_ne CF (tgt := 36) (nIz (by omega)) (nIz (by omega)) dX1_needs_27 (by decide) (fun h_12 => ?_) (fun h_13 => absurd h_13 (by omega))
  refine lv_iconst (v := nI 0) CF.1 CF.2.1 dX1_needs_36 (by decide) ?_
  refine lv_istore_n (lv' := [(3, .int (nI (0))), (0, .ref (ad 0)), (1, .int (nI (f))), (2, .int (nI (t)))]) CF.1 CF.2.1 dX1_needs_37 rfl hl (by decide) rfl (fun ls hl => ?_)
  refine loop_gh (α := Unit) (fun i x => [(0, .ref (ad 0)), (1, .int (nI (f))), (2, .int (nI (t))), (3, .int (nI (i)))]) (fun i _ => ∀ q, q < i → ¬ mtN b f t q) (b 0 3) (0) (()) (fun q hq => absurd hq (by omega)) (lv_sub hl [1, 2, 3, 0] rfl) (by omega) (fun i_14 x_18 h_17 h_16 hx_19 ih_15 ls hl => ?_)
  refine lv_iload_n CF.1 CF.2.1 dX1_needs_38 rfl (lv_at hl 3 rfl) ?_
  refine lv_aload_n CF.1 CF.2.1 dX1_needs_39 rfl (lv_at hl 0 rfl) ?_
  refine x1_g_waiting CF hK hP1 (v := (nI (b 0 3))) (hO.1) dX1_needs_40 ?_
  refine z_icmp_ge CF (tgt := 107) (nIz (by omega)) (nIz (by omega)) dX1_needs_43 (by decide) (fun h_20 => ?_) (fun h_21 => ?_)
  · refine lv_iconst (v := (-1)) CF.1 CF.2.1 dX1_needs_107 (by decide) ?_
    exact W.iret CF.1 CF.2.1 hr (fun t9 ht9 hW9 => ⟨⟨_, σ1, rfl, ⟨Or.inr ⟨fun q hq => hx_19 q (by omega), rfl⟩, hR, hO, hT⟩, by show va_P G vwCl (w1 ad cA σ1) t9.heap; rw [ht9]; exact hP1⟩, hS1.F ht9⟩) hS1.2.2 dX1_needs_108
  · obtain ⟨z0, z1, z2, z3, z4, z5, z6, z7⟩ := hOi.2 i_14 (by omega)
    refine lv_aload_n CF.1 CF.2.1 dX1_needs_46 rfl (lv_at hl 0 rfl) ?_
    refine lv_iload_n CF.1 CF.2.1 dX1_needs_47 rfl (lv_at hl 3 rfl) ?_
    refine lv_iconst (v := nI 1) CF.1 CF.2.1 dX1_needs_48 (by decide) ?_
    refine c1_i CF hK hP1 (As := [.int (nI (i_14)), .int (nI (1))]) (rest := []) (c1_or l (σ := σ1) (u := i_14) (t := 1) (by omega) (by omega)) rfl lk_RX1_X1_or rfl hl.1 ⟨Nat.le_of_ble_eq_true rfl, Nat.le_of_ble_eq_true rfl⟩ ⟨Nat.zero_le _, Nat.zero_le _⟩ (Nat.le_of_ble_eq_true rfl) rfl dX1_needs_49 (fun r_22 hr_23 => ?_)
    subst hr_23
    refine tpi (show σ1 7 (i_14 * 5 + 1) = nI (b 7 (i_14 * 5 + 1)) from hO.2.2 (i_14 * 5 + 1) (by omega)) ?_
    refine lv_iload_n CF.1 CF.2.1 dX1_needs_52 rfl (lv_at hl 1 rfl) ?_
    refine z_icmp_ne CF (tgt := 101) (nIz (by omega)) (nIz (by omega)) dX1_needs_53 (by decide) (fun h_24 => ?_) (fun h_25 => ?_)
    · refine lv_iinc (v := nI (i_14 + 1)) (lv' := [(3, .int (nI (i_14 + 1))), (0, .ref (ad 0)), (1, .int (nI (f))), (2, .int (nI (t)))]) CF.1 CF.2.1 dX1_needs_101 hl (k := 3) rfl (by first | exact nI_add _ _ | rfl) (by decide) rfl (fun ls hl => ?_)
      refine lv_goto (tgt := 38) CF.1 CF.2.1 dX1_needs_104 (by decide) ?_
      exact ih_15 () ls (by omega) (fst_s hx_19 (by rintro ⟨h1, h2⟩; omega)) (lv_sub hl [1, 2, 3, 0] rfl)
    · refine lv_aload_n CF.1 CF.2.1 dX1_needs_56 rfl (lv_at hl 0 rfl) ?_
      refine lv_iload_n CF.1 CF.2.1 dX1_needs_57 rfl (lv_at hl 3 rfl) ?_
      refine lv_iconst (v := nI 2) CF.1 CF.2.1 dX1_needs_58 (by decide) ?_
      refine c1_i CF hK hP1 (As := [.int (nI (i_14)), .int (nI (2))]) (rest := []) (c1_or l (σ := σ1) (u := i_14) (t := 2) (by omega) (by omega)) rfl lk_RX1_X1_or rfl hl.1 ⟨Nat.le_of_ble_eq_true rfl, Nat.le_of_ble_eq_true rfl⟩ ⟨Nat.zero_le _, Nat.zero_le _⟩ (Nat.le_of_ble_eq_true rfl) rfl dX1_needs_59 (fun r_26 hr_27 => ?_)
      subst hr_27
      refine tpi (show σ1 7 (i_14 * 5 + 2) = nI (b 7 (i_14 * 5 + 2)) from hO.2.2 (i_14 * 5 + 2) (by omega)) ?_
      refine lv_iload_n CF.1 CF.2.1 dX1_needs_62 rfl (lv_at hl 2 rfl) ?_
      refine z_icmp_eq CF (tgt := 69) (nIz (by omega)) (nIz (by omega)) dX1_needs_63 (by decide) (fun h_28 => ?_) (fun h_29 => ?_)
      · refine lv_iconst (v := nI 1) CF.1 CF.2.1 dX1_needs_69 (by decide) ?_
        refine lv_istore (lv' := [(4, .int (nI (1))), (0, .ref (ad 0)), (1, .int (nI (f))), (2, .int (nI (t))), (3, .int (nI (i_14)))]) CF.1 CF.2.1 dX1_needs_70 hl (by decide) rfl (fun ls hl => ?_)
        refine loop_gh (α := Unit) (fun i x => [(0, .ref (ad 0)), (1, .int (nI (f))), (2, .int (nI (t))), (3, .int (nI (i_14))), (4, .int (nI (i)))]) (fun j _ => ∀ y, 1 ≤ y → y < j → ¬ okR b i_14 y) (10000) (1) (()) (fun y h1 h2 => absurd h2 (by omega)) (lv_sub hl [1, 2, 3, 4, 0] rfl) (by omega) (fun i_30 x_34 h_33 h_32 hx_35 ih_31 ls hl => ?_)
        refine lv_iload CF.1 CF.2.1 dX1_needs_72 (lv_at hl 4 rfl) ?_
        refine lv_sipush (v := nI 9999) CF.1 CF.2.1 dX1_needs_74 (by decide) ?_
        refine z_icmp_gt CF (tgt := 99) (nIz (by omega)) (nIz (by omega)) dX1_needs_77 (by decide) (fun h_36 => ?_) (fun h_37 => ?_)
        · refine lv_iconst (v := (-1)) CF.1 CF.2.1 dX1_needs_99 (by decide) ?_
          exact W.iret CF.1 CF.2.1 hr (fun t9 ht9 hW9 => ⟨⟨_, σ1, rfl, ⟨Or.inl ⟨i_14, ⟨by omega, ⟨by omega, by omega⟩, hx_19⟩, Or.inr ⟨fun y h1 h2 => hx_35 y h1 (by omega), rfl⟩⟩, hR, hO, hT⟩, by show va_P G vwCl (w1 ad cA σ1) t9.heap; rw [ht9]; exact hP1⟩, hS1.F ht9⟩) hS1.2.2 dX1_needs_100
        · refine lv_aload_n CF.1 CF.2.1 dX1_needs_80 rfl (lv_at hl 0 rfl) ?_
          refine lv_iload_n CF.1 CF.2.1 dX1_needs_81 rfl (lv_at hl 3 rfl) ?_
          refine lv_iload CF.1 CF.2.1 dX1_needs_82 (lv_at hl 4 rfl) ?_
          refine c1_i CF hK hP1 (As := [.int (nI (i_14)), .int (nI (i_30))]) (rest := []) (c1_isDue l hI hR (q := i_14) (u := b 7 (i_14 * 5)) (f := b 7 (i_14 * 5 + 1)) (t := b 7 (i_14 * 5 + 2)) (a := b 7 (i_14 * 5 + 3)) (k := b 7 (i_14 * 5 + 4)) (x := i_30) (by omega) (show σ1 7 (i_14 * 5 + 0) = nI (b 7 (i_14 * 5)) from hO.2.2 (i_14 * 5 + 0) (by omega)) (show σ1 7 (i_14 * 5 + 1) = nI (b 7 (i_14 * 5 + 1)) from hO.2.2 (i_14 * 5 + 1) (by omega)) (show σ1 7 (i_14 * 5 + 2) = nI (b 7 (i_14 * 5 + 2)) from hO.2.2 (i_14 * 5 + 2) (by omega)) (show σ1 7 (i_14 * 5 + 3) = nI (b 7 (i_14 * 5 + 3)) from hO.2.2 (i_14 * 5 + 3) (by omega)) (show σ1 7 (i_14 * 5 + 4) = nI (b 7 (i_14 * 5 + 4)) from hO.2.2 (i_14 * 5 + 4) (by omega)) z0 z1 z2 (by omega) (by omega) (by omega)) rfl lk_RX1_X1_isDue rfl hl.1 ⟨Nat.le_of_ble_eq_true rfl, Nat.le_of_ble_eq_true rfl⟩ ⟨Nat.zero_le _, Nat.zero_le _⟩ (Nat.le_of_ble_eq_true rfl) rfl dX1_needs_84 (fun r_38 hr_39 => ?_)
          rcases hr_39 with ⟨rfl, hr_39a⟩ | ⟨rfl, hr_39n⟩
          · refine z_if_eq CF (tgt := 93) (nIz (by omega)) dX1_needs_87 (by decide) (fun h => absurd h (by decide)) (fun _ => ?_)
            refine lv_iload CF.1 CF.2.1 dX1_needs_90 (lv_at hl 4 rfl) ?_
            exact W.iret CF.1 CF.2.1 hr (fun t9 ht9 hW9 => ⟨⟨_, σ1, rfl, ⟨Or.inl ⟨i_14, ⟨by omega, ⟨by omega, by omega⟩, hx_19⟩, Or.inl ⟨i_30, by omega, by omega, (due_okR z3 z4 (by omega)).mp hr_39a, hx_35, rfl⟩⟩, hR, hO, hT⟩, by show va_P G vwCl (w1 ad cA σ1) t9.heap; rw [ht9]; exact hP1⟩, hS1.F ht9⟩) hS1.2.2 dX1_needs_92
          · refine z_if_eq CF (tgt := 93) (nIz (by omega)) dX1_needs_87 (by decide) (fun _ => ?_) (fun h => absurd h (by decide))
            refine lv_iinc (v := nI (i_30 + 1)) (lv' := [(4, .int (nI (i_30 + 1))), (0, .ref (ad 0)), (1, .int (nI (f))), (2, .int (nI (t))), (3, .int (nI (i_14)))]) CF.1 CF.2.1 dX1_needs_93 hl (k := 4) rfl (by first | exact nI_add _ _ | rfl) (by decide) rfl (fun ls hl => ?_)
            refine lv_goto (tgt := 72) CF.1 CF.2.1 dX1_needs_96 (by decide) ?_
            exact ih_31 () ls (by omega) (fun y h1 h2 => by rcases Nat.lt_or_ge y i_30 with z | z; exact hx_35 y h1 z; rw [show y = i_30 by omega]; exact (fun hz => hr_39n ((due_okR z3 z4 (by omega)).mpr hz))) (lv_sub hl [1, 2, 3, 4, 0] rfl)
      · refine lv_goto (tgt := 101) CF.1 CF.2.1 dX1_needs_66 (by decide) ?_
        refine lv_iinc (v := nI (i_14 + 1)) (lv' := [(3, .int (nI (i_14 + 1))), (0, .ref (ad 0)), (1, .int (nI (f))), (2, .int (nI (t)))]) CF.1 CF.2.1 dX1_needs_101 hl (k := 3) rfl (by first | exact nI_add _ _ | rfl) (by decide) rfl (fun ls hl => ?_)
        refine lv_goto (tgt := 38) CF.1 CF.2.1 dX1_needs_104 (by decide) ?_
        exact ih_15 () ls (by omega) (fst_s hx_19 (by rintro ⟨h1, h2⟩; omega)) (lv_sub hl [1, 2, 3, 0] rfl)
set_option maxHeartbeats 1000000 in
set_option maxRecDepth 100000 in
theorem c1_order (l : Launch) {G : va_G} {cA : ClassId} {ad : Nat → Nat} {σ : RS} (hj : inj8 ad) {b : BS} (hI : InvC b) (hR : Rc σ b) (hO : Ro σ b) (hOi : InvO b) {u f t a k : Nat} (hu : u < b 0 2) (hf : f < 5) (ht : t < 5) (hne : f ≠ t) (ha0 : 1 ≤ a) (ha : a ≤ 99999) (hk0 : 1 ≤ k) (hk : k ≤ 99999) (hw : b 0 3 < 10) : Met l yX1_order (ws_ yX1_order cX1_order 7 (some .int)) (rmk 8 1 5) (pc1 G cA ad σ [.ref (ad 0), .int (nI (u)), .int (nI (f)), .int (nI (t)), .int (nI (a)), .int (nI (k))]) (va_Qi (fun (r : Int32) (σ' : RS) => r = nI (b 0 3 + 1) ∧ Rc σ' (s_order b u f t a k) ∧ Ro σ' (s_order b u f t a k) ∧ σ' 0 6 = nI 0) (fun σ' t => va_P G vwCl (w1 ad cA σ') t.heap) (own8 ad)) 1 5 (own8 ad) := by
  refine Met.ofW (cc := cX1_order) (maxL := 7) (ret := (some .int)) (by decide) rfl ?_
  intro p e s m args below meth c s₁ B hml hv
  obtain ⟨rfl, hP, hK⟩ := hv
  have CF : CallFix p m c cX1_order 7 s _ AW RX1 := ⟨B.exec, B.bytes, hml, findClass_of_methodNamed B.named, fun w h => atoms_spec (ws := ws_ yX1_order cX1_order 7 (some .int)) B.pre w (List.mem_cons_of_mem _ h)⟩
  have hr := B.returns
  have hlocks := B.notSynchronized
  have hl := lv_entry ([.ref (ad 0), .int (nI (u)), .int (nI (f)), .int (nI (t)), .int (nI (a)), .int (nI (k))]) (n := 7) (Nat.le_of_ble_eq_true rfl)
  rw [lg_entry_eq]
  generalize (lg_sl ([.ref (ad 0), .int (nI (u)), .int (nI (f)), .int (nI (t)), .int (nI (a)), .int (nI (k))]) ++ List.replicate (7 - (lg_sl ([.ref (ad 0), .int (nI (u)), .int (nI (f)), .int (nI (t)), .int (nI (a)), .int (nI (k))])).length) Slot.unset).toArray = ls at hl ⊢
  have hl : lv_has ls 7 [(0, .ref (ad 0)), (1, .int (nI (u))), (2, .int (nI (f))), (3, .int (nI (t))), (4, .int (nI (a))), (5, .int (nI (k)))] := hl
  have hD : va_D (own8 ad) (w1 ad cA σ) := w1_D hj (fun _ h => h)
  have hS : va_S (own8 ad) s.heap s.heap [] := va_S.rf
  obtain ⟨i_sp, i_cu, i_ra, i_di, i_mo, i_pu⟩ := id hI
  have hw10 := hOi.1
  refine lv_aload_n CF.1 CF.2.1 dX1_order_0 rfl (lv_at hl 0 rfl) ?_
  refine lv_iconst (v := nI 0) CF.1 CF.2.1 dX1_order_1 (by decide) ?_
  refine x1_p_thrown CF hK hP hD hS dX1_order_2 (fun σ1 H1 locs hσ1 hP1 hD1 hS1 => ?_)
  have hR : Rc σ1 b := Rc_th hR hσ1
  have hO : Ro σ1 b := Ro_th hO hσ1
  have hT : σ1 0 6 = nI 0 := by rw [hσ1, up_s]
  refine lv_aload_n CF.1 CF.2.1 dX1_order_5 rfl (lv_at hl 0 rfl) ?_
  refine lv_iload_n CF.1 CF.2.1 dX1_order_6 rfl (lv_at hl 1 rfl) ?_
  refine c1_i CF hK hP1 (As := [.int (nI (u))]) (rest := []) (c1_isCustomer l hI hR (nI (u))) rfl lk_RX1_X1_isCustomer rfl hl.1 ⟨Nat.le_of_ble_eq_true rfl, Nat.le_of_ble_eq_true rfl⟩ ⟨Nat.zero_le _, Nat.zero_le _⟩ (Nat.le_of_ble_eq_true rfl) rfl dX1_order_7 (fun r_2 hr_3 => ?_)
  have hxh_4 := nIz (n := u) (by omega)
  rcases hr_3 with ⟨rfl, -, -⟩ | ⟨rfl, h9⟩
  rotate_left
  · exact absurd h9 (by rw [hxh_4]; omega)
  rw [show (1 : Int32) = nI 1 by rfl]
  refine z_if_eq CF (tgt := 27) (nIz (by omega)) dX1_order_10 (by decide) (fun h => absurd h (by decide)) (fun _ => ?_)
  refine lv_iload_n CF.1 CF.2.1 dX1_order_13 rfl (lv_at hl 2 rfl) ?_
  refine cS_i CF (As := [.int (nI (f))]) (rest := []) (c1_isMoney l (nI (f))) lk_RX1_X1_isMoney rfl hl.1 ⟨Nat.le_of_ble_eq_true rfl, Nat.le_of_ble_eq_true rfl⟩ ⟨Nat.zero_le _, Nat.zero_le _⟩ (Nat.le_of_ble_eq_true rfl) rfl dX1_order_14 (fun r_7 hr_8 => ?_)
  have hxh_9 := nIz (n := f) (by omega)
  rcases hr_8 with ⟨rfl, -, -⟩ | ⟨rfl, h9⟩
  rotate_left
  · exact absurd h9 (by rw [hxh_9]; omega)
  rw [show (1 : Int32) = nI 1 by rfl]
  refine z_if_eq CF (tgt := 27) (nIz (by omega)) dX1_order_17 (by decide) (fun h => absurd h (by decide)) (fun _ => ?_)
  refine lv_iload_n CF.1 CF.2.1 dX1_order_20 rfl (lv_at hl 3 rfl) ?_
  refine cS_i CF (As := [.int (nI (t))]) (rest := []) (c1_isMoney l (nI (t))) lk_RX1_X1_isMoney rfl hl.1 ⟨Nat.le_of_ble_eq_true rfl, Nat.le_of_ble_eq_true rfl⟩ ⟨Nat.zero_le _, Nat.zero_le _⟩ (Nat.le_of_ble_eq_true rfl) rfl dX1_order_21 (fun r_12 hr_13 => ?_)
  have hxh_14 := nIz (n := t) (by omega)
  rcases hr_13 with ⟨rfl, -, -⟩ | ⟨rfl, h9⟩
  rotate_left
  · exact absurd h9 (by rw [hxh_14]; omega)
  rw [show (1 : Int32) = nI 1 by rfl]
  refine z_if_ne CF (tgt := 33) (nIz (by omega)) dX1_order_24 (by decide) (fun _ => ?_) (fun h => absurd h (by decide))
  refine lv_iload_n CF.1 CF.2.1 dX1_order_33 rfl (lv_at hl 2 rfl) ?_
  refine lv_iload_n CF.1 CF.2.1 dX1_order_34 rfl (lv_at hl 3 rfl) ?_
  refine z_icmp_eq CF (tgt := 60) (nIz (by omega)) (nIz (by omega)) dX1_order_35 (by decide) (fun h_17 => absurd h_17 (by omega)) (fun h_18 => ?_)
  refine lv_iload CF.1 CF.2.1 dX1_order_38 (lv_at hl 4 rfl) ?_
  refine lv_iconst (v := nI 1) CF.1 CF.2.1 dX1_order_40 (by decide) ?_
  refine lv_ldc (v := nI 99999) CF.1 CF.2.1 CF.2.2.2.1 (CF.2.2.2.2 _ (inr_9 _ (List.mem_of_getElem? (i := 21) rfl))) dX1_order_41 ?_
  refine cS_i CF (As := [.int (nI (a)), .int (nI (1)), .int (nI (99999))]) (rest := []) (c1_isIn l (nI (a)) (nI (1)) (nI (99999)) (nIz (by omega)) (nIz (by omega))) lk_RX1_X1_isIn rfl hl.1 ⟨Nat.le_of_ble_eq_true rfl, Nat.le_of_ble_eq_true rfl⟩ ⟨Nat.zero_le _, Nat.zero_le _⟩ (Nat.le_of_ble_eq_true rfl) rfl dX1_order_43 (fun r_19 hr_20 => ?_)
  have hxhr_20 := nIz (n := a) (by omega)
  rcases hr_20 with ⟨rfl, -, -⟩ | ⟨rfl, h9⟩
  rotate_left
  · exact absurd h9 (by rw [hxhr_20]; omega)
  rw [show (1 : Int32) = nI 1 by rfl]
  refine z_if_eq CF (tgt := 60) (nIz (by omega)) dX1_order_46 (by decide) (fun h => absurd h (by decide)) (fun _ => ?_)
  refine lv_iload CF.1 CF.2.1 dX1_order_49 (lv_at hl 5 rfl) ?_
  refine lv_iconst (v := nI 1) CF.1 CF.2.1 dX1_order_51 (by decide) ?_
  refine lv_ldc (v := nI 99999) CF.1 CF.2.1 CF.2.2.2.1 (CF.2.2.2.2 _ (inr_9 _ (List.mem_of_getElem? (i := 21) rfl))) dX1_order_52 ?_
  refine cS_i CF (As := [.int (nI (k)), .int (nI (1)), .int (nI (99999))]) (rest := []) (c1_isIn l (nI (k)) (nI (1)) (nI (99999)) (nIz (by omega)) (nIz (by omega))) lk_RX1_X1_isIn rfl hl.1 ⟨Nat.le_of_ble_eq_true rfl, Nat.le_of_ble_eq_true rfl⟩ ⟨Nat.zero_le _, Nat.zero_le _⟩ (Nat.le_of_ble_eq_true rfl) rfl dX1_order_54 (fun r_23 hr_24 => ?_)
  have hxhr_24 := nIz (n := k) (by omega)
  rcases hr_24 with ⟨rfl, -, -⟩ | ⟨rfl, h9⟩
  rotate_left
  · exact absurd h9 (by rw [hxhr_24]; omega)
  rw [show (1 : Int32) = nI 1 by rfl]
  refine z_if_ne CF (tgt := 66) (nIz (by omega)) dX1_order_57 (by decide) (fun _ => ?_) (fun h => absurd h (by decide))
  refine lv_aload_n CF.1 CF.2.1 dX1_order_66 rfl (lv_at hl 0 rfl) ?_
  refine x1_g_waiting CF hK hP1 (v := (nI (b 0 3))) (hO.1) dX1_order_67 ?_
  refine lv_bipush (v := nI 10) CF.1 CF.2.1 dX1_order_70 (by decide) ?_
  refine z_icmp_ne CF (tgt := 81) (nIz (by omega)) (nIz (by omega)) dX1_order_72 (by decide) (fun h_27 => ?_) (fun h_28 => absurd h_28 (by omega))
  have hS9 : va_S (fun q => own8 ad q ∨ s.heap.size ≤ q) s.heap H1 locs := ⟨hS1.1, fun q h1 h2 => hS1.2.1 q h1 (fun h => h2 (Or.inl h)), fun q hq => Or.inl (hS1.2.2 q hq)⟩
  have hD9 : va_D (fun q => own8 ad q ∨ s.heap.size ≤ q) (w1 ad cA σ1) := w1_D hj (fun _ h => Or.inl h)
  refine lv_iconst (v := nI 5) CF.1 CF.2.1 dX1_order_81 (by decide) ?_
  refine va_newa (D := G) (ty := .int) (N' := 5) (a0 := (5, .inl (fun _ => 0))) CF.1 CF.2.1 (CF.2.2.2.2 _ (inr_1 _ (List.mem_of_getElem? (i := 14) rfl))) rfl hK hP1 hD9 hS9 (fun _ h => Or.inr h) (fun _ => rfl) (by decide) (by decide) (by decide) (Nat.le_of_ble_eq_true rfl) (Nat.le_of_ble_eq_true rfl) dX1_order_82 (fun qn kn Hn hKn hPn hDn hSn => ?_)
  refine lv_dup CF.1 CF.2.1 dX1_order_84 rfl ?_
  refine lv_iconst (v := nI 0) CF.1 CF.2.1 dX1_order_85 (by decide) ?_
  refine lv_iload_n CF.1 CF.2.1 dX1_order_86 rfl (lv_at hl 1 rfl) ?_
  refine va_iast (D := G) CF.1 CF.2.1 hKn hPn hDn hSn 8 1 rfl rfl (vp_in_nI (by decide) (by decide)) dX1_order_87 (fun Hn locs hPn hDn hSn => ?_)
  have hPn : va_P G vwCl (w1 ad cA σ1 ++ [(qn, .inl (kn, 5, .inl (upd (fun _ => 0) 0 (nI u))))]) Hn := hPn
  have hDn : va_D (fun q => own8 ad q ∨ s.heap.size ≤ q) (w1 ad cA σ1 ++ [(qn, .inl (kn, 5, .inl (upd (fun _ => 0) 0 (nI u))))]) := hDn
  refine lv_dup CF.1 CF.2.1 dX1_order_88 rfl ?_
  refine lv_iconst (v := nI 1) CF.1 CF.2.1 dX1_order_89 (by decide) ?_
  refine lv_iload_n CF.1 CF.2.1 dX1_order_90 rfl (lv_at hl 2 rfl) ?_
  refine va_iast (D := G) CF.1 CF.2.1 hKn hPn hDn hSn 8 1 rfl rfl (vp_in_nI (by decide) (by decide)) dX1_order_91 (fun Hn locs hPn hDn hSn => ?_)
  have hPn : va_P G vwCl (w1 ad cA σ1 ++ [(qn, .inl (kn, 5, .inl (upd (upd (fun _ => 0) 0 (nI u)) 1 (nI f))))]) Hn := hPn
  have hDn : va_D (fun q => own8 ad q ∨ s.heap.size ≤ q) (w1 ad cA σ1 ++ [(qn, .inl (kn, 5, .inl (upd (upd (fun _ => 0) 0 (nI u)) 1 (nI f))))]) := hDn
  refine lv_dup CF.1 CF.2.1 dX1_order_92 rfl ?_
  refine lv_iconst (v := nI 2) CF.1 CF.2.1 dX1_order_93 (by decide) ?_
  refine lv_iload_n CF.1 CF.2.1 dX1_order_94 rfl (lv_at hl 3 rfl) ?_
  refine va_iast (D := G) CF.1 CF.2.1 hKn hPn hDn hSn 8 1 rfl rfl (vp_in_nI (by decide) (by decide)) dX1_order_95 (fun Hn locs hPn hDn hSn => ?_)
  have hPn : va_P G vwCl (w1 ad cA σ1 ++ [(qn, .inl (kn, 5, .inl (upd (upd (upd (fun _ => 0) 0 (nI u)) 1 (nI f)) 2 (nI t))))]) Hn := hPn
  have hDn : va_D (fun q => own8 ad q ∨ s.heap.size ≤ q) (w1 ad cA σ1 ++ [(qn, .inl (kn, 5, .inl (upd (upd (upd (fun _ => 0) 0 (nI u)) 1 (nI f)) 2 (nI t))))]) := hDn
  refine lv_dup CF.1 CF.2.1 dX1_order_96 rfl ?_
  refine lv_iconst (v := nI 3) CF.1 CF.2.1 dX1_order_97 (by decide) ?_
  refine lv_iload CF.1 CF.2.1 dX1_order_98 (lv_at hl 4 rfl) ?_
  refine va_iast (D := G) CF.1 CF.2.1 hKn hPn hDn hSn 8 1 rfl rfl (vp_in_nI (by decide) (by decide)) dX1_order_100 (fun Hn locs hPn hDn hSn => ?_)
  have hPn : va_P G vwCl (w1 ad cA σ1 ++ [(qn, .inl (kn, 5, .inl (upd (upd (upd (upd (fun _ => 0) 0 (nI u)) 1 (nI f)) 2 (nI t)) 3 (nI a))))]) Hn := hPn
  have hDn : va_D (fun q => own8 ad q ∨ s.heap.size ≤ q) (w1 ad cA σ1 ++ [(qn, .inl (kn, 5, .inl (upd (upd (upd (upd (fun _ => 0) 0 (nI u)) 1 (nI f)) 2 (nI t)) 3 (nI a))))]) := hDn
  refine lv_dup CF.1 CF.2.1 dX1_order_101 rfl ?_
  refine lv_iconst (v := nI 4) CF.1 CF.2.1 dX1_order_102 (by decide) ?_
  refine lv_iload CF.1 CF.2.1 dX1_order_103 (lv_at hl 5 rfl) ?_
  refine va_iast (D := G) CF.1 CF.2.1 hKn hPn hDn hSn 8 1 rfl rfl (vp_in_nI (by decide) (by decide)) dX1_order_105 (fun Hn locs hPn hDn hSn => ?_)
  have hPn : va_P G vwCl (w1 ad cA σ1 ++ [(qn, .inl (kn, 5, .inl (upd (upd (upd (upd (upd (fun _ => 0) 0 (nI u)) 1 (nI f)) 2 (nI t)) 3 (nI a)) 4 (nI k))))]) Hn := hPn
  have hDn : va_D (fun q => own8 ad q ∨ s.heap.size ≤ q) (w1 ad cA σ1 ++ [(qn, .inl (kn, 5, .inl (upd (upd (upd (upd (upd (fun _ => 0) 0 (nI u)) 1 (nI f)) 2 (nI t)) 3 (nI a)) 4 (nI k))))]) := hDn
  have hPw : va_P G vwCl (w1 ad cA σ1) Hn := fun k q hk => hPn k q (by rw [List.getElem?_append_left (List.getElem?_eq_some_iff.mp hk).1]; exact hk)
  refine lv_astore (lv' := [(6, .ref (qn)), (0, .ref (ad 0)), (1, .int (nI (u))), (2, .int (nI (f))), (3, .int (nI (t))), (4, .int (nI (a))), (5, .int (nI (k)))]) CF.1 CF.2.1 dX1_order_106 hl (by decide) rfl (fun ls hl => ?_)
  refine lv_aload CF.1 CF.2.1 dX1_order_108 (lv_at hl 0 rfl) ?_
  refine lv_iconst (v := nI 0) CF.1 CF.2.1 dX1_order_110 (by decide) ?_
  refine lv_aload_n CF.1 CF.2.1 dX1_order_111 rfl (lv_at hl 1 rfl) ?_
  refine x1_g_orders CF hK hPw dX1_order_112 ?_
  refine lv_iconst (v := nI 5) CF.1 CF.2.1 dX1_order_115 (by decide) ?_
  refine lv_aload_n CF.1 CF.2.1 dX1_order_116 rfl (lv_at hl 1 rfl) ?_
  refine x1_g_waiting CF hK hPw (v := (nI (b 0 3))) (hO.1) dX1_order_117 ?_
  refine o_imul CF dX1_order_120 ?_
  refine tpi (congrArg nI (Nat.mul_comm _ _)) ?_
  refine lv_iconst (v := nI 5) CF.1 CF.2.1 dX1_order_121 (by decide) ?_
  have e1 : (nI (b 0 3 * 5)).toNatClampNeg = b 0 3 * 5 := nI_clamp (by omega)
  refine va_copyi (D := G) CF.1 CF.2.1 (CF.2.2.1.trans hl.1.symm) CF.2.2.2.1 (CF.2.2.2.2 _ (inr_8 _ (List.mem_of_getElem? (i := 14) rfl))) (CF.2.2.2.2 _ (inr_8 _ (List.mem_of_getElem? (i := 15) rfl))) (CF.2.2.2.2 _ (inr_8 _ (List.mem_of_getElem? (i := 16) rfl))) (CF.2.2.2.2 _ (inr_8 _ (List.mem_of_getElem? (i := 17) rfl))) hKn hPn hDn hSn 8 7 1 0 rfl rfl rfl rfl rfl (by decide) (nI_pos (by omega)) (by decide) (by decide) (by rw [e1]; show b 0 3 * 5 + 5 ≤ 50; omega) (fun _ _ => rfl) (Nat.le_of_ble_eq_true rfl) (Nat.le_of_ble_eq_true rfl) dX1_order_122 (fun Hn locs hPn hDn hSn => ?_)
  rw [e1] at hPn hDn
  have hPw : va_P G vwCl (w1 ad cA (fun c => if c = 7 then va_cpy (f5 u f t a k) (σ1 7) 0 (b 0 3 * 5) 5 else σ1 c)) Hn := by
    intro k q hk
    have hk8 := (w1_len hk).1
    exact hPn k q (by rw [← hk]; rcases (show k = 0 ∨ k = 1 ∨ k = 2 ∨ k = 3 ∨ k = 4 ∨ k = 5 ∨ k = 6 ∨ k = 7 by omega) with rfl | rfl | rfl | rfl | rfl | rfl | rfl | rfl <;> rfl)
  rw [f5_R] at hPw
  refine W_old (free := own8 ad) hSn (fun locs hSw => ?_)
  generalize hq1 : up σ1 7 (b 0 3 * 5 + 0) (nI u) = q1 at hPw
  generalize hq2 : up q1 7 (b 0 3 * 5 + 1) (nI f) = q2 at hPw
  generalize hq3 : up q2 7 (b 0 3 * 5 + 2) (nI t) = q3 at hPw
  generalize hq4 : up q3 7 (b 0 3 * 5 + 3) (nI a) = q4 at hPw
  generalize hq5 : up q4 7 (b 0 3 * 5 + 4) (nI k) = q5 at hPw
  have hDw : va_D (own8 ad) (w1 ad cA q5) := w1_D hj (fun _ h => h)
  have hw5 : q5 0 3 = nI (b 0 3) := by rw [← hq5, up_7, ← hq4, up_7, ← hq3, up_7, ← hq2, up_7, ← hq1, up_7]; exact hO.1
  have ht5 : q5 0 6 = nI 0 := by rw [← hq5, up_7, ← hq4, up_7, ← hq3, up_7, ← hq2, up_7, ← hq1, up_7]; exact hT
  refine lv_aload_n CF.1 CF.2.1 dX1_order_125 rfl (lv_at hl 1 rfl) ?_
  refine lv_dup CF.1 CF.2.1 dX1_order_126 rfl ?_
  refine x1_g_waiting CF hK hPw (v := (nI (b 0 3))) hw5 dX1_order_127 ?_
  refine lv_iconst (v := nI 1) CF.1 CF.2.1 dX1_order_130 (by decide) ?_
  refine o_iadd CF dX1_order_131 ?_
  refine x1_p_waiting CF hK hPw hDw hSw dX1_order_132 (fun σ29 H29 locs hσ29 hP29 hD29 hS29 => ?_)
  refine lv_aload_n CF.1 CF.2.1 dX1_order_135 rfl (lv_at hl 1 rfl) ?_
  refine x1_g_waiting CF hK hP29 (v := (nI (b 0 3 + 1))) (by rw [hσ29, up_s]) dX1_order_136 ?_
  exact W.iret CF.1 CF.2.1 hr (fun t9 ht9 hW9 => ⟨⟨_, σ29, rfl, ⟨rfl, (ord_R hR hO hq1.symm hq2.symm hq3.symm hq4.symm hq5.symm hσ29).1, (ord_R hR hO hq1.symm hq2.symm hq3.symm hq4.symm hq5.symm hσ29).2, by rw [hσ29, up_i (by decide)]; exact ht5⟩, by show va_P G vwCl (w1 ad cA σ29) t9.heap; rw [ht9]; exact hP29⟩, hS29.F ht9⟩) hS29.2.2 dX1_order_139
set_option maxHeartbeats 1000000 in
set_option maxRecDepth 100000 in
theorem b1_order (l : Launch) {G : va_G} {cA : ClassId} {ad : Nat → Nat} {σ : RS} (hj : inj8 ad) {b : BS} (hI : InvC b) (hR : Rc σ b) (hO : Ro σ b) (hOi : InvO b) (x y z w v : Int32) (hbad : ¬ (0 ≤ x.toInt ∧ x.toInt < (b 0 2 : Nat) ∧ 0 ≤ y.toInt ∧ y.toInt < 5 ∧ 0 ≤ z.toInt ∧ z.toInt < 5 ∧ y.toInt ≠ z.toInt ∧ 1 ≤ w.toInt ∧ w.toInt ≤ 99999 ∧ 1 ≤ v.toInt ∧ v.toInt ≤ 99999 ∧ b 0 3 < 10)) : Met l yX1_order (ws_ yX1_order cX1_order 7 (some .int)) (rmk 8 0 0) (pc1 G cA ad σ [.ref (ad 0), .int (x), .int (y), .int (z), .int (w), .int (v)]) (va_Qi (fun (_ : Int32) (σ' : RS) => Rc σ' b ∧ Ro σ' b ∧ ((σ' 0 6 = nI 1 ∧ (¬ (0 ≤ x.toInt ∧ x.toInt < (b 0 2 : Nat) ∧ 0 ≤ y.toInt ∧ y.toInt < 5 ∧ 0 ≤ z.toInt ∧ z.toInt < 5))) ∨ (σ' 0 6 = nI 2 ∧ ((0 ≤ x.toInt ∧ x.toInt < (b 0 2 : Nat) ∧ 0 ≤ y.toInt ∧ y.toInt < 5 ∧ 0 ≤ z.toInt ∧ z.toInt < 5) ∧ ¬ (y.toInt ≠ z.toInt ∧ 1 ≤ w.toInt ∧ w.toInt ≤ 99999 ∧ 1 ≤ v.toInt ∧ v.toInt ≤ 99999))) ∨ (σ' 0 6 = nI 3 ∧ ((0 ≤ x.toInt ∧ x.toInt < (b 0 2 : Nat) ∧ 0 ≤ y.toInt ∧ y.toInt < 5 ∧ 0 ≤ z.toInt ∧ z.toInt < 5) ∧ (y.toInt ≠ z.toInt ∧ 1 ≤ w.toInt ∧ w.toInt ≤ 99999 ∧ 1 ≤ v.toInt ∧ v.toInt ≤ 99999))))) (fun σ' t => va_P G vwCl (w1 ad cA σ') t.heap) (own8 ad)) 0 0 (own8 ad) := by
  refine Met.ofW (cc := cX1_order) (maxL := 7) (ret := (some .int)) (by decide) rfl ?_
  intro p e s m args below meth c s₁ B hml hv
  obtain ⟨rfl, hP, hK⟩ := hv
  have CF : CallFix p m c cX1_order 7 s _ AW RX1 := ⟨B.exec, B.bytes, hml, findClass_of_methodNamed B.named, fun w h => atoms_spec (ws := ws_ yX1_order cX1_order 7 (some .int)) B.pre w (List.mem_cons_of_mem _ h)⟩
  have hr := B.returns
  have hlocks := B.notSynchronized
  have hl := lv_entry ([.ref (ad 0), .int (x), .int (y), .int (z), .int (w), .int (v)]) (n := 7) (Nat.le_of_ble_eq_true rfl)
  rw [lg_entry_eq]
  generalize (lg_sl ([.ref (ad 0), .int (x), .int (y), .int (z), .int (w), .int (v)]) ++ List.replicate (7 - (lg_sl ([.ref (ad 0), .int (x), .int (y), .int (z), .int (w), .int (v)])).length) Slot.unset).toArray = ls at hl ⊢
  have hl : lv_has ls 7 [(0, .ref (ad 0)), (1, .int (x)), (2, .int (y)), (3, .int (z)), (4, .int (w)), (5, .int (v))] := hl
  have hD : va_D (own8 ad) (w1 ad cA σ) := w1_D hj (fun _ h => h)
  have hS : va_S (own8 ad) s.heap s.heap [] := va_S.rf
  obtain ⟨i_sp, i_cu, i_ra, i_di, i_mo, i_pu⟩ := id hI
  have hw10 := hOi.1
  refine lv_aload_n CF.1 CF.2.1 dX1_order_0 rfl (lv_at hl 0 rfl) ?_
  refine lv_iconst (v := nI 0) CF.1 CF.2.1 dX1_order_1 (by decide) ?_
  refine x1_p_thrown CF hK hP hD hS dX1_order_2 (fun σ1 H1 locs hσ1 hP1 hD1 hS1 => ?_)
  have hR : Rc σ1 b := Rc_th hR hσ1
  have hO : Ro σ1 b := Ro_th hO hσ1
  have hT : σ1 0 6 = nI 0 := by rw [hσ1, up_s]
  refine lv_aload_n CF.1 CF.2.1 dX1_order_5 rfl (lv_at hl 0 rfl) ?_
  refine lv_iload_n CF.1 CF.2.1 dX1_order_6 rfl (lv_at hl 1 rfl) ?_
  refine c1_i CF hK hP1 (As := [.int (x)]) (rest := []) (c1_isCustomer l hI hR ((x))) rfl lk_RX1_X1_isCustomer rfl hl.1 ⟨Nat.le_of_ble_eq_true rfl, Nat.le_of_ble_eq_true rfl⟩ ⟨Nat.zero_le _, Nat.zero_le _⟩ (Nat.le_of_ble_eq_true rfl) rfl dX1_order_7 (fun r_2 hr_3 => ?_)
  rcases hr_3 with ⟨rfl, h_6, h_7⟩ | ⟨rfl, h_8⟩
  · rw [show (1 : Int32) = nI 1 by rfl]
    obtain ⟨j_4, h_5, rfl⟩ := nI_ex (x := x) (n := b 0 2) (by omega) (by omega)
    have hzj_4 := nIz (n := j_4) (by omega)
    refine z_if_eq CF (tgt := 27) (nIz (by omega)) dX1_order_10 (by decide) (fun h => absurd h (by decide)) (fun _ => ?_)
    refine lv_iload_n CF.1 CF.2.1 dX1_order_13 rfl (lv_at hl 2 rfl) ?_
    refine cS_i CF (As := [.int (y)]) (rest := []) (c1_isMoney l ((y))) lk_RX1_X1_isMoney rfl hl.1 ⟨Nat.le_of_ble_eq_true rfl, Nat.le_of_ble_eq_true rfl⟩ ⟨Nat.zero_le _, Nat.zero_le _⟩ (Nat.le_of_ble_eq_true rfl) rfl dX1_order_14 (fun r_11 hr_12 => ?_)
    rcases hr_12 with ⟨rfl, h_15, h_16⟩ | ⟨rfl, h_17⟩
    · rw [show (1 : Int32) = nI 1 by rfl]
      obtain ⟨j_13, h_14, rfl⟩ := nI_ex (x := y) (n := 5) (by omega) (by omega)
      have hzj_13 := nIz (n := j_13) (by omega)
      refine z_if_eq CF (tgt := 27) (nIz (by omega)) dX1_order_17 (by decide) (fun h => absurd h (by decide)) (fun _ => ?_)
      refine lv_iload_n CF.1 CF.2.1 dX1_order_20 rfl (lv_at hl 3 rfl) ?_
      refine cS_i CF (As := [.int (z)]) (rest := []) (c1_isMoney l ((z))) lk_RX1_X1_isMoney rfl hl.1 ⟨Nat.le_of_ble_eq_true rfl, Nat.le_of_ble_eq_true rfl⟩ ⟨Nat.zero_le _, Nat.zero_le _⟩ (Nat.le_of_ble_eq_true rfl) rfl dX1_order_21 (fun r_20 hr_21 => ?_)
      rcases hr_21 with ⟨rfl, h_24, h_25⟩ | ⟨rfl, h_26⟩
      · rw [show (1 : Int32) = nI 1 by rfl]
        obtain ⟨j_22, h_23, rfl⟩ := nI_ex (x := z) (n := 5) (by omega) (by omega)
        have hzj_22 := nIz (n := j_22) (by omega)
        refine z_if_ne CF (tgt := 33) (nIz (by omega)) dX1_order_24 (by decide) (fun _ => ?_) (fun h => absurd h (by decide))
        refine lv_iload_n CF.1 CF.2.1 dX1_order_33 rfl (lv_at hl 2 rfl) ?_
        refine lv_iload_n CF.1 CF.2.1 dX1_order_34 rfl (lv_at hl 3 rfl) ?_
        refine z_icmp_eq CF (tgt := 60) (nIz (by omega)) (nIz (by omega)) dX1_order_35 (by decide) (fun h_29 => ?_) (fun h_30 => ?_)
        · refine lv_aload_n CF.1 CF.2.1 dX1_order_60 rfl (lv_at hl 0 rfl) ?_
          refine lv_iconst (v := nI 2) CF.1 CF.2.1 dX1_order_61 (by decide) ?_
          refine d1_i CF hK hP1 hj (fun _ h => h) hS1 (As := [.int (nI (2))]) (rest := []) (c1_fail l hj (σ := σ1) (nI 2)) rfl lk_RX1_X1_fail rfl hl.1 ⟨Nat.le_of_ble_eq_true rfl, Nat.le_of_ble_eq_true rfl⟩ ⟨Nat.zero_le _, Nat.zero_le _⟩ (Nat.le_of_ble_eq_true rfl) rfl dX1_order_62 (fun r_31 σ33 H33 locs hr_32 hP33 hD33 hS33 hz33 hk33 => ?_)
          obtain ⟨rfl, hF_r_31⟩ := hr_32
          exact W.iret CF.1 CF.2.1 hr (fun t9 ht9 hW9 => ⟨⟨_, σ33, rfl, ⟨Rc_th hR hF_r_31, Ro_th hO hF_r_31, Or.inr (Or.inl ⟨by rw [hF_r_31, up_s], by omega⟩)⟩, by show va_P G vwCl (w1 ad cA σ33) t9.heap; rw [ht9]; exact hP33⟩, hS33.F ht9⟩) hS33.2.2 dX1_order_65
        · refine lv_iload CF.1 CF.2.1 dX1_order_38 (lv_at hl 4 rfl) ?_
          refine lv_iconst (v := nI 1) CF.1 CF.2.1 dX1_order_40 (by decide) ?_
          refine lv_ldc (v := nI 99999) CF.1 CF.2.1 CF.2.2.2.1 (CF.2.2.2.2 _ (inr_9 _ (List.mem_of_getElem? (i := 21) rfl))) dX1_order_41 ?_
          refine cS_i CF (As := [.int (w), .int (nI (1)), .int (nI (99999))]) (rest := []) (c1_isIn l ((w)) (nI (1)) (nI (99999)) (nIz (by omega)) (nIz (by omega))) lk_RX1_X1_isIn rfl hl.1 ⟨Nat.le_of_ble_eq_true rfl, Nat.le_of_ble_eq_true rfl⟩ ⟨Nat.zero_le _, Nat.zero_le _⟩ (Nat.le_of_ble_eq_true rfl) rfl dX1_order_43 (fun r_34 hr_35 => ?_)
          rcases hr_35 with ⟨rfl, h_38, h_39⟩ | ⟨rfl, h_40⟩
          · rw [show (1 : Int32) = nI 1 by rfl]
            obtain ⟨j_36, h_37, rfl⟩ := nI_ex (x := w) (n := 100000) (by omega) (by omega)
            have hzj_36 := nIz (n := j_36) (by omega)
            refine z_if_eq CF (tgt := 60) (nIz (by omega)) dX1_order_46 (by decide) (fun h => absurd h (by decide)) (fun _ => ?_)
            refine lv_iload CF.1 CF.2.1 dX1_order_49 (lv_at hl 5 rfl) ?_
            refine lv_iconst (v := nI 1) CF.1 CF.2.1 dX1_order_51 (by decide) ?_
            refine lv_ldc (v := nI 99999) CF.1 CF.2.1 CF.2.2.2.1 (CF.2.2.2.2 _ (inr_9 _ (List.mem_of_getElem? (i := 21) rfl))) dX1_order_52 ?_
            refine cS_i CF (As := [.int (v), .int (nI (1)), .int (nI (99999))]) (rest := []) (c1_isIn l ((v)) (nI (1)) (nI (99999)) (nIz (by omega)) (nIz (by omega))) lk_RX1_X1_isIn rfl hl.1 ⟨Nat.le_of_ble_eq_true rfl, Nat.le_of_ble_eq_true rfl⟩ ⟨Nat.zero_le _, Nat.zero_le _⟩ (Nat.le_of_ble_eq_true rfl) rfl dX1_order_54 (fun r_43 hr_44 => ?_)
            rcases hr_44 with ⟨rfl, h_47, h_48⟩ | ⟨rfl, h_49⟩
            · rw [show (1 : Int32) = nI 1 by rfl]
              obtain ⟨j_45, h_46, rfl⟩ := nI_ex (x := v) (n := 100000) (by omega) (by omega)
              have hzj_45 := nIz (n := j_45) (by omega)
              refine z_if_ne CF (tgt := 66) (nIz (by omega)) dX1_order_57 (by decide) (fun _ => ?_) (fun h => absurd h (by decide))
              refine lv_aload_n CF.1 CF.2.1 dX1_order_66 rfl (lv_at hl 0 rfl) ?_
              refine x1_g_waiting CF hK hP1 (v := (nI (b 0 3))) (hO.1) dX1_order_67 ?_
              refine lv_bipush (v := nI 10) CF.1 CF.2.1 dX1_order_70 (by decide) ?_
              refine z_icmp_ne CF (tgt := 81) (nIz (by omega)) (nIz (by omega)) dX1_order_72 (by decide) (fun h_52 => ?_) (fun h_53 => ?_)
              · exact (show False by omega).elim
              · refine lv_aload_n CF.1 CF.2.1 dX1_order_75 rfl (lv_at hl 0 rfl) ?_
                refine lv_iconst (v := nI 3) CF.1 CF.2.1 dX1_order_76 (by decide) ?_
                refine d1_i CF hK hP1 hj (fun _ h => h) hS1 (As := [.int (nI (3))]) (rest := []) (c1_fail l hj (σ := σ1) (nI 3)) rfl lk_RX1_X1_fail rfl hl.1 ⟨Nat.le_of_ble_eq_true rfl, Nat.le_of_ble_eq_true rfl⟩ ⟨Nat.zero_le _, Nat.zero_le _⟩ (Nat.le_of_ble_eq_true rfl) rfl dX1_order_77 (fun r_54 σ56 H56 locs hr_55 hP56 hD56 hS56 hz56 hk56 => ?_)
                obtain ⟨rfl, hF_r_54⟩ := hr_55
                exact W.iret CF.1 CF.2.1 hr (fun t9 ht9 hW9 => ⟨⟨_, σ56, rfl, ⟨Rc_th hR hF_r_54, Ro_th hO hF_r_54, Or.inr (Or.inr (⟨by rw [hF_r_54, up_s], by omega⟩))⟩, by show va_P G vwCl (w1 ad cA σ56) t9.heap; rw [ht9]; exact hP56⟩, hS56.F ht9⟩) hS56.2.2 dX1_order_80
            · rw [show (0 : Int32) = nI 0 by rfl]
              refine z_if_ne CF (tgt := 66) (nIz (by omega)) dX1_order_57 (by decide) (fun h => absurd h (by decide)) (fun _ => ?_)
              refine lv_aload_n CF.1 CF.2.1 dX1_order_60 rfl (lv_at hl 0 rfl) ?_
              refine lv_iconst (v := nI 2) CF.1 CF.2.1 dX1_order_61 (by decide) ?_
              refine d1_i CF hK hP1 hj (fun _ h => h) hS1 (As := [.int (nI (2))]) (rest := []) (c1_fail l hj (σ := σ1) (nI 2)) rfl lk_RX1_X1_fail rfl hl.1 ⟨Nat.le_of_ble_eq_true rfl, Nat.le_of_ble_eq_true rfl⟩ ⟨Nat.zero_le _, Nat.zero_le _⟩ (Nat.le_of_ble_eq_true rfl) rfl dX1_order_62 (fun r_59 σ61 H61 locs hr_60 hP61 hD61 hS61 hz61 hk61 => ?_)
              obtain ⟨rfl, hF_r_59⟩ := hr_60
              exact W.iret CF.1 CF.2.1 hr (fun t9 ht9 hW9 => ⟨⟨_, σ61, rfl, ⟨Rc_th hR hF_r_59, Ro_th hO hF_r_59, Or.inr (Or.inl ⟨by rw [hF_r_59, up_s], by omega⟩)⟩, by show va_P G vwCl (w1 ad cA σ61) t9.heap; rw [ht9]; exact hP61⟩, hS61.F ht9⟩) hS61.2.2 dX1_order_65
          · rw [show (0 : Int32) = nI 0 by rfl]
            refine z_if_eq CF (tgt := 60) (nIz (by omega)) dX1_order_46 (by decide) (fun _ => ?_) (fun h => absurd h (by decide))
            refine lv_aload_n CF.1 CF.2.1 dX1_order_60 rfl (lv_at hl 0 rfl) ?_
            refine lv_iconst (v := nI 2) CF.1 CF.2.1 dX1_order_61 (by decide) ?_
            refine d1_i CF hK hP1 hj (fun _ h => h) hS1 (As := [.int (nI (2))]) (rest := []) (c1_fail l hj (σ := σ1) (nI 2)) rfl lk_RX1_X1_fail rfl hl.1 ⟨Nat.le_of_ble_eq_true rfl, Nat.le_of_ble_eq_true rfl⟩ ⟨Nat.zero_le _, Nat.zero_le _⟩ (Nat.le_of_ble_eq_true rfl) rfl dX1_order_62 (fun r_64 σ66 H66 locs hr_65 hP66 hD66 hS66 hz66 hk66 => ?_)
            obtain ⟨rfl, hF_r_64⟩ := hr_65
            exact W.iret CF.1 CF.2.1 hr (fun t9 ht9 hW9 => ⟨⟨_, σ66, rfl, ⟨Rc_th hR hF_r_64, Ro_th hO hF_r_64, Or.inr (Or.inl ⟨by rw [hF_r_64, up_s], by omega⟩)⟩, by show va_P G vwCl (w1 ad cA σ66) t9.heap; rw [ht9]; exact hP66⟩, hS66.F ht9⟩) hS66.2.2 dX1_order_65
      · rw [show (0 : Int32) = nI 0 by rfl]
        refine z_if_ne CF (tgt := 33) (nIz (by omega)) dX1_order_24 (by decide) (fun h => absurd h (by decide)) (fun _ => ?_)
        refine lv_aload_n CF.1 CF.2.1 dX1_order_27 rfl (lv_at hl 0 rfl) ?_
        refine lv_iconst (v := nI 1) CF.1 CF.2.1 dX1_order_28 (by decide) ?_
        refine d1_i CF hK hP1 hj (fun _ h => h) hS1 (As := [.int (nI (1))]) (rest := []) (c1_fail l hj (σ := σ1) (nI 1)) rfl lk_RX1_X1_fail rfl hl.1 ⟨Nat.le_of_ble_eq_true rfl, Nat.le_of_ble_eq_true rfl⟩ ⟨Nat.zero_le _, Nat.zero_le _⟩ (Nat.le_of_ble_eq_true rfl) rfl dX1_order_29 (fun r_69 σ71 H71 locs hr_70 hP71 hD71 hS71 hz71 hk71 => ?_)
        obtain ⟨rfl, hF_r_69⟩ := hr_70
        exact W.iret CF.1 CF.2.1 hr (fun t9 ht9 hW9 => ⟨⟨_, σ71, rfl, ⟨Rc_th hR hF_r_69, Ro_th hO hF_r_69, Or.inl ⟨by rw [hF_r_69, up_s], by omega⟩⟩, by show va_P G vwCl (w1 ad cA σ71) t9.heap; rw [ht9]; exact hP71⟩, hS71.F ht9⟩) hS71.2.2 dX1_order_32
    · rw [show (0 : Int32) = nI 0 by rfl]
      refine z_if_eq CF (tgt := 27) (nIz (by omega)) dX1_order_17 (by decide) (fun _ => ?_) (fun h => absurd h (by decide))
      refine lv_aload_n CF.1 CF.2.1 dX1_order_27 rfl (lv_at hl 0 rfl) ?_
      refine lv_iconst (v := nI 1) CF.1 CF.2.1 dX1_order_28 (by decide) ?_
      refine d1_i CF hK hP1 hj (fun _ h => h) hS1 (As := [.int (nI (1))]) (rest := []) (c1_fail l hj (σ := σ1) (nI 1)) rfl lk_RX1_X1_fail rfl hl.1 ⟨Nat.le_of_ble_eq_true rfl, Nat.le_of_ble_eq_true rfl⟩ ⟨Nat.zero_le _, Nat.zero_le _⟩ (Nat.le_of_ble_eq_true rfl) rfl dX1_order_29 (fun r_74 σ76 H76 locs hr_75 hP76 hD76 hS76 hz76 hk76 => ?_)
      obtain ⟨rfl, hF_r_74⟩ := hr_75
      exact W.iret CF.1 CF.2.1 hr (fun t9 ht9 hW9 => ⟨⟨_, σ76, rfl, ⟨Rc_th hR hF_r_74, Ro_th hO hF_r_74, Or.inl ⟨by rw [hF_r_74, up_s], by omega⟩⟩, by show va_P G vwCl (w1 ad cA σ76) t9.heap; rw [ht9]; exact hP76⟩, hS76.F ht9⟩) hS76.2.2 dX1_order_32
  · rw [show (0 : Int32) = nI 0 by rfl]
    refine z_if_eq CF (tgt := 27) (nIz (by omega)) dX1_order_10 (by decide) (fun _ => ?_) (fun h => absurd h (by decide))
    refine lv_aload_n CF.1 CF.2.1 dX1_order_27 rfl (lv_at hl 0 rfl) ?_
    refine lv_iconst (v := nI 1) CF.1 CF.2.1 dX1_order_28 (by decide) ?_
    refine d1_i CF hK hP1 hj (fun _ h => h) hS1 (As := [.int (nI (1))]) (rest := []) (c1_fail l hj (σ := σ1) (nI 1)) rfl lk_RX1_X1_fail rfl hl.1 ⟨Nat.le_of_ble_eq_true rfl, Nat.le_of_ble_eq_true rfl⟩ ⟨Nat.zero_le _, Nat.zero_le _⟩ (Nat.le_of_ble_eq_true rfl) rfl dX1_order_29 (fun r_79 σ81 H81 locs hr_80 hP81 hD81 hS81 hz81 hk81 => ?_)
    obtain ⟨rfl, hF_r_79⟩ := hr_80
    exact W.iret CF.1 CF.2.1 hr (fun t9 ht9 hW9 => ⟨⟨_, σ81, rfl, ⟨Rc_th hR hF_r_79, Ro_th hO hF_r_79, Or.inl ⟨by rw [hF_r_79, up_s], by omega⟩⟩, by show va_P G vwCl (w1 ad cA σ81) t9.heap; rw [ht9]; exact hP81⟩, hS81.F ht9⟩) hS81.2.2 dX1_order_32
