def wO (ou : Nat) (cL : ClassId) (f : Nat → Int64) : va_W := [(ou, .inl (cL, 1, .inr (.inl f)))]
def wD (od : Nat) (cD : ClassId) (f : Nat → UInt64) : va_W := [(od, .inl (cD, 1, .inr (.inr (.inr (.inl f)))))]
def ownW (ad : Nat → Nat) (ou : Nat) : Nat → Prop := fun q => own8 ad q ∨ q = ou
def pcW (G : va_G) (cA : ClassId) (ad : Nat → Nat) (σ : RS) (ou : Nat) (cL : ClassId) (fo : Nat → Int64) (av : List Value) : Array Value → State → Prop := va_Pc av (fun U => va_P G vwCl (w0 ad cA σ) U.heap ∧ va_P G vwCl (wO ou cL fo) U.heap ∧ KK G cA U ∧ va_K G vwCl [(cL, .long)] U ∧ EX (own8 ad) U U.heap)
def pcWD (G : va_G) (cA : ClassId) (ad : Nat → Nat) (σ : RS) (ou : Nat) (cL : ClassId) (fo : Nat → UInt64) (av : List Value) : Array Value → State → Prop := va_Pc av (fun U => va_P G vwCl (w0 ad cA σ) U.heap ∧ va_P G vwCl (wD ou cL fo) U.heap ∧ KK G cA U ∧ va_K G vwCl [(cL, .double)] U ∧ EX (own8 ad) U U.heap)
theorem pcW_blind {G : va_G} {cA : ClassId} {ad : Nat → Nat} {σ : RS} {ou : Nat} {cL : ClassId} {fo : Nat → Int64} {av : List Value} : FrameBlind (pcW G cA ad σ ou cL fo av) := fun a U g mk q => ⟨q.1, q.2.1, q.2.2.1, va_K.moved (u := U) (U := U.calling g mk a) (Vm.Alike.refl U.vm) q.2.2.2.1, va_K.moved (u := U) (U := U.calling g mk a) (Vm.Alike.refl U.vm) q.2.2.2.2.1, EX_moved (s := U) (U := U.calling g mk a) (State.WarmedH.refl U) q.2.2.2.2.2⟩
theorem pcWD_blind {G : va_G} {cA : ClassId} {ad : Nat → Nat} {σ : RS} {ou : Nat} {cL : ClassId} {fo : Nat → UInt64} {av : List Value} : FrameBlind (pcWD G cA ad σ ou cL fo av) := fun a U g mk q => ⟨q.1, q.2.1, q.2.2.1, va_K.moved (u := U) (U := U.calling g mk a) (Vm.Alike.refl U.vm) q.2.2.2.1, va_K.moved (u := U) (U := U.calling g mk a) (Vm.Alike.refl U.vm) q.2.2.2.2.1, EX_moved (s := U) (U := U.calling g mk a) (State.WarmedH.refl U) q.2.2.2.2.2⟩
theorem w1_kept {G : va_G} {ou : Nat} {z : va_E} {H H1 : Heap} {own : Nat → Prop} (hP : va_P G vwCl [(ou, z)] H) (hne : ¬ own ou) (hk : ∀ q : Nat, q < H.size → ¬ own q → H1[q]? = H[q]?) : va_P G vwCl [(ou, z)] H1 := hP.kept (fun k q hq => by
  have hl := (hP k q hq).lt
  have h1 : k < 1 := (List.getElem?_eq_some_iff.mp hq).1
  obtain rfl : k = 0 := by omega
  have e : q.1 = ou := by cases hq; rfl
  exact hk q.1 hl (by rw [e]; exact hne))
theorem one_D {A : Nat → Prop} {ou : Nat} {z : va_E} (hA : A ou) : va_D A [(ou, z)] := by
  refine ⟨fun i j p q hi hj _ => ?_, fun k q hk => ?_⟩
  · have h1 : i < 1 := (List.getElem?_eq_some_iff.mp hi).1
    have h2 : j < 1 := (List.getElem?_eq_some_iff.mp hj).1
    omega
  · have h1 : k < 1 := (List.getElem?_eq_some_iff.mp hk).1
    obtain rfl : k = 0 := by omega
    cases hk
    exact hA
section OW2
variable {p : Program} {l : Launch} {e : Env} {R : Room} {s : State} {m : MethodId} {args : Array Value} {below : List Frame} {meth : Method} {c : Code} {H : Heap} {locs : List Loc} {cells slots : Nat} {Q : State → Prop}
variable {cc : ByteArray} {pc nL : Nat} {ls : Array Slot} {rest st : List Value} {G : va_G} {cA : ClassId} {ad : Nat → Nat} {σ : RS} {H0 : Heap} {own : String} {ou : Nat} {cL : ClassId}
theorem w_last (CF : CallFix p m c cc nL s args AW own) {fo : Nat → Int64} (hKL : va_K G vwCl [(cL, .long)] s) (hP : va_P G vwCl (w0 ad cA σ) H) (hPo : va_P G vwCl (wO ou cL fo) H) (hj : inj8 ad) (hou : ¬ own8 ad ou) (hS : va_S (ownW ad ou) H0 H locs) {x : Int64} (hdg : decode cc pc = .ok (.lastore, 1)) (kk : ∀ (H1 : Heap) (locs1 : List Loc), va_P G vwCl (w0 ad cA σ) H1 → va_P G vwCl (wO ou cL (vp_updL fo 0 x)) H1 → va_S (ownW ad ou) H0 H1 locs1 → W p l e R s m args below meth c H1 locs1 cells slots Q (F0 m (pc + 1) ls rest)) : W p l e R s m args below meth c H locs cells slots Q (F0 m pc ls (.long x :: .int (nI 0) :: .ref ou :: rest)) := by
  have hPc : va_P G vwCl (w0 ad cA σ ++ wO ou cL fo) H := hP.app hPo
  have hDc : va_D (ownW ad ou) (w0 ad cA σ ++ wO ou cL fo) := va_D.app (w0_D hj (fun _ h => Or.inl h)) (one_D (Or.inr rfl)) (fun i j p q hi hq => by
    obtain ⟨a1, a2⟩ := w0_len hi
    have h1 : j < 1 := (List.getElem?_eq_some_iff.mp hq).1
    obtain rfl : j = 0 := by omega
    have e : q.1 = ou := by cases hq; rfl
    rw [a2, e]
    exact fun z => hou ⟨i, a1, z.symm⟩)
  refine va_last (D := G) CF.1 CF.2.1 hKL hPc hDc hS 8 0 rfl rfl (vp_in_nI (by decide) (by decide)) hdg (fun H1 locs1 hP1 _ hS1 => ?_)
  refine kk H1 locs1 (fun k q hk => hP1 k q ?_) (fun k q hk => hP1 (8 + k) q ?_) hS1
  · have hk8 := (w0_len hk).1
    rw [← hk]
    rcases (show k = 0 ∨ k = 1 ∨ k = 2 ∨ k = 3 ∨ k = 4 ∨ k = 5 ∨ k = 6 ∨ k = 7 by omega) with rfl | rfl | rfl | rfl | rfl | rfl | rfl | rfl <;> rfl
  · have h1 : k < 1 := (List.getElem?_eq_some_iff.mp hk).1
    obtain rfl : k = 0 := by omega
    rw [← hk]
    rfl
theorem w_dast (CF : CallFix p m c cc nL s args AW own) {fo : Nat → UInt64} (hKL : va_K G vwCl [(cL, .double)] s) (hP : va_P G vwCl (w0 ad cA σ) H) (hPo : va_P G vwCl (wD ou cL fo) H) (hj : inj8 ad) (hou : ¬ own8 ad ou) (hS : va_S (ownW ad ou) H0 H locs) {x : UInt64} (hdg : decode cc pc = .ok (.dastore, 1)) (kk : ∀ (H1 : Heap) (locs1 : List Loc), va_P G vwCl (w0 ad cA σ) H1 → va_P G vwCl (wD ou cL (vf_upd fo 0 x)) H1 → va_S (ownW ad ou) H0 H1 locs1 → W p l e R s m args below meth c H1 locs1 cells slots Q (F0 m (pc + 1) ls rest)) : W p l e R s m args below meth c H locs cells slots Q (F0 m pc ls (.double x :: .int (nI 0) :: .ref ou :: rest)) := by
  have hPc : va_P G vwCl (w0 ad cA σ ++ wD ou cL fo) H := hP.app hPo
  have hDc : va_D (ownW ad ou) (w0 ad cA σ ++ wD ou cL fo) := va_D.app (w0_D hj (fun _ h => Or.inl h)) (one_D (Or.inr rfl)) (fun i j p q hi hq => by
    obtain ⟨a1, a2⟩ := w0_len hi
    have h1 : j < 1 := (List.getElem?_eq_some_iff.mp hq).1
    obtain rfl : j = 0 := by omega
    have e : q.1 = ou := by cases hq; rfl
    rw [a2, e]
    exact fun z => hou ⟨i, a1, z.symm⟩)
  refine va_dast (D := G) CF.1 CF.2.1 hKL hPc hDc hS 8 0 rfl rfl (vp_in_nI (by decide) (by decide)) hdg (fun H1 locs1 hP1 _ hS1 => ?_)
  refine kk H1 locs1 (fun k q hk => hP1 k q ?_) (fun k q hk => hP1 (8 + k) q ?_) hS1
  · have hk8 := (w0_len hk).1
    rw [← hk]
    rcases (show k = 0 ∨ k = 1 ∨ k = 2 ∨ k = 3 ∨ k = 4 ∨ k = 5 ∨ k = 6 ∨ k = 7 by omega) with rfl | rfl | rfl | rfl | rfl | rfl | rfl | rfl <;> rfl
  · have h1 : k < 1 := (List.getElem?_eq_some_iff.mp hk).1
    obtain rfl : k = 0 := by omega
    rw [← hk]
    rfl
theorem ro_d {a : Array Value} {post : UInt64 → Prop} (hr : va_Run p l e R s m args below meth c H locs cells slots 0 0 (F0 m pc ls st) rest (rqd post a) (fun _ => False)) (kk : ∀ r : UInt64, post r → W p l e R s m args below meth c H locs cells slots Q (F0 m (pc + 3) ls (.double r :: rest))) : W p l e R s m args below meth c H locs cells slots Q (F0 m pc ls (st)) := by
  intro T hT X
  obtain ⟨v, st₀, t, T', L, h0, X', hL, e1, e2, ⟨r, hv, hp, hh⟩, stp⟩ := hr T hT X
  cases hv
  obtain ⟨t2, a1, b1⟩ := kk r hp T' (by rw [e1, hh, h0]) (Stand.forget X' (fun q h => (hL q h).elim))
  exact ⟨t2, stp t2 a1, b1⟩
theorem c0_d (CF : CallFix p m c cc nL s args AW own) (hK : KK G cA s) (hP : va_P G vwCl (w0 ad cA σ) H) {ret : Option FieldType} {y : MethodName} {b : ByteArray} {maxL idx k n : Nat} {As : List Value} {post : UInt64 → Prop} (hM : Met l y (ws_ y b maxL ret) (rmk k 0 0) (pc0 G cA ad σ (.ref (ad 0) :: As)) (rqd post) 0 0 (fun _ => False)) (hcl : y.cls = RX0) (lk : LkV own idx y b maxL ret n) (hn : As.length = n) (hsz : ls.size = nL) (hR : k + 1 ≤ R.frames ∧ 8 + (maxL + 11) + 40 * k ≤ R.locals) (hC : cells ≤ R.cells ∧ slots ≤ R.slots) (hrm : (rest.map fun v => v.category).sum ≤ 8) (hst : st = As.reverse ++ .ref (ad 0) :: rest) (hdg : decode cc pc = .ok (.invokevirtual idx, 3)) (kk : ∀ r : UInt64, post r → W p l e R s m args below meth c H locs cells slots Q (F0 m (pc + 3) ls (.double r :: rest))) : W p l e R s m args below meth c H locs cells slots Q (F0 m pc ls (st)) := by
  refine ro_d (va_runV (As := As) (rest := rest) CF hM (cwV n CF.2.2.2.2 lk.good rfl rfl rfl ⟨rfl, lk.2.2.2.2.2⟩ hR) ⟨pc0_blind, by rw [hcl]; exact va_recv hK hP (ci := 0) (q0 := 0) rfl rfl, fun U hU hW => ⟨rfl, by rw [hU]; exact hP, va_K.moved hW.alike hK⟩⟩ rfl hn hsz hst (lv_room hrm) hdg ⟨hC.1, hC.2⟩) kk
/-- the class refuses -/
theorem e0_i (CF : CallFix p m c cc nL s args AW own) (hK : KK G cA s) (hP : va_P G vwCl (w0 ad cA σ) H) (hE : EX (own8 ad) s H) {A : Nat → Prop} (hA : ∀ q, own8 ad q → A q) (hS : va_S A H0 H locs) {ret : Option FieldType} {y : MethodName} {b : ByteArray} {maxL idx k n : Nat} {As : List Value} {P : String → Prop} (hM : vx_Met l y (ws_ y b maxL ret) (rmk k 1 6) (pcx G cA ad σ (.ref (ad 0) :: As)) (va_Qi (fun (_ : Int32) (_ : RS) => False) (fun σ' t => va_P G vwCl (w0 ad cA σ') t.heap) (own8 ad)) (xcS G cA ad σ P) 1 6 (own8 ad)) (hcl : y.cls = RX0) (lk : LkV own idx y b maxL ret n) (hn : As.length = n) (hsz : ls.size = nL) (hR : k + 1 ≤ R.frames ∧ 8 + (maxL + 11) + 40 * k ≤ R.locals) (hC : cells + 1 ≤ R.cells ∧ slots + 6 ≤ R.slots) (hrm : (rest.map fun v => v.category).sum ≤ 8) (hst : st = As.reverse ++ .ref (ad 0) :: rest) (hdg : decode cc pc = .ok (.invokevirtual idx, 3))
    (kx : ∀ (E : String) (ce : Cell) (q9 : Addr) (H1 : Heap) (locs1 : List Loc), P E → va_P G vwCl (w0 ad cA σ) H1 → (∀ q : Nat, q < H.size → ¬ own8 ad q → H1[q]? = H[q]?) → va_S A H0 H1 locs1 → H1[q9]? = some ce → ce.vm = .none → s.vm.findClass E = some ce.cls → vx_W p l e R s m args below meth c H1 locs1 (cells + 1) (slots + 6) Q (F0 m pc ls rest) q9) : W p l e R s m args below meth c H locs cells slots Q (F0 m pc ls (st)) := by
  refine vx_calli (A0 := A) (A1 := own8 ad) (AX := own8 ad) (vx_runV (As := As) (rest := rest) CF hM (cwV n CF.2.2.2.2 lk.good rfl rfl rfl ⟨rfl, lk.2.2.2.2.2⟩ hR) ⟨pcx_blind, by rw [hcl]; exact va_recv hK hP (ci := 0) (q0 := 0) rfl rfl, fun U hU hW => ⟨rfl, by rw [hU]; exact hP, va_K.moved hW.alike hK, by rw [hU]; exact EX_moved hW hE⟩⟩ rfl hn hsz hst (lv_room hrm) hdg ⟨hC.1, hC.2⟩) hS (fun q _ h => hA q h) hA (fun q _ h => hA q h) (fun E ce q9 u t H1 locs1 ht _ hu hB _ hk hS1 hce hcv hcl => ?_) (fun r u t H1 locs1 _ _ hF _ _ _ _ => hF.elim)
  obtain ⟨hPE, hP1⟩ := hB
  rw [ht] at hP1
  subst hu
  exact kx E ce q9 H1 locs1 hPE hP1 hk hS1 hce hcv hcl
end OW2
set_option maxHeartbeats 1000000 in
set_option maxRecDepth 100000 in
theorem wk_setRate (l : Launch) {G : va_G} {cA : ClassId} {ad : Nat → Nat} {σ : RS} (hj : inj8 ad) {b : BS} (hI : InvC b) (hR : Rc σ b) (hO : Ro σ b) (hOi : InvO b) {f t v : Nat} (hf : f < 5) (ht : t < 5) (hne : f ≠ t) (hv : v ≤ 9999) {ou : Nat} {cL : ClassId} {fo : Nat → Int64} (hou : ¬ own8 ad ou) : Met l yL_setRate (wsW yL_setRate cL_setRate 6 (some .int) [(0, 12, 15, 13), (0, 12, 19, 15)]) (rmk 9 0 0) (pcW G cA ad σ ou cL fo [.ref (ad 0), .int (nI (f)), .int (nI (t)), .int (nI (v)), .ref (ou)]) (va_Qi (fun (r : Int32) (u9 : RS × (Nat → Int64)) => r = nI 0 ∧ u9.2 0 = (nI (b 0 3 - s_rate b f t v 0 3)).toInt64 ∧ Rc u9.1 (s_rate b f t v) ∧ Ro u9.1 (s_rate b f t v)) (fun u9 t9 => va_P G vwCl (w0 ad cA u9.1) t9.heap ∧ va_P G vwCl (wO ou cL u9.2) t9.heap) (ownW ad ou)) 0 0 (ownW ad ou) := by
  refine va_MetW (cc := cL_setRate) (maxL := 6) (ret := (some .int)) (by decide) rfl ?_
  intro p e s m args below meth c s₁ B hml hv
  obtain ⟨rfl, hP, hPo, hK, hKL, hE⟩ := hv
  have hts9 := atoms_spec (ws := wsW yL_setRate cL_setRate 6 (some .int) [(0, 12, 15, 13), (0, 12, 19, 15)]) B.pre
  have CF : CallFix p m c cL_setRate 6 s _ AW RL := ⟨B.exec, B.bytes, hml, findClass_of_methodNamed B.named, fun w h => hts9 w (List.mem_cons_of_mem _ h)⟩
  have htab := vx_table (x := yL_setRate) B (hts9 _ List.mem_cons_self)
  have hr := B.returns
  have hlocks := B.notSynchronized
  have hl := lv_entry ([.ref (ad 0), .int (nI (f)), .int (nI (t)), .int (nI (v)), .ref (ou)]) (n := 6) (Nat.le_of_ble_eq_true rfl)
  rw [lg_entry_eq]
  generalize (lg_sl ([.ref (ad 0), .int (nI (f)), .int (nI (t)), .int (nI (v)), .ref (ou)]) ++ List.replicate (6 - (lg_sl ([.ref (ad 0), .int (nI (f)), .int (nI (t)), .int (nI (v)), .ref (ou)])).length) Slot.unset).toArray = ls at hl ⊢
  have hl : lv_has ls 6 [(0, .ref (ad 0)), (1, .int (nI (f))), (2, .int (nI (t))), (3, .int (nI (v))), (4, .ref (ou))] := hl
  have hS : va_S (ownW ad ou) s.heap s.heap [] := va_S.rf
  refine lv_aload CF.1 CF.2.1 dL_setRate_0 (lv_at hl 4 rfl) ?_
  refine lv_iconst (v := nI 0) CF.1 CF.2.1 dL_setRate_2 (by decide) ?_
  refine lv_aload_n CF.1 CF.2.1 dL_setRate_3 rfl (lv_at hl 0 rfl) ?_
  refine lv_iload_n CF.1 CF.2.1 dL_setRate_4 rfl (lv_at hl 1 rfl) ?_
  refine lv_iload_n CF.1 CF.2.1 dL_setRate_5 rfl (lv_at hl 2 rfl) ?_
  refine lv_iload_n CF.1 CF.2.1 dL_setRate_6 rfl (lv_at hl 3 rfl) ?_
  refine d0_i CF hK hP hj (fun _ h => Or.inl h) hS (As := [.int (nI (f)), .int (nI (t)), .int (nI (v))]) (rest := [.int (nI 0), .ref (ou)]) (c0_setRate l hj hI hR hO hOi hf ht hne hv) rfl lk_RL_X0_setRate rfl hl.1 ⟨Nat.le_of_ble_eq_true rfl, Nat.le_of_ble_eq_true rfl⟩ ⟨Nat.zero_le _, Nat.zero_le _⟩ (Nat.le_of_ble_eq_true rfl) rfl dL_setRate_7 (fun r σ1 H1 locs hr1 hP1 hD1 hS1 hz1 hk1 => ?_)
  obtain ⟨rfl, hR1, hO1⟩ := hr1
  have hPo1 := w1_kept hPo hou hk1
  refine lv_i2l CF.1 CF.2.1 dL_setRate_10 rfl ?_
  refine w_last CF hKL hP1 hPo1 hj hou hS1 dL_setRate_11 (fun H2 locs hP2 hPo2 hS2 => ?_)
  refine lv_goto (tgt := 23) CF.1 CF.2.1 dL_setRate_12 (by decide) ?_
  refine lv_iconst (v := nI 0) CF.1 CF.2.1 dL_setRate_23 (by decide) ?_
  exact W.iret CF.1 CF.2.1 hr (fun t9 ht9 hW9 => ⟨⟨_, (σ1, (vp_updL fo 0 (((nI (b 0 3 - s_rate b f t v 0 3))).toInt64))), rfl, ⟨rfl, rfl, hR1, hO1⟩, by show va_P G vwCl (w0 ad cA σ1) t9.heap; rw [ht9]; exact hP2, by show va_P G vwCl (wO ou cL (vp_updL fo 0 (((nI (b 0 3 - s_rate b f t v 0 3))).toInt64))) t9.heap; rw [ht9]; exact hPo2⟩, hS2.F ht9⟩) hS2.2.2 dL_setRate_24
set_option maxHeartbeats 1000000 in
set_option maxRecDepth 100000 in
theorem wb_setRate (l : Launch) (hfl : l.stackTraces = false) {G : va_G} {cA : ClassId} {ad : Nat → Nat} {σ : RS} (hj : inj8 ad) {b : BS} (hI : InvC b) (hR : Rc σ b) (hO : Ro σ b) (hOi : InvO b) (x y z : Int32) (hbad : ¬ (0 ≤ x.toInt ∧ x.toInt < 5 ∧ 0 ≤ y.toInt ∧ y.toInt < 5 ∧ x.toInt ≠ y.toInt ∧ 0 ≤ z.toInt ∧ z.toInt ≤ 9999)) {ou : Nat} {cL : ClassId} {fo : Nat → Int64} (hou : ¬ own8 ad ou) : Met l yL_setRate (wsW yL_setRate cL_setRate 6 (some .int) [(0, 12, 15, 13), (0, 12, 19, 15)]) (rmk 9 1 6) (pcW G cA ad σ ou cL fo [.ref (ad 0), .int (x), .int (y), .int (z), .ref (ou)]) (va_Qi (fun (r : Int32) (u9 : RS × (Nat → Int64)) => ((r = nI 1 ∧ (¬ (0 ≤ x.toInt ∧ x.toInt < 5 ∧ 0 ≤ y.toInt ∧ y.toInt < 5))) ∨ (r = nI 2 ∧ (0 ≤ x.toInt ∧ x.toInt < 5 ∧ 0 ≤ y.toInt ∧ y.toInt < 5))) ∧ u9 = (σ, fo)) (fun u9 t9 => va_P G vwCl (w0 ad cA u9.1) t9.heap ∧ va_P G vwCl (wO ou cL u9.2) t9.heap) (ownW ad ou)) 1 6 (ownW ad ou) := by
  refine va_MetW (cc := cL_setRate) (maxL := 6) (ret := (some .int)) (by decide) rfl ?_
  intro p e s m args below meth c s₁ B hml hv
  obtain ⟨rfl, hP, hPo, hK, hKL, hE⟩ := hv
  have hts9 := atoms_spec (ws := wsW yL_setRate cL_setRate 6 (some .int) [(0, 12, 15, 13), (0, 12, 19, 15)]) B.pre
  have CF : CallFix p m c cL_setRate 6 s _ AW RL := ⟨B.exec, B.bytes, hml, findClass_of_methodNamed B.named, fun w h => hts9 w (List.mem_cons_of_mem _ h)⟩
  have htab := vx_table (x := yL_setRate) B (hts9 _ List.mem_cons_self)
  have hr := B.returns
  have hlocks := B.notSynchronized
  have hl := lv_entry ([.ref (ad 0), .int (x), .int (y), .int (z), .ref (ou)]) (n := 6) (Nat.le_of_ble_eq_true rfl)
  rw [lg_entry_eq]
  generalize (lg_sl ([.ref (ad 0), .int (x), .int (y), .int (z), .ref (ou)]) ++ List.replicate (6 - (lg_sl ([.ref (ad 0), .int (x), .int (y), .int (z), .ref (ou)])).length) Slot.unset).toArray = ls at hl ⊢
  have hl : lv_has ls 6 [(0, .ref (ad 0)), (1, .int (x)), (2, .int (y)), (3, .int (z)), (4, .ref (ou))] := hl
  have hS : va_S (ownW ad ou) s.heap s.heap [] := va_S.rf
  refine lv_aload CF.1 CF.2.1 dL_setRate_0 (lv_at hl 4 rfl) ?_
  refine lv_iconst (v := nI 0) CF.1 CF.2.1 dL_setRate_2 (by decide) ?_
  refine lv_aload_n CF.1 CF.2.1 dL_setRate_3 rfl (lv_at hl 0 rfl) ?_
  refine lv_iload_n CF.1 CF.2.1 dL_setRate_4 rfl (lv_at hl 1 rfl) ?_
  refine lv_iload_n CF.1 CF.2.1 dL_setRate_5 rfl (lv_at hl 2 rfl) ?_
  refine lv_iload_n CF.1 CF.2.1 dL_setRate_6 rfl (lv_at hl 3 rfl) ?_
  refine e0_i CF hK hP hE (fun _ h => Or.inl h) hS (As := [.int (x), .int (y), .int (z)]) (rest := [.int (nI 0), .ref (ou)]) (b0_setRate l hfl hj hI hR hO hOi x y z hbad) rfl lk_RL_X0_setRate rfl hl.1 ⟨Nat.le_of_ble_eq_true rfl, Nat.le_of_ble_eq_true rfl⟩ ⟨Nat.le_of_ble_eq_true rfl, Nat.le_of_ble_eq_true rfl⟩ (Nat.le_of_ble_eq_true rfl) rfl dL_setRate_7 (fun E ce q9 H1 locs1 hPE hP1 hk1 hS1 hce hcv hcl => ?_)
  have hPo1 := w1_kept hPo hou hk1
  rcases (show (E = "java/lang/IndexOutOfBoundsException" ∧ (¬ (0 ≤ x.toInt ∧ x.toInt < 5 ∧ 0 ≤ y.toInt ∧ y.toInt < 5))) ∨ (E = "java/lang/IllegalArgumentException" ∧ (0 ≤ x.toInt ∧ x.toInt < 5 ∧ 0 ≤ y.toInt ∧ y.toInt < 5)) from hPE) with ⟨rfl, hc⟩ | ⟨rfl, hc⟩
  · refine vx_catch (own := RL) (name := "java/lang/IndexOutOfBoundsException") CF.2.2.2.1 [] ⟨0, 12, 15, 13⟩ [⟨0, 12, 19, 15⟩] (htab.trans rfl) (fun z hz => absurd hz List.not_mem_nil) (by decide) (by decide) (CF.2.2.2.2 _ (inr_2 _ (List.mem_of_getElem? (i := 13) rfl))) (va_Nw.use rfl (hE.2.2.2.1 _ (List.mem_of_getElem? (i := 0) rfl))) hce hcv hcl ?_
    refine W.eq (g2 := F0 m 15 ls [.ref q9]) rfl ?_
    refine lv_astore (lv' := [(5, .ref (q9)), (0, .ref (ad 0)), (1, .int (x)), (2, .int (y)), (3, .int (z)), (4, .ref (ou))]) CF.1 CF.2.1 dL_setRate_15 hl (by decide) rfl (fun ls hl => ?_)
    refine lv_iconst (v := nI 1) CF.1 CF.2.1 dL_setRate_17 (by decide) ?_
    exact W.iret CF.1 CF.2.1 hr (fun t9 ht9 hW9 => ⟨⟨_, (σ, fo), rfl, ⟨Or.inl ⟨rfl, hc⟩, rfl⟩, by show va_P G vwCl (w0 ad cA σ) t9.heap; rw [ht9]; exact hP1, by show va_P G vwCl (wO ou cL fo) t9.heap; rw [ht9]; exact hPo1⟩, hS1.F ht9⟩) hS1.2.2 dL_setRate_18
  · have hpass : ∀ e9 ∈ ([⟨0, 12, 15, 13⟩] : List ExceptionTableEntry), covers e9 7 = false ∨ (e9.catchType ≠ 0 ∧ ∃ nm : String, (Cond.classLink RL e9.catchType nm).before #[.ref (ad 0), .int (x), .int (y), .int (z), .ref (ou)] s = true ∧ va_Nc "java/lang/IllegalArgumentException" nm s) := by
      intro e9 hz
      simp only [List.mem_cons, List.not_mem_nil, or_false] at hz
      rcases hz with rfl
      · exact Or.inr ⟨by decide, "java/lang/IndexOutOfBoundsException", CF.2.2.2.2 _ (inr_2 _ (List.mem_of_getElem? (i := 13) rfl)), hE.2.2.2.2.1 _ (List.mem_of_getElem? (i := 1) rfl) _ (List.mem_of_getElem? (i := 0) rfl) (by decide)⟩
    refine vx_catch (own := RL) (name := "java/lang/IllegalArgumentException") CF.2.2.2.1 [⟨0, 12, 15, 13⟩] ⟨0, 12, 19, 15⟩ [] (htab.trans rfl) hpass (by decide) (by decide) (CF.2.2.2.2 _ (inr_2 _ (List.mem_of_getElem? (i := 14) rfl))) (va_Nw.use rfl (hE.2.2.2.1 _ (List.mem_of_getElem? (i := 1) rfl))) hce hcv hcl ?_
    refine W.eq (g2 := F0 m 19 ls [.ref q9]) rfl ?_
    refine lv_astore (lv' := [(5, .ref (q9)), (0, .ref (ad 0)), (1, .int (x)), (2, .int (y)), (3, .int (z)), (4, .ref (ou))]) CF.1 CF.2.1 dL_setRate_19 hl (by decide) rfl (fun ls hl => ?_)
    refine lv_iconst (v := nI 2) CF.1 CF.2.1 dL_setRate_21 (by decide) ?_
    exact W.iret CF.1 CF.2.1 hr (fun t9 ht9 hW9 => ⟨⟨_, (σ, fo), rfl, ⟨Or.inr (⟨rfl, hc⟩), rfl⟩, by show va_P G vwCl (w0 ad cA σ) t9.heap; rw [ht9]; exact hP1, by show va_P G vwCl (wO ou cL fo) t9.heap; rw [ht9]; exact hPo1⟩, hS1.F ht9⟩) hS1.2.2 dL_setRate_22
set_option maxHeartbeats 1000000 in
set_option maxRecDepth 100000 in
theorem wk_setSpread (l : Launch) {G : va_G} {cA : ClassId} {ad : Nat → Nat} {σ : RS} (hj : inj8 ad) {b : BS} (hI : InvC b) (hR : Rc σ b) (hO : Ro σ b) (hOi : InvO b) {v : Nat} (hv : v ≤ 50) {ou : Nat} {cL : ClassId} {fo : Nat → Int64} (hou : ¬ own8 ad ou) : Met l yL_setSpread (wsW yL_setSpread cL_setSpread 4 (some .int) [(0, 9, 12, 15)]) (rmk 9 0 0) (pcW G cA ad σ ou cL fo [.ref (ad 0), .int (nI (v)), .ref (ou)]) (va_Qi (fun (r : Int32) (u9 : RS × (Nat → Int64)) => r = nI 0 ∧ u9.2 0 = (nI (b 0 3 - s_spread b v 0 3)).toInt64 ∧ Rc u9.1 (s_spread b v) ∧ Ro u9.1 (s_spread b v)) (fun u9 t9 => va_P G vwCl (w0 ad cA u9.1) t9.heap ∧ va_P G vwCl (wO ou cL u9.2) t9.heap) (ownW ad ou)) 0 0 (ownW ad ou) := by
  refine va_MetW (cc := cL_setSpread) (maxL := 4) (ret := (some .int)) (by decide) rfl ?_
  intro p e s m args below meth c s₁ B hml hv
  obtain ⟨rfl, hP, hPo, hK, hKL, hE⟩ := hv
  have hts9 := atoms_spec (ws := wsW yL_setSpread cL_setSpread 4 (some .int) [(0, 9, 12, 15)]) B.pre
  have CF : CallFix p m c cL_setSpread 4 s _ AW RL := ⟨B.exec, B.bytes, hml, findClass_of_methodNamed B.named, fun w h => hts9 w (List.mem_cons_of_mem _ h)⟩
  have htab := vx_table (x := yL_setSpread) B (hts9 _ List.mem_cons_self)
  have hr := B.returns
  have hlocks := B.notSynchronized
  have hl := lv_entry ([.ref (ad 0), .int (nI (v)), .ref (ou)]) (n := 4) (Nat.le_of_ble_eq_true rfl)
  rw [lg_entry_eq]
  generalize (lg_sl ([.ref (ad 0), .int (nI (v)), .ref (ou)]) ++ List.replicate (4 - (lg_sl ([.ref (ad 0), .int (nI (v)), .ref (ou)])).length) Slot.unset).toArray = ls at hl ⊢
  have hl : lv_has ls 4 [(0, .ref (ad 0)), (1, .int (nI (v))), (2, .ref (ou))] := hl
  have hS : va_S (ownW ad ou) s.heap s.heap [] := va_S.rf
  refine lv_aload_n CF.1 CF.2.1 dL_setSpread_0 rfl (lv_at hl 2 rfl) ?_
  refine lv_iconst (v := nI 0) CF.1 CF.2.1 dL_setSpread_1 (by decide) ?_
  refine lv_aload_n CF.1 CF.2.1 dL_setSpread_2 rfl (lv_at hl 0 rfl) ?_
  refine lv_iload_n CF.1 CF.2.1 dL_setSpread_3 rfl (lv_at hl 1 rfl) ?_
  refine d0_i CF hK hP hj (fun _ h => Or.inl h) hS (As := [.int (nI (v))]) (rest := [.int (nI 0), .ref (ou)]) (c0_setSpread l hj hI hR hO hOi hv) rfl lk_RL_X0_setSpread rfl hl.1 ⟨Nat.le_of_ble_eq_true rfl, Nat.le_of_ble_eq_true rfl⟩ ⟨Nat.zero_le _, Nat.zero_le _⟩ (Nat.le_of_ble_eq_true rfl) rfl dL_setSpread_4 (fun r σ1 H1 locs hr1 hP1 hD1 hS1 hz1 hk1 => ?_)
  obtain ⟨rfl, hR1, hO1⟩ := hr1
  have hPo1 := w1_kept hPo hou hk1
  refine lv_i2l CF.1 CF.2.1 dL_setSpread_7 rfl ?_
  refine w_last CF hKL hP1 hPo1 hj hou hS1 dL_setSpread_8 (fun H2 locs hP2 hPo2 hS2 => ?_)
  refine lv_goto (tgt := 15) CF.1 CF.2.1 dL_setSpread_9 (by decide) ?_
  refine lv_iconst (v := nI 0) CF.1 CF.2.1 dL_setSpread_15 (by decide) ?_
  exact W.iret CF.1 CF.2.1 hr (fun t9 ht9 hW9 => ⟨⟨_, (σ1, (vp_updL fo 0 (((nI (b 0 3 - s_spread b v 0 3))).toInt64))), rfl, ⟨rfl, rfl, hR1, hO1⟩, by show va_P G vwCl (w0 ad cA σ1) t9.heap; rw [ht9]; exact hP2, by show va_P G vwCl (wO ou cL (vp_updL fo 0 (((nI (b 0 3 - s_spread b v 0 3))).toInt64))) t9.heap; rw [ht9]; exact hPo2⟩, hS2.F ht9⟩) hS2.2.2 dL_setSpread_16
set_option maxHeartbeats 1000000 in
set_option maxRecDepth 100000 in
theorem wb_setSpread (l : Launch) (hfl : l.stackTraces = false) {G : va_G} {cA : ClassId} {ad : Nat → Nat} {σ : RS} (hj : inj8 ad) {b : BS} (hI : InvC b) (hR : Rc σ b) (hO : Ro σ b) (hOi : InvO b) (x : Int32) (hbad : ¬ (0 ≤ x.toInt ∧ x.toInt ≤ 50)) {ou : Nat} {cL : ClassId} {fo : Nat → Int64} (hou : ¬ own8 ad ou) : Met l yL_setSpread (wsW yL_setSpread cL_setSpread 4 (some .int) [(0, 9, 12, 15)]) (rmk 9 1 6) (pcW G cA ad σ ou cL fo [.ref (ad 0), .int (x), .ref (ou)]) (va_Qi (fun (r : Int32) (u9 : RS × (Nat → Int64)) => ((r = nI 1 ∧ (True))) ∧ u9 = (σ, fo)) (fun u9 t9 => va_P G vwCl (w0 ad cA u9.1) t9.heap ∧ va_P G vwCl (wO ou cL u9.2) t9.heap) (ownW ad ou)) 1 6 (ownW ad ou) := by
  refine va_MetW (cc := cL_setSpread) (maxL := 4) (ret := (some .int)) (by decide) rfl ?_
  intro p e s m args below meth c s₁ B hml hv
  obtain ⟨rfl, hP, hPo, hK, hKL, hE⟩ := hv
  have hts9 := atoms_spec (ws := wsW yL_setSpread cL_setSpread 4 (some .int) [(0, 9, 12, 15)]) B.pre
  have CF : CallFix p m c cL_setSpread 4 s _ AW RL := ⟨B.exec, B.bytes, hml, findClass_of_methodNamed B.named, fun w h => hts9 w (List.mem_cons_of_mem _ h)⟩
  have htab := vx_table (x := yL_setSpread) B (hts9 _ List.mem_cons_self)
  have hr := B.returns
  have hlocks := B.notSynchronized
  have hl := lv_entry ([.ref (ad 0), .int (x), .ref (ou)]) (n := 4) (Nat.le_of_ble_eq_true rfl)
  rw [lg_entry_eq]
  generalize (lg_sl ([.ref (ad 0), .int (x), .ref (ou)]) ++ List.replicate (4 - (lg_sl ([.ref (ad 0), .int (x), .ref (ou)])).length) Slot.unset).toArray = ls at hl ⊢
  have hl : lv_has ls 4 [(0, .ref (ad 0)), (1, .int (x)), (2, .ref (ou))] := hl
  have hS : va_S (ownW ad ou) s.heap s.heap [] := va_S.rf
  refine lv_aload_n CF.1 CF.2.1 dL_setSpread_0 rfl (lv_at hl 2 rfl) ?_
  refine lv_iconst (v := nI 0) CF.1 CF.2.1 dL_setSpread_1 (by decide) ?_
  refine lv_aload_n CF.1 CF.2.1 dL_setSpread_2 rfl (lv_at hl 0 rfl) ?_
  refine lv_iload_n CF.1 CF.2.1 dL_setSpread_3 rfl (lv_at hl 1 rfl) ?_
  refine e0_i CF hK hP hE (fun _ h => Or.inl h) hS (As := [.int (x)]) (rest := [.int (nI 0), .ref (ou)]) (b0_setSpread l hfl hj hI hR hO hOi x hbad) rfl lk_RL_X0_setSpread rfl hl.1 ⟨Nat.le_of_ble_eq_true rfl, Nat.le_of_ble_eq_true rfl⟩ ⟨Nat.le_of_ble_eq_true rfl, Nat.le_of_ble_eq_true rfl⟩ (Nat.le_of_ble_eq_true rfl) rfl dL_setSpread_4 (fun E ce q9 H1 locs1 hPE hP1 hk1 hS1 hce hcv hcl => ?_)
  have hPo1 := w1_kept hPo hou hk1
  rcases (show (E = "java/lang/IllegalArgumentException" ∧ (True)) from hPE) with ⟨rfl, hc⟩
  · refine vx_catch (own := RL) (name := "java/lang/IllegalArgumentException") CF.2.2.2.1 [] ⟨0, 9, 12, 15⟩ [] (htab.trans rfl) (fun z hz => absurd hz List.not_mem_nil) (by decide) (by decide) (CF.2.2.2.2 _ (inr_2 _ (List.mem_of_getElem? (i := 14) rfl))) (va_Nw.use rfl (hE.2.2.2.1 _ (List.mem_of_getElem? (i := 1) rfl))) hce hcv hcl ?_
    refine W.eq (g2 := F0 m 12 ls [.ref q9]) rfl ?_
    refine lv_astore_n (lv' := [(3, .ref (q9)), (0, .ref (ad 0)), (1, .int (x)), (2, .ref (ou))]) CF.1 CF.2.1 dL_setSpread_12 rfl hl (by decide) rfl (fun ls hl => ?_)
    refine lv_iconst (v := nI 1) CF.1 CF.2.1 dL_setSpread_13 (by decide) ?_
    exact W.iret CF.1 CF.2.1 hr (fun t9 ht9 hW9 => ⟨⟨_, (σ, fo), rfl, ⟨⟨rfl, hc⟩, rfl⟩, by show va_P G vwCl (w0 ad cA σ) t9.heap; rw [ht9]; exact hP1, by show va_P G vwCl (wO ou cL fo) t9.heap; rw [ht9]; exact hPo1⟩, hS1.F ht9⟩) hS1.2.2 dL_setSpread_14
set_option maxHeartbeats 1000000 in
set_option maxRecDepth 100000 in
theorem wk_setLimit (l : Launch) {G : va_G} {cA : ClassId} {ad : Nat → Nat} {σ : RS} (hj : inj8 ad) {b : BS} (hI : InvC b) (hR : Rc σ b) (hO : Ro σ b) (hOi : InvO b) {t v : Nat} (ht : t < 5) (hv : v ≤ 99999) {ou : Nat} {cL : ClassId} {fo : Nat → Int64} (hou : ¬ own8 ad ou) : Met l yL_setLimit (wsW yL_setLimit cL_setLimit 5 (some .int) [(0, 10, 13, 13), (0, 10, 17, 15)]) (rmk 9 0 0) (pcW G cA ad σ ou cL fo [.ref (ad 0), .int (nI (t)), .int (nI (v)), .ref (ou)]) (va_Qi (fun (r : Int32) (u9 : RS × (Nat → Int64)) => r = nI 0 ∧ u9.2 0 = (nI (b 4 t)).toInt64 ∧ Rc u9.1 (upN b 4 t v) ∧ Ro u9.1 (upN b 4 t v)) (fun u9 t9 => va_P G vwCl (w0 ad cA u9.1) t9.heap ∧ va_P G vwCl (wO ou cL u9.2) t9.heap) (ownW ad ou)) 0 0 (ownW ad ou) := by
  refine va_MetW (cc := cL_setLimit) (maxL := 5) (ret := (some .int)) (by decide) rfl ?_
  intro p e s m args below meth c s₁ B hml hv
  obtain ⟨rfl, hP, hPo, hK, hKL, hE⟩ := hv
  have hts9 := atoms_spec (ws := wsW yL_setLimit cL_setLimit 5 (some .int) [(0, 10, 13, 13), (0, 10, 17, 15)]) B.pre
  have CF : CallFix p m c cL_setLimit 5 s _ AW RL := ⟨B.exec, B.bytes, hml, findClass_of_methodNamed B.named, fun w h => hts9 w (List.mem_cons_of_mem _ h)⟩
  have htab := vx_table (x := yL_setLimit) B (hts9 _ List.mem_cons_self)
  have hr := B.returns
  have hlocks := B.notSynchronized
  have hl := lv_entry ([.ref (ad 0), .int (nI (t)), .int (nI (v)), .ref (ou)]) (n := 5) (Nat.le_of_ble_eq_true rfl)
  rw [lg_entry_eq]
  generalize (lg_sl ([.ref (ad 0), .int (nI (t)), .int (nI (v)), .ref (ou)]) ++ List.replicate (5 - (lg_sl ([.ref (ad 0), .int (nI (t)), .int (nI (v)), .ref (ou)])).length) Slot.unset).toArray = ls at hl ⊢
  have hl : lv_has ls 5 [(0, .ref (ad 0)), (1, .int (nI (t))), (2, .int (nI (v))), (3, .ref (ou))] := hl
  have hS : va_S (ownW ad ou) s.heap s.heap [] := va_S.rf
  refine lv_aload_n CF.1 CF.2.1 dL_setLimit_0 rfl (lv_at hl 3 rfl) ?_
  refine lv_iconst (v := nI 0) CF.1 CF.2.1 dL_setLimit_1 (by decide) ?_
  refine lv_aload_n CF.1 CF.2.1 dL_setLimit_2 rfl (lv_at hl 0 rfl) ?_
  refine lv_iload_n CF.1 CF.2.1 dL_setLimit_3 rfl (lv_at hl 1 rfl) ?_
  refine lv_iload_n CF.1 CF.2.1 dL_setLimit_4 rfl (lv_at hl 2 rfl) ?_
  refine d0_i CF hK hP hj (fun _ h => Or.inl h) hS (As := [.int (nI (t)), .int (nI (v))]) (rest := [.int (nI 0), .ref (ou)]) (c0_setLimit l hj hI hR hO hOi ht hv) rfl lk_RL_X0_setLimit rfl hl.1 ⟨Nat.le_of_ble_eq_true rfl, Nat.le_of_ble_eq_true rfl⟩ ⟨Nat.zero_le _, Nat.zero_le _⟩ (Nat.le_of_ble_eq_true rfl) rfl dL_setLimit_5 (fun r σ1 H1 locs hr1 hP1 hD1 hS1 hz1 hk1 => ?_)
  obtain ⟨rfl, hR1, hO1⟩ := hr1
  have hPo1 := w1_kept hPo hou hk1
  refine lv_i2l CF.1 CF.2.1 dL_setLimit_8 rfl ?_
  refine w_last CF hKL hP1 hPo1 hj hou hS1 dL_setLimit_9 (fun H2 locs hP2 hPo2 hS2 => ?_)
  refine lv_goto (tgt := 21) CF.1 CF.2.1 dL_setLimit_10 (by decide) ?_
  refine lv_iconst (v := nI 0) CF.1 CF.2.1 dL_setLimit_21 (by decide) ?_
  exact W.iret CF.1 CF.2.1 hr (fun t9 ht9 hW9 => ⟨⟨_, (σ1, (vp_updL fo 0 (((nI (b 4 t))).toInt64))), rfl, ⟨rfl, rfl, hR1, hO1⟩, by show va_P G vwCl (w0 ad cA σ1) t9.heap; rw [ht9]; exact hP2, by show va_P G vwCl (wO ou cL (vp_updL fo 0 (((nI (b 4 t))).toInt64))) t9.heap; rw [ht9]; exact hPo2⟩, hS2.F ht9⟩) hS2.2.2 dL_setLimit_22
set_option maxHeartbeats 1000000 in
set_option maxRecDepth 100000 in
theorem wb_setLimit (l : Launch) (hfl : l.stackTraces = false) {G : va_G} {cA : ClassId} {ad : Nat → Nat} {σ : RS} (hj : inj8 ad) {b : BS} (hI : InvC b) (hR : Rc σ b) (hO : Ro σ b) (hOi : InvO b) (x z : Int32) (hbad : ¬ (0 ≤ x.toInt ∧ x.toInt < 5 ∧ 0 ≤ z.toInt ∧ z.toInt ≤ 99999)) {ou : Nat} {cL : ClassId} {fo : Nat → Int64} (hou : ¬ own8 ad ou) : Met l yL_setLimit (wsW yL_setLimit cL_setLimit 5 (some .int) [(0, 10, 13, 13), (0, 10, 17, 15)]) (rmk 9 1 6) (pcW G cA ad σ ou cL fo [.ref (ad 0), .int (x), .int (z), .ref (ou)]) (va_Qi (fun (r : Int32) (u9 : RS × (Nat → Int64)) => ((r = nI 1 ∧ (¬ (0 ≤ x.toInt ∧ x.toInt < 5))) ∨ (r = nI 2 ∧ (0 ≤ x.toInt ∧ x.toInt < 5))) ∧ u9 = (σ, fo)) (fun u9 t9 => va_P G vwCl (w0 ad cA u9.1) t9.heap ∧ va_P G vwCl (wO ou cL u9.2) t9.heap) (ownW ad ou)) 1 6 (ownW ad ou) := by
  refine va_MetW (cc := cL_setLimit) (maxL := 5) (ret := (some .int)) (by decide) rfl ?_
  intro p e s m args below meth c s₁ B hml hv
  obtain ⟨rfl, hP, hPo, hK, hKL, hE⟩ := hv
  have hts9 := atoms_spec (ws := wsW yL_setLimit cL_setLimit 5 (some .int) [(0, 10, 13, 13), (0, 10, 17, 15)]) B.pre
  have CF : CallFix p m c cL_setLimit 5 s _ AW RL := ⟨B.exec, B.bytes, hml, findClass_of_methodNamed B.named, fun w h => hts9 w (List.mem_cons_of_mem _ h)⟩
  have htab := vx_table (x := yL_setLimit) B (hts9 _ List.mem_cons_self)
  have hr := B.returns
  have hlocks := B.notSynchronized
  have hl := lv_entry ([.ref (ad 0), .int (x), .int (z), .ref (ou)]) (n := 5) (Nat.le_of_ble_eq_true rfl)
  rw [lg_entry_eq]
  generalize (lg_sl ([.ref (ad 0), .int (x), .int (z), .ref (ou)]) ++ List.replicate (5 - (lg_sl ([.ref (ad 0), .int (x), .int (z), .ref (ou)])).length) Slot.unset).toArray = ls at hl ⊢
  have hl : lv_has ls 5 [(0, .ref (ad 0)), (1, .int (x)), (2, .int (z)), (3, .ref (ou))] := hl
  have hS : va_S (ownW ad ou) s.heap s.heap [] := va_S.rf
  refine lv_aload_n CF.1 CF.2.1 dL_setLimit_0 rfl (lv_at hl 3 rfl) ?_
  refine lv_iconst (v := nI 0) CF.1 CF.2.1 dL_setLimit_1 (by decide) ?_
  refine lv_aload_n CF.1 CF.2.1 dL_setLimit_2 rfl (lv_at hl 0 rfl) ?_
  refine lv_iload_n CF.1 CF.2.1 dL_setLimit_3 rfl (lv_at hl 1 rfl) ?_
  refine lv_iload_n CF.1 CF.2.1 dL_setLimit_4 rfl (lv_at hl 2 rfl) ?_
  refine e0_i CF hK hP hE (fun _ h => Or.inl h) hS (As := [.int (x), .int (z)]) (rest := [.int (nI 0), .ref (ou)]) (b0_setLimit l hfl hj hI hR hO hOi x z hbad) rfl lk_RL_X0_setLimit rfl hl.1 ⟨Nat.le_of_ble_eq_true rfl, Nat.le_of_ble_eq_true rfl⟩ ⟨Nat.le_of_ble_eq_true rfl, Nat.le_of_ble_eq_true rfl⟩ (Nat.le_of_ble_eq_true rfl) rfl dL_setLimit_5 (fun E ce q9 H1 locs1 hPE hP1 hk1 hS1 hce hcv hcl => ?_)
  have hPo1 := w1_kept hPo hou hk1
  rcases (show (E = "java/lang/IndexOutOfBoundsException" ∧ (¬ (0 ≤ x.toInt ∧ x.toInt < 5))) ∨ (E = "java/lang/IllegalArgumentException" ∧ (0 ≤ x.toInt ∧ x.toInt < 5)) from hPE) with ⟨rfl, hc⟩ | ⟨rfl, hc⟩
  · refine vx_catch (own := RL) (name := "java/lang/IndexOutOfBoundsException") CF.2.2.2.1 [] ⟨0, 10, 13, 13⟩ [⟨0, 10, 17, 15⟩] (htab.trans rfl) (fun z hz => absurd hz List.not_mem_nil) (by decide) (by decide) (CF.2.2.2.2 _ (inr_2 _ (List.mem_of_getElem? (i := 13) rfl))) (va_Nw.use rfl (hE.2.2.2.1 _ (List.mem_of_getElem? (i := 0) rfl))) hce hcv hcl ?_
    refine W.eq (g2 := F0 m 13 ls [.ref q9]) rfl ?_
    refine lv_astore (lv' := [(4, .ref (q9)), (0, .ref (ad 0)), (1, .int (x)), (2, .int (z)), (3, .ref (ou))]) CF.1 CF.2.1 dL_setLimit_13 hl (by decide) rfl (fun ls hl => ?_)
    refine lv_iconst (v := nI 1) CF.1 CF.2.1 dL_setLimit_15 (by decide) ?_
    exact W.iret CF.1 CF.2.1 hr (fun t9 ht9 hW9 => ⟨⟨_, (σ, fo), rfl, ⟨Or.inl ⟨rfl, hc⟩, rfl⟩, by show va_P G vwCl (w0 ad cA σ) t9.heap; rw [ht9]; exact hP1, by show va_P G vwCl (wO ou cL fo) t9.heap; rw [ht9]; exact hPo1⟩, hS1.F ht9⟩) hS1.2.2 dL_setLimit_16
  · have hpass : ∀ e9 ∈ ([⟨0, 10, 13, 13⟩] : List ExceptionTableEntry), covers e9 5 = false ∨ (e9.catchType ≠ 0 ∧ ∃ nm : String, (Cond.classLink RL e9.catchType nm).before #[.ref (ad 0), .int (x), .int (z), .ref (ou)] s = true ∧ va_Nc "java/lang/IllegalArgumentException" nm s) := by
      intro e9 hz
      simp only [List.mem_cons, List.not_mem_nil, or_false] at hz
      rcases hz with rfl
      · exact Or.inr ⟨by decide, "java/lang/IndexOutOfBoundsException", CF.2.2.2.2 _ (inr_2 _ (List.mem_of_getElem? (i := 13) rfl)), hE.2.2.2.2.1 _ (List.mem_of_getElem? (i := 1) rfl) _ (List.mem_of_getElem? (i := 0) rfl) (by decide)⟩
    refine vx_catch (own := RL) (name := "java/lang/IllegalArgumentException") CF.2.2.2.1 [⟨0, 10, 13, 13⟩] ⟨0, 10, 17, 15⟩ [] (htab.trans rfl) hpass (by decide) (by decide) (CF.2.2.2.2 _ (inr_2 _ (List.mem_of_getElem? (i := 14) rfl))) (va_Nw.use rfl (hE.2.2.2.1 _ (List.mem_of_getElem? (i := 1) rfl))) hce hcv hcl ?_
    refine W.eq (g2 := F0 m 17 ls [.ref q9]) rfl ?_
    refine lv_astore (lv' := [(4, .ref (q9)), (0, .ref (ad 0)), (1, .int (x)), (2, .int (z)), (3, .ref (ou))]) CF.1 CF.2.1 dL_setLimit_17 hl (by decide) rfl (fun ls hl => ?_)
    refine lv_iconst (v := nI 2) CF.1 CF.2.1 dL_setLimit_19 (by decide) ?_
    exact W.iret CF.1 CF.2.1 hr (fun t9 ht9 hW9 => ⟨⟨_, (σ, fo), rfl, ⟨Or.inr (⟨rfl, hc⟩), rfl⟩, by show va_P G vwCl (w0 ad cA σ) t9.heap; rw [ht9]; exact hP1, by show va_P G vwCl (wO ou cL fo) t9.heap; rw [ht9]; exact hPo1⟩, hS1.F ht9⟩) hS1.2.2 dL_setLimit_20
set_option maxHeartbeats 1000000 in
set_option maxRecDepth 100000 in
theorem wk_stock (l : Launch) {G : va_G} {cA : ClassId} {ad : Nat → Nat} {σ : RS} (hj : inj8 ad) {b : BS} (hI : InvC b) (hR : Rc σ b) (hO : Ro σ b) (hOi : InvO b) {t v : Nat} (ht : t < 5) (hv0 : 1 ≤ v) (hv : v ≤ 99999) {ou : Nat} {cL : ClassId} {fo : Nat → Int64} (hou : ¬ own8 ad ou) : Met l yL_stock (wsW yL_stock cL_stock 5 (some .int) [(0, 10, 13, 13), (0, 10, 17, 15)]) (rmk 9 0 0) (pcW G cA ad σ ou cL fo [.ref (ad 0), .int (nI (t)), .int (nI (v)), .ref (ou)]) (va_Qi (fun (r : Int32) (u9 : RS × (Nat → Int64)) => r = nI 0 ∧ u9.2 0 = (nI (min (b 2 t + v) 999999)).toInt64 ∧ Rc u9.1 (upN b 2 t (min (b 2 t + v) 999999)) ∧ Ro u9.1 (upN b 2 t (min (b 2 t + v) 999999))) (fun u9 t9 => va_P G vwCl (w0 ad cA u9.1) t9.heap ∧ va_P G vwCl (wO ou cL u9.2) t9.heap) (ownW ad ou)) 0 0 (ownW ad ou) := by
  refine va_MetW (cc := cL_stock) (maxL := 5) (ret := (some .int)) (by decide) rfl ?_
  intro p e s m args below meth c s₁ B hml hv
  obtain ⟨rfl, hP, hPo, hK, hKL, hE⟩ := hv
  have hts9 := atoms_spec (ws := wsW yL_stock cL_stock 5 (some .int) [(0, 10, 13, 13), (0, 10, 17, 15)]) B.pre
  have CF : CallFix p m c cL_stock 5 s _ AW RL := ⟨B.exec, B.bytes, hml, findClass_of_methodNamed B.named, fun w h => hts9 w (List.mem_cons_of_mem _ h)⟩
  have htab := vx_table (x := yL_stock) B (hts9 _ List.mem_cons_self)
  have hr := B.returns
  have hlocks := B.notSynchronized
  have hl := lv_entry ([.ref (ad 0), .int (nI (t)), .int (nI (v)), .ref (ou)]) (n := 5) (Nat.le_of_ble_eq_true rfl)
  rw [lg_entry_eq]
  generalize (lg_sl ([.ref (ad 0), .int (nI (t)), .int (nI (v)), .ref (ou)]) ++ List.replicate (5 - (lg_sl ([.ref (ad 0), .int (nI (t)), .int (nI (v)), .ref (ou)])).length) Slot.unset).toArray = ls at hl ⊢
  have hl : lv_has ls 5 [(0, .ref (ad 0)), (1, .int (nI (t))), (2, .int (nI (v))), (3, .ref (ou))] := hl
  have hS : va_S (ownW ad ou) s.heap s.heap [] := va_S.rf
  refine lv_aload_n CF.1 CF.2.1 dL_stock_0 rfl (lv_at hl 3 rfl) ?_
  refine lv_iconst (v := nI 0) CF.1 CF.2.1 dL_stock_1 (by decide) ?_
  refine lv_aload_n CF.1 CF.2.1 dL_stock_2 rfl (lv_at hl 0 rfl) ?_
  refine lv_iload_n CF.1 CF.2.1 dL_stock_3 rfl (lv_at hl 1 rfl) ?_
  refine lv_iload_n CF.1 CF.2.1 dL_stock_4 rfl (lv_at hl 2 rfl) ?_
  refine d0_i CF hK hP hj (fun _ h => Or.inl h) hS (As := [.int (nI (t)), .int (nI (v))]) (rest := [.int (nI 0), .ref (ou)]) (c0_stock l hj hI hR hO hOi ht hv0 hv) rfl lk_RL_X0_stock rfl hl.1 ⟨Nat.le_of_ble_eq_true rfl, Nat.le_of_ble_eq_true rfl⟩ ⟨Nat.zero_le _, Nat.zero_le _⟩ (Nat.le_of_ble_eq_true rfl) rfl dL_stock_5 (fun r σ1 H1 locs hr1 hP1 hD1 hS1 hz1 hk1 => ?_)
  obtain ⟨rfl, hR1, hO1⟩ := hr1
  have hPo1 := w1_kept hPo hou hk1
  refine lv_i2l CF.1 CF.2.1 dL_stock_8 rfl ?_
  refine w_last CF hKL hP1 hPo1 hj hou hS1 dL_stock_9 (fun H2 locs hP2 hPo2 hS2 => ?_)
  refine lv_goto (tgt := 21) CF.1 CF.2.1 dL_stock_10 (by decide) ?_
  refine lv_iconst (v := nI 0) CF.1 CF.2.1 dL_stock_21 (by decide) ?_
  exact W.iret CF.1 CF.2.1 hr (fun t9 ht9 hW9 => ⟨⟨_, (σ1, (vp_updL fo 0 (((nI (min (b 2 t + v) 999999))).toInt64))), rfl, ⟨rfl, rfl, hR1, hO1⟩, by show va_P G vwCl (w0 ad cA σ1) t9.heap; rw [ht9]; exact hP2, by show va_P G vwCl (wO ou cL (vp_updL fo 0 (((nI (min (b 2 t + v) 999999))).toInt64))) t9.heap; rw [ht9]; exact hPo2⟩, hS2.F ht9⟩) hS2.2.2 dL_stock_22
set_option maxHeartbeats 1000000 in
set_option maxRecDepth 100000 in
theorem wb_stock (l : Launch) (hfl : l.stackTraces = false) {G : va_G} {cA : ClassId} {ad : Nat → Nat} {σ : RS} (hj : inj8 ad) {b : BS} (hI : InvC b) (hR : Rc σ b) (hO : Ro σ b) (hOi : InvO b) (x z : Int32) (hbad : ¬ (0 ≤ x.toInt ∧ x.toInt < 5 ∧ 1 ≤ z.toInt ∧ z.toInt ≤ 99999)) {ou : Nat} {cL : ClassId} {fo : Nat → Int64} (hou : ¬ own8 ad ou) : Met l yL_stock (wsW yL_stock cL_stock 5 (some .int) [(0, 10, 13, 13), (0, 10, 17, 15)]) (rmk 9 1 6) (pcW G cA ad σ ou cL fo [.ref (ad 0), .int (x), .int (z), .ref (ou)]) (va_Qi (fun (r : Int32) (u9 : RS × (Nat → Int64)) => ((r = nI 1 ∧ (¬ (0 ≤ x.toInt ∧ x.toInt < 5))) ∨ (r = nI 2 ∧ (0 ≤ x.toInt ∧ x.toInt < 5))) ∧ u9 = (σ, fo)) (fun u9 t9 => va_P G vwCl (w0 ad cA u9.1) t9.heap ∧ va_P G vwCl (wO ou cL u9.2) t9.heap) (ownW ad ou)) 1 6 (ownW ad ou) := by
  refine va_MetW (cc := cL_stock) (maxL := 5) (ret := (some .int)) (by decide) rfl ?_
  intro p e s m args below meth c s₁ B hml hv
  obtain ⟨rfl, hP, hPo, hK, hKL, hE⟩ := hv
  have hts9 := atoms_spec (ws := wsW yL_stock cL_stock 5 (some .int) [(0, 10, 13, 13), (0, 10, 17, 15)]) B.pre
  have CF : CallFix p m c cL_stock 5 s _ AW RL := ⟨B.exec, B.bytes, hml, findClass_of_methodNamed B.named, fun w h => hts9 w (List.mem_cons_of_mem _ h)⟩
  have htab := vx_table (x := yL_stock) B (hts9 _ List.mem_cons_self)
  have hr := B.returns
  have hlocks := B.notSynchronized
  have hl := lv_entry ([.ref (ad 0), .int (x), .int (z), .ref (ou)]) (n := 5) (Nat.le_of_ble_eq_true rfl)
  rw [lg_entry_eq]
  generalize (lg_sl ([.ref (ad 0), .int (x), .int (z), .ref (ou)]) ++ List.replicate (5 - (lg_sl ([.ref (ad 0), .int (x), .int (z), .ref (ou)])).length) Slot.unset).toArray = ls at hl ⊢
  have hl : lv_has ls 5 [(0, .ref (ad 0)), (1, .int (x)), (2, .int (z)), (3, .ref (ou))] := hl
  have hS : va_S (ownW ad ou) s.heap s.heap [] := va_S.rf
  refine lv_aload_n CF.1 CF.2.1 dL_stock_0 rfl (lv_at hl 3 rfl) ?_
  refine lv_iconst (v := nI 0) CF.1 CF.2.1 dL_stock_1 (by decide) ?_
  refine lv_aload_n CF.1 CF.2.1 dL_stock_2 rfl (lv_at hl 0 rfl) ?_
  refine lv_iload_n CF.1 CF.2.1 dL_stock_3 rfl (lv_at hl 1 rfl) ?_
  refine lv_iload_n CF.1 CF.2.1 dL_stock_4 rfl (lv_at hl 2 rfl) ?_
  refine e0_i CF hK hP hE (fun _ h => Or.inl h) hS (As := [.int (x), .int (z)]) (rest := [.int (nI 0), .ref (ou)]) (b0_stock l hfl hj hI hR hO hOi x z hbad) rfl lk_RL_X0_stock rfl hl.1 ⟨Nat.le_of_ble_eq_true rfl, Nat.le_of_ble_eq_true rfl⟩ ⟨Nat.le_of_ble_eq_true rfl, Nat.le_of_ble_eq_true rfl⟩ (Nat.le_of_ble_eq_true rfl) rfl dL_stock_5 (fun E ce q9 H1 locs1 hPE hP1 hk1 hS1 hce hcv hcl => ?_)
  have hPo1 := w1_kept hPo hou hk1
  rcases (show (E = "java/lang/IndexOutOfBoundsException" ∧ (¬ (0 ≤ x.toInt ∧ x.toInt < 5))) ∨ (E = "java/lang/IllegalArgumentException" ∧ (0 ≤ x.toInt ∧ x.toInt < 5)) from hPE) with ⟨rfl, hc⟩ | ⟨rfl, hc⟩
  · refine vx_catch (own := RL) (name := "java/lang/IndexOutOfBoundsException") CF.2.2.2.1 [] ⟨0, 10, 13, 13⟩ [⟨0, 10, 17, 15⟩] (htab.trans rfl) (fun z hz => absurd hz List.not_mem_nil) (by decide) (by decide) (CF.2.2.2.2 _ (inr_2 _ (List.mem_of_getElem? (i := 13) rfl))) (va_Nw.use rfl (hE.2.2.2.1 _ (List.mem_of_getElem? (i := 0) rfl))) hce hcv hcl ?_
    refine W.eq (g2 := F0 m 13 ls [.ref q9]) rfl ?_
    refine lv_astore (lv' := [(4, .ref (q9)), (0, .ref (ad 0)), (1, .int (x)), (2, .int (z)), (3, .ref (ou))]) CF.1 CF.2.1 dL_stock_13 hl (by decide) rfl (fun ls hl => ?_)
    refine lv_iconst (v := nI 1) CF.1 CF.2.1 dL_stock_15 (by decide) ?_
    exact W.iret CF.1 CF.2.1 hr (fun t9 ht9 hW9 => ⟨⟨_, (σ, fo), rfl, ⟨Or.inl ⟨rfl, hc⟩, rfl⟩, by show va_P G vwCl (w0 ad cA σ) t9.heap; rw [ht9]; exact hP1, by show va_P G vwCl (wO ou cL fo) t9.heap; rw [ht9]; exact hPo1⟩, hS1.F ht9⟩) hS1.2.2 dL_stock_16
  · have hpass : ∀ e9 ∈ ([⟨0, 10, 13, 13⟩] : List ExceptionTableEntry), covers e9 5 = false ∨ (e9.catchType ≠ 0 ∧ ∃ nm : String, (Cond.classLink RL e9.catchType nm).before #[.ref (ad 0), .int (x), .int (z), .ref (ou)] s = true ∧ va_Nc "java/lang/IllegalArgumentException" nm s) := by
      intro e9 hz
      simp only [List.mem_cons, List.not_mem_nil, or_false] at hz
      rcases hz with rfl
      · exact Or.inr ⟨by decide, "java/lang/IndexOutOfBoundsException", CF.2.2.2.2 _ (inr_2 _ (List.mem_of_getElem? (i := 13) rfl)), hE.2.2.2.2.1 _ (List.mem_of_getElem? (i := 1) rfl) _ (List.mem_of_getElem? (i := 0) rfl) (by decide)⟩
    refine vx_catch (own := RL) (name := "java/lang/IllegalArgumentException") CF.2.2.2.1 [⟨0, 10, 13, 13⟩] ⟨0, 10, 17, 15⟩ [] (htab.trans rfl) hpass (by decide) (by decide) (CF.2.2.2.2 _ (inr_2 _ (List.mem_of_getElem? (i := 14) rfl))) (va_Nw.use rfl (hE.2.2.2.1 _ (List.mem_of_getElem? (i := 1) rfl))) hce hcv hcl ?_
    refine W.eq (g2 := F0 m 17 ls [.ref q9]) rfl ?_
    refine lv_astore (lv' := [(4, .ref (q9)), (0, .ref (ad 0)), (1, .int (x)), (2, .int (z)), (3, .ref (ou))]) CF.1 CF.2.1 dL_stock_17 hl (by decide) rfl (fun ls hl => ?_)
    refine lv_iconst (v := nI 2) CF.1 CF.2.1 dL_stock_19 (by decide) ?_
    exact W.iret CF.1 CF.2.1 hr (fun t9 ht9 hW9 => ⟨⟨_, (σ, fo), rfl, ⟨Or.inr (⟨rfl, hc⟩), rfl⟩, by show va_P G vwCl (w0 ad cA σ) t9.heap; rw [ht9]; exact hP1, by show va_P G vwCl (wO ou cL fo) t9.heap; rw [ht9]; exact hPo1⟩, hS1.F ht9⟩) hS1.2.2 dL_stock_20
set_option maxHeartbeats 1000000 in
set_option maxRecDepth 100000 in
theorem wk_come (l : Launch) {G : va_G} {cA : ClassId} {ad : Nat → Nat} {σ : RS} (hj : inj8 ad) {b : BS} (hI : InvC b) (hR : Rc σ b) (hO : Ro σ b) (hOi : InvO b) (hc : b 0 2 < 6) {ou : Nat} {cL : ClassId} {fo : Nat → Int64} (hou : ¬ own8 ad ou) : Met l yL_come (wsW yL_come cL_come 3 (some .int) [(0, 8, 11, 32)]) (rmk 9 0 0) (pcW G cA ad σ ou cL fo [.ref (ad 0), .ref (ou)]) (va_Qi (fun (r : Int32) (u9 : RS × (Nat → Int64)) => r = nI 0 ∧ u9.2 0 = (nI (b 0 2)).toInt64 ∧ Rc u9.1 (upN b 0 2 (b 0 2 + 1)) ∧ Ro u9.1 (upN b 0 2 (b 0 2 + 1))) (fun u9 t9 => va_P G vwCl (w0 ad cA u9.1) t9.heap ∧ va_P G vwCl (wO ou cL u9.2) t9.heap) (ownW ad ou)) 0 0 (ownW ad ou) := by
  refine va_MetW (cc := cL_come) (maxL := 3) (ret := (some .int)) (by decide) rfl ?_
  intro p e s m args below meth c s₁ B hml hv
  obtain ⟨rfl, hP, hPo, hK, hKL, hE⟩ := hv
  have hts9 := atoms_spec (ws := wsW yL_come cL_come 3 (some .int) [(0, 8, 11, 32)]) B.pre
  have CF : CallFix p m c cL_come 3 s _ AW RL := ⟨B.exec, B.bytes, hml, findClass_of_methodNamed B.named, fun w h => hts9 w (List.mem_cons_of_mem _ h)⟩
  have htab := vx_table (x := yL_come) B (hts9 _ List.mem_cons_self)
  have hr := B.returns
  have hlocks := B.notSynchronized
  have hl := lv_entry ([.ref (ad 0), .ref (ou)]) (n := 3) (Nat.le_of_ble_eq_true rfl)
  rw [lg_entry_eq]
  generalize (lg_sl ([.ref (ad 0), .ref (ou)]) ++ List.replicate (3 - (lg_sl ([.ref (ad 0), .ref (ou)])).length) Slot.unset).toArray = ls at hl ⊢
  have hl : lv_has ls 3 [(0, .ref (ad 0)), (1, .ref (ou))] := hl
  have hS : va_S (ownW ad ou) s.heap s.heap [] := va_S.rf
  refine lv_aload_n CF.1 CF.2.1 dL_come_0 rfl (lv_at hl 1 rfl) ?_
  refine lv_iconst (v := nI 0) CF.1 CF.2.1 dL_come_1 (by decide) ?_
  refine lv_aload_n CF.1 CF.2.1 dL_come_2 rfl (lv_at hl 0 rfl) ?_
  refine d0_i CF hK hP hj (fun _ h => Or.inl h) hS (As := []) (rest := [.int (nI 0), .ref (ou)]) (c0_come l hj hI hR hO hOi hc) rfl lk_RL_X0_come rfl hl.1 ⟨Nat.le_of_ble_eq_true rfl, Nat.le_of_ble_eq_true rfl⟩ ⟨Nat.zero_le _, Nat.zero_le _⟩ (Nat.le_of_ble_eq_true rfl) rfl dL_come_3 (fun r σ1 H1 locs hr1 hP1 hD1 hS1 hz1 hk1 => ?_)
  obtain ⟨rfl, hR1, hO1⟩ := hr1
  have hPo1 := w1_kept hPo hou hk1
  refine lv_i2l CF.1 CF.2.1 dL_come_6 rfl ?_
  refine w_last CF hKL hP1 hPo1 hj hou hS1 dL_come_7 (fun H2 locs hP2 hPo2 hS2 => ?_)
  refine lv_goto (tgt := 14) CF.1 CF.2.1 dL_come_8 (by decide) ?_
  refine lv_iconst (v := nI 0) CF.1 CF.2.1 dL_come_14 (by decide) ?_
  exact W.iret CF.1 CF.2.1 hr (fun t9 ht9 hW9 => ⟨⟨_, (σ1, (vp_updL fo 0 (((nI (b 0 2))).toInt64))), rfl, ⟨rfl, rfl, hR1, hO1⟩, by show va_P G vwCl (w0 ad cA σ1) t9.heap; rw [ht9]; exact hP2, by show va_P G vwCl (wO ou cL (vp_updL fo 0 (((nI (b 0 2))).toInt64))) t9.heap; rw [ht9]; exact hPo2⟩, hS2.F ht9⟩) hS2.2.2 dL_come_15
set_option maxHeartbeats 1000000 in
set_option maxRecDepth 100000 in
theorem wb_come (l : Launch) (hfl : l.stackTraces = false) {G : va_G} {cA : ClassId} {ad : Nat → Nat} {σ : RS} (hj : inj8 ad) {b : BS} (hI : InvC b) (hR : Rc σ b) (hO : Ro σ b) (hOi : InvO b) (hbad : ¬ (b 0 2 < 6)) {ou : Nat} {cL : ClassId} {fo : Nat → Int64} (hou : ¬ own8 ad ou) : Met l yL_come (wsW yL_come cL_come 3 (some .int) [(0, 8, 11, 32)]) (rmk 9 1 6) (pcW G cA ad σ ou cL fo [.ref (ad 0), .ref (ou)]) (va_Qi (fun (r : Int32) (u9 : RS × (Nat → Int64)) => ((r = nI 1 ∧ (True))) ∧ u9 = (σ, fo)) (fun u9 t9 => va_P G vwCl (w0 ad cA u9.1) t9.heap ∧ va_P G vwCl (wO ou cL u9.2) t9.heap) (ownW ad ou)) 1 6 (ownW ad ou) := by
  refine va_MetW (cc := cL_come) (maxL := 3) (ret := (some .int)) (by decide) rfl ?_
  intro p e s m args below meth c s₁ B hml hv
  obtain ⟨rfl, hP, hPo, hK, hKL, hE⟩ := hv
  have hts9 := atoms_spec (ws := wsW yL_come cL_come 3 (some .int) [(0, 8, 11, 32)]) B.pre
  have CF : CallFix p m c cL_come 3 s _ AW RL := ⟨B.exec, B.bytes, hml, findClass_of_methodNamed B.named, fun w h => hts9 w (List.mem_cons_of_mem _ h)⟩
  have htab := vx_table (x := yL_come) B (hts9 _ List.mem_cons_self)
  have hr := B.returns
  have hlocks := B.notSynchronized
  have hl := lv_entry ([.ref (ad 0), .ref (ou)]) (n := 3) (Nat.le_of_ble_eq_true rfl)
  rw [lg_entry_eq]
  generalize (lg_sl ([.ref (ad 0), .ref (ou)]) ++ List.replicate (3 - (lg_sl ([.ref (ad 0), .ref (ou)])).length) Slot.unset).toArray = ls at hl ⊢
  have hl : lv_has ls 3 [(0, .ref (ad 0)), (1, .ref (ou))] := hl
  have hS : va_S (ownW ad ou) s.heap s.heap [] := va_S.rf
  refine lv_aload_n CF.1 CF.2.1 dL_come_0 rfl (lv_at hl 1 rfl) ?_
  refine lv_iconst (v := nI 0) CF.1 CF.2.1 dL_come_1 (by decide) ?_
  refine lv_aload_n CF.1 CF.2.1 dL_come_2 rfl (lv_at hl 0 rfl) ?_
  refine e0_i CF hK hP hE (fun _ h => Or.inl h) hS (As := []) (rest := [.int (nI 0), .ref (ou)]) (b0_come l hfl hj hI hR hO hOi hbad) rfl lk_RL_X0_come rfl hl.1 ⟨Nat.le_of_ble_eq_true rfl, Nat.le_of_ble_eq_true rfl⟩ ⟨Nat.le_of_ble_eq_true rfl, Nat.le_of_ble_eq_true rfl⟩ (Nat.le_of_ble_eq_true rfl) rfl dL_come_3 (fun E ce q9 H1 locs1 hPE hP1 hk1 hS1 hce hcv hcl => ?_)
  have hPo1 := w1_kept hPo hou hk1
  rcases (show (E = "java/lang/IllegalStateException" ∧ (True)) from hPE) with ⟨rfl, hc⟩
  · refine vx_catch (own := RL) (name := "java/lang/IllegalStateException") CF.2.2.2.1 [] ⟨0, 8, 11, 32⟩ [] (htab.trans rfl) (fun z hz => absurd hz List.not_mem_nil) (by decide) (by decide) (CF.2.2.2.2 _ (inr_11 _ (List.mem_of_getElem? (i := 1) rfl))) (va_Nw.use rfl (hE.2.2.2.1 _ (List.mem_of_getElem? (i := 2) rfl))) hce hcv hcl ?_
    refine W.eq (g2 := F0 m 11 ls [.ref q9]) rfl ?_
    refine lv_astore_n (lv' := [(2, .ref (q9)), (0, .ref (ad 0)), (1, .ref (ou))]) CF.1 CF.2.1 dL_come_11 rfl hl (by decide) rfl (fun ls hl => ?_)
    refine lv_iconst (v := nI 1) CF.1 CF.2.1 dL_come_12 (by decide) ?_
    exact W.iret CF.1 CF.2.1 hr (fun t9 ht9 hW9 => ⟨⟨_, (σ, fo), rfl, ⟨⟨rfl, hc⟩, rfl⟩, by show va_P G vwCl (w0 ad cA σ) t9.heap; rw [ht9]; exact hP1, by show va_P G vwCl (wO ou cL fo) t9.heap; rw [ht9]; exact hPo1⟩, hS1.F ht9⟩) hS1.2.2 dL_come_13
set_option maxHeartbeats 1000000 in
set_option maxRecDepth 100000 in
theorem wk_earn (l : Launch) {G : va_G} {cA : ClassId} {ad : Nat → Nat} {σ : RS} (hj : inj8 ad) {b : BS} (hI : InvC b) (hR : Rc σ b) (hO : Ro σ b) (hOi : InvO b) {u t v : Nat} (hu : u < b 0 2) (ht : t < 5) (hv0 : 1 ≤ v) (hv : v ≤ 99999) {ou : Nat} {cL : ClassId} {fo : Nat → Int64} (hou : ¬ own8 ad ou) : Met l yL_earn (wsW yL_earn cL_earn 6 (some .int) [(0, 12, 15, 13), (0, 12, 19, 15)]) (rmk 9 0 0) (pcW G cA ad σ ou cL fo [.ref (ad 0), .int (nI (u)), .int (nI (t)), .int (nI (v)), .ref (ou)]) (va_Qi (fun (r : Int32) (u9 : RS × (Nat → Int64)) => r = nI 0 ∧ u9.2 0 = (nI (min (b 6 (u * 5 + t) + v) 999999)).toInt64 ∧ Rc u9.1 (upN b 6 (u * 5 + t) (min (b 6 (u * 5 + t) + v) 999999)) ∧ Ro u9.1 (upN b 6 (u * 5 + t) (min (b 6 (u * 5 + t) + v) 999999))) (fun u9 t9 => va_P G vwCl (w0 ad cA u9.1) t9.heap ∧ va_P G vwCl (wO ou cL u9.2) t9.heap) (ownW ad ou)) 0 0 (ownW ad ou) := by
  refine va_MetW (cc := cL_earn) (maxL := 6) (ret := (some .int)) (by decide) rfl ?_
  intro p e s m args below meth c s₁ B hml hv
  obtain ⟨rfl, hP, hPo, hK, hKL, hE⟩ := hv
  have hts9 := atoms_spec (ws := wsW yL_earn cL_earn 6 (some .int) [(0, 12, 15, 13), (0, 12, 19, 15)]) B.pre
  have CF : CallFix p m c cL_earn 6 s _ AW RL := ⟨B.exec, B.bytes, hml, findClass_of_methodNamed B.named, fun w h => hts9 w (List.mem_cons_of_mem _ h)⟩
  have htab := vx_table (x := yL_earn) B (hts9 _ List.mem_cons_self)
  have hr := B.returns
  have hlocks := B.notSynchronized
  have hl := lv_entry ([.ref (ad 0), .int (nI (u)), .int (nI (t)), .int (nI (v)), .ref (ou)]) (n := 6) (Nat.le_of_ble_eq_true rfl)
  rw [lg_entry_eq]
  generalize (lg_sl ([.ref (ad 0), .int (nI (u)), .int (nI (t)), .int (nI (v)), .ref (ou)]) ++ List.replicate (6 - (lg_sl ([.ref (ad 0), .int (nI (u)), .int (nI (t)), .int (nI (v)), .ref (ou)])).length) Slot.unset).toArray = ls at hl ⊢
  have hl : lv_has ls 6 [(0, .ref (ad 0)), (1, .int (nI (u))), (2, .int (nI (t))), (3, .int (nI (v))), (4, .ref (ou))] := hl
  have hS : va_S (ownW ad ou) s.heap s.heap [] := va_S.rf
  refine lv_aload CF.1 CF.2.1 dL_earn_0 (lv_at hl 4 rfl) ?_
  refine lv_iconst (v := nI 0) CF.1 CF.2.1 dL_earn_2 (by decide) ?_
  refine lv_aload_n CF.1 CF.2.1 dL_earn_3 rfl (lv_at hl 0 rfl) ?_
  refine lv_iload_n CF.1 CF.2.1 dL_earn_4 rfl (lv_at hl 1 rfl) ?_
  refine lv_iload_n CF.1 CF.2.1 dL_earn_5 rfl (lv_at hl 2 rfl) ?_
  refine lv_iload_n CF.1 CF.2.1 dL_earn_6 rfl (lv_at hl 3 rfl) ?_
  refine d0_i CF hK hP hj (fun _ h => Or.inl h) hS (As := [.int (nI (u)), .int (nI (t)), .int (nI (v))]) (rest := [.int (nI 0), .ref (ou)]) (c0_earn l hj hI hR hO hOi hu ht hv0 hv) rfl lk_RL_X0_earn rfl hl.1 ⟨Nat.le_of_ble_eq_true rfl, Nat.le_of_ble_eq_true rfl⟩ ⟨Nat.zero_le _, Nat.zero_le _⟩ (Nat.le_of_ble_eq_true rfl) rfl dL_earn_7 (fun r σ1 H1 locs hr1 hP1 hD1 hS1 hz1 hk1 => ?_)
  obtain ⟨rfl, hR1, hO1⟩ := hr1
  have hPo1 := w1_kept hPo hou hk1
  refine lv_i2l CF.1 CF.2.1 dL_earn_10 rfl ?_
  refine w_last CF hKL hP1 hPo1 hj hou hS1 dL_earn_11 (fun H2 locs hP2 hPo2 hS2 => ?_)
  refine lv_goto (tgt := 23) CF.1 CF.2.1 dL_earn_12 (by decide) ?_
  refine lv_iconst (v := nI 0) CF.1 CF.2.1 dL_earn_23 (by decide) ?_
  exact W.iret CF.1 CF.2.1 hr (fun t9 ht9 hW9 => ⟨⟨_, (σ1, (vp_updL fo 0 (((nI (min (b 6 (u * 5 + t) + v) 999999))).toInt64))), rfl, ⟨rfl, rfl, hR1, hO1⟩, by show va_P G vwCl (w0 ad cA σ1) t9.heap; rw [ht9]; exact hP2, by show va_P G vwCl (wO ou cL (vp_updL fo 0 (((nI (min (b 6 (u * 5 + t) + v) 999999))).toInt64))) t9.heap; rw [ht9]; exact hPo2⟩, hS2.F ht9⟩) hS2.2.2 dL_earn_24
set_option maxHeartbeats 1000000 in
set_option maxRecDepth 100000 in
theorem wb_earn (l : Launch) (hfl : l.stackTraces = false) {G : va_G} {cA : ClassId} {ad : Nat → Nat} {σ : RS} (hj : inj8 ad) {b : BS} (hI : InvC b) (hR : Rc σ b) (hO : Ro σ b) (hOi : InvO b) (x y z : Int32) (hbad : ¬ (0 ≤ x.toInt ∧ x.toInt < (b 0 2 : Nat) ∧ 0 ≤ y.toInt ∧ y.toInt < 5 ∧ 1 ≤ z.toInt ∧ z.toInt ≤ 99999)) {ou : Nat} {cL : ClassId} {fo : Nat → Int64} (hou : ¬ own8 ad ou) : Met l yL_earn (wsW yL_earn cL_earn 6 (some .int) [(0, 12, 15, 13), (0, 12, 19, 15)]) (rmk 9 1 6) (pcW G cA ad σ ou cL fo [.ref (ad 0), .int (x), .int (y), .int (z), .ref (ou)]) (va_Qi (fun (r : Int32) (u9 : RS × (Nat → Int64)) => ((r = nI 1 ∧ (¬ (0 ≤ x.toInt ∧ x.toInt < (b 0 2 : Nat) ∧ 0 ≤ y.toInt ∧ y.toInt < 5))) ∨ (r = nI 2 ∧ (0 ≤ x.toInt ∧ x.toInt < (b 0 2 : Nat) ∧ 0 ≤ y.toInt ∧ y.toInt < 5))) ∧ u9 = (σ, fo)) (fun u9 t9 => va_P G vwCl (w0 ad cA u9.1) t9.heap ∧ va_P G vwCl (wO ou cL u9.2) t9.heap) (ownW ad ou)) 1 6 (ownW ad ou) := by
  refine va_MetW (cc := cL_earn) (maxL := 6) (ret := (some .int)) (by decide) rfl ?_
  intro p e s m args below meth c s₁ B hml hv
  obtain ⟨rfl, hP, hPo, hK, hKL, hE⟩ := hv
  have hts9 := atoms_spec (ws := wsW yL_earn cL_earn 6 (some .int) [(0, 12, 15, 13), (0, 12, 19, 15)]) B.pre
  have CF : CallFix p m c cL_earn 6 s _ AW RL := ⟨B.exec, B.bytes, hml, findClass_of_methodNamed B.named, fun w h => hts9 w (List.mem_cons_of_mem _ h)⟩
  have htab := vx_table (x := yL_earn) B (hts9 _ List.mem_cons_self)
  have hr := B.returns
  have hlocks := B.notSynchronized
  have hl := lv_entry ([.ref (ad 0), .int (x), .int (y), .int (z), .ref (ou)]) (n := 6) (Nat.le_of_ble_eq_true rfl)
  rw [lg_entry_eq]
  generalize (lg_sl ([.ref (ad 0), .int (x), .int (y), .int (z), .ref (ou)]) ++ List.replicate (6 - (lg_sl ([.ref (ad 0), .int (x), .int (y), .int (z), .ref (ou)])).length) Slot.unset).toArray = ls at hl ⊢
  have hl : lv_has ls 6 [(0, .ref (ad 0)), (1, .int (x)), (2, .int (y)), (3, .int (z)), (4, .ref (ou))] := hl
  have hS : va_S (ownW ad ou) s.heap s.heap [] := va_S.rf
  refine lv_aload CF.1 CF.2.1 dL_earn_0 (lv_at hl 4 rfl) ?_
  refine lv_iconst (v := nI 0) CF.1 CF.2.1 dL_earn_2 (by decide) ?_
  refine lv_aload_n CF.1 CF.2.1 dL_earn_3 rfl (lv_at hl 0 rfl) ?_
  refine lv_iload_n CF.1 CF.2.1 dL_earn_4 rfl (lv_at hl 1 rfl) ?_
  refine lv_iload_n CF.1 CF.2.1 dL_earn_5 rfl (lv_at hl 2 rfl) ?_
  refine lv_iload_n CF.1 CF.2.1 dL_earn_6 rfl (lv_at hl 3 rfl) ?_
  refine e0_i CF hK hP hE (fun _ h => Or.inl h) hS (As := [.int (x), .int (y), .int (z)]) (rest := [.int (nI 0), .ref (ou)]) (b0_earn l hfl hj hI hR hO hOi x y z hbad) rfl lk_RL_X0_earn rfl hl.1 ⟨Nat.le_of_ble_eq_true rfl, Nat.le_of_ble_eq_true rfl⟩ ⟨Nat.le_of_ble_eq_true rfl, Nat.le_of_ble_eq_true rfl⟩ (Nat.le_of_ble_eq_true rfl) rfl dL_earn_7 (fun E ce q9 H1 locs1 hPE hP1 hk1 hS1 hce hcv hcl => ?_)
  have hPo1 := w1_kept hPo hou hk1
  rcases (show (E = "java/lang/IndexOutOfBoundsException" ∧ (¬ (0 ≤ x.toInt ∧ x.toInt < (b 0 2 : Nat) ∧ 0 ≤ y.toInt ∧ y.toInt < 5))) ∨ (E = "java/lang/IllegalArgumentException" ∧ (0 ≤ x.toInt ∧ x.toInt < (b 0 2 : Nat) ∧ 0 ≤ y.toInt ∧ y.toInt < 5)) from hPE) with ⟨rfl, hc⟩ | ⟨rfl, hc⟩
  · refine vx_catch (own := RL) (name := "java/lang/IndexOutOfBoundsException") CF.2.2.2.1 [] ⟨0, 12, 15, 13⟩ [⟨0, 12, 19, 15⟩] (htab.trans rfl) (fun z hz => absurd hz List.not_mem_nil) (by decide) (by decide) (CF.2.2.2.2 _ (inr_2 _ (List.mem_of_getElem? (i := 13) rfl))) (va_Nw.use rfl (hE.2.2.2.1 _ (List.mem_of_getElem? (i := 0) rfl))) hce hcv hcl ?_
    refine W.eq (g2 := F0 m 15 ls [.ref q9]) rfl ?_
    refine lv_astore (lv' := [(5, .ref (q9)), (0, .ref (ad 0)), (1, .int (x)), (2, .int (y)), (3, .int (z)), (4, .ref (ou))]) CF.1 CF.2.1 dL_earn_15 hl (by decide) rfl (fun ls hl => ?_)
    refine lv_iconst (v := nI 1) CF.1 CF.2.1 dL_earn_17 (by decide) ?_
    exact W.iret CF.1 CF.2.1 hr (fun t9 ht9 hW9 => ⟨⟨_, (σ, fo), rfl, ⟨Or.inl ⟨rfl, hc⟩, rfl⟩, by show va_P G vwCl (w0 ad cA σ) t9.heap; rw [ht9]; exact hP1, by show va_P G vwCl (wO ou cL fo) t9.heap; rw [ht9]; exact hPo1⟩, hS1.F ht9⟩) hS1.2.2 dL_earn_18
  · have hpass : ∀ e9 ∈ ([⟨0, 12, 15, 13⟩] : List ExceptionTableEntry), covers e9 7 = false ∨ (e9.catchType ≠ 0 ∧ ∃ nm : String, (Cond.classLink RL e9.catchType nm).before #[.ref (ad 0), .int (x), .int (y), .int (z), .ref (ou)] s = true ∧ va_Nc "java/lang/IllegalArgumentException" nm s) := by
      intro e9 hz
      simp only [List.mem_cons, List.not_mem_nil, or_false] at hz
      rcases hz with rfl
      · exact Or.inr ⟨by decide, "java/lang/IndexOutOfBoundsException", CF.2.2.2.2 _ (inr_2 _ (List.mem_of_getElem? (i := 13) rfl)), hE.2.2.2.2.1 _ (List.mem_of_getElem? (i := 1) rfl) _ (List.mem_of_getElem? (i := 0) rfl) (by decide)⟩
    refine vx_catch (own := RL) (name := "java/lang/IllegalArgumentException") CF.2.2.2.1 [⟨0, 12, 15, 13⟩] ⟨0, 12, 19, 15⟩ [] (htab.trans rfl) hpass (by decide) (by decide) (CF.2.2.2.2 _ (inr_2 _ (List.mem_of_getElem? (i := 14) rfl))) (va_Nw.use rfl (hE.2.2.2.1 _ (List.mem_of_getElem? (i := 1) rfl))) hce hcv hcl ?_
    refine W.eq (g2 := F0 m 19 ls [.ref q9]) rfl ?_
    refine lv_astore (lv' := [(5, .ref (q9)), (0, .ref (ad 0)), (1, .int (x)), (2, .int (y)), (3, .int (z)), (4, .ref (ou))]) CF.1 CF.2.1 dL_earn_19 hl (by decide) rfl (fun ls hl => ?_)
    refine lv_iconst (v := nI 2) CF.1 CF.2.1 dL_earn_21 (by decide) ?_
    exact W.iret CF.1 CF.2.1 hr (fun t9 ht9 hW9 => ⟨⟨_, (σ, fo), rfl, ⟨Or.inr (⟨rfl, hc⟩), rfl⟩, by show va_P G vwCl (w0 ad cA σ) t9.heap; rw [ht9]; exact hP1, by show va_P G vwCl (wO ou cL fo) t9.heap; rw [ht9]; exact hPo1⟩, hS1.F ht9⟩) hS1.2.2 dL_earn_22
set_option maxHeartbeats 1000000 in
set_option maxRecDepth 100000 in
theorem wk_change (l : Launch) {G : va_G} {cA : ClassId} {ad : Nat → Nat} {σ : RS} (hj : inj8 ad) {b : BS} (hI : InvC b) (hR : Rc σ b) (hO : Ro σ b) (hOi : InvO b) {u f t a : Nat} (hu : u < b 0 2) (hf : f < 5) (ht : t < 5) (ha : a < 2147483648) (hok : okN b u f t a 1) {ou : Nat} {cL : ClassId} {fo : Nat → Int64} (hou : ¬ own8 ad ou) : Met l yL_change (wsW yL_change cL_change 7 (some .int) [(0, 14, 17, 13), (0, 14, 21, 32)]) (rmk 9 0 0) (pcW G cA ad σ ou cL fo [.ref (ad 0), .int (nI (u)), .int (nI (f)), .int (nI (t)), .int (nI (a)), .ref (ou)]) (va_Qi (fun (r : Int32) (u9 : RS × (Nat → Int64)) => r = nI 0 ∧ u9.2 0 = (nI (gv b f t a)).toInt64 ∧ Rc u9.1 (dc b u f t a) ∧ Ro u9.1 (dc b u f t a)) (fun u9 t9 => va_P G vwCl (w0 ad cA u9.1) t9.heap ∧ va_P G vwCl (wO ou cL u9.2) t9.heap) (ownW ad ou)) 0 0 (ownW ad ou) := by
  refine va_MetW (cc := cL_change) (maxL := 7) (ret := (some .int)) (by decide) rfl ?_
  intro p e s m args below meth c s₁ B hml hv
  obtain ⟨rfl, hP, hPo, hK, hKL, hE⟩ := hv
  have hts9 := atoms_spec (ws := wsW yL_change cL_change 7 (some .int) [(0, 14, 17, 13), (0, 14, 21, 32)]) B.pre
  have CF : CallFix p m c cL_change 7 s _ AW RL := ⟨B.exec, B.bytes, hml, findClass_of_methodNamed B.named, fun w h => hts9 w (List.mem_cons_of_mem _ h)⟩
  have htab := vx_table (x := yL_change) B (hts9 _ List.mem_cons_self)
  have hr := B.returns
  have hlocks := B.notSynchronized
  have hl := lv_entry ([.ref (ad 0), .int (nI (u)), .int (nI (f)), .int (nI (t)), .int (nI (a)), .ref (ou)]) (n := 7) (Nat.le_of_ble_eq_true rfl)
  rw [lg_entry_eq]
  generalize (lg_sl ([.ref (ad 0), .int (nI (u)), .int (nI (f)), .int (nI (t)), .int (nI (a)), .ref (ou)]) ++ List.replicate (7 - (lg_sl ([.ref (ad 0), .int (nI (u)), .int (nI (f)), .int (nI (t)), .int (nI (a)), .ref (ou)])).length) Slot.unset).toArray = ls at hl ⊢
  have hl : lv_has ls 7 [(0, .ref (ad 0)), (1, .int (nI (u))), (2, .int (nI (f))), (3, .int (nI (t))), (4, .int (nI (a))), (5, .ref (ou))] := hl
  have hS : va_S (ownW ad ou) s.heap s.heap [] := va_S.rf
  refine lv_aload CF.1 CF.2.1 dL_change_0 (lv_at hl 5 rfl) ?_
  refine lv_iconst (v := nI 0) CF.1 CF.2.1 dL_change_2 (by decide) ?_
  refine lv_aload_n CF.1 CF.2.1 dL_change_3 rfl (lv_at hl 0 rfl) ?_
  refine lv_iload_n CF.1 CF.2.1 dL_change_4 rfl (lv_at hl 1 rfl) ?_
  refine lv_iload_n CF.1 CF.2.1 dL_change_5 rfl (lv_at hl 2 rfl) ?_
  refine lv_iload_n CF.1 CF.2.1 dL_change_6 rfl (lv_at hl 3 rfl) ?_
  refine lv_iload CF.1 CF.2.1 dL_change_7 (lv_at hl 4 rfl) ?_
  refine d0_i CF hK hP hj (fun _ h => Or.inl h) hS (As := [.int (nI (u)), .int (nI (f)), .int (nI (t)), .int (nI (a))]) (rest := [.int (nI 0), .ref (ou)]) (c0_change l hj hI hR hO hOi hu hf ht ha hok) rfl lk_RL_X0_change rfl hl.1 ⟨Nat.le_of_ble_eq_true rfl, Nat.le_of_ble_eq_true rfl⟩ ⟨Nat.zero_le _, Nat.zero_le _⟩ (Nat.le_of_ble_eq_true rfl) rfl dL_change_9 (fun r σ1 H1 locs hr1 hP1 hD1 hS1 hz1 hk1 => ?_)
  obtain ⟨rfl, hR1, hO1⟩ := hr1
  have hPo1 := w1_kept hPo hou hk1
  refine lv_i2l CF.1 CF.2.1 dL_change_12 rfl ?_
  refine w_last CF hKL hP1 hPo1 hj hou hS1 dL_change_13 (fun H2 locs hP2 hPo2 hS2 => ?_)
  refine lv_goto (tgt := 25) CF.1 CF.2.1 dL_change_14 (by decide) ?_
  refine lv_iconst (v := nI 0) CF.1 CF.2.1 dL_change_25 (by decide) ?_
  exact W.iret CF.1 CF.2.1 hr (fun t9 ht9 hW9 => ⟨⟨_, (σ1, (vp_updL fo 0 (((nI (gv b f t a))).toInt64))), rfl, ⟨rfl, rfl, hR1, hO1⟩, by show va_P G vwCl (w0 ad cA σ1) t9.heap; rw [ht9]; exact hP2, by show va_P G vwCl (wO ou cL (vp_updL fo 0 (((nI (gv b f t a))).toInt64))) t9.heap; rw [ht9]; exact hPo2⟩, hS2.F ht9⟩) hS2.2.2 dL_change_26
set_option maxHeartbeats 1000000 in
set_option maxRecDepth 100000 in
theorem wb_change (l : Launch) (hfl : l.stackTraces = false) {G : va_G} {cA : ClassId} {ad : Nat → Nat} {σ : RS} (hj : inj8 ad) {b : BS} (hI : InvC b) (hR : Rc σ b) (hO : Ro σ b) (hOi : InvO b) (x y z w : Int32) (hbad : ¬ (0 ≤ x.toInt ∧ x.toInt < (b 0 2 : Nat) ∧ 0 ≤ y.toInt ∧ y.toInt < 5 ∧ 0 ≤ z.toInt ∧ z.toInt < 5 ∧ ∃ a, a < 2147483648 ∧ w = nI a ∧ okN b x.toNatClampNeg y.toNatClampNeg z.toNatClampNeg a 1)) {ou : Nat} {cL : ClassId} {fo : Nat → Int64} (hou : ¬ own8 ad ou) : Met l yL_change (wsW yL_change cL_change 7 (some .int) [(0, 14, 17, 13), (0, 14, 21, 32)]) (rmk 9 1 6) (pcW G cA ad σ ou cL fo [.ref (ad 0), .int (x), .int (y), .int (z), .int (w), .ref (ou)]) (va_Qi (fun (r : Int32) (u9 : RS × (Nat → Int64)) => ((r = nI 1 ∧ (¬ (0 ≤ x.toInt ∧ x.toInt < (b 0 2 : Nat) ∧ 0 ≤ y.toInt ∧ y.toInt < 5 ∧ 0 ≤ z.toInt ∧ z.toInt < 5))) ∨ (r = nI 2 ∧ (0 ≤ x.toInt ∧ x.toInt < (b 0 2 : Nat) ∧ 0 ≤ y.toInt ∧ y.toInt < 5 ∧ 0 ≤ z.toInt ∧ z.toInt < 5))) ∧ u9 = (σ, fo)) (fun u9 t9 => va_P G vwCl (w0 ad cA u9.1) t9.heap ∧ va_P G vwCl (wO ou cL u9.2) t9.heap) (ownW ad ou)) 1 6 (ownW ad ou) := by
  refine va_MetW (cc := cL_change) (maxL := 7) (ret := (some .int)) (by decide) rfl ?_
  intro p e s m args below meth c s₁ B hml hv
  obtain ⟨rfl, hP, hPo, hK, hKL, hE⟩ := hv
  have hts9 := atoms_spec (ws := wsW yL_change cL_change 7 (some .int) [(0, 14, 17, 13), (0, 14, 21, 32)]) B.pre
  have CF : CallFix p m c cL_change 7 s _ AW RL := ⟨B.exec, B.bytes, hml, findClass_of_methodNamed B.named, fun w h => hts9 w (List.mem_cons_of_mem _ h)⟩
  have htab := vx_table (x := yL_change) B (hts9 _ List.mem_cons_self)
  have hr := B.returns
  have hlocks := B.notSynchronized
  have hl := lv_entry ([.ref (ad 0), .int (x), .int (y), .int (z), .int (w), .ref (ou)]) (n := 7) (Nat.le_of_ble_eq_true rfl)
  rw [lg_entry_eq]
  generalize (lg_sl ([.ref (ad 0), .int (x), .int (y), .int (z), .int (w), .ref (ou)]) ++ List.replicate (7 - (lg_sl ([.ref (ad 0), .int (x), .int (y), .int (z), .int (w), .ref (ou)])).length) Slot.unset).toArray = ls at hl ⊢
  have hl : lv_has ls 7 [(0, .ref (ad 0)), (1, .int (x)), (2, .int (y)), (3, .int (z)), (4, .int (w)), (5, .ref (ou))] := hl
  have hS : va_S (ownW ad ou) s.heap s.heap [] := va_S.rf
  refine lv_aload CF.1 CF.2.1 dL_change_0 (lv_at hl 5 rfl) ?_
  refine lv_iconst (v := nI 0) CF.1 CF.2.1 dL_change_2 (by decide) ?_
  refine lv_aload_n CF.1 CF.2.1 dL_change_3 rfl (lv_at hl 0 rfl) ?_
  refine lv_iload_n CF.1 CF.2.1 dL_change_4 rfl (lv_at hl 1 rfl) ?_
  refine lv_iload_n CF.1 CF.2.1 dL_change_5 rfl (lv_at hl 2 rfl) ?_
  refine lv_iload_n CF.1 CF.2.1 dL_change_6 rfl (lv_at hl 3 rfl) ?_
  refine lv_iload CF.1 CF.2.1 dL_change_7 (lv_at hl 4 rfl) ?_
  refine e0_i CF hK hP hE (fun _ h => Or.inl h) hS (As := [.int (x), .int (y), .int (z), .int (w)]) (rest := [.int (nI 0), .ref (ou)]) (b0_change l hfl hj hI hR hO hOi x y z w hbad) rfl lk_RL_X0_change rfl hl.1 ⟨Nat.le_of_ble_eq_true rfl, Nat.le_of_ble_eq_true rfl⟩ ⟨Nat.le_of_ble_eq_true rfl, Nat.le_of_ble_eq_true rfl⟩ (Nat.le_of_ble_eq_true rfl) rfl dL_change_9 (fun E ce q9 H1 locs1 hPE hP1 hk1 hS1 hce hcv hcl => ?_)
  have hPo1 := w1_kept hPo hou hk1
  rcases (show (E = "java/lang/IndexOutOfBoundsException" ∧ (¬ (0 ≤ x.toInt ∧ x.toInt < (b 0 2 : Nat) ∧ 0 ≤ y.toInt ∧ y.toInt < 5 ∧ 0 ≤ z.toInt ∧ z.toInt < 5))) ∨ (E = "java/lang/IllegalStateException" ∧ (0 ≤ x.toInt ∧ x.toInt < (b 0 2 : Nat) ∧ 0 ≤ y.toInt ∧ y.toInt < 5 ∧ 0 ≤ z.toInt ∧ z.toInt < 5)) from hPE) with ⟨rfl, hc⟩ | ⟨rfl, hc⟩
  · refine vx_catch (own := RL) (name := "java/lang/IndexOutOfBoundsException") CF.2.2.2.1 [] ⟨0, 14, 17, 13⟩ [⟨0, 14, 21, 32⟩] (htab.trans rfl) (fun z hz => absurd hz List.not_mem_nil) (by decide) (by decide) (CF.2.2.2.2 _ (inr_2 _ (List.mem_of_getElem? (i := 13) rfl))) (va_Nw.use rfl (hE.2.2.2.1 _ (List.mem_of_getElem? (i := 0) rfl))) hce hcv hcl ?_
    refine W.eq (g2 := F0 m 17 ls [.ref q9]) rfl ?_
    refine lv_astore (lv' := [(6, .ref (q9)), (0, .ref (ad 0)), (1, .int (x)), (2, .int (y)), (3, .int (z)), (4, .int (w)), (5, .ref (ou))]) CF.1 CF.2.1 dL_change_17 hl (by decide) rfl (fun ls hl => ?_)
    refine lv_iconst (v := nI 1) CF.1 CF.2.1 dL_change_19 (by decide) ?_
    exact W.iret CF.1 CF.2.1 hr (fun t9 ht9 hW9 => ⟨⟨_, (σ, fo), rfl, ⟨Or.inl ⟨rfl, hc⟩, rfl⟩, by show va_P G vwCl (w0 ad cA σ) t9.heap; rw [ht9]; exact hP1, by show va_P G vwCl (wO ou cL fo) t9.heap; rw [ht9]; exact hPo1⟩, hS1.F ht9⟩) hS1.2.2 dL_change_20
  · have hpass : ∀ e9 ∈ ([⟨0, 14, 17, 13⟩] : List ExceptionTableEntry), covers e9 9 = false ∨ (e9.catchType ≠ 0 ∧ ∃ nm : String, (Cond.classLink RL e9.catchType nm).before #[.ref (ad 0), .int (x), .int (y), .int (z), .int (w), .ref (ou)] s = true ∧ va_Nc "java/lang/IllegalStateException" nm s) := by
      intro e9 hz
      simp only [List.mem_cons, List.not_mem_nil, or_false] at hz
      rcases hz with rfl
      · exact Or.inr ⟨by decide, "java/lang/IndexOutOfBoundsException", CF.2.2.2.2 _ (inr_2 _ (List.mem_of_getElem? (i := 13) rfl)), hE.2.2.2.2.1 _ (List.mem_of_getElem? (i := 2) rfl) _ (List.mem_of_getElem? (i := 0) rfl) (by decide)⟩
    refine vx_catch (own := RL) (name := "java/lang/IllegalStateException") CF.2.2.2.1 [⟨0, 14, 17, 13⟩] ⟨0, 14, 21, 32⟩ [] (htab.trans rfl) hpass (by decide) (by decide) (CF.2.2.2.2 _ (inr_11 _ (List.mem_of_getElem? (i := 1) rfl))) (va_Nw.use rfl (hE.2.2.2.1 _ (List.mem_of_getElem? (i := 2) rfl))) hce hcv hcl ?_
    refine W.eq (g2 := F0 m 21 ls [.ref q9]) rfl ?_
    refine lv_astore (lv' := [(6, .ref (q9)), (0, .ref (ad 0)), (1, .int (x)), (2, .int (y)), (3, .int (z)), (4, .int (w)), (5, .ref (ou))]) CF.1 CF.2.1 dL_change_21 hl (by decide) rfl (fun ls hl => ?_)
    refine lv_iconst (v := nI 2) CF.1 CF.2.1 dL_change_23 (by decide) ?_
    exact W.iret CF.1 CF.2.1 hr (fun t9 ht9 hW9 => ⟨⟨_, (σ, fo), rfl, ⟨Or.inr (⟨rfl, hc⟩), rfl⟩, by show va_P G vwCl (w0 ad cA σ) t9.heap; rw [ht9]; exact hP1, by show va_P G vwCl (wO ou cL fo) t9.heap; rw [ht9]; exact hPo1⟩, hS1.F ht9⟩) hS1.2.2 dL_change_24
set_option maxHeartbeats 1000000 in
set_option maxRecDepth 100000 in
theorem wk_order (l : Launch) {G : va_G} {cA : ClassId} {ad : Nat → Nat} {σ : RS} (hj : inj8 ad) {b : BS} (hI : InvC b) (hR : Rc σ b) (hO : Ro σ b) (hOi : InvO b) {u f t a k : Nat} (hu : u < b 0 2) (hf : f < 5) (ht : t < 5) (hne : f ≠ t) (ha0 : 1 ≤ a) (ha : a ≤ 99999) (hk0 : 1 ≤ k) (hk : k ≤ 99999) (hw : b 0 3 < 10) {ou : Nat} {cL : ClassId} {fo : Nat → Int64} (hou : ¬ own8 ad ou) : Met l yL_order (wsW yL_order cL_order 8 (some .int) [(0, 16, 19, 13), (0, 16, 23, 15), (0, 16, 27, 32)]) (rmk 9 0 0) (pcW G cA ad σ ou cL fo [.ref (ad 0), .int (nI (u)), .int (nI (f)), .int (nI (t)), .int (nI (a)), .int (nI (k)), .ref (ou)]) (va_Qi (fun (r : Int32) (u9 : RS × (Nat → Int64)) => r = nI 0 ∧ u9.2 0 = (nI (b 0 3 + 1)).toInt64 ∧ Rc u9.1 (s_order b u f t a k) ∧ Ro u9.1 (s_order b u f t a k)) (fun u9 t9 => va_P G vwCl (w0 ad cA u9.1) t9.heap ∧ va_P G vwCl (wO ou cL u9.2) t9.heap) (ownW ad ou)) 0 0 (ownW ad ou) := by
  refine va_MetW (cc := cL_order) (maxL := 8) (ret := (some .int)) (by decide) rfl ?_
  intro p e s m args below meth c s₁ B hml hv
  obtain ⟨rfl, hP, hPo, hK, hKL, hE⟩ := hv
  have hts9 := atoms_spec (ws := wsW yL_order cL_order 8 (some .int) [(0, 16, 19, 13), (0, 16, 23, 15), (0, 16, 27, 32)]) B.pre
  have CF : CallFix p m c cL_order 8 s _ AW RL := ⟨B.exec, B.bytes, hml, findClass_of_methodNamed B.named, fun w h => hts9 w (List.mem_cons_of_mem _ h)⟩
  have htab := vx_table (x := yL_order) B (hts9 _ List.mem_cons_self)
  have hr := B.returns
  have hlocks := B.notSynchronized
  have hl := lv_entry ([.ref (ad 0), .int (nI (u)), .int (nI (f)), .int (nI (t)), .int (nI (a)), .int (nI (k)), .ref (ou)]) (n := 8) (Nat.le_of_ble_eq_true rfl)
  rw [lg_entry_eq]
  generalize (lg_sl ([.ref (ad 0), .int (nI (u)), .int (nI (f)), .int (nI (t)), .int (nI (a)), .int (nI (k)), .ref (ou)]) ++ List.replicate (8 - (lg_sl ([.ref (ad 0), .int (nI (u)), .int (nI (f)), .int (nI (t)), .int (nI (a)), .int (nI (k)), .ref (ou)])).length) Slot.unset).toArray = ls at hl ⊢
  have hl : lv_has ls 8 [(0, .ref (ad 0)), (1, .int (nI (u))), (2, .int (nI (f))), (3, .int (nI (t))), (4, .int (nI (a))), (5, .int (nI (k))), (6, .ref (ou))] := hl
  have hS : va_S (ownW ad ou) s.heap s.heap [] := va_S.rf
  refine lv_aload CF.1 CF.2.1 dL_order_0 (lv_at hl 6 rfl) ?_
  refine lv_iconst (v := nI 0) CF.1 CF.2.1 dL_order_2 (by decide) ?_
  refine lv_aload_n CF.1 CF.2.1 dL_order_3 rfl (lv_at hl 0 rfl) ?_
  refine lv_iload_n CF.1 CF.2.1 dL_order_4 rfl (lv_at hl 1 rfl) ?_
  refine lv_iload_n CF.1 CF.2.1 dL_order_5 rfl (lv_at hl 2 rfl) ?_
  refine lv_iload_n CF.1 CF.2.1 dL_order_6 rfl (lv_at hl 3 rfl) ?_
  refine lv_iload CF.1 CF.2.1 dL_order_7 (lv_at hl 4 rfl) ?_
  refine lv_iload CF.1 CF.2.1 dL_order_9 (lv_at hl 5 rfl) ?_
  refine d0_i CF hK hP hj (fun _ h => Or.inl h) hS (As := [.int (nI (u)), .int (nI (f)), .int (nI (t)), .int (nI (a)), .int (nI (k))]) (rest := [.int (nI 0), .ref (ou)]) (c0_order l hj hI hR hO hOi hu hf ht hne ha0 ha hk0 hk hw) rfl lk_RL_X0_order rfl hl.1 ⟨Nat.le_of_ble_eq_true rfl, Nat.le_of_ble_eq_true rfl⟩ ⟨Nat.zero_le _, Nat.zero_le _⟩ (Nat.le_of_ble_eq_true rfl) rfl dL_order_11 (fun r σ1 H1 locs hr1 hP1 hD1 hS1 hz1 hk1 => ?_)
  obtain ⟨rfl, hR1, hO1⟩ := hr1
  have hPo1 := w1_kept hPo hou hk1
  refine lv_i2l CF.1 CF.2.1 dL_order_14 rfl ?_
  refine w_last CF hKL hP1 hPo1 hj hou hS1 dL_order_15 (fun H2 locs hP2 hPo2 hS2 => ?_)
  refine lv_goto (tgt := 31) CF.1 CF.2.1 dL_order_16 (by decide) ?_
  refine lv_iconst (v := nI 0) CF.1 CF.2.1 dL_order_31 (by decide) ?_
  exact W.iret CF.1 CF.2.1 hr (fun t9 ht9 hW9 => ⟨⟨_, (σ1, (vp_updL fo 0 (((nI (b 0 3 + 1))).toInt64))), rfl, ⟨rfl, rfl, hR1, hO1⟩, by show va_P G vwCl (w0 ad cA σ1) t9.heap; rw [ht9]; exact hP2, by show va_P G vwCl (wO ou cL (vp_updL fo 0 (((nI (b 0 3 + 1))).toInt64))) t9.heap; rw [ht9]; exact hPo2⟩, hS2.F ht9⟩) hS2.2.2 dL_order_32
set_option maxHeartbeats 1000000 in
set_option maxRecDepth 100000 in
theorem wb_order (l : Launch) (hfl : l.stackTraces = false) {G : va_G} {cA : ClassId} {ad : Nat → Nat} {σ : RS} (hj : inj8 ad) {b : BS} (hI : InvC b) (hR : Rc σ b) (hO : Ro σ b) (hOi : InvO b) (x y z w v : Int32) (hbad : ¬ (0 ≤ x.toInt ∧ x.toInt < (b 0 2 : Nat) ∧ 0 ≤ y.toInt ∧ y.toInt < 5 ∧ 0 ≤ z.toInt ∧ z.toInt < 5 ∧ y.toInt ≠ z.toInt ∧ 1 ≤ w.toInt ∧ w.toInt ≤ 99999 ∧ 1 ≤ v.toInt ∧ v.toInt ≤ 99999 ∧ b 0 3 < 10)) {ou : Nat} {cL : ClassId} {fo : Nat → Int64} (hou : ¬ own8 ad ou) : Met l yL_order (wsW yL_order cL_order 8 (some .int) [(0, 16, 19, 13), (0, 16, 23, 15), (0, 16, 27, 32)]) (rmk 9 1 6) (pcW G cA ad σ ou cL fo [.ref (ad 0), .int (x), .int (y), .int (z), .int (w), .int (v), .ref (ou)]) (va_Qi (fun (r : Int32) (u9 : RS × (Nat → Int64)) => ((r = nI 1 ∧ (¬ (0 ≤ x.toInt ∧ x.toInt < (b 0 2 : Nat) ∧ 0 ≤ y.toInt ∧ y.toInt < 5 ∧ 0 ≤ z.toInt ∧ z.toInt < 5))) ∨ (r = nI 2 ∧ ((0 ≤ x.toInt ∧ x.toInt < (b 0 2 : Nat) ∧ 0 ≤ y.toInt ∧ y.toInt < 5 ∧ 0 ≤ z.toInt ∧ z.toInt < 5) ∧ ¬ (y.toInt ≠ z.toInt ∧ 1 ≤ w.toInt ∧ w.toInt ≤ 99999 ∧ 1 ≤ v.toInt ∧ v.toInt ≤ 99999))) ∨ (r = nI 3 ∧ ((0 ≤ x.toInt ∧ x.toInt < (b 0 2 : Nat) ∧ 0 ≤ y.toInt ∧ y.toInt < 5 ∧ 0 ≤ z.toInt ∧ z.toInt < 5) ∧ (y.toInt ≠ z.toInt ∧ 1 ≤ w.toInt ∧ w.toInt ≤ 99999 ∧ 1 ≤ v.toInt ∧ v.toInt ≤ 99999)))) ∧ u9 = (σ, fo)) (fun u9 t9 => va_P G vwCl (w0 ad cA u9.1) t9.heap ∧ va_P G vwCl (wO ou cL u9.2) t9.heap) (ownW ad ou)) 1 6 (ownW ad ou) := by
  refine va_MetW (cc := cL_order) (maxL := 8) (ret := (some .int)) (by decide) rfl ?_
  intro p e s m args below meth c s₁ B hml hv
  obtain ⟨rfl, hP, hPo, hK, hKL, hE⟩ := hv
  have hts9 := atoms_spec (ws := wsW yL_order cL_order 8 (some .int) [(0, 16, 19, 13), (0, 16, 23, 15), (0, 16, 27, 32)]) B.pre
  have CF : CallFix p m c cL_order 8 s _ AW RL := ⟨B.exec, B.bytes, hml, findClass_of_methodNamed B.named, fun w h => hts9 w (List.mem_cons_of_mem _ h)⟩
  have htab := vx_table (x := yL_order) B (hts9 _ List.mem_cons_self)
  have hr := B.returns
  have hlocks := B.notSynchronized
  have hl := lv_entry ([.ref (ad 0), .int (x), .int (y), .int (z), .int (w), .int (v), .ref (ou)]) (n := 8) (Nat.le_of_ble_eq_true rfl)
  rw [lg_entry_eq]
  generalize (lg_sl ([.ref (ad 0), .int (x), .int (y), .int (z), .int (w), .int (v), .ref (ou)]) ++ List.replicate (8 - (lg_sl ([.ref (ad 0), .int (x), .int (y), .int (z), .int (w), .int (v), .ref (ou)])).length) Slot.unset).toArray = ls at hl ⊢
  have hl : lv_has ls 8 [(0, .ref (ad 0)), (1, .int (x)), (2, .int (y)), (3, .int (z)), (4, .int (w)), (5, .int (v)), (6, .ref (ou))] := hl
  have hS : va_S (ownW ad ou) s.heap s.heap [] := va_S.rf
  refine lv_aload CF.1 CF.2.1 dL_order_0 (lv_at hl 6 rfl) ?_
  refine lv_iconst (v := nI 0) CF.1 CF.2.1 dL_order_2 (by decide) ?_
  refine lv_aload_n CF.1 CF.2.1 dL_order_3 rfl (lv_at hl 0 rfl) ?_
  refine lv_iload_n CF.1 CF.2.1 dL_order_4 rfl (lv_at hl 1 rfl) ?_
  refine lv_iload_n CF.1 CF.2.1 dL_order_5 rfl (lv_at hl 2 rfl) ?_
  refine lv_iload_n CF.1 CF.2.1 dL_order_6 rfl (lv_at hl 3 rfl) ?_
  refine lv_iload CF.1 CF.2.1 dL_order_7 (lv_at hl 4 rfl) ?_
  refine lv_iload CF.1 CF.2.1 dL_order_9 (lv_at hl 5 rfl) ?_
  refine e0_i CF hK hP hE (fun _ h => Or.inl h) hS (As := [.int (x), .int (y), .int (z), .int (w), .int (v)]) (rest := [.int (nI 0), .ref (ou)]) (b0_order l hfl hj hI hR hO hOi x y z w v hbad) rfl lk_RL_X0_order rfl hl.1 ⟨Nat.le_of_ble_eq_true rfl, Nat.le_of_ble_eq_true rfl⟩ ⟨Nat.le_of_ble_eq_true rfl, Nat.le_of_ble_eq_true rfl⟩ (Nat.le_of_ble_eq_true rfl) rfl dL_order_11 (fun E ce q9 H1 locs1 hPE hP1 hk1 hS1 hce hcv hcl => ?_)
  have hPo1 := w1_kept hPo hou hk1
  rcases (show (E = "java/lang/IndexOutOfBoundsException" ∧ (¬ (0 ≤ x.toInt ∧ x.toInt < (b 0 2 : Nat) ∧ 0 ≤ y.toInt ∧ y.toInt < 5 ∧ 0 ≤ z.toInt ∧ z.toInt < 5))) ∨ (E = "java/lang/IllegalArgumentException" ∧ ((0 ≤ x.toInt ∧ x.toInt < (b 0 2 : Nat) ∧ 0 ≤ y.toInt ∧ y.toInt < 5 ∧ 0 ≤ z.toInt ∧ z.toInt < 5) ∧ ¬ (y.toInt ≠ z.toInt ∧ 1 ≤ w.toInt ∧ w.toInt ≤ 99999 ∧ 1 ≤ v.toInt ∧ v.toInt ≤ 99999))) ∨ (E = "java/lang/IllegalStateException" ∧ ((0 ≤ x.toInt ∧ x.toInt < (b 0 2 : Nat) ∧ 0 ≤ y.toInt ∧ y.toInt < 5 ∧ 0 ≤ z.toInt ∧ z.toInt < 5) ∧ (y.toInt ≠ z.toInt ∧ 1 ≤ w.toInt ∧ w.toInt ≤ 99999 ∧ 1 ≤ v.toInt ∧ v.toInt ≤ 99999))) from hPE) with ⟨rfl, hc⟩ | ⟨rfl, hc⟩ | ⟨rfl, hc⟩
  · refine vx_catch (own := RL) (name := "java/lang/IndexOutOfBoundsException") CF.2.2.2.1 [] ⟨0, 16, 19, 13⟩ [⟨0, 16, 23, 15⟩, ⟨0, 16, 27, 32⟩] (htab.trans rfl) (fun z hz => absurd hz List.not_mem_nil) (by decide) (by decide) (CF.2.2.2.2 _ (inr_2 _ (List.mem_of_getElem? (i := 13) rfl))) (va_Nw.use rfl (hE.2.2.2.1 _ (List.mem_of_getElem? (i := 0) rfl))) hce hcv hcl ?_
    refine W.eq (g2 := F0 m 19 ls [.ref q9]) rfl ?_
    refine lv_astore (lv' := [(7, .ref (q9)), (0, .ref (ad 0)), (1, .int (x)), (2, .int (y)), (3, .int (z)), (4, .int (w)), (5, .int (v)), (6, .ref (ou))]) CF.1 CF.2.1 dL_order_19 hl (by decide) rfl (fun ls hl => ?_)
    refine lv_iconst (v := nI 1) CF.1 CF.2.1 dL_order_21 (by decide) ?_
    exact W.iret CF.1 CF.2.1 hr (fun t9 ht9 hW9 => ⟨⟨_, (σ, fo), rfl, ⟨Or.inl ⟨rfl, hc⟩, rfl⟩, by show va_P G vwCl (w0 ad cA σ) t9.heap; rw [ht9]; exact hP1, by show va_P G vwCl (wO ou cL fo) t9.heap; rw [ht9]; exact hPo1⟩, hS1.F ht9⟩) hS1.2.2 dL_order_22
  · have hpass : ∀ e9 ∈ ([⟨0, 16, 19, 13⟩] : List ExceptionTableEntry), covers e9 11 = false ∨ (e9.catchType ≠ 0 ∧ ∃ nm : String, (Cond.classLink RL e9.catchType nm).before #[.ref (ad 0), .int (x), .int (y), .int (z), .int (w), .int (v), .ref (ou)] s = true ∧ va_Nc "java/lang/IllegalArgumentException" nm s) := by
      intro e9 hz
      simp only [List.mem_cons, List.not_mem_nil, or_false] at hz
      rcases hz with rfl
      · exact Or.inr ⟨by decide, "java/lang/IndexOutOfBoundsException", CF.2.2.2.2 _ (inr_2 _ (List.mem_of_getElem? (i := 13) rfl)), hE.2.2.2.2.1 _ (List.mem_of_getElem? (i := 1) rfl) _ (List.mem_of_getElem? (i := 0) rfl) (by decide)⟩
    refine vx_catch (own := RL) (name := "java/lang/IllegalArgumentException") CF.2.2.2.1 [⟨0, 16, 19, 13⟩] ⟨0, 16, 23, 15⟩ [⟨0, 16, 27, 32⟩] (htab.trans rfl) hpass (by decide) (by decide) (CF.2.2.2.2 _ (inr_2 _ (List.mem_of_getElem? (i := 14) rfl))) (va_Nw.use rfl (hE.2.2.2.1 _ (List.mem_of_getElem? (i := 1) rfl))) hce hcv hcl ?_
    refine W.eq (g2 := F0 m 23 ls [.ref q9]) rfl ?_
    refine lv_astore (lv' := [(7, .ref (q9)), (0, .ref (ad 0)), (1, .int (x)), (2, .int (y)), (3, .int (z)), (4, .int (w)), (5, .int (v)), (6, .ref (ou))]) CF.1 CF.2.1 dL_order_23 hl (by decide) rfl (fun ls hl => ?_)
    refine lv_iconst (v := nI 2) CF.1 CF.2.1 dL_order_25 (by decide) ?_
    exact W.iret CF.1 CF.2.1 hr (fun t9 ht9 hW9 => ⟨⟨_, (σ, fo), rfl, ⟨Or.inr (Or.inl ⟨rfl, hc⟩), rfl⟩, by show va_P G vwCl (w0 ad cA σ) t9.heap; rw [ht9]; exact hP1, by show va_P G vwCl (wO ou cL fo) t9.heap; rw [ht9]; exact hPo1⟩, hS1.F ht9⟩) hS1.2.2 dL_order_26
  · have hpass : ∀ e9 ∈ ([⟨0, 16, 19, 13⟩, ⟨0, 16, 23, 15⟩] : List ExceptionTableEntry), covers e9 11 = false ∨ (e9.catchType ≠ 0 ∧ ∃ nm : String, (Cond.classLink RL e9.catchType nm).before #[.ref (ad 0), .int (x), .int (y), .int (z), .int (w), .int (v), .ref (ou)] s = true ∧ va_Nc "java/lang/IllegalStateException" nm s) := by
      intro e9 hz
      simp only [List.mem_cons, List.not_mem_nil, or_false] at hz
      rcases hz with rfl | rfl
      · exact Or.inr ⟨by decide, "java/lang/IndexOutOfBoundsException", CF.2.2.2.2 _ (inr_2 _ (List.mem_of_getElem? (i := 13) rfl)), hE.2.2.2.2.1 _ (List.mem_of_getElem? (i := 2) rfl) _ (List.mem_of_getElem? (i := 0) rfl) (by decide)⟩
      · exact Or.inr ⟨by decide, "java/lang/IllegalArgumentException", CF.2.2.2.2 _ (inr_2 _ (List.mem_of_getElem? (i := 14) rfl)), hE.2.2.2.2.1 _ (List.mem_of_getElem? (i := 2) rfl) _ (List.mem_of_getElem? (i := 1) rfl) (by decide)⟩
    refine vx_catch (own := RL) (name := "java/lang/IllegalStateException") CF.2.2.2.1 [⟨0, 16, 19, 13⟩, ⟨0, 16, 23, 15⟩] ⟨0, 16, 27, 32⟩ [] (htab.trans rfl) hpass (by decide) (by decide) (CF.2.2.2.2 _ (inr_11 _ (List.mem_of_getElem? (i := 1) rfl))) (va_Nw.use rfl (hE.2.2.2.1 _ (List.mem_of_getElem? (i := 2) rfl))) hce hcv hcl ?_
    refine W.eq (g2 := F0 m 27 ls [.ref q9]) rfl ?_
    refine lv_astore (lv' := [(7, .ref (q9)), (0, .ref (ad 0)), (1, .int (x)), (2, .int (y)), (3, .int (z)), (4, .int (w)), (5, .int (v)), (6, .ref (ou))]) CF.1 CF.2.1 dL_order_27 hl (by decide) rfl (fun ls hl => ?_)
    refine lv_iconst (v := nI 3) CF.1 CF.2.1 dL_order_29 (by decide) ?_
    exact W.iret CF.1 CF.2.1 hr (fun t9 ht9 hW9 => ⟨⟨_, (σ, fo), rfl, ⟨Or.inr (Or.inr (⟨rfl, hc⟩)), rfl⟩, by show va_P G vwCl (w0 ad cA σ) t9.heap; rw [ht9]; exact hP1, by show va_P G vwCl (wO ou cL fo) t9.heap; rw [ht9]; exact hPo1⟩, hS1.F ht9⟩) hS1.2.2 dL_order_30
set_option maxHeartbeats 1000000 in
set_option maxRecDepth 100000 in
theorem wk_cancel (l : Launch) {G : va_G} {cA : ClassId} {ad : Nat → Nat} {σ : RS} (hj : inj8 ad) {b : BS} (hI : InvC b) (hR : Rc σ b) (hO : Ro σ b) (hOi : InvO b) {q : Nat} (hq : q < b 0 3) {ou : Nat} {cL : ClassId} {fo : Nat → Int64} (hou : ¬ own8 ad ou) : Met l yL_cancel (wsW yL_cancel cL_cancel 4 (some .int) [(0, 9, 12, 13)]) (rmk 9 0 0) (pcW G cA ad σ ou cL fo [.ref (ad 0), .int (nI (q)), .ref (ou)]) (va_Qi (fun (r : Int32) (u9 : RS × (Nat → Int64)) => r = nI 0 ∧ u9.2 0 = (nI (b 7 (q * 5))).toInt64 ∧ Rc u9.1 (takeN b q) ∧ Ro u9.1 (takeN b q)) (fun u9 t9 => va_P G vwCl (w0 ad cA u9.1) t9.heap ∧ va_P G vwCl (wO ou cL u9.2) t9.heap) (ownW ad ou)) 0 0 (ownW ad ou) := by
  refine va_MetW (cc := cL_cancel) (maxL := 4) (ret := (some .int)) (by decide) rfl ?_
  intro p e s m args below meth c s₁ B hml hv
  obtain ⟨rfl, hP, hPo, hK, hKL, hE⟩ := hv
  have hts9 := atoms_spec (ws := wsW yL_cancel cL_cancel 4 (some .int) [(0, 9, 12, 13)]) B.pre
  have CF : CallFix p m c cL_cancel 4 s _ AW RL := ⟨B.exec, B.bytes, hml, findClass_of_methodNamed B.named, fun w h => hts9 w (List.mem_cons_of_mem _ h)⟩
  have htab := vx_table (x := yL_cancel) B (hts9 _ List.mem_cons_self)
  have hr := B.returns
  have hlocks := B.notSynchronized
  have hl := lv_entry ([.ref (ad 0), .int (nI (q)), .ref (ou)]) (n := 4) (Nat.le_of_ble_eq_true rfl)
  rw [lg_entry_eq]
  generalize (lg_sl ([.ref (ad 0), .int (nI (q)), .ref (ou)]) ++ List.replicate (4 - (lg_sl ([.ref (ad 0), .int (nI (q)), .ref (ou)])).length) Slot.unset).toArray = ls at hl ⊢
  have hl : lv_has ls 4 [(0, .ref (ad 0)), (1, .int (nI (q))), (2, .ref (ou))] := hl
  have hS : va_S (ownW ad ou) s.heap s.heap [] := va_S.rf
  refine lv_aload_n CF.1 CF.2.1 dL_cancel_0 rfl (lv_at hl 2 rfl) ?_
  refine lv_iconst (v := nI 0) CF.1 CF.2.1 dL_cancel_1 (by decide) ?_
  refine lv_aload_n CF.1 CF.2.1 dL_cancel_2 rfl (lv_at hl 0 rfl) ?_
  refine lv_iload_n CF.1 CF.2.1 dL_cancel_3 rfl (lv_at hl 1 rfl) ?_
  refine d0_i CF hK hP hj (fun _ h => Or.inl h) hS (As := [.int (nI (q))]) (rest := [.int (nI 0), .ref (ou)]) (c0_cancel l hj hI hR hO hOi hq) rfl lk_RL_X0_cancel rfl hl.1 ⟨Nat.le_of_ble_eq_true rfl, Nat.le_of_ble_eq_true rfl⟩ ⟨Nat.zero_le _, Nat.zero_le _⟩ (Nat.le_of_ble_eq_true rfl) rfl dL_cancel_4 (fun r σ1 H1 locs hr1 hP1 hD1 hS1 hz1 hk1 => ?_)
  obtain ⟨rfl, hR1, hO1⟩ := hr1
  have hPo1 := w1_kept hPo hou hk1
  refine lv_i2l CF.1 CF.2.1 dL_cancel_7 rfl ?_
  refine w_last CF hKL hP1 hPo1 hj hou hS1 dL_cancel_8 (fun H2 locs hP2 hPo2 hS2 => ?_)
  refine lv_goto (tgt := 15) CF.1 CF.2.1 dL_cancel_9 (by decide) ?_
  refine lv_iconst (v := nI 0) CF.1 CF.2.1 dL_cancel_15 (by decide) ?_
  exact W.iret CF.1 CF.2.1 hr (fun t9 ht9 hW9 => ⟨⟨_, (σ1, (vp_updL fo 0 (((nI (b 7 (q * 5)))).toInt64))), rfl, ⟨rfl, rfl, hR1, hO1⟩, by show va_P G vwCl (w0 ad cA σ1) t9.heap; rw [ht9]; exact hP2, by show va_P G vwCl (wO ou cL (vp_updL fo 0 (((nI (b 7 (q * 5)))).toInt64))) t9.heap; rw [ht9]; exact hPo2⟩, hS2.F ht9⟩) hS2.2.2 dL_cancel_16
set_option maxHeartbeats 1000000 in
set_option maxRecDepth 100000 in
theorem wb_cancel (l : Launch) (hfl : l.stackTraces = false) {G : va_G} {cA : ClassId} {ad : Nat → Nat} {σ : RS} (hj : inj8 ad) {b : BS} (hI : InvC b) (hR : Rc σ b) (hO : Ro σ b) (hOi : InvO b) (x : Int32) (hbad : ¬ (0 ≤ x.toInt ∧ x.toInt < (b 0 3 : Nat))) {ou : Nat} {cL : ClassId} {fo : Nat → Int64} (hou : ¬ own8 ad ou) : Met l yL_cancel (wsW yL_cancel cL_cancel 4 (some .int) [(0, 9, 12, 13)]) (rmk 9 1 6) (pcW G cA ad σ ou cL fo [.ref (ad 0), .int (x), .ref (ou)]) (va_Qi (fun (r : Int32) (u9 : RS × (Nat → Int64)) => ((r = nI 1 ∧ (True))) ∧ u9 = (σ, fo)) (fun u9 t9 => va_P G vwCl (w0 ad cA u9.1) t9.heap ∧ va_P G vwCl (wO ou cL u9.2) t9.heap) (ownW ad ou)) 1 6 (ownW ad ou) := by
  refine va_MetW (cc := cL_cancel) (maxL := 4) (ret := (some .int)) (by decide) rfl ?_
  intro p e s m args below meth c s₁ B hml hv
  obtain ⟨rfl, hP, hPo, hK, hKL, hE⟩ := hv
  have hts9 := atoms_spec (ws := wsW yL_cancel cL_cancel 4 (some .int) [(0, 9, 12, 13)]) B.pre
  have CF : CallFix p m c cL_cancel 4 s _ AW RL := ⟨B.exec, B.bytes, hml, findClass_of_methodNamed B.named, fun w h => hts9 w (List.mem_cons_of_mem _ h)⟩
  have htab := vx_table (x := yL_cancel) B (hts9 _ List.mem_cons_self)
  have hr := B.returns
  have hlocks := B.notSynchronized
  have hl := lv_entry ([.ref (ad 0), .int (x), .ref (ou)]) (n := 4) (Nat.le_of_ble_eq_true rfl)
  rw [lg_entry_eq]
  generalize (lg_sl ([.ref (ad 0), .int (x), .ref (ou)]) ++ List.replicate (4 - (lg_sl ([.ref (ad 0), .int (x), .ref (ou)])).length) Slot.unset).toArray = ls at hl ⊢
  have hl : lv_has ls 4 [(0, .ref (ad 0)), (1, .int (x)), (2, .ref (ou))] := hl
  have hS : va_S (ownW ad ou) s.heap s.heap [] := va_S.rf
  refine lv_aload_n CF.1 CF.2.1 dL_cancel_0 rfl (lv_at hl 2 rfl) ?_
  refine lv_iconst (v := nI 0) CF.1 CF.2.1 dL_cancel_1 (by decide) ?_
  refine lv_aload_n CF.1 CF.2.1 dL_cancel_2 rfl (lv_at hl 0 rfl) ?_
  refine lv_iload_n CF.1 CF.2.1 dL_cancel_3 rfl (lv_at hl 1 rfl) ?_
  refine e0_i CF hK hP hE (fun _ h => Or.inl h) hS (As := [.int (x)]) (rest := [.int (nI 0), .ref (ou)]) (b0_cancel l hfl hj hI hR hO hOi x hbad) rfl lk_RL_X0_cancel rfl hl.1 ⟨Nat.le_of_ble_eq_true rfl, Nat.le_of_ble_eq_true rfl⟩ ⟨Nat.le_of_ble_eq_true rfl, Nat.le_of_ble_eq_true rfl⟩ (Nat.le_of_ble_eq_true rfl) rfl dL_cancel_4 (fun E ce q9 H1 locs1 hPE hP1 hk1 hS1 hce hcv hcl => ?_)
  have hPo1 := w1_kept hPo hou hk1
  rcases (show (E = "java/lang/IndexOutOfBoundsException" ∧ (True)) from hPE) with ⟨rfl, hc⟩
  · refine vx_catch (own := RL) (name := "java/lang/IndexOutOfBoundsException") CF.2.2.2.1 [] ⟨0, 9, 12, 13⟩ [] (htab.trans rfl) (fun z hz => absurd hz List.not_mem_nil) (by decide) (by decide) (CF.2.2.2.2 _ (inr_2 _ (List.mem_of_getElem? (i := 13) rfl))) (va_Nw.use rfl (hE.2.2.2.1 _ (List.mem_of_getElem? (i := 0) rfl))) hce hcv hcl ?_
    refine W.eq (g2 := F0 m 12 ls [.ref q9]) rfl ?_
    refine lv_astore_n (lv' := [(3, .ref (q9)), (0, .ref (ad 0)), (1, .int (x)), (2, .ref (ou))]) CF.1 CF.2.1 dL_cancel_12 rfl hl (by decide) rfl (fun ls hl => ?_)
    refine lv_iconst (v := nI 1) CF.1 CF.2.1 dL_cancel_13 (by decide) ?_
    exact W.iret CF.1 CF.2.1 hr (fun t9 ht9 hW9 => ⟨⟨_, (σ, fo), rfl, ⟨⟨rfl, hc⟩, rfl⟩, by show va_P G vwCl (w0 ad cA σ) t9.heap; rw [ht9]; exact hP1, by show va_P G vwCl (wO ou cL fo) t9.heap; rw [ht9]; exact hPo1⟩, hS1.F ht9⟩) hS1.2.2 dL_cancel_14
set_option maxHeartbeats 1000000 in
set_option maxRecDepth 100000 in
theorem wk_has (l : Launch) {G : va_G} {cA : ClassId} {ad : Nat → Nat} {σ : RS} (hj : inj8 ad) {b : BS} (hI : InvC b) (hR : Rc σ b) (hO : Ro σ b) (hOi : InvO b) {u t : Nat} (hu : u < b 0 2) (ht : t < 5) {ou : Nat} {cL : ClassId} {fo : Nat → Int64} (hou : ¬ own8 ad ou) : Met l yL_has (wsW yL_has cL_has 5 (some .int) [(0, 10, 13, 13)]) (rmk 9 0 0) (pcW G cA ad σ ou cL fo [.ref (ad 0), .int (nI (u)), .int (nI (t)), .ref (ou)]) (va_Qi (fun (r : Int32) (u9 : RS × (Nat → Int64)) => r = nI 0 ∧ u9.2 0 = (nI (b 6 (u * 5 + t))).toInt64 ∧ Rc u9.1 (b) ∧ Ro u9.1 (b)) (fun u9 t9 => va_P G vwCl (w0 ad cA u9.1) t9.heap ∧ va_P G vwCl (wO ou cL u9.2) t9.heap) (ownW ad ou)) 0 0 (ownW ad ou) := by
  refine va_MetW (cc := cL_has) (maxL := 5) (ret := (some .int)) (by decide) rfl ?_
  intro p e s m args below meth c s₁ B hml hv
  obtain ⟨rfl, hP, hPo, hK, hKL, hE⟩ := hv
  have hts9 := atoms_spec (ws := wsW yL_has cL_has 5 (some .int) [(0, 10, 13, 13)]) B.pre
  have CF : CallFix p m c cL_has 5 s _ AW RL := ⟨B.exec, B.bytes, hml, findClass_of_methodNamed B.named, fun w h => hts9 w (List.mem_cons_of_mem _ h)⟩
  have htab := vx_table (x := yL_has) B (hts9 _ List.mem_cons_self)
  have hr := B.returns
  have hlocks := B.notSynchronized
  have hl := lv_entry ([.ref (ad 0), .int (nI (u)), .int (nI (t)), .ref (ou)]) (n := 5) (Nat.le_of_ble_eq_true rfl)
  rw [lg_entry_eq]
  generalize (lg_sl ([.ref (ad 0), .int (nI (u)), .int (nI (t)), .ref (ou)]) ++ List.replicate (5 - (lg_sl ([.ref (ad 0), .int (nI (u)), .int (nI (t)), .ref (ou)])).length) Slot.unset).toArray = ls at hl ⊢
  have hl : lv_has ls 5 [(0, .ref (ad 0)), (1, .int (nI (u))), (2, .int (nI (t))), (3, .ref (ou))] := hl
  have hS : va_S (ownW ad ou) s.heap s.heap [] := va_S.rf
  refine lv_aload_n CF.1 CF.2.1 dL_has_0 rfl (lv_at hl 3 rfl) ?_
  refine lv_iconst (v := nI 0) CF.1 CF.2.1 dL_has_1 (by decide) ?_
  refine lv_aload_n CF.1 CF.2.1 dL_has_2 rfl (lv_at hl 0 rfl) ?_
  refine lv_iload_n CF.1 CF.2.1 dL_has_3 rfl (lv_at hl 1 rfl) ?_
  refine lv_iload_n CF.1 CF.2.1 dL_has_4 rfl (lv_at hl 2 rfl) ?_
  refine c0_i CF hK hP (As := [.int (nI (u)), .int (nI (t))]) (rest := [.int (nI 0), .ref (ou)]) (c0_has l hI hR hO hOi hu ht) rfl lk_RL_X0_has rfl hl.1 ⟨Nat.le_of_ble_eq_true rfl, Nat.le_of_ble_eq_true rfl⟩ ⟨Nat.zero_le _, Nat.zero_le _⟩ (Nat.le_of_ble_eq_true rfl) rfl dL_has_5 (fun r hr1 => ?_)
  subst hr1
  refine lv_i2l CF.1 CF.2.1 dL_has_8 rfl ?_
  refine w_last CF hKL hP hPo hj hou hS dL_has_9 (fun H2 locs hP2 hPo2 hS2 => ?_)
  refine lv_goto (tgt := 17) CF.1 CF.2.1 dL_has_10 (by decide) ?_
  refine lv_iconst (v := nI 0) CF.1 CF.2.1 dL_has_17 (by decide) ?_
  exact W.iret CF.1 CF.2.1 hr (fun t9 ht9 hW9 => ⟨⟨_, (σ, (vp_updL fo 0 (((nI (b 6 (u * 5 + t)))).toInt64))), rfl, ⟨rfl, rfl, hR, hO⟩, by show va_P G vwCl (w0 ad cA σ) t9.heap; rw [ht9]; exact hP2, by show va_P G vwCl (wO ou cL (vp_updL fo 0 (((nI (b 6 (u * 5 + t)))).toInt64))) t9.heap; rw [ht9]; exact hPo2⟩, hS2.F ht9⟩) hS2.2.2 dL_has_18
set_option maxHeartbeats 1000000 in
set_option maxRecDepth 100000 in
theorem wb_has (l : Launch) (hfl : l.stackTraces = false) {G : va_G} {cA : ClassId} {ad : Nat → Nat} {σ : RS} (hj : inj8 ad) {b : BS} (hI : InvC b) (hR : Rc σ b) (hO : Ro σ b) (hOi : InvO b) (x y : Int32) (hbad : ¬ (0 ≤ x.toInt ∧ x.toInt < (b 0 2 : Nat) ∧ 0 ≤ y.toInt ∧ y.toInt < 5)) {ou : Nat} {cL : ClassId} {fo : Nat → Int64} (hou : ¬ own8 ad ou) : Met l yL_has (wsW yL_has cL_has 5 (some .int) [(0, 10, 13, 13)]) (rmk 9 1 6) (pcW G cA ad σ ou cL fo [.ref (ad 0), .int (x), .int (y), .ref (ou)]) (va_Qi (fun (r : Int32) (u9 : RS × (Nat → Int64)) => ((r = nI 1 ∧ (True))) ∧ u9 = (σ, fo)) (fun u9 t9 => va_P G vwCl (w0 ad cA u9.1) t9.heap ∧ va_P G vwCl (wO ou cL u9.2) t9.heap) (ownW ad ou)) 1 6 (ownW ad ou) := by
  refine va_MetW (cc := cL_has) (maxL := 5) (ret := (some .int)) (by decide) rfl ?_
  intro p e s m args below meth c s₁ B hml hv
  obtain ⟨rfl, hP, hPo, hK, hKL, hE⟩ := hv
  have hts9 := atoms_spec (ws := wsW yL_has cL_has 5 (some .int) [(0, 10, 13, 13)]) B.pre
  have CF : CallFix p m c cL_has 5 s _ AW RL := ⟨B.exec, B.bytes, hml, findClass_of_methodNamed B.named, fun w h => hts9 w (List.mem_cons_of_mem _ h)⟩
  have htab := vx_table (x := yL_has) B (hts9 _ List.mem_cons_self)
  have hr := B.returns
  have hlocks := B.notSynchronized
  have hl := lv_entry ([.ref (ad 0), .int (x), .int (y), .ref (ou)]) (n := 5) (Nat.le_of_ble_eq_true rfl)
  rw [lg_entry_eq]
  generalize (lg_sl ([.ref (ad 0), .int (x), .int (y), .ref (ou)]) ++ List.replicate (5 - (lg_sl ([.ref (ad 0), .int (x), .int (y), .ref (ou)])).length) Slot.unset).toArray = ls at hl ⊢
  have hl : lv_has ls 5 [(0, .ref (ad 0)), (1, .int (x)), (2, .int (y)), (3, .ref (ou))] := hl
  have hS : va_S (ownW ad ou) s.heap s.heap [] := va_S.rf
  refine lv_aload_n CF.1 CF.2.1 dL_has_0 rfl (lv_at hl 3 rfl) ?_
  refine lv_iconst (v := nI 0) CF.1 CF.2.1 dL_has_1 (by decide) ?_
  refine lv_aload_n CF.1 CF.2.1 dL_has_2 rfl (lv_at hl 0 rfl) ?_
  refine lv_iload_n CF.1 CF.2.1 dL_has_3 rfl (lv_at hl 1 rfl) ?_
  refine lv_iload_n CF.1 CF.2.1 dL_has_4 rfl (lv_at hl 2 rfl) ?_
  refine e0_i CF hK hP hE (fun _ h => Or.inl h) hS (As := [.int (x), .int (y)]) (rest := [.int (nI 0), .ref (ou)]) (b0_has l hfl hj hI hR hO hOi x y hbad) rfl lk_RL_X0_has rfl hl.1 ⟨Nat.le_of_ble_eq_true rfl, Nat.le_of_ble_eq_true rfl⟩ ⟨Nat.le_of_ble_eq_true rfl, Nat.le_of_ble_eq_true rfl⟩ (Nat.le_of_ble_eq_true rfl) rfl dL_has_5 (fun E ce q9 H1 locs1 hPE hP1 hk1 hS1 hce hcv hcl => ?_)
  have hPo1 := w1_kept hPo hou hk1
  rcases (show (E = "java/lang/IndexOutOfBoundsException" ∧ (True)) from hPE) with ⟨rfl, hc⟩
  · refine vx_catch (own := RL) (name := "java/lang/IndexOutOfBoundsException") CF.2.2.2.1 [] ⟨0, 10, 13, 13⟩ [] (htab.trans rfl) (fun z hz => absurd hz List.not_mem_nil) (by decide) (by decide) (CF.2.2.2.2 _ (inr_2 _ (List.mem_of_getElem? (i := 13) rfl))) (va_Nw.use rfl (hE.2.2.2.1 _ (List.mem_of_getElem? (i := 0) rfl))) hce hcv hcl ?_
    refine W.eq (g2 := F0 m 13 ls [.ref q9]) rfl ?_
    refine lv_astore (lv' := [(4, .ref (q9)), (0, .ref (ad 0)), (1, .int (x)), (2, .int (y)), (3, .ref (ou))]) CF.1 CF.2.1 dL_has_13 hl (by decide) rfl (fun ls hl => ?_)
    refine lv_iconst (v := nI 1) CF.1 CF.2.1 dL_has_15 (by decide) ?_
    exact W.iret CF.1 CF.2.1 hr (fun t9 ht9 hW9 => ⟨⟨_, (σ, fo), rfl, ⟨⟨rfl, hc⟩, rfl⟩, by show va_P G vwCl (w0 ad cA σ) t9.heap; rw [ht9]; exact hP1, by show va_P G vwCl (wO ou cL fo) t9.heap; rw [ht9]; exact hPo1⟩, hS1.F ht9⟩) hS1.2.2 dL_has_16
set_option maxHeartbeats 1000000 in
set_option maxRecDepth 100000 in
theorem wk_told (l : Launch) {G : va_G} {cA : ClassId} {ad : Nat → Nat} {σ : RS} (hj : inj8 ad) {b : BS} (hI : InvC b) (hR : Rc σ b) (hO : Ro σ b) (hOi : InvO b) {t w : Nat} (ht : t < 5) (hw : w < 5) {ou : Nat} {cL : ClassId} {fo : Nat → Int64} (hou : ¬ own8 ad ou) : Met l yL_told (wsW yL_told cL_told 5 (some .int) [(0, 10, 13, 13)]) (rmk 9 0 0) (pcW G cA ad σ ou cL fo [.ref (ad 0), .int (nI (t)), .int (nI (w)), .ref (ou)]) (va_Qi (fun (r : Int32) (u9 : RS × (Nat → Int64)) => r = nI 0 ∧ u9.2 0 = (nI (fmo b t w)).toInt64 ∧ Rc u9.1 (b) ∧ Ro u9.1 (b)) (fun u9 t9 => va_P G vwCl (w0 ad cA u9.1) t9.heap ∧ va_P G vwCl (wO ou cL u9.2) t9.heap) (ownW ad ou)) 0 0 (ownW ad ou) := by
  refine va_MetW (cc := cL_told) (maxL := 5) (ret := (some .int)) (by decide) rfl ?_
  intro p e s m args below meth c s₁ B hml hv
  obtain ⟨rfl, hP, hPo, hK, hKL, hE⟩ := hv
  have hts9 := atoms_spec (ws := wsW yL_told cL_told 5 (some .int) [(0, 10, 13, 13)]) B.pre
  have CF : CallFix p m c cL_told 5 s _ AW RL := ⟨B.exec, B.bytes, hml, findClass_of_methodNamed B.named, fun w h => hts9 w (List.mem_cons_of_mem _ h)⟩
  have htab := vx_table (x := yL_told) B (hts9 _ List.mem_cons_self)
  have hr := B.returns
  have hlocks := B.notSynchronized
  have hl := lv_entry ([.ref (ad 0), .int (nI (t)), .int (nI (w)), .ref (ou)]) (n := 5) (Nat.le_of_ble_eq_true rfl)
  rw [lg_entry_eq]
  generalize (lg_sl ([.ref (ad 0), .int (nI (t)), .int (nI (w)), .ref (ou)]) ++ List.replicate (5 - (lg_sl ([.ref (ad 0), .int (nI (t)), .int (nI (w)), .ref (ou)])).length) Slot.unset).toArray = ls at hl ⊢
  have hl : lv_has ls 5 [(0, .ref (ad 0)), (1, .int (nI (t))), (2, .int (nI (w))), (3, .ref (ou))] := hl
  have hS : va_S (ownW ad ou) s.heap s.heap [] := va_S.rf
  refine lv_aload_n CF.1 CF.2.1 dL_told_0 rfl (lv_at hl 3 rfl) ?_
  refine lv_iconst (v := nI 0) CF.1 CF.2.1 dL_told_1 (by decide) ?_
  refine lv_aload_n CF.1 CF.2.1 dL_told_2 rfl (lv_at hl 0 rfl) ?_
  refine lv_iload_n CF.1 CF.2.1 dL_told_3 rfl (lv_at hl 1 rfl) ?_
  refine lv_iload_n CF.1 CF.2.1 dL_told_4 rfl (lv_at hl 2 rfl) ?_
  refine c0_i CF hK hP (As := [.int (nI (t)), .int (nI (w))]) (rest := [.int (nI 0), .ref (ou)]) (c0_told l hI hR hO hOi ht hw) rfl lk_RL_X0_told rfl hl.1 ⟨Nat.le_of_ble_eq_true rfl, Nat.le_of_ble_eq_true rfl⟩ ⟨Nat.zero_le _, Nat.zero_le _⟩ (Nat.le_of_ble_eq_true rfl) rfl dL_told_5 (fun r hr1 => ?_)
  subst hr1
  refine lv_i2l CF.1 CF.2.1 dL_told_8 rfl ?_
  refine w_last CF hKL hP hPo hj hou hS dL_told_9 (fun H2 locs hP2 hPo2 hS2 => ?_)
  refine lv_goto (tgt := 17) CF.1 CF.2.1 dL_told_10 (by decide) ?_
  refine lv_iconst (v := nI 0) CF.1 CF.2.1 dL_told_17 (by decide) ?_
  exact W.iret CF.1 CF.2.1 hr (fun t9 ht9 hW9 => ⟨⟨_, (σ, (vp_updL fo 0 (((nI (fmo b t w))).toInt64))), rfl, ⟨rfl, rfl, hR, hO⟩, by show va_P G vwCl (w0 ad cA σ) t9.heap; rw [ht9]; exact hP2, by show va_P G vwCl (wO ou cL (vp_updL fo 0 (((nI (fmo b t w))).toInt64))) t9.heap; rw [ht9]; exact hPo2⟩, hS2.F ht9⟩) hS2.2.2 dL_told_18
set_option maxHeartbeats 1000000 in
set_option maxRecDepth 100000 in
theorem wb_told (l : Launch) (hfl : l.stackTraces = false) {G : va_G} {cA : ClassId} {ad : Nat → Nat} {σ : RS} (hj : inj8 ad) {b : BS} (hI : InvC b) (hR : Rc σ b) (hO : Ro σ b) (hOi : InvO b) (x y : Int32) (hbad : ¬ (0 ≤ x.toInt ∧ x.toInt < 5 ∧ 0 ≤ y.toInt ∧ y.toInt < 5)) {ou : Nat} {cL : ClassId} {fo : Nat → Int64} (hou : ¬ own8 ad ou) : Met l yL_told (wsW yL_told cL_told 5 (some .int) [(0, 10, 13, 13)]) (rmk 9 1 6) (pcW G cA ad σ ou cL fo [.ref (ad 0), .int (x), .int (y), .ref (ou)]) (va_Qi (fun (r : Int32) (u9 : RS × (Nat → Int64)) => ((r = nI 1 ∧ (True))) ∧ u9 = (σ, fo)) (fun u9 t9 => va_P G vwCl (w0 ad cA u9.1) t9.heap ∧ va_P G vwCl (wO ou cL u9.2) t9.heap) (ownW ad ou)) 1 6 (ownW ad ou) := by
  refine va_MetW (cc := cL_told) (maxL := 5) (ret := (some .int)) (by decide) rfl ?_
  intro p e s m args below meth c s₁ B hml hv
  obtain ⟨rfl, hP, hPo, hK, hKL, hE⟩ := hv
  have hts9 := atoms_spec (ws := wsW yL_told cL_told 5 (some .int) [(0, 10, 13, 13)]) B.pre
  have CF : CallFix p m c cL_told 5 s _ AW RL := ⟨B.exec, B.bytes, hml, findClass_of_methodNamed B.named, fun w h => hts9 w (List.mem_cons_of_mem _ h)⟩
  have htab := vx_table (x := yL_told) B (hts9 _ List.mem_cons_self)
  have hr := B.returns
  have hlocks := B.notSynchronized
  have hl := lv_entry ([.ref (ad 0), .int (x), .int (y), .ref (ou)]) (n := 5) (Nat.le_of_ble_eq_true rfl)
  rw [lg_entry_eq]
  generalize (lg_sl ([.ref (ad 0), .int (x), .int (y), .ref (ou)]) ++ List.replicate (5 - (lg_sl ([.ref (ad 0), .int (x), .int (y), .ref (ou)])).length) Slot.unset).toArray = ls at hl ⊢
  have hl : lv_has ls 5 [(0, .ref (ad 0)), (1, .int (x)), (2, .int (y)), (3, .ref (ou))] := hl
  have hS : va_S (ownW ad ou) s.heap s.heap [] := va_S.rf
  refine lv_aload_n CF.1 CF.2.1 dL_told_0 rfl (lv_at hl 3 rfl) ?_
  refine lv_iconst (v := nI 0) CF.1 CF.2.1 dL_told_1 (by decide) ?_
  refine lv_aload_n CF.1 CF.2.1 dL_told_2 rfl (lv_at hl 0 rfl) ?_
  refine lv_iload_n CF.1 CF.2.1 dL_told_3 rfl (lv_at hl 1 rfl) ?_
  refine lv_iload_n CF.1 CF.2.1 dL_told_4 rfl (lv_at hl 2 rfl) ?_
  refine e0_i CF hK hP hE (fun _ h => Or.inl h) hS (As := [.int (x), .int (y)]) (rest := [.int (nI 0), .ref (ou)]) (b0_told l hfl hj hI hR hO hOi x y hbad) rfl lk_RL_X0_told rfl hl.1 ⟨Nat.le_of_ble_eq_true rfl, Nat.le_of_ble_eq_true rfl⟩ ⟨Nat.le_of_ble_eq_true rfl, Nat.le_of_ble_eq_true rfl⟩ (Nat.le_of_ble_eq_true rfl) rfl dL_told_5 (fun E ce q9 H1 locs1 hPE hP1 hk1 hS1 hce hcv hcl => ?_)
  have hPo1 := w1_kept hPo hou hk1
  rcases (show (E = "java/lang/IndexOutOfBoundsException" ∧ (True)) from hPE) with ⟨rfl, hc⟩
  · refine vx_catch (own := RL) (name := "java/lang/IndexOutOfBoundsException") CF.2.2.2.1 [] ⟨0, 10, 13, 13⟩ [] (htab.trans rfl) (fun z hz => absurd hz List.not_mem_nil) (by decide) (by decide) (CF.2.2.2.2 _ (inr_2 _ (List.mem_of_getElem? (i := 13) rfl))) (va_Nw.use rfl (hE.2.2.2.1 _ (List.mem_of_getElem? (i := 0) rfl))) hce hcv hcl ?_
    refine W.eq (g2 := F0 m 13 ls [.ref q9]) rfl ?_
    refine lv_astore (lv' := [(4, .ref (q9)), (0, .ref (ad 0)), (1, .int (x)), (2, .int (y)), (3, .ref (ou))]) CF.1 CF.2.1 dL_told_13 hl (by decide) rfl (fun ls hl => ?_)
    refine lv_iconst (v := nI 1) CF.1 CF.2.1 dL_told_15 (by decide) ?_
    exact W.iret CF.1 CF.2.1 hr (fun t9 ht9 hW9 => ⟨⟨_, (σ, fo), rfl, ⟨⟨rfl, hc⟩, rfl⟩, by show va_P G vwCl (w0 ad cA σ) t9.heap; rw [ht9]; exact hP1, by show va_P G vwCl (wO ou cL fo) t9.heap; rw [ht9]; exact hPo1⟩, hS1.F ht9⟩) hS1.2.2 dL_told_16
set_option maxHeartbeats 1000000 in
set_option maxRecDepth 100000 in
theorem wk_about (l : Launch) {G : va_G} {cA : ClassId} {ad : Nat → Nat} {σ : RS} (hj : inj8 ad) {b : BS} (hI : InvC b) (hR : Rc σ b) (hO : Ro σ b) (hOi : InvO b) {q k : Nat} (hq : q < b 0 3) (hk : k < 5) {ou : Nat} {cL : ClassId} {fo : Nat → Int64} (hou : ¬ own8 ad ou) : Met l yL_about (wsW yL_about cL_about 5 (some .int) [(0, 10, 13, 13)]) (rmk 9 0 0) (pcW G cA ad σ ou cL fo [.ref (ad 0), .int (nI (q)), .int (nI (k)), .ref (ou)]) (va_Qi (fun (r : Int32) (u9 : RS × (Nat → Int64)) => r = nI 0 ∧ u9.2 0 = (nI (b 7 (q * 5 + k))).toInt64 ∧ Rc u9.1 (b) ∧ Ro u9.1 (b)) (fun u9 t9 => va_P G vwCl (w0 ad cA u9.1) t9.heap ∧ va_P G vwCl (wO ou cL u9.2) t9.heap) (ownW ad ou)) 0 0 (ownW ad ou) := by
  refine va_MetW (cc := cL_about) (maxL := 5) (ret := (some .int)) (by decide) rfl ?_
  intro p e s m args below meth c s₁ B hml hv
  obtain ⟨rfl, hP, hPo, hK, hKL, hE⟩ := hv
  have hts9 := atoms_spec (ws := wsW yL_about cL_about 5 (some .int) [(0, 10, 13, 13)]) B.pre
  have CF : CallFix p m c cL_about 5 s _ AW RL := ⟨B.exec, B.bytes, hml, findClass_of_methodNamed B.named, fun w h => hts9 w (List.mem_cons_of_mem _ h)⟩
  have htab := vx_table (x := yL_about) B (hts9 _ List.mem_cons_self)
  have hr := B.returns
  have hlocks := B.notSynchronized
  have hl := lv_entry ([.ref (ad 0), .int (nI (q)), .int (nI (k)), .ref (ou)]) (n := 5) (Nat.le_of_ble_eq_true rfl)
  rw [lg_entry_eq]
  generalize (lg_sl ([.ref (ad 0), .int (nI (q)), .int (nI (k)), .ref (ou)]) ++ List.replicate (5 - (lg_sl ([.ref (ad 0), .int (nI (q)), .int (nI (k)), .ref (ou)])).length) Slot.unset).toArray = ls at hl ⊢
  have hl : lv_has ls 5 [(0, .ref (ad 0)), (1, .int (nI (q))), (2, .int (nI (k))), (3, .ref (ou))] := hl
  have hS : va_S (ownW ad ou) s.heap s.heap [] := va_S.rf
  refine lv_aload_n CF.1 CF.2.1 dL_about_0 rfl (lv_at hl 3 rfl) ?_
  refine lv_iconst (v := nI 0) CF.1 CF.2.1 dL_about_1 (by decide) ?_
  refine lv_aload_n CF.1 CF.2.1 dL_about_2 rfl (lv_at hl 0 rfl) ?_
  refine lv_iload_n CF.1 CF.2.1 dL_about_3 rfl (lv_at hl 1 rfl) ?_
  refine lv_iload_n CF.1 CF.2.1 dL_about_4 rfl (lv_at hl 2 rfl) ?_
  refine c0_i CF hK hP (As := [.int (nI (q)), .int (nI (k))]) (rest := [.int (nI 0), .ref (ou)]) (c0_about l hI hR hO hOi hq hk) rfl lk_RL_X0_about rfl hl.1 ⟨Nat.le_of_ble_eq_true rfl, Nat.le_of_ble_eq_true rfl⟩ ⟨Nat.zero_le _, Nat.zero_le _⟩ (Nat.le_of_ble_eq_true rfl) rfl dL_about_5 (fun r hr1 => ?_)
  subst hr1
  refine lv_i2l CF.1 CF.2.1 dL_about_8 rfl ?_
  refine w_last CF hKL hP hPo hj hou hS dL_about_9 (fun H2 locs hP2 hPo2 hS2 => ?_)
  refine lv_goto (tgt := 17) CF.1 CF.2.1 dL_about_10 (by decide) ?_
  refine lv_iconst (v := nI 0) CF.1 CF.2.1 dL_about_17 (by decide) ?_
  exact W.iret CF.1 CF.2.1 hr (fun t9 ht9 hW9 => ⟨⟨_, (σ, (vp_updL fo 0 (((nI (b 7 (q * 5 + k)))).toInt64))), rfl, ⟨rfl, rfl, hR, hO⟩, by show va_P G vwCl (w0 ad cA σ) t9.heap; rw [ht9]; exact hP2, by show va_P G vwCl (wO ou cL (vp_updL fo 0 (((nI (b 7 (q * 5 + k)))).toInt64))) t9.heap; rw [ht9]; exact hPo2⟩, hS2.F ht9⟩) hS2.2.2 dL_about_18
set_option maxHeartbeats 1000000 in
set_option maxRecDepth 100000 in
theorem wb_about (l : Launch) (hfl : l.stackTraces = false) {G : va_G} {cA : ClassId} {ad : Nat → Nat} {σ : RS} (hj : inj8 ad) {b : BS} (hI : InvC b) (hR : Rc σ b) (hO : Ro σ b) (hOi : InvO b) (x y : Int32) (hbad : ¬ (0 ≤ x.toInt ∧ x.toInt < (b 0 3 : Nat) ∧ 0 ≤ y.toInt ∧ y.toInt < 5)) {ou : Nat} {cL : ClassId} {fo : Nat → Int64} (hou : ¬ own8 ad ou) : Met l yL_about (wsW yL_about cL_about 5 (some .int) [(0, 10, 13, 13)]) (rmk 9 1 6) (pcW G cA ad σ ou cL fo [.ref (ad 0), .int (x), .int (y), .ref (ou)]) (va_Qi (fun (r : Int32) (u9 : RS × (Nat → Int64)) => ((r = nI 1 ∧ (True))) ∧ u9 = (σ, fo)) (fun u9 t9 => va_P G vwCl (w0 ad cA u9.1) t9.heap ∧ va_P G vwCl (wO ou cL u9.2) t9.heap) (ownW ad ou)) 1 6 (ownW ad ou) := by
  refine va_MetW (cc := cL_about) (maxL := 5) (ret := (some .int)) (by decide) rfl ?_
  intro p e s m args below meth c s₁ B hml hv
  obtain ⟨rfl, hP, hPo, hK, hKL, hE⟩ := hv
  have hts9 := atoms_spec (ws := wsW yL_about cL_about 5 (some .int) [(0, 10, 13, 13)]) B.pre
  have CF : CallFix p m c cL_about 5 s _ AW RL := ⟨B.exec, B.bytes, hml, findClass_of_methodNamed B.named, fun w h => hts9 w (List.mem_cons_of_mem _ h)⟩
  have htab := vx_table (x := yL_about) B (hts9 _ List.mem_cons_self)
  have hr := B.returns
  have hlocks := B.notSynchronized
  have hl := lv_entry ([.ref (ad 0), .int (x), .int (y), .ref (ou)]) (n := 5) (Nat.le_of_ble_eq_true rfl)
  rw [lg_entry_eq]
  generalize (lg_sl ([.ref (ad 0), .int (x), .int (y), .ref (ou)]) ++ List.replicate (5 - (lg_sl ([.ref (ad 0), .int (x), .int (y), .ref (ou)])).length) Slot.unset).toArray = ls at hl ⊢
  have hl : lv_has ls 5 [(0, .ref (ad 0)), (1, .int (x)), (2, .int (y)), (3, .ref (ou))] := hl
  have hS : va_S (ownW ad ou) s.heap s.heap [] := va_S.rf
  refine lv_aload_n CF.1 CF.2.1 dL_about_0 rfl (lv_at hl 3 rfl) ?_
  refine lv_iconst (v := nI 0) CF.1 CF.2.1 dL_about_1 (by decide) ?_
  refine lv_aload_n CF.1 CF.2.1 dL_about_2 rfl (lv_at hl 0 rfl) ?_
  refine lv_iload_n CF.1 CF.2.1 dL_about_3 rfl (lv_at hl 1 rfl) ?_
  refine lv_iload_n CF.1 CF.2.1 dL_about_4 rfl (lv_at hl 2 rfl) ?_
  refine e0_i CF hK hP hE (fun _ h => Or.inl h) hS (As := [.int (x), .int (y)]) (rest := [.int (nI 0), .ref (ou)]) (b0_about l hfl hj hI hR hO hOi x y hbad) rfl lk_RL_X0_about rfl hl.1 ⟨Nat.le_of_ble_eq_true rfl, Nat.le_of_ble_eq_true rfl⟩ ⟨Nat.le_of_ble_eq_true rfl, Nat.le_of_ble_eq_true rfl⟩ (Nat.le_of_ble_eq_true rfl) rfl dL_about_5 (fun E ce q9 H1 locs1 hPE hP1 hk1 hS1 hce hcv hcl => ?_)
  have hPo1 := w1_kept hPo hou hk1
  rcases (show (E = "java/lang/IndexOutOfBoundsException" ∧ (True)) from hPE) with ⟨rfl, hc⟩
  · refine vx_catch (own := RL) (name := "java/lang/IndexOutOfBoundsException") CF.2.2.2.1 [] ⟨0, 10, 13, 13⟩ [] (htab.trans rfl) (fun z hz => absurd hz List.not_mem_nil) (by decide) (by decide) (CF.2.2.2.2 _ (inr_2 _ (List.mem_of_getElem? (i := 13) rfl))) (va_Nw.use rfl (hE.2.2.2.1 _ (List.mem_of_getElem? (i := 0) rfl))) hce hcv hcl ?_
    refine W.eq (g2 := F0 m 13 ls [.ref q9]) rfl ?_
    refine lv_astore (lv' := [(4, .ref (q9)), (0, .ref (ad 0)), (1, .int (x)), (2, .int (y)), (3, .ref (ou))]) CF.1 CF.2.1 dL_about_13 hl (by decide) rfl (fun ls hl => ?_)
    refine lv_iconst (v := nI 1) CF.1 CF.2.1 dL_about_15 (by decide) ?_
    exact W.iret CF.1 CF.2.1 hr (fun t9 ht9 hW9 => ⟨⟨_, (σ, fo), rfl, ⟨⟨rfl, hc⟩, rfl⟩, by show va_P G vwCl (w0 ad cA σ) t9.heap; rw [ht9]; exact hP1, by show va_P G vwCl (wO ou cL fo) t9.heap; rw [ht9]; exact hPo1⟩, hS1.F ht9⟩) hS1.2.2 dL_about_16
set_option maxHeartbeats 1000000 in
set_option maxRecDepth 100000 in
theorem wk_count (l : Launch) {G : va_G} {cA : ClassId} {ad : Nat → Nat} {σ : RS} (hj : inj8 ad) {b : BS} (hI : InvC b) (hR : Rc σ b) (hO : Ro σ b) (hOi : InvO b) {w : Nat} (hw : w < 7) {ou : Nat} {cL : ClassId} {fo : Nat → Int64} (hou : ¬ own8 ad ou) : Met l yL_count (wsW yL_count cL_count 4 (some .int) [(0, 9, 12, 13)]) (rmk 9 0 0) (pcW G cA ad σ ou cL fo [.ref (ad 0), .int (nI (w)), .ref (ou)]) (va_Qi (fun (r : Int32) (u9 : RS × (Nat → Int64)) => r = nI 0 ∧ u9.2 0 = (nI (fbo b w)).toInt64 ∧ Rc u9.1 (b) ∧ Ro u9.1 (b)) (fun u9 t9 => va_P G vwCl (w0 ad cA u9.1) t9.heap ∧ va_P G vwCl (wO ou cL u9.2) t9.heap) (ownW ad ou)) 0 0 (ownW ad ou) := by
  refine va_MetW (cc := cL_count) (maxL := 4) (ret := (some .int)) (by decide) rfl ?_
  intro p e s m args below meth c s₁ B hml hv
  obtain ⟨rfl, hP, hPo, hK, hKL, hE⟩ := hv
  have hts9 := atoms_spec (ws := wsW yL_count cL_count 4 (some .int) [(0, 9, 12, 13)]) B.pre
  have CF : CallFix p m c cL_count 4 s _ AW RL := ⟨B.exec, B.bytes, hml, findClass_of_methodNamed B.named, fun w h => hts9 w (List.mem_cons_of_mem _ h)⟩
  have htab := vx_table (x := yL_count) B (hts9 _ List.mem_cons_self)
  have hr := B.returns
  have hlocks := B.notSynchronized
  have hl := lv_entry ([.ref (ad 0), .int (nI (w)), .ref (ou)]) (n := 4) (Nat.le_of_ble_eq_true rfl)
  rw [lg_entry_eq]
  generalize (lg_sl ([.ref (ad 0), .int (nI (w)), .ref (ou)]) ++ List.replicate (4 - (lg_sl ([.ref (ad 0), .int (nI (w)), .ref (ou)])).length) Slot.unset).toArray = ls at hl ⊢
  have hl : lv_has ls 4 [(0, .ref (ad 0)), (1, .int (nI (w))), (2, .ref (ou))] := hl
  have hS : va_S (ownW ad ou) s.heap s.heap [] := va_S.rf
  refine lv_aload_n CF.1 CF.2.1 dL_count_0 rfl (lv_at hl 2 rfl) ?_
  refine lv_iconst (v := nI 0) CF.1 CF.2.1 dL_count_1 (by decide) ?_
  refine lv_aload_n CF.1 CF.2.1 dL_count_2 rfl (lv_at hl 0 rfl) ?_
  refine lv_iload_n CF.1 CF.2.1 dL_count_3 rfl (lv_at hl 1 rfl) ?_
  refine c0_i CF hK hP (As := [.int (nI (w))]) (rest := [.int (nI 0), .ref (ou)]) (c0_count l hI hR hO hOi hw) rfl lk_RL_X0_count rfl hl.1 ⟨Nat.le_of_ble_eq_true rfl, Nat.le_of_ble_eq_true rfl⟩ ⟨Nat.zero_le _, Nat.zero_le _⟩ (Nat.le_of_ble_eq_true rfl) rfl dL_count_4 (fun r hr1 => ?_)
  subst hr1
  refine lv_i2l CF.1 CF.2.1 dL_count_7 rfl ?_
  refine w_last CF hKL hP hPo hj hou hS dL_count_8 (fun H2 locs hP2 hPo2 hS2 => ?_)
  refine lv_goto (tgt := 15) CF.1 CF.2.1 dL_count_9 (by decide) ?_
  refine lv_iconst (v := nI 0) CF.1 CF.2.1 dL_count_15 (by decide) ?_
  exact W.iret CF.1 CF.2.1 hr (fun t9 ht9 hW9 => ⟨⟨_, (σ, (vp_updL fo 0 (((nI (fbo b w))).toInt64))), rfl, ⟨rfl, rfl, hR, hO⟩, by show va_P G vwCl (w0 ad cA σ) t9.heap; rw [ht9]; exact hP2, by show va_P G vwCl (wO ou cL (vp_updL fo 0 (((nI (fbo b w))).toInt64))) t9.heap; rw [ht9]; exact hPo2⟩, hS2.F ht9⟩) hS2.2.2 dL_count_16
set_option maxHeartbeats 1000000 in
set_option maxRecDepth 100000 in
theorem wb_count (l : Launch) (hfl : l.stackTraces = false) {G : va_G} {cA : ClassId} {ad : Nat → Nat} {σ : RS} (hj : inj8 ad) {b : BS} (hI : InvC b) (hR : Rc σ b) (hO : Ro σ b) (hOi : InvO b) (x : Int32) (hbad : ¬ (0 ≤ x.toInt ∧ x.toInt < 7)) {ou : Nat} {cL : ClassId} {fo : Nat → Int64} (hou : ¬ own8 ad ou) : Met l yL_count (wsW yL_count cL_count 4 (some .int) [(0, 9, 12, 13)]) (rmk 9 1 6) (pcW G cA ad σ ou cL fo [.ref (ad 0), .int (x), .ref (ou)]) (va_Qi (fun (r : Int32) (u9 : RS × (Nat → Int64)) => ((r = nI 1 ∧ (True))) ∧ u9 = (σ, fo)) (fun u9 t9 => va_P G vwCl (w0 ad cA u9.1) t9.heap ∧ va_P G vwCl (wO ou cL u9.2) t9.heap) (ownW ad ou)) 1 6 (ownW ad ou) := by
  refine va_MetW (cc := cL_count) (maxL := 4) (ret := (some .int)) (by decide) rfl ?_
  intro p e s m args below meth c s₁ B hml hv
  obtain ⟨rfl, hP, hPo, hK, hKL, hE⟩ := hv
  have hts9 := atoms_spec (ws := wsW yL_count cL_count 4 (some .int) [(0, 9, 12, 13)]) B.pre
  have CF : CallFix p m c cL_count 4 s _ AW RL := ⟨B.exec, B.bytes, hml, findClass_of_methodNamed B.named, fun w h => hts9 w (List.mem_cons_of_mem _ h)⟩
  have htab := vx_table (x := yL_count) B (hts9 _ List.mem_cons_self)
  have hr := B.returns
  have hlocks := B.notSynchronized
  have hl := lv_entry ([.ref (ad 0), .int (x), .ref (ou)]) (n := 4) (Nat.le_of_ble_eq_true rfl)
  rw [lg_entry_eq]
  generalize (lg_sl ([.ref (ad 0), .int (x), .ref (ou)]) ++ List.replicate (4 - (lg_sl ([.ref (ad 0), .int (x), .ref (ou)])).length) Slot.unset).toArray = ls at hl ⊢
  have hl : lv_has ls 4 [(0, .ref (ad 0)), (1, .int (x)), (2, .ref (ou))] := hl
  have hS : va_S (ownW ad ou) s.heap s.heap [] := va_S.rf
  refine lv_aload_n CF.1 CF.2.1 dL_count_0 rfl (lv_at hl 2 rfl) ?_
  refine lv_iconst (v := nI 0) CF.1 CF.2.1 dL_count_1 (by decide) ?_
  refine lv_aload_n CF.1 CF.2.1 dL_count_2 rfl (lv_at hl 0 rfl) ?_
  refine lv_iload_n CF.1 CF.2.1 dL_count_3 rfl (lv_at hl 1 rfl) ?_
  refine e0_i CF hK hP hE (fun _ h => Or.inl h) hS (As := [.int (x)]) (rest := [.int (nI 0), .ref (ou)]) (b0_count l hfl hj hI hR hO hOi x hbad) rfl lk_RL_X0_count rfl hl.1 ⟨Nat.le_of_ble_eq_true rfl, Nat.le_of_ble_eq_true rfl⟩ ⟨Nat.le_of_ble_eq_true rfl, Nat.le_of_ble_eq_true rfl⟩ (Nat.le_of_ble_eq_true rfl) rfl dL_count_4 (fun E ce q9 H1 locs1 hPE hP1 hk1 hS1 hce hcv hcl => ?_)
  have hPo1 := w1_kept hPo hou hk1
  rcases (show (E = "java/lang/IndexOutOfBoundsException" ∧ (True)) from hPE) with ⟨rfl, hc⟩
  · refine vx_catch (own := RL) (name := "java/lang/IndexOutOfBoundsException") CF.2.2.2.1 [] ⟨0, 9, 12, 13⟩ [] (htab.trans rfl) (fun z hz => absurd hz List.not_mem_nil) (by decide) (by decide) (CF.2.2.2.2 _ (inr_2 _ (List.mem_of_getElem? (i := 13) rfl))) (va_Nw.use rfl (hE.2.2.2.1 _ (List.mem_of_getElem? (i := 0) rfl))) hce hcv hcl ?_
    refine W.eq (g2 := F0 m 12 ls [.ref q9]) rfl ?_
    refine lv_astore_n (lv' := [(3, .ref (q9)), (0, .ref (ad 0)), (1, .int (x)), (2, .ref (ou))]) CF.1 CF.2.1 dL_count_12 rfl hl (by decide) rfl (fun ls hl => ?_)
    refine lv_iconst (v := nI 1) CF.1 CF.2.1 dL_count_13 (by decide) ?_
    exact W.iret CF.1 CF.2.1 hr (fun t9 ht9 hW9 => ⟨⟨_, (σ, fo), rfl, ⟨⟨rfl, hc⟩, rfl⟩, by show va_P G vwCl (w0 ad cA σ) t9.heap; rw [ht9]; exact hP1, by show va_P G vwCl (wO ou cL fo) t9.heap; rw [ht9]; exact hPo1⟩, hS1.F ht9⟩) hS1.2.2 dL_count_14
set_option maxHeartbeats 1000000 in
set_option maxRecDepth 100000 in
theorem wk_would (l : Launch) {G : va_G} {cA : ClassId} {ad : Nat → Nat} {σ : RS} (hj : inj8 ad) {b : BS} (hI : InvC b) (hR : Rc σ b) (hO : Ro σ b) (hOi : InvO b) {f t a : Nat} (hf : f < 5) (ht : t < 5) (ha : a ≤ 99999) {ou : Nat} {cL : ClassId} {fo : Nat → Int64} (hou : ¬ own8 ad ou) : Met l yL_would (wsW yL_would cL_would 6 (some .int) [(0, 12, 15, 13), (0, 12, 19, 15)]) (rmk 9 0 0) (pcW G cA ad σ ou cL fo [.ref (ad 0), .int (nI (f)), .int (nI (t)), .int (nI (a)), .ref (ou)]) (va_Qi (fun (r : Int32) (u9 : RS × (Nat → Int64)) => r = nI 0 ∧ u9.2 0 = (nI (if f = t then a else gv b f t a)).toInt64 ∧ Rc u9.1 (b) ∧ Ro u9.1 (b)) (fun u9 t9 => va_P G vwCl (w0 ad cA u9.1) t9.heap ∧ va_P G vwCl (wO ou cL u9.2) t9.heap) (ownW ad ou)) 0 0 (ownW ad ou) := by
  refine va_MetW (cc := cL_would) (maxL := 6) (ret := (some .int)) (by decide) rfl ?_
  intro p e s m args below meth c s₁ B hml hv
  obtain ⟨rfl, hP, hPo, hK, hKL, hE⟩ := hv
  have hts9 := atoms_spec (ws := wsW yL_would cL_would 6 (some .int) [(0, 12, 15, 13), (0, 12, 19, 15)]) B.pre
  have CF : CallFix p m c cL_would 6 s _ AW RL := ⟨B.exec, B.bytes, hml, findClass_of_methodNamed B.named, fun w h => hts9 w (List.mem_cons_of_mem _ h)⟩
  have htab := vx_table (x := yL_would) B (hts9 _ List.mem_cons_self)
  have hr := B.returns
  have hlocks := B.notSynchronized
  have hl := lv_entry ([.ref (ad 0), .int (nI (f)), .int (nI (t)), .int (nI (a)), .ref (ou)]) (n := 6) (Nat.le_of_ble_eq_true rfl)
  rw [lg_entry_eq]
  generalize (lg_sl ([.ref (ad 0), .int (nI (f)), .int (nI (t)), .int (nI (a)), .ref (ou)]) ++ List.replicate (6 - (lg_sl ([.ref (ad 0), .int (nI (f)), .int (nI (t)), .int (nI (a)), .ref (ou)])).length) Slot.unset).toArray = ls at hl ⊢
  have hl : lv_has ls 6 [(0, .ref (ad 0)), (1, .int (nI (f))), (2, .int (nI (t))), (3, .int (nI (a))), (4, .ref (ou))] := hl
  have hS : va_S (ownW ad ou) s.heap s.heap [] := va_S.rf
  refine lv_aload CF.1 CF.2.1 dL_would_0 (lv_at hl 4 rfl) ?_
  refine lv_iconst (v := nI 0) CF.1 CF.2.1 dL_would_2 (by decide) ?_
  refine lv_aload_n CF.1 CF.2.1 dL_would_3 rfl (lv_at hl 0 rfl) ?_
  refine lv_iload_n CF.1 CF.2.1 dL_would_4 rfl (lv_at hl 1 rfl) ?_
  refine lv_iload_n CF.1 CF.2.1 dL_would_5 rfl (lv_at hl 2 rfl) ?_
  refine lv_iload_n CF.1 CF.2.1 dL_would_6 rfl (lv_at hl 3 rfl) ?_
  refine c0_i CF hK hP (As := [.int (nI (f)), .int (nI (t)), .int (nI (a))]) (rest := [.int (nI 0), .ref (ou)]) (c0_would l hI hR hO hOi hf ht ha) rfl lk_RL_X0_would rfl hl.1 ⟨Nat.le_of_ble_eq_true rfl, Nat.le_of_ble_eq_true rfl⟩ ⟨Nat.zero_le _, Nat.zero_le _⟩ (Nat.le_of_ble_eq_true rfl) rfl dL_would_7 (fun r hr1 => ?_)
  subst hr1
  refine lv_i2l CF.1 CF.2.1 dL_would_10 rfl ?_
  refine w_last CF hKL hP hPo hj hou hS dL_would_11 (fun H2 locs hP2 hPo2 hS2 => ?_)
  refine lv_goto (tgt := 23) CF.1 CF.2.1 dL_would_12 (by decide) ?_
  refine lv_iconst (v := nI 0) CF.1 CF.2.1 dL_would_23 (by decide) ?_
  exact W.iret CF.1 CF.2.1 hr (fun t9 ht9 hW9 => ⟨⟨_, (σ, (vp_updL fo 0 (((nI (if f = t then a else gv b f t a))).toInt64))), rfl, ⟨rfl, rfl, hR, hO⟩, by show va_P G vwCl (w0 ad cA σ) t9.heap; rw [ht9]; exact hP2, by show va_P G vwCl (wO ou cL (vp_updL fo 0 (((nI (if f = t then a else gv b f t a))).toInt64))) t9.heap; rw [ht9]; exact hPo2⟩, hS2.F ht9⟩) hS2.2.2 dL_would_24
set_option maxHeartbeats 1000000 in
set_option maxRecDepth 100000 in
theorem wb_would (l : Launch) (hfl : l.stackTraces = false) {G : va_G} {cA : ClassId} {ad : Nat → Nat} {σ : RS} (hj : inj8 ad) {b : BS} (hI : InvC b) (hR : Rc σ b) (hO : Ro σ b) (hOi : InvO b) (x y z : Int32) (hbad : ¬ (0 ≤ x.toInt ∧ x.toInt < 5 ∧ 0 ≤ y.toInt ∧ y.toInt < 5 ∧ 0 ≤ z.toInt ∧ z.toInt ≤ 99999)) {ou : Nat} {cL : ClassId} {fo : Nat → Int64} (hou : ¬ own8 ad ou) : Met l yL_would (wsW yL_would cL_would 6 (some .int) [(0, 12, 15, 13), (0, 12, 19, 15)]) (rmk 9 1 6) (pcW G cA ad σ ou cL fo [.ref (ad 0), .int (x), .int (y), .int (z), .ref (ou)]) (va_Qi (fun (r : Int32) (u9 : RS × (Nat → Int64)) => ((r = nI 1 ∧ (¬ (0 ≤ x.toInt ∧ x.toInt < 5 ∧ 0 ≤ y.toInt ∧ y.toInt < 5))) ∨ (r = nI 2 ∧ (0 ≤ x.toInt ∧ x.toInt < 5 ∧ 0 ≤ y.toInt ∧ y.toInt < 5))) ∧ u9 = (σ, fo)) (fun u9 t9 => va_P G vwCl (w0 ad cA u9.1) t9.heap ∧ va_P G vwCl (wO ou cL u9.2) t9.heap) (ownW ad ou)) 1 6 (ownW ad ou) := by
  refine va_MetW (cc := cL_would) (maxL := 6) (ret := (some .int)) (by decide) rfl ?_
  intro p e s m args below meth c s₁ B hml hv
  obtain ⟨rfl, hP, hPo, hK, hKL, hE⟩ := hv
  have hts9 := atoms_spec (ws := wsW yL_would cL_would 6 (some .int) [(0, 12, 15, 13), (0, 12, 19, 15)]) B.pre
  have CF : CallFix p m c cL_would 6 s _ AW RL := ⟨B.exec, B.bytes, hml, findClass_of_methodNamed B.named, fun w h => hts9 w (List.mem_cons_of_mem _ h)⟩
  have htab := vx_table (x := yL_would) B (hts9 _ List.mem_cons_self)
  have hr := B.returns
  have hlocks := B.notSynchronized
  have hl := lv_entry ([.ref (ad 0), .int (x), .int (y), .int (z), .ref (ou)]) (n := 6) (Nat.le_of_ble_eq_true rfl)
  rw [lg_entry_eq]
  generalize (lg_sl ([.ref (ad 0), .int (x), .int (y), .int (z), .ref (ou)]) ++ List.replicate (6 - (lg_sl ([.ref (ad 0), .int (x), .int (y), .int (z), .ref (ou)])).length) Slot.unset).toArray = ls at hl ⊢
  have hl : lv_has ls 6 [(0, .ref (ad 0)), (1, .int (x)), (2, .int (y)), (3, .int (z)), (4, .ref (ou))] := hl
  have hS : va_S (ownW ad ou) s.heap s.heap [] := va_S.rf
  refine lv_aload CF.1 CF.2.1 dL_would_0 (lv_at hl 4 rfl) ?_
  refine lv_iconst (v := nI 0) CF.1 CF.2.1 dL_would_2 (by decide) ?_
  refine lv_aload_n CF.1 CF.2.1 dL_would_3 rfl (lv_at hl 0 rfl) ?_
  refine lv_iload_n CF.1 CF.2.1 dL_would_4 rfl (lv_at hl 1 rfl) ?_
  refine lv_iload_n CF.1 CF.2.1 dL_would_5 rfl (lv_at hl 2 rfl) ?_
  refine lv_iload_n CF.1 CF.2.1 dL_would_6 rfl (lv_at hl 3 rfl) ?_
  refine e0_i CF hK hP hE (fun _ h => Or.inl h) hS (As := [.int (x), .int (y), .int (z)]) (rest := [.int (nI 0), .ref (ou)]) (b0_would l hfl hj hI hR hO hOi x y z hbad) rfl lk_RL_X0_would rfl hl.1 ⟨Nat.le_of_ble_eq_true rfl, Nat.le_of_ble_eq_true rfl⟩ ⟨Nat.le_of_ble_eq_true rfl, Nat.le_of_ble_eq_true rfl⟩ (Nat.le_of_ble_eq_true rfl) rfl dL_would_7 (fun E ce q9 H1 locs1 hPE hP1 hk1 hS1 hce hcv hcl => ?_)
  have hPo1 := w1_kept hPo hou hk1
  rcases (show (E = "java/lang/IndexOutOfBoundsException" ∧ (¬ (0 ≤ x.toInt ∧ x.toInt < 5 ∧ 0 ≤ y.toInt ∧ y.toInt < 5))) ∨ (E = "java/lang/IllegalArgumentException" ∧ (0 ≤ x.toInt ∧ x.toInt < 5 ∧ 0 ≤ y.toInt ∧ y.toInt < 5)) from hPE) with ⟨rfl, hc⟩ | ⟨rfl, hc⟩
  · refine vx_catch (own := RL) (name := "java/lang/IndexOutOfBoundsException") CF.2.2.2.1 [] ⟨0, 12, 15, 13⟩ [⟨0, 12, 19, 15⟩] (htab.trans rfl) (fun z hz => absurd hz List.not_mem_nil) (by decide) (by decide) (CF.2.2.2.2 _ (inr_2 _ (List.mem_of_getElem? (i := 13) rfl))) (va_Nw.use rfl (hE.2.2.2.1 _ (List.mem_of_getElem? (i := 0) rfl))) hce hcv hcl ?_
    refine W.eq (g2 := F0 m 15 ls [.ref q9]) rfl ?_
    refine lv_astore (lv' := [(5, .ref (q9)), (0, .ref (ad 0)), (1, .int (x)), (2, .int (y)), (3, .int (z)), (4, .ref (ou))]) CF.1 CF.2.1 dL_would_15 hl (by decide) rfl (fun ls hl => ?_)
    refine lv_iconst (v := nI 1) CF.1 CF.2.1 dL_would_17 (by decide) ?_
    exact W.iret CF.1 CF.2.1 hr (fun t9 ht9 hW9 => ⟨⟨_, (σ, fo), rfl, ⟨Or.inl ⟨rfl, hc⟩, rfl⟩, by show va_P G vwCl (w0 ad cA σ) t9.heap; rw [ht9]; exact hP1, by show va_P G vwCl (wO ou cL fo) t9.heap; rw [ht9]; exact hPo1⟩, hS1.F ht9⟩) hS1.2.2 dL_would_18
  · have hpass : ∀ e9 ∈ ([⟨0, 12, 15, 13⟩] : List ExceptionTableEntry), covers e9 7 = false ∨ (e9.catchType ≠ 0 ∧ ∃ nm : String, (Cond.classLink RL e9.catchType nm).before #[.ref (ad 0), .int (x), .int (y), .int (z), .ref (ou)] s = true ∧ va_Nc "java/lang/IllegalArgumentException" nm s) := by
      intro e9 hz
      simp only [List.mem_cons, List.not_mem_nil, or_false] at hz
      rcases hz with rfl
      · exact Or.inr ⟨by decide, "java/lang/IndexOutOfBoundsException", CF.2.2.2.2 _ (inr_2 _ (List.mem_of_getElem? (i := 13) rfl)), hE.2.2.2.2.1 _ (List.mem_of_getElem? (i := 1) rfl) _ (List.mem_of_getElem? (i := 0) rfl) (by decide)⟩
    refine vx_catch (own := RL) (name := "java/lang/IllegalArgumentException") CF.2.2.2.1 [⟨0, 12, 15, 13⟩] ⟨0, 12, 19, 15⟩ [] (htab.trans rfl) hpass (by decide) (by decide) (CF.2.2.2.2 _ (inr_2 _ (List.mem_of_getElem? (i := 14) rfl))) (va_Nw.use rfl (hE.2.2.2.1 _ (List.mem_of_getElem? (i := 1) rfl))) hce hcv hcl ?_
    refine W.eq (g2 := F0 m 19 ls [.ref q9]) rfl ?_
    refine lv_astore (lv' := [(5, .ref (q9)), (0, .ref (ad 0)), (1, .int (x)), (2, .int (y)), (3, .int (z)), (4, .ref (ou))]) CF.1 CF.2.1 dL_would_19 hl (by decide) rfl (fun ls hl => ?_)
    refine lv_iconst (v := nI 2) CF.1 CF.2.1 dL_would_21 (by decide) ?_
    exact W.iret CF.1 CF.2.1 hr (fun t9 ht9 hW9 => ⟨⟨_, (σ, fo), rfl, ⟨Or.inr (⟨rfl, hc⟩), rfl⟩, by show va_P G vwCl (w0 ad cA σ) t9.heap; rw [ht9]; exact hP1, by show va_P G vwCl (wO ou cL fo) t9.heap; rw [ht9]; exact hPo1⟩, hS1.F ht9⟩) hS1.2.2 dL_would_22
set_option maxHeartbeats 1000000 in
set_option maxRecDepth 100000 in
theorem wk_way (l : Launch) {G : va_G} {cA : ClassId} {ad : Nat → Nat} {σ : RS} (hj : inj8 ad) {b : BS} (hI : InvC b) (hR : Rc σ b) (hO : Ro σ b) (hOi : InvO b) {f t a : Nat} (hf : f < 5) (ht : t < 5) (hne : f ≠ t) (ha : a ≤ 99999) {ou : Nat} {cL : ClassId} {fo : Nat → Int64} (hou : ¬ own8 ad ou) : Met l yL_way (wsW yL_way cL_way 6 (some .int) [(0, 12, 15, 13), (0, 12, 19, 15)]) (rmk 21 0 0) (pcW G cA ad σ ou cL fo [.ref (ad 0), .int (nI (f)), .int (nI (t)), .int (nI (a)), .ref (ou)]) (va_Qi (fun (r : Int32) (u9 : RS × (Nat → Int64)) => r = nI 0 ∧ u9.2 0 = (nI (mag b t 4 f a (2 ^ f ||| 2 ^ t))).toInt64 ∧ Rc u9.1 (b) ∧ Ro u9.1 (b)) (fun u9 t9 => va_P G vwCl (w0 ad cA u9.1) t9.heap ∧ va_P G vwCl (wO ou cL u9.2) t9.heap) (ownW ad ou)) 0 0 (ownW ad ou) := by
  refine va_MetW (cc := cL_way) (maxL := 6) (ret := (some .int)) (by decide) rfl ?_
  intro p e s m args below meth c s₁ B hml hv
  obtain ⟨rfl, hP, hPo, hK, hKL, hE⟩ := hv
  have hts9 := atoms_spec (ws := wsW yL_way cL_way 6 (some .int) [(0, 12, 15, 13), (0, 12, 19, 15)]) B.pre
  have CF : CallFix p m c cL_way 6 s _ AW RL := ⟨B.exec, B.bytes, hml, findClass_of_methodNamed B.named, fun w h => hts9 w (List.mem_cons_of_mem _ h)⟩
  have htab := vx_table (x := yL_way) B (hts9 _ List.mem_cons_self)
  have hr := B.returns
  have hlocks := B.notSynchronized
  have hl := lv_entry ([.ref (ad 0), .int (nI (f)), .int (nI (t)), .int (nI (a)), .ref (ou)]) (n := 6) (Nat.le_of_ble_eq_true rfl)
  rw [lg_entry_eq]
  generalize (lg_sl ([.ref (ad 0), .int (nI (f)), .int (nI (t)), .int (nI (a)), .ref (ou)]) ++ List.replicate (6 - (lg_sl ([.ref (ad 0), .int (nI (f)), .int (nI (t)), .int (nI (a)), .ref (ou)])).length) Slot.unset).toArray = ls at hl ⊢
  have hl : lv_has ls 6 [(0, .ref (ad 0)), (1, .int (nI (f))), (2, .int (nI (t))), (3, .int (nI (a))), (4, .ref (ou))] := hl
  have hS : va_S (ownW ad ou) s.heap s.heap [] := va_S.rf
  refine lv_aload CF.1 CF.2.1 dL_way_0 (lv_at hl 4 rfl) ?_
  refine lv_iconst (v := nI 0) CF.1 CF.2.1 dL_way_2 (by decide) ?_
  refine lv_aload_n CF.1 CF.2.1 dL_way_3 rfl (lv_at hl 0 rfl) ?_
  refine lv_iload_n CF.1 CF.2.1 dL_way_4 rfl (lv_at hl 1 rfl) ?_
  refine lv_iload_n CF.1 CF.2.1 dL_way_5 rfl (lv_at hl 2 rfl) ?_
  refine lv_iload_n CF.1 CF.2.1 dL_way_6 rfl (lv_at hl 3 rfl) ?_
  refine c0_i CF hK hP (As := [.int (nI (f)), .int (nI (t)), .int (nI (a))]) (rest := [.int (nI 0), .ref (ou)]) (c0_way l hI hR hO hOi hf ht hne ha) rfl lk_RL_X0_way rfl hl.1 ⟨Nat.le_of_ble_eq_true rfl, Nat.le_of_ble_eq_true rfl⟩ ⟨Nat.zero_le _, Nat.zero_le _⟩ (Nat.le_of_ble_eq_true rfl) rfl dL_way_7 (fun r hr1 => ?_)
  subst hr1
  refine lv_i2l CF.1 CF.2.1 dL_way_10 rfl ?_
  refine w_last CF hKL hP hPo hj hou hS dL_way_11 (fun H2 locs hP2 hPo2 hS2 => ?_)
  refine lv_goto (tgt := 23) CF.1 CF.2.1 dL_way_12 (by decide) ?_
  refine lv_iconst (v := nI 0) CF.1 CF.2.1 dL_way_23 (by decide) ?_
  exact W.iret CF.1 CF.2.1 hr (fun t9 ht9 hW9 => ⟨⟨_, (σ, (vp_updL fo 0 (((nI (mag b t 4 f a (2 ^ f ||| 2 ^ t)))).toInt64))), rfl, ⟨rfl, rfl, hR, hO⟩, by show va_P G vwCl (w0 ad cA σ) t9.heap; rw [ht9]; exact hP2, by show va_P G vwCl (wO ou cL (vp_updL fo 0 (((nI (mag b t 4 f a (2 ^ f ||| 2 ^ t)))).toInt64))) t9.heap; rw [ht9]; exact hPo2⟩, hS2.F ht9⟩) hS2.2.2 dL_way_24
set_option maxHeartbeats 1000000 in
set_option maxRecDepth 100000 in
theorem wb_way (l : Launch) (hfl : l.stackTraces = false) {G : va_G} {cA : ClassId} {ad : Nat → Nat} {σ : RS} (hj : inj8 ad) {b : BS} (hI : InvC b) (hR : Rc σ b) (hO : Ro σ b) (hOi : InvO b) (x y z : Int32) (hbad : ¬ (0 ≤ x.toInt ∧ x.toInt < 5 ∧ 0 ≤ y.toInt ∧ y.toInt < 5 ∧ x.toInt ≠ y.toInt ∧ 0 ≤ z.toInt ∧ z.toInt ≤ 99999)) {ou : Nat} {cL : ClassId} {fo : Nat → Int64} (hou : ¬ own8 ad ou) : Met l yL_way (wsW yL_way cL_way 6 (some .int) [(0, 12, 15, 13), (0, 12, 19, 15)]) (rmk 21 1 6) (pcW G cA ad σ ou cL fo [.ref (ad 0), .int (x), .int (y), .int (z), .ref (ou)]) (va_Qi (fun (r : Int32) (u9 : RS × (Nat → Int64)) => ((r = nI 1 ∧ (¬ (0 ≤ x.toInt ∧ x.toInt < 5 ∧ 0 ≤ y.toInt ∧ y.toInt < 5))) ∨ (r = nI 2 ∧ (0 ≤ x.toInt ∧ x.toInt < 5 ∧ 0 ≤ y.toInt ∧ y.toInt < 5))) ∧ u9 = (σ, fo)) (fun u9 t9 => va_P G vwCl (w0 ad cA u9.1) t9.heap ∧ va_P G vwCl (wO ou cL u9.2) t9.heap) (ownW ad ou)) 1 6 (ownW ad ou) := by
  refine va_MetW (cc := cL_way) (maxL := 6) (ret := (some .int)) (by decide) rfl ?_
  intro p e s m args below meth c s₁ B hml hv
  obtain ⟨rfl, hP, hPo, hK, hKL, hE⟩ := hv
  have hts9 := atoms_spec (ws := wsW yL_way cL_way 6 (some .int) [(0, 12, 15, 13), (0, 12, 19, 15)]) B.pre
  have CF : CallFix p m c cL_way 6 s _ AW RL := ⟨B.exec, B.bytes, hml, findClass_of_methodNamed B.named, fun w h => hts9 w (List.mem_cons_of_mem _ h)⟩
  have htab := vx_table (x := yL_way) B (hts9 _ List.mem_cons_self)
  have hr := B.returns
  have hlocks := B.notSynchronized
  have hl := lv_entry ([.ref (ad 0), .int (x), .int (y), .int (z), .ref (ou)]) (n := 6) (Nat.le_of_ble_eq_true rfl)
  rw [lg_entry_eq]
  generalize (lg_sl ([.ref (ad 0), .int (x), .int (y), .int (z), .ref (ou)]) ++ List.replicate (6 - (lg_sl ([.ref (ad 0), .int (x), .int (y), .int (z), .ref (ou)])).length) Slot.unset).toArray = ls at hl ⊢
  have hl : lv_has ls 6 [(0, .ref (ad 0)), (1, .int (x)), (2, .int (y)), (3, .int (z)), (4, .ref (ou))] := hl
  have hS : va_S (ownW ad ou) s.heap s.heap [] := va_S.rf
  refine lv_aload CF.1 CF.2.1 dL_way_0 (lv_at hl 4 rfl) ?_
  refine lv_iconst (v := nI 0) CF.1 CF.2.1 dL_way_2 (by decide) ?_
  refine lv_aload_n CF.1 CF.2.1 dL_way_3 rfl (lv_at hl 0 rfl) ?_
  refine lv_iload_n CF.1 CF.2.1 dL_way_4 rfl (lv_at hl 1 rfl) ?_
  refine lv_iload_n CF.1 CF.2.1 dL_way_5 rfl (lv_at hl 2 rfl) ?_
  refine lv_iload_n CF.1 CF.2.1 dL_way_6 rfl (lv_at hl 3 rfl) ?_
  refine e0_i CF hK hP hE (fun _ h => Or.inl h) hS (As := [.int (x), .int (y), .int (z)]) (rest := [.int (nI 0), .ref (ou)]) (b0_way l hfl hj hI hR hO hOi x y z hbad) rfl lk_RL_X0_way rfl hl.1 ⟨Nat.le_of_ble_eq_true rfl, Nat.le_of_ble_eq_true rfl⟩ ⟨Nat.le_of_ble_eq_true rfl, Nat.le_of_ble_eq_true rfl⟩ (Nat.le_of_ble_eq_true rfl) rfl dL_way_7 (fun E ce q9 H1 locs1 hPE hP1 hk1 hS1 hce hcv hcl => ?_)
  have hPo1 := w1_kept hPo hou hk1
  rcases (show (E = "java/lang/IndexOutOfBoundsException" ∧ (¬ (0 ≤ x.toInt ∧ x.toInt < 5 ∧ 0 ≤ y.toInt ∧ y.toInt < 5))) ∨ (E = "java/lang/IllegalArgumentException" ∧ (0 ≤ x.toInt ∧ x.toInt < 5 ∧ 0 ≤ y.toInt ∧ y.toInt < 5)) from hPE) with ⟨rfl, hc⟩ | ⟨rfl, hc⟩
  · refine vx_catch (own := RL) (name := "java/lang/IndexOutOfBoundsException") CF.2.2.2.1 [] ⟨0, 12, 15, 13⟩ [⟨0, 12, 19, 15⟩] (htab.trans rfl) (fun z hz => absurd hz List.not_mem_nil) (by decide) (by decide) (CF.2.2.2.2 _ (inr_2 _ (List.mem_of_getElem? (i := 13) rfl))) (va_Nw.use rfl (hE.2.2.2.1 _ (List.mem_of_getElem? (i := 0) rfl))) hce hcv hcl ?_
    refine W.eq (g2 := F0 m 15 ls [.ref q9]) rfl ?_
    refine lv_astore (lv' := [(5, .ref (q9)), (0, .ref (ad 0)), (1, .int (x)), (2, .int (y)), (3, .int (z)), (4, .ref (ou))]) CF.1 CF.2.1 dL_way_15 hl (by decide) rfl (fun ls hl => ?_)
    refine lv_iconst (v := nI 1) CF.1 CF.2.1 dL_way_17 (by decide) ?_
    exact W.iret CF.1 CF.2.1 hr (fun t9 ht9 hW9 => ⟨⟨_, (σ, fo), rfl, ⟨Or.inl ⟨rfl, hc⟩, rfl⟩, by show va_P G vwCl (w0 ad cA σ) t9.heap; rw [ht9]; exact hP1, by show va_P G vwCl (wO ou cL fo) t9.heap; rw [ht9]; exact hPo1⟩, hS1.F ht9⟩) hS1.2.2 dL_way_18
  · have hpass : ∀ e9 ∈ ([⟨0, 12, 15, 13⟩] : List ExceptionTableEntry), covers e9 7 = false ∨ (e9.catchType ≠ 0 ∧ ∃ nm : String, (Cond.classLink RL e9.catchType nm).before #[.ref (ad 0), .int (x), .int (y), .int (z), .ref (ou)] s = true ∧ va_Nc "java/lang/IllegalArgumentException" nm s) := by
      intro e9 hz
      simp only [List.mem_cons, List.not_mem_nil, or_false] at hz
      rcases hz with rfl
      · exact Or.inr ⟨by decide, "java/lang/IndexOutOfBoundsException", CF.2.2.2.2 _ (inr_2 _ (List.mem_of_getElem? (i := 13) rfl)), hE.2.2.2.2.1 _ (List.mem_of_getElem? (i := 1) rfl) _ (List.mem_of_getElem? (i := 0) rfl) (by decide)⟩
    refine vx_catch (own := RL) (name := "java/lang/IllegalArgumentException") CF.2.2.2.1 [⟨0, 12, 15, 13⟩] ⟨0, 12, 19, 15⟩ [] (htab.trans rfl) hpass (by decide) (by decide) (CF.2.2.2.2 _ (inr_2 _ (List.mem_of_getElem? (i := 14) rfl))) (va_Nw.use rfl (hE.2.2.2.1 _ (List.mem_of_getElem? (i := 1) rfl))) hce hcv hcl ?_
    refine W.eq (g2 := F0 m 19 ls [.ref q9]) rfl ?_
    refine lv_astore (lv' := [(5, .ref (q9)), (0, .ref (ad 0)), (1, .int (x)), (2, .int (y)), (3, .int (z)), (4, .ref (ou))]) CF.1 CF.2.1 dL_way_19 hl (by decide) rfl (fun ls hl => ?_)
    refine lv_iconst (v := nI 2) CF.1 CF.2.1 dL_way_21 (by decide) ?_
    exact W.iret CF.1 CF.2.1 hr (fun t9 ht9 hW9 => ⟨⟨_, (σ, fo), rfl, ⟨Or.inr (⟨rfl, hc⟩), rfl⟩, by show va_P G vwCl (w0 ad cA σ) t9.heap; rw [ht9]; exact hP1, by show va_P G vwCl (wO ou cL fo) t9.heap; rw [ht9]; exact hPo1⟩, hS1.F ht9⟩) hS1.2.2 dL_way_22
set_option maxHeartbeats 1000000 in
set_option maxRecDepth 100000 in
theorem wk_ring (l : Launch) {G : va_G} {cA : ClassId} {ad : Nat → Nat} {σ : RS} (hj : inj8 ad) {b : BS} (hI : InvC b) (hR : Rc σ b) (hO : Ro σ b) (hOi : InvO b) {f a : Nat} (hf : f < 5) (ha : a ≤ 99999) {ou : Nat} {cL : ClassId} {fo : Nat → Int64} (hou : ¬ own8 ad ou) : Met l yL_ring (wsW yL_ring cL_ring 5 (some .int) [(0, 10, 13, 13), (0, 10, 17, 15)]) (rmk 21 0 0) (pcW G cA ad σ ou cL fo [.ref (ad 0), .int (nI (f)), .int (nI (a)), .ref (ou)]) (va_Qi (fun (r : Int32) (u9 : RS × (Nat → Int64)) => r = nI 0 ∧ u9.2 0 = (nI (mag b f 5 f a (2 ^ f) - a)).toInt64 ∧ Rc u9.1 (b) ∧ Ro u9.1 (b)) (fun u9 t9 => va_P G vwCl (w0 ad cA u9.1) t9.heap ∧ va_P G vwCl (wO ou cL u9.2) t9.heap) (ownW ad ou)) 0 0 (ownW ad ou) := by
  refine va_MetW (cc := cL_ring) (maxL := 5) (ret := (some .int)) (by decide) rfl ?_
  intro p e s m args below meth c s₁ B hml hv
  obtain ⟨rfl, hP, hPo, hK, hKL, hE⟩ := hv
  have hts9 := atoms_spec (ws := wsW yL_ring cL_ring 5 (some .int) [(0, 10, 13, 13), (0, 10, 17, 15)]) B.pre
  have CF : CallFix p m c cL_ring 5 s _ AW RL := ⟨B.exec, B.bytes, hml, findClass_of_methodNamed B.named, fun w h => hts9 w (List.mem_cons_of_mem _ h)⟩
  have htab := vx_table (x := yL_ring) B (hts9 _ List.mem_cons_self)
  have hr := B.returns
  have hlocks := B.notSynchronized
  have hl := lv_entry ([.ref (ad 0), .int (nI (f)), .int (nI (a)), .ref (ou)]) (n := 5) (Nat.le_of_ble_eq_true rfl)
  rw [lg_entry_eq]
  generalize (lg_sl ([.ref (ad 0), .int (nI (f)), .int (nI (a)), .ref (ou)]) ++ List.replicate (5 - (lg_sl ([.ref (ad 0), .int (nI (f)), .int (nI (a)), .ref (ou)])).length) Slot.unset).toArray = ls at hl ⊢
  have hl : lv_has ls 5 [(0, .ref (ad 0)), (1, .int (nI (f))), (2, .int (nI (a))), (3, .ref (ou))] := hl
  have hS : va_S (ownW ad ou) s.heap s.heap [] := va_S.rf
  refine lv_aload_n CF.1 CF.2.1 dL_ring_0 rfl (lv_at hl 3 rfl) ?_
  refine lv_iconst (v := nI 0) CF.1 CF.2.1 dL_ring_1 (by decide) ?_
  refine lv_aload_n CF.1 CF.2.1 dL_ring_2 rfl (lv_at hl 0 rfl) ?_
  refine lv_iload_n CF.1 CF.2.1 dL_ring_3 rfl (lv_at hl 1 rfl) ?_
  refine lv_iload_n CF.1 CF.2.1 dL_ring_4 rfl (lv_at hl 2 rfl) ?_
  refine c0_i CF hK hP (As := [.int (nI (f)), .int (nI (a))]) (rest := [.int (nI 0), .ref (ou)]) (c0_ring l hI hR hO hOi hf ha) rfl lk_RL_X0_ring rfl hl.1 ⟨Nat.le_of_ble_eq_true rfl, Nat.le_of_ble_eq_true rfl⟩ ⟨Nat.zero_le _, Nat.zero_le _⟩ (Nat.le_of_ble_eq_true rfl) rfl dL_ring_5 (fun r hr1 => ?_)
  subst hr1
  refine lv_i2l CF.1 CF.2.1 dL_ring_8 rfl ?_
  refine w_last CF hKL hP hPo hj hou hS dL_ring_9 (fun H2 locs hP2 hPo2 hS2 => ?_)
  refine lv_goto (tgt := 21) CF.1 CF.2.1 dL_ring_10 (by decide) ?_
  refine lv_iconst (v := nI 0) CF.1 CF.2.1 dL_ring_21 (by decide) ?_
  exact W.iret CF.1 CF.2.1 hr (fun t9 ht9 hW9 => ⟨⟨_, (σ, (vp_updL fo 0 (((nI (mag b f 5 f a (2 ^ f) - a))).toInt64))), rfl, ⟨rfl, rfl, hR, hO⟩, by show va_P G vwCl (w0 ad cA σ) t9.heap; rw [ht9]; exact hP2, by show va_P G vwCl (wO ou cL (vp_updL fo 0 (((nI (mag b f 5 f a (2 ^ f) - a))).toInt64))) t9.heap; rw [ht9]; exact hPo2⟩, hS2.F ht9⟩) hS2.2.2 dL_ring_22
set_option maxHeartbeats 1000000 in
set_option maxRecDepth 100000 in
theorem wb_ring (l : Launch) (hfl : l.stackTraces = false) {G : va_G} {cA : ClassId} {ad : Nat → Nat} {σ : RS} (hj : inj8 ad) {b : BS} (hI : InvC b) (hR : Rc σ b) (hO : Ro σ b) (hOi : InvO b) (x z : Int32) (hbad : ¬ (0 ≤ x.toInt ∧ x.toInt < 5 ∧ 0 ≤ z.toInt ∧ z.toInt ≤ 99999)) {ou : Nat} {cL : ClassId} {fo : Nat → Int64} (hou : ¬ own8 ad ou) : Met l yL_ring (wsW yL_ring cL_ring 5 (some .int) [(0, 10, 13, 13), (0, 10, 17, 15)]) (rmk 21 1 6) (pcW G cA ad σ ou cL fo [.ref (ad 0), .int (x), .int (z), .ref (ou)]) (va_Qi (fun (r : Int32) (u9 : RS × (Nat → Int64)) => ((r = nI 1 ∧ (¬ (0 ≤ x.toInt ∧ x.toInt < 5))) ∨ (r = nI 2 ∧ (0 ≤ x.toInt ∧ x.toInt < 5))) ∧ u9 = (σ, fo)) (fun u9 t9 => va_P G vwCl (w0 ad cA u9.1) t9.heap ∧ va_P G vwCl (wO ou cL u9.2) t9.heap) (ownW ad ou)) 1 6 (ownW ad ou) := by
  refine va_MetW (cc := cL_ring) (maxL := 5) (ret := (some .int)) (by decide) rfl ?_
  intro p e s m args below meth c s₁ B hml hv
  obtain ⟨rfl, hP, hPo, hK, hKL, hE⟩ := hv
  have hts9 := atoms_spec (ws := wsW yL_ring cL_ring 5 (some .int) [(0, 10, 13, 13), (0, 10, 17, 15)]) B.pre
  have CF : CallFix p m c cL_ring 5 s _ AW RL := ⟨B.exec, B.bytes, hml, findClass_of_methodNamed B.named, fun w h => hts9 w (List.mem_cons_of_mem _ h)⟩
  have htab := vx_table (x := yL_ring) B (hts9 _ List.mem_cons_self)
  have hr := B.returns
  have hlocks := B.notSynchronized
  have hl := lv_entry ([.ref (ad 0), .int (x), .int (z), .ref (ou)]) (n := 5) (Nat.le_of_ble_eq_true rfl)
  rw [lg_entry_eq]
  generalize (lg_sl ([.ref (ad 0), .int (x), .int (z), .ref (ou)]) ++ List.replicate (5 - (lg_sl ([.ref (ad 0), .int (x), .int (z), .ref (ou)])).length) Slot.unset).toArray = ls at hl ⊢
  have hl : lv_has ls 5 [(0, .ref (ad 0)), (1, .int (x)), (2, .int (z)), (3, .ref (ou))] := hl
  have hS : va_S (ownW ad ou) s.heap s.heap [] := va_S.rf
  refine lv_aload_n CF.1 CF.2.1 dL_ring_0 rfl (lv_at hl 3 rfl) ?_
  refine lv_iconst (v := nI 0) CF.1 CF.2.1 dL_ring_1 (by decide) ?_
  refine lv_aload_n CF.1 CF.2.1 dL_ring_2 rfl (lv_at hl 0 rfl) ?_
  refine lv_iload_n CF.1 CF.2.1 dL_ring_3 rfl (lv_at hl 1 rfl) ?_
  refine lv_iload_n CF.1 CF.2.1 dL_ring_4 rfl (lv_at hl 2 rfl) ?_
  refine e0_i CF hK hP hE (fun _ h => Or.inl h) hS (As := [.int (x), .int (z)]) (rest := [.int (nI 0), .ref (ou)]) (b0_ring l hfl hj hI hR hO hOi x z hbad) rfl lk_RL_X0_ring rfl hl.1 ⟨Nat.le_of_ble_eq_true rfl, Nat.le_of_ble_eq_true rfl⟩ ⟨Nat.le_of_ble_eq_true rfl, Nat.le_of_ble_eq_true rfl⟩ (Nat.le_of_ble_eq_true rfl) rfl dL_ring_5 (fun E ce q9 H1 locs1 hPE hP1 hk1 hS1 hce hcv hcl => ?_)
  have hPo1 := w1_kept hPo hou hk1
  rcases (show (E = "java/lang/IndexOutOfBoundsException" ∧ (¬ (0 ≤ x.toInt ∧ x.toInt < 5))) ∨ (E = "java/lang/IllegalArgumentException" ∧ (0 ≤ x.toInt ∧ x.toInt < 5)) from hPE) with ⟨rfl, hc⟩ | ⟨rfl, hc⟩
  · refine vx_catch (own := RL) (name := "java/lang/IndexOutOfBoundsException") CF.2.2.2.1 [] ⟨0, 10, 13, 13⟩ [⟨0, 10, 17, 15⟩] (htab.trans rfl) (fun z hz => absurd hz List.not_mem_nil) (by decide) (by decide) (CF.2.2.2.2 _ (inr_2 _ (List.mem_of_getElem? (i := 13) rfl))) (va_Nw.use rfl (hE.2.2.2.1 _ (List.mem_of_getElem? (i := 0) rfl))) hce hcv hcl ?_
    refine W.eq (g2 := F0 m 13 ls [.ref q9]) rfl ?_
    refine lv_astore (lv' := [(4, .ref (q9)), (0, .ref (ad 0)), (1, .int (x)), (2, .int (z)), (3, .ref (ou))]) CF.1 CF.2.1 dL_ring_13 hl (by decide) rfl (fun ls hl => ?_)
    refine lv_iconst (v := nI 1) CF.1 CF.2.1 dL_ring_15 (by decide) ?_
    exact W.iret CF.1 CF.2.1 hr (fun t9 ht9 hW9 => ⟨⟨_, (σ, fo), rfl, ⟨Or.inl ⟨rfl, hc⟩, rfl⟩, by show va_P G vwCl (w0 ad cA σ) t9.heap; rw [ht9]; exact hP1, by show va_P G vwCl (wO ou cL fo) t9.heap; rw [ht9]; exact hPo1⟩, hS1.F ht9⟩) hS1.2.2 dL_ring_16
  · have hpass : ∀ e9 ∈ ([⟨0, 10, 13, 13⟩] : List ExceptionTableEntry), covers e9 5 = false ∨ (e9.catchType ≠ 0 ∧ ∃ nm : String, (Cond.classLink RL e9.catchType nm).before #[.ref (ad 0), .int (x), .int (z), .ref (ou)] s = true ∧ va_Nc "java/lang/IllegalArgumentException" nm s) := by
      intro e9 hz
      simp only [List.mem_cons, List.not_mem_nil, or_false] at hz
      rcases hz with rfl
      · exact Or.inr ⟨by decide, "java/lang/IndexOutOfBoundsException", CF.2.2.2.2 _ (inr_2 _ (List.mem_of_getElem? (i := 13) rfl)), hE.2.2.2.2.1 _ (List.mem_of_getElem? (i := 1) rfl) _ (List.mem_of_getElem? (i := 0) rfl) (by decide)⟩
    refine vx_catch (own := RL) (name := "java/lang/IllegalArgumentException") CF.2.2.2.1 [⟨0, 10, 13, 13⟩] ⟨0, 10, 17, 15⟩ [] (htab.trans rfl) hpass (by decide) (by decide) (CF.2.2.2.2 _ (inr_2 _ (List.mem_of_getElem? (i := 14) rfl))) (va_Nw.use rfl (hE.2.2.2.1 _ (List.mem_of_getElem? (i := 1) rfl))) hce hcv hcl ?_
    refine W.eq (g2 := F0 m 17 ls [.ref q9]) rfl ?_
    refine lv_astore (lv' := [(4, .ref (q9)), (0, .ref (ad 0)), (1, .int (x)), (2, .int (z)), (3, .ref (ou))]) CF.1 CF.2.1 dL_ring_17 hl (by decide) rfl (fun ls hl => ?_)
    refine lv_iconst (v := nI 2) CF.1 CF.2.1 dL_ring_19 (by decide) ?_
    exact W.iret CF.1 CF.2.1 hr (fun t9 ht9 hW9 => ⟨⟨_, (σ, fo), rfl, ⟨Or.inr (⟨rfl, hc⟩), rfl⟩, by show va_P G vwCl (w0 ad cA σ) t9.heap; rw [ht9]; exact hP1, by show va_P G vwCl (wO ou cL fo) t9.heap; rw [ht9]; exact hPo1⟩, hS1.F ht9⟩) hS1.2.2 dL_ring_20
set_option maxHeartbeats 1000000 in
set_option maxRecDepth 100000 in
theorem wk_needs (l : Launch) {G : va_G} {cA : ClassId} {ad : Nat → Nat} {σ : RS} (hj : inj8 ad) {b : BS} (hI : InvC b) (hR : Rc σ b) (hO : Ro σ b) (hOi : InvO b) {f t : Nat} (hf : f < 5) (ht : t < 5) (hne : f ≠ t) {ou : Nat} {cL : ClassId} {fo : Nat → Int64} (hou : ¬ own8 ad ou) : Met l yL_needs (wsW yL_needs cL_needs 5 (some .int) [(0, 10, 13, 13), (0, 10, 17, 15)]) (rmk 9 0 0) (pcW G cA ad σ ou cL fo [.ref (ad 0), .int (nI (f)), .int (nI (t)), .ref (ou)]) (va_Qi (fun (r : Int32) (u9 : RS × (Nat → Int64)) => r = nI 0 ∧ (∃ r0 : Int32, u9.2 0 = r0.toInt64 ∧ ndP b f t r0) ∧ Rc u9.1 (b) ∧ Ro u9.1 (b)) (fun u9 t9 => va_P G vwCl (w0 ad cA u9.1) t9.heap ∧ va_P G vwCl (wO ou cL u9.2) t9.heap) (ownW ad ou)) 0 0 (ownW ad ou) := by
  refine va_MetW (cc := cL_needs) (maxL := 5) (ret := (some .int)) (by decide) rfl ?_
  intro p e s m args below meth c s₁ B hml hv
  obtain ⟨rfl, hP, hPo, hK, hKL, hE⟩ := hv
  have hts9 := atoms_spec (ws := wsW yL_needs cL_needs 5 (some .int) [(0, 10, 13, 13), (0, 10, 17, 15)]) B.pre
  have CF : CallFix p m c cL_needs 5 s _ AW RL := ⟨B.exec, B.bytes, hml, findClass_of_methodNamed B.named, fun w h => hts9 w (List.mem_cons_of_mem _ h)⟩
  have htab := vx_table (x := yL_needs) B (hts9 _ List.mem_cons_self)
  have hr := B.returns
  have hlocks := B.notSynchronized
  have hl := lv_entry ([.ref (ad 0), .int (nI (f)), .int (nI (t)), .ref (ou)]) (n := 5) (Nat.le_of_ble_eq_true rfl)
  rw [lg_entry_eq]
  generalize (lg_sl ([.ref (ad 0), .int (nI (f)), .int (nI (t)), .ref (ou)]) ++ List.replicate (5 - (lg_sl ([.ref (ad 0), .int (nI (f)), .int (nI (t)), .ref (ou)])).length) Slot.unset).toArray = ls at hl ⊢
  have hl : lv_has ls 5 [(0, .ref (ad 0)), (1, .int (nI (f))), (2, .int (nI (t))), (3, .ref (ou))] := hl
  have hS : va_S (ownW ad ou) s.heap s.heap [] := va_S.rf
  refine lv_aload_n CF.1 CF.2.1 dL_needs_0 rfl (lv_at hl 3 rfl) ?_
  refine lv_iconst (v := nI 0) CF.1 CF.2.1 dL_needs_1 (by decide) ?_
  refine lv_aload_n CF.1 CF.2.1 dL_needs_2 rfl (lv_at hl 0 rfl) ?_
  refine lv_iload_n CF.1 CF.2.1 dL_needs_3 rfl (lv_at hl 1 rfl) ?_
  refine lv_iload_n CF.1 CF.2.1 dL_needs_4 rfl (lv_at hl 2 rfl) ?_
  refine c0_i CF hK hP (As := [.int (nI (f)), .int (nI (t))]) (rest := [.int (nI 0), .ref (ou)]) (c0_needs l hI hR hO hOi hf ht hne) rfl lk_RL_X0_needs rfl hl.1 ⟨Nat.le_of_ble_eq_true rfl, Nat.le_of_ble_eq_true rfl⟩ ⟨Nat.zero_le _, Nat.zero_le _⟩ (Nat.le_of_ble_eq_true rfl) rfl dL_needs_5 (fun r hr1 => ?_)
  refine lv_i2l CF.1 CF.2.1 dL_needs_8 rfl ?_
  refine w_last CF hKL hP hPo hj hou hS dL_needs_9 (fun H2 locs hP2 hPo2 hS2 => ?_)
  refine lv_goto (tgt := 21) CF.1 CF.2.1 dL_needs_10 (by decide) ?_
  refine lv_iconst (v := nI 0) CF.1 CF.2.1 dL_needs_21 (by decide) ?_
  exact W.iret CF.1 CF.2.1 hr (fun t9 ht9 hW9 => ⟨⟨_, (σ, (vp_updL fo 0 (((r)).toInt64))), rfl, ⟨rfl, ⟨r, rfl, hr1⟩, hR, hO⟩, by show va_P G vwCl (w0 ad cA σ) t9.heap; rw [ht9]; exact hP2, by show va_P G vwCl (wO ou cL (vp_updL fo 0 (((r)).toInt64))) t9.heap; rw [ht9]; exact hPo2⟩, hS2.F ht9⟩) hS2.2.2 dL_needs_22
set_option maxHeartbeats 1000000 in
set_option maxRecDepth 100000 in
theorem wb_needs (l : Launch) (hfl : l.stackTraces = false) {G : va_G} {cA : ClassId} {ad : Nat → Nat} {σ : RS} (hj : inj8 ad) {b : BS} (hI : InvC b) (hR : Rc σ b) (hO : Ro σ b) (hOi : InvO b) (x y : Int32) (hbad : ¬ (0 ≤ x.toInt ∧ x.toInt < 5 ∧ 0 ≤ y.toInt ∧ y.toInt < 5 ∧ x.toInt ≠ y.toInt)) {ou : Nat} {cL : ClassId} {fo : Nat → Int64} (hou : ¬ own8 ad ou) : Met l yL_needs (wsW yL_needs cL_needs 5 (some .int) [(0, 10, 13, 13), (0, 10, 17, 15)]) (rmk 9 1 6) (pcW G cA ad σ ou cL fo [.ref (ad 0), .int (x), .int (y), .ref (ou)]) (va_Qi (fun (r : Int32) (u9 : RS × (Nat → Int64)) => ((r = nI 1 ∧ (¬ (0 ≤ x.toInt ∧ x.toInt < 5 ∧ 0 ≤ y.toInt ∧ y.toInt < 5))) ∨ (r = nI 2 ∧ (0 ≤ x.toInt ∧ x.toInt < 5 ∧ 0 ≤ y.toInt ∧ y.toInt < 5))) ∧ u9 = (σ, fo)) (fun u9 t9 => va_P G vwCl (w0 ad cA u9.1) t9.heap ∧ va_P G vwCl (wO ou cL u9.2) t9.heap) (ownW ad ou)) 1 6 (ownW ad ou) := by
  refine va_MetW (cc := cL_needs) (maxL := 5) (ret := (some .int)) (by decide) rfl ?_
  intro p e s m args below meth c s₁ B hml hv
  obtain ⟨rfl, hP, hPo, hK, hKL, hE⟩ := hv
  have hts9 := atoms_spec (ws := wsW yL_needs cL_needs 5 (some .int) [(0, 10, 13, 13), (0, 10, 17, 15)]) B.pre
  have CF : CallFix p m c cL_needs 5 s _ AW RL := ⟨B.exec, B.bytes, hml, findClass_of_methodNamed B.named, fun w h => hts9 w (List.mem_cons_of_mem _ h)⟩
  have htab := vx_table (x := yL_needs) B (hts9 _ List.mem_cons_self)
  have hr := B.returns
  have hlocks := B.notSynchronized
  have hl := lv_entry ([.ref (ad 0), .int (x), .int (y), .ref (ou)]) (n := 5) (Nat.le_of_ble_eq_true rfl)
  rw [lg_entry_eq]
  generalize (lg_sl ([.ref (ad 0), .int (x), .int (y), .ref (ou)]) ++ List.replicate (5 - (lg_sl ([.ref (ad 0), .int (x), .int (y), .ref (ou)])).length) Slot.unset).toArray = ls at hl ⊢
  have hl : lv_has ls 5 [(0, .ref (ad 0)), (1, .int (x)), (2, .int (y)), (3, .ref (ou))] := hl
  have hS : va_S (ownW ad ou) s.heap s.heap [] := va_S.rf
  refine lv_aload_n CF.1 CF.2.1 dL_needs_0 rfl (lv_at hl 3 rfl) ?_
  refine lv_iconst (v := nI 0) CF.1 CF.2.1 dL_needs_1 (by decide) ?_
  refine lv_aload_n CF.1 CF.2.1 dL_needs_2 rfl (lv_at hl 0 rfl) ?_
  refine lv_iload_n CF.1 CF.2.1 dL_needs_3 rfl (lv_at hl 1 rfl) ?_
  refine lv_iload_n CF.1 CF.2.1 dL_needs_4 rfl (lv_at hl 2 rfl) ?_
  refine e0_i CF hK hP hE (fun _ h => Or.inl h) hS (As := [.int (x), .int (y)]) (rest := [.int (nI 0), .ref (ou)]) (b0_needs l hfl hj hI hR hO hOi x y hbad) rfl lk_RL_X0_needs rfl hl.1 ⟨Nat.le_of_ble_eq_true rfl, Nat.le_of_ble_eq_true rfl⟩ ⟨Nat.le_of_ble_eq_true rfl, Nat.le_of_ble_eq_true rfl⟩ (Nat.le_of_ble_eq_true rfl) rfl dL_needs_5 (fun E ce q9 H1 locs1 hPE hP1 hk1 hS1 hce hcv hcl => ?_)
  have hPo1 := w1_kept hPo hou hk1
  rcases (show (E = "java/lang/IndexOutOfBoundsException" ∧ (¬ (0 ≤ x.toInt ∧ x.toInt < 5 ∧ 0 ≤ y.toInt ∧ y.toInt < 5))) ∨ (E = "java/lang/IllegalArgumentException" ∧ (0 ≤ x.toInt ∧ x.toInt < 5 ∧ 0 ≤ y.toInt ∧ y.toInt < 5)) from hPE) with ⟨rfl, hc⟩ | ⟨rfl, hc⟩
  · refine vx_catch (own := RL) (name := "java/lang/IndexOutOfBoundsException") CF.2.2.2.1 [] ⟨0, 10, 13, 13⟩ [⟨0, 10, 17, 15⟩] (htab.trans rfl) (fun z hz => absurd hz List.not_mem_nil) (by decide) (by decide) (CF.2.2.2.2 _ (inr_2 _ (List.mem_of_getElem? (i := 13) rfl))) (va_Nw.use rfl (hE.2.2.2.1 _ (List.mem_of_getElem? (i := 0) rfl))) hce hcv hcl ?_
    refine W.eq (g2 := F0 m 13 ls [.ref q9]) rfl ?_
    refine lv_astore (lv' := [(4, .ref (q9)), (0, .ref (ad 0)), (1, .int (x)), (2, .int (y)), (3, .ref (ou))]) CF.1 CF.2.1 dL_needs_13 hl (by decide) rfl (fun ls hl => ?_)
    refine lv_iconst (v := nI 1) CF.1 CF.2.1 dL_needs_15 (by decide) ?_
    exact W.iret CF.1 CF.2.1 hr (fun t9 ht9 hW9 => ⟨⟨_, (σ, fo), rfl, ⟨Or.inl ⟨rfl, hc⟩, rfl⟩, by show va_P G vwCl (w0 ad cA σ) t9.heap; rw [ht9]; exact hP1, by show va_P G vwCl (wO ou cL fo) t9.heap; rw [ht9]; exact hPo1⟩, hS1.F ht9⟩) hS1.2.2 dL_needs_16
  · have hpass : ∀ e9 ∈ ([⟨0, 10, 13, 13⟩] : List ExceptionTableEntry), covers e9 5 = false ∨ (e9.catchType ≠ 0 ∧ ∃ nm : String, (Cond.classLink RL e9.catchType nm).before #[.ref (ad 0), .int (x), .int (y), .ref (ou)] s = true ∧ va_Nc "java/lang/IllegalArgumentException" nm s) := by
      intro e9 hz
      simp only [List.mem_cons, List.not_mem_nil, or_false] at hz
      rcases hz with rfl
      · exact Or.inr ⟨by decide, "java/lang/IndexOutOfBoundsException", CF.2.2.2.2 _ (inr_2 _ (List.mem_of_getElem? (i := 13) rfl)), hE.2.2.2.2.1 _ (List.mem_of_getElem? (i := 1) rfl) _ (List.mem_of_getElem? (i := 0) rfl) (by decide)⟩
    refine vx_catch (own := RL) (name := "java/lang/IllegalArgumentException") CF.2.2.2.1 [⟨0, 10, 13, 13⟩] ⟨0, 10, 17, 15⟩ [] (htab.trans rfl) hpass (by decide) (by decide) (CF.2.2.2.2 _ (inr_2 _ (List.mem_of_getElem? (i := 14) rfl))) (va_Nw.use rfl (hE.2.2.2.1 _ (List.mem_of_getElem? (i := 1) rfl))) hce hcv hcl ?_
    refine W.eq (g2 := F0 m 17 ls [.ref q9]) rfl ?_
    refine lv_astore (lv' := [(4, .ref (q9)), (0, .ref (ad 0)), (1, .int (x)), (2, .int (y)), (3, .ref (ou))]) CF.1 CF.2.1 dL_needs_17 hl (by decide) rfl (fun ls hl => ?_)
    refine lv_iconst (v := nI 2) CF.1 CF.2.1 dL_needs_19 (by decide) ?_
    exact W.iret CF.1 CF.2.1 hr (fun t9 ht9 hW9 => ⟨⟨_, (σ, fo), rfl, ⟨Or.inr (⟨rfl, hc⟩), rfl⟩, by show va_P G vwCl (w0 ad cA σ) t9.heap; rw [ht9]; exact hP1, by show va_P G vwCl (wO ou cL fo) t9.heap; rw [ht9]; exact hPo1⟩, hS1.F ht9⟩) hS1.2.2 dL_needs_20
set_option maxHeartbeats 1000000 in
set_option maxRecDepth 100000 in
theorem wk_mean (l : Launch) {G : va_G} {cA : ClassId} {ad : Nat → Nat} {σ : RS} (hj : inj8 ad) {b : BS} (hI : InvC b) (hR : Rc σ b) (hO : Ro σ b) (hOi : InvO b) {t : Nat} (ht : t < 5) {ou : Nat} {cL : ClassId} {fo : Nat → UInt64} (hou : ¬ own8 ad ou) : Met l yL_mean (wsW yL_mean cL_mean 4 (some .int) [(0, 8, 11, 13)]) (rmk 9 0 0) (pcWD G cA ad σ ou cL fo [.ref (ad 0), .int (nI (t)), .ref (ou)]) (va_Qi (fun (r : Int32) (u9 : RS × (Nat → UInt64)) => r = nI 0 ∧ u9.2 0 = mnD b t ∧ Rc u9.1 (b) ∧ Ro u9.1 (b)) (fun u9 t9 => va_P G vwCl (w0 ad cA u9.1) t9.heap ∧ va_P G vwCl (wD ou cL u9.2) t9.heap) (ownW ad ou)) 0 0 (ownW ad ou) := by
  refine va_MetW (cc := cL_mean) (maxL := 4) (ret := (some .int)) (by decide) rfl ?_
  intro p e s m args below meth c s₁ B hml hv
  obtain ⟨rfl, hP, hPo, hK, hKL, hE⟩ := hv
  have hts9 := atoms_spec (ws := wsW yL_mean cL_mean 4 (some .int) [(0, 8, 11, 13)]) B.pre
  have CF : CallFix p m c cL_mean 4 s _ AW RL := ⟨B.exec, B.bytes, hml, findClass_of_methodNamed B.named, fun w h => hts9 w (List.mem_cons_of_mem _ h)⟩
  have htab := vx_table (x := yL_mean) B (hts9 _ List.mem_cons_self)
  have hr := B.returns
  have hlocks := B.notSynchronized
  have hl := lv_entry ([.ref (ad 0), .int (nI (t)), .ref (ou)]) (n := 4) (Nat.le_of_ble_eq_true rfl)
  rw [lg_entry_eq]
  generalize (lg_sl ([.ref (ad 0), .int (nI (t)), .ref (ou)]) ++ List.replicate (4 - (lg_sl ([.ref (ad 0), .int (nI (t)), .ref (ou)])).length) Slot.unset).toArray = ls at hl ⊢
  have hl : lv_has ls 4 [(0, .ref (ad 0)), (1, .int (nI (t))), (2, .ref (ou))] := hl
  have hS : va_S (ownW ad ou) s.heap s.heap [] := va_S.rf
  refine lv_aload_n CF.1 CF.2.1 dL_mean_0 rfl (lv_at hl 2 rfl) ?_
  refine lv_iconst (v := nI 0) CF.1 CF.2.1 dL_mean_1 (by decide) ?_
  refine lv_aload_n CF.1 CF.2.1 dL_mean_2 rfl (lv_at hl 0 rfl) ?_
  refine lv_iload_n CF.1 CF.2.1 dL_mean_3 rfl (lv_at hl 1 rfl) ?_
  refine c0_d CF hK hP (As := [.int (nI (t))]) (rest := [.int (nI 0), .ref (ou)]) (c0_mean l hI hR hO hOi ht) rfl lk_RL_X0_mean rfl hl.1 ⟨Nat.le_of_ble_eq_true rfl, Nat.le_of_ble_eq_true rfl⟩ ⟨Nat.zero_le _, Nat.zero_le _⟩ (Nat.le_of_ble_eq_true rfl) rfl dL_mean_4 (fun r hr1 => ?_)
  subst hr1
  refine w_dast CF hKL hP hPo hj hou hS dL_mean_7 (fun H2 locs hP2 hPo2 hS2 => ?_)
  refine lv_goto (tgt := 14) CF.1 CF.2.1 dL_mean_8 (by decide) ?_
  refine lv_iconst (v := nI 0) CF.1 CF.2.1 dL_mean_14 (by decide) ?_
  exact W.iret CF.1 CF.2.1 hr (fun t9 ht9 hW9 => ⟨⟨_, (σ, (vf_upd fo 0 (mnD b t))), rfl, ⟨rfl, rfl, hR, hO⟩, by show va_P G vwCl (w0 ad cA σ) t9.heap; rw [ht9]; exact hP2, by show va_P G vwCl (wD ou cL (vf_upd fo 0 (mnD b t))) t9.heap; rw [ht9]; exact hPo2⟩, hS2.F ht9⟩) hS2.2.2 dL_mean_15
set_option maxHeartbeats 1000000 in
set_option maxRecDepth 100000 in
theorem wb_mean (l : Launch) (hfl : l.stackTraces = false) {G : va_G} {cA : ClassId} {ad : Nat → Nat} {σ : RS} (hj : inj8 ad) {b : BS} (hI : InvC b) (hR : Rc σ b) (hO : Ro σ b) (hOi : InvO b) (x : Int32) (hbad : ¬ (0 ≤ x.toInt ∧ x.toInt < 5)) {ou : Nat} {cL : ClassId} {fo : Nat → UInt64} (hou : ¬ own8 ad ou) : Met l yL_mean (wsW yL_mean cL_mean 4 (some .int) [(0, 8, 11, 13)]) (rmk 9 1 6) (pcWD G cA ad σ ou cL fo [.ref (ad 0), .int (x), .ref (ou)]) (va_Qi (fun (r : Int32) (u9 : RS × (Nat → UInt64)) => ((r = nI 1 ∧ (True))) ∧ u9 = (σ, fo)) (fun u9 t9 => va_P G vwCl (w0 ad cA u9.1) t9.heap ∧ va_P G vwCl (wD ou cL u9.2) t9.heap) (ownW ad ou)) 1 6 (ownW ad ou) := by
  refine va_MetW (cc := cL_mean) (maxL := 4) (ret := (some .int)) (by decide) rfl ?_
  intro p e s m args below meth c s₁ B hml hv
  obtain ⟨rfl, hP, hPo, hK, hKL, hE⟩ := hv
  have hts9 := atoms_spec (ws := wsW yL_mean cL_mean 4 (some .int) [(0, 8, 11, 13)]) B.pre
  have CF : CallFix p m c cL_mean 4 s _ AW RL := ⟨B.exec, B.bytes, hml, findClass_of_methodNamed B.named, fun w h => hts9 w (List.mem_cons_of_mem _ h)⟩
  have htab := vx_table (x := yL_mean) B (hts9 _ List.mem_cons_self)
  have hr := B.returns
  have hlocks := B.notSynchronized
  have hl := lv_entry ([.ref (ad 0), .int (x), .ref (ou)]) (n := 4) (Nat.le_of_ble_eq_true rfl)
  rw [lg_entry_eq]
  generalize (lg_sl ([.ref (ad 0), .int (x), .ref (ou)]) ++ List.replicate (4 - (lg_sl ([.ref (ad 0), .int (x), .ref (ou)])).length) Slot.unset).toArray = ls at hl ⊢
  have hl : lv_has ls 4 [(0, .ref (ad 0)), (1, .int (x)), (2, .ref (ou))] := hl
  have hS : va_S (ownW ad ou) s.heap s.heap [] := va_S.rf
  refine lv_aload_n CF.1 CF.2.1 dL_mean_0 rfl (lv_at hl 2 rfl) ?_
  refine lv_iconst (v := nI 0) CF.1 CF.2.1 dL_mean_1 (by decide) ?_
  refine lv_aload_n CF.1 CF.2.1 dL_mean_2 rfl (lv_at hl 0 rfl) ?_
  refine lv_iload_n CF.1 CF.2.1 dL_mean_3 rfl (lv_at hl 1 rfl) ?_
  refine e0_i CF hK hP hE (fun _ h => Or.inl h) hS (As := [.int (x)]) (rest := [.int (nI 0), .ref (ou)]) (b0_mean l hfl hj hI hR hO hOi x hbad) rfl lk_RL_X0_mean rfl hl.1 ⟨Nat.le_of_ble_eq_true rfl, Nat.le_of_ble_eq_true rfl⟩ ⟨Nat.le_of_ble_eq_true rfl, Nat.le_of_ble_eq_true rfl⟩ (Nat.le_of_ble_eq_true rfl) rfl dL_mean_4 (fun E ce q9 H1 locs1 hPE hP1 hk1 hS1 hce hcv hcl => ?_)
  have hPo1 := w1_kept hPo hou hk1
  rcases (show (E = "java/lang/IndexOutOfBoundsException" ∧ (True)) from hPE) with ⟨rfl, hc⟩
  · refine vx_catch (own := RL) (name := "java/lang/IndexOutOfBoundsException") CF.2.2.2.1 [] ⟨0, 8, 11, 13⟩ [] (htab.trans rfl) (fun z hz => absurd hz List.not_mem_nil) (by decide) (by decide) (CF.2.2.2.2 _ (inr_2 _ (List.mem_of_getElem? (i := 13) rfl))) (va_Nw.use rfl (hE.2.2.2.1 _ (List.mem_of_getElem? (i := 0) rfl))) hce hcv hcl ?_
    refine W.eq (g2 := F0 m 11 ls [.ref q9]) rfl ?_
    refine lv_astore_n (lv' := [(3, .ref (q9)), (0, .ref (ad 0)), (1, .int (x)), (2, .ref (ou))]) CF.1 CF.2.1 dL_mean_11 rfl hl (by decide) rfl (fun ls hl => ?_)
    refine lv_iconst (v := nI 1) CF.1 CF.2.1 dL_mean_12 (by decide) ?_
    exact W.iret CF.1 CF.2.1 hr (fun t9 ht9 hW9 => ⟨⟨_, (σ, fo), rfl, ⟨⟨rfl, hc⟩, rfl⟩, by show va_P G vwCl (w0 ad cA σ) t9.heap; rw [ht9]; exact hP1, by show va_P G vwCl (wD ou cL fo) t9.heap; rw [ht9]; exact hPo1⟩, hS1.F ht9⟩) hS1.2.2 dL_mean_13
