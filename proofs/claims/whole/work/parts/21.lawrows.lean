theorem iv_lka {b : BS} (hI : InvC b) (hO : InvO b) : InvC (lka b) ∧ InvO (lka b) := ⟨(lk_inv hI hO _ (Nat.le_refl _)).1, (lk_inv hI hO _ (Nat.le_refl _)).2.1⟩
theorem iv_setRate {b : BS} (hI : InvC b) (hOi : InvO b) {f t v : Nat} (hf : f < 5) (ht : t < 5) (hne : f ≠ t) (hv : v ≤ 9999) : InvC (s_rate b f t v) ∧ InvO (s_rate b f t v) := iv_lka (I_rate hI hf ht hne hv) (InvO_to hOi (by simp [upN]) (by simp [upN]) (fun j => by simp [upN]))
theorem iv_setSpread {b : BS} (hI : InvC b) (hOi : InvO b) {v : Nat} (hv : v ≤ 50) : InvC (s_spread b v) ∧ InvO (s_spread b v) := iv_lka (InvC_up hI (Or.inr (Or.inl ⟨rfl, rfl, hv⟩))) (InvO_to hOi (by simp [upN]) (by simp [upN]) (fun j => by simp [upN]))
theorem iv_next {b : BS} (hI : InvC b) (hOi : InvO b) : InvC (s_next b) ∧ InvO (s_next b) := iv_lka (I_nx hI) (InvO_to hOi (Nat.le_refl _) rfl (fun j => rfl))
theorem iv_setLimit {b : BS} (hI : InvC b) (hOi : InvO b) {t v : Nat} (ht : t < 5) (hv : v ≤ 99999) : InvC (upN b 4 t v) ∧ InvO (upN b 4 t v) := ⟨InvC_up hI (Or.inr (Or.inr (Or.inr (Or.inr (Or.inr (Or.inl ⟨rfl, hv⟩)))))), InvO_to hOi (by simp [upN]) (by simp [upN]) (fun j => by simp [upN])⟩
theorem iv_stock {b : BS} (hI : InvC b) (hOi : InvO b) {t v : Nat} (ht : t < 5) (hv0 : 1 ≤ v) (hv : v ≤ 99999) : InvC (upN b 2 t (min (b 2 t + v) 999999)) ∧ InvO (upN b 2 t (min (b 2 t + v) 999999)) := ⟨InvC_up hI (Or.inr (Or.inr (Or.inr (Or.inr (Or.inl ⟨rfl, Nat.min_le_right _ _⟩))))), InvO_to hOi (by simp [upN]) (by simp [upN]) (fun j => by simp [upN])⟩
theorem iv_come {b : BS} (hI : InvC b) (hOi : InvO b) (hc : b 0 2 < 6) : InvC (upN b 0 2 (b 0 2 + 1)) ∧ InvO (upN b 0 2 (b 0 2 + 1)) := ⟨InvC_up hI (Or.inr (Or.inr (Or.inl ⟨rfl, rfl, by omega⟩))), InvO_to hOi (by rw [upN_s]; omega) (by simp [upN]) (fun j => by simp [upN])⟩
theorem iv_earn {b : BS} (hI : InvC b) (hOi : InvO b) {u t v : Nat} (hu : u < b 0 2) (ht : t < 5) (hv0 : 1 ≤ v) (hv : v ≤ 99999) : InvC (upN b 6 (u * 5 + t) (min (b 6 (u * 5 + t) + v) 999999)) ∧ InvO (upN b 6 (u * 5 + t) (min (b 6 (u * 5 + t) + v) 999999)) := ⟨InvC_up hI (Or.inr (Or.inr (Or.inr (Or.inr (Or.inr (Or.inr (Or.inl ⟨rfl, Nat.min_le_right _ _⟩))))))), InvO_to hOi (by simp [upN]) (by simp [upN]) (fun j => by simp [upN])⟩
theorem iv_change {b : BS} (hI : InvC b) (hOi : InvO b) {u f t a : Nat} (hu : u < b 0 2) (hf : f < 5) (ht : t < 5) (ha : a < 2147483648) (hok : okN b u f t a 1) : InvC (dc b u f t a) ∧ InvO (dc b u f t a) := ⟨InvC_dc hI hu hf ht hok, InvO_to hOi (by rw [dc_02]; exact Nat.le_refl _) dc_03 (fun j => by rw [dc_7])⟩
theorem or_lo {b : BS} {u f t a k j : Nat} (h : j < b 0 3 * 5) : s_order b u f t a k 7 j = b 7 j := by
  unfold s_order
  rw [upN_k (by omega), upN_i (by omega), upN_i (by omega), upN_i (by omega), upN_i (by omega), upN_i (by omega)]
theorem or_0 {b : BS} {u f t a k : Nat} : s_order b u f t a k 7 (b 0 3 * 5) = u := by
  unfold s_order
  rw [upN_k (by omega), upN_i (by omega), upN_i (by omega), upN_i (by omega), upN_i (by omega), upN_s]
theorem or_1 {b : BS} {u f t a k : Nat} : s_order b u f t a k 7 (b 0 3 * 5 + 1) = f := by
  unfold s_order
  rw [upN_k (by omega), upN_i (by omega), upN_i (by omega), upN_i (by omega), upN_s]
theorem or_2 {b : BS} {u f t a k : Nat} : s_order b u f t a k 7 (b 0 3 * 5 + 2) = t := by
  unfold s_order
  rw [upN_k (by omega), upN_i (by omega), upN_i (by omega), upN_s]
theorem or_3 {b : BS} {u f t a k : Nat} : s_order b u f t a k 7 (b 0 3 * 5 + 3) = a := by
  unfold s_order
  rw [upN_k (by omega), upN_i (by omega), upN_s]
theorem or_4 {b : BS} {u f t a k : Nat} : s_order b u f t a k 7 (b 0 3 * 5 + 4) = k := by
  unfold s_order
  rw [upN_k (by omega), upN_s]
theorem iv_order {b : BS} (hI : InvC b) (hOi : InvO b) {u f t a k : Nat} (hu : u < b 0 2) (hf : f < 5) (ht : t < 5) (hne : f ≠ t) (ha0 : 1 ≤ a) (ha : a ≤ 99999) (hk0 : 1 ≤ k) (hk : k ≤ 99999) (hw : b 0 3 < 10) : InvC (s_order b u f t a k) ∧ InvO (s_order b u f t a k) := by
  have h2 : s_order b u f t a k 0 2 = b 0 2 := by simp [s_order, upN]
  have h3 : s_order b u f t a k 0 3 = b 0 3 + 1 := upN_s
  refine ⟨InvC_up (InvC_up (InvC_up (InvC_up (InvC_up (InvC_up hI ?_) ?_) ?_) ?_) ?_) (Or.inl ⟨rfl, by decide, by decide⟩), by omega, fun p hp => ?_⟩
  · exact Or.inr (Or.inr (Or.inr (Or.inr (Or.inr (Or.inr (Or.inr (by decide)))))))
  · exact Or.inr (Or.inr (Or.inr (Or.inr (Or.inr (Or.inr (Or.inr (by decide)))))))
  · exact Or.inr (Or.inr (Or.inr (Or.inr (Or.inr (Or.inr (Or.inr (by decide)))))))
  · exact Or.inr (Or.inr (Or.inr (Or.inr (Or.inr (Or.inr (Or.inr (by decide)))))))
  · exact Or.inr (Or.inr (Or.inr (Or.inr (Or.inr (Or.inr (Or.inr (by decide)))))))
  · rw [h3] at hp
    rw [h2]
    by_cases hq : p < b 0 3
    · have h := hOi.2 p hq
      rw [or_lo (by omega), or_lo (by omega), or_lo (by omega), or_lo (by omega), or_lo (by omega)]
      exact h
    · obtain rfl : p = b 0 3 := by omega
      rw [or_0, or_1, or_2, or_3, or_4]
      exact ⟨hu, hf, ht, hne, ha0, ha, hk0, hk⟩
theorem iv_cancel {b : BS} (hI : InvC b) (hOi : InvO b) {q : Nat} (hq : q < b 0 3) : InvC (takeN b q) ∧ InvO (takeN b q) := ⟨InvC_to hI (takeN_k (by omega) (by omega)) (takeN_k (by omega) (by omega)) (fun k i h1 h2 => takeN_k (by omega) (by omega)), InvO_take hOi takeN_w (takeN_k (by omega) (by omega)) (fun j => takeN_7)⟩
/-- the last five bits -/
theorem low5 (x : Int32) : ∃ w : Nat, w < 32 ∧ x &&& nI 31 = nI w := by
  refine ⟨(x.toBitVec &&& 31#32).toNat, ?_, ?_⟩
  · rw [BitVec.toNat_and]
    exact Nat.lt_of_le_of_lt Nat.and_le_right (by decide)
  · apply Int32.toBitVec_inj.1
    show x.toBitVec &&& 31#32 = BitVec.ofNat 32 (x.toBitVec &&& 31#32).toNat
    simp
/-- what stands fast over the whole law -/
def LX (l : Launch) (G : va_G) (cA cL cD : ClassId) (ad0 ad1 : Nat → Nat) (ou od bx L : Nat) (xs : Nat → Int32) (s : State) : Prop := va_X bx L xs s s.heap ∧ bx < s.heap.size ∧ KK G cA s ∧ va_K G vwCl [(cL, .long)] s ∧ va_K G vwCl [(cD, .double)] s ∧ EX (fun q => s.heap.size ≤ q) s s.heap ∧ inj8 ad0 ∧ inj8 ad1 ∧ (∀ q, own8 ad0 q → s.heap.size ≤ q) ∧ (∀ q, own8 ad1 q → s.heap.size ≤ q) ∧ s.heap.size ≤ ou ∧ s.heap.size ≤ od ∧ (∀ q, own8 ad0 q → ¬ own8 ad1 q) ∧ ¬ own8 ad0 ou ∧ ¬ own8 ad1 ou ∧ ¬ own8 ad0 od ∧ ¬ own8 ad1 od ∧ ou ≠ od ∧ l.stackTraces = false ∧ L ≤ 3072
/-- the four parts of the law's world -/
def LH (G : va_G) (cA cL cD : ClassId) (ad0 ad1 : Nat → Nat) (ou od : Nat) (σ τ : RS) (fo : Nat → Int64) (fd : Nat → UInt64) (H : Heap) : Prop := va_P G vwCl (w0 ad0 cA σ) H ∧ va_P G vwCl (w1 ad1 cA τ) H ∧ va_P G vwCl (wO ou cL fo) H ∧ va_P G vwCl (wD od cD fd) H
abbrev AL (s : State) : Nat → Prop := fun q => s.heap.size ≤ q
theorem w0_kept {G : va_G} {cA : ClassId} {ad : Nat → Nat} {σ : RS} {H H1 : Heap} {own : Nat → Prop} (hP : va_P G vwCl (w0 ad cA σ) H) (hno : ∀ z, own8 ad z → ¬ own z) (hk : ∀ q : Nat, q < H.size → ¬ own q → H1[q]? = H[q]?) : va_P G vwCl (w0 ad cA σ) H1 := hP.kept (fun k q hq => by
  obtain ⟨a1, a2⟩ := w0_len hq
  exact hk q.1 (hP k q hq).lt (hno _ ⟨k, a1, a2⟩))
theorem w1_keptM {G : va_G} {cA : ClassId} {ad : Nat → Nat} {σ : RS} {H H1 : Heap} {own : Nat → Prop} (hP : va_P G vwCl (w1 ad cA σ) H) (hno : ∀ z, own8 ad z → ¬ own z) (hk : ∀ q : Nat, q < H.size → ¬ own q → H1[q]? = H[q]?) : va_P G vwCl (w1 ad cA σ) H1 := hP.kept (fun k q hq => by
  obtain ⟨a1, a2⟩ := w1_len hq
  exact hk q.1 (hP k q hq).lt (hno _ ⟨k, a1, a2⟩))
section LR
variable {p : Program} {l : Launch} {e : Env} {R : Room} {s : State} {m : MethodId} {args : Array Value} {below : List Frame} {meth : Method} {c : Code} {H : Heap} {locs : List Loc} {cells slots : Nat} {Q : State → Prop}
variable {cc : ByteArray} {pc nL : Nat} {ls : Array Slot} {rest st : List Value} {G : va_G} {cA cL cD : ClassId} {ad0 ad1 : Nat → Nat} {σ τ : RS} {fo : Nat → Int64} {fd : Nat → UInt64} {ou od bx L : Nat} {xs : Nat → Int32} {own : String}
theorem x_sld (CF : CallFix p m c cc nL s args AW own) (hL : LX l G cA cL cD ad0 ad1 ou od bx L xs s) (hS : va_S (AL s) s.heap H locs) {i : Nat} {v : Int32} (hi : i < L) (hv : xs i = v) (hdg : decode cc pc = .ok (.iaload, 1)) (kk : W p l e R s m args below meth c H locs cells slots Q (F0 m (pc + 1) ls (.int v :: rest))) : W p l e R s m args below meth c H locs cells slots Q (F0 m pc ls (.int (nI i) :: .ref bx :: rest)) := by
  obtain ⟨hX, hbl, -, -, -, -, -, -, -, -, -, -, -, -, -, -, -, -, -, hL3⟩ := hL
  refine va_sld (A := AL s) CF.1 CF.2.1 hX hbl (by show ¬ s.heap.size ≤ bx; omega) hS (vp_in_nI hi (by omega)) hdg ?_
  rw [nI_clamp (show i < 2 ^ 31 by omega), hv]
  exact kk
theorem x_slen (CF : CallFix p m c cc nL s args AW own) (hL : LX l G cA cL cD ad0 ad1 ou od bx L xs s) (hS : va_S (AL s) s.heap H locs) (hdg : decode cc pc = .ok (.arraylength, 1)) (kk : W p l e R s m args below meth c H locs cells slots Q (F0 m (pc + 1) ls (.int (nI L) :: rest))) : W p l e R s m args below meth c H locs cells slots Q (F0 m pc ls (.ref bx :: rest)) := by
  obtain ⟨hX, hbl, -⟩ := hL
  exact va_slen (A := AL s) CF.1 CF.2.1 hX hbl (by show ¬ s.heap.size ≤ bx; omega) hS hdg kk
theorem x_lald (CF : CallFix p m c cc nL s args AW own) (hL : LX l G cA cL cD ad0 ad1 ou od bx L xs s) (hS : va_S (AL s) s.heap H locs) (hH : LH G cA cL cD ad0 ad1 ou od σ τ fo fd H) {v : Int64} (hv : fo 0 = v) (hdg : decode cc pc = .ok (.laload, 1)) (kk : W p l e R s m args below meth c H locs cells slots Q (F0 m (pc + 1) ls (.long v :: rest))) : W p l e R s m args below meth c H locs cells slots Q (F0 m pc ls (.int (nI 0) :: .ref ou :: rest)) := by
  refine va_lald (D := G) CF.1 CF.2.1 hL.2.2.2.1 hH.2.2.1 0 0 rfl rfl (vp_in_nI (by decide) (by decide)) hdg ?_
  rw [show (nI 0).toNatClampNeg = 0 by decide, hv]
  exact kk
theorem x_dald (CF : CallFix p m c cc nL s args AW own) (hL : LX l G cA cL cD ad0 ad1 ou od bx L xs s) (hS : va_S (AL s) s.heap H locs) (hH : LH G cA cL cD ad0 ad1 ou od σ τ fo fd H) {v : UInt64} (hv : fd 0 = v) (hdg : decode cc pc = .ok (.daload, 1)) (kk : W p l e R s m args below meth c H locs cells slots Q (F0 m (pc + 1) ls (.double v :: rest))) : W p l e R s m args below meth c H locs cells slots Q (F0 m pc ls (.int (nI 0) :: .ref od :: rest)) := by
  refine va_dald (D := G) CF.1 CF.2.1 hL.2.2.2.2.1 hH.2.2.2 0 0 rfl rfl (vp_in_nI (by decide) (by decide)) hdg ?_
  rw [show (nI 0).toNatClampNeg = 0 by decide, hv]
  exact kk
theorem k_W (CF : CallFix p m c cc nL s args AW own) (hL : LX l G cA cL cD ad0 ad1 ou od bx L xs s) (hS : va_S (AL s) s.heap H locs) (hH : LH G cA cL cD ad0 ad1 ou od σ τ fo fd H) {ret : Option FieldType} {y : MethodName} {b9 : ByteArray} {maxL idx k n mc ms : Nat} {hh : List (Nat × Nat × Nat × Nat)} {As : List Value} {post : Int32 → RS × (Nat → Int64) → Prop} (hM : Met l y (wsW y b9 maxL ret hh) (rmk k mc ms) (pcW G cA ad0 σ ou cL fo As) (va_Qi post (fun u9 t9 => va_P G vwCl (w0 ad0 cA u9.1) t9.heap ∧ va_P G vwCl (wO ou cL u9.2) t9.heap) (ownW ad0 ou)) mc ms (ownW ad0 ou)) (lk : LkSW own idx y b9 maxL ret hh n) (hn : As.length = n) (hsz : ls.size = nL) (hR : k + 1 ≤ R.frames ∧ 8 + (maxL + 11) + 40 * k ≤ R.locals) (hC : cells + mc ≤ R.cells ∧ slots + ms ≤ R.slots) (hrm : (rest.map fun v => v.category).sum ≤ 8) (hst : st = As.reverse ++ rest) (hdg : decode cc pc = .ok (.invokestatic idx, 3)) (kk : ∀ (r : Int32) (u : RS × (Nat → Int64)) (H1 : Heap) (locs1 : List Loc), post r u → LH G cA cL cD ad0 ad1 ou od u.1 τ u.2 fd H1 → va_S (AL s) s.heap H1 locs1 → W p l e R s m args below meth c H1 locs1 (cells + mc) (slots + ms) Q (F0 m (pc + 3) ls (.int r :: rest))) : W p l e R s m args below meth c H locs cells slots Q (F0 m pc ls (st)) := by
  obtain ⟨hX, hbl, hK, hKL, hKD, hE, hj0, hj1, ha0, ha1, hou, hod, d01, d0o, d1o, d0d, d1d, dod, hfl, hL3⟩ := hL
  obtain ⟨h0, h1, h2, h3⟩ := hH
  refine va_calli (vx_runSW (As := As) (rest := rest) CF hM (vx_cwSW n CF.2.2.2.2 lk.good rfl rfl rfl lk.2.2.2.2 hR) ⟨pcW_blind, fun U hU hW => ⟨rfl, by rw [hU]; exact h0, by rw [hU]; exact h2, va_K.moved hW.alike hK, va_K.moved hW.alike hKL, by rw [hU]; exact EX_moved hW (EX_narrow (EX_kept hE (fun a h8 h9 => hS.2.1 a h8 h9)) ha0)⟩⟩ rfl hn hsz hst (lv_room hrm) hdg hC) hS (fun q _ h => h.elim (ha0 q) (fun z => by show s.heap.size ≤ q; omega)) (fun q h => h.elim (ha0 q) (fun z => by show s.heap.size ≤ q; omega)) (fun r u t H1 locs1 ht _ hp hB _ hk hS1 => ?_)
  rw [ht] at hB
  exact kk r u H1 locs1 hp ⟨hB.1, w1_keptM h1 (fun z hz hw => hw.elim (fun q => d01 z q hz) (fun q => d1o (q ▸ hz))) hk, hB.2, w1_kept h3 (own := ownW ad0 ou) (fun hw => hw.elim d0d (fun q => dod q.symm)) hk⟩ hS1
theorem k_WD (CF : CallFix p m c cc nL s args AW own) (hL : LX l G cA cL cD ad0 ad1 ou od bx L xs s) (hS : va_S (AL s) s.heap H locs) (hH : LH G cA cL cD ad0 ad1 ou od σ τ fo fd H) {ret : Option FieldType} {y : MethodName} {b9 : ByteArray} {maxL idx k n mc ms : Nat} {hh : List (Nat × Nat × Nat × Nat)} {As : List Value} {post : Int32 → RS × (Nat → UInt64) → Prop} (hM : Met l y (wsW y b9 maxL ret hh) (rmk k mc ms) (pcWD G cA ad0 σ od cD fd As) (va_Qi post (fun u9 t9 => va_P G vwCl (w0 ad0 cA u9.1) t9.heap ∧ va_P G vwCl (wD od cD u9.2) t9.heap) (ownW ad0 od)) mc ms (ownW ad0 od)) (lk : LkSW own idx y b9 maxL ret hh n) (hn : As.length = n) (hsz : ls.size = nL) (hR : k + 1 ≤ R.frames ∧ 8 + (maxL + 11) + 40 * k ≤ R.locals) (hC : cells + mc ≤ R.cells ∧ slots + ms ≤ R.slots) (hrm : (rest.map fun v => v.category).sum ≤ 8) (hst : st = As.reverse ++ rest) (hdg : decode cc pc = .ok (.invokestatic idx, 3)) (kk : ∀ (r : Int32) (u : RS × (Nat → UInt64)) (H1 : Heap) (locs1 : List Loc), post r u → LH G cA cL cD ad0 ad1 ou od u.1 τ fo u.2 H1 → va_S (AL s) s.heap H1 locs1 → W p l e R s m args below meth c H1 locs1 (cells + mc) (slots + ms) Q (F0 m (pc + 3) ls (.int r :: rest))) : W p l e R s m args below meth c H locs cells slots Q (F0 m pc ls (st)) := by
  obtain ⟨hX, hbl, hK, hKL, hKD, hE, hj0, hj1, ha0, ha1, hou, hod, d01, d0o, d1o, d0d, d1d, dod, hfl, hL3⟩ := hL
  obtain ⟨h0, h1, h2, h3⟩ := hH
  refine va_calli (vx_runSW (As := As) (rest := rest) CF hM (vx_cwSW n CF.2.2.2.2 lk.good rfl rfl rfl lk.2.2.2.2 hR) ⟨pcWD_blind, fun U hU hW => ⟨rfl, by rw [hU]; exact h0, by rw [hU]; exact h3, va_K.moved hW.alike hK, va_K.moved hW.alike hKD, by rw [hU]; exact EX_moved hW (EX_narrow (EX_kept hE (fun a h8 h9 => hS.2.1 a h8 h9)) ha0)⟩⟩ rfl hn hsz hst (lv_room hrm) hdg hC) hS (fun q _ h => h.elim (ha0 q) (fun z => by show s.heap.size ≤ q; omega)) (fun q h => h.elim (ha0 q) (fun z => by show s.heap.size ≤ q; omega)) (fun r u t H1 locs1 ht _ hp hB _ hk hS1 => ?_)
  rw [ht] at hB
  exact kk r u H1 locs1 hp ⟨hB.1, w1_keptM h1 (fun z hz hw => hw.elim (fun q => d01 z q hz) (fun q => d1d (q ▸ hz))) hk, w1_kept h2 (own := ownW ad0 od) (fun hw => hw.elim d0o (fun q => dod q)) hk, hB.2⟩ hS1
theorem k_Mi (CF : CallFix p m c cc nL s args AW own) (hL : LX l G cA cL cD ad0 ad1 ou od bx L xs s) (hS : va_S (AL s) s.heap H locs) (hH : LH G cA cL cD ad0 ad1 ou od σ τ fo fd H) {ret : Option FieldType} {y : MethodName} {b9 : ByteArray} {maxL idx k n mc ms : Nat} {As : List Value} {post : Int32 → RS → Prop} (hM : Met l y (ws_ y b9 maxL ret) (rmk k mc ms) (pc1 G cA ad1 τ (.ref (ad1 0) :: As)) (va_Qi post (fun σ' t => va_P G vwCl (w1 ad1 cA σ') t.heap) (own8 ad1)) mc ms (own8 ad1)) (hcl : y.cls = RX1) (lk : LkV own idx y b9 maxL ret n) (hn : As.length = n) (hsz : ls.size = nL) (hR : k + 1 ≤ R.frames ∧ 8 + (maxL + 11) + 40 * k ≤ R.locals) (hC : cells + mc ≤ R.cells ∧ slots + ms ≤ R.slots) (hrm : (rest.map fun v => v.category).sum ≤ 8) (hst : st = As.reverse ++ .ref (ad1 0) :: rest) (hdg : decode cc pc = .ok (.invokevirtual idx, 3)) (kk : ∀ (r : Int32) (τ' : RS) (H1 : Heap) (locs1 : List Loc), post r τ' → LH G cA cL cD ad0 ad1 ou od σ τ' fo fd H1 → va_S (AL s) s.heap H1 locs1 → W p l e R s m args below meth c H1 locs1 (cells + mc) (slots + ms) Q (F0 m (pc + 3) ls (.int r :: rest))) : W p l e R s m args below meth c H locs cells slots Q (F0 m pc ls (st)) := by
  obtain ⟨hX, hbl, hK, hKL, hKD, hE, hj0, hj1, ha0, ha1, hou, hod, d01, d0o, d1o, d0d, d1d, dod, hfl, hL3⟩ := hL
  obtain ⟨h0, h1, h2, h3⟩ := hH
  refine va_calli (va_runV (As := As) (rest := rest) CF hM (cwV n CF.2.2.2.2 lk.good rfl rfl rfl ⟨rfl, lk.2.2.2.2.2⟩ hR) ⟨pc1_blind, by rw [hcl]; exact va_recv hK h1 (ci := 1) (q0 := 0) rfl rfl, fun U hU hW => ⟨rfl, by rw [hU]; exact h1, va_K.moved hW.alike hK⟩⟩ rfl hn hsz hst (lv_room hrm) hdg hC) hS (fun q _ h => ha1 q h) ha1 (fun r τ' t H1 locs1 ht _ hp hB _ hk hS1 => ?_)
  rw [ht] at hB
  exact kk r τ' H1 locs1 hp ⟨w0_kept h0 (fun z hz => d01 z hz) hk, hB, w1_kept h2 (own := own8 ad1) d1o hk, w1_kept h3 (own := own8 ad1) d1d hk⟩ hS1
theorem k_Ml (CF : CallFix p m c cc nL s args AW own) (hL : LX l G cA cL cD ad0 ad1 ou od bx L xs s) (hS : va_S (AL s) s.heap H locs) (hH : LH G cA cL cD ad0 ad1 ou od σ τ fo fd H) {ret : Option FieldType} {y : MethodName} {b9 : ByteArray} {maxL idx k n mc ms : Nat} {As : List Value} {post : Int64 → RS → Prop} (hM : Met l y (ws_ y b9 maxL ret) (rmk k mc ms) (pc1 G cA ad1 τ (.ref (ad1 0) :: As)) (va_Ql post (fun σ' t => va_P G vwCl (w1 ad1 cA σ') t.heap) (own8 ad1)) mc ms (own8 ad1)) (hcl : y.cls = RX1) (lk : LkV own idx y b9 maxL ret n) (hn : As.length = n) (hsz : ls.size = nL) (hR : k + 1 ≤ R.frames ∧ 8 + (maxL + 11) + 40 * k ≤ R.locals) (hC : cells + mc ≤ R.cells ∧ slots + ms ≤ R.slots) (hrm : (rest.map fun v => v.category).sum ≤ 8) (hst : st = As.reverse ++ .ref (ad1 0) :: rest) (hdg : decode cc pc = .ok (.invokevirtual idx, 3)) (kk : ∀ (r : Int64) (τ' : RS) (H1 : Heap) (locs1 : List Loc), post r τ' → LH G cA cL cD ad0 ad1 ou od σ τ' fo fd H1 → va_S (AL s) s.heap H1 locs1 → W p l e R s m args below meth c H1 locs1 (cells + mc) (slots + ms) Q (F0 m (pc + 3) ls (.long r :: rest))) : W p l e R s m args below meth c H locs cells slots Q (F0 m pc ls (st)) := by
  obtain ⟨hX, hbl, hK, hKL, hKD, hE, hj0, hj1, ha0, ha1, hou, hod, d01, d0o, d1o, d0d, d1d, dod, hfl, hL3⟩ := hL
  obtain ⟨h0, h1, h2, h3⟩ := hH
  refine va_calll (va_runV (As := As) (rest := rest) CF hM (cwV n CF.2.2.2.2 lk.good rfl rfl rfl ⟨rfl, lk.2.2.2.2.2⟩ hR) ⟨pc1_blind, by rw [hcl]; exact va_recv hK h1 (ci := 1) (q0 := 0) rfl rfl, fun U hU hW => ⟨rfl, by rw [hU]; exact h1, va_K.moved hW.alike hK⟩⟩ rfl hn hsz hst (lv_room hrm) hdg hC) hS (fun q _ h => ha1 q h) ha1 (fun r τ' t H1 locs1 ht _ hp hB _ hk hS1 => ?_)
  rw [ht] at hB
  exact kk r τ' H1 locs1 hp ⟨w0_kept h0 (fun z hz => d01 z hz) hk, hB, w1_kept h2 (own := own8 ad1) d1o hk, w1_kept h3 (own := own8 ad1) d1d hk⟩ hS1
theorem k_Md (CF : CallFix p m c cc nL s args AW own) (hL : LX l G cA cL cD ad0 ad1 ou od bx L xs s) (hS : va_S (AL s) s.heap H locs) (hH : LH G cA cL cD ad0 ad1 ou od σ τ fo fd H) {ret : Option FieldType} {y : MethodName} {b9 : ByteArray} {maxL idx k n mc ms : Nat} {As : List Value} {post : UInt64 → RS → Prop} (hM : Met l y (ws_ y b9 maxL ret) (rmk k mc ms) (pc1 G cA ad1 τ (.ref (ad1 0) :: As)) (va_Qd post (fun σ' t => va_P G vwCl (w1 ad1 cA σ') t.heap) (own8 ad1)) mc ms (own8 ad1)) (hcl : y.cls = RX1) (lk : LkV own idx y b9 maxL ret n) (hn : As.length = n) (hsz : ls.size = nL) (hR : k + 1 ≤ R.frames ∧ 8 + (maxL + 11) + 40 * k ≤ R.locals) (hC : cells + mc ≤ R.cells ∧ slots + ms ≤ R.slots) (hrm : (rest.map fun v => v.category).sum ≤ 8) (hst : st = As.reverse ++ .ref (ad1 0) :: rest) (hdg : decode cc pc = .ok (.invokevirtual idx, 3)) (kk : ∀ (r : UInt64) (τ' : RS) (H1 : Heap) (locs1 : List Loc), post r τ' → LH G cA cL cD ad0 ad1 ou od σ τ' fo fd H1 → va_S (AL s) s.heap H1 locs1 → W p l e R s m args below meth c H1 locs1 (cells + mc) (slots + ms) Q (F0 m (pc + 3) ls (.double r :: rest))) : W p l e R s m args below meth c H locs cells slots Q (F0 m pc ls (st)) := by
  obtain ⟨hX, hbl, hK, hKL, hKD, hE, hj0, hj1, ha0, ha1, hou, hod, d01, d0o, d1o, d0d, d1d, dod, hfl, hL3⟩ := hL
  obtain ⟨h0, h1, h2, h3⟩ := hH
  refine va_calld (va_runV (As := As) (rest := rest) CF hM (cwV n CF.2.2.2.2 lk.good rfl rfl rfl ⟨rfl, lk.2.2.2.2.2⟩ hR) ⟨pc1_blind, by rw [hcl]; exact va_recv hK h1 (ci := 1) (q0 := 0) rfl rfl, fun U hU hW => ⟨rfl, by rw [hU]; exact h1, va_K.moved hW.alike hK⟩⟩ rfl hn hsz hst (lv_room hrm) hdg hC) hS (fun q _ h => ha1 q h) ha1 (fun r τ' t H1 locs1 ht _ hp hB _ hk hS1 => ?_)
  rw [ht] at hB
  exact kk r τ' H1 locs1 hp ⟨w0_kept h0 (fun z hz => d01 z hz) hk, hB, w1_kept h2 (own := own8 ad1) d1o hk, w1_kept h3 (own := own8 ad1) d1d hk⟩ hS1
theorem k_C (CF : CallFix p m c cc nL s args AW own) (hL : LX l G cA cL cD ad0 ad1 ou od bx L xs s) (hS : va_S (AL s) s.heap H locs) (hH : LH G cA cL cD ad0 ad1 ou od σ τ fo fd H) {ret : Option FieldType} {y : MethodName} {b9 : ByteArray} {maxL idx k n mc ms : Nat} {As : List Value} {post : Int32 → RS → Prop} (hM : Met l y (ws_ y b9 maxL ret) (rmk k mc ms) (pc0 G cA ad0 σ (.ref (ad0 0) :: As)) (va_Qi post (fun σ' t => va_P G vwCl (w0 ad0 cA σ') t.heap) (own8 ad0)) mc ms (own8 ad0)) (hcl : y.cls = RX0) (lk : LkV own idx y b9 maxL ret n) (hn : As.length = n) (hsz : ls.size = nL) (hR : k + 1 ≤ R.frames ∧ 8 + (maxL + 11) + 40 * k ≤ R.locals) (hC : cells + mc ≤ R.cells ∧ slots + ms ≤ R.slots) (hrm : (rest.map fun v => v.category).sum ≤ 8) (hst : st = As.reverse ++ .ref (ad0 0) :: rest) (hdg : decode cc pc = .ok (.invokevirtual idx, 3)) (kk : ∀ (r : Int32) (σ' : RS) (H1 : Heap) (locs1 : List Loc), post r σ' → LH G cA cL cD ad0 ad1 ou od σ' τ fo fd H1 → va_S (AL s) s.heap H1 locs1 → W p l e R s m args below meth c H1 locs1 (cells + mc) (slots + ms) Q (F0 m (pc + 3) ls (.int r :: rest))) : W p l e R s m args below meth c H locs cells slots Q (F0 m pc ls (st)) := by
  obtain ⟨hX, hbl, hK, hKL, hKD, hE, hj0, hj1, ha0, ha1, hou, hod, d01, d0o, d1o, d0d, d1d, dod, hfl, hL3⟩ := hL
  obtain ⟨h0, h1, h2, h3⟩ := hH
  refine va_calli (va_runV (As := As) (rest := rest) CF hM (cwV n CF.2.2.2.2 lk.good rfl rfl rfl ⟨rfl, lk.2.2.2.2.2⟩ hR) ⟨pc0_blind, by rw [hcl]; exact va_recv hK h0 (ci := 0) (q0 := 0) rfl rfl, fun U hU hW => ⟨rfl, by rw [hU]; exact h0, va_K.moved hW.alike hK⟩⟩ rfl hn hsz hst (lv_room hrm) hdg hC) hS (fun q _ h => ha0 q h) ha0 (fun r σ' t H1 locs1 ht _ hp hB _ hk hS1 => ?_)
  rw [ht] at hB
  exact kk r σ' H1 locs1 hp ⟨hB, w1_keptM h1 (fun z hz hw => d01 z hw hz) hk, w1_kept h2 (own := own8 ad0) d0o hk, w1_kept h3 (own := own8 ad0) d0d hk⟩ hS1
end LR
theorem ord_self {X : FP.Core.Datum} (h : X ≠ .nan) : FP.Core.order X X = some .eq := by
  cases X with
  | nan => exact absurd rfl h
  | inf s => cases s <;> decide
  | fin s c q =>
    show some (compare _ _) = some Ordering.eq
    simp
theorem mn_self {b : BS} {t : Nat} (hc : b 0 2 ≤ 6) : FP.dcmp (mnD b t) (mnD b t) = some .eq := by
  refine ord_self ?_
  unfold mnD
  split
  · decide +kernel
  · next h =>
    have hY : finD (FP.Core.decode FP.Core.b64 (FP.Core.i2d (nI (b 0 2))).toNat) = true := by
      rcases (show b 0 2 = 1 ∨ b 0 2 = 2 ∨ b 0 2 = 3 ∨ b 0 2 = 4 ∨ b 0 2 = 5 ∨ b 0 2 = 6 by omega) with q | q | q | q | q | q <;> rw [q] <;> decide +kernel
    have hX : ∀ x : Int32, FP.Core.decode FP.Core.b64 (FP.Core.i2d x).toNat ≠ .nan := fun x => by
      refine okD_dec ?_
      have h := okD_enc (okD_ratio (decide (x.toInt < 0)) x.toInt.natAbs 1 0)
      show (UInt64.ofNat (FP.Core.encode FP.Core.b64 (FP.Core.roundRatio FP.Core.b64 (decide (x.toInt < 0)) x.toInt.natAbs 1 0))).toNat % _ ≤ _
      rw [UInt64.toNat_ofNat', Nat.mod_eq_of_lt h.2]
      exact h.1
    refine okD_dec ?_
    have h := okD_enc (okD_quot (hX (nI (alls b t (b 0 2)))) hY)
    show (UInt64.ofNat (FP.Core.encode FP.Core.b64 (FP.Core.quotient FP.Core.b64 (FP.Core.decode FP.Core.b64 (FP.Core.i2d (nI (alls b t (b 0 2)))).toNat) (FP.Core.decode FP.Core.b64 (FP.Core.i2d (nI (b 0 2))).toNat)))).toNat % _ ≤ _
    rw [UInt64.toNat_ofNat', Nat.mod_eq_of_lt h.2]
    exact h.1
