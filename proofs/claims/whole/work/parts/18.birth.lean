theorem W_old {p : Program} {l : Launch} {e : Env} {R : Room} {s : State} {m : MethodId} {args : Array Value} {below : List Frame} {meth : Method} {c : Code} {H : Heap} {locs : List Loc} {cells slots : Nat} {Q : State → Prop} {g : JFrame} {free : Nat → Prop} (hS : va_S (fun q => free q ∨ s.heap.size ≤ q) s.heap H locs) (kk : ∀ locs', va_S free s.heap H locs' → W p l e R s m args below meth c H locs' cells slots Q g) : W p l e R s m args below meth c H locs cells slots Q g := by
  refine fun T hT X => kk (locs.filter (fun q => decide (q.base < s.heap.size))) ⟨hS.1, fun q h1 h2 => hS.2.1 q h1 (fun h => h.elim h2 (fun h => absurd h1 (by omega))), fun q hq => ?_⟩ T hT { X with same := X.same.weaken (fun y hy hlt => List.mem_filter.mpr ⟨hy, decide_eq_true hlt⟩) (Nat.le_refl _) (Nat.le_refl _) }
  obtain ⟨a, b⟩ := List.mem_filter.mp hq
  exact (hS.2.2 q a).resolve_right (Nat.not_le.mpr (of_decide_eq_true b))
theorem ra_one {U : State} {a b : ClassId} (h1 : va_RA U a .int) (h2 : va_RA U b .int) : b = a := by
  have h1 : U.vm.findClass ("[" ++ FieldType.int.toString) = some a := h1
  have h2 : U.vm.findClass ("[" ++ FieldType.int.toString) = some b := h2
  exact Option.some.inj (h2.symm.trans h1)
/-- the booth at its start -/
def bs0 : BS := fun k _ => if k = 2 then 1000 else if k = 4 then 9999 else 0
theorem InvC_0 : InvC bs0 := by
  refine ⟨by decide, by decide, fun i hi => by simp [bs0], fun i hi => by simp [bs0], fun i hi => by simp [bs0], fun i hi => by simp [bs0]⟩
theorem InvO_0 : InvO bs0 := ⟨by decide, fun p hp => absurd hp (by simp [bs0])⟩
def ad8 (x q1 q2 q3 q4 q5 q6 q7 : Nat) : Nat → Nat := fun i => match i with | 0 => x | 1 => q1 | 2 => q2 | 3 => q3 | 4 => q4 | 5 => q5 | 6 => q6 | _ => q7
/-- what a birth gives -/
def bornP (x sz : Nat) (u : ClassId × (Nat → Nat) × RS) : Prop := u.2.1 0 = x ∧ (∀ i, 1 ≤ i → i < 8 → sz ≤ u.2.1 i) ∧ inj8 u.2.1 ∧ Rc u.2.2 bs0 ∧ Ro u.2.2 bs0
/-- stocks and limits set for n moneys -/
def bnI (n : Nat) : RS := fun k j => if k = 2 ∧ j < n then nI 1000 else if k = 4 ∧ j < n then nI 9999 else 0
theorem bnI_s {σ1 σ2 : RS} {n : Nat} (h1 : σ1 = up (bnI n) 2 n (nI 1000)) (h2 : σ2 = up σ1 4 n (nI 9999)) : σ2 = bnI (n + 1) := by
  subst h1; subst h2
  funext k j
  by_cases h4 : k = 4
  · subst h4
    by_cases hj : j = n
    · subst hj; rw [up_s]; unfold bnI; rw [if_neg (by omega), if_pos ⟨rfl, by omega⟩]
    · rw [up_i hj, up_k (by decide)]; unfold bnI
      by_cases h : j < n
      · have h9 : j < n + 1 := by omega
        simp [h, h9]
      · have h9 : ¬ j < n + 1 := by omega
        simp [h, h9]
  · rw [up_k h4]
    by_cases h2 : k = 2
    · subst h2
      by_cases hj : j = n
      · subst hj; rw [up_s]; unfold bnI; rw [if_pos ⟨rfl, by omega⟩]
      · rw [up_i hj]; unfold bnI
        by_cases h : j < n
        · rw [if_pos ⟨rfl, h⟩, if_pos ⟨rfl, by omega⟩]
        · rw [if_neg (by omega), if_neg (by omega), if_neg (by omega), if_neg (by omega)]
    · rw [up_k h2]; unfold bnI
      rw [if_neg (by omega), if_neg (by omega), if_neg (by omega), if_neg (by omega)]
theorem n0I : (0 : Int32) = nI 0 := rfl
theorem bn_R {σ : RS} (h : ∀ k j, (k = 2 → j < 5 → σ k j = nI 1000) ∧ (k = 4 → j < 5 → σ k j = nI 9999) ∧ (k ≠ 2 → k ≠ 4 → σ k j = nI 0)) : Rc σ bs0 ∧ Ro σ bs0 := by
  have z : ∀ k j, k ≠ 2 → k ≠ 4 → σ k j = nI (bs0 k j) := fun k j h2 h4 => by
    rw [(h k j).2.2 h2 h4]; unfold bs0; rw [if_neg h2, if_neg h4]
  refine ⟨⟨z 0 0 (by decide) (by decide), z 0 1 (by decide) (by decide), z 0 2 (by decide) (by decide), z 0 4 (by decide) (by decide), fun k i h1 h2 h3 => ?_⟩, z 0 3 (by decide) (by decide), z 0 5 (by decide) (by decide), fun i hi => z 7 i (by decide) (by decide)⟩
  by_cases k2 : k = 2
  · subst k2; exact (h 2 i).1 rfl h3
  by_cases k4 : k = 4
  · subst k4; exact (h 4 i).2.1 rfl h3
  · exact z k i k2 k4
theorem bnI_R {σ : RS} (h : σ = bnI 5) : Rc σ bs0 ∧ Ro σ bs0 := by
  subst h
  refine bn_R (fun k j => ⟨fun h1 h2 => ?_, fun h1 h2 => ?_, fun h1 h2 => ?_⟩)
  · unfold bnI; rw [if_pos ⟨h1, h2⟩]
  · unfold bnI; rw [if_neg (by omega), if_pos ⟨h1, h2⟩]
  · unfold bnI; rw [if_neg (by omega), if_neg (by omega)]; rfl
theorem ad8_fr {x q1 q2 q3 q4 q5 q6 q7 n : Nat} (h1 : n ≤ q1) (h2 : n ≤ q2) (h3 : n ≤ q3) (h4 : n ≤ q4) (h5 : n ≤ q5) (h6 : n ≤ q6) (h7 : n ≤ q7) : ∀ i, 1 ≤ i → i < 8 → n ≤ ad8 x q1 q2 q3 q4 q5 q6 q7 i := fun i a b => by
  rcases (show i = 1 ∨ i = 2 ∨ i = 3 ∨ i = 4 ∨ i = 5 ∨ i = 6 ∨ i = 7 by omega) with rfl | rfl | rfl | rfl | rfl | rfl | rfl <;> assumption
def c5 (v : Int32) : Nat → Int32 := upd (upd (upd (upd (upd (fun _ => 0) 0 v) 1 v) 2 v) 3 v) 4 v
theorem c5_at {v : Int32} {j : Nat} (h : j < 5) : c5 v j = v := by rcases (show j = 0 ∨ j = 1 ∨ j = 2 ∨ j = 3 ∨ j = 4 by omega) with rfl | rfl | rfl | rfl | rfl <;> rfl
def sgm (f1 f2 f3 f4 f5 f6 f7 : Nat → Int32) : RS := fun k => match k with | 0 => fun _ => 0 | 1 => f1 | 2 => f2 | 3 => f3 | 4 => f4 | 5 => f5 | 6 => f6 | 7 => f7 | _ => fun _ => 0
set_option maxHeartbeats 1000000 in
set_option maxRecDepth 100000 in
theorem c0_init (l : Launch) {G : va_G} (x sz : Nat) : Met l yX0_init (ws_ yX0_init cX0_init 2 none) (rmk 4 7 125) (va_Pc [.ref x] (fun U => U.heap.size = sz ∧ va_P G vwCl [(x, .inr (0, [.null, .null, .null, .null, .null, .null, .null, .int 0, .int 0, .int 0, .int 0, .int 0, .int 0]))] U.heap ∧ va_K G vwCl [] U)) (va_Qv (bornP x sz) (fun u t => va_P G vwCl (w0 u.2.1 u.1 u.2.2) t.heap ∧ KK G u.1 t) (fun q => q = x)) 7 125 (fun q => q = x) := by
  refine Met.ofW (cc := cX0_init) (maxL := 2) (ret := none) (by decide) rfl ?_
  intro p e s m args below meth c s₁ B hml hv
  obtain ⟨rfl, hsz, hP, hK⟩ := hv
  subst hsz
  have CF : CallFix p m c cX0_init 2 s _ AW RX0 := ⟨B.exec, B.bytes, hml, findClass_of_methodNamed B.named, fun w h => atoms_spec (ws := ws_ yX0_init cX0_init 2 none) B.pre w (List.mem_cons_of_mem _ h)⟩
  have hr := B.returns
  have hlocks := B.notSynchronized
  have hin : meth.name = "<init>" := (name_of_methodNamed B.named B.method).1
  have hxs : x < s.heap.size := (hP 0 _ rfl).lt
  generalize hAe : (fun q => q = x ∨ s.heap.size ≤ q) = A
  have hA : ∀ q : Nat, s.heap.size ≤ q → A q := fun q h => by rw [← hAe]; exact Or.inr h
  have hAx : A x := by rw [← hAe]; exact Or.inl rfl
  have hD : va_D A [(x, .inr (0, [.null, .null, .null, .null, .null, .null, .null, .int 0, .int 0, .int 0, .int 0, .int 0, .int 0]))] := by
    refine ⟨fun i j p q hi hj _ => ?_, fun k q hk => ?_⟩
    · have h1 := (List.getElem?_eq_some_iff.mp hi).1; have h2 := (List.getElem?_eq_some_iff.mp hj).1; simp at h1 h2; omega
    · have h1 := (List.getElem?_eq_some_iff.mp hk).1; obtain rfl : k = 0 := by simp at h1; omega
      cases hk; exact hAx
  have hS : va_S A s.heap s.heap [] := va_S.rf
  have hP : va_P G vwCl [(x, .inr (0, [.null, .null, .null, .null, .null, .null, .null, .int 0, .int 0, .int 0, .int 0, .int 0, .int 0]))] s.heap := hP
  have hl := lv_entry ([.ref x]) (n := 2) (Nat.le_of_ble_eq_true rfl)
  rw [lg_entry_eq]
  generalize (lg_sl ([.ref x]) ++ List.replicate (2 - (lg_sl ([.ref x])).length) Slot.unset).toArray = ls at hl ⊢
  have hl : lv_has ls 2 [(0, .ref x)] := hl
  refine lv_aload_n CF.1 CF.2.1 dX0_init_0 rfl (lv_at hl 0 rfl) ?_
  refine W.objInit CF.1 CF.2.1 CF.2.2.2.1 (CF.2.2.2.2 _ (inr_1 _ (List.mem_of_getElem? (i := 11) rfl))) (CF.2.2.2.2 _ (inr_1 _ (List.mem_of_getElem? (i := 12) rfl))) (CF.2.2.2.2 _ (inr_1 _ (List.mem_of_getElem? (i := 13) rfl))) rfl (by rw [hml]; exact hl.1) rfl dX0_init_1 (Nat.le_of_ble_eq_true rfl) (Nat.le_of_ble_eq_true rfl) ?_
  refine W.eq (g2 := F0 m 4 ls []) rfl ?_
  refine lv_aload_n CF.1 CF.2.1 dX0_init_4 rfl (lv_at hl 0 rfl) ?_
  refine lv_bipush (v := nI 25) CF.1 CF.2.1 dX0_init_5 (by decide) ?_
  refine va_newa (D := G) (ty := .int) (N' := 25) (a0 := (25, .inl (fun _ => 0))) CF.1 CF.2.1 (CF.2.2.2.2 _ (inr_1 _ (List.mem_of_getElem? (i := 14) rfl))) rfl hK hP hD hS hA (fun _ => rfl) (by decide) (by decide) (by decide) (Nat.le_of_ble_eq_true rfl) (Nat.le_of_ble_eq_true rfl) dX0_init_7 (fun q1 k1 H1 hK hP hD hS => ?_)
  have hK : va_K G vwCl [(k1, .int)] s := hK
  have hP : va_P G vwCl [(x, .inr (0, [.null, .null, .null, .null, .null, .null, .null, .int 0, .int 0, .int 0, .int 0, .int 0, .int 0])), (q1, .inl (k1, 25, .inl (fun _ => 0)))] H1 := hP
  have hD : va_D A [(x, .inr (0, [.null, .null, .null, .null, .null, .null, .null, .int 0, .int 0, .int 0, .int 0, .int 0, .int 0])), (q1, .inl (k1, 25, .inl (fun _ => 0)))] := hD
  refine va_putF (D := G) (ci := 0) (v := .ref q1) (ty := .array .int) (C := RX0) (T := TX0) (N := 13) CF.1 CF.2.1 CF.2.2.2.2 inlX0 tyX0 tyX0_ok nmX0 CF.2.2.2.1 hK hP hD hS 0 rfl rfl 0 (by decide) (CF.2.2.2.2 _ (inr_1 _ (List.mem_of_getElem? (i := 15) rfl))) (fun _ h9 => h9) rfl hin rfl (by decide +kernel) rfl rfl (Nat.le_of_ble_eq_true rfl) dX0_init_9 (fun H locs hP hD hS => ?_)
  have hP : va_P G vwCl [(x, .inr (0, [.ref q1, .null, .null, .null, .null, .null, .null, .int 0, .int 0, .int 0, .int 0, .int 0, .int 0])), (q1, .inl (k1, 25, .inl (fun _ => 0)))] H := hP
  have hD : va_D A [(x, .inr (0, [.ref q1, .null, .null, .null, .null, .null, .null, .int 0, .int 0, .int 0, .int 0, .int 0, .int 0])), (q1, .inl (k1, 25, .inl (fun _ => 0)))] := hD
  refine lv_aload_n CF.1 CF.2.1 dX0_init_12 rfl (lv_at hl 0 rfl) ?_
  refine lv_iconst (v := nI 5) CF.1 CF.2.1 dX0_init_13 (by decide) ?_
  refine va_newa (D := G) (ty := .int) (N' := 5) (a0 := (5, .inl (fun _ => 0))) CF.1 CF.2.1 (CF.2.2.2.2 _ (inr_1 _ (List.mem_of_getElem? (i := 14) rfl))) rfl hK hP hD hS hA (fun _ => rfl) (by decide) (by decide) (by decide) (Nat.le_of_ble_eq_true rfl) (Nat.le_of_ble_eq_true rfl) dX0_init_14 (fun q2 k2 H2 hK hP hD hS => ?_)
  have hK : va_K G vwCl [(k1, .int), (k2, .int)] s := hK
  have hP : va_P G vwCl [(x, .inr (0, [.ref q1, .null, .null, .null, .null, .null, .null, .int 0, .int 0, .int 0, .int 0, .int 0, .int 0])), (q1, .inl (k1, 25, .inl (fun _ => 0))), (q2, .inl (k2, 5, .inl (fun _ => 0)))] H2 := hP
  have hD : va_D A [(x, .inr (0, [.ref q1, .null, .null, .null, .null, .null, .null, .int 0, .int 0, .int 0, .int 0, .int 0, .int 0])), (q1, .inl (k1, 25, .inl (fun _ => 0))), (q2, .inl (k2, 5, .inl (fun _ => 0)))] := hD
  refine va_putF (D := G) (ci := 0) (v := .ref q2) (ty := .array .int) (C := RX0) (T := TX0) (N := 13) CF.1 CF.2.1 CF.2.2.2.2 inlX0 tyX0 tyX0_ok nmX0 CF.2.2.2.1 hK hP hD hS 0 rfl rfl 1 (by decide) (CF.2.2.2.2 _ (inr_1 _ (List.mem_of_getElem? (i := 16) rfl))) (fun _ h9 => h9) rfl hin rfl (by decide +kernel) rfl rfl (Nat.le_of_ble_eq_true rfl) dX0_init_16 (fun H locs hP hD hS => ?_)
  have hP : va_P G vwCl [(x, .inr (0, [.ref q1, .ref q2, .null, .null, .null, .null, .null, .int 0, .int 0, .int 0, .int 0, .int 0, .int 0])), (q1, .inl (k1, 25, .inl (fun _ => 0))), (q2, .inl (k2, 5, .inl (fun _ => 0)))] H := hP
  have hD : va_D A [(x, .inr (0, [.ref q1, .ref q2, .null, .null, .null, .null, .null, .int 0, .int 0, .int 0, .int 0, .int 0, .int 0])), (q1, .inl (k1, 25, .inl (fun _ => 0))), (q2, .inl (k2, 5, .inl (fun _ => 0)))] := hD
  refine lv_aload_n CF.1 CF.2.1 dX0_init_19 rfl (lv_at hl 0 rfl) ?_
  refine lv_iconst (v := nI 5) CF.1 CF.2.1 dX0_init_20 (by decide) ?_
  refine va_newa (D := G) (ty := .int) (N' := 5) (a0 := (5, .inl (fun _ => 0))) CF.1 CF.2.1 (CF.2.2.2.2 _ (inr_1 _ (List.mem_of_getElem? (i := 14) rfl))) rfl hK hP hD hS hA (fun _ => rfl) (by decide) (by decide) (by decide) (Nat.le_of_ble_eq_true rfl) (Nat.le_of_ble_eq_true rfl) dX0_init_21 (fun q3 k3 H3 hK hP hD hS => ?_)
  have hK : va_K G vwCl [(k1, .int), (k2, .int), (k3, .int)] s := hK
  have hP : va_P G vwCl [(x, .inr (0, [.ref q1, .ref q2, .null, .null, .null, .null, .null, .int 0, .int 0, .int 0, .int 0, .int 0, .int 0])), (q1, .inl (k1, 25, .inl (fun _ => 0))), (q2, .inl (k2, 5, .inl (fun _ => 0))), (q3, .inl (k3, 5, .inl (fun _ => 0)))] H3 := hP
  have hD : va_D A [(x, .inr (0, [.ref q1, .ref q2, .null, .null, .null, .null, .null, .int 0, .int 0, .int 0, .int 0, .int 0, .int 0])), (q1, .inl (k1, 25, .inl (fun _ => 0))), (q2, .inl (k2, 5, .inl (fun _ => 0))), (q3, .inl (k3, 5, .inl (fun _ => 0)))] := hD
  refine va_putF (D := G) (ci := 0) (v := .ref q3) (ty := .array .int) (C := RX0) (T := TX0) (N := 13) CF.1 CF.2.1 CF.2.2.2.2 inlX0 tyX0 tyX0_ok nmX0 CF.2.2.2.1 hK hP hD hS 0 rfl rfl 2 (by decide) (CF.2.2.2.2 _ (inr_1 _ (List.mem_of_getElem? (i := 17) rfl))) (fun _ h9 => h9) rfl hin rfl (by decide +kernel) rfl rfl (Nat.le_of_ble_eq_true rfl) dX0_init_23 (fun H locs hP hD hS => ?_)
  have hP : va_P G vwCl [(x, .inr (0, [.ref q1, .ref q2, .ref q3, .null, .null, .null, .null, .int 0, .int 0, .int 0, .int 0, .int 0, .int 0])), (q1, .inl (k1, 25, .inl (fun _ => 0))), (q2, .inl (k2, 5, .inl (fun _ => 0))), (q3, .inl (k3, 5, .inl (fun _ => 0)))] H := hP
  have hD : va_D A [(x, .inr (0, [.ref q1, .ref q2, .ref q3, .null, .null, .null, .null, .int 0, .int 0, .int 0, .int 0, .int 0, .int 0])), (q1, .inl (k1, 25, .inl (fun _ => 0))), (q2, .inl (k2, 5, .inl (fun _ => 0))), (q3, .inl (k3, 5, .inl (fun _ => 0)))] := hD
  refine lv_aload_n CF.1 CF.2.1 dX0_init_26 rfl (lv_at hl 0 rfl) ?_
  refine lv_iconst (v := nI 5) CF.1 CF.2.1 dX0_init_27 (by decide) ?_
  refine va_newa (D := G) (ty := .int) (N' := 5) (a0 := (5, .inl (fun _ => 0))) CF.1 CF.2.1 (CF.2.2.2.2 _ (inr_1 _ (List.mem_of_getElem? (i := 14) rfl))) rfl hK hP hD hS hA (fun _ => rfl) (by decide) (by decide) (by decide) (Nat.le_of_ble_eq_true rfl) (Nat.le_of_ble_eq_true rfl) dX0_init_28 (fun q4 k4 H4 hK hP hD hS => ?_)
  have hK : va_K G vwCl [(k1, .int), (k2, .int), (k3, .int), (k4, .int)] s := hK
  have hP : va_P G vwCl [(x, .inr (0, [.ref q1, .ref q2, .ref q3, .null, .null, .null, .null, .int 0, .int 0, .int 0, .int 0, .int 0, .int 0])), (q1, .inl (k1, 25, .inl (fun _ => 0))), (q2, .inl (k2, 5, .inl (fun _ => 0))), (q3, .inl (k3, 5, .inl (fun _ => 0))), (q4, .inl (k4, 5, .inl (fun _ => 0)))] H4 := hP
  have hD : va_D A [(x, .inr (0, [.ref q1, .ref q2, .ref q3, .null, .null, .null, .null, .int 0, .int 0, .int 0, .int 0, .int 0, .int 0])), (q1, .inl (k1, 25, .inl (fun _ => 0))), (q2, .inl (k2, 5, .inl (fun _ => 0))), (q3, .inl (k3, 5, .inl (fun _ => 0))), (q4, .inl (k4, 5, .inl (fun _ => 0)))] := hD
  refine va_putF (D := G) (ci := 0) (v := .ref q4) (ty := .array .int) (C := RX0) (T := TX0) (N := 13) CF.1 CF.2.1 CF.2.2.2.2 inlX0 tyX0 tyX0_ok nmX0 CF.2.2.2.1 hK hP hD hS 0 rfl rfl 3 (by decide) (CF.2.2.2.2 _ (inr_1 _ (List.mem_of_getElem? (i := 18) rfl))) (fun _ h9 => h9) rfl hin rfl (by decide +kernel) rfl rfl (Nat.le_of_ble_eq_true rfl) dX0_init_30 (fun H locs hP hD hS => ?_)
  have hP : va_P G vwCl [(x, .inr (0, [.ref q1, .ref q2, .ref q3, .ref q4, .null, .null, .null, .int 0, .int 0, .int 0, .int 0, .int 0, .int 0])), (q1, .inl (k1, 25, .inl (fun _ => 0))), (q2, .inl (k2, 5, .inl (fun _ => 0))), (q3, .inl (k3, 5, .inl (fun _ => 0))), (q4, .inl (k4, 5, .inl (fun _ => 0)))] H := hP
  have hD : va_D A [(x, .inr (0, [.ref q1, .ref q2, .ref q3, .ref q4, .null, .null, .null, .int 0, .int 0, .int 0, .int 0, .int 0, .int 0])), (q1, .inl (k1, 25, .inl (fun _ => 0))), (q2, .inl (k2, 5, .inl (fun _ => 0))), (q3, .inl (k3, 5, .inl (fun _ => 0))), (q4, .inl (k4, 5, .inl (fun _ => 0)))] := hD
  refine lv_aload_n CF.1 CF.2.1 dX0_init_33 rfl (lv_at hl 0 rfl) ?_
  refine lv_iconst (v := nI 5) CF.1 CF.2.1 dX0_init_34 (by decide) ?_
  refine va_newa (D := G) (ty := .int) (N' := 5) (a0 := (5, .inl (fun _ => 0))) CF.1 CF.2.1 (CF.2.2.2.2 _ (inr_1 _ (List.mem_of_getElem? (i := 14) rfl))) rfl hK hP hD hS hA (fun _ => rfl) (by decide) (by decide) (by decide) (Nat.le_of_ble_eq_true rfl) (Nat.le_of_ble_eq_true rfl) dX0_init_35 (fun q5 k5 H5 hK hP hD hS => ?_)
  have hK : va_K G vwCl [(k1, .int), (k2, .int), (k3, .int), (k4, .int), (k5, .int)] s := hK
  have hP : va_P G vwCl [(x, .inr (0, [.ref q1, .ref q2, .ref q3, .ref q4, .null, .null, .null, .int 0, .int 0, .int 0, .int 0, .int 0, .int 0])), (q1, .inl (k1, 25, .inl (fun _ => 0))), (q2, .inl (k2, 5, .inl (fun _ => 0))), (q3, .inl (k3, 5, .inl (fun _ => 0))), (q4, .inl (k4, 5, .inl (fun _ => 0))), (q5, .inl (k5, 5, .inl (fun _ => 0)))] H5 := hP
  have hD : va_D A [(x, .inr (0, [.ref q1, .ref q2, .ref q3, .ref q4, .null, .null, .null, .int 0, .int 0, .int 0, .int 0, .int 0, .int 0])), (q1, .inl (k1, 25, .inl (fun _ => 0))), (q2, .inl (k2, 5, .inl (fun _ => 0))), (q3, .inl (k3, 5, .inl (fun _ => 0))), (q4, .inl (k4, 5, .inl (fun _ => 0))), (q5, .inl (k5, 5, .inl (fun _ => 0)))] := hD
  refine va_putF (D := G) (ci := 0) (v := .ref q5) (ty := .array .int) (C := RX0) (T := TX0) (N := 13) CF.1 CF.2.1 CF.2.2.2.2 inlX0 tyX0 tyX0_ok nmX0 CF.2.2.2.1 hK hP hD hS 0 rfl rfl 4 (by decide) (CF.2.2.2.2 _ (inr_1 _ (List.mem_of_getElem? (i := 19) rfl))) (fun _ h9 => h9) rfl hin rfl (by decide +kernel) rfl rfl (Nat.le_of_ble_eq_true rfl) dX0_init_37 (fun H locs hP hD hS => ?_)
  have hP : va_P G vwCl [(x, .inr (0, [.ref q1, .ref q2, .ref q3, .ref q4, .ref q5, .null, .null, .int 0, .int 0, .int 0, .int 0, .int 0, .int 0])), (q1, .inl (k1, 25, .inl (fun _ => 0))), (q2, .inl (k2, 5, .inl (fun _ => 0))), (q3, .inl (k3, 5, .inl (fun _ => 0))), (q4, .inl (k4, 5, .inl (fun _ => 0))), (q5, .inl (k5, 5, .inl (fun _ => 0)))] H := hP
  have hD : va_D A [(x, .inr (0, [.ref q1, .ref q2, .ref q3, .ref q4, .ref q5, .null, .null, .int 0, .int 0, .int 0, .int 0, .int 0, .int 0])), (q1, .inl (k1, 25, .inl (fun _ => 0))), (q2, .inl (k2, 5, .inl (fun _ => 0))), (q3, .inl (k3, 5, .inl (fun _ => 0))), (q4, .inl (k4, 5, .inl (fun _ => 0))), (q5, .inl (k5, 5, .inl (fun _ => 0)))] := hD
  refine lv_aload_n CF.1 CF.2.1 dX0_init_40 rfl (lv_at hl 0 rfl) ?_
  refine lv_bipush (v := nI 30) CF.1 CF.2.1 dX0_init_41 (by decide) ?_
  refine va_newa (D := G) (ty := .int) (N' := 30) (a0 := (30, .inl (fun _ => 0))) CF.1 CF.2.1 (CF.2.2.2.2 _ (inr_1 _ (List.mem_of_getElem? (i := 14) rfl))) rfl hK hP hD hS hA (fun _ => rfl) (by decide) (by decide) (by decide) (Nat.le_of_ble_eq_true rfl) (Nat.le_of_ble_eq_true rfl) dX0_init_43 (fun q6 k6 H6 hK hP hD hS => ?_)
  have hK : va_K G vwCl [(k1, .int), (k2, .int), (k3, .int), (k4, .int), (k5, .int), (k6, .int)] s := hK
  have hP : va_P G vwCl [(x, .inr (0, [.ref q1, .ref q2, .ref q3, .ref q4, .ref q5, .null, .null, .int 0, .int 0, .int 0, .int 0, .int 0, .int 0])), (q1, .inl (k1, 25, .inl (fun _ => 0))), (q2, .inl (k2, 5, .inl (fun _ => 0))), (q3, .inl (k3, 5, .inl (fun _ => 0))), (q4, .inl (k4, 5, .inl (fun _ => 0))), (q5, .inl (k5, 5, .inl (fun _ => 0))), (q6, .inl (k6, 30, .inl (fun _ => 0)))] H6 := hP
  have hD : va_D A [(x, .inr (0, [.ref q1, .ref q2, .ref q3, .ref q4, .ref q5, .null, .null, .int 0, .int 0, .int 0, .int 0, .int 0, .int 0])), (q1, .inl (k1, 25, .inl (fun _ => 0))), (q2, .inl (k2, 5, .inl (fun _ => 0))), (q3, .inl (k3, 5, .inl (fun _ => 0))), (q4, .inl (k4, 5, .inl (fun _ => 0))), (q5, .inl (k5, 5, .inl (fun _ => 0))), (q6, .inl (k6, 30, .inl (fun _ => 0)))] := hD
  refine va_putF (D := G) (ci := 0) (v := .ref q6) (ty := .array .int) (C := RX0) (T := TX0) (N := 13) CF.1 CF.2.1 CF.2.2.2.2 inlX0 tyX0 tyX0_ok nmX0 CF.2.2.2.1 hK hP hD hS 0 rfl rfl 5 (by decide) (CF.2.2.2.2 _ (inr_1 _ (List.mem_of_getElem? (i := 20) rfl))) (fun _ h9 => h9) rfl hin rfl (by decide +kernel) rfl rfl (Nat.le_of_ble_eq_true rfl) dX0_init_45 (fun H locs hP hD hS => ?_)
  have hP : va_P G vwCl [(x, .inr (0, [.ref q1, .ref q2, .ref q3, .ref q4, .ref q5, .ref q6, .null, .int 0, .int 0, .int 0, .int 0, .int 0, .int 0])), (q1, .inl (k1, 25, .inl (fun _ => 0))), (q2, .inl (k2, 5, .inl (fun _ => 0))), (q3, .inl (k3, 5, .inl (fun _ => 0))), (q4, .inl (k4, 5, .inl (fun _ => 0))), (q5, .inl (k5, 5, .inl (fun _ => 0))), (q6, .inl (k6, 30, .inl (fun _ => 0)))] H := hP
  have hD : va_D A [(x, .inr (0, [.ref q1, .ref q2, .ref q3, .ref q4, .ref q5, .ref q6, .null, .int 0, .int 0, .int 0, .int 0, .int 0, .int 0])), (q1, .inl (k1, 25, .inl (fun _ => 0))), (q2, .inl (k2, 5, .inl (fun _ => 0))), (q3, .inl (k3, 5, .inl (fun _ => 0))), (q4, .inl (k4, 5, .inl (fun _ => 0))), (q5, .inl (k5, 5, .inl (fun _ => 0))), (q6, .inl (k6, 30, .inl (fun _ => 0)))] := hD
  refine lv_aload_n CF.1 CF.2.1 dX0_init_48 rfl (lv_at hl 0 rfl) ?_
  refine lv_bipush (v := nI 50) CF.1 CF.2.1 dX0_init_49 (by decide) ?_
  refine va_newa (D := G) (ty := .int) (N' := 50) (a0 := (50, .inl (fun _ => 0))) CF.1 CF.2.1 (CF.2.2.2.2 _ (inr_1 _ (List.mem_of_getElem? (i := 14) rfl))) rfl hK hP hD hS hA (fun _ => rfl) (by decide) (by decide) (by decide) (Nat.le_of_ble_eq_true rfl) (Nat.le_of_ble_eq_true rfl) dX0_init_51 (fun q7 k7 H7 hK hP hD hS => ?_)
  have hK : va_K G vwCl [(k1, .int), (k2, .int), (k3, .int), (k4, .int), (k5, .int), (k6, .int), (k7, .int)] s := hK
  have hP : va_P G vwCl [(x, .inr (0, [.ref q1, .ref q2, .ref q3, .ref q4, .ref q5, .ref q6, .null, .int 0, .int 0, .int 0, .int 0, .int 0, .int 0])), (q1, .inl (k1, 25, .inl (fun _ => 0))), (q2, .inl (k2, 5, .inl (fun _ => 0))), (q3, .inl (k3, 5, .inl (fun _ => 0))), (q4, .inl (k4, 5, .inl (fun _ => 0))), (q5, .inl (k5, 5, .inl (fun _ => 0))), (q6, .inl (k6, 30, .inl (fun _ => 0))), (q7, .inl (k7, 50, .inl (fun _ => 0)))] H7 := hP
  have hD : va_D A [(x, .inr (0, [.ref q1, .ref q2, .ref q3, .ref q4, .ref q5, .ref q6, .null, .int 0, .int 0, .int 0, .int 0, .int 0, .int 0])), (q1, .inl (k1, 25, .inl (fun _ => 0))), (q2, .inl (k2, 5, .inl (fun _ => 0))), (q3, .inl (k3, 5, .inl (fun _ => 0))), (q4, .inl (k4, 5, .inl (fun _ => 0))), (q5, .inl (k5, 5, .inl (fun _ => 0))), (q6, .inl (k6, 30, .inl (fun _ => 0))), (q7, .inl (k7, 50, .inl (fun _ => 0)))] := hD
  refine va_putF (D := G) (ci := 0) (v := .ref q7) (ty := .array .int) (C := RX0) (T := TX0) (N := 13) CF.1 CF.2.1 CF.2.2.2.2 inlX0 tyX0 tyX0_ok nmX0 CF.2.2.2.1 hK hP hD hS 0 rfl rfl 6 (by decide) (CF.2.2.2.2 _ (inr_1 _ (List.mem_of_getElem? (i := 21) rfl))) (fun _ h9 => h9) rfl hin rfl (by decide +kernel) rfl rfl (Nat.le_of_ble_eq_true rfl) dX0_init_53 (fun H locs hP hD hS => ?_)
  have hP : va_P G vwCl [(x, .inr (0, [.ref q1, .ref q2, .ref q3, .ref q4, .ref q5, .ref q6, .ref q7, .int 0, .int 0, .int 0, .int 0, .int 0, .int 0])), (q1, .inl (k1, 25, .inl (fun _ => 0))), (q2, .inl (k2, 5, .inl (fun _ => 0))), (q3, .inl (k3, 5, .inl (fun _ => 0))), (q4, .inl (k4, 5, .inl (fun _ => 0))), (q5, .inl (k5, 5, .inl (fun _ => 0))), (q6, .inl (k6, 30, .inl (fun _ => 0))), (q7, .inl (k7, 50, .inl (fun _ => 0)))] H := hP
  have hD : va_D A [(x, .inr (0, [.ref q1, .ref q2, .ref q3, .ref q4, .ref q5, .ref q6, .ref q7, .int 0, .int 0, .int 0, .int 0, .int 0, .int 0])), (q1, .inl (k1, 25, .inl (fun _ => 0))), (q2, .inl (k2, 5, .inl (fun _ => 0))), (q3, .inl (k3, 5, .inl (fun _ => 0))), (q4, .inl (k4, 5, .inl (fun _ => 0))), (q5, .inl (k5, 5, .inl (fun _ => 0))), (q6, .inl (k6, 30, .inl (fun _ => 0))), (q7, .inl (k7, 50, .inl (fun _ => 0)))] := hD
  obtain rfl : k1 = k2 := (ra_one (hK.2 0 _ rfl).2 (hK.2 1 _ rfl).2).symm
  obtain rfl : k1 = k3 := (ra_one (hK.2 0 _ rfl).2 (hK.2 2 _ rfl).2).symm
  obtain rfl : k1 = k4 := (ra_one (hK.2 0 _ rfl).2 (hK.2 3 _ rfl).2).symm
  obtain rfl : k1 = k5 := (ra_one (hK.2 0 _ rfl).2 (hK.2 4 _ rfl).2).symm
  obtain rfl : k1 = k6 := (ra_one (hK.2 0 _ rfl).2 (hK.2 5 _ rfl).2).symm
  obtain rfl : k1 = k7 := (ra_one (hK.2 0 _ rfl).2 (hK.2 6 _ rfl).2).symm
  have hK : KK G k1 s := hK.sub [0] rfl
  skip
  have hj : inj8 (ad8 x q1 q2 q3 q4 q5 q6 q7) := by
    intro i j hi hj2 hij
    have g : ∀ k, k < 8 → ∃ z, ([(x, .inr (0, [.ref q1, .ref q2, .ref q3, .ref q4, .ref q5, .ref q6, .ref q7, .int 0, .int 0, .int 0, .int 0, .int 0, .int 0])), (q1, .inl (k1, 25, .inl (fun _ => 0))), (q2, .inl (k1, 5, .inl (fun _ => 0))), (q3, .inl (k1, 5, .inl (fun _ => 0))), (q4, .inl (k1, 5, .inl (fun _ => 0))), (q5, .inl (k1, 5, .inl (fun _ => 0))), (q6, .inl (k1, 30, .inl (fun _ => 0))), (q7, .inl (k1, 50, .inl (fun _ => 0)))] : va_W)[k]? = some (ad8 x q1 q2 q3 q4 q5 q6 q7 k, z) := fun k hk => by rcases (show k = 0 ∨ k = 1 ∨ k = 2 ∨ k = 3 ∨ k = 4 ∨ k = 5 ∨ k = 6 ∨ k = 7 by omega) with rfl | rfl | rfl | rfl | rfl | rfl | rfl | rfl <;> exact ⟨_, rfl⟩
    obtain ⟨z1, h1⟩ := g i hi
    obtain ⟨z2, h2⟩ := g j hj2
    exact hD.1 i j _ _ h1 h2 hij
  have hq1 : s.heap.size ≤ q1 := by
    have h := hD.2 1 _ rfl
    rw [← hAe] at h
    refine h.resolve_left (fun hz => ?_)
    have := hD.1 1 0 _ _ rfl rfl hz
    omega
  have hq2 : s.heap.size ≤ q2 := by
    have h := hD.2 2 _ rfl
    rw [← hAe] at h
    refine h.resolve_left (fun hz => ?_)
    have := hD.1 2 0 _ _ rfl rfl hz
    omega
  have hq3 : s.heap.size ≤ q3 := by
    have h := hD.2 3 _ rfl
    rw [← hAe] at h
    refine h.resolve_left (fun hz => ?_)
    have := hD.1 3 0 _ _ rfl rfl hz
    omega
  have hq4 : s.heap.size ≤ q4 := by
    have h := hD.2 4 _ rfl
    rw [← hAe] at h
    refine h.resolve_left (fun hz => ?_)
    have := hD.1 4 0 _ _ rfl rfl hz
    omega
  have hq5 : s.heap.size ≤ q5 := by
    have h := hD.2 5 _ rfl
    rw [← hAe] at h
    refine h.resolve_left (fun hz => ?_)
    have := hD.1 5 0 _ _ rfl rfl hz
    omega
  have hq6 : s.heap.size ≤ q6 := by
    have h := hD.2 6 _ rfl
    rw [← hAe] at h
    refine h.resolve_left (fun hz => ?_)
    have := hD.1 6 0 _ _ rfl rfl hz
    omega
  have hq7 : s.heap.size ≤ q7 := by
    have h := hD.2 7 _ rfl
    rw [← hAe] at h
    refine h.resolve_left (fun hz => ?_)
    have := hD.1 7 0 _ _ rfl rfl hz
    omega
  have hP : va_P G vwCl (w0 (ad8 x q1 q2 q3 q4 q5 q6 q7) k1 (bnI 0)) H := hP
  have hAo : ∀ q, own8 (ad8 x q1 q2 q3 q4 q5 q6 q7) q → A q := fun q hq => by
    obtain ⟨i, hi, rfl⟩ := hq
    rcases (show i = 0 ∨ 1 ≤ i by omega) with rfl | h1
    · exact hAx
    · exact hA _ ((ad8_fr hq1 hq2 hq3 hq4 hq5 hq6 hq7) _ h1 hi)
  generalize had : ad8 x q1 q2 q3 q4 q5 q6 q7 = ad at *
  have hx0 : Value.ref x = .ref (ad 0) := by subst had; rfl
  rw [hx0] at hl
  refine lv_iconst (v := nI 0) CF.1 CF.2.1 dX0_init_56 (by decide) ?_
  refine lv_istore_n (lv' := [(1, .int (nI (0))), (0, .ref (ad 0))]) CF.1 CF.2.1 dX0_init_57 rfl hl (by decide) rfl (fun ls hl => ?_)
  refine loop_rw0 (α := Unit) (fun i x => [(0, .ref (ad 0)), (1, .int (nI (i)))]) (fun i _ σ' => σ' = bnI i) (5) (0) (()) rfl hP hS (lv_sub hl [1, 0] rfl) (by omega) (fun i_1 x_1 σ1 H1 locs hj_1 hi_1 hx_1 hP1 hS1 ih_1 ls hl => ?_)
  have hD1 : va_D A (w0 ad k1 σ1) := w0_D hj hAo
  have hx_1 : σ1 = bnI i_1 := hx_1
  refine lv_iload_n CF.1 CF.2.1 dX0_init_58 rfl (lv_at hl 1 rfl) ?_
  refine lv_iconst (v := nI 5) CF.1 CF.2.1 dX0_init_59 (by decide) ?_
  refine z_icmp_ge CF (tgt := 87) (nIz (by omega)) (nIz (by omega)) dX0_init_60 (by decide) (fun h_2 => ?_) (fun h_3 => ?_)
  · obtain rfl : i_1 = 5 := by omega
    subst hAe
    refine W_old (free := fun q => q = x) hS1 (fun locs' hS9 => ?_)
    exact W.vret CF.1 CF.2.1 hr (fun t9 ht9 hW9 => ⟨⟨(k1, ad, σ1), rfl, ⟨by subst had; rfl, by subst had; exact (ad8_fr hq1 hq2 hq3 hq4 hq5 hq6 hq7), hj, (bnI_R hx_1).1, (bnI_R hx_1).2⟩, by rw [ht9]; exact hP1, va_K.moved hW9.alike hK⟩, hS9.F ht9⟩) hS9.2.2 dX0_init_87
  · refine lv_aload_n CF.1 CF.2.1 dX0_init_63 rfl (lv_at hl 0 rfl) ?_
    refine x0_g_stocks CF hK hP1 dX0_init_64 ?_
    refine lv_iload_n CF.1 CF.2.1 dX0_init_67 rfl (lv_at hl 1 rfl) ?_
    refine lv_sipush (v := nI 1000) CF.1 CF.2.1 dX0_init_68 (by decide) ?_
    refine x0_ast2 CF hK hP1 hD1 hS1 (i := i_1) (by omega) dX0_init_71 (fun σ4 H4 locs hσ4 hP4 hD4 hS4 => ?_)
    refine lv_aload_n CF.1 CF.2.1 dX0_init_72 rfl (lv_at hl 0 rfl) ?_
    refine x0_g_limits CF hK hP4 dX0_init_73 ?_
    refine lv_iload_n CF.1 CF.2.1 dX0_init_76 rfl (lv_at hl 1 rfl) ?_
    refine lv_sipush (v := nI 9999) CF.1 CF.2.1 dX0_init_77 (by decide) ?_
    refine x0_ast4 CF hK hP4 hD4 hS4 (i := i_1) (by omega) dX0_init_80 (fun σ5 H5 locs hσ5 hP5 hD5 hS5 => ?_)
    refine lv_iinc (v := nI (i_1 + 1)) (lv' := [(1, .int (nI (i_1 + 1))), (0, .ref (ad 0))]) CF.1 CF.2.1 dX0_init_81 hl (k := 1) rfl (by first | exact nI_add _ _ | rfl) (by decide) rfl (fun ls hl => ?_)
    refine lv_goto (tgt := 58) CF.1 CF.2.1 dX0_init_84 (by decide) ?_
    exact ih_1 () σ5 _ _ ls (by omega) (by show σ5 = bnI (i_1 + 1); exact bnI_s (by rw [← hx_1]; exact hσ4) hσ5) hP5 hS5 (lv_sub hl [1, 0] rfl)
set_option maxHeartbeats 1000000 in
set_option maxRecDepth 100000 in
theorem c1_init (l : Launch) {G : va_G} (x sz : Nat) : Met l yX1_init (ws_ yX1_init cX1_init 1 none) (rmk 4 7 125) (va_Pc [.ref x] (fun U => U.heap.size = sz ∧ va_P G vwCl [(x, .inr (1, [.int 0, .int 0, .int 0, .int 0, .int 0, .int 0, .int 0, .null, .null, .null, .null, .null, .null, .null]))] U.heap ∧ va_K G vwCl [] U)) (va_Qv (bornP x sz) (fun u t => va_P G vwCl (w1 u.2.1 u.1 u.2.2) t.heap ∧ KK G u.1 t) (fun q => q = x)) 7 125 (fun q => q = x) := by
  refine Met.ofW (cc := cX1_init) (maxL := 1) (ret := none) (by decide) rfl ?_
  intro p e s m args below meth c s₁ B hml hv
  obtain ⟨rfl, hsz, hP, hK⟩ := hv
  subst hsz
  have CF : CallFix p m c cX1_init 1 s _ AW RX1 := ⟨B.exec, B.bytes, hml, findClass_of_methodNamed B.named, fun w h => atoms_spec (ws := ws_ yX1_init cX1_init 1 none) B.pre w (List.mem_cons_of_mem _ h)⟩
  have hr := B.returns
  have hlocks := B.notSynchronized
  have hin : meth.name = "<init>" := (name_of_methodNamed B.named B.method).1
  have hxs : x < s.heap.size := (hP 0 _ rfl).lt
  generalize hAe : (fun q => q = x ∨ s.heap.size ≤ q) = A
  have hA : ∀ q : Nat, s.heap.size ≤ q → A q := fun q h => by rw [← hAe]; exact Or.inr h
  have hAx : A x := by rw [← hAe]; exact Or.inl rfl
  have hD : va_D A [(x, .inr (1, [.int 0, .int 0, .int 0, .int 0, .int 0, .int 0, .int 0, .null, .null, .null, .null, .null, .null, .null]))] := by
    refine ⟨fun i j p q hi hj _ => ?_, fun k q hk => ?_⟩
    · have h1 := (List.getElem?_eq_some_iff.mp hi).1; have h2 := (List.getElem?_eq_some_iff.mp hj).1; simp at h1 h2; omega
    · have h1 := (List.getElem?_eq_some_iff.mp hk).1; obtain rfl : k = 0 := by simp at h1; omega
      cases hk; exact hAx
  have hS : va_S A s.heap s.heap [] := va_S.rf
  have hP : va_P G vwCl [(x, .inr (1, [.int 0, .int 0, .int 0, .int 0, .int 0, .int 0, .int 0, .null, .null, .null, .null, .null, .null, .null]))] s.heap := hP
  have hl := lv_entry ([.ref x]) (n := 1) (Nat.le_of_ble_eq_true rfl)
  rw [lg_entry_eq]
  generalize (lg_sl ([.ref x]) ++ List.replicate (1 - (lg_sl ([.ref x])).length) Slot.unset).toArray = ls at hl ⊢
  have hl : lv_has ls 1 [(0, .ref x)] := hl
  refine lv_aload_n CF.1 CF.2.1 dX1_init_0 rfl (lv_at hl 0 rfl) ?_
  refine W.objInit CF.1 CF.2.1 CF.2.2.2.1 (CF.2.2.2.2 _ (inr_2 _ (List.mem_of_getElem? (i := 1) rfl))) (CF.2.2.2.2 _ (inr_1 _ (List.mem_of_getElem? (i := 12) rfl))) (CF.2.2.2.2 _ (inr_1 _ (List.mem_of_getElem? (i := 13) rfl))) rfl (by rw [hml]; exact hl.1) rfl dX1_init_1 (Nat.le_of_ble_eq_true rfl) (Nat.le_of_ble_eq_true rfl) ?_
  refine W.eq (g2 := F0 m 4 ls []) rfl ?_
  refine lv_aload_n CF.1 CF.2.1 dX1_init_4 rfl (lv_at hl 0 rfl) ?_
  refine lv_bipush (v := nI 25) CF.1 CF.2.1 dX1_init_5 (by decide) ?_
  refine va_newa (D := G) (ty := .int) (N' := 25) (a0 := (25, .inl (fun _ => 0))) CF.1 CF.2.1 (CF.2.2.2.2 _ (inr_1 _ (List.mem_of_getElem? (i := 14) rfl))) rfl hK hP hD hS hA (fun _ => rfl) (by decide) (by decide) (by decide) (Nat.le_of_ble_eq_true rfl) (Nat.le_of_ble_eq_true rfl) dX1_init_7 (fun q1 k1 H1 hK hP hD hS => ?_)
  have hK : va_K G vwCl [(k1, .int)] s := hK
  have hP : va_P G vwCl [(x, .inr (1, [.int 0, .int 0, .int 0, .int 0, .int 0, .int 0, .int 0, .null, .null, .null, .null, .null, .null, .null])), (q1, .inl (k1, 25, .inl (fun _ => 0)))] H1 := hP
  have hD : va_D A [(x, .inr (1, [.int 0, .int 0, .int 0, .int 0, .int 0, .int 0, .int 0, .null, .null, .null, .null, .null, .null, .null])), (q1, .inl (k1, 25, .inl (fun _ => 0)))] := hD
  refine va_putF (D := G) (ci := 1) (v := .ref q1) (ty := .array .int) (C := RX1) (T := TX1) (N := 14) CF.1 CF.2.1 CF.2.2.2.2 inlX1 tyX1 tyX1_ok nmX1 CF.2.2.2.1 hK hP hD hS 0 rfl rfl 7 (by decide) (CF.2.2.2.2 _ (inr_2 _ (List.mem_of_getElem? (i := 2) rfl))) (fun _ h9 => h9) rfl hin rfl (by decide +kernel) rfl rfl (Nat.le_of_ble_eq_true rfl) dX1_init_9 (fun H locs hP hD hS => ?_)
  have hP : va_P G vwCl [(x, .inr (1, [.int 0, .int 0, .int 0, .int 0, .int 0, .int 0, .int 0, .ref q1, .null, .null, .null, .null, .null, .null])), (q1, .inl (k1, 25, .inl (fun _ => 0)))] H := hP
  have hD : va_D A [(x, .inr (1, [.int 0, .int 0, .int 0, .int 0, .int 0, .int 0, .int 0, .ref q1, .null, .null, .null, .null, .null, .null])), (q1, .inl (k1, 25, .inl (fun _ => 0)))] := hD
  refine lv_aload_n CF.1 CF.2.1 dX1_init_12 rfl (lv_at hl 0 rfl) ?_
  refine lv_iconst (v := nI 5) CF.1 CF.2.1 dX1_init_13 (by decide) ?_
  refine va_newa (D := G) (ty := .int) (N' := 5) (a0 := (5, .inl (fun _ => 0))) CF.1 CF.2.1 (CF.2.2.2.2 _ (inr_1 _ (List.mem_of_getElem? (i := 14) rfl))) rfl hK hP hD hS hA (fun _ => rfl) (by decide) (by decide) (by decide) (Nat.le_of_ble_eq_true rfl) (Nat.le_of_ble_eq_true rfl) dX1_init_14 (fun q2 k2 H2 hK hP hD hS => ?_)
  have hK : va_K G vwCl [(k1, .int), (k2, .int)] s := hK
  have hP : va_P G vwCl [(x, .inr (1, [.int 0, .int 0, .int 0, .int 0, .int 0, .int 0, .int 0, .ref q1, .null, .null, .null, .null, .null, .null])), (q1, .inl (k1, 25, .inl (fun _ => 0))), (q2, .inl (k2, 5, .inl (fun _ => 0)))] H2 := hP
  have hD : va_D A [(x, .inr (1, [.int 0, .int 0, .int 0, .int 0, .int 0, .int 0, .int 0, .ref q1, .null, .null, .null, .null, .null, .null])), (q1, .inl (k1, 25, .inl (fun _ => 0))), (q2, .inl (k2, 5, .inl (fun _ => 0)))] := hD
  refine lv_dup CF.1 CF.2.1 dX1_init_16 rfl ?_
  refine lv_iconst (v := nI 0) CF.1 CF.2.1 dX1_init_17 (by decide) ?_
  refine lv_sipush (v := nI 1000) CF.1 CF.2.1 dX1_init_18 (by decide) ?_
  refine va_iast (D := G) CF.1 CF.2.1 hK hP hD hS 2 1 rfl rfl (vp_in_nI (by decide) (by decide)) dX1_init_21 (fun H locs hP hD hS => ?_)
  have hP : va_P G vwCl [(x, .inr (1, [.int 0, .int 0, .int 0, .int 0, .int 0, .int 0, .int 0, .ref q1, .null, .null, .null, .null, .null, .null])), (q1, .inl (k1, 25, .inl (fun _ => 0))), (q2, .inl (k2, 5, .inl (upd (fun _ => 0) 0 (nI 1000))))] H := hP
  have hD : va_D A [(x, .inr (1, [.int 0, .int 0, .int 0, .int 0, .int 0, .int 0, .int 0, .ref q1, .null, .null, .null, .null, .null, .null])), (q1, .inl (k1, 25, .inl (fun _ => 0))), (q2, .inl (k2, 5, .inl (upd (fun _ => 0) 0 (nI 1000))))] := hD
  refine lv_dup CF.1 CF.2.1 dX1_init_22 rfl ?_
  refine lv_iconst (v := nI 1) CF.1 CF.2.1 dX1_init_23 (by decide) ?_
  refine lv_sipush (v := nI 1000) CF.1 CF.2.1 dX1_init_24 (by decide) ?_
  refine va_iast (D := G) CF.1 CF.2.1 hK hP hD hS 2 1 rfl rfl (vp_in_nI (by decide) (by decide)) dX1_init_27 (fun H locs hP hD hS => ?_)
  have hP : va_P G vwCl [(x, .inr (1, [.int 0, .int 0, .int 0, .int 0, .int 0, .int 0, .int 0, .ref q1, .null, .null, .null, .null, .null, .null])), (q1, .inl (k1, 25, .inl (fun _ => 0))), (q2, .inl (k2, 5, .inl (upd (upd (fun _ => 0) 0 (nI 1000)) 1 (nI 1000))))] H := hP
  have hD : va_D A [(x, .inr (1, [.int 0, .int 0, .int 0, .int 0, .int 0, .int 0, .int 0, .ref q1, .null, .null, .null, .null, .null, .null])), (q1, .inl (k1, 25, .inl (fun _ => 0))), (q2, .inl (k2, 5, .inl (upd (upd (fun _ => 0) 0 (nI 1000)) 1 (nI 1000))))] := hD
  refine lv_dup CF.1 CF.2.1 dX1_init_28 rfl ?_
  refine lv_iconst (v := nI 2) CF.1 CF.2.1 dX1_init_29 (by decide) ?_
  refine lv_sipush (v := nI 1000) CF.1 CF.2.1 dX1_init_30 (by decide) ?_
  refine va_iast (D := G) CF.1 CF.2.1 hK hP hD hS 2 1 rfl rfl (vp_in_nI (by decide) (by decide)) dX1_init_33 (fun H locs hP hD hS => ?_)
  have hP : va_P G vwCl [(x, .inr (1, [.int 0, .int 0, .int 0, .int 0, .int 0, .int 0, .int 0, .ref q1, .null, .null, .null, .null, .null, .null])), (q1, .inl (k1, 25, .inl (fun _ => 0))), (q2, .inl (k2, 5, .inl (upd (upd (upd (fun _ => 0) 0 (nI 1000)) 1 (nI 1000)) 2 (nI 1000))))] H := hP
  have hD : va_D A [(x, .inr (1, [.int 0, .int 0, .int 0, .int 0, .int 0, .int 0, .int 0, .ref q1, .null, .null, .null, .null, .null, .null])), (q1, .inl (k1, 25, .inl (fun _ => 0))), (q2, .inl (k2, 5, .inl (upd (upd (upd (fun _ => 0) 0 (nI 1000)) 1 (nI 1000)) 2 (nI 1000))))] := hD
  refine lv_dup CF.1 CF.2.1 dX1_init_34 rfl ?_
  refine lv_iconst (v := nI 3) CF.1 CF.2.1 dX1_init_35 (by decide) ?_
  refine lv_sipush (v := nI 1000) CF.1 CF.2.1 dX1_init_36 (by decide) ?_
  refine va_iast (D := G) CF.1 CF.2.1 hK hP hD hS 2 1 rfl rfl (vp_in_nI (by decide) (by decide)) dX1_init_39 (fun H locs hP hD hS => ?_)
  have hP : va_P G vwCl [(x, .inr (1, [.int 0, .int 0, .int 0, .int 0, .int 0, .int 0, .int 0, .ref q1, .null, .null, .null, .null, .null, .null])), (q1, .inl (k1, 25, .inl (fun _ => 0))), (q2, .inl (k2, 5, .inl (upd (upd (upd (upd (fun _ => 0) 0 (nI 1000)) 1 (nI 1000)) 2 (nI 1000)) 3 (nI 1000))))] H := hP
  have hD : va_D A [(x, .inr (1, [.int 0, .int 0, .int 0, .int 0, .int 0, .int 0, .int 0, .ref q1, .null, .null, .null, .null, .null, .null])), (q1, .inl (k1, 25, .inl (fun _ => 0))), (q2, .inl (k2, 5, .inl (upd (upd (upd (upd (fun _ => 0) 0 (nI 1000)) 1 (nI 1000)) 2 (nI 1000)) 3 (nI 1000))))] := hD
  refine lv_dup CF.1 CF.2.1 dX1_init_40 rfl ?_
  refine lv_iconst (v := nI 4) CF.1 CF.2.1 dX1_init_41 (by decide) ?_
  refine lv_sipush (v := nI 1000) CF.1 CF.2.1 dX1_init_42 (by decide) ?_
  refine va_iast (D := G) CF.1 CF.2.1 hK hP hD hS 2 1 rfl rfl (vp_in_nI (by decide) (by decide)) dX1_init_45 (fun H locs hP hD hS => ?_)
  have hP : va_P G vwCl [(x, .inr (1, [.int 0, .int 0, .int 0, .int 0, .int 0, .int 0, .int 0, .ref q1, .null, .null, .null, .null, .null, .null])), (q1, .inl (k1, 25, .inl (fun _ => 0))), (q2, .inl (k2, 5, .inl (upd (upd (upd (upd (upd (fun _ => 0) 0 (nI 1000)) 1 (nI 1000)) 2 (nI 1000)) 3 (nI 1000)) 4 (nI 1000))))] H := hP
  have hD : va_D A [(x, .inr (1, [.int 0, .int 0, .int 0, .int 0, .int 0, .int 0, .int 0, .ref q1, .null, .null, .null, .null, .null, .null])), (q1, .inl (k1, 25, .inl (fun _ => 0))), (q2, .inl (k2, 5, .inl (upd (upd (upd (upd (upd (fun _ => 0) 0 (nI 1000)) 1 (nI 1000)) 2 (nI 1000)) 3 (nI 1000)) 4 (nI 1000))))] := hD
  refine va_putF (D := G) (ci := 1) (v := .ref q2) (ty := .array .int) (C := RX1) (T := TX1) (N := 14) CF.1 CF.2.1 CF.2.2.2.2 inlX1 tyX1 tyX1_ok nmX1 CF.2.2.2.1 hK hP hD hS 0 rfl rfl 8 (by decide) (CF.2.2.2.2 _ (inr_2 _ (List.mem_of_getElem? (i := 3) rfl))) (fun _ h9 => h9) rfl hin rfl (by decide +kernel) rfl rfl (Nat.le_of_ble_eq_true rfl) dX1_init_46 (fun H locs hP hD hS => ?_)
  have hP : va_P G vwCl [(x, .inr (1, [.int 0, .int 0, .int 0, .int 0, .int 0, .int 0, .int 0, .ref q1, .ref q2, .null, .null, .null, .null, .null])), (q1, .inl (k1, 25, .inl (fun _ => 0))), (q2, .inl (k2, 5, .inl (upd (upd (upd (upd (upd (fun _ => 0) 0 (nI 1000)) 1 (nI 1000)) 2 (nI 1000)) 3 (nI 1000)) 4 (nI 1000))))] H := hP
  have hD : va_D A [(x, .inr (1, [.int 0, .int 0, .int 0, .int 0, .int 0, .int 0, .int 0, .ref q1, .ref q2, .null, .null, .null, .null, .null])), (q1, .inl (k1, 25, .inl (fun _ => 0))), (q2, .inl (k2, 5, .inl (upd (upd (upd (upd (upd (fun _ => 0) 0 (nI 1000)) 1 (nI 1000)) 2 (nI 1000)) 3 (nI 1000)) 4 (nI 1000))))] := hD
  refine lv_aload_n CF.1 CF.2.1 dX1_init_49 rfl (lv_at hl 0 rfl) ?_
  refine lv_iconst (v := nI 5) CF.1 CF.2.1 dX1_init_50 (by decide) ?_
  refine va_newa (D := G) (ty := .int) (N' := 5) (a0 := (5, .inl (fun _ => 0))) CF.1 CF.2.1 (CF.2.2.2.2 _ (inr_1 _ (List.mem_of_getElem? (i := 14) rfl))) rfl hK hP hD hS hA (fun _ => rfl) (by decide) (by decide) (by decide) (Nat.le_of_ble_eq_true rfl) (Nat.le_of_ble_eq_true rfl) dX1_init_51 (fun q3 k3 H3 hK hP hD hS => ?_)
  have hK : va_K G vwCl [(k1, .int), (k2, .int), (k3, .int)] s := hK
  have hP : va_P G vwCl [(x, .inr (1, [.int 0, .int 0, .int 0, .int 0, .int 0, .int 0, .int 0, .ref q1, .ref q2, .null, .null, .null, .null, .null])), (q1, .inl (k1, 25, .inl (fun _ => 0))), (q2, .inl (k2, 5, .inl (upd (upd (upd (upd (upd (fun _ => 0) 0 (nI 1000)) 1 (nI 1000)) 2 (nI 1000)) 3 (nI 1000)) 4 (nI 1000)))), (q3, .inl (k3, 5, .inl (fun _ => 0)))] H3 := hP
  have hD : va_D A [(x, .inr (1, [.int 0, .int 0, .int 0, .int 0, .int 0, .int 0, .int 0, .ref q1, .ref q2, .null, .null, .null, .null, .null])), (q1, .inl (k1, 25, .inl (fun _ => 0))), (q2, .inl (k2, 5, .inl (upd (upd (upd (upd (upd (fun _ => 0) 0 (nI 1000)) 1 (nI 1000)) 2 (nI 1000)) 3 (nI 1000)) 4 (nI 1000)))), (q3, .inl (k3, 5, .inl (fun _ => 0)))] := hD
  refine va_putF (D := G) (ci := 1) (v := .ref q3) (ty := .array .int) (C := RX1) (T := TX1) (N := 14) CF.1 CF.2.1 CF.2.2.2.2 inlX1 tyX1 tyX1_ok nmX1 CF.2.2.2.1 hK hP hD hS 0 rfl rfl 9 (by decide) (CF.2.2.2.2 _ (inr_2 _ (List.mem_of_getElem? (i := 4) rfl))) (fun _ h9 => h9) rfl hin rfl (by decide +kernel) rfl rfl (Nat.le_of_ble_eq_true rfl) dX1_init_53 (fun H locs hP hD hS => ?_)
  have hP : va_P G vwCl [(x, .inr (1, [.int 0, .int 0, .int 0, .int 0, .int 0, .int 0, .int 0, .ref q1, .ref q2, .ref q3, .null, .null, .null, .null])), (q1, .inl (k1, 25, .inl (fun _ => 0))), (q2, .inl (k2, 5, .inl (upd (upd (upd (upd (upd (fun _ => 0) 0 (nI 1000)) 1 (nI 1000)) 2 (nI 1000)) 3 (nI 1000)) 4 (nI 1000)))), (q3, .inl (k3, 5, .inl (fun _ => 0)))] H := hP
  have hD : va_D A [(x, .inr (1, [.int 0, .int 0, .int 0, .int 0, .int 0, .int 0, .int 0, .ref q1, .ref q2, .ref q3, .null, .null, .null, .null])), (q1, .inl (k1, 25, .inl (fun _ => 0))), (q2, .inl (k2, 5, .inl (upd (upd (upd (upd (upd (fun _ => 0) 0 (nI 1000)) 1 (nI 1000)) 2 (nI 1000)) 3 (nI 1000)) 4 (nI 1000)))), (q3, .inl (k3, 5, .inl (fun _ => 0)))] := hD
  refine lv_aload_n CF.1 CF.2.1 dX1_init_56 rfl (lv_at hl 0 rfl) ?_
  refine lv_iconst (v := nI 5) CF.1 CF.2.1 dX1_init_57 (by decide) ?_
  refine va_newa (D := G) (ty := .int) (N' := 5) (a0 := (5, .inl (fun _ => 0))) CF.1 CF.2.1 (CF.2.2.2.2 _ (inr_1 _ (List.mem_of_getElem? (i := 14) rfl))) rfl hK hP hD hS hA (fun _ => rfl) (by decide) (by decide) (by decide) (Nat.le_of_ble_eq_true rfl) (Nat.le_of_ble_eq_true rfl) dX1_init_58 (fun q4 k4 H4 hK hP hD hS => ?_)
  have hK : va_K G vwCl [(k1, .int), (k2, .int), (k3, .int), (k4, .int)] s := hK
  have hP : va_P G vwCl [(x, .inr (1, [.int 0, .int 0, .int 0, .int 0, .int 0, .int 0, .int 0, .ref q1, .ref q2, .ref q3, .null, .null, .null, .null])), (q1, .inl (k1, 25, .inl (fun _ => 0))), (q2, .inl (k2, 5, .inl (upd (upd (upd (upd (upd (fun _ => 0) 0 (nI 1000)) 1 (nI 1000)) 2 (nI 1000)) 3 (nI 1000)) 4 (nI 1000)))), (q3, .inl (k3, 5, .inl (fun _ => 0))), (q4, .inl (k4, 5, .inl (fun _ => 0)))] H4 := hP
  have hD : va_D A [(x, .inr (1, [.int 0, .int 0, .int 0, .int 0, .int 0, .int 0, .int 0, .ref q1, .ref q2, .ref q3, .null, .null, .null, .null])), (q1, .inl (k1, 25, .inl (fun _ => 0))), (q2, .inl (k2, 5, .inl (upd (upd (upd (upd (upd (fun _ => 0) 0 (nI 1000)) 1 (nI 1000)) 2 (nI 1000)) 3 (nI 1000)) 4 (nI 1000)))), (q3, .inl (k3, 5, .inl (fun _ => 0))), (q4, .inl (k4, 5, .inl (fun _ => 0)))] := hD
  refine lv_dup CF.1 CF.2.1 dX1_init_60 rfl ?_
  refine lv_iconst (v := nI 0) CF.1 CF.2.1 dX1_init_61 (by decide) ?_
  refine lv_sipush (v := nI 9999) CF.1 CF.2.1 dX1_init_62 (by decide) ?_
  refine va_iast (D := G) CF.1 CF.2.1 hK hP hD hS 4 3 rfl rfl (vp_in_nI (by decide) (by decide)) dX1_init_65 (fun H locs hP hD hS => ?_)
  have hP : va_P G vwCl [(x, .inr (1, [.int 0, .int 0, .int 0, .int 0, .int 0, .int 0, .int 0, .ref q1, .ref q2, .ref q3, .null, .null, .null, .null])), (q1, .inl (k1, 25, .inl (fun _ => 0))), (q2, .inl (k2, 5, .inl (upd (upd (upd (upd (upd (fun _ => 0) 0 (nI 1000)) 1 (nI 1000)) 2 (nI 1000)) 3 (nI 1000)) 4 (nI 1000)))), (q3, .inl (k3, 5, .inl (fun _ => 0))), (q4, .inl (k4, 5, .inl (upd (fun _ => 0) 0 (nI 9999))))] H := hP
  have hD : va_D A [(x, .inr (1, [.int 0, .int 0, .int 0, .int 0, .int 0, .int 0, .int 0, .ref q1, .ref q2, .ref q3, .null, .null, .null, .null])), (q1, .inl (k1, 25, .inl (fun _ => 0))), (q2, .inl (k2, 5, .inl (upd (upd (upd (upd (upd (fun _ => 0) 0 (nI 1000)) 1 (nI 1000)) 2 (nI 1000)) 3 (nI 1000)) 4 (nI 1000)))), (q3, .inl (k3, 5, .inl (fun _ => 0))), (q4, .inl (k4, 5, .inl (upd (fun _ => 0) 0 (nI 9999))))] := hD
  refine lv_dup CF.1 CF.2.1 dX1_init_66 rfl ?_
  refine lv_iconst (v := nI 1) CF.1 CF.2.1 dX1_init_67 (by decide) ?_
  refine lv_sipush (v := nI 9999) CF.1 CF.2.1 dX1_init_68 (by decide) ?_
  refine va_iast (D := G) CF.1 CF.2.1 hK hP hD hS 4 3 rfl rfl (vp_in_nI (by decide) (by decide)) dX1_init_71 (fun H locs hP hD hS => ?_)
  have hP : va_P G vwCl [(x, .inr (1, [.int 0, .int 0, .int 0, .int 0, .int 0, .int 0, .int 0, .ref q1, .ref q2, .ref q3, .null, .null, .null, .null])), (q1, .inl (k1, 25, .inl (fun _ => 0))), (q2, .inl (k2, 5, .inl (upd (upd (upd (upd (upd (fun _ => 0) 0 (nI 1000)) 1 (nI 1000)) 2 (nI 1000)) 3 (nI 1000)) 4 (nI 1000)))), (q3, .inl (k3, 5, .inl (fun _ => 0))), (q4, .inl (k4, 5, .inl (upd (upd (fun _ => 0) 0 (nI 9999)) 1 (nI 9999))))] H := hP
  have hD : va_D A [(x, .inr (1, [.int 0, .int 0, .int 0, .int 0, .int 0, .int 0, .int 0, .ref q1, .ref q2, .ref q3, .null, .null, .null, .null])), (q1, .inl (k1, 25, .inl (fun _ => 0))), (q2, .inl (k2, 5, .inl (upd (upd (upd (upd (upd (fun _ => 0) 0 (nI 1000)) 1 (nI 1000)) 2 (nI 1000)) 3 (nI 1000)) 4 (nI 1000)))), (q3, .inl (k3, 5, .inl (fun _ => 0))), (q4, .inl (k4, 5, .inl (upd (upd (fun _ => 0) 0 (nI 9999)) 1 (nI 9999))))] := hD
  refine lv_dup CF.1 CF.2.1 dX1_init_72 rfl ?_
  refine lv_iconst (v := nI 2) CF.1 CF.2.1 dX1_init_73 (by decide) ?_
  refine lv_sipush (v := nI 9999) CF.1 CF.2.1 dX1_init_74 (by decide) ?_
  refine va_iast (D := G) CF.1 CF.2.1 hK hP hD hS 4 3 rfl rfl (vp_in_nI (by decide) (by decide)) dX1_init_77 (fun H locs hP hD hS => ?_)
  have hP : va_P G vwCl [(x, .inr (1, [.int 0, .int 0, .int 0, .int 0, .int 0, .int 0, .int 0, .ref q1, .ref q2, .ref q3, .null, .null, .null, .null])), (q1, .inl (k1, 25, .inl (fun _ => 0))), (q2, .inl (k2, 5, .inl (upd (upd (upd (upd (upd (fun _ => 0) 0 (nI 1000)) 1 (nI 1000)) 2 (nI 1000)) 3 (nI 1000)) 4 (nI 1000)))), (q3, .inl (k3, 5, .inl (fun _ => 0))), (q4, .inl (k4, 5, .inl (upd (upd (upd (fun _ => 0) 0 (nI 9999)) 1 (nI 9999)) 2 (nI 9999))))] H := hP
  have hD : va_D A [(x, .inr (1, [.int 0, .int 0, .int 0, .int 0, .int 0, .int 0, .int 0, .ref q1, .ref q2, .ref q3, .null, .null, .null, .null])), (q1, .inl (k1, 25, .inl (fun _ => 0))), (q2, .inl (k2, 5, .inl (upd (upd (upd (upd (upd (fun _ => 0) 0 (nI 1000)) 1 (nI 1000)) 2 (nI 1000)) 3 (nI 1000)) 4 (nI 1000)))), (q3, .inl (k3, 5, .inl (fun _ => 0))), (q4, .inl (k4, 5, .inl (upd (upd (upd (fun _ => 0) 0 (nI 9999)) 1 (nI 9999)) 2 (nI 9999))))] := hD
  refine lv_dup CF.1 CF.2.1 dX1_init_78 rfl ?_
  refine lv_iconst (v := nI 3) CF.1 CF.2.1 dX1_init_79 (by decide) ?_
  refine lv_sipush (v := nI 9999) CF.1 CF.2.1 dX1_init_80 (by decide) ?_
  refine va_iast (D := G) CF.1 CF.2.1 hK hP hD hS 4 3 rfl rfl (vp_in_nI (by decide) (by decide)) dX1_init_83 (fun H locs hP hD hS => ?_)
  have hP : va_P G vwCl [(x, .inr (1, [.int 0, .int 0, .int 0, .int 0, .int 0, .int 0, .int 0, .ref q1, .ref q2, .ref q3, .null, .null, .null, .null])), (q1, .inl (k1, 25, .inl (fun _ => 0))), (q2, .inl (k2, 5, .inl (upd (upd (upd (upd (upd (fun _ => 0) 0 (nI 1000)) 1 (nI 1000)) 2 (nI 1000)) 3 (nI 1000)) 4 (nI 1000)))), (q3, .inl (k3, 5, .inl (fun _ => 0))), (q4, .inl (k4, 5, .inl (upd (upd (upd (upd (fun _ => 0) 0 (nI 9999)) 1 (nI 9999)) 2 (nI 9999)) 3 (nI 9999))))] H := hP
  have hD : va_D A [(x, .inr (1, [.int 0, .int 0, .int 0, .int 0, .int 0, .int 0, .int 0, .ref q1, .ref q2, .ref q3, .null, .null, .null, .null])), (q1, .inl (k1, 25, .inl (fun _ => 0))), (q2, .inl (k2, 5, .inl (upd (upd (upd (upd (upd (fun _ => 0) 0 (nI 1000)) 1 (nI 1000)) 2 (nI 1000)) 3 (nI 1000)) 4 (nI 1000)))), (q3, .inl (k3, 5, .inl (fun _ => 0))), (q4, .inl (k4, 5, .inl (upd (upd (upd (upd (fun _ => 0) 0 (nI 9999)) 1 (nI 9999)) 2 (nI 9999)) 3 (nI 9999))))] := hD
  refine lv_dup CF.1 CF.2.1 dX1_init_84 rfl ?_
  refine lv_iconst (v := nI 4) CF.1 CF.2.1 dX1_init_85 (by decide) ?_
  refine lv_sipush (v := nI 9999) CF.1 CF.2.1 dX1_init_86 (by decide) ?_
  refine va_iast (D := G) CF.1 CF.2.1 hK hP hD hS 4 3 rfl rfl (vp_in_nI (by decide) (by decide)) dX1_init_89 (fun H locs hP hD hS => ?_)
  have hP : va_P G vwCl [(x, .inr (1, [.int 0, .int 0, .int 0, .int 0, .int 0, .int 0, .int 0, .ref q1, .ref q2, .ref q3, .null, .null, .null, .null])), (q1, .inl (k1, 25, .inl (fun _ => 0))), (q2, .inl (k2, 5, .inl (upd (upd (upd (upd (upd (fun _ => 0) 0 (nI 1000)) 1 (nI 1000)) 2 (nI 1000)) 3 (nI 1000)) 4 (nI 1000)))), (q3, .inl (k3, 5, .inl (fun _ => 0))), (q4, .inl (k4, 5, .inl (upd (upd (upd (upd (upd (fun _ => 0) 0 (nI 9999)) 1 (nI 9999)) 2 (nI 9999)) 3 (nI 9999)) 4 (nI 9999))))] H := hP
  have hD : va_D A [(x, .inr (1, [.int 0, .int 0, .int 0, .int 0, .int 0, .int 0, .int 0, .ref q1, .ref q2, .ref q3, .null, .null, .null, .null])), (q1, .inl (k1, 25, .inl (fun _ => 0))), (q2, .inl (k2, 5, .inl (upd (upd (upd (upd (upd (fun _ => 0) 0 (nI 1000)) 1 (nI 1000)) 2 (nI 1000)) 3 (nI 1000)) 4 (nI 1000)))), (q3, .inl (k3, 5, .inl (fun _ => 0))), (q4, .inl (k4, 5, .inl (upd (upd (upd (upd (upd (fun _ => 0) 0 (nI 9999)) 1 (nI 9999)) 2 (nI 9999)) 3 (nI 9999)) 4 (nI 9999))))] := hD
  refine va_putF (D := G) (ci := 1) (v := .ref q4) (ty := .array .int) (C := RX1) (T := TX1) (N := 14) CF.1 CF.2.1 CF.2.2.2.2 inlX1 tyX1 tyX1_ok nmX1 CF.2.2.2.1 hK hP hD hS 0 rfl rfl 10 (by decide) (CF.2.2.2.2 _ (inr_2 _ (List.mem_of_getElem? (i := 5) rfl))) (fun _ h9 => h9) rfl hin rfl (by decide +kernel) rfl rfl (Nat.le_of_ble_eq_true rfl) dX1_init_90 (fun H locs hP hD hS => ?_)
  have hP : va_P G vwCl [(x, .inr (1, [.int 0, .int 0, .int 0, .int 0, .int 0, .int 0, .int 0, .ref q1, .ref q2, .ref q3, .ref q4, .null, .null, .null])), (q1, .inl (k1, 25, .inl (fun _ => 0))), (q2, .inl (k2, 5, .inl (upd (upd (upd (upd (upd (fun _ => 0) 0 (nI 1000)) 1 (nI 1000)) 2 (nI 1000)) 3 (nI 1000)) 4 (nI 1000)))), (q3, .inl (k3, 5, .inl (fun _ => 0))), (q4, .inl (k4, 5, .inl (upd (upd (upd (upd (upd (fun _ => 0) 0 (nI 9999)) 1 (nI 9999)) 2 (nI 9999)) 3 (nI 9999)) 4 (nI 9999))))] H := hP
  have hD : va_D A [(x, .inr (1, [.int 0, .int 0, .int 0, .int 0, .int 0, .int 0, .int 0, .ref q1, .ref q2, .ref q3, .ref q4, .null, .null, .null])), (q1, .inl (k1, 25, .inl (fun _ => 0))), (q2, .inl (k2, 5, .inl (upd (upd (upd (upd (upd (fun _ => 0) 0 (nI 1000)) 1 (nI 1000)) 2 (nI 1000)) 3 (nI 1000)) 4 (nI 1000)))), (q3, .inl (k3, 5, .inl (fun _ => 0))), (q4, .inl (k4, 5, .inl (upd (upd (upd (upd (upd (fun _ => 0) 0 (nI 9999)) 1 (nI 9999)) 2 (nI 9999)) 3 (nI 9999)) 4 (nI 9999))))] := hD
  refine lv_aload_n CF.1 CF.2.1 dX1_init_93 rfl (lv_at hl 0 rfl) ?_
  refine lv_iconst (v := nI 5) CF.1 CF.2.1 dX1_init_94 (by decide) ?_
  refine va_newa (D := G) (ty := .int) (N' := 5) (a0 := (5, .inl (fun _ => 0))) CF.1 CF.2.1 (CF.2.2.2.2 _ (inr_1 _ (List.mem_of_getElem? (i := 14) rfl))) rfl hK hP hD hS hA (fun _ => rfl) (by decide) (by decide) (by decide) (Nat.le_of_ble_eq_true rfl) (Nat.le_of_ble_eq_true rfl) dX1_init_95 (fun q5 k5 H5 hK hP hD hS => ?_)
  have hK : va_K G vwCl [(k1, .int), (k2, .int), (k3, .int), (k4, .int), (k5, .int)] s := hK
  have hP : va_P G vwCl [(x, .inr (1, [.int 0, .int 0, .int 0, .int 0, .int 0, .int 0, .int 0, .ref q1, .ref q2, .ref q3, .ref q4, .null, .null, .null])), (q1, .inl (k1, 25, .inl (fun _ => 0))), (q2, .inl (k2, 5, .inl (upd (upd (upd (upd (upd (fun _ => 0) 0 (nI 1000)) 1 (nI 1000)) 2 (nI 1000)) 3 (nI 1000)) 4 (nI 1000)))), (q3, .inl (k3, 5, .inl (fun _ => 0))), (q4, .inl (k4, 5, .inl (upd (upd (upd (upd (upd (fun _ => 0) 0 (nI 9999)) 1 (nI 9999)) 2 (nI 9999)) 3 (nI 9999)) 4 (nI 9999)))), (q5, .inl (k5, 5, .inl (fun _ => 0)))] H5 := hP
  have hD : va_D A [(x, .inr (1, [.int 0, .int 0, .int 0, .int 0, .int 0, .int 0, .int 0, .ref q1, .ref q2, .ref q3, .ref q4, .null, .null, .null])), (q1, .inl (k1, 25, .inl (fun _ => 0))), (q2, .inl (k2, 5, .inl (upd (upd (upd (upd (upd (fun _ => 0) 0 (nI 1000)) 1 (nI 1000)) 2 (nI 1000)) 3 (nI 1000)) 4 (nI 1000)))), (q3, .inl (k3, 5, .inl (fun _ => 0))), (q4, .inl (k4, 5, .inl (upd (upd (upd (upd (upd (fun _ => 0) 0 (nI 9999)) 1 (nI 9999)) 2 (nI 9999)) 3 (nI 9999)) 4 (nI 9999)))), (q5, .inl (k5, 5, .inl (fun _ => 0)))] := hD
  refine va_putF (D := G) (ci := 1) (v := .ref q5) (ty := .array .int) (C := RX1) (T := TX1) (N := 14) CF.1 CF.2.1 CF.2.2.2.2 inlX1 tyX1 tyX1_ok nmX1 CF.2.2.2.1 hK hP hD hS 0 rfl rfl 11 (by decide) (CF.2.2.2.2 _ (inr_2 _ (List.mem_of_getElem? (i := 6) rfl))) (fun _ h9 => h9) rfl hin rfl (by decide +kernel) rfl rfl (Nat.le_of_ble_eq_true rfl) dX1_init_97 (fun H locs hP hD hS => ?_)
  have hP : va_P G vwCl [(x, .inr (1, [.int 0, .int 0, .int 0, .int 0, .int 0, .int 0, .int 0, .ref q1, .ref q2, .ref q3, .ref q4, .ref q5, .null, .null])), (q1, .inl (k1, 25, .inl (fun _ => 0))), (q2, .inl (k2, 5, .inl (upd (upd (upd (upd (upd (fun _ => 0) 0 (nI 1000)) 1 (nI 1000)) 2 (nI 1000)) 3 (nI 1000)) 4 (nI 1000)))), (q3, .inl (k3, 5, .inl (fun _ => 0))), (q4, .inl (k4, 5, .inl (upd (upd (upd (upd (upd (fun _ => 0) 0 (nI 9999)) 1 (nI 9999)) 2 (nI 9999)) 3 (nI 9999)) 4 (nI 9999)))), (q5, .inl (k5, 5, .inl (fun _ => 0)))] H := hP
  have hD : va_D A [(x, .inr (1, [.int 0, .int 0, .int 0, .int 0, .int 0, .int 0, .int 0, .ref q1, .ref q2, .ref q3, .ref q4, .ref q5, .null, .null])), (q1, .inl (k1, 25, .inl (fun _ => 0))), (q2, .inl (k2, 5, .inl (upd (upd (upd (upd (upd (fun _ => 0) 0 (nI 1000)) 1 (nI 1000)) 2 (nI 1000)) 3 (nI 1000)) 4 (nI 1000)))), (q3, .inl (k3, 5, .inl (fun _ => 0))), (q4, .inl (k4, 5, .inl (upd (upd (upd (upd (upd (fun _ => 0) 0 (nI 9999)) 1 (nI 9999)) 2 (nI 9999)) 3 (nI 9999)) 4 (nI 9999)))), (q5, .inl (k5, 5, .inl (fun _ => 0)))] := hD
  refine lv_aload_n CF.1 CF.2.1 dX1_init_100 rfl (lv_at hl 0 rfl) ?_
  refine lv_bipush (v := nI 30) CF.1 CF.2.1 dX1_init_101 (by decide) ?_
  refine va_newa (D := G) (ty := .int) (N' := 30) (a0 := (30, .inl (fun _ => 0))) CF.1 CF.2.1 (CF.2.2.2.2 _ (inr_1 _ (List.mem_of_getElem? (i := 14) rfl))) rfl hK hP hD hS hA (fun _ => rfl) (by decide) (by decide) (by decide) (Nat.le_of_ble_eq_true rfl) (Nat.le_of_ble_eq_true rfl) dX1_init_103 (fun q6 k6 H6 hK hP hD hS => ?_)
  have hK : va_K G vwCl [(k1, .int), (k2, .int), (k3, .int), (k4, .int), (k5, .int), (k6, .int)] s := hK
  have hP : va_P G vwCl [(x, .inr (1, [.int 0, .int 0, .int 0, .int 0, .int 0, .int 0, .int 0, .ref q1, .ref q2, .ref q3, .ref q4, .ref q5, .null, .null])), (q1, .inl (k1, 25, .inl (fun _ => 0))), (q2, .inl (k2, 5, .inl (upd (upd (upd (upd (upd (fun _ => 0) 0 (nI 1000)) 1 (nI 1000)) 2 (nI 1000)) 3 (nI 1000)) 4 (nI 1000)))), (q3, .inl (k3, 5, .inl (fun _ => 0))), (q4, .inl (k4, 5, .inl (upd (upd (upd (upd (upd (fun _ => 0) 0 (nI 9999)) 1 (nI 9999)) 2 (nI 9999)) 3 (nI 9999)) 4 (nI 9999)))), (q5, .inl (k5, 5, .inl (fun _ => 0))), (q6, .inl (k6, 30, .inl (fun _ => 0)))] H6 := hP
  have hD : va_D A [(x, .inr (1, [.int 0, .int 0, .int 0, .int 0, .int 0, .int 0, .int 0, .ref q1, .ref q2, .ref q3, .ref q4, .ref q5, .null, .null])), (q1, .inl (k1, 25, .inl (fun _ => 0))), (q2, .inl (k2, 5, .inl (upd (upd (upd (upd (upd (fun _ => 0) 0 (nI 1000)) 1 (nI 1000)) 2 (nI 1000)) 3 (nI 1000)) 4 (nI 1000)))), (q3, .inl (k3, 5, .inl (fun _ => 0))), (q4, .inl (k4, 5, .inl (upd (upd (upd (upd (upd (fun _ => 0) 0 (nI 9999)) 1 (nI 9999)) 2 (nI 9999)) 3 (nI 9999)) 4 (nI 9999)))), (q5, .inl (k5, 5, .inl (fun _ => 0))), (q6, .inl (k6, 30, .inl (fun _ => 0)))] := hD
  refine va_putF (D := G) (ci := 1) (v := .ref q6) (ty := .array .int) (C := RX1) (T := TX1) (N := 14) CF.1 CF.2.1 CF.2.2.2.2 inlX1 tyX1 tyX1_ok nmX1 CF.2.2.2.1 hK hP hD hS 0 rfl rfl 12 (by decide) (CF.2.2.2.2 _ (inr_2 _ (List.mem_of_getElem? (i := 7) rfl))) (fun _ h9 => h9) rfl hin rfl (by decide +kernel) rfl rfl (Nat.le_of_ble_eq_true rfl) dX1_init_105 (fun H locs hP hD hS => ?_)
  have hP : va_P G vwCl [(x, .inr (1, [.int 0, .int 0, .int 0, .int 0, .int 0, .int 0, .int 0, .ref q1, .ref q2, .ref q3, .ref q4, .ref q5, .ref q6, .null])), (q1, .inl (k1, 25, .inl (fun _ => 0))), (q2, .inl (k2, 5, .inl (upd (upd (upd (upd (upd (fun _ => 0) 0 (nI 1000)) 1 (nI 1000)) 2 (nI 1000)) 3 (nI 1000)) 4 (nI 1000)))), (q3, .inl (k3, 5, .inl (fun _ => 0))), (q4, .inl (k4, 5, .inl (upd (upd (upd (upd (upd (fun _ => 0) 0 (nI 9999)) 1 (nI 9999)) 2 (nI 9999)) 3 (nI 9999)) 4 (nI 9999)))), (q5, .inl (k5, 5, .inl (fun _ => 0))), (q6, .inl (k6, 30, .inl (fun _ => 0)))] H := hP
  have hD : va_D A [(x, .inr (1, [.int 0, .int 0, .int 0, .int 0, .int 0, .int 0, .int 0, .ref q1, .ref q2, .ref q3, .ref q4, .ref q5, .ref q6, .null])), (q1, .inl (k1, 25, .inl (fun _ => 0))), (q2, .inl (k2, 5, .inl (upd (upd (upd (upd (upd (fun _ => 0) 0 (nI 1000)) 1 (nI 1000)) 2 (nI 1000)) 3 (nI 1000)) 4 (nI 1000)))), (q3, .inl (k3, 5, .inl (fun _ => 0))), (q4, .inl (k4, 5, .inl (upd (upd (upd (upd (upd (fun _ => 0) 0 (nI 9999)) 1 (nI 9999)) 2 (nI 9999)) 3 (nI 9999)) 4 (nI 9999)))), (q5, .inl (k5, 5, .inl (fun _ => 0))), (q6, .inl (k6, 30, .inl (fun _ => 0)))] := hD
  refine lv_aload_n CF.1 CF.2.1 dX1_init_108 rfl (lv_at hl 0 rfl) ?_
  refine lv_bipush (v := nI 50) CF.1 CF.2.1 dX1_init_109 (by decide) ?_
  refine va_newa (D := G) (ty := .int) (N' := 50) (a0 := (50, .inl (fun _ => 0))) CF.1 CF.2.1 (CF.2.2.2.2 _ (inr_1 _ (List.mem_of_getElem? (i := 14) rfl))) rfl hK hP hD hS hA (fun _ => rfl) (by decide) (by decide) (by decide) (Nat.le_of_ble_eq_true rfl) (Nat.le_of_ble_eq_true rfl) dX1_init_111 (fun q7 k7 H7 hK hP hD hS => ?_)
  have hK : va_K G vwCl [(k1, .int), (k2, .int), (k3, .int), (k4, .int), (k5, .int), (k6, .int), (k7, .int)] s := hK
  have hP : va_P G vwCl [(x, .inr (1, [.int 0, .int 0, .int 0, .int 0, .int 0, .int 0, .int 0, .ref q1, .ref q2, .ref q3, .ref q4, .ref q5, .ref q6, .null])), (q1, .inl (k1, 25, .inl (fun _ => 0))), (q2, .inl (k2, 5, .inl (upd (upd (upd (upd (upd (fun _ => 0) 0 (nI 1000)) 1 (nI 1000)) 2 (nI 1000)) 3 (nI 1000)) 4 (nI 1000)))), (q3, .inl (k3, 5, .inl (fun _ => 0))), (q4, .inl (k4, 5, .inl (upd (upd (upd (upd (upd (fun _ => 0) 0 (nI 9999)) 1 (nI 9999)) 2 (nI 9999)) 3 (nI 9999)) 4 (nI 9999)))), (q5, .inl (k5, 5, .inl (fun _ => 0))), (q6, .inl (k6, 30, .inl (fun _ => 0))), (q7, .inl (k7, 50, .inl (fun _ => 0)))] H7 := hP
  have hD : va_D A [(x, .inr (1, [.int 0, .int 0, .int 0, .int 0, .int 0, .int 0, .int 0, .ref q1, .ref q2, .ref q3, .ref q4, .ref q5, .ref q6, .null])), (q1, .inl (k1, 25, .inl (fun _ => 0))), (q2, .inl (k2, 5, .inl (upd (upd (upd (upd (upd (fun _ => 0) 0 (nI 1000)) 1 (nI 1000)) 2 (nI 1000)) 3 (nI 1000)) 4 (nI 1000)))), (q3, .inl (k3, 5, .inl (fun _ => 0))), (q4, .inl (k4, 5, .inl (upd (upd (upd (upd (upd (fun _ => 0) 0 (nI 9999)) 1 (nI 9999)) 2 (nI 9999)) 3 (nI 9999)) 4 (nI 9999)))), (q5, .inl (k5, 5, .inl (fun _ => 0))), (q6, .inl (k6, 30, .inl (fun _ => 0))), (q7, .inl (k7, 50, .inl (fun _ => 0)))] := hD
  refine va_putF (D := G) (ci := 1) (v := .ref q7) (ty := .array .int) (C := RX1) (T := TX1) (N := 14) CF.1 CF.2.1 CF.2.2.2.2 inlX1 tyX1 tyX1_ok nmX1 CF.2.2.2.1 hK hP hD hS 0 rfl rfl 13 (by decide) (CF.2.2.2.2 _ (inr_2 _ (List.mem_of_getElem? (i := 8) rfl))) (fun _ h9 => h9) rfl hin rfl (by decide +kernel) rfl rfl (Nat.le_of_ble_eq_true rfl) dX1_init_113 (fun H locs hP hD hS => ?_)
  have hP : va_P G vwCl [(x, .inr (1, [.int 0, .int 0, .int 0, .int 0, .int 0, .int 0, .int 0, .ref q1, .ref q2, .ref q3, .ref q4, .ref q5, .ref q6, .ref q7])), (q1, .inl (k1, 25, .inl (fun _ => 0))), (q2, .inl (k2, 5, .inl (upd (upd (upd (upd (upd (fun _ => 0) 0 (nI 1000)) 1 (nI 1000)) 2 (nI 1000)) 3 (nI 1000)) 4 (nI 1000)))), (q3, .inl (k3, 5, .inl (fun _ => 0))), (q4, .inl (k4, 5, .inl (upd (upd (upd (upd (upd (fun _ => 0) 0 (nI 9999)) 1 (nI 9999)) 2 (nI 9999)) 3 (nI 9999)) 4 (nI 9999)))), (q5, .inl (k5, 5, .inl (fun _ => 0))), (q6, .inl (k6, 30, .inl (fun _ => 0))), (q7, .inl (k7, 50, .inl (fun _ => 0)))] H := hP
  have hD : va_D A [(x, .inr (1, [.int 0, .int 0, .int 0, .int 0, .int 0, .int 0, .int 0, .ref q1, .ref q2, .ref q3, .ref q4, .ref q5, .ref q6, .ref q7])), (q1, .inl (k1, 25, .inl (fun _ => 0))), (q2, .inl (k2, 5, .inl (upd (upd (upd (upd (upd (fun _ => 0) 0 (nI 1000)) 1 (nI 1000)) 2 (nI 1000)) 3 (nI 1000)) 4 (nI 1000)))), (q3, .inl (k3, 5, .inl (fun _ => 0))), (q4, .inl (k4, 5, .inl (upd (upd (upd (upd (upd (fun _ => 0) 0 (nI 9999)) 1 (nI 9999)) 2 (nI 9999)) 3 (nI 9999)) 4 (nI 9999)))), (q5, .inl (k5, 5, .inl (fun _ => 0))), (q6, .inl (k6, 30, .inl (fun _ => 0))), (q7, .inl (k7, 50, .inl (fun _ => 0)))] := hD
  obtain rfl : k1 = k2 := (ra_one (hK.2 0 _ rfl).2 (hK.2 1 _ rfl).2).symm
  obtain rfl : k1 = k3 := (ra_one (hK.2 0 _ rfl).2 (hK.2 2 _ rfl).2).symm
  obtain rfl : k1 = k4 := (ra_one (hK.2 0 _ rfl).2 (hK.2 3 _ rfl).2).symm
  obtain rfl : k1 = k5 := (ra_one (hK.2 0 _ rfl).2 (hK.2 4 _ rfl).2).symm
  obtain rfl : k1 = k6 := (ra_one (hK.2 0 _ rfl).2 (hK.2 5 _ rfl).2).symm
  obtain rfl : k1 = k7 := (ra_one (hK.2 0 _ rfl).2 (hK.2 6 _ rfl).2).symm
  have hK : KK G k1 s := hK.sub [0] rfl
  skip
  have hj : inj8 (ad8 x q1 q2 q3 q4 q5 q6 q7) := by
    intro i j hi hj2 hij
    have g : ∀ k, k < 8 → ∃ z, ([(x, .inr (1, [.int 0, .int 0, .int 0, .int 0, .int 0, .int 0, .int 0, .ref q1, .ref q2, .ref q3, .ref q4, .ref q5, .ref q6, .ref q7])), (q1, .inl (k1, 25, .inl (fun _ => 0))), (q2, .inl (k1, 5, .inl (upd (upd (upd (upd (upd (fun _ => 0) 0 (nI 1000)) 1 (nI 1000)) 2 (nI 1000)) 3 (nI 1000)) 4 (nI 1000)))), (q3, .inl (k1, 5, .inl (fun _ => 0))), (q4, .inl (k1, 5, .inl (upd (upd (upd (upd (upd (fun _ => 0) 0 (nI 9999)) 1 (nI 9999)) 2 (nI 9999)) 3 (nI 9999)) 4 (nI 9999)))), (q5, .inl (k1, 5, .inl (fun _ => 0))), (q6, .inl (k1, 30, .inl (fun _ => 0))), (q7, .inl (k1, 50, .inl (fun _ => 0)))] : va_W)[k]? = some (ad8 x q1 q2 q3 q4 q5 q6 q7 k, z) := fun k hk => by rcases (show k = 0 ∨ k = 1 ∨ k = 2 ∨ k = 3 ∨ k = 4 ∨ k = 5 ∨ k = 6 ∨ k = 7 by omega) with rfl | rfl | rfl | rfl | rfl | rfl | rfl | rfl <;> exact ⟨_, rfl⟩
    obtain ⟨z1, h1⟩ := g i hi
    obtain ⟨z2, h2⟩ := g j hj2
    exact hD.1 i j _ _ h1 h2 hij
  have hq1 : s.heap.size ≤ q1 := by
    have h := hD.2 1 _ rfl
    rw [← hAe] at h
    refine h.resolve_left (fun hz => ?_)
    have := hD.1 1 0 _ _ rfl rfl hz
    omega
  have hq2 : s.heap.size ≤ q2 := by
    have h := hD.2 2 _ rfl
    rw [← hAe] at h
    refine h.resolve_left (fun hz => ?_)
    have := hD.1 2 0 _ _ rfl rfl hz
    omega
  have hq3 : s.heap.size ≤ q3 := by
    have h := hD.2 3 _ rfl
    rw [← hAe] at h
    refine h.resolve_left (fun hz => ?_)
    have := hD.1 3 0 _ _ rfl rfl hz
    omega
  have hq4 : s.heap.size ≤ q4 := by
    have h := hD.2 4 _ rfl
    rw [← hAe] at h
    refine h.resolve_left (fun hz => ?_)
    have := hD.1 4 0 _ _ rfl rfl hz
    omega
  have hq5 : s.heap.size ≤ q5 := by
    have h := hD.2 5 _ rfl
    rw [← hAe] at h
    refine h.resolve_left (fun hz => ?_)
    have := hD.1 5 0 _ _ rfl rfl hz
    omega
  have hq6 : s.heap.size ≤ q6 := by
    have h := hD.2 6 _ rfl
    rw [← hAe] at h
    refine h.resolve_left (fun hz => ?_)
    have := hD.1 6 0 _ _ rfl rfl hz
    omega
  have hq7 : s.heap.size ≤ q7 := by
    have h := hD.2 7 _ rfl
    rw [← hAe] at h
    refine h.resolve_left (fun hz => ?_)
    have := hD.1 7 0 _ _ rfl rfl hz
    omega
  subst hAe
  have hP : va_P G vwCl (w1 (ad8 x q1 q2 q3 q4 q5 q6 q7) k1 (sgm (fun _ => 0) (c5 (nI 1000)) (fun _ => 0) (c5 (nI 9999)) (fun _ => 0) (fun _ => 0) (fun _ => 0))) H := hP
  have hb : Rc (sgm (fun _ => 0) (c5 (nI 1000)) (fun _ => 0) (c5 (nI 9999)) (fun _ => 0) (fun _ => 0) (fun _ => 0)) bs0 ∧ Ro (sgm (fun _ => 0) (c5 (nI 1000)) (fun _ => 0) (c5 (nI 9999)) (fun _ => 0) (fun _ => 0) (fun _ => 0)) bs0 := by
    refine bn_R (fun k j => ⟨fun h1 h2 => by subst h1; exact c5_at h2, fun h1 h2 => by subst h1; exact c5_at h2, fun h1 h2 => ?_⟩)
    rcases (show k = 0 ∨ k = 1 ∨ k = 3 ∨ k = 5 ∨ k = 6 ∨ k = 7 ∨ 8 ≤ k by omega) with rfl | rfl | rfl | rfl | rfl | rfl | h8
    all_goals try rfl
    obtain ⟨k, rfl⟩ : ∃ z, k = z + 8 := ⟨k - 8, by omega⟩
    rfl
  refine W_old (free := fun q => q = x) hS (fun locs' hS9 => ?_)
  exact W.vret CF.1 CF.2.1 hr (fun t9 ht9 hW9 => ⟨⟨(k1, (ad8 x q1 q2 q3 q4 q5 q6 q7), sgm (fun _ => 0) (c5 (nI 1000)) (fun _ => 0) (c5 (nI 9999)) (fun _ => 0) (fun _ => 0) (fun _ => 0)), rfl, ⟨rfl, (ad8_fr hq1 hq2 hq3 hq4 hq5 hq6 hq7), hj, hb.1, hb.2⟩, by rw [ht9]; exact hP, va_K.moved hW9.alike hK⟩, hS9.F ht9⟩) hS9.2.2 dX1_init_116
