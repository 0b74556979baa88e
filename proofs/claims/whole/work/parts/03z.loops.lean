/-! loops: a counter i from i0 to N; L: what the locals hold at the head; I: what holds of the raw state -/
section LP
variable {p : Program} {l : Launch} {e : Env} {R : Room} {s : State} {m : MethodId} {args : Array Value} {below : List Frame} {meth : Method} {c : Code} {H : Heap} {locs : List Loc} {cells slots : Nat} {Q : State → Prop}
variable {pc nL : Nat} {ls0 : Array Slot} {G : va_G} {cA : ClassId} {ad : Nat → Nat} {A : Nat → Prop} {H0 : Heap}
theorem loop_ro (L : Nat → List (Nat × Value)) (N i0 : Nat) (h0 : lv_has ls0 nL (L i0)) (hi0 : i0 ≤ N)
    (hs : ∀ i, i0 ≤ i → i ≤ N → (∀ ls, i < N → lv_has ls nL (L (i + 1)) → W p l e R s m args below meth c H locs cells slots Q (F0 m pc ls [])) → ∀ ls, lv_has ls nL (L i) → W p l e R s m args below meth c H locs cells slots Q (F0 m pc ls [])) :
    W p l e R s m args below meth c H locs cells slots Q (F0 m pc ls0 []) := by
  have K : ∀ n i, i0 ≤ i → i ≤ N → N ≤ i + n → ∀ ls, lv_has ls nL (L i) → W p l e R s m args below meth c H locs cells slots Q (F0 m pc ls []) := by
    intro n
    induction n with
    | zero => exact fun i ha h1 h2 ls hl => hs i ha h1 (fun ls hlt _ => absurd hlt (by omega)) ls hl
    | succ n ih => exact fun i ha h1 h2 ls hl => hs i ha h1 (fun ls hlt hl => ih (i + 1) (by omega) (by omega) (by omega) ls hl) ls hl
  exact K (N - i0) i0 (Nat.le_refl _) hi0 (by omega) ls0 h0
/-- .. with a ghost x that changes at each turn (x is known at every i) -/
theorem loop_gh {α : Type} (L : Nat → α → List (Nat × Value)) (I : Nat → α → Prop) (N i0 : Nat) (x0 : α) (hI0 : I i0 x0) (h0 : lv_has ls0 nL (L i0 x0)) (hi0 : i0 ≤ N)
    (hs : ∀ i x, i0 ≤ i → i ≤ N → I i x → (∀ x' ls, i < N → I (i + 1) x' → lv_has ls nL (L (i + 1) x') → W p l e R s m args below meth c H locs cells slots Q (F0 m pc ls [])) → ∀ ls, lv_has ls nL (L i x) → W p l e R s m args below meth c H locs cells slots Q (F0 m pc ls [])) :
    W p l e R s m args below meth c H locs cells slots Q (F0 m pc ls0 []) := by
  have K : ∀ n i x, i0 ≤ i → i ≤ N → N ≤ i + n → I i x → ∀ ls, lv_has ls nL (L i x) → W p l e R s m args below meth c H locs cells slots Q (F0 m pc ls []) := by
    intro n
    induction n with
    | zero => exact fun i x ha h1 h2 hx ls hl => hs i x ha h1 hx (fun x' ls hlt _ _ => absurd hlt (by omega)) ls hl
    | succ n ih => exact fun i x ha h1 h2 hx ls hl => hs i x ha h1 hx (fun x' ls hlt hx' hl => ih (i + 1) x' (by omega) (by omega) (by omega) hx' ls hl) ls hl
  exact K (N - i0) i0 x0 (Nat.le_refl _) hi0 (by omega) hI0 ls0 h0
theorem loop_rw0 {α : Type} (L : Nat → α → List (Nat × Value)) (I : Nat → α → RS → Prop) (N i0 : Nat) (x0 : α) {σ0 : RS} (hI0 : I i0 x0 σ0) (hP0 : va_P G vwCl (w0 ad cA σ0) H) (hS0 : va_S A H0 H locs) (h0 : lv_has ls0 nL (L i0 x0)) (hi0 : i0 ≤ N)
    (hs : ∀ i x σ H locs, i0 ≤ i → i ≤ N → I i x σ → va_P G vwCl (w0 ad cA σ) H → va_S A H0 H locs → (∀ x' σ' H' locs' ls, i < N → I (i + 1) x' σ' → va_P G vwCl (w0 ad cA σ') H' → va_S A H0 H' locs' → lv_has ls nL (L (i + 1) x') → W p l e R s m args below meth c H' locs' cells slots Q (F0 m pc ls [])) → ∀ ls, lv_has ls nL (L i x) → W p l e R s m args below meth c H locs cells slots Q (F0 m pc ls [])) :
    W p l e R s m args below meth c H locs cells slots Q (F0 m pc ls0 []) := by
  have K : ∀ n i x σ H locs, i0 ≤ i → i ≤ N → N ≤ i + n → I i x σ → va_P G vwCl (w0 ad cA σ) H → va_S A H0 H locs → ∀ ls, lv_has ls nL (L i x) → W p l e R s m args below meth c H locs cells slots Q (F0 m pc ls []) := by
    intro n
    induction n with
    | zero => exact fun i x σ H locs ha h1 h2 hx hP hS ls hl => hs i x σ H locs ha h1 hx hP hS (fun x' σ' H' locs' ls hlt _ _ _ _ => absurd hlt (by omega)) ls hl
    | succ n ih => exact fun i x σ H locs ha h1 h2 hx hP hS ls hl => hs i x σ H locs ha h1 hx hP hS (fun x' σ' H' locs' ls hlt hx' hP hS hl => ih (i + 1) x' σ' H' locs' (by omega) (by omega) (by omega) hx' hP hS ls hl) ls hl
  exact K (N - i0) i0 x0 σ0 H locs (Nat.le_refl _) hi0 (by omega) hI0 hP0 hS0 ls0 h0
theorem loop_rw1 {α : Type} (L : Nat → α → List (Nat × Value)) (I : Nat → α → RS → Prop) (N i0 : Nat) (x0 : α) {σ0 : RS} (hI0 : I i0 x0 σ0) (hP0 : va_P G vwCl (w1 ad cA σ0) H) (hS0 : va_S A H0 H locs) (h0 : lv_has ls0 nL (L i0 x0)) (hi0 : i0 ≤ N)
    (hs : ∀ i x σ H locs, i0 ≤ i → i ≤ N → I i x σ → va_P G vwCl (w1 ad cA σ) H → va_S A H0 H locs → (∀ x' σ' H' locs' ls, i < N → I (i + 1) x' σ' → va_P G vwCl (w1 ad cA σ') H' → va_S A H0 H' locs' → lv_has ls nL (L (i + 1) x') → W p l e R s m args below meth c H' locs' cells slots Q (F0 m pc ls [])) → ∀ ls, lv_has ls nL (L i x) → W p l e R s m args below meth c H locs cells slots Q (F0 m pc ls [])) :
    W p l e R s m args below meth c H locs cells slots Q (F0 m pc ls0 []) := by
  have K : ∀ n i x σ H locs, i0 ≤ i → i ≤ N → N ≤ i + n → I i x σ → va_P G vwCl (w1 ad cA σ) H → va_S A H0 H locs → ∀ ls, lv_has ls nL (L i x) → W p l e R s m args below meth c H locs cells slots Q (F0 m pc ls []) := by
    intro n
    induction n with
    | zero => exact fun i x σ H locs ha h1 h2 hx hP hS ls hl => hs i x σ H locs ha h1 hx hP hS (fun x' σ' H' locs' ls hlt _ _ _ _ => absurd hlt (by omega)) ls hl
    | succ n ih => exact fun i x σ H locs ha h1 h2 hx hP hS ls hl => hs i x σ H locs ha h1 hx hP hS (fun x' σ' H' locs' ls hlt hx' hP hS hl => ih (i + 1) x' σ' H' locs' (by omega) (by omega) (by omega) hx' hP hS ls hl) ls hl
  exact K (N - i0) i0 x0 σ0 H locs (Nat.le_refl _) hi0 (by omega) hI0 hP0 hS0 ls0 h0
end LP
/-- sums over customers, rates that are not 0 -/
def alls (b : BS) (t : Nat) : Nat → Nat | 0 => 0 | i + 1 => alls b t i + b 6 (i * 5 + t)
def nzr (b : BS) : Nat → Nat | 0 => 0 | i + 1 => nzr b i + (if b 1 i = 0 then 0 else 1)
theorem alls_le {b : BS} (hI : InvC b) {t : Nat} (ht : t < 5) : ∀ i, i ≤ 6 → alls b t i ≤ i * 999999
  | 0, _ => by simp [alls]
  | i + 1, h => by
    have h1 := alls_le hI ht i (by omega)
    have h2 := hI.2.2.2.2.2 (i * 5 + t) (by omega)
    show alls b t i + b 6 (i * 5 + t) ≤ (i + 1) * 999999
    omega
theorem nzr_le {b : BS} : ∀ i, nzr b i ≤ i
  | 0 => by simp [nzr]
  | i + 1 => by
    have h1 := nzr_le (b := b) i
    show nzr b i + (if b 1 i = 0 then 0 else 1) ≤ i + 1
    split <;> omega
theorem nzr_s0 {b : BS} {i : Nat} (h : b 1 i = 0) : nzr b (i + 1) = nzr b i := by show nzr b i + (if b 1 i = 0 then 0 else 1) = _; rw [if_pos h]; rfl
theorem nzr_s1 {b : BS} {i : Nat} (h : ¬ b 1 i = 0) : nzr b (i + 1) = nzr b i + 1 := by show nzr b i + (if b 1 i = 0 then 0 else 1) = _; rw [if_neg h]
def fmo (b : BS) (t w : Nat) : Nat := if w = 0 then b 2 t else if w = 1 then b 3 t else if w = 2 then b 4 t else if w = 3 then b 5 t else alls b t (b 0 2)
def fbo (b : BS) (w : Nat) : Nat := if w = 0 then b 0 0 else if w = 1 then b 0 1 else if w = 2 then b 0 2 else if w = 3 then b 0 3 else if w = 4 then nzr b 25 else if w = 5 then b 0 4 else b 0 5
/-- cells of one order copied to another place -/
def mvI (σ : RS) (q k n : Nat) : RS := fun a j => if a = 7 ∧ k * 5 ≤ j ∧ j < k * 5 + n then σ 7 (q * 5 + (j - k * 5)) else σ a j
theorem mvI_0 {σ : RS} {q k : Nat} : mvI σ q k 0 = σ := by
  funext a j
  unfold mvI
  rw [if_neg (by omega)]
theorem mvI_rd {σ : RS} {q k n : Nat} (hn : n < 5) : mvI σ q k n 7 (q * 5 + n) = σ 7 (q * 5 + n) := by
  unfold mvI
  split
  · next h => congr 1; omega
  · rfl
theorem mvI_up {σ : RS} {q k n : Nat} : up (mvI σ q k n) 7 (k * 5 + n) (σ 7 (q * 5 + n)) = mvI σ q k (n + 1) := by
  funext a j
  by_cases ha : a = 7
  · subst ha
    by_cases hj : j = k * 5 + n
    · subst hj
      rw [up_s]
      unfold mvI
      rw [if_pos ⟨rfl, by omega, by omega⟩]
      congr 1; omega
    · rw [up_i hj]
      unfold mvI
      by_cases h : 7 = 7 ∧ k * 5 ≤ j ∧ j < k * 5 + n
      · rw [if_pos h, if_pos ⟨rfl, h.2.1, by omega⟩]
      · rw [if_neg h, if_neg (by omega)]
  · rw [up_k ha]
    unfold mvI
    rw [if_neg (fun h => ha h.1), if_neg (fun h => ha h.1)]
/-- the order at p can be done, and gives what it asks for -/
abbrev dueN (b : BS) (p : Nat) : Prop := okN b (b 7 (p * 5)) (b 7 (p * 5 + 1)) (b 7 (p * 5 + 2)) (b 7 (p * 5 + 3)) (b 7 (p * 5 + 4))
def dorder (b : BS) (p : Nat) : BS := dc b (b 7 (p * 5)) (b 7 (p * 5 + 1)) (b 7 (p * 5 + 2)) (b 7 (p * 5 + 3))
def takeN (b : BS) (p : Nat) : BS := fun a j => if a = 0 ∧ j = 3 then b 0 3 - 1 else if a = 7 then (if j < p * 5 then b 7 j else b 7 (j + 5)) else b a j
def lkS (x : BS × Nat) : BS × Nat := if dueN x.1 x.2 then (upN (takeN (dorder x.1 x.2) x.2) 0 5 (x.1 0 5 + 1), x.2) else (x.1, x.2 + 1)
def lkN (b : BS) : Nat → BS × Nat | 0 => (b, 0) | n + 1 => lkS (lkN b n)
/-- the booth behind a look at all orders -/
def lka (b : BS) : BS := (lkN b (b 0 3)).1
theorem dc_7 {b : BS} {u f t a : Nat} : dc b u f t a 7 = b 7 := by
  funext j
  simp [dc, kd, dc0, upN]
theorem dc_03 {b : BS} {u f t a : Nat} : dc b u f t a 0 3 = b 0 3 := by simp [dc, kd, dc0, upN]
theorem dc_05 {b : BS} {u f t a : Nat} : dc b u f t a 0 5 = b 0 5 := by simp [dc, kd, dc0, upN]
theorem dc_02 {b : BS} {u f t a : Nat} : dc b u f t a 0 2 = b 0 2 := by simp [dc, kd, dc0, upN]
theorem dc_1 {b : BS} {u f t a : Nat} : dc b u f t a 1 = b 1 := by
  funext j
  simp [dc, kd, dc0, upN]
theorem dc_01 {b : BS} {u f t a : Nat} : dc b u f t a 0 1 = b 0 1 := by simp [dc, kd, dc0, upN]
theorem InvC_dc {b : BS} {u f t a k : Nat} (hI : InvC b) (hu : u < b 0 2) (hf : f < 5) (ht : t < 5) (hk : okN b u f t a k) : InvC (dc b u f t a) := by
  obtain ⟨i1, i2, i3, i4, i5, i6⟩ := hI
  obtain ⟨k1, k2, k3, k4, k5, k6, k7⟩ := hk
  have hd := i5 t ht
  have hdf := i5 f hf
  refine ⟨by rw [dc_01]; exact i1, by rw [dc_02]; exact i2, fun i hi => by rw [dc_1]; exact i3 i hi, fun i hi => by rw [dc_1]; exact i4 i hi, fun i hi => ?_, fun i hi => ?_⟩
  · have h5 := i5 i hi
    refine ⟨?_, ?_, ?_, ?_⟩ <;> simp [dc, kd, dc0, upN] <;> (try split) <;> (try split) <;> omega
  · have h6 := i6 i hi
    have h7 := i6 (u * 5 + f) (by omega)
    have h8 := i6 (u * 5 + t) (by omega)
    simp [dc, kd, dc0, upN]
    (try split) <;> (try split) <;> omega
theorem takeN_k {b : BS} {p a j : Nat} (h : a ≠ 7) (h2 : a ≠ 0 ∨ j ≠ 3) : takeN b p a j = b a j := by
  unfold takeN
  rw [if_neg (by omega), if_neg h]
theorem takeN_w {b : BS} {p : Nat} : takeN b p 0 3 = b 0 3 - 1 := by simp [takeN]
theorem takeN_7 {b : BS} {p j : Nat} : takeN b p 7 j = if j < p * 5 then b 7 j else b 7 (j + 5) := by simp [takeN]
theorem InvC_to {b b' : BS} (hI : InvC b) (h1 : b' 0 1 = b 0 1) (h2 : b' 0 2 = b 0 2) (ha : ∀ k i, 1 ≤ k → k ≤ 6 → b' k i = b k i) : InvC b' := by
  obtain ⟨i1, i2, i3, i4, i5, i6⟩ := hI
  refine ⟨by rw [h1]; exact i1, by rw [h2]; exact i2, fun i hi => by rw [ha 1 i (by omega) (by omega)]; exact i3 i hi, fun i hi => by rw [ha 1 _ (by omega) (by omega)]; exact i4 i hi, fun i hi => ?_, fun i hi => by rw [ha 6 i (by omega) (by omega)]; exact i6 i hi⟩
  rw [ha 2 i (by omega) (by omega), ha 3 i (by omega) (by omega), ha 4 i (by omega) (by omega), ha 5 i (by omega) (by omega)]
  exact i5 i hi
theorem InvO_take {b b' : BS} {p : Nat} (hO : InvO b) (h3 : b' 0 3 = b 0 3 - 1) (h2 : b' 0 2 = b 0 2) (h7 : ∀ j, b' 7 j = if j < p * 5 then b 7 j else b 7 (j + 5)) : InvO b' := by
  obtain ⟨o1, o2⟩ := hO
  refine ⟨by omega, fun q hq => ?_⟩
  rw [h3] at hq
  by_cases h : q < p
  · have := o2 q (by omega)
    rw [h7, h7, h7, h7, h7, h2, if_pos (by omega), if_pos (by omega), if_pos (by omega), if_pos (by omega), if_pos (by omega)]
    exact this
  · have := o2 (q + 1) (by omega)
    rw [h7, h7, h7, h7, h7, h2, if_neg (by omega), if_neg (by omega), if_neg (by omega), if_neg (by omega), if_neg (by omega)]
    rw [show (q + 1) * 5 = q * 5 + 5 by omega] at this
    rw [show q * 5 + 1 + 5 = q * 5 + 5 + 1 by omega, show q * 5 + 2 + 5 = q * 5 + 5 + 2 by omega, show q * 5 + 3 + 5 = q * 5 + 5 + 3 by omega, show q * 5 + 4 + 5 = q * 5 + 5 + 4 by omega]
    exact this
def lkA (b : BS) (p : Nat) : BS := upN (takeN (dorder b p) p) 0 5 (b 0 5 + 1)
theorem lkS_y {b : BS} {p : Nat} (h : dueN b p) : lkS (b, p) = (lkA b p, p) := if_pos h
theorem lkS_n {b : BS} {p : Nat} (h : ¬ dueN b p) : lkS (b, p) = (b, p + 1) := if_neg h
theorem lkA_03 {b : BS} {p : Nat} : lkA b p 0 3 = b 0 3 - 1 := by
  unfold lkA dorder
  rw [upN_i (by omega), takeN_w, dc_03]
theorem lkA_02 {b : BS} {p : Nat} : lkA b p 0 2 = b 0 2 := by
  unfold lkA dorder
  rw [upN_i (by omega), takeN_k (by omega) (by omega), dc_02]
theorem lkA_05 {b : BS} {p : Nat} : lkA b p 0 5 = b 0 5 + 1 := upN_s
theorem lkA_7 {b : BS} {p j : Nat} : lkA b p 7 j = if j < p * 5 then b 7 j else b 7 (j + 5) := by
  unfold lkA dorder
  rw [upN_k (by omega), takeN_7, dc_7]
theorem lkA_k {b : BS} {p k i : Nat} (h : k ≠ 7) (h2 : k ≠ 0 ∨ (i ≠ 3 ∧ i ≠ 5)) : lkA b p k i = dorder b p k i := by
  unfold lkA
  by_cases h0 : k = 0
  · subst h0
    rw [upN_i (by omega), takeN_k (by omega) (by omega)]
  · rw [upN_k h0, takeN_k h (by omega)]
theorem InvC_lkA {b : BS} {p : Nat} (hI : InvC b) (hO : InvO b) (hp : p < b 0 3) (hd : dueN b p) : InvC (lkA b p) := by
  obtain ⟨o1, o2, o3, o4, o5, o6, o7, o8⟩ := hO.2 p hp
  have h := InvC_dc hI o1 o2 o3 hd
  refine InvC_to h ?_ ?_ ?_
  · rw [lkA_k (by omega) (by omega)]; rfl
  · rw [lkA_k (by omega) (by omega)]; rfl
  · intro k i h1 h2
    rw [lkA_k (by omega) (by omega)]; rfl
theorem InvO_lkA {b : BS} {p : Nat} (hO : InvO b) : InvO (lkA b p) := InvO_take hO lkA_03 lkA_02 (fun _ => lkA_7)
theorem lk_inv {b : BS} (hI : InvC b) (hO : InvO b) : ∀ n, n ≤ b 0 3 → InvC (lkN b n).1 ∧ InvO (lkN b n).1 ∧ (lkN b n).2 ≤ n ∧ (lkN b n).1 0 3 + n = b 0 3 + (lkN b n).2 ∧ (lkN b n).1 0 5 + (lkN b n).2 = b 0 5 + n ∧ (lkN b n).1 0 2 = b 0 2
  | 0, _ => ⟨hI, hO, Nat.le_refl _, rfl, rfl, rfl⟩
  | n + 1, h => by
    obtain ⟨j1, j2, j3, j4, j5, j6⟩ := lk_inv hI hO n (by omega)
    show InvC (lkS (lkN b n)).1 ∧ InvO (lkS (lkN b n)).1 ∧ (lkS (lkN b n)).2 ≤ n + 1 ∧ (lkS (lkN b n)).1 0 3 + (n + 1) = b 0 3 + (lkS (lkN b n)).2 ∧ (lkS (lkN b n)).1 0 5 + (lkS (lkN b n)).2 = b 0 5 + (n + 1) ∧ (lkS (lkN b n)).1 0 2 = b 0 2
    generalize lkN b n = x at *
    obtain ⟨c, k⟩ := x
    dsimp only at *
    by_cases hd : dueN c k
    · rw [lkS_y hd]
      refine ⟨InvC_lkA j1 j2 (by omega) hd, InvO_lkA j2, by omega, ?_, ?_, ?_⟩
      · show lkA c k 0 3 + (n + 1) = b 0 3 + k
        rw [lkA_03]; omega
      · show lkA c k 0 5 + k = b 0 5 + (n + 1)
        rw [lkA_05]; omega
      · show lkA c k 0 2 = b 0 2
        rw [lkA_02]; exact j6
    · rw [lkS_n hd]
      exact ⟨j1, j2, by show k + 1 ≤ n + 1; omega, by show c 0 3 + (n + 1) = b 0 3 + (k + 1); omega, by show c 0 5 + (k + 1) = b 0 5 + (n + 1); omega, j6⟩
