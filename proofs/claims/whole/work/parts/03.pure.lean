/-! the abstract state b: row 0 day, spread, customers, waiting, changes, done; rows 1 to 7 rates, stocks, dust, limits, given, purses, orders -/
abbrev BS : Type := Nat → Nat → Nat
def aln (k : Nat) : Nat := if k = 1 then 25 else if k = 6 then 30 else 5
def Rc (σ : RS) (b : BS) : Prop := σ 0 0 = nI (b 0 0) ∧ σ 0 1 = nI (b 0 1) ∧ σ 0 2 = nI (b 0 2) ∧ σ 0 4 = nI (b 0 4) ∧ ∀ k i, 1 ≤ k → k ≤ 6 → i < aln k → σ k i = nI (b k i)
def Ro (σ : RS) (b : BS) : Prop := σ 0 3 = nI (b 0 3) ∧ σ 0 5 = nI (b 0 5) ∧ ∀ i, i < 5 * b 0 3 → σ 7 i = nI (b 7 i)
theorem Rc.a1 {σ : RS} {b : BS} (h : Rc σ b) {i : Nat} (hi : i < 25) : σ 1 i = nI (b 1 i) := h.2.2.2.2 1 i (by omega) (by omega) hi
theorem Rc.a2 {σ : RS} {b : BS} (h : Rc σ b) {i : Nat} (hi : i < 5) : σ 2 i = nI (b 2 i) := h.2.2.2.2 2 i (by omega) (by omega) hi
theorem Rc.a3 {σ : RS} {b : BS} (h : Rc σ b) {i : Nat} (hi : i < 5) : σ 3 i = nI (b 3 i) := h.2.2.2.2 3 i (by omega) (by omega) hi
theorem Rc.a4 {σ : RS} {b : BS} (h : Rc σ b) {i : Nat} (hi : i < 5) : σ 4 i = nI (b 4 i) := h.2.2.2.2 4 i (by omega) (by omega) hi
theorem Rc.a5 {σ : RS} {b : BS} (h : Rc σ b) {i : Nat} (hi : i < 5) : σ 5 i = nI (b 5 i) := h.2.2.2.2 5 i (by omega) (by omega) hi
theorem Rc.a6 {σ : RS} {b : BS} (h : Rc σ b) {i : Nat} (hi : i < 30) : σ 6 i = nI (b 6 i) := h.2.2.2.2 6 i (by omega) (by omega) hi
def InvC (b : BS) : Prop := b 0 1 ≤ 50 ∧ b 0 2 ≤ 6 ∧ (∀ i, i < 25 → b 1 i ≤ 9999) ∧ (∀ i, i < 5 → b 1 (i * 5 + i) = 0) ∧ (∀ i, i < 5 → b 2 i ≤ 999999 ∧ b 3 i ≤ 9999 ∧ b 4 i ≤ 99999 ∧ b 5 i ≤ 99999) ∧ ∀ i, i < 30 → b 6 i ≤ 999999
def InvO (b : BS) : Prop := b 0 3 ≤ 10 ∧ ∀ p, p < b 0 3 → b 7 (p * 5) < b 0 2 ∧ b 7 (p * 5 + 1) < 5 ∧ b 7 (p * 5 + 2) < 5 ∧ b 7 (p * 5 + 1) ≠ b 7 (p * 5 + 2) ∧ 1 ≤ b 7 (p * 5 + 3) ∧ b 7 (p * 5 + 3) ≤ 99999 ∧ 1 ≤ b 7 (p * 5 + 4) ∧ b 7 (p * 5 + 4) ≤ 99999
def upN (b : BS) (k i v : Nat) : BS := fun a j => if a = k ∧ j = i then v else b a j
/-- a change's tenthousandths, and the whole ones -/
def pr (b : BS) (f t a : Nat) : Nat := a * b 1 (f * 5 + t) * (100 - b 0 1)
def gv (b : BS) (f t a : Nat) : Nat := pr b f t a / 10000
theorem nI_ex {x : Int32} {n : Nat} (h0 : 0 ≤ x.toInt) (h1 : x.toInt < (n : Int)) : ∃ j : Nat, j < n ∧ x = nI j := by
  have hn : ¬ x < 0 := by rw [Int32.lt_iff_toInt_lt, show (0 : Int32).toInt = 0 by decide]; omega
  obtain ⟨j, hj, rfl⟩ := nI_of hn
  rw [nI_toInt hj] at h1
  exact ⟨j, by omega, rfl⟩
theorem mnL {a b : Nat} (ha : a < 9223372036854775808) (hb : b < 9223372036854775808) : (if lN b < lN a then lN b else lN a) = lN (min a b) := by
  by_cases h : b < a
  · rw [if_pos ((pk_lLT hb ha).mpr h), Nat.min_eq_right (by omega)]
  · rw [if_neg (fun z => h ((pk_lLT hb ha).mp z)), Nat.min_eq_left (by omega)]
theorem mxL {a b : Nat} (ha : a < 9223372036854775808) (hb : b < 9223372036854775808) : (if lN b < lN a then lN a else lN b) = lN (max a b) := by
  by_cases h : b < a
  · rw [if_pos ((pk_lLT hb ha).mpr h), Nat.max_eq_left (by omega)]
  · rw [if_neg (fun z => h ((pk_lLT hb ha).mp z)), Nat.max_eq_right (by omega)]
theorem mnI {a b : Nat} (ha : a < 2147483648) (hb : b < 2147483648) : (if nI b < nI a then nI b else nI a) = nI (min a b) := by
  by_cases h : b < a
  · rw [if_pos ((nI_ltI hb ha).mpr h), Nat.min_eq_right (by omega)]
  · rw [if_neg (fun z => h ((nI_ltI hb ha).mp z)), Nat.min_eq_left (by omega)]
theorem lne {n : Nat} (h0 : 0 < n) (h : n < 9223372036854775808) : ¬ lN n = 0 := by
  intro z
  have h1 := lNz h
  rw [z, show (0 : Int64).toInt = 0 by decide] at h1
  omega
theorem ine {n : Nat} (h0 : 0 < n) (h : n < 2147483648) : ¬ nI n = 0 := by
  intro z
  have h1 := nIz h
  rw [z, show (0 : Int32).toInt = 0 by decide] at h1
  omega
theorem andI (a b : Nat) : nI a &&& nI b = nI (a &&& b) := by
  apply Int32.toBitVec_inj.1
  show BitVec.ofNat 32 a &&& BitVec.ofNat 32 b = BitVec.ofNat 32 (a &&& b)
  apply BitVec.eq_of_getLsbD_eq
  intro i hi
  simp [hi]
theorem orI (a b : Nat) : nI a ||| nI b = nI (a ||| b) := by
  apply Int32.toBitVec_inj.1
  show BitVec.ofNat 32 a ||| BitVec.ofNat 32 b = BitVec.ofNat 32 (a ||| b)
  apply BitVec.eq_of_getLsbD_eq
  intro i hi
  simp [hi]
theorem up_s {σ : RS} {k i : Nat} {x : Int32} : up σ k i x k i = x := by simp [up, upd]
theorem up_k {σ : RS} {k i a j : Nat} {x : Int32} (h : a ≠ k) : up σ k i x a j = σ a j := by simp [up, h]
theorem up_i {σ : RS} {k i j : Nat} {x : Int32} (h : j ≠ i) : up σ k i x k j = σ k j := by simp [up, upd, h]
theorem upN_s {b : BS} {k i v : Nat} : upN b k i v k i = v := by simp [upN]
theorem upN_k {b : BS} {k i v a j : Nat} (h : a ≠ k) : upN b k i v a j = b a j := by simp [upN, h]
theorem upN_i {b : BS} {k i v j : Nat} (h : j ≠ i) : upN b k i v k j = b k j := by simp [upN, h]
theorem up_n {σ : RS} {b : BS} {k i v a j : Nat} (h : σ a j = nI (b a j)) : up σ k i (nI v) a j = nI (upN b k i v a j) := by
  by_cases ha : a = k
  · subst ha
    by_cases hj : j = i
    · subst hj; rw [up_s, upN_s]
    · rw [up_i hj, upN_i hj, h]
  · rw [up_k ha, upN_k ha, h]
theorem Rc_up {σ : RS} {b : BS} (h : Rc σ b) (k i v : Nat) : Rc (up σ k i (nI v)) (upN b k i v) := by
  obtain ⟨h1, h2, h3, h4, h5⟩ := h
  exact ⟨up_n h1, up_n h2, up_n h3, up_n h4, fun a j ha hb hj => up_n (h5 a j ha hb hj)⟩
theorem Rc_to {σ : RS} {b b' : BS} (h : Rc σ b) (h0 : b' 0 0 = b 0 0) (h1 : b' 0 1 = b 0 1) (h2 : b' 0 2 = b 0 2) (h4 : b' 0 4 = b 0 4) (ha : ∀ k i, 1 ≤ k → k ≤ 6 → i < aln k → b' k i = b k i) : Rc σ b' := by
  obtain ⟨q1, q2, q3, q4, q5⟩ := h
  exact ⟨by rw [h0]; exact q1, by rw [h1]; exact q2, by rw [h2]; exact q3, by rw [h4]; exact q4, fun k i a c d => by rw [ha k i a c d]; exact q5 k i a c d⟩
theorem Ro_up {σ : RS} {b : BS} (h : Ro σ b) {k : Nat} (hk : k ≠ 0 ∧ k ≠ 7) (i : Nat) (x : Int32) (v : Nat) : Ro (up σ k i x) (upN b k i v) := by
  obtain ⟨h1, h2, h3⟩ := h
  refine ⟨by rw [up_k (Ne.symm hk.1), upN_k (Ne.symm hk.1)]; exact h1, by rw [up_k (Ne.symm hk.1), upN_k (Ne.symm hk.1)]; exact h2, fun j hj => ?_⟩
  rw [upN_k (Ne.symm hk.1)] at hj
  rw [up_k (Ne.symm hk.2), upN_k (Ne.symm hk.2)]
  exact h3 j hj
/-- orders, their number and the number of done ones stay -/
def Sm (σ σ' : RS) : Prop := σ' 7 = σ 7 ∧ σ' 0 3 = σ 0 3 ∧ σ' 0 5 = σ 0 5 ∧ σ' 0 6 = σ 0 6
theorem Sm_rf {σ : RS} : Sm σ σ := ⟨rfl, rfl, rfl, rfl⟩
theorem Sm_up {σ σ' : RS} (h : Sm σ σ') {k i : Nat} {x : Int32} (hk : k ≠ 7 ∧ (k ≠ 0 ∨ (i ≠ 3 ∧ i ≠ 5 ∧ i ≠ 6))) : Sm σ (up σ' k i x) := by
  obtain ⟨h1, h2, h3, h4⟩ := h
  have K : ∀ j, (j = 3 ∨ j = 5 ∨ j = 6) → up σ' k i x 0 j = σ' 0 j := fun j hj => by
    by_cases h0 : k = 0
    · subst h0
      rw [up_i (by omega)]
    · rw [up_k (Ne.symm h0)]
  refine ⟨?_, by rw [K 3 (by omega), h2], by rw [K 5 (by omega), h3], by rw [K 6 (by omega), h4]⟩
  funext j; rw [up_k (Ne.symm hk.1), h1]
theorem Sm_tr {σ σ1 σ2 : RS} (h : Sm σ σ1) (h2 : Sm σ1 σ2) : Sm σ σ2 := ⟨h2.1.trans h.1, h2.2.1.trans h.2.1, h2.2.2.1.trans h.2.2.1, h2.2.2.2.trans h.2.2.2⟩
theorem Rc_th {σ σ' : RS} {b : BS} {x : Int32} (h : Rc σ b) (hs : σ' = up σ 0 6 x) : Rc σ' b := by
  obtain ⟨h1, h2, h3, h4, h5⟩ := h
  subst hs
  exact ⟨by rw [up_i (by decide)]; exact h1, by rw [up_i (by decide)]; exact h2, by rw [up_i (by decide)]; exact h3, by rw [up_i (by decide)]; exact h4, fun k i a c d => by rw [up_k (by omega)]; exact h5 k i a c d⟩
theorem Ro_th {σ σ' : RS} {b : BS} {x : Int32} (h : Ro σ b) (hs : σ' = up σ 0 6 x) : Ro σ' b := by
  obtain ⟨h1, h2, h3⟩ := h
  subst hs
  exact ⟨by rw [up_i (by decide)]; exact h1, by rw [up_i (by decide)]; exact h2, fun i hi => by rw [up_k (by decide)]; exact h3 i hi⟩
theorem pr_le {b : BS} (hI : InvC b) {f t a A : Nat} (hf : f < 5) (ht : t < 5) (ha : a ≤ A) : pr b f t a ≤ A * 999900 := by
  have h1 := hI.2.2.1 (f * 5 + t) (by omega)
  have h2 : 100 - b 0 1 ≤ 100 := by omega
  have h3 : a * b 1 (f * 5 + t) ≤ A * 9999 := Nat.mul_le_mul ha h1
  calc pr b f t a = a * b 1 (f * 5 + t) * (100 - b 0 1) := rfl
    _ ≤ A * 9999 * 100 := Nat.mul_le_mul h3 h2
    _ = A * 999900 := by omega
/-- more dust: what is whole of it goes into stock -/
def kd (b : BS) (t x : Nat) : BS := upN (upN b 2 t (min (b 2 t + (b 3 t + x) / 10000) 999999)) 3 t ((b 3 t + x) % 10000)
/-- a change is done -/
def dc0 (b : BS) (u f t a : Nat) : BS := upN (upN (upN (upN (upN (upN b 6 (u * 5 + f) (b 6 (u * 5 + f) - a)) 6 (u * 5 + t) (min (b 6 (u * 5 + t) + gv b f t a) 999999)) 2 f (min (b 2 f + a) 999999)) 2 t (b 2 t - gv b f t a)) 5 t (b 5 t + gv b f t a)) 0 4 (b 0 4 + 1)
def dc (b : BS) (u f t a : Nat) : BS := kd (dc0 b u f t a) t (pr b f t a % 10000)
/-- it can be done, and gives at least k -/
abbrev okN (b : BS) (u f t a k : Nat) : Prop := f ≠ t ∧ 1 ≤ a ∧ a ≤ b 6 (u * 5 + f) ∧ 1 ≤ gv b f t a ∧ gv b f t a ≤ b 2 t ∧ b 5 t + gv b f t a ≤ b 4 t ∧ k ≤ gv b f t a
theorem kd_rc {σ : RS} {b : BS} {t x s d : Nat} (h : Rc σ (upN (upN b 2 t s) 3 t d)) (hs : s = min (b 2 t + (b 3 t + x) / 10000) 999999) (hd : d = (b 3 t + x) % 10000) : Rc σ (kd b t x) := by rw [hs, hd] at h; exact h
