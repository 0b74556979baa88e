theorem aw_tb : ∀ w ∈ AW, w ∈ lw_tbl := List.forall_mem_append.mpr ⟨List.forall_mem_append.mpr ⟨List.forall_mem_append.mpr ⟨List.forall_mem_append.mpr ⟨List.forall_mem_append.mpr ⟨List.forall_mem_append.mpr ⟨List.forall_mem_append.mpr ⟨tb_1, List.forall_mem_append.mpr ⟨tb_2, List.forall_mem_append.mpr ⟨tb_3, List.forall_mem_append.mpr ⟨tb_4, List.forall_mem_append.mpr ⟨tb_5, List.forall_mem_append.mpr ⟨tb_6, List.forall_mem_append.mpr ⟨tb_7, List.forall_mem_append.mpr ⟨tb_8, List.forall_mem_append.mpr ⟨tb_9, List.forall_mem_append.mpr ⟨tb_10, List.forall_mem_append.mpr ⟨tb_11, List.forall_mem_append.mpr ⟨tb_12, List.forall_mem_append.mpr ⟨tb_13, List.forall_mem_append.mpr ⟨tb_14, List.forall_mem_append.mpr ⟨tb_15, List.forall_mem_append.mpr ⟨tb_16, List.forall_mem_append.mpr ⟨tb_17, List.forall_mem_append.mpr ⟨tb_18, List.forall_mem_append.mpr ⟨tb_19, List.forall_mem_append.mpr ⟨tb_20, tb_21⟩⟩⟩⟩⟩⟩⟩⟩⟩⟩⟩⟩⟩⟩⟩⟩⟩⟩⟩⟩, tbX0⟩, tbX1⟩, fun _ h => absurd h List.not_mem_nil⟩, tbE0⟩, tbE1⟩, tbE2⟩
theorem str_ref {args : Array Value} {s : State} {k : Nat} {tx : String} (h1 : (Cond.stringRef RX0 k tx).before args s = true) (h2 : (Cond.exactly (Term.string RX0 k) "java/lang/String").before args s = true) : ∃ a, vk_R RX0 k tx a s := by
  obtain ⟨a, c, cell, k9, q1, -⟩ := Cond.exactly_spec h2
  exact ⟨a, vk_R.of h1 q1⟩
set_option maxRecDepth 100000 in
theorem EX_start {b : Nat} {s : State} (hts : ∀ w ∈ lw_tbl, w.before #[Value.ref b] s = true) (hgv : (Jvm.Cond.and given_1 narrow_1).before #[Value.ref b] s = true) : EX (AL s) s s.heap := by
  have hf := flat_of_before _ hgv
  have hn : ∀ a : Nat, a < s.heap.size → ¬ AL s a := fun a h => Nat.not_le.mpr h
  have nw : ∀ w ∈ lw_tbl, w.onTables = true → va_Nw w s := fun w h ho => va_tabs ho rfl (hts w h)
  refine ⟨vx_Zqof (hts _ (by decide +kernel)) (hts (.initialized Bundle.tN) (by decide +kernel)) (hf _ (by decide +kernel)) hn, vx_Zqof (hts _ (by decide +kernel)) (hts (.initialized Bundle.tN) (by decide +kernel)) (hf _ (by decide +kernel)) hn, fun q hq => ?_, fun E hE => ?_, fun E hE F hF hEF => ?_, fun E hE => ?_⟩
  · simp only [txs, List.mem_cons, List.not_mem_nil, or_false] at hq
    rcases hq with rfl | rfl | rfl | rfl | rfl | rfl | rfl | rfl | rfl | rfl | rfl | rfl | rfl | rfl | rfl | rfl | rfl | rfl
    · exact str_ref (hts (.stringRef RX0 37 "no such money") (by decide +kernel)) (hf (.exactly (.string RX0 37) "java/lang/String") (by decide +kernel))
    · exact str_ref (hts (.stringRef RX0 44 "the moneys are the same or the rate is not 0 to 9999") (by decide +kernel)) (hf (.exactly (.string RX0 44) "java/lang/String") (by decide +kernel))
    · exact str_ref (hts (.stringRef RX0 51 "the spread is not 0 to 50") (by decide +kernel)) (hf (.exactly (.string RX0 51) "java/lang/String") (by decide +kernel))
    · exact str_ref (hts (.stringRef RX0 58 "the limit is not 0 to 99999") (by decide +kernel)) (hf (.exactly (.string RX0 58) "java/lang/String") (by decide +kernel))
    · exact str_ref (hts (.stringRef RX0 63 "what comes is not 1 to 99999") (by decide +kernel)) (hf (.exactly (.string RX0 63) "java/lang/String") (by decide +kernel))
    · exact str_ref (hts (.stringRef RX0 77 "there are 6 customers") (by decide +kernel)) (hf (.exactly (.string RX0 77) "java/lang/String") (by decide +kernel))
    · exact str_ref (hts (.stringRef RX0 83 "no such customer or money") (by decide +kernel)) (hf (.exactly (.string RX0 83) "java/lang/String") (by decide +kernel))
    · exact str_ref (hts (.stringRef RX0 85 "what is earned is not 1 to 99999") (by decide +kernel)) (hf (.exactly (.string RX0 85) "java/lang/String") (by decide +kernel))
    · exact str_ref (hts (.stringRef RX0 91 "this can not be changed") (by decide +kernel)) (hf (.exactly (.string RX0 91) "java/lang/String") (by decide +kernel))
    · exact str_ref (hts (.stringRef RX0 93 "the moneys are the same or an amount is not 1 to 99999") (by decide +kernel)) (hf (.exactly (.string RX0 93) "java/lang/String") (by decide +kernel))
    · exact str_ref (hts (.stringRef RX0 98 "10 orders wait") (by decide +kernel)) (hf (.exactly (.string RX0 98) "java/lang/String") (by decide +kernel))
    · exact str_ref (hts (.stringRef RX0 107 "no such place") (by decide +kernel)) (hf (.exactly (.string RX0 107) "java/lang/String") (by decide +kernel))
    · exact str_ref (hts (.stringRef RX0 120 "no such money or nothing to tell") (by decide +kernel)) (hf (.exactly (.string RX0 120) "java/lang/String") (by decide +kernel))
    · exact str_ref (hts (.stringRef RX0 125 "no such place or nothing to tell") (by decide +kernel)) (hf (.exactly (.string RX0 125) "java/lang/String") (by decide +kernel))
    · exact str_ref (hts (.stringRef RX0 127 "nothing to count") (by decide +kernel)) (hf (.exactly (.string RX0 127) "java/lang/String") (by decide +kernel))
    · exact str_ref (hts (.stringRef RX0 136 "the amount is not 0 to 99999") (by decide +kernel)) (hf (.exactly (.string RX0 136) "java/lang/String") (by decide +kernel))
    · exact str_ref (hts (.stringRef RX0 146 "the moneys are the same or the amount is not 0 to 99999") (by decide +kernel)) (hf (.exactly (.string RX0 146) "java/lang/String") (by decide +kernel))
    · exact str_ref (hts (.stringRef RX0 155 "the moneys are the same") (by decide +kernel)) (hf (.exactly (.string RX0 155) "java/lang/String") (by decide +kernel))
  · simp only [exs, List.mem_cons, List.not_mem_nil, or_false] at hE
    rcases hE with rfl | rfl | rfl
    · exact nw (.castable "java/lang/IndexOutOfBoundsException" "java/lang/IndexOutOfBoundsException") (by decide +kernel) rfl
    · exact nw (.castable "java/lang/IllegalArgumentException" "java/lang/IllegalArgumentException") (by decide +kernel) rfl
    · exact nw (.castable "java/lang/IllegalStateException" "java/lang/IllegalStateException") (by decide +kernel) rfl
  · simp only [exs, List.mem_cons, List.not_mem_nil, or_false] at hE hF
    rcases hE with rfl | rfl | rfl <;> rcases hF with rfl | rfl | rfl
    · exact absurd rfl hEF
    · exact va_Nc.of (hf (.not (.castable "java/lang/IndexOutOfBoundsException" "java/lang/IllegalArgumentException")) (by decide +kernel))
    · exact va_Nc.of (hf (.not (.castable "java/lang/IndexOutOfBoundsException" "java/lang/IllegalStateException")) (by decide +kernel))
    · exact va_Nc.of (hf (.not (.castable "java/lang/IllegalArgumentException" "java/lang/IndexOutOfBoundsException")) (by decide +kernel))
    · exact absurd rfl hEF
    · exact va_Nc.of (hf (.not (.castable "java/lang/IllegalArgumentException" "java/lang/IllegalStateException")) (by decide +kernel))
    · exact va_Nc.of (hf (.not (.castable "java/lang/IllegalStateException" "java/lang/IndexOutOfBoundsException")) (by decide +kernel))
    · exact va_Nc.of (hf (.not (.castable "java/lang/IllegalStateException" "java/lang/IllegalArgumentException")) (by decide +kernel))
    · exact absurd rfl hEF
  · simp only [dcs, List.mem_cons, List.not_mem_nil, or_false] at hE
    rcases hE with rfl | rfl | rfl
    · exact nw (.declares (Bundle.initS "java/lang/RuntimeException")) (by decide +kernel) rfl
    · exact nw (.declares (Bundle.initS "java/lang/Exception")) (by decide +kernel) rfl
    · exact nw (.declares (Bundle.initS Bundle.tN)) (by decide +kernel) rfl
theorem gd_X0 : GoodIn AW (ws_ yX0_init cX0_init 2 none) := fun w hw => aw_in ((List.mem_cons.mp hw).elim (fun h => by rw [h]; exact (inr_1 _ (List.mem_of_getElem? (i := 10) rfl))) id)
theorem gd_X1 : GoodIn AW (ws_ yX1_init cX1_init 1 none) := fun w hw => aw_in ((List.mem_cons.mp hw).elim (fun h => by rw [h]; exact (inr_2 _ (List.mem_of_getElem? (i := 0) rfl))) id)
set_option maxHeartbeats 1000000 in
set_option maxRecDepth 100000 in
theorem whole_start {p : Program} {e : Env} {s : State} {m : MethodId} {below : List Frame} {meth : Method} {c : Code} (l : Launch) (hflags : l.flags = flags0) {b L : Nat} {xs : Nat → Int32} (hL : L ≤ 3072) (C0 : lw_At p s m meth c b L xs) : W p l e room_1 s m #[Value.ref b] below meth c s.heap [] 0 0 (lw_Z below #[Value.ref b] s) (entryFrame m ([Value.ref b] : List Value).toArray 9) := by
  obtain ⟨hx, hb, hr, hml, hown, hts, hX, hbl, hlocks, hgv⟩ := id C0
  have hfl : l.stackTraces = false := by first | (unfold Launch.stackTraces; rw [hflags]; decide) | (simp [Launch.stackTraces, hflags]; decide)
  have CF : CallFix p m c cL_law 9 s #[Value.ref b] AW RL := ⟨hx, hb, hml, hown, fun w h => hts w (aw_tb w h)⟩
  have hEX := EX_start hts hgv
  have hA : ∀ q : Nat, s.heap.size ≤ q → AL s q := fun _ h => h
  obtain ⟨c0, iS0, hKn0⟩ := u_known (C := RX0) (T := TX0) (N := 13) (n := 13) hts tbX0 (hts (.instantiable RX0 13) (aw_tb _ (inr_1 _ (List.mem_of_getElem? (i := 1) rfl))))
  obtain ⟨c1, iS1, hKn1⟩ := u_known (C := RX1) (T := TX1) (N := 14) (n := 14) hts tbX1 (hts (.instantiable RX1 14) (aw_tb _ (inr_1 _ (List.mem_of_getElem? (i := 4) rfl))))
  obtain ⟨G, hKc⟩ : ∃ G : va_G, ∀ (k : Nat) (q : vw_C), vwCl[k]? = some q → u_Kn s q.1 q.2.1 q.2.2 (G.1 k) (G.2 k) := by
    refine ⟨(fun k => if k = 0 then c0 else c1, fun k => if k = 0 then iS0 else iS1), ?_⟩
    intro k q hq
    match k, hq with
    | 0, hq => cases hq; exact hKn0
    | 1, hq => cases hq; exact hKn1
    | k + 2, hq => simp [vwCl] at hq
  have hS : va_S (AL s) s.heap s.heap [] := va_S.rf
  have hK : va_K G vwCl [] s := ⟨hKc, fun k q h => by simp at h⟩
  have hP : va_P G vwCl [] s.heap := fun k q h => by simp at h
  have hD : va_D (AL s) [] := ⟨fun i j p q h => by simp at h, fun k q h => by simp at h⟩
  have hl := lv_entry ([.ref b]) (n := 9) (Nat.le_of_ble_eq_true rfl)
  rw [lg_entry_eq]
  generalize (lg_sl ([.ref b]) ++ List.replicate (9 - (lg_sl ([.ref b])).length) Slot.unset).toArray = ls at hl ⊢
  have hl : lv_has ls 9 [(0, .ref b)] := hl
  refine va_new (D := G) (cl := vwCl) (tys := []) (ws := []) (ci := 0) (fs := [.null, .null, .null, .null, .null, .null, .null, .int 0, .int 0, .int 0, .int 0, .int 0, .int 0]) (C := RX0) (T := TX0) (N := 13) CF.1 CF.2.1 CF.2.2.2.2 inlX0 tyX0 tyX0_ok CF.2.2.2.1 (CF.2.2.2.2 _ (inr_1 _ (List.mem_of_getElem? (i := 0) rfl))) (CF.2.2.2.2 _ (inr_1 _ (List.mem_of_getElem? (i := 1) rfl))) (CF.2.2.2.2 _ (inr_1 _ (List.mem_of_getElem? (i := 2) rfl))) hK hP hD hS hA rfl (fun j hj => by rcases (show j = 0 ∨ j = 1 ∨ j = 2 ∨ j = 3 ∨ j = 4 ∨ j = 5 ∨ j = 6 ∨ j = 7 ∨ j = 8 ∨ j = 9 ∨ j = 10 ∨ j = 11 ∨ j = 12 by omega) with rfl | rfl | rfl | rfl | rfl | rfl | rfl | rfl | rfl | rfl | rfl | rfl | rfl <;> rfl) (Nat.le_of_ble_eq_true rfl) (Nat.le_of_ble_eq_true rfl) dL_law_0 (fun x0 H hP hD hS => ?_)
  have hP : va_P G vwCl [(x0, .inr (0, [.null, .null, .null, .null, .null, .null, .null, .int 0, .int 0, .int 0, .int 0, .int 0, .int 0]))] H := hP
  have hx0 : s.heap.size ≤ x0 := hD.2 0 _ rfl
  have hH0 : s.heap.size ≤ H.size := hS.1
  refine lv_dup CF.1 CF.2.1 dL_law_3 rfl ?_
  refine va_callv (va_runI (As := []) (rest := [.ref x0]) CF (c0_init l (G := G) x0 H.size) (cwI 0 CF.2.2.2.2 gd_X0 rfl rfl rfl (CF.2.2.2.2 _ (inr_1 _ (List.mem_of_getElem? (i := 2) rfl))) (CF.2.2.2.2 _ (inr_1 _ (List.mem_of_getElem? (i := 8) rfl))) (CF.2.2.2.2 _ (inr_1 _ (List.mem_of_getElem? (i := 9) rfl))) rfl (by decide +kernel) ⟨(Nat.le_of_ble_eq_true rfl), (Nat.le_of_ble_eq_true rfl)⟩) ⟨fun a U g mk q => by obtain ⟨q0, q1, qP, qK⟩ := q; exact ⟨q0, q1, qP, va_K.moved (u := U) (U := U.calling g mk a) (Vm.Alike.refl U.vm) qK⟩, fun U hU hW => ⟨rfl, by rw [hU], by rw [hU]; exact hP, va_K.moved hW.alike hK⟩⟩ rfl rfl hl.1 rfl (lv_room (Nat.le_of_ble_eq_true rfl)) dL_law_4 ⟨(Nat.le_of_ble_eq_true rfl), (Nat.le_of_ble_eq_true rfl)⟩) hS (fun q _ h => by rw [h]; exact hx0) (fun q h => by rw [h]; exact hx0) (fun u t H1 locs ht hvm hw hB hz1 hk1 hS => ?_)
  obtain ⟨cA, ad0, σ⟩ := u
  obtain ⟨b1, b2, b3, b4, b5⟩ := hw
  obtain ⟨hP0, hKA⟩ := hB
  dsimp only at b1 b2 b3 b4 b5 hP0 hKA
  rw [ht] at hP0
  have hKA : KK G cA s := va_K.moved hvm.symm hKA
  have hA0 : ∀ q, own8 ad0 q → AL s q := by
    rintro q ⟨i, hi, rfl⟩
    rcases Nat.eq_zero_or_pos i with rfl | h1
    · rw [b1]; exact hx0
    · exact Nat.le_trans hH0 (b2 i h1 hi)
  have hD0 : va_D (AL s) (w0 ad0 cA σ) := w0_D b3 hA0
  clear hD hP hk1 hz1
  refine lv_astore_n (lv' := [(1, .ref x0), (0, .ref b)]) CF.1 CF.2.1 dL_law_7 rfl hl (by decide) rfl (fun ls hl => ?_)
  refine va_new (D := G) (cl := vwCl) (tys := [(cA, .int)]) (ws := w0 ad0 cA σ) (ci := 1) (fs := [.int 0, .int 0, .int 0, .int 0, .int 0, .int 0, .int 0, .null, .null, .null, .null, .null, .null, .null]) (C := RX1) (T := TX1) (N := 14) CF.1 CF.2.1 CF.2.2.2.2 inlX1 tyX1 tyX1_ok CF.2.2.2.1 (CF.2.2.2.2 _ (inr_1 _ (List.mem_of_getElem? (i := 3) rfl))) (CF.2.2.2.2 _ (inr_1 _ (List.mem_of_getElem? (i := 4) rfl))) (CF.2.2.2.2 _ (inr_1 _ (List.mem_of_getElem? (i := 5) rfl))) hKA hP0 hD0 hS hA rfl (fun j hj => by rcases (show j = 0 ∨ j = 1 ∨ j = 2 ∨ j = 3 ∨ j = 4 ∨ j = 5 ∨ j = 6 ∨ j = 7 ∨ j = 8 ∨ j = 9 ∨ j = 10 ∨ j = 11 ∨ j = 12 ∨ j = 13 by omega) with rfl | rfl | rfl | rfl | rfl | rfl | rfl | rfl | rfl | rfl | rfl | rfl | rfl | rfl <;> rfl) (Nat.le_of_ble_eq_true rfl) (Nat.le_of_ble_eq_true rfl) dL_law_8 (fun x1 H hP hD hS => ?_)
  have hx1 : s.heap.size ≤ x1 := hD.2 8 _ rfl
  have hg0 : ∀ k, k < 8 → ∃ z, (w0 ad0 cA σ ++ [(x1, .inr (1, [.int 0, .int 0, .int 0, .int 0, .int 0, .int 0, .int 0, .null, .null, .null, .null, .null, .null, .null]))] : va_W)[k]? = some (ad0 k, z) := fun k hk => by rcases (show k = 0 ∨ k = 1 ∨ k = 2 ∨ k = 3 ∨ k = 4 ∨ k = 5 ∨ k = 6 ∨ k = 7 by omega) with rfl | rfl | rfl | rfl | rfl | rfl | rfl | rfl <;> exact ⟨_, rfl⟩
  have hne : ∀ z, own8 ad0 z → ¬ z = x1 := by
    rintro z ⟨i, hi, rfl⟩ hz
    obtain ⟨zz, hzz⟩ := hg0 i hi
    have := hD.1 i 8 _ _ hzz rfl hz
    omega
  have hlt0 : ∀ z, own8 ad0 z → z < H.size := by
    rintro z ⟨i, hi, rfl⟩
    obtain ⟨zz, hzz⟩ := hg0 i hi
    exact (hP i _ hzz).lt
  have hH1 : s.heap.size ≤ H.size := hS.1
  have hP0 : va_P G vwCl (w0 ad0 cA σ) H := fun k q hk => hP k q (by rw [List.getElem?_append_left (List.getElem?_eq_some_iff.mp hk).1]; exact hk)
  have hPx : va_P G vwCl [(x1, .inr (1, [.int 0, .int 0, .int 0, .int 0, .int 0, .int 0, .int 0, .null, .null, .null, .null, .null, .null, .null]))] H := fun k q hk => hP (8 + k) q (by
    have h1 : k < 1 := (List.getElem?_eq_some_iff.mp hk).1
    obtain rfl : k = 0 := by omega
    rw [← hk]; rfl)
  have hK : va_K G vwCl [] s := hKA.sub [] rfl
  refine lv_dup CF.1 CF.2.1 dL_law_11 rfl ?_
  refine va_callv (va_runI (As := []) (rest := [.ref x1]) CF (c1_init l (G := G) x1 H.size) (cwI 0 CF.2.2.2.2 gd_X1 rfl rfl rfl (CF.2.2.2.2 _ (inr_1 _ (List.mem_of_getElem? (i := 5) rfl))) (CF.2.2.2.2 _ (inr_1 _ (List.mem_of_getElem? (i := 22) rfl))) (CF.2.2.2.2 _ (inr_1 _ (List.mem_of_getElem? (i := 23) rfl))) rfl (by decide +kernel) ⟨(Nat.le_of_ble_eq_true rfl), (Nat.le_of_ble_eq_true rfl)⟩) ⟨fun a U g mk q => by obtain ⟨q0, q1, qP, qK⟩ := q; exact ⟨q0, q1, qP, va_K.moved (u := U) (U := U.calling g mk a) (Vm.Alike.refl U.vm) qK⟩, fun U hU hW => ⟨rfl, by rw [hU], by rw [hU]; exact hPx, va_K.moved hW.alike hK⟩⟩ rfl rfl hl.1 rfl (lv_room (Nat.le_of_ble_eq_true rfl)) dL_law_12 ⟨(Nat.le_of_ble_eq_true rfl), (Nat.le_of_ble_eq_true rfl)⟩) hS (fun q _ h => by rw [h]; exact hx1) (fun q h => by rw [h]; exact hx1) (fun u t H1 locs ht hvm hw hB hz1 hk1 hS => ?_)
  obtain ⟨cA2, ad1, τ⟩ := u
  obtain ⟨m1, m2, m3, m4, m5⟩ := hw
  obtain ⟨hP1, hKB⟩ := hB
  dsimp only at m1 m2 m3 m4 m5 hP1 hKB
  rw [ht] at hP1
  have hKB : KK G cA2 s := va_K.moved hvm.symm hKB
  obtain rfl : cA2 = cA := ra_one (hKA.2 0 _ rfl).2 (hKB.2 0 _ rfl).2
  have hP0 := w0_kept hP0 hne hk1
  have hA1 : ∀ q, own8 ad1 q → AL s q := by
    rintro q ⟨i, hi, rfl⟩
    rcases Nat.eq_zero_or_pos i with rfl | h1
    · rw [m1]; exact hx1
    · exact Nat.le_trans hH1 (m2 i h1 hi)
  have d01 : ∀ q, own8 ad0 q → ¬ own8 ad1 q := by
    rintro q h0 ⟨j, hj, rfl⟩
    rcases Nat.eq_zero_or_pos j with rfl | h1
    · exact hne _ h0 m1
    · have h2 := hlt0 _ h0
      have h3 := m2 j h1 hj
      omega
  have hDc : va_D (AL s) (w0 ad0 cA2 σ ++ w1 ad1 cA2 τ) := va_D.app (w0_D b3 hA0) (w1_D m3 hA1) (fun i j p q hi hq hpq => by
    obtain ⟨a1, a2⟩ := w0_len hi
    obtain ⟨a3, a4⟩ := w1_len hq
    exact d01 q.1 ⟨i, a1, by rw [← hpq]; exact a2⟩ ⟨j, a3, a4⟩)
  have hPc : va_P G vwCl (w0 ad0 cA2 σ ++ w1 ad1 cA2 τ) H1 := hP0.app hP1
  refine lv_astore_n (lv' := [(2, .ref x1), (1, .ref x0), (0, .ref b)]) CF.1 CF.2.1 dL_law_15 rfl hl (by decide) rfl (fun ls hl => ?_)
  refine lv_iconst (v := nI 1) CF.1 CF.2.1 dL_law_16 (by decide) ?_
  refine va_newa (D := G) (ty := .long) (N' := 1) (a0 := (1, .inr (.inl (fun _ => 0)))) CF.1 CF.2.1 (CF.2.2.2.2 _ (inr_1 _ (List.mem_of_getElem? (i := 6) rfl))) rfl hKA hPc hDc hS hA (fun _ => rfl) (by decide) (by decide) (by decide) (Nat.le_of_ble_eq_true rfl) (Nat.le_of_ble_eq_true rfl) dL_law_17 (fun ou cL H hKL hPL hDL hS => ?_)
  refine lv_astore_n (lv' := [(3, .ref ou), (2, .ref x1), (1, .ref x0), (0, .ref b)]) CF.1 CF.2.1 dL_law_19 rfl hl (by decide) rfl (fun ls hl => ?_)
  refine lv_iconst (v := nI 1) CF.1 CF.2.1 dL_law_20 (by decide) ?_
  refine va_newa (D := G) (ty := .double) (N' := 1) (a0 := (1, .inr (.inr (.inr (.inl (fun _ => 0)))))) CF.1 CF.2.1 (CF.2.2.2.2 _ (inr_1 _ (List.mem_of_getElem? (i := 7) rfl))) rfl hKL hPL hDL hS hA (fun _ => rfl) (by decide) (by decide) (by decide) (Nat.le_of_ble_eq_true rfl) (Nat.le_of_ble_eq_true rfl) dL_law_21 (fun od cD H hKD hPD hDD hS => ?_)
  refine lv_astore (lv' := [(4, .ref od), (3, .ref ou), (2, .ref x1), (1, .ref x0), (0, .ref b)]) CF.1 CF.2.1 dL_law_23 hl (by decide) rfl (fun ls hl => ?_)
  refine lv_iconst (v := nI 0) CF.1 CF.2.1 dL_law_25 (by decide) ?_
  refine lv_istore (lv' := [(5, .int (nI 0)), (4, .ref od), (3, .ref ou), (2, .ref x1), (1, .ref x0), (0, .ref b)]) CF.1 CF.2.1 dL_law_26 hl (by decide) rfl (fun ls hl => ?_)
  have hg : ∀ k, k < 16 → ∃ z, ((w0 ad0 cA2 σ ++ w1 ad1 cA2 τ) ++ [(ou, .inl (cL, 1, .inr (.inl (fun _ => 0))))] ++ [(od, .inl (cD, 1, .inr (.inr (.inr (.inl (fun _ => 0))))))] : va_W)[k]? = some (if k < 8 then ad0 k else ad1 (k - 8), z) := fun k hk => by rcases (show k = 0 ∨ k = 1 ∨ k = 2 ∨ k = 3 ∨ k = 4 ∨ k = 5 ∨ k = 6 ∨ k = 7 ∨ k = 8 ∨ k = 9 ∨ k = 10 ∨ k = 11 ∨ k = 12 ∨ k = 13 ∨ k = 14 ∨ k = 15 by omega) with rfl | rfl | rfl | rfl | rfl | rfl | rfl | rfl | rfl | rfl | rfl | rfl | rfl | rfl | rfl | rfl <;> exact ⟨_, rfl⟩
  have hq0 : ∀ i, i < 8 → ∃ z, ((w0 ad0 cA2 σ ++ w1 ad1 cA2 τ) ++ [(ou, .inl (cL, 1, .inr (.inl (fun _ => 0))))] ++ [(od, .inl (cD, 1, .inr (.inr (.inr (.inl (fun _ => 0))))))] : va_W)[i]? = some (ad0 i, z) := fun i hi => by have h := hg i (by omega); rw [if_pos hi] at h; exact h
  have hq1 : ∀ i, i < 8 → ∃ z, ((w0 ad0 cA2 σ ++ w1 ad1 cA2 τ) ++ [(ou, .inl (cL, 1, .inr (.inl (fun _ => 0))))] ++ [(od, .inl (cD, 1, .inr (.inr (.inr (.inl (fun _ => 0))))))] : va_W)[8 + i]? = some (ad1 i, z) := fun i hi => by have h := hg (8 + i) (by omega); rw [if_neg (by omega), show 8 + i - 8 = i by omega] at h; exact h
  have d0ou : ¬ own8 ad0 ou := by
    rintro ⟨i, hi, hz⟩
    obtain ⟨z, h⟩ := hq0 i hi
    have := hDD.1 _ 16 _ _ h rfl hz.symm
    omega
  have d0od : ¬ own8 ad0 od := by
    rintro ⟨i, hi, hz⟩
    obtain ⟨z, h⟩ := hq0 i hi
    have := hDD.1 _ 17 _ _ h rfl hz.symm
    omega
  have d1ou : ¬ own8 ad1 ou := by
    rintro ⟨i, hi, hz⟩
    obtain ⟨z, h⟩ := hq1 i hi
    have := hDD.1 _ 16 _ _ h rfl hz.symm
    omega
  have d1od : ¬ own8 ad1 od := by
    rintro ⟨i, hi, hz⟩
    obtain ⟨z, h⟩ := hq1 i hi
    have := hDD.1 _ 17 _ _ h rfl hz.symm
    omega
  have dod : ou ≠ od := fun hz => by have := hDD.1 16 17 _ _ rfl rfl hz; omega
  have hou : s.heap.size ≤ ou := hDD.2 16 _ rfl
  have hod : s.heap.size ≤ od := hDD.2 17 _ rfl
  have hLX : LX l G cA2 cL cD ad0 ad1 ou od b L xs s := ⟨hX, hbl, hKA, hKL.sub [1] rfl, hKD.sub [2] rfl, hEX, b3, m3, hA0, hA1, hou, hod, d01, d0ou, d1ou, d0od, d1od, dod, hfl, hL⟩
  have hH : LH G cA2 cL cD ad0 ad1 ou od σ τ (fun _ => 0) (fun _ => 0) H := by
    refine ⟨fun k q hk => hPD k q ?_, fun k q hk => hPD (8 + k) q ?_, fun k q hk => hPD (16 + k) q ?_, fun k q hk => hPD (17 + k) q ?_⟩
    · have h8 := (w0_len hk).1
      rw [← hk]
      rcases (show k = 0 ∨ k = 1 ∨ k = 2 ∨ k = 3 ∨ k = 4 ∨ k = 5 ∨ k = 6 ∨ k = 7 by omega) with rfl | rfl | rfl | rfl | rfl | rfl | rfl | rfl <;> rfl
    · have h8 := (w1_len hk).1
      rw [← hk]
      rcases (show k = 0 ∨ k = 1 ∨ k = 2 ∨ k = 3 ∨ k = 4 ∨ k = 5 ∨ k = 6 ∨ k = 7 by omega) with rfl | rfl | rfl | rfl | rfl | rfl | rfl | rfl <;> rfl
    · have h1 : k < 1 := (List.getElem?_eq_some_iff.mp hk).1
      obtain rfl : k = 0 := by omega
      rw [← hk]
      rfl
    · have h1 : k < 1 := (List.getElem?_eq_some_iff.mp hk).1
      obtain rfl : k = 0 := by omega
      rw [← hk]
      rfl
  have hl : lv_has ls 9 [(5, .int (nI 0)), (4, .ref od), (3, .ref ou), (2, .ref (ad1 0)), (1, .ref (ad0 0)), (0, .ref b)] := by rw [b1, m1]; exact hl
  refine W.widen (k := 18 + 2 * 0) (n := 279 + 11 * 0) (by omega) (by omega) ?_
  exact law_loop CF hLX hr hlocks (L / 6) 0 bs0 σ τ (fun _ => 0) (fun _ => 0) H _ ls (Nat.zero_le _) (by omega) hH b4 b5 m4 m5 InvC_0 InvO_0 hS (lv_sub hl [5, 4, 3, 2, 1, 0] rfl)
