/-! THE CLAIM OUT OF ONE WALK OF THE LAW'S BODY. Your part is whole_start (and what it stands on); all else here is the same for every law, but numbers. -/
def R_law : String := "MoneyBoothLaw"
def lw_P (b : Addr) (xs : List Int32) (args : Array Value) (s : State) : Prop := args = #[.ref b] ∧ s.IntsAt b xs ∧ xs.length ≤ 3072 ∧ (Jvm.Cond.and given_1 narrow_1).before args s = true
/-- what a walk over the start with the record d0 says of its end, said of the start itself -/
theorem lw_closed {s t : State} {o : Outcome} {d0 : Drawn} {L : List Loc} {k n : Nat} (hd0 : s.drawn.sameBut d0 lw_cs) (hv : ∃ v, o = .returned v) (hW : (s.setDrawn d0).WarmedH t.vm) (hs : (s.setDrawn d0).sameButNew ({ t with vm := s.vm } : State) L k n) : State.butDraws s t lw_cs (fun t1 => Framed s o t1 L k n) := by
  have h2 : t.drawn = d0 := congrArg State.drawn hs.1
  refine ⟨⟨hv, hW, State.sameButNew.setDrawn hs s.drawn⟩, ?_, by decide⟩
  rw [h2]
  exact hd0
def lw_Q (_ : Array Value) (s : State) (o : Outcome) (t : State) : Prop := o = .returned (some (.int 1)) ∧ State.butDraws s t lw_cs (fun t1 => Framed s o t1 [] 656478 7126671)
def lw_Z (below : List Frame) (a : Array Value) (s : State) : State → Prop := fun t => ∃ o, t.status = .running ∧ Ended t below o ∧ lw_Q a s o t
/-- the law's own end, with 1 on the stack, nothing written that was there before, its room as the claim has it; d0: the record of draws at this point (at the entry s.drawn: begin with 'refine W.base ?_' and 'have hd0 := Drawn.sameBut.refl s.drawn lw_cs') -/
theorem lw_ret {p : Program} {l : Launch} {e : Env} {s : State} {m : MethodId} {below : List Frame} {meth : Method} {c : Code} {b : Nat} {d0 : Drawn} (hd0 : s.drawn.sameBut d0 lw_cs) (hx : p.tables.exec = Jvm.exec) (hb : c.code = code) (hr : meth.sig.returnType = ret) (hlocks : meth.locks = false) {pc : Nat} {H : Heap} {ls : Array Slot} (hdg : decode code pc = .ok (.ireturn, 1)) : W p l e room_1 (s.setDrawn d0) m #[Value.ref b] below meth c H [] 656478 7126671 (lw_Z below #[Value.ref b] s) (F0 m pc ls [.int 1]) := by
  intro T hT X
  obtain ⟨fs, hret, hrun, hended, hW, hframe⟩ := X.leave (v := some (.int 1)) (hlocks := hlocks) (fun h => by rw [hr] at h; cases h)
  have hmeth' : T.vm.method? m = some meth := X.method'
  refine ⟨T.setFrames fs, ?_, .returned (some (.int 1)), hrun, hended, rfl, lw_closed hd0 ⟨_, rfl⟩ hW hframe⟩
  jvm_step X.here [X.here.top, hx, hb, hdg, hmeth', hr, ret, narrow_b1]
  (try refine ⟨rfl, ?_⟩); (try refine ⟨rfl, ?_⟩)
  first | (intro acts; rw [hret _ acts rfl rfl rfl]) | rw [hret _ _ rfl rfl rfl]
  exact Steps.refl _
/-- what holds at the law's entry: the machine, the code, the tables' words (any of lw_tbl by 'hts w (by decide +kernel)'), the script of L ints xs at the cell b, what the Statement gives of the start (any of its parts by flat_of_before) -/
def lw_At (p : Program) (s : State) (m : MethodId) (meth : Method) (c : Code) (b L : Nat) (xs : Nat → Int32) : Prop :=
  p.tables.exec = Jvm.exec ∧ c.code = code ∧ meth.sig.returnType = ret ∧ c.maxLocals = 9 ∧ s.vm.findClass R_law = some m.cls ∧ (∀ w ∈ lw_tbl, w.before #[Value.ref b] s = true) ∧ va_X b L xs s s.heap ∧ b < s.heap.size ∧ meth.locks = false ∧ (Jvm.Cond.and given_1 narrow_1).before #[Value.ref b] s = true

set_option maxHeartbeats 1000000 in
set_option maxRecDepth 100000 in
theorem law_end {p : Program} {l : Launch} {e : Env} {s : State} {m : MethodId} {below : List Frame} {meth : Method} {c : Code} {G : va_G} {cA cL cD : ClassId} {ad0 ad1 : Nat → Nat} {ou od bx L : Nat} {xs : Nat → Int32} (CF : CallFix p m c cL_law 9 s #[Value.ref bx] AW RL) (hL : LX l G cA cL cD ad0 ad1 ou od bx L xs s) (hr : meth.sig.returnType = ret) (hlocks : meth.locks = false) {i : Nat} (hi : i ≤ 512) {H : Heap} {locs : List Loc} {ls : Array Slot} (hS : va_S (AL s) s.heap H locs) : W p l e room_1 s m #[Value.ref bx] below meth c H locs (18 + 2 * i) (279 + 11 * i) (lw_Z below #[Value.ref bx] s) (F0 m 1454 ls []) := by
  refine va_forget hS.2.2 ?_
  refine W.widen (k := 656478) (n := 7126671) (by omega) (by omega) ?_
  refine lv_iconst (v := 1) CF.1 CF.2.1 dL_law_1454 (by decide) ?_
  refine W.base ?_
  exact lw_ret (Drawn.sameBut.refl s.drawn lw_cs) CF.1 CF.2.1 hr hlocks dL_law_1455
set_option maxHeartbeats 1000000 in
set_option maxRecDepth 100000 in
theorem law_loop {p : Program} {l : Launch} {e : Env} {s : State} {m : MethodId} {below : List Frame} {meth : Method} {c : Code} {G : va_G} {cA cL cD : ClassId} {ad0 ad1 : Nat → Nat} {ou od bx L : Nat} {xs : Nat → Int32} (CF : CallFix p m c cL_law 9 s #[Value.ref bx] AW RL) (hL : LX l G cA cL cD ad0 ad1 ou od bx L xs s) (hr : meth.sig.returnType = ret) (hlocks : meth.locks = false) : ∀ n, ∀ (i : Nat) (b : BS) (σ τ : RS) (fo : Nat → Int64) (fd : Nat → UInt64) (H : Heap) (locs : List Loc) (ls : Array Slot), i ≤ L / 6 → L / 6 ≤ i + n → LH G cA cL cD ad0 ad1 ou od σ τ fo fd H → Rc σ b → Ro σ b → Rc τ b → Ro τ b → InvC b → InvO b → va_S (AL s) s.heap H locs → lv_has ls 9 [(0, .ref (bx)), (1, .ref (ad0 0)), (2, .ref (ad1 0)), (3, .ref (ou)), (4, .ref (od)), (5, .int (nI (6 * i)))] → W p l e room_1 s m #[Value.ref bx] below meth c H locs (18 + 2 * i) (279 + 11 * i) (lw_Z below #[Value.ref bx] s) (F0 m 28 ls []) := by
  have hL3 : L ≤ 3072 := hL.2.2.2.2.2.2.2.2.2.2.2.2.2.2.2.2.2.2.2
  intro n
  induction n with
  | zero =>
    intro i b σ τ fo fd H locs ls h1 h2 hH hRc0 hRo0 hRc1 hRo1 hI hOi hS hl
    have hi5 : i ≤ 512 := by omega
    refine lv_iload CF.1 CF.2.1 dL_law_28 (lv_at hl 5 rfl) ?_
    refine lv_aload_n CF.1 CF.2.1 dL_law_30 rfl (lv_at hl 0 rfl) ?_
    refine x_slen CF hL hS dL_law_31 ?_
    refine lv_bipush (v := nI 6) CF.1 CF.2.1 dL_law_32 (by decide) ?_
    refine lv_isub CF.1 CF.2.1 dL_law_34 ?_
    refine z_icmp_gt CF (tgt := 1454) (nIz (n := 6 * i) (by omega)) (pk_sub_toInt (a := L) (b := 6) (by omega) (by omega)) dL_law_35 (by decide) (fun hgt => ?_) (fun hle => ?_)
    · exact law_end CF hL hr hlocks hi5 hS
    · exact (show False by omega).elim
  | succ n ih =>
    intro i b σ τ fo fd H locs ls h1 h2 hH hRc0 hRo0 hRc1 hRo1 hI hOi hS hl
    have hi5 : i ≤ 512 := by omega
    refine lv_iload CF.1 CF.2.1 dL_law_28 (lv_at hl 5 rfl) ?_
    refine lv_aload_n CF.1 CF.2.1 dL_law_30 rfl (lv_at hl 0 rfl) ?_
    refine x_slen CF hL hS dL_law_31 ?_
    refine lv_bipush (v := nI 6) CF.1 CF.2.1 dL_law_32 (by decide) ?_
    refine lv_isub CF.1 CF.2.1 dL_law_34 ?_
    refine z_icmp_gt CF (tgt := 1454) (nIz (n := 6 * i) (by omega)) (pk_sub_toInt (a := L) (b := 6) (by omega) (by omega)) dL_law_35 (by decide) (fun hgt => ?_) (fun hle => ?_)
    · exact law_end CF hL hr hlocks hi5 hS
    have hi : 6 * i + 6 ≤ L := by omega
    have NX : ∀ (b' : BS) (σ' τ' : RS) (fo' : Nat → Int64) (fd' : Nat → UInt64) (H' : Heap) (locs' : List Loc) (ls' : Array Slot), LH G cA cL cD ad0 ad1 ou od σ' τ' fo' fd' H' → Rc σ' b' → Ro σ' b' → Rc τ' b' → Ro τ' b' → InvC b' → InvO b' → va_S (AL s) s.heap H' locs' → lv_has ls' 9 [(0, .ref (bx)), (1, .ref (ad0 0)), (2, .ref (ad1 0)), (3, .ref (ou)), (4, .ref (od)), (5, .int (nI (6 * i)))] → W p l e room_1 s m #[Value.ref bx] below meth c H' locs' (18 + 2 * i + 2) (279 + 11 * i + 11) (lw_Z below #[Value.ref bx] s) (F0 m 1448 ls' []) := by
      intro b1 σ1 τ1 fo1 fd1 H1 locs1 ls1 hH1 a1 a2 a3 a4 a5 a6 hS1 hl1
      refine lv_iinc (v := nI (6 * i + 6)) (lv' := [(5, .int (nI (6 * i + 6))), (0, .ref (bx)), (1, .ref (ad0 0)), (2, .ref (ad1 0)), (3, .ref (ou)), (4, .ref (od))]) CF.1 CF.2.1 dL_law_1448 hl1 (k := 5) rfl (by first | exact nI_add _ _ | rfl) (by decide) rfl (fun ls hl => ?_)
      refine lv_goto (tgt := 28) CF.1 CF.2.1 dL_law_1451 (by decide) ?_
      refine W.widen (k := 18 + 2 * (i + 1)) (n := 279 + 11 * (i + 1)) (by omega) (by omega) ?_
      exact ih (i + 1) b1 σ1 τ1 fo1 fd1 H1 locs1 ls (by omega) (by omega) hH1 a1 a2 a3 a4 a5 a6 hS1 (lv_sub hl [1, 2, 3, 4, 5, 0] rfl)
    have hcs : 18 + 2 * i + 2 ≤ 656478 ∧ 279 + 11 * i + 11 ≤ 7126671 := ⟨by omega, by omega⟩
    refine lv_aload_n CF.1 CF.2.1 dL_law_38 rfl (lv_at hl 0 rfl) ?_
    refine lv_iload CF.1 CF.2.1 dL_law_39 (lv_at hl 5 rfl) ?_
    refine x_sld CF hL hS (i := 6 * i) (by omega) rfl dL_law_41 ?_
    refine lv_bipush (v := nI 31) CF.1 CF.2.1 dL_law_42 (by decide) ?_
    refine lv_iand CF.1 CF.2.1 dL_law_44 ?_
    obtain ⟨w, hw, ew⟩ := low5 (xs (6 * i))
    refine tpi ew ?_
    rcases (show w = 0 ∨ w = 1 ∨ w = 2 ∨ w = 3 ∨ w = 4 ∨ w = 5 ∨ w = 6 ∨ w = 7 ∨ w = 8 ∨ w = 9 ∨ w = 10 ∨ w = 11 ∨ w = 12 ∨ w = 13 ∨ w = 14 ∨ w = 15 ∨ w = 16 ∨ w = 17 ∨ w = 18 ∨ w = 19 ∨ 20 ≤ w by omega) with rfl | rfl | rfl | rfl | rfl | rfl | rfl | rfl | rfl | rfl | rfl | rfl | rfl | rfl | rfl | rfl | rfl | rfl | rfl | rfl | hw2
    · refine lv_tableIn (off := 95) (tgt := 140) CF.1 CF.2.1 dL_law_45 (by decide) (by decide) rfl (by decide) ?_
      exact op_setRate CF hL hS hH hRc0 hRo0 hRc1 hRo1 hI hOi hi hl hcs NX
    · refine lv_tableIn (off := 175) (tgt := 220) CF.1 CF.2.1 dL_law_45 (by decide) (by decide) rfl (by decide) ?_
      exact op_setSpread CF hL hS hH hRc0 hRo0 hRc1 hRo1 hI hOi hi hl hcs NX
    · refine lv_tableIn (off := 231) (tgt := 276) CF.1 CF.2.1 dL_law_45 (by decide) (by decide) rfl (by decide) ?_
      exact op_setLimit CF hL hS hH hRc0 hRo0 hRc1 hRo1 hI hOi hi hl hcs NX
    · refine lv_tableIn (off := 299) (tgt := 344) CF.1 CF.2.1 dL_law_45 (by decide) (by decide) rfl (by decide) ?_
      exact op_stock CF hL hS hH hRc0 hRo0 hRc1 hRo1 hI hOi hi hl hcs NX
    · refine lv_tableIn (off := 367) (tgt := 412) CF.1 CF.2.1 dL_law_45 (by decide) (by decide) rfl (by decide) ?_
      exact op_next CF hL hS hH hRc0 hRo0 hRc1 hRo1 hI hOi hi hl hcs NX
    · refine lv_tableIn (off := 380) (tgt := 425) CF.1 CF.2.1 dL_law_45 (by decide) (by decide) rfl (by decide) ?_
      exact op_come CF hL hS hH hRc0 hRo0 hRc1 hRo1 hI hOi hi hl hcs NX
    · refine lv_tableIn (off := 424) (tgt := 469) CF.1 CF.2.1 dL_law_45 (by decide) (by decide) rfl (by decide) ?_
      exact op_earn CF hL hS hH hRc0 hRo0 hRc1 hRo1 hI hOi hi hl hcs NX
    · refine lv_tableIn (off := 504) (tgt := 549) CF.1 CF.2.1 dL_law_45 (by decide) (by decide) rfl (by decide) ?_
      exact op_change CF hL hS hH hRc0 hRo0 hRc1 hRo1 hI hOi hi hl hcs NX
    · refine lv_tableIn (off := 596) (tgt := 641) CF.1 CF.2.1 dL_law_45 (by decide) (by decide) rfl (by decide) ?_
      exact op_order CF hL hS hH hRc0 hRo0 hRc1 hRo1 hI hOi hi hl hcs NX
    · refine lv_tableIn (off := 700) (tgt := 745) CF.1 CF.2.1 dL_law_45 (by decide) (by decide) rfl (by decide) ?_
      exact op_cancel CF hL hS hH hRc0 hRo0 hRc1 hRo1 hI hOi hi hl hcs NX
    · refine lv_tableIn (off := 756) (tgt := 801) CF.1 CF.2.1 dL_law_45 (by decide) (by decide) rfl (by decide) ?_
      exact op_has CF hL hS hH hRc0 hRo0 hRc1 hRo1 hI hOi hi hl hcs NX
    · refine lv_tableIn (off := 824) (tgt := 869) CF.1 CF.2.1 dL_law_45 (by decide) (by decide) rfl (by decide) ?_
      exact op_told CF hL hS hH hRc0 hRo0 hRc1 hRo1 hI hOi hi hl hcs NX
    · refine lv_tableIn (off := 892) (tgt := 937) CF.1 CF.2.1 dL_law_45 (by decide) (by decide) rfl (by decide) ?_
      exact op_about CF hL hS hH hRc0 hRo0 hRc1 hRo1 hI hOi hi hl hcs NX
    · refine lv_tableIn (off := 960) (tgt := 1005) CF.1 CF.2.1 dL_law_45 (by decide) (by decide) rfl (by decide) ?_
      exact op_count CF hL hS hH hRc0 hRo0 hRc1 hRo1 hI hOi hi hl hcs NX
    · refine lv_tableIn (off := 1016) (tgt := 1061) CF.1 CF.2.1 dL_law_45 (by decide) (by decide) rfl (by decide) ?_
      exact op_would CF hL hS hH hRc0 hRo0 hRc1 hRo1 hI hOi hi hl hcs NX
    · refine lv_tableIn (off := 1096) (tgt := 1141) CF.1 CF.2.1 dL_law_45 (by decide) (by decide) rfl (by decide) ?_
      exact op_way CF hL hS hH hRc0 hRo0 hRc1 hRo1 hI hOi hi hl hcs NX
    · refine lv_tableIn (off := 1176) (tgt := 1221) CF.1 CF.2.1 dL_law_45 (by decide) (by decide) rfl (by decide) ?_
      exact op_ring CF hL hS hH hRc0 hRo0 hRc1 hRo1 hI hOi hi hl hcs NX
    · refine lv_tableIn (off := 1244) (tgt := 1289) CF.1 CF.2.1 dL_law_45 (by decide) (by decide) rfl (by decide) ?_
      exact op_needs CF hL hS hH hRc0 hRo0 hRc1 hRo1 hI hOi hi hl hcs NX
    · refine lv_tableIn (off := 1312) (tgt := 1357) CF.1 CF.2.1 dL_law_45 (by decide) (by decide) rfl (by decide) ?_
      exact op_mean CF hL hS hH hRc0 hRo0 hRc1 hRo1 hI hOi hi hl hcs NX
    · refine lv_tableIn (off := 1389) (tgt := 1434) CF.1 CF.2.1 dL_law_45 (by decide) (by decide) rfl (by decide) ?_
      exact op_digest CF hL hS hH hRc0 hRo0 hRc1 hRo1 hI hOi hi hl hcs NX
    · refine lv_tableOut (tgt := 1448) CF.1 CF.2.1 dL_law_45 (by right; rw [nIz (by omega)]; omega) (by decide) ?_
      refine W.widen (k := 18 + 2 * i + 2) (n := 279 + 11 * i + 11) (by omega) (by omega) ?_
      exact NX b σ τ fo fd H locs ls hH hRc0 hRo0 hRc1 hRo1 hI hOi hS hl
