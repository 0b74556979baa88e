set_option maxHeartbeats 1000000 in
set_option maxRecDepth 100000 in
theorem c0_digestOfMoneys (l : Launch) {G : va_G} {cA : ClassId} {ad : Nat → Nat} {σ : RS} {b : BS} (hI : InvC b) (hR : Rc σ b) (x : Int64) : Met l yX0_digestOfMoneys (ws_ yX0_digestOfMoneys cX0_digestOfMoneys 7 (some .long)) (rmk 5 0 0) (pc0 G cA ad σ [.ref (ad 0), .long (x)]) (rql (fun r => r = dgm b x 5)) 0 0 (fun _ => False) := by
  refine Met.ofW (cc := cX0_digestOfMoneys) (maxL := 7) (ret := (some .long)) (by decide) rfl ?_
  intro p e s m args below meth c s₁ B hml hv
  obtain ⟨rfl, hP, hK⟩ := hv
  have CF : CallFix p m c cX0_digestOfMoneys 7 s _ AW RX0 := ⟨B.exec, B.bytes, hml, findClass_of_methodNamed B.named, fun w h => atoms_spec (ws := ws_ yX0_digestOfMoneys cX0_digestOfMoneys 7 (some .long)) B.pre w (List.mem_cons_of_mem _ h)⟩
  have hr := B.returns
  have hlocks := B.notSynchronized
  have hl := lv_entry ([.ref (ad 0), .long (x)]) (n := 7) (Nat.le_of_ble_eq_true rfl)
  rw [lg_entry_eq]
  generalize (lg_sl ([.ref (ad 0), .long (x)]) ++ List.replicate (7 - (lg_sl ([.ref (ad 0), .long (x)])).length) Slot.unset).toArray = ls at hl ⊢
  have hl : lv_has ls 7 [(0, .ref (ad 0)), (1, .long (x))] := hl
  obtain ⟨i_sp, i_cu, i_ra, i_di, i_mo, i_pu⟩ := id hI
  refine lv_lload_n CF.1 CF.2.1 dX0_digestOfMoneys_0 rfl (lv_at hl 1 rfl) ?_
  refine lv_lstore_n (lv' := [(3, .long (x)), (0, .ref (ad 0)), (1, .long (x))]) CF.1 CF.2.1 dX0_digestOfMoneys_1 rfl hl (by decide) rfl (fun ls hl => ?_)
  refine lv_iconst (v := nI 0) CF.1 CF.2.1 dX0_digestOfMoneys_2 (by decide) ?_
  refine lv_istore (lv' := [(5, .int (nI (0))), (3, .long (x)), (0, .ref (ad 0)), (1, .long (x))]) CF.1 CF.2.1 dX0_digestOfMoneys_3 hl (by decide) rfl (fun ls hl => ?_)
  refine loop_ro (fun i => [(0, .ref (ad 0)), (1, .long (x)), (3, .long (dgm b x i)), (5, .int (nI (i)))]) (5) (0) (lv_sub hl [2, 3, 1, 0] rfl) (by omega) (fun i_1 h_4 h_3 ih_2 ls hl => ?_)
  refine lv_iload CF.1 CF.2.1 dX0_digestOfMoneys_5 (lv_at hl 3 rfl) ?_
  refine lv_iconst (v := nI 5) CF.1 CF.2.1 dX0_digestOfMoneys_7 (by decide) ?_
  refine z_icmp_ge CF (tgt := 79) (nIz (by omega)) (nIz (by omega)) dX0_digestOfMoneys_8 (by decide) (fun h_5 => ?_) (fun h_6 => ?_)
  · obtain rfl : i_1 = 5 := by omega
    refine lv_lload_n CF.1 CF.2.1 dX0_digestOfMoneys_79 rfl (lv_at hl 2 rfl) ?_
    exact W.lret CF.1 CF.2.1 hr (fun t9 ht9 hW9 => ⟨_, rfl, rfl, ht9⟩) (fun q hq => absurd hq List.not_mem_nil) dX0_digestOfMoneys_80
  · refine lv_iconst (v := nI 0) CF.1 CF.2.1 dX0_digestOfMoneys_11 (by decide) ?_
    refine lv_istore (lv' := [(6, .int (nI (0))), (0, .ref (ad 0)), (1, .long (x)), (3, .long (dgm b x i_1)), (5, .int (nI (i_1)))]) CF.1 CF.2.1 dX0_digestOfMoneys_12 hl (by decide) rfl (fun ls hl => ?_)
    refine loop_ro (fun i => [(0, .ref (ad 0)), (1, .long (x)), (3, .long (dgl (fmo b i_1) (dgm b x i_1) i)), (5, .int (nI (i_1))), (6, .int (nI (i)))]) (5) (0) (lv_sub hl [1, 2, 3, 4, 0] rfl) (by omega) (fun i_7 h_10 h_9 ih_8 ls hl => ?_)
    refine lv_iload CF.1 CF.2.1 dX0_digestOfMoneys_14 (lv_at hl 4 rfl) ?_
    refine lv_iconst (v := nI 5) CF.1 CF.2.1 dX0_digestOfMoneys_16 (by decide) ?_
    refine z_icmp_ge CF (tgt := 42) (nIz (by omega)) (nIz (by omega)) dX0_digestOfMoneys_17 (by decide) (fun h_11 => ?_) (fun h_12 => ?_)
    · obtain rfl : i_7 = 5 := by omega
      refine lv_iconst (v := nI 0) CF.1 CF.2.1 dX0_digestOfMoneys_42 (by decide) ?_
      refine lv_istore (lv' := [(6, .int (nI (0))), (0, .ref (ad 0)), (1, .long (x)), (3, .long (dgl (fmo b i_1) (dgm b x i_1) 5)), (5, .int (nI (i_1)))]) CF.1 CF.2.1 dX0_digestOfMoneys_43 hl (by decide) rfl (fun ls hl => ?_)
      refine loop_ro (fun i => [(0, .ref (ad 0)), (1, .long (x)), (3, .long (dgl (fun t => b 1 (i_1 * 5 + t)) (dgl (fmo b i_1) (dgm b x i_1) 5) i)), (5, .int (nI (i_1))), (6, .int (nI (i)))]) (5) (0) (lv_sub hl [1, 2, 3, 4, 0] rfl) (by omega) (fun i_13 h_16 h_15 ih_14 ls hl => ?_)
      refine lv_iload CF.1 CF.2.1 dX0_digestOfMoneys_45 (lv_at hl 4 rfl) ?_
      refine lv_iconst (v := nI 5) CF.1 CF.2.1 dX0_digestOfMoneys_47 (by decide) ?_
      refine z_icmp_ge CF (tgt := 73) (nIz (by omega)) (nIz (by omega)) dX0_digestOfMoneys_48 (by decide) (fun h_17 => ?_) (fun h_18 => ?_)
      · obtain rfl : i_13 = 5 := by omega
        refine lv_iinc (v := nI (i_1 + 1)) (lv' := [(5, .int (nI (i_1 + 1))), (0, .ref (ad 0)), (1, .long (x)), (3, .long (dgl (fun t => b 1 (i_1 * 5 + t)) (dgl (fmo b i_1) (dgm b x i_1) 5) 5)), (6, .int (nI (5)))]) CF.1 CF.2.1 dX0_digestOfMoneys_73 hl (k := 3) rfl (by first | exact nI_add _ _ | rfl) (by decide) rfl (fun ls hl => ?_)
        refine lv_goto (tgt := 5) CF.1 CF.2.1 dX0_digestOfMoneys_76 (by decide) ?_
        exact ih_2 ls (by omega) (lv_sub hl [1, 2, 3, 0] rfl)
      · refine lv_lload_n CF.1 CF.2.1 dX0_digestOfMoneys_51 rfl (lv_at hl 2 rfl) ?_
        refine lv_ldc2 (v := lN 31) CF.1 CF.2.1 CF.2.2.2.1 (CF.2.2.2.2 _ (inr_20 _ (List.mem_of_getElem? (i := 19) rfl))) dX0_digestOfMoneys_52 ?_
        refine lv_lmul CF.1 CF.2.1 dX0_digestOfMoneys_55 ?_
        refine lv_aload_n CF.1 CF.2.1 dX0_digestOfMoneys_56 rfl (lv_at hl 0 rfl) ?_
        refine lv_iload CF.1 CF.2.1 dX0_digestOfMoneys_57 (lv_at hl 3 rfl) ?_
        refine lv_iload CF.1 CF.2.1 dX0_digestOfMoneys_59 (lv_at hl 4 rfl) ?_
        refine c0_i CF hK hP (As := [.int (nI (i_1)), .int (nI (i_13))]) (rest := [.long ((dgl (fun t => b 1 (i_1 * 5 + t)) (dgl (fmo b i_1) (dgm b x i_1) 5) i_13) * lN (31))]) (c0_rateOf l hI hR (f := i_1) (t := i_13) (by omega) (by omega)) rfl lk_RX0_X0_rateOf rfl hl.1 ⟨Nat.le_of_ble_eq_true rfl, Nat.le_of_ble_eq_true rfl⟩ ⟨Nat.zero_le _, Nat.zero_le _⟩ (Nat.le_of_ble_eq_true rfl) rfl dX0_digestOfMoneys_61 (fun r_19 hr_20 => ?_)
        subst hr_20
        refine lv_i2l CF.1 CF.2.1 dX0_digestOfMoneys_64 rfl ?_
        refine lv_ladd CF.1 CF.2.1 dX0_digestOfMoneys_65 ?_
        refine lv_lstore_n (lv' := [(3, .long (((dgl (fun t => b 1 (i_1 * 5 + t)) (dgl (fmo b i_1) (dgm b x i_1) 5) i_13) * lN (31)) + ((nI (b 1 (i_1 * 5 + i_13))).toInt64))), (0, .ref (ad 0)), (1, .long (x)), (5, .int (nI (i_1))), (6, .int (nI (i_13)))]) CF.1 CF.2.1 dX0_digestOfMoneys_66 rfl hl (by decide) rfl (fun ls hl => ?_)
        refine lv_iinc (v := nI (i_13 + 1)) (lv' := [(6, .int (nI (i_13 + 1))), (3, .long (((dgl (fun t => b 1 (i_1 * 5 + t)) (dgl (fmo b i_1) (dgm b x i_1) 5) i_13) * lN (31)) + ((nI (b 1 (i_1 * 5 + i_13))).toInt64))), (0, .ref (ad 0)), (1, .long (x)), (5, .int (nI (i_1)))]) CF.1 CF.2.1 dX0_digestOfMoneys_67 hl (k := 4) rfl (by first | exact nI_add _ _ | rfl) (by decide) rfl (fun ls hl => ?_)
        refine lv_goto (tgt := 45) CF.1 CF.2.1 dX0_digestOfMoneys_70 (by decide) ?_
        exact ih_14 ls (by omega) (lv_sub hl [2, 3, 1, 4, 0] rfl)
    · refine lv_lload_n CF.1 CF.2.1 dX0_digestOfMoneys_20 rfl (lv_at hl 2 rfl) ?_
      refine lv_ldc2 (v := lN 31) CF.1 CF.2.1 CF.2.2.2.1 (CF.2.2.2.2 _ (inr_20 _ (List.mem_of_getElem? (i := 19) rfl))) dX0_digestOfMoneys_21 ?_
      refine lv_lmul CF.1 CF.2.1 dX0_digestOfMoneys_24 ?_
      refine lv_aload_n CF.1 CF.2.1 dX0_digestOfMoneys_25 rfl (lv_at hl 0 rfl) ?_
      refine lv_iload CF.1 CF.2.1 dX0_digestOfMoneys_26 (lv_at hl 3 rfl) ?_
      refine lv_iload CF.1 CF.2.1 dX0_digestOfMoneys_28 (lv_at hl 4 rfl) ?_
      refine c0_i CF hK hP (As := [.int (nI (i_1)), .int (nI (i_7))]) (rest := [.long ((dgl (fmo b i_1) (dgm b x i_1) i_7) * lN (31))]) (c0_factOfMoney l hI hR (t := i_1) (w := i_7) (by omega) (by omega)) rfl lk_RX0_X0_factOfMoney rfl hl.1 ⟨Nat.le_of_ble_eq_true rfl, Nat.le_of_ble_eq_true rfl⟩ ⟨Nat.zero_le _, Nat.zero_le _⟩ (Nat.le_of_ble_eq_true rfl) rfl dX0_digestOfMoneys_30 (fun r_21 hr_22 => ?_)
      subst hr_22
      refine lv_i2l CF.1 CF.2.1 dX0_digestOfMoneys_33 rfl ?_
      refine lv_ladd CF.1 CF.2.1 dX0_digestOfMoneys_34 ?_
      refine lv_lstore_n (lv' := [(3, .long (((dgl (fmo b i_1) (dgm b x i_1) i_7) * lN (31)) + ((nI (fmo b (i_1) (i_7))).toInt64))), (0, .ref (ad 0)), (1, .long (x)), (5, .int (nI (i_1))), (6, .int (nI (i_7)))]) CF.1 CF.2.1 dX0_digestOfMoneys_35 rfl hl (by decide) rfl (fun ls hl => ?_)
      refine lv_iinc (v := nI (i_7 + 1)) (lv' := [(6, .int (nI (i_7 + 1))), (3, .long (((dgl (fmo b i_1) (dgm b x i_1) i_7) * lN (31)) + ((nI (fmo b (i_1) (i_7))).toInt64))), (0, .ref (ad 0)), (1, .long (x)), (5, .int (nI (i_1)))]) CF.1 CF.2.1 dX0_digestOfMoneys_36 hl (k := 4) rfl (by first | exact nI_add _ _ | rfl) (by decide) rfl (fun ls hl => ?_)
      refine lv_goto (tgt := 14) CF.1 CF.2.1 dX0_digestOfMoneys_39 (by decide) ?_
      exact ih_8 ls (by omega) (lv_sub hl [2, 3, 1, 4, 0] rfl)
set_option maxHeartbeats 1000000 in
set_option maxRecDepth 100000 in
theorem c0_digest (l : Launch) {G : va_G} {cA : ClassId} {ad : Nat → Nat} {σ : RS} {b : BS} (hI : InvC b) (hR : Rc σ b) (hO : Ro σ b) (hOi : InvO b) : Met l yX0_digest (ws_ yX0_digest cX0_digest 5 (some .long)) (rmk 6 0 0) (pc0 G cA ad σ [.ref (ad 0)]) (rql (fun r => r = dgs b)) 0 0 (fun _ => False) := by
  refine Met.ofW (cc := cX0_digest) (maxL := 5) (ret := (some .long)) (by decide) rfl ?_
  intro p e s m args below meth c s₁ B hml hv
  obtain ⟨rfl, hP, hK⟩ := hv
  have CF : CallFix p m c cX0_digest 5 s _ AW RX0 := ⟨B.exec, B.bytes, hml, findClass_of_methodNamed B.named, fun w h => atoms_spec (ws := ws_ yX0_digest cX0_digest 5 (some .long)) B.pre w (List.mem_cons_of_mem _ h)⟩
  have hr := B.returns
  have hlocks := B.notSynchronized
  have hl := lv_entry ([.ref (ad 0)]) (n := 5) (Nat.le_of_ble_eq_true rfl)
  rw [lg_entry_eq]
  generalize (lg_sl ([.ref (ad 0)]) ++ List.replicate (5 - (lg_sl ([.ref (ad 0)])).length) Slot.unset).toArray = ls at hl ⊢
  have hl : lv_has ls 5 [(0, .ref (ad 0))] := hl
  obtain ⟨i_sp, i_cu, i_ra, i_di, i_mo, i_pu⟩ := id hI
  have hw10 := hOi.1
  refine lv_ldc2 (v := lN 1367) CF.1 CF.2.1 CF.2.2.2.1 (CF.2.2.2.2 _ (inr_20 _ (List.mem_of_getElem? (i := 18) rfl))) dX0_digest_0 ?_
  refine lv_lstore_n (lv' := [(1, .long (lN (1367))), (0, .ref (ad 0))]) CF.1 CF.2.1 dX0_digest_3 rfl hl (by decide) rfl (fun ls hl => ?_)
  refine lv_iconst (v := nI 0) CF.1 CF.2.1 dX0_digest_4 (by decide) ?_
  refine lv_istore_n (lv' := [(3, .int (nI (0))), (1, .long (lN (1367))), (0, .ref (ad 0))]) CF.1 CF.2.1 dX0_digest_5 rfl hl (by decide) rfl (fun ls hl => ?_)
  refine loop_ro (fun i => [(0, .ref (ad 0)), (1, .long (dgl (fbo b) (lN 1367) i)), (3, .int (nI (i)))]) (7) (0) (lv_sub hl [2, 1, 0] rfl) (by omega) (fun i_1 h_4 h_3 ih_2 ls hl => ?_)
  refine lv_iload_n CF.1 CF.2.1 dX0_digest_6 rfl (lv_at hl 2 rfl) ?_
  refine lv_bipush (v := nI 7) CF.1 CF.2.1 dX0_digest_7 (by decide) ?_
  refine z_icmp_ge CF (tgt := 31) (nIz (by omega)) (nIz (by omega)) dX0_digest_9 (by decide) (fun h_5 => ?_) (fun h_6 => ?_)
  · obtain rfl : i_1 = 7 := by omega
    refine lv_aload_n CF.1 CF.2.1 dX0_digest_31 rfl (lv_at hl 0 rfl) ?_
    refine lv_lload_n CF.1 CF.2.1 dX0_digest_32 rfl (lv_at hl 1 rfl) ?_
    refine c0_l CF hK hP (As := [.long (dgl (fbo b) (lN 1367) 7)]) (rest := []) (c0_digestOfMoneys l hI hR ((dgl (fbo b) (lN 1367) 7))) rfl lk_RX0_X0_digestOfMoneys rfl hl.1 ⟨Nat.le_of_ble_eq_true rfl, Nat.le_of_ble_eq_true rfl⟩ ⟨Nat.zero_le _, Nat.zero_le _⟩ (Nat.le_of_ble_eq_true rfl) rfl dX0_digest_33 (fun r_7 hr_8 => ?_)
    subst hr_8
    refine lv_lstore_n (lv' := [(1, .long (dgm b (dgl (fbo b) (lN 1367) 7) 5)), (0, .ref (ad 0)), (3, .int (nI (7)))]) CF.1 CF.2.1 dX0_digest_36 rfl hl (by decide) rfl (fun ls hl => ?_)
    refine lv_iconst (v := nI 0) CF.1 CF.2.1 dX0_digest_37 (by decide) ?_
    refine lv_istore_n (lv' := [(3, .int (nI (0))), (1, .long (dgm b (dgl (fbo b) (lN 1367) 7) 5)), (0, .ref (ad 0))]) CF.1 CF.2.1 dX0_digest_38 rfl hl (by decide) rfl (fun ls hl => ?_)
    refine loop_ro (fun i => [(0, .ref (ad 0)), (1, .long (dgl (b 6) (dgm b (dgl (fbo b) (lN 1367) 7) 5) (i * 5))), (3, .int (nI (i)))]) (b 0 2) (0) (lv_sub hl [2, 1, 0] rfl) (by omega) (fun i_9 h_12 h_11 ih_10 ls hl => ?_)
    refine lv_iload_n CF.1 CF.2.1 dX0_digest_39 rfl (lv_at hl 2 rfl) ?_
    refine lv_aload_n CF.1 CF.2.1 dX0_digest_40 rfl (lv_at hl 0 rfl) ?_
    refine x0_g_customers CF hK hP (v := (nI (b 0 2))) hR.2.2.1 dX0_digest_41 ?_
    refine z_icmp_ge CF (tgt := 83) (nIz (by omega)) (nIz (by omega)) dX0_digest_44 (by decide) (fun h_13 => ?_) (fun h_14 => ?_)
    · obtain rfl : i_9 = b 0 2 := by omega
      refine lv_iconst (v := nI 0) CF.1 CF.2.1 dX0_digest_83 (by decide) ?_
      refine lv_istore_n (lv' := [(3, .int (nI (0))), (0, .ref (ad 0)), (1, .long (dgl (b 6) (dgm b (dgl (fbo b) (lN 1367) 7) 5) ((b 0 2) * 5)))]) CF.1 CF.2.1 dX0_digest_84 rfl hl (by decide) rfl (fun ls hl => ?_)
      refine loop_ro (fun i => [(0, .ref (ad 0)), (1, .long (dgl (b 7) (dgl (b 6) (dgm b (dgl (fbo b) (lN 1367) 7) 5) (b 0 2 * 5)) (i * 5))), (3, .int (nI (i)))]) (b 0 3) (0) (lv_sub hl [1, 2, 0] rfl) (by omega) (fun i_15 h_18 h_17 ih_16 ls hl => ?_)
      refine lv_iload_n CF.1 CF.2.1 dX0_digest_85 rfl (lv_at hl 2 rfl) ?_
      refine lv_aload_n CF.1 CF.2.1 dX0_digest_86 rfl (lv_at hl 0 rfl) ?_
      refine x0_g_waiting CF hK hP (v := (nI (b 0 3))) hO.1 dX0_digest_87 ?_
      refine z_icmp_ge CF (tgt := 129) (nIz (by omega)) (nIz (by omega)) dX0_digest_90 (by decide) (fun h_19 => ?_) (fun h_20 => ?_)
      · obtain rfl : i_15 = b 0 3 := by omega
        refine lv_lload_n CF.1 CF.2.1 dX0_digest_129 rfl (lv_at hl 1 rfl) ?_
        exact W.lret CF.1 CF.2.1 hr (fun t9 ht9 hW9 => ⟨_, rfl, rfl, ht9⟩) (fun q hq => absurd hq List.not_mem_nil) dX0_digest_130
      · refine lv_iconst (v := nI 0) CF.1 CF.2.1 dX0_digest_93 (by decide) ?_
        refine lv_istore (lv' := [(4, .int (nI (0))), (0, .ref (ad 0)), (1, .long (dgl (b 7) (dgl (b 6) (dgm b (dgl (fbo b) (lN 1367) 7) 5) (b 0 2 * 5)) (i_15 * 5))), (3, .int (nI (i_15)))]) CF.1 CF.2.1 dX0_digest_94 hl (by decide) rfl (fun ls hl => ?_)
        refine loop_ro (fun i => [(0, .ref (ad 0)), (1, .long (dgl (b 7) (dgl (b 6) (dgm b (dgl (fbo b) (lN 1367) 7) 5) (b 0 2 * 5)) (i_15 * 5 + i))), (3, .int (nI (i_15))), (4, .int (nI (i)))]) (5) (0) (lv_sub hl [1, 2, 3, 0] rfl) (by omega) (fun i_21 h_24 h_23 ih_22 ls hl => ?_)
        refine lv_iload CF.1 CF.2.1 dX0_digest_96 (lv_at hl 3 rfl) ?_
        refine lv_iconst (v := nI 5) CF.1 CF.2.1 dX0_digest_98 (by decide) ?_
        refine z_icmp_ge CF (tgt := 123) (nIz (by omega)) (nIz (by omega)) dX0_digest_99 (by decide) (fun h_25 => ?_) (fun h_26 => ?_)
        · obtain rfl : i_21 = 5 := by omega
          refine lv_iinc (v := nI (i_15 + 1)) (lv' := [(3, .int (nI (i_15 + 1))), (0, .ref (ad 0)), (1, .long (dgl (b 7) (dgl (b 6) (dgm b (dgl (fbo b) (lN 1367) 7) 5) (b 0 2 * 5)) (i_15 * 5 + 5))), (4, .int (nI (5)))]) CF.1 CF.2.1 dX0_digest_123 hl (k := 2) rfl (by first | exact nI_add _ _ | rfl) (by decide) rfl (fun ls hl => ?_)
          refine lv_goto (tgt := 85) CF.1 CF.2.1 dX0_digest_126 (by decide) ?_
          exact ih_16 ls (by omega) (lv_sub hl [1, 2, 0] (by rw [show (i_15 + 1) * 5 = i_15 * 5 + 5 by omega]; rfl))
        · refine lv_lload_n CF.1 CF.2.1 dX0_digest_102 rfl (lv_at hl 1 rfl) ?_
          refine lv_ldc2 (v := lN 31) CF.1 CF.2.1 CF.2.2.2.1 (CF.2.2.2.2 _ (inr_20 _ (List.mem_of_getElem? (i := 19) rfl))) dX0_digest_103 ?_
          refine lv_lmul CF.1 CF.2.1 dX0_digest_106 ?_
          refine lv_aload_n CF.1 CF.2.1 dX0_digest_107 rfl (lv_at hl 0 rfl) ?_
          refine lv_iload_n CF.1 CF.2.1 dX0_digest_108 rfl (lv_at hl 2 rfl) ?_
          refine lv_iload CF.1 CF.2.1 dX0_digest_109 (lv_at hl 3 rfl) ?_
          refine c0_i CF hK hP (As := [.int (nI (i_15)), .int (nI (i_21))]) (rest := [.long ((dgl (b 7) (dgl (b 6) (dgm b (dgl (fbo b) (lN 1367) 7) 5) (b 0 2 * 5)) (i_15 * 5 + i_21)) * lN (31))]) (c0_orderPart l (σ := σ) (u := i_15) (t := i_21) (by omega) (by omega)) rfl lk_RX0_X0_orderPart rfl hl.1 ⟨Nat.le_of_ble_eq_true rfl, Nat.le_of_ble_eq_true rfl⟩ ⟨Nat.zero_le _, Nat.zero_le _⟩ (Nat.le_of_ble_eq_true rfl) rfl dX0_digest_111 (fun r_27 hr_28 => ?_)
          subst hr_28
          refine tpi (show σ 7 (i_15 * 5 + i_21) = nI (b 7 (i_15 * 5 + i_21)) from hO.2.2 (i_15 * 5 + i_21) (by omega)) ?_
          refine lv_i2l CF.1 CF.2.1 dX0_digest_114 rfl ?_
          refine lv_ladd CF.1 CF.2.1 dX0_digest_115 ?_
          refine lv_lstore_n (lv' := [(1, .long (((dgl (b 7) (dgl (b 6) (dgm b (dgl (fbo b) (lN 1367) 7) 5) (b 0 2 * 5)) (i_15 * 5 + i_21)) * lN (31)) + ((nI (b 7 (i_15 * 5 + i_21))).toInt64))), (0, .ref (ad 0)), (3, .int (nI (i_15))), (4, .int (nI (i_21)))]) CF.1 CF.2.1 dX0_digest_116 rfl hl (by decide) rfl (fun ls hl => ?_)
          refine lv_iinc (v := nI (i_21 + 1)) (lv' := [(4, .int (nI (i_21 + 1))), (1, .long (((dgl (b 7) (dgl (b 6) (dgm b (dgl (fbo b) (lN 1367) 7) 5) (b 0 2 * 5)) (i_15 * 5 + i_21)) * lN (31)) + ((nI (b 7 (i_15 * 5 + i_21))).toInt64))), (0, .ref (ad 0)), (3, .int (nI (i_15)))]) CF.1 CF.2.1 dX0_digest_117 hl (k := 3) rfl (by first | exact nI_add _ _ | rfl) (by decide) rfl (fun ls hl => ?_)
          refine lv_goto (tgt := 96) CF.1 CF.2.1 dX0_digest_120 (by decide) ?_
          exact ih_22 ls (by omega) (lv_sub hl [2, 1, 3, 0] rfl)
    · refine lv_iconst (v := nI 0) CF.1 CF.2.1 dX0_digest_47 (by decide) ?_
      refine lv_istore (lv' := [(4, .int (nI (0))), (0, .ref (ad 0)), (1, .long (dgl (b 6) (dgm b (dgl (fbo b) (lN 1367) 7) 5) (i_9 * 5))), (3, .int (nI (i_9)))]) CF.1 CF.2.1 dX0_digest_48 hl (by decide) rfl (fun ls hl => ?_)
      refine loop_ro (fun i => [(0, .ref (ad 0)), (1, .long (dgl (b 6) (dgm b (dgl (fbo b) (lN 1367) 7) 5) (i_9 * 5 + i))), (3, .int (nI (i_9))), (4, .int (nI (i)))]) (5) (0) (lv_sub hl [1, 2, 3, 0] rfl) (by omega) (fun i_29 h_32 h_31 ih_30 ls hl => ?_)
      refine lv_iload CF.1 CF.2.1 dX0_digest_50 (lv_at hl 3 rfl) ?_
      refine lv_iconst (v := nI 5) CF.1 CF.2.1 dX0_digest_52 (by decide) ?_
      refine z_icmp_ge CF (tgt := 77) (nIz (by omega)) (nIz (by omega)) dX0_digest_53 (by decide) (fun h_33 => ?_) (fun h_34 => ?_)
      · obtain rfl : i_29 = 5 := by omega
        refine lv_iinc (v := nI (i_9 + 1)) (lv' := [(3, .int (nI (i_9 + 1))), (0, .ref (ad 0)), (1, .long (dgl (b 6) (dgm b (dgl (fbo b) (lN 1367) 7) 5) (i_9 * 5 + 5))), (4, .int (nI (5)))]) CF.1 CF.2.1 dX0_digest_77 hl (k := 2) rfl (by first | exact nI_add _ _ | rfl) (by decide) rfl (fun ls hl => ?_)
        refine lv_goto (tgt := 39) CF.1 CF.2.1 dX0_digest_80 (by decide) ?_
        exact ih_10 ls (by omega) (lv_sub hl [1, 2, 0] (by rw [show (i_9 + 1) * 5 = i_9 * 5 + 5 by omega]; rfl))
      · refine lv_lload_n CF.1 CF.2.1 dX0_digest_56 rfl (lv_at hl 1 rfl) ?_
        refine lv_ldc2 (v := lN 31) CF.1 CF.2.1 CF.2.2.2.1 (CF.2.2.2.2 _ (inr_20 _ (List.mem_of_getElem? (i := 19) rfl))) dX0_digest_57 ?_
        refine lv_lmul CF.1 CF.2.1 dX0_digest_60 ?_
        refine lv_aload_n CF.1 CF.2.1 dX0_digest_61 rfl (lv_at hl 0 rfl) ?_
        refine lv_iload_n CF.1 CF.2.1 dX0_digest_62 rfl (lv_at hl 2 rfl) ?_
        refine lv_iload CF.1 CF.2.1 dX0_digest_63 (lv_at hl 3 rfl) ?_
        refine c0_i CF hK hP (As := [.int (nI (i_9)), .int (nI (i_29))]) (rest := [.long ((dgl (b 6) (dgm b (dgl (fbo b) (lN 1367) 7) 5) (i_9 * 5 + i_29)) * lN (31))]) (c0_inPurse l hI hR (u := i_9) (t := i_29) (by omega) (by omega)) rfl lk_RX0_X0_inPurse rfl hl.1 ⟨Nat.le_of_ble_eq_true rfl, Nat.le_of_ble_eq_true rfl⟩ ⟨Nat.zero_le _, Nat.zero_le _⟩ (Nat.le_of_ble_eq_true rfl) rfl dX0_digest_65 (fun r_35 hr_36 => ?_)
        subst hr_36
        refine lv_i2l CF.1 CF.2.1 dX0_digest_68 rfl ?_
        refine lv_ladd CF.1 CF.2.1 dX0_digest_69 ?_
        refine lv_lstore_n (lv' := [(1, .long (((dgl (b 6) (dgm b (dgl (fbo b) (lN 1367) 7) 5) (i_9 * 5 + i_29)) * lN (31)) + ((nI (b 6 (i_9 * 5 + i_29))).toInt64))), (0, .ref (ad 0)), (3, .int (nI (i_9))), (4, .int (nI (i_29)))]) CF.1 CF.2.1 dX0_digest_70 rfl hl (by decide) rfl (fun ls hl => ?_)
        refine lv_iinc (v := nI (i_29 + 1)) (lv' := [(4, .int (nI (i_29 + 1))), (1, .long (((dgl (b 6) (dgm b (dgl (fbo b) (lN 1367) 7) 5) (i_9 * 5 + i_29)) * lN (31)) + ((nI (b 6 (i_9 * 5 + i_29))).toInt64))), (0, .ref (ad 0)), (3, .int (nI (i_9)))]) CF.1 CF.2.1 dX0_digest_71 hl (k := 3) rfl (by first | exact nI_add _ _ | rfl) (by decide) rfl (fun ls hl => ?_)
        refine lv_goto (tgt := 50) CF.1 CF.2.1 dX0_digest_74 (by decide) ?_
        exact ih_30 ls (by omega) (lv_sub hl [2, 1, 3, 0] rfl)
  · refine lv_lload_n CF.1 CF.2.1 dX0_digest_12 rfl (lv_at hl 1 rfl) ?_
    refine lv_ldc2 (v := lN 31) CF.1 CF.2.1 CF.2.2.2.1 (CF.2.2.2.2 _ (inr_20 _ (List.mem_of_getElem? (i := 19) rfl))) dX0_digest_13 ?_
    refine lv_lmul CF.1 CF.2.1 dX0_digest_16 ?_
    refine lv_aload_n CF.1 CF.2.1 dX0_digest_17 rfl (lv_at hl 0 rfl) ?_
    refine lv_iload_n CF.1 CF.2.1 dX0_digest_18 rfl (lv_at hl 2 rfl) ?_
    refine c0_i CF hK hP (As := [.int (nI (i_1))]) (rest := [.long ((dgl (fbo b) (lN 1367) i_1) * lN (31))]) (c0_factOfBooth l hI hR hO (w := i_1) (by omega)) rfl lk_RX0_X0_factOfBooth rfl hl.1 ⟨Nat.le_of_ble_eq_true rfl, Nat.le_of_ble_eq_true rfl⟩ ⟨Nat.zero_le _, Nat.zero_le _⟩ (Nat.le_of_ble_eq_true rfl) rfl dX0_digest_19 (fun r_37 hr_38 => ?_)
    subst hr_38
    refine lv_i2l CF.1 CF.2.1 dX0_digest_22 rfl ?_
    refine lv_ladd CF.1 CF.2.1 dX0_digest_23 ?_
    refine lv_lstore_n (lv' := [(1, .long (((dgl (fbo b) (lN 1367) i_1) * lN (31)) + ((nI (fbo b (i_1))).toInt64))), (0, .ref (ad 0)), (3, .int (nI (i_1)))]) CF.1 CF.2.1 dX0_digest_24 rfl hl (by decide) rfl (fun ls hl => ?_)
    refine lv_iinc (v := nI (i_1 + 1)) (lv' := [(3, .int (nI (i_1 + 1))), (1, .long (((dgl (fbo b) (lN 1367) i_1) * lN (31)) + ((nI (fbo b (i_1))).toInt64))), (0, .ref (ad 0))]) CF.1 CF.2.1 dX0_digest_25 hl (k := 2) rfl (by first | exact nI_add _ _ | rfl) (by decide) rfl (fun ls hl => ?_)
    refine lv_goto (tgt := 6) CF.1 CF.2.1 dX0_digest_28 (by decide) ?_
    exact ih_2 ls (by omega) (lv_sub hl [2, 1, 0] rfl)
